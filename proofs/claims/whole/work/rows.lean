section
def lw_okq (q : MethodName × Nat) : Prop := (q.1.cls ≠ "java/lang/invoke/MethodHandle" ∧ q.1.cls ≠ "java/lang/invoke/VarHandle") ∧ Cond.instantiable q.1.cls q.2 ∈ tables_1 ∧ Cond.privateMethod q.1 ∈ tables_1 ∧ Cond.instanceMethod q.1 ∈ tables_1
theorem lw_p0 : lw_okq (⟨"AlarmsOfFondness$Reader", "split", "()V"⟩, 8) := ⟨⟨by decide +kernel, by decide +kernel⟩, List.mem_of_getElem? (i := 26) (by decide +kernel), List.mem_of_getElem? (i := 159) (by decide +kernel), List.mem_of_getElem? (i := 160) (by decide +kernel)⟩
theorem lw_p1 : lw_okq (⟨"AlarmsOfFondness$Reader", "splitOff", "(I)I"⟩, 8) := ⟨⟨by decide +kernel, by decide +kernel⟩, List.mem_of_getElem? (i := 26) (by decide +kernel), List.mem_of_getElem? (i := 163) (by decide +kernel), List.mem_of_getElem? (i := 164) (by decide +kernel)⟩
theorem lw_p2 : lw_okq (⟨"AlarmsOfFondness$Reader", "wordAt", "(II)I"⟩, 8) := ⟨⟨by decide +kernel, by decide +kernel⟩, List.mem_of_getElem? (i := 26) (by decide +kernel), List.mem_of_getElem? (i := 170) (by decide +kernel), List.mem_of_getElem? (i := 171) (by decide +kernel)⟩
theorem lw_p3 : lw_okq (⟨"AlarmsOfFondness$Reader", "spells", "(III)Z"⟩, 8) := ⟨⟨by decide +kernel, by decide +kernel⟩, List.mem_of_getElem? (i := 26) (by decide +kernel), List.mem_of_getElem? (i := 174) (by decide +kernel), List.mem_of_getElem? (i := 175) (by decide +kernel)⟩
theorem lw_p4 : lw_okq (⟨"AlarmsOfFondness$Reader", "addToken", "(III)V"⟩, 8) := ⟨⟨by decide +kernel, by decide +kernel⟩, List.mem_of_getElem? (i := 26) (by decide +kernel), List.mem_of_getElem? (i := 179) (by decide +kernel), List.mem_of_getElem? (i := 180) (by decide +kernel)⟩
theorem lw_p5 : lw_okq (⟨"AlarmsOfFondness$Reader", "addNumber", "(II)V"⟩, 8) := ⟨⟨by decide +kernel, by decide +kernel⟩, List.mem_of_getElem? (i := 26) (by decide +kernel), List.mem_of_getElem? (i := 186) (by decide +kernel), List.mem_of_getElem? (i := 187) (by decide +kernel)⟩
theorem lw_p6 : lw_okq (⟨"AlarmsOfFondness$Reader", "readPart", "(I)Z"⟩, 8) := ⟨⟨by decide +kernel, by decide +kernel⟩, List.mem_of_getElem? (i := 26) (by decide +kernel), List.mem_of_getElem? (i := 197) (by decide +kernel), List.mem_of_getElem? (i := 198) (by decide +kernel)⟩
theorem lw_p7 : lw_okq (⟨"AlarmsOfFondness$Reader", "pass", "(I)Z"⟩, 8) := ⟨⟨by decide +kernel, by decide +kernel⟩, List.mem_of_getElem? (i := 26) (by decide +kernel), List.mem_of_getElem? (i := 201) (by decide +kernel), List.mem_of_getElem? (i := 202) (by decide +kernel)⟩
theorem lw_p8 : lw_okq (⟨"AlarmsOfFondness$Reader", "now", "()I"⟩, 8) := ⟨⟨by decide +kernel, by decide +kernel⟩, List.mem_of_getElem? (i := 26) (by decide +kernel), List.mem_of_getElem? (i := 205) (by decide +kernel), List.mem_of_getElem? (i := 206) (by decide +kernel)⟩
theorem lw_p9 : lw_okq (⟨"AlarmsOfFondness$Reader", "readE", "(I)Z"⟩, 8) := ⟨⟨by decide +kernel, by decide +kernel⟩, List.mem_of_getElem? (i := 26) (by decide +kernel), List.mem_of_getElem? (i := 209) (by decide +kernel), List.mem_of_getElem? (i := 210) (by decide +kernel)⟩
theorem lw_p10 : lw_okq (⟨"AlarmsOfFondness$Reader", "readAnd", "(I)Z"⟩, 8) := ⟨⟨by decide +kernel, by decide +kernel⟩, List.mem_of_getElem? (i := 26) (by decide +kernel), List.mem_of_getElem? (i := 213) (by decide +kernel), List.mem_of_getElem? (i := 214) (by decide +kernel)⟩
theorem lw_p11 : lw_okq (⟨"AlarmsOfFondness$Reader", "readNot", "(I)Z"⟩, 8) := ⟨⟨by decide +kernel, by decide +kernel⟩, List.mem_of_getElem? (i := 26) (by decide +kernel), List.mem_of_getElem? (i := 217) (by decide +kernel), List.mem_of_getElem? (i := 218) (by decide +kernel)⟩
theorem lw_p12 : lw_okq (⟨"AlarmsOfFondness$Reader", "readSum", "(I)Z"⟩, 8) := ⟨⟨by decide +kernel, by decide +kernel⟩, List.mem_of_getElem? (i := 26) (by decide +kernel), List.mem_of_getElem? (i := 229) (by decide +kernel), List.mem_of_getElem? (i := 230) (by decide +kernel)⟩
theorem lw_p13 : lw_okq (⟨"AlarmsOfFondness$Reader", "readTerm", "(I)Z"⟩, 8) := ⟨⟨by decide +kernel, by decide +kernel⟩, List.mem_of_getElem? (i := 26) (by decide +kernel), List.mem_of_getElem? (i := 233) (by decide +kernel), List.mem_of_getElem? (i := 234) (by decide +kernel)⟩
theorem lw_p14 : lw_okq (⟨"AlarmsOfFondness$Reader", "readOne", "(I)Z"⟩, 8) := ⟨⟨by decide +kernel, by decide +kernel⟩, List.mem_of_getElem? (i := 26) (by decide +kernel), List.mem_of_getElem? (i := 237) (by decide +kernel), List.mem_of_getElem? (i := 238) (by decide +kernel)⟩
theorem lw_p15 : lw_okq (⟨"AlarmsOfFondness$Reader", "faultPlace", "()I"⟩, 8) := ⟨⟨by decide +kernel, by decide +kernel⟩, List.mem_of_getElem? (i := 26) (by decide +kernel), List.mem_of_getElem? (i := 246) (by decide +kernel), List.mem_of_getElem? (i := 247) (by decide +kernel)⟩
def lw_privs_1 : List (MethodName × Nat) := [(⟨"AlarmsOfFondness$Reader", "split", "()V"⟩, 8), (⟨"AlarmsOfFondness$Reader", "splitOff", "(I)I"⟩, 8), (⟨"AlarmsOfFondness$Reader", "wordAt", "(II)I"⟩, 8), (⟨"AlarmsOfFondness$Reader", "spells", "(III)Z"⟩, 8), (⟨"AlarmsOfFondness$Reader", "addToken", "(III)V"⟩, 8), (⟨"AlarmsOfFondness$Reader", "addNumber", "(II)V"⟩, 8), (⟨"AlarmsOfFondness$Reader", "readPart", "(I)Z"⟩, 8), (⟨"AlarmsOfFondness$Reader", "pass", "(I)Z"⟩, 8), (⟨"AlarmsOfFondness$Reader", "now", "()I"⟩, 8), (⟨"AlarmsOfFondness$Reader", "readE", "(I)Z"⟩, 8), (⟨"AlarmsOfFondness$Reader", "readAnd", "(I)Z"⟩, 8), (⟨"AlarmsOfFondness$Reader", "readNot", "(I)Z"⟩, 8), (⟨"AlarmsOfFondness$Reader", "readSum", "(I)Z"⟩, 8), (⟨"AlarmsOfFondness$Reader", "readTerm", "(I)Z"⟩, 8), (⟨"AlarmsOfFondness$Reader", "readOne", "(I)Z"⟩, 8), (⟨"AlarmsOfFondness$Reader", "faultPlace", "()I"⟩, 8)]
theorem lw_r1 : ∀ q ∈ lw_privs_1, lw_okq q := List.forall_mem_cons.mpr ⟨lw_p0, List.forall_mem_cons.mpr ⟨lw_p1, List.forall_mem_cons.mpr ⟨lw_p2, List.forall_mem_cons.mpr ⟨lw_p3, List.forall_mem_cons.mpr ⟨lw_p4, List.forall_mem_cons.mpr ⟨lw_p5, List.forall_mem_cons.mpr ⟨lw_p6, List.forall_mem_cons.mpr ⟨lw_p7, List.forall_mem_cons.mpr ⟨lw_p8, List.forall_mem_cons.mpr ⟨lw_p9, List.forall_mem_cons.mpr ⟨lw_p10, List.forall_mem_cons.mpr ⟨lw_p11, List.forall_mem_cons.mpr ⟨lw_p12, List.forall_mem_cons.mpr ⟨lw_p13, List.forall_mem_cons.mpr ⟨lw_p14, List.forall_mem_cons.mpr ⟨lw_p15, fun _ h => absurd h List.not_mem_nil⟩⟩⟩⟩⟩⟩⟩⟩⟩⟩⟩⟩⟩⟩⟩⟩
theorem lw_p16 : lw_okq (⟨"AlarmsOfFondness$People", "rowOf", "(I)[I"⟩, 10) := ⟨⟨by decide +kernel, by decide +kernel⟩, List.mem_of_getElem? (i := 280) (by decide +kernel), List.mem_of_getElem? (i := 400) (by decide +kernel), List.mem_of_getElem? (i := 401) (by decide +kernel)⟩
theorem lw_p17 : lw_okq (⟨"AlarmsOfFondness$Rules", "tell", "(ILAlarmsOfFondness$People;II)I"⟩, 4) := ⟨⟨by decide +kernel, by decide +kernel⟩, List.mem_of_getElem? (i := 58) (by decide +kernel), List.mem_of_getElem? (i := 438) (by decide +kernel), List.mem_of_getElem? (i := 439) (by decide +kernel)⟩
theorem lw_p18 : lw_okq (⟨"AlarmsOfFondness$Text", "end", "(I)I"⟩, 3) := ⟨⟨by decide +kernel, by decide +kernel⟩, List.mem_of_getElem? (i := 65) (by decide +kernel), List.mem_of_getElem? (i := 454) (by decide +kernel), List.mem_of_getElem? (i := 455) (by decide +kernel)⟩
theorem lw_p19 : lw_okq (⟨"AlarmsOfFondness$Text", "begin", "(I)I"⟩, 3) := ⟨⟨by decide +kernel, by decide +kernel⟩, List.mem_of_getElem? (i := 65) (by decide +kernel), List.mem_of_getElem? (i := 458) (by decide +kernel), List.mem_of_getElem? (i := 459) (by decide +kernel)⟩
theorem lw_p20 : lw_okq (⟨"AlarmsOfFondness", "passDays", "(I)V"⟩, 9) := ⟨⟨by decide +kernel, by decide +kernel⟩, List.mem_of_getElem? (i := 18) (by decide +kernel), List.mem_of_getElem? (i := 589) (by decide +kernel), List.mem_of_getElem? (i := 590) (by decide +kernel)⟩
theorem lw_p21 : lw_okq (⟨"AlarmsOfFondness$Ways", "goOn", "(IIII)V"⟩, 4) := ⟨⟨by decide +kernel, by decide +kernel⟩, List.mem_of_getElem? (i := 317) (by decide +kernel), List.mem_of_getElem? (i := 622) (by decide +kernel), List.mem_of_getElem? (i := 623) (by decide +kernel)⟩
theorem lw_p22 : lw_okq (⟨"AlarmsOfFondness", "lateBehind", "(IIII)I"⟩, 9) := ⟨⟨by decide +kernel, by decide +kernel⟩, List.mem_of_getElem? (i := 18) (by decide +kernel), List.mem_of_getElem? (i := 639) (by decide +kernel), List.mem_of_getElem? (i := 640) (by decide +kernel)⟩
theorem lw_p23 : lw_okq (⟨"AlarmsOfFondness", "firstOtherwise", "(LAlarmsOfFondness$Sheet;IIII)I"⟩, 9) := ⟨⟨by decide +kernel, by decide +kernel⟩, List.mem_of_getElem? (i := 18) (by decide +kernel), List.mem_of_getElem? (i := 670) (by decide +kernel), List.mem_of_getElem? (i := 671) (by decide +kernel)⟩
theorem lw_p24 : lw_okq (⟨"AlarmsOfFondness", "bitsThatFit", "(LAlarmsOfFondness$Sheet;IIII)I"⟩, 9) := ⟨⟨by decide +kernel, by decide +kernel⟩, List.mem_of_getElem? (i := 18) (by decide +kernel), List.mem_of_getElem? (i := 682) (by decide +kernel), List.mem_of_getElem? (i := 683) (by decide +kernel)⟩
theorem lw_p25 : lw_okq (⟨"AlarmsOfFondness", "tiredThatFits", "(LAlarmsOfFondness$Sheet;IIZ)I"⟩, 9) := ⟨⟨by decide +kernel, by decide +kernel⟩, List.mem_of_getElem? (i := 18) (by decide +kernel), List.mem_of_getElem? (i := 686) (by decide +kernel), List.mem_of_getElem? (i := 687) (by decide +kernel)⟩
theorem lw_p26 : lw_okq (⟨"AlarmsOfFondness", "peopleThatFit", "(LAlarmsOfFondness$Sheet;)I"⟩, 9) := ⟨⟨by decide +kernel, by decide +kernel⟩, List.mem_of_getElem? (i := 18) (by decide +kernel), List.mem_of_getElem? (i := 698) (by decide +kernel), List.mem_of_getElem? (i := 699) (by decide +kernel)⟩
theorem lw_p27 : lw_okq (⟨"AlarmsOfFondness", "missedWhenDrawn", "(II)I"⟩, 9) := ⟨⟨by decide +kernel, by decide +kernel⟩, List.mem_of_getElem? (i := 18) (by decide +kernel), List.mem_of_getElem? (i := 719) (by decide +kernel), List.mem_of_getElem? (i := 720) (by decide +kernel)⟩
theorem lw_p28 : lw_okq (⟨"AlarmsOfFondnessModel", "firstText", "()I"⟩, 31) := ⟨⟨by decide +kernel, by decide +kernel⟩, List.mem_of_getElem? (i := 792) (by decide +kernel), List.mem_of_getElem? (i := 798) (by decide +kernel), List.mem_of_getElem? (i := 799) (by decide +kernel)⟩
theorem lw_p29 : lw_okq (⟨"AlarmsOfFondnessModel", "place", "(II)I"⟩, 31) := ⟨⟨by decide +kernel, by decide +kernel⟩, List.mem_of_getElem? (i := 792) (by decide +kernel), List.mem_of_getElem? (i := 905) (by decide +kernel), List.mem_of_getElem? (i := 906) (by decide +kernel)⟩
theorem lw_p30 : lw_okq (⟨"AlarmsOfFondnessModel", "isTwo", "(II)Z"⟩, 31) := ⟨⟨by decide +kernel, by decide +kernel⟩, List.mem_of_getElem? (i := 792) (by decide +kernel), List.mem_of_getElem? (i := 909) (by decide +kernel), List.mem_of_getElem? (i := 910) (by decide +kernel)⟩
theorem lw_p31 : lw_okq (⟨"AlarmsOfFondnessModel", "isOne", "(I)Z"⟩, 31) := ⟨⟨by decide +kernel, by decide +kernel⟩, List.mem_of_getElem? (i := 792) (by decide +kernel), List.mem_of_getElem? (i := 913) (by decide +kernel), List.mem_of_getElem? (i := 914) (by decide +kernel)⟩
def lw_privs_2 : List (MethodName × Nat) := [(⟨"AlarmsOfFondness$People", "rowOf", "(I)[I"⟩, 10), (⟨"AlarmsOfFondness$Rules", "tell", "(ILAlarmsOfFondness$People;II)I"⟩, 4), (⟨"AlarmsOfFondness$Text", "end", "(I)I"⟩, 3), (⟨"AlarmsOfFondness$Text", "begin", "(I)I"⟩, 3), (⟨"AlarmsOfFondness", "passDays", "(I)V"⟩, 9), (⟨"AlarmsOfFondness$Ways", "goOn", "(IIII)V"⟩, 4), (⟨"AlarmsOfFondness", "lateBehind", "(IIII)I"⟩, 9), (⟨"AlarmsOfFondness", "firstOtherwise", "(LAlarmsOfFondness$Sheet;IIII)I"⟩, 9), (⟨"AlarmsOfFondness", "bitsThatFit", "(LAlarmsOfFondness$Sheet;IIII)I"⟩, 9), (⟨"AlarmsOfFondness", "tiredThatFits", "(LAlarmsOfFondness$Sheet;IIZ)I"⟩, 9), (⟨"AlarmsOfFondness", "peopleThatFit", "(LAlarmsOfFondness$Sheet;)I"⟩, 9), (⟨"AlarmsOfFondness", "missedWhenDrawn", "(II)I"⟩, 9), (⟨"AlarmsOfFondnessModel", "firstText", "()I"⟩, 31), (⟨"AlarmsOfFondnessModel", "place", "(II)I"⟩, 31), (⟨"AlarmsOfFondnessModel", "isTwo", "(II)Z"⟩, 31), (⟨"AlarmsOfFondnessModel", "isOne", "(I)Z"⟩, 31)]
theorem lw_r2 : ∀ q ∈ lw_privs_2, lw_okq q := List.forall_mem_cons.mpr ⟨lw_p16, List.forall_mem_cons.mpr ⟨lw_p17, List.forall_mem_cons.mpr ⟨lw_p18, List.forall_mem_cons.mpr ⟨lw_p19, List.forall_mem_cons.mpr ⟨lw_p20, List.forall_mem_cons.mpr ⟨lw_p21, List.forall_mem_cons.mpr ⟨lw_p22, List.forall_mem_cons.mpr ⟨lw_p23, List.forall_mem_cons.mpr ⟨lw_p24, List.forall_mem_cons.mpr ⟨lw_p25, List.forall_mem_cons.mpr ⟨lw_p26, List.forall_mem_cons.mpr ⟨lw_p27, List.forall_mem_cons.mpr ⟨lw_p28, List.forall_mem_cons.mpr ⟨lw_p29, List.forall_mem_cons.mpr ⟨lw_p30, List.forall_mem_cons.mpr ⟨lw_p31, fun _ h => absurd h List.not_mem_nil⟩⟩⟩⟩⟩⟩⟩⟩⟩⟩⟩⟩⟩⟩⟩⟩
theorem lw_p32 : lw_okq (⟨"AlarmsOfFondnessModel", "many", "()I"⟩, 31) := ⟨⟨by decide +kernel, by decide +kernel⟩, List.mem_of_getElem? (i := 792) (by decide +kernel), List.mem_of_getElem? (i := 921) (by decide +kernel), List.mem_of_getElem? (i := 922) (by decide +kernel)⟩
theorem lw_p33 : lw_okq (⟨"AlarmsOfFondnessModel", "change", "(III)V"⟩, 31) := ⟨⟨by decide +kernel, by decide +kernel⟩, List.mem_of_getElem? (i := 792) (by decide +kernel), List.mem_of_getElem? (i := 925) (by decide +kernel), List.mem_of_getElem? (i := 926) (by decide +kernel)⟩
theorem lw_p34 : lw_okq (⟨"AlarmsOfFondnessModel", "of", "(II)I"⟩, 31) := ⟨⟨by decide +kernel, by decide +kernel⟩, List.mem_of_getElem? (i := 792) (by decide +kernel), List.mem_of_getElem? (i := 933) (by decide +kernel), List.mem_of_getElem? (i := 934) (by decide +kernel)⟩
theorem lw_p35 : lw_okq (⟨"AlarmsOfFondnessModel", "setter", "(I)I"⟩, 31) := ⟨⟨by decide +kernel, by decide +kernel⟩, List.mem_of_getElem? (i := 792) (by decide +kernel), List.mem_of_getElem? (i := 937) (by decide +kernel), List.mem_of_getElem? (i := 938) (by decide +kernel)⟩
theorem lw_p36 : lw_okq (⟨"AlarmsOfFondnessModel", "wakes", "(I)I"⟩, 31) := ⟨⟨by decide +kernel, by decide +kernel⟩, List.mem_of_getElem? (i := 792) (by decide +kernel), List.mem_of_getElem? (i := 941) (by decide +kernel), List.mem_of_getElem? (i := 942) (by decide +kernel)⟩
theorem lw_p37 : lw_okq (⟨"AlarmsOfFondnessModel", "sets", "(II)I"⟩, 31) := ⟨⟨by decide +kernel, by decide +kernel⟩, List.mem_of_getElem? (i := 792) (by decide +kernel), List.mem_of_getElem? (i := 945) (by decide +kernel), List.mem_of_getElem? (i := 946) (by decide +kernel)⟩
theorem lw_p38 : lw_okq (⟨"AlarmsOfFondnessModel", "tell", "(III)I"⟩, 31) := ⟨⟨by decide +kernel, by decide +kernel⟩, List.mem_of_getElem? (i := 792) (by decide +kernel), List.mem_of_getElem? (i := 949) (by decide +kernel), List.mem_of_getElem? (i := 950) (by decide +kernel)⟩
theorem lw_p39 : lw_okq (⟨"AlarmsOfFondnessModel", "lateBy", "(I)I"⟩, 31) := ⟨⟨by decide +kernel, by decide +kernel⟩, List.mem_of_getElem? (i := 792) (by decide +kernel), List.mem_of_getElem? (i := 964) (by decide +kernel), List.mem_of_getElem? (i := 965) (by decide +kernel)⟩
theorem lw_p40 : lw_okq (⟨"AlarmsOfFondnessModel", "grows", "(IIZ)I"⟩, 31) := ⟨⟨by decide +kernel, by decide +kernel⟩, List.mem_of_getElem? (i := 792) (by decide +kernel), List.mem_of_getElem? (i := 972) (by decide +kernel), List.mem_of_getElem? (i := 973) (by decide +kernel)⟩
theorem lw_p41 : lw_okq (⟨"AlarmsOfFondnessModel", "tires", "(II)I"⟩, 31) := ⟨⟨by decide +kernel, by decide +kernel⟩, List.mem_of_getElem? (i := 792) (by decide +kernel), List.mem_of_getElem? (i := 980) (by decide +kernel), List.mem_of_getElem? (i := 981) (by decide +kernel)⟩
theorem lw_p42 : lw_okq (⟨"AlarmsOfFondnessModel", "isText", "()Z"⟩, 31) := ⟨⟨by decide +kernel, by decide +kernel⟩, List.mem_of_getElem? (i := 792) (by decide +kernel), List.mem_of_getElem? (i := 992) (by decide +kernel), List.mem_of_getElem? (i := 993) (by decide +kernel)⟩
theorem lw_p43 : lw_okq (⟨"AlarmsOfFondnessModel", "next", "()V"⟩, 31) := ⟨⟨by decide +kernel, by decide +kernel⟩, List.mem_of_getElem? (i := 792) (by decide +kernel), List.mem_of_getElem? (i := 996) (by decide +kernel), List.mem_of_getElem? (i := 997) (by decide +kernel)⟩
theorem lw_p44 : lw_okq (⟨"AlarmsOfFondnessModel", "sortAt", "(I)I"⟩, 31) := ⟨⟨by decide +kernel, by decide +kernel⟩, List.mem_of_getElem? (i := 792) (by decide +kernel), List.mem_of_getElem? (i := 1000) (by decide +kernel), List.mem_of_getElem? (i := 1001) (by decide +kernel)⟩
theorem lw_p45 : lw_okq (⟨"AlarmsOfFondnessModel", "word", "()I"⟩, 31) := ⟨⟨by decide +kernel, by decide +kernel⟩, List.mem_of_getElem? (i := 792) (by decide +kernel), List.mem_of_getElem? (i := 1004) (by decide +kernel), List.mem_of_getElem? (i := 1005) (by decide +kernel)⟩
theorem lw_p46 : lw_okq (⟨"AlarmsOfFondnessModel", "isE", "()Z"⟩, 31) := ⟨⟨by decide +kernel, by decide +kernel⟩, List.mem_of_getElem? (i := 792) (by decide +kernel), List.mem_of_getElem? (i := 1008) (by decide +kernel), List.mem_of_getElem? (i := 1009) (by decide +kernel)⟩
theorem lw_p47 : lw_okq (⟨"AlarmsOfFondnessModel", "begin", "()I"⟩, 31) := ⟨⟨by decide +kernel, by decide +kernel⟩, List.mem_of_getElem? (i := 792) (by decide +kernel), List.mem_of_getElem? (i := 1012) (by decide +kernel), List.mem_of_getElem? (i := 1013) (by decide +kernel)⟩
def lw_privs_3 : List (MethodName × Nat) := [(⟨"AlarmsOfFondnessModel", "many", "()I"⟩, 31), (⟨"AlarmsOfFondnessModel", "change", "(III)V"⟩, 31), (⟨"AlarmsOfFondnessModel", "of", "(II)I"⟩, 31), (⟨"AlarmsOfFondnessModel", "setter", "(I)I"⟩, 31), (⟨"AlarmsOfFondnessModel", "wakes", "(I)I"⟩, 31), (⟨"AlarmsOfFondnessModel", "sets", "(II)I"⟩, 31), (⟨"AlarmsOfFondnessModel", "tell", "(III)I"⟩, 31), (⟨"AlarmsOfFondnessModel", "lateBy", "(I)I"⟩, 31), (⟨"AlarmsOfFondnessModel", "grows", "(IIZ)I"⟩, 31), (⟨"AlarmsOfFondnessModel", "tires", "(II)I"⟩, 31), (⟨"AlarmsOfFondnessModel", "isText", "()Z"⟩, 31), (⟨"AlarmsOfFondnessModel", "next", "()V"⟩, 31), (⟨"AlarmsOfFondnessModel", "sortAt", "(I)I"⟩, 31), (⟨"AlarmsOfFondnessModel", "word", "()I"⟩, 31), (⟨"AlarmsOfFondnessModel", "isE", "()Z"⟩, 31), (⟨"AlarmsOfFondnessModel", "begin", "()I"⟩, 31)]
theorem lw_r3 : ∀ q ∈ lw_privs_3, lw_okq q := List.forall_mem_cons.mpr ⟨lw_p32, List.forall_mem_cons.mpr ⟨lw_p33, List.forall_mem_cons.mpr ⟨lw_p34, List.forall_mem_cons.mpr ⟨lw_p35, List.forall_mem_cons.mpr ⟨lw_p36, List.forall_mem_cons.mpr ⟨lw_p37, List.forall_mem_cons.mpr ⟨lw_p38, List.forall_mem_cons.mpr ⟨lw_p39, List.forall_mem_cons.mpr ⟨lw_p40, List.forall_mem_cons.mpr ⟨lw_p41, List.forall_mem_cons.mpr ⟨lw_p42, List.forall_mem_cons.mpr ⟨lw_p43, List.forall_mem_cons.mpr ⟨lw_p44, List.forall_mem_cons.mpr ⟨lw_p45, List.forall_mem_cons.mpr ⟨lw_p46, List.forall_mem_cons.mpr ⟨lw_p47, fun _ h => absurd h List.not_mem_nil⟩⟩⟩⟩⟩⟩⟩⟩⟩⟩⟩⟩⟩⟩⟩⟩
theorem lw_p48 : lw_okq (⟨"AlarmsOfFondnessModel", "write", "(I)V"⟩, 31) := ⟨⟨by decide +kernel, by decide +kernel⟩, List.mem_of_getElem? (i := 792) (by decide +kernel), List.mem_of_getElem? (i := 1016) (by decide +kernel), List.mem_of_getElem? (i := 1017) (by decide +kernel)⟩
theorem lw_p49 : lw_okq (⟨"AlarmsOfFondnessModel", "numberThere", "()I"⟩, 31) := ⟨⟨by decide +kernel, by decide +kernel⟩, List.mem_of_getElem? (i := 792) (by decide +kernel), List.mem_of_getElem? (i := 1020) (by decide +kernel), List.mem_of_getElem? (i := 1021) (by decide +kernel)⟩
theorem lw_p50 : lw_okq (⟨"AlarmsOfFondnessModel", "isSign", "(I)Z"⟩, 31) := ⟨⟨by decide +kernel, by decide +kernel⟩, List.mem_of_getElem? (i := 792) (by decide +kernel), List.mem_of_getElem? (i := 1024) (by decide +kernel), List.mem_of_getElem? (i := 1025) (by decide +kernel)⟩
theorem lw_p51 : lw_okq (⟨"AlarmsOfFondnessModel", "last", "()I"⟩, 31) := ⟨⟨by decide +kernel, by decide +kernel⟩, List.mem_of_getElem? (i := 792) (by decide +kernel), List.mem_of_getElem? (i := 1028) (by decide +kernel), List.mem_of_getElem? (i := 1029) (by decide +kernel)⟩
theorem lw_p52 : lw_okq (⟨"AlarmsOfFondnessModel", "await", "(I)V"⟩, 31) := ⟨⟨by decide +kernel, by decide +kernel⟩, List.mem_of_getElem? (i := 792) (by decide +kernel), List.mem_of_getElem? (i := 1035) (by decide +kernel), List.mem_of_getElem? (i := 1036) (by decide +kernel)⟩
theorem lw_p53 : lw_okq (⟨"AlarmsOfFondnessModel", "settle", "(I)V"⟩, 31) := ⟨⟨by decide +kernel, by decide +kernel⟩, List.mem_of_getElem? (i := 792) (by decide +kernel), List.mem_of_getElem? (i := 1039) (by decide +kernel), List.mem_of_getElem? (i := 1040) (by decide +kernel)⟩
theorem lw_p54 : lw_okq (⟨"AlarmsOfFondnessModel", "between", "()I"⟩, 31) := ⟨⟨by decide +kernel, by decide +kernel⟩, List.mem_of_getElem? (i := 792) (by decide +kernel), List.mem_of_getElem? (i := 1043) (by decide +kernel), List.mem_of_getElem? (i := 1044) (by decide +kernel)⟩
theorem lw_p55 : lw_okq (⟨"AlarmsOfFondnessModel", "goDay", "()I"⟩, 31) := ⟨⟨by decide +kernel, by decide +kernel⟩, List.mem_of_getElem? (i := 792) (by decide +kernel), List.mem_of_getElem? (i := 1055) (by decide +kernel), List.mem_of_getElem? (i := 1056) (by decide +kernel)⟩
theorem lw_p56 : lw_okq (⟨"AlarmsOfFondnessModel", "keep", "([I)V"⟩, 31) := ⟨⟨by decide +kernel, by decide +kernel⟩, List.mem_of_getElem? (i := 792) (by decide +kernel), List.mem_of_getElem? (i := 1063) (by decide +kernel), List.mem_of_getElem? (i := 1064) (by decide +kernel)⟩
theorem lw_p57 : lw_okq (⟨"AlarmsOfFondnessModel", "goDays", "(I)V"⟩, 31) := ⟨⟨by decide +kernel, by decide +kernel⟩, List.mem_of_getElem? (i := 792) (by decide +kernel), List.mem_of_getElem? (i := 1067) (by decide +kernel), List.mem_of_getElem? (i := 1068) (by decide +kernel)⟩
theorem lw_p58 : lw_okq (⟨"AlarmsOfFondnessModel", "lates", "()I"⟩, 31) := ⟨⟨by decide +kernel, by decide +kernel⟩, List.mem_of_getElem? (i := 792) (by decide +kernel), List.mem_of_getElem? (i := 1071) (by decide +kernel), List.mem_of_getElem? (i := 1072) (by decide +kernel)⟩
theorem lw_p59 : lw_okq (⟨"AlarmsOfFondnessModel", "all", "(I)I"⟩, 31) := ⟨⟨by decide +kernel, by decide +kernel⟩, List.mem_of_getElem? (i := 792) (by decide +kernel), List.mem_of_getElem? (i := 1075) (by decide +kernel), List.mem_of_getElem? (i := 1076) (by decide +kernel)⟩
theorem lw_p60 : lw_okq (⟨"AlarmsOfFondnessModel", "lay", "([I)V"⟩, 31) := ⟨⟨by decide +kernel, by decide +kernel⟩, List.mem_of_getElem? (i := 792) (by decide +kernel), List.mem_of_getElem? (i := 1079) (by decide +kernel), List.mem_of_getElem? (i := 1080) (by decide +kernel)⟩
theorem lw_p61 : lw_okq (⟨"AlarmsOfFondnessModel", "arrange", "(IIII)V"⟩, 31) := ⟨⟨by decide +kernel, by decide +kernel⟩, List.mem_of_getElem? (i := 792) (by decide +kernel), List.mem_of_getElem? (i := 1091) (by decide +kernel), List.mem_of_getElem? (i := 1092) (by decide +kernel)⟩
theorem lw_p62 : lw_okq (⟨"AlarmsOfFondnessModel", "lateBehind", "(I)I"⟩, 31) := ⟨⟨by decide +kernel, by decide +kernel⟩, List.mem_of_getElem? (i := 792) (by decide +kernel), List.mem_of_getElem? (i := 1100) (by decide +kernel), List.mem_of_getElem? (i := 1101) (by decide +kernel)⟩
theorem lw_p63 : lw_okq (⟨"AlarmsOfFondnessModel", "otherwise", "(II)I"⟩, 31) := ⟨⟨by decide +kernel, by decide +kernel⟩, List.mem_of_getElem? (i := 792) (by decide +kernel), List.mem_of_getElem? (i := 1144) (by decide +kernel), List.mem_of_getElem? (i := 1145) (by decide +kernel)⟩
def lw_privs_4 : List (MethodName × Nat) := [(⟨"AlarmsOfFondnessModel", "write", "(I)V"⟩, 31), (⟨"AlarmsOfFondnessModel", "numberThere", "()I"⟩, 31), (⟨"AlarmsOfFondnessModel", "isSign", "(I)Z"⟩, 31), (⟨"AlarmsOfFondnessModel", "last", "()I"⟩, 31), (⟨"AlarmsOfFondnessModel", "await", "(I)V"⟩, 31), (⟨"AlarmsOfFondnessModel", "settle", "(I)V"⟩, 31), (⟨"AlarmsOfFondnessModel", "between", "()I"⟩, 31), (⟨"AlarmsOfFondnessModel", "goDay", "()I"⟩, 31), (⟨"AlarmsOfFondnessModel", "keep", "([I)V"⟩, 31), (⟨"AlarmsOfFondnessModel", "goDays", "(I)V"⟩, 31), (⟨"AlarmsOfFondnessModel", "lates", "()I"⟩, 31), (⟨"AlarmsOfFondnessModel", "all", "(I)I"⟩, 31), (⟨"AlarmsOfFondnessModel", "lay", "([I)V"⟩, 31), (⟨"AlarmsOfFondnessModel", "arrange", "(IIII)V"⟩, 31), (⟨"AlarmsOfFondnessModel", "lateBehind", "(I)I"⟩, 31), (⟨"AlarmsOfFondnessModel", "otherwise", "(II)I"⟩, 31)]
theorem lw_r4 : ∀ q ∈ lw_privs_4, lw_okq q := List.forall_mem_cons.mpr ⟨lw_p48, List.forall_mem_cons.mpr ⟨lw_p49, List.forall_mem_cons.mpr ⟨lw_p50, List.forall_mem_cons.mpr ⟨lw_p51, List.forall_mem_cons.mpr ⟨lw_p52, List.forall_mem_cons.mpr ⟨lw_p53, List.forall_mem_cons.mpr ⟨lw_p54, List.forall_mem_cons.mpr ⟨lw_p55, List.forall_mem_cons.mpr ⟨lw_p56, List.forall_mem_cons.mpr ⟨lw_p57, List.forall_mem_cons.mpr ⟨lw_p58, List.forall_mem_cons.mpr ⟨lw_p59, List.forall_mem_cons.mpr ⟨lw_p60, List.forall_mem_cons.mpr ⟨lw_p61, List.forall_mem_cons.mpr ⟨lw_p62, List.forall_mem_cons.mpr ⟨lw_p63, fun _ h => absurd h List.not_mem_nil⟩⟩⟩⟩⟩⟩⟩⟩⟩⟩⟩⟩⟩⟩⟩⟩
theorem lw_p64 : lw_okq (⟨"AlarmsOfFondnessModel", "fits", "(IIII)I"⟩, 31) := ⟨⟨by decide +kernel, by decide +kernel⟩, List.mem_of_getElem? (i := 792) (by decide +kernel), List.mem_of_getElem? (i := 1148) (by decide +kernel), List.mem_of_getElem? (i := 1149) (by decide +kernel)⟩
theorem lw_p65 : lw_okq (⟨"AlarmsOfFondnessModel", "tiredBy", "(IIIZ)I"⟩, 31) := ⟨⟨by decide +kernel, by decide +kernel⟩, List.mem_of_getElem? (i := 792) (by decide +kernel), List.mem_of_getElem? (i := 1152) (by decide +kernel), List.mem_of_getElem? (i := 1153) (by decide +kernel)⟩
theorem lw_p66 : lw_okq (⟨"AlarmsOfFondnessModel", "alone", "()I"⟩, 31) := ⟨⟨by decide +kernel, by decide +kernel⟩, List.mem_of_getElem? (i := 792) (by decide +kernel), List.mem_of_getElem? (i := 1183) (by decide +kernel), List.mem_of_getElem? (i := 1184) (by decide +kernel)⟩
def lw_privs_5 : List (MethodName × Nat) := [(⟨"AlarmsOfFondnessModel", "fits", "(IIII)I"⟩, 31), (⟨"AlarmsOfFondnessModel", "tiredBy", "(IIIZ)I"⟩, 31), (⟨"AlarmsOfFondnessModel", "alone", "()I"⟩, 31)]
theorem lw_r5 : ∀ q ∈ lw_privs_5, lw_okq q := List.forall_mem_cons.mpr ⟨lw_p64, List.forall_mem_cons.mpr ⟨lw_p65, List.forall_mem_cons.mpr ⟨lw_p66, fun _ h => absurd h List.not_mem_nil⟩⟩⟩
def lw_privs : List (MethodName × Nat) := lw_privs_1 ++ (lw_privs_2 ++ (lw_privs_3 ++ (lw_privs_4 ++ (lw_privs_5))))
def lw_tbl : List Cond := k2_sels lw_privs ++ tables_1
theorem lw_privs_ok : ∀ q ∈ lw_privs, lw_okq q := by
  show ∀ q ∈ lw_privs_1 ++ (lw_privs_2 ++ (lw_privs_3 ++ (lw_privs_4 ++ (lw_privs_5)))), lw_okq q
  exact List.forall_mem_append.mpr ⟨lw_r1, List.forall_mem_append.mpr ⟨lw_r2, List.forall_mem_append.mpr ⟨lw_r3, List.forall_mem_append.mpr ⟨lw_r4, lw_r5⟩⟩⟩⟩
end
section
def RX0 : String := "AlarmsOfFondness$Days"
def TX0 : u_T := fun k => match k with
  | 0 => ("AlarmsOfFondness$Days", "rules", "LAlarmsOfFondness$Rules;", true)
  | 1 => ("AlarmsOfFondness$Days", "setter", "[I", true)
  | 2 => ("AlarmsOfFondness$Days", "hour", "[I", true)
  | 3 => ("AlarmsOfFondness$Days", "lateBy", "[I", true)
  | 4 => ("AlarmsOfFondness$Days", "tires", "[I", true)
  | _ => ("AlarmsOfFondness$Days", "grows", "[I", true)
def tyX0 : Nat → FieldType := fun k => match k with
  | 0 => .object "AlarmsOfFondness$Rules"
  | 1 => .array .int
  | 2 => .array .int
  | 3 => .array .int
  | 4 => .array .int
  | _ => .array .int
abbrev wsX00 : List Cond := u_ws RX0 TX0 6
theorem nmX0 : ∀ a, a < 6 → ∀ b, b < 6 → a ≠ b → (TX0 a).2.1 ≠ (TX0 b).2.1 := by decide +kernel
theorem tyX0_ok : ∀ k, k < 6 → parseFieldDescriptor (TX0 k).2.2.1 = some (tyX0 k) := by decide +kernel
abbrev cX0_init : ByteArray := prog_2_method_1_code
def yX0_init : MethodName := ⟨RX0, "<init>", "(LAlarmsOfFondness$Rules;)V"⟩
abbrev cX0_wakes : ByteArray := prog_2_method_2_code
def yX0_wakes : MethodName := ⟨RX0, "wakes", "(LAlarmsOfFondness$People;I)I"⟩
abbrev cX0_lateBy : ByteArray := prog_2_method_3_code
def yX0_lateBy : MethodName := ⟨RX0, "lateBy", "(LAlarmsOfFondness$People;I)I"⟩
abbrev cX0_hour : ByteArray := prog_2_method_4_code
def yX0_hour : MethodName := ⟨RX0, "hour", "(I)I"⟩
abbrev cX0_dawn : ByteArray := prog_2_method_5_code
def yX0_dawn : MethodName := ⟨RX0, "dawn", "(LAlarmsOfFondness$People;)V"⟩
abbrev cX0_settle : ByteArray := prog_2_method_6_code
def yX0_settle : MethodName := ⟨RX0, "settle", "(LAlarmsOfFondness$People;)V"⟩
abbrev cX0_whoIsLate : ByteArray := prog_2_method_7_code
def yX0_whoIsLate : MethodName := ⟨RX0, "whoIsLate", "(LAlarmsOfFondness$People;)I"⟩
def RX1 : String := "AlarmsOfFondness$People"
def TX1 : u_T := fun k => match k with
  | 0 => ("AlarmsOfFondness$People", "kind", "[I", true)
  | 1 => ("AlarmsOfFondness$People", "number", "[I", true)
  | 2 => ("AlarmsOfFondness$People", "duty", "[I", true)
  | 3 => ("AlarmsOfFondness$People", "tired", "[I", true)
  | 4 => ("AlarmsOfFondness$People", "missed", "[I", true)
  | 5 => ("AlarmsOfFondness$People", "late", "[I", true)
  | 6 => ("AlarmsOfFondness$People", "fond", "[I", true)
  | 7 => ("AlarmsOfFondness$People", "many", "I", false)
  | 8 => ("AlarmsOfFondness$People", "day", "I", false)
  | _ => ("AlarmsOfFondness$People", "rule", "I", false)
def tyX1 : Nat → FieldType := fun k => match k with
  | 0 => .array .int
  | 1 => .array .int
  | 2 => .array .int
  | 3 => .array .int
  | 4 => .array .int
  | 5 => .array .int
  | 6 => .array .int
  | 7 => .int
  | 8 => .int
  | _ => .int
abbrev wsX10 : List Cond := u_ws RX1 TX1 10
theorem nmX1 : ∀ a, a < 10 → ∀ b, b < 10 → a ≠ b → (TX1 a).2.1 ≠ (TX1 b).2.1 := by decide +kernel
theorem tyX1_ok : ∀ k, k < 10 → parseFieldDescriptor (TX1 k).2.2.1 = some (tyX1 k) := by decide +kernel
abbrev cX1_init : ByteArray := prog_3_method_1_code
def yX1_init : MethodName := ⟨RX1, "<init>", "()V"⟩
abbrev cX1_copyFrom : ByteArray := prog_3_method_2_code
def yX1_copyFrom : MethodName := ⟨RX1, "copyFrom", "(LAlarmsOfFondness$People;)V"⟩
abbrev cX1_many : ByteArray := prog_3_method_3_code
def yX1_many : MethodName := ⟨RX1, "many", "()I"⟩
abbrev cX1_today : ByteArray := prog_3_method_4_code
def yX1_today : MethodName := ⟨RX1, "today", "()I"⟩
abbrev cX1_rule : ByteArray := prog_3_method_5_code
def yX1_rule : MethodName := ⟨RX1, "rule", "()I"⟩
abbrev cX1_has : ByteArray := prog_3_method_6_code
def yX1_has : MethodName := ⟨RX1, "has", "(I)Z"⟩
abbrev cX1_hasTwo : ByteArray := prog_3_method_7_code
def yX1_hasTwo : MethodName := ⟨RX1, "hasTwo", "(II)Z"⟩
abbrev cX1_hasPlace : ByteArray := prog_3_method_8_code
def yX1_hasPlace : MethodName := ⟨RX1, "hasPlace", "(II)Z"⟩
abbrev cX1_get : ByteArray := prog_3_method_9_code
def yX1_get : MethodName := ⟨RX1, "get", "(II)I"⟩
abbrev cX1_put : ByteArray := prog_3_method_10_code
def yX1_put : MethodName := ⟨RX1, "put", "(III)V"⟩
abbrev cX1_placeIn : ByteArray := prog_3_method_11_code
def yX1_placeIn : MethodName := ⟨RX1, "placeIn", "(II)I"⟩
abbrev cX1_rowOf : ByteArray := prog_3_method_12_code
def yX1_rowOf : MethodName := ⟨RX1, "rowOf", "(I)[I"⟩
abbrev cX1_come : ByteArray := prog_3_method_13_code
def yX1_come : MethodName := ⟨RX1, "come", "(III)I"⟩
abbrev cX1_quarrel : ByteArray := prog_3_method_14_code
def yX1_quarrel : MethodName := ⟨RX1, "quarrel", "(II)V"⟩
abbrev cX1_setterOf : ByteArray := prog_3_method_15_code
def yX1_setterOf : MethodName := ⟨RX1, "setterOf", "(I)I"⟩
abbrev cX1_whoseClocks : ByteArray := prog_3_method_16_code
def yX1_whoseClocks : MethodName := ⟨RX1, "whoseClocks", "(I)I"⟩
abbrev cX1_manyWithoutSetter : ByteArray := prog_3_method_17_code
def yX1_manyWithoutSetter : MethodName := ⟨RX1, "manyWithoutSetter", "()I"⟩
abbrev cX1_sum : ByteArray := prog_3_method_18_code
def yX1_sum : MethodName := ⟨RX1, "sum", "(I)I"⟩
abbrev cX1_tellNames : ByteArray := prog_3_method_19_code
def yX1_tellNames : MethodName := ⟨RX1, "tellNames", "(II[I)V"⟩
abbrev cX1_wake : ByteArray := prog_3_method_20_code
def yX1_wake : MethodName := ⟨RX1, "wake", "(III)V"⟩
abbrev cX1_growFonder : ByteArray := prog_3_method_21_code
def yX1_growFonder : MethodName := ⟨RX1, "growFonder", "(III)V"⟩
abbrev cX1_miss : ByteArray := prog_3_method_22_code
def yX1_miss : MethodName := ⟨RX1, "miss", "(I)V"⟩
abbrev cX1_endDay : ByteArray := prog_3_method_23_code
def yX1_endDay : MethodName := ⟨RX1, "endDay", "()V"⟩
def RX2 : String := "AlarmsOfFondness$Reader"
def TX2 : u_T := fun k => match k with
  | 0 => ("AlarmsOfFondness$Reader", "tape", "[I", true)
  | 1 => ("AlarmsOfFondness$Reader", "size", "I", false)
  | 2 => ("AlarmsOfFondness$Reader", "token", "[I", true)
  | 3 => ("AlarmsOfFondness$Reader", "place", "[I", true)
  | 4 => ("AlarmsOfFondness$Reader", "number", "[I", true)
  | 5 => ("AlarmsOfFondness$Reader", "tokens", "I", false)
  | 6 => ("AlarmsOfFondness$Reader", "at", "I", false)
  | _ => ("AlarmsOfFondness$Reader", "into", "LAlarmsOfFondness$Text;", false)
def tyX2 : Nat → FieldType := fun k => match k with
  | 0 => .array .int
  | 1 => .int
  | 2 => .array .int
  | 3 => .array .int
  | 4 => .array .int
  | 5 => .int
  | 6 => .int
  | _ => .object "AlarmsOfFondness$Text"
abbrev wsX20 : List Cond := u_ws RX2 TX2 8
theorem nmX2 : ∀ a, a < 8 → ∀ b, b < 8 → a ≠ b → (TX2 a).2.1 ≠ (TX2 b).2.1 := by decide +kernel
theorem tyX2_ok : ∀ k, k < 8 → parseFieldDescriptor (TX2 k).2.2.1 = some (tyX2 k) := by decide +kernel
abbrev cX2_init : ByteArray := prog_4_method_1_code
def yX2_init : MethodName := ⟨RX2, "<init>", "()V"⟩
abbrev cX2_size : ByteArray := prog_4_method_2_code
def yX2_size : MethodName := ⟨RX2, "size", "()I"⟩
abbrev cX2_clear : ByteArray := prog_4_method_3_code
def yX2_clear : MethodName := ⟨RX2, "clear", "()V"⟩
abbrev cX2_add : ByteArray := prog_4_method_4_code
def yX2_add : MethodName := ⟨RX2, "add", "(I)Z"⟩
abbrev cX2_addAll : ByteArray := prog_4_method_5_code
def yX2_addAll : MethodName := ⟨RX2, "addAll", "(Ljava/lang/String;)V"⟩
abbrev cX2_read : ByteArray := prog_4_method_6_code
def yX2_read : MethodName := ⟨RX2, "read", "(LAlarmsOfFondness$Text;)I"⟩
abbrev cX2_faultPlace : ByteArray := prog_4_method_7_code
def yX2_faultPlace : MethodName := ⟨RX2, "faultPlace", "()I"⟩
abbrev cX2_split : ByteArray := prog_4_method_8_code
def yX2_split : MethodName := ⟨RX2, "split", "()V"⟩
abbrev cX2_splitOff : ByteArray := prog_4_method_9_code
def yX2_splitOff : MethodName := ⟨RX2, "splitOff", "(I)I"⟩
abbrev cX2_addToken : ByteArray := prog_4_method_10_code
def yX2_addToken : MethodName := ⟨RX2, "addToken", "(III)V"⟩
abbrev cX2_addNumber : ByteArray := prog_4_method_11_code
def yX2_addNumber : MethodName := ⟨RX2, "addNumber", "(II)V"⟩
abbrev cX2_wordAt : ByteArray := prog_4_method_12_code
def yX2_wordAt : MethodName := ⟨RX2, "wordAt", "(II)I"⟩
abbrev cX2_spells : ByteArray := prog_4_method_13_code
def yX2_spells : MethodName := ⟨RX2, "spells", "(III)Z"⟩
abbrev cX2_isLetter : ByteArray := prog_4_method_14_code
def yX2_isLetter : MethodName := ⟨RX2, "isLetter", "(I)Z"⟩
abbrev cX2_isDigit : ByteArray := prog_4_method_15_code
def yX2_isDigit : MethodName := ⟨RX2, "isDigit", "(I)Z"⟩
abbrev cX2_isSign : ByteArray := prog_4_method_16_code
def yX2_isSign : MethodName := ⟨RX2, "isSign", "(I)Z"⟩
abbrev cX2_now : ByteArray := prog_4_method_17_code
def yX2_now : MethodName := ⟨RX2, "now", "()I"⟩
abbrev cX2_pass : ByteArray := prog_4_method_18_code
def yX2_pass : MethodName := ⟨RX2, "pass", "(I)Z"⟩
abbrev cX2_readPart : ByteArray := prog_4_method_19_code
def yX2_readPart : MethodName := ⟨RX2, "readPart", "(I)Z"⟩
abbrev cX2_readE : ByteArray := prog_4_method_20_code
def yX2_readE : MethodName := ⟨RX2, "readE", "(I)Z"⟩
abbrev cX2_readAnd : ByteArray := prog_4_method_21_code
def yX2_readAnd : MethodName := ⟨RX2, "readAnd", "(I)Z"⟩
abbrev cX2_readNot : ByteArray := prog_4_method_22_code
def yX2_readNot : MethodName := ⟨RX2, "readNot", "(I)Z"⟩
abbrev cX2_readSum : ByteArray := prog_4_method_23_code
def yX2_readSum : MethodName := ⟨RX2, "readSum", "(I)Z"⟩
abbrev cX2_readTerm : ByteArray := prog_4_method_24_code
def yX2_readTerm : MethodName := ⟨RX2, "readTerm", "(I)Z"⟩
abbrev cX2_readOne : ByteArray := prog_4_method_25_code
def yX2_readOne : MethodName := ⟨RX2, "readOne", "(I)Z"⟩
def RX3 : String := "AlarmsOfFondness$Rules"
def TX3 : u_T := fun k => match k with
  | 0 => ("AlarmsOfFondness$Rules", "texts", "[LAlarmsOfFondness$Text;", true)
  | 1 => ("AlarmsOfFondness$Rules", "names", "[I", true)
  | 2 => ("AlarmsOfFondness$Rules", "stack", "[I", true)
  | _ => ("AlarmsOfFondness$Rules", "many", "I", false)
def tyX3 : Nat → FieldType := fun k => match k with
  | 0 => .array (.object "AlarmsOfFondness$Text")
  | 1 => .array .int
  | 2 => .array .int
  | _ => .int
abbrev wsX30 : List Cond := u_ws RX3 TX3 4
theorem nmX3 : ∀ a, a < 4 → ∀ b, b < 4 → a ≠ b → (TX3 a).2.1 ≠ (TX3 b).2.1 := by decide +kernel
theorem tyX3_ok : ∀ k, k < 4 → parseFieldDescriptor (TX3 k).2.2.1 = some (tyX3 k) := by decide +kernel
abbrev cX3_init : ByteArray := prog_5_method_1_code
def yX3_init : MethodName := ⟨RX3, "<init>", "()V"⟩
abbrev cX3_many : ByteArray := prog_5_method_2_code
def yX3_many : MethodName := ⟨RX3, "many", "()I"⟩
abbrev cX3_take : ByteArray := prog_5_method_3_code
def yX3_take : MethodName := ⟨RX3, "take", "(LAlarmsOfFondness$Reader;)I"⟩
abbrev cX3_mindsTired : ByteArray := prog_5_method_4_code
def yX3_mindsTired : MethodName := ⟨RX3, "mindsTired", "(LAlarmsOfFondness$People;)Z"⟩
abbrev cX3_tell : ByteArray := prog_5_method_5_code
def yX3_tell : MethodName := ⟨RX3, "tell", "(ILAlarmsOfFondness$People;II)I"⟩
abbrev cX3_hourSet : ByteArray := prog_5_method_6_code
def yX3_hourSet : MethodName := ⟨RX3, "hourSet", "(LAlarmsOfFondness$People;II)I"⟩
abbrev cX3_tiredBy : ByteArray := prog_5_method_7_code
def yX3_tiredBy : MethodName := ⟨RX3, "tiredBy", "(LAlarmsOfFondness$People;II)I"⟩
abbrev cX3_fonderBy : ByteArray := prog_5_method_8_code
def yX3_fonderBy : MethodName := ⟨RX3, "fonderBy", "(LAlarmsOfFondness$People;IIZ)I"⟩
def RX4 : String := "AlarmsOfFondness$Sheet"
def TX4 : u_T := fun k => match k with
  | 0 => ("AlarmsOfFondness$Sheet", "items", "[I", true)
  | 1 => ("AlarmsOfFondness$Sheet", "sort", "I", false)
  | _ => ("AlarmsOfFondness$Sheet", "size", "I", false)
def tyX4 : Nat → FieldType := fun k => match k with
  | 0 => .array .int
  | 1 => .int
  | _ => .int
abbrev wsX40 : List Cond := u_ws RX4 TX4 3
theorem nmX4 : ∀ a, a < 3 → ∀ b, b < 3 → a ≠ b → (TX4 a).2.1 ≠ (TX4 b).2.1 := by decide +kernel
theorem tyX4_ok : ∀ k, k < 3 → parseFieldDescriptor (TX4 k).2.2.1 = some (tyX4 k) := by decide +kernel
abbrev cX4_init : ByteArray := prog_6_method_1_code
def yX4_init : MethodName := ⟨RX4, "<init>", "()V"⟩
abbrev cX4_become : ByteArray := prog_6_method_2_code
def yX4_become : MethodName := ⟨RX4, "become", "(II)V"⟩
abbrev cX4_isMissing : ByteArray := prog_6_method_3_code
def yX4_isMissing : MethodName := ⟨RX4, "isMissing", "()Z"⟩
abbrev cX4_sort : ByteArray := prog_6_method_4_code
def yX4_sort : MethodName := ⟨RX4, "sort", "()I"⟩
abbrev cX4_size : ByteArray := prog_6_method_5_code
def yX4_size : MethodName := ⟨RX4, "size", "()I"⟩
abbrev cX4_hasRange : ByteArray := prog_6_method_6_code
def yX4_hasRange : MethodName := ⟨RX4, "hasRange", "(II)Z"⟩
abbrev cX4_get : ByteArray := prog_6_method_7_code
def yX4_get : MethodName := ⟨RX4, "get", "(I)I"⟩
abbrev cX4_put : ByteArray := prog_6_method_8_code
def yX4_put : MethodName := ⟨RX4, "put", "(II)V"⟩
abbrev cX4_takeFrom : ByteArray := prog_6_method_9_code
def yX4_takeFrom : MethodName := ⟨RX4, "takeFrom", "(LAlarmsOfFondness$Sheet;III)V"⟩
def RX5 : String := "AlarmsOfFondness$Text"
def TX5 : u_T := fun k => match k with
  | 0 => ("AlarmsOfFondness$Text", "code", "[I", true)
  | 1 => ("AlarmsOfFondness$Text", "ends", "[I", true)
  | _ => ("AlarmsOfFondness$Text", "size", "I", false)
def tyX5 : Nat → FieldType := fun k => match k with
  | 0 => .array .int
  | 1 => .array .int
  | _ => .int
abbrev wsX50 : List Cond := u_ws RX5 TX5 3
theorem nmX5 : ∀ a, a < 3 → ∀ b, b < 3 → a ≠ b → (TX5 a).2.1 ≠ (TX5 b).2.1 := by decide +kernel
theorem tyX5_ok : ∀ k, k < 3 → parseFieldDescriptor (TX5 k).2.2.1 = some (tyX5 k) := by decide +kernel
abbrev cX5_init : ByteArray := prog_7_method_1_code
def yX5_init : MethodName := ⟨RX5, "<init>", "()V"⟩
abbrev cX5_clear : ByteArray := prog_7_method_2_code
def yX5_clear : MethodName := ⟨RX5, "clear", "()V"⟩
abbrev cX5_addNumber : ByteArray := prog_7_method_3_code
def yX5_addNumber : MethodName := ⟨RX5, "addNumber", "(I)V"⟩
abbrev cX5_addStep : ByteArray := prog_7_method_4_code
def yX5_addStep : MethodName := ⟨RX5, "addStep", "(I)V"⟩
abbrev cX5_endPart : ByteArray := prog_7_method_5_code
def yX5_endPart : MethodName := ⟨RX5, "endPart", "(I)V"⟩
abbrev cX5_hasTired : ByteArray := prog_7_method_6_code
def yX5_hasTired : MethodName := ⟨RX5, "hasTired", "(I)Z"⟩
abbrev cX5_begin : ByteArray := prog_7_method_7_code
def yX5_begin : MethodName := ⟨RX5, "begin", "(I)I"⟩
abbrev cX5_end : ByteArray := prog_7_method_8_code
def yX5_end : MethodName := ⟨RX5, "end", "(I)I"⟩
abbrev cX5_value : ByteArray := prog_7_method_9_code
def yX5_value : MethodName := ⟨RX5, "value", "(I[I[I)I"⟩
abbrev cX5_join : ByteArray := prog_7_method_10_code
def yX5_join : MethodName := ⟨RX5, "join", "(III)I"⟩
def RX6 : String := "AlarmsOfFondness$Ways"
def TX6 : u_T := fun k => match k with
  | 0 => ("AlarmsOfFondness$Ways", "lateBy", "[I", true)
  | 1 => ("AlarmsOfFondness$Ways", "many", "I", false)
  | 2 => ("AlarmsOfFondness$Ways", "least", "I", false)
  | _ => ("AlarmsOfFondness$Ways", "best", "I", false)
def tyX6 : Nat → FieldType := fun k => match k with
  | 0 => .array .int
  | 1 => .int
  | 2 => .int
  | _ => .int
abbrev wsX60 : List Cond := u_ws RX6 TX6 4
theorem nmX6 : ∀ a, a < 4 → ∀ b, b < 4 → a ≠ b → (TX6 a).2.1 ≠ (TX6 b).2.1 := by decide +kernel
theorem tyX6_ok : ∀ k, k < 4 → parseFieldDescriptor (TX6 k).2.2.1 = some (tyX6 k) := by decide +kernel
abbrev cX6_init : ByteArray := prog_8_method_1_code
def yX6_init : MethodName := ⟨RX6, "<init>", "()V"⟩
abbrev cX6_find : ByteArray := prog_8_method_2_code
def yX6_find : MethodName := ⟨RX6, "find", "(LAlarmsOfFondness$People;LAlarmsOfFondness$Rules;)V"⟩
abbrev cX6_digits : ByteArray := prog_8_method_3_code
def yX6_digits : MethodName := ⟨RX6, "digits", "()I"⟩
abbrev cX6_late : ByteArray := prog_8_method_4_code
def yX6_late : MethodName := ⟨RX6, "late", "()I"⟩
abbrev cX6_goOn : ByteArray := prog_8_method_5_code
def yX6_goOn : MethodName := ⟨RX6, "goOn", "(IIII)V"⟩
def RX7 : String := "AlarmsOfFondness"
def TX7 : u_T := fun k => match k with
  | 0 => ("AlarmsOfFondness", "rules", "LAlarmsOfFondness$Rules;", true)
  | 1 => ("AlarmsOfFondness", "reader", "LAlarmsOfFondness$Reader;", true)
  | 2 => ("AlarmsOfFondness", "days", "LAlarmsOfFondness$Days;", true)
  | 3 => ("AlarmsOfFondness", "truth", "LAlarmsOfFondness$People;", true)
  | 4 => ("AlarmsOfFondness", "thought", "LAlarmsOfFondness$People;", true)
  | 5 => ("AlarmsOfFondness", "kept", "LAlarmsOfFondness$People;", true)
  | 6 => ("AlarmsOfFondness", "ways", "LAlarmsOfFondness$Ways;", true)
  | 7 => ("AlarmsOfFondness", "sheets", "[LAlarmsOfFondness$Sheet;", true)
  | _ => ("AlarmsOfFondness", "hasImage", "Z", false)
def tyX7 : Nat → FieldType := fun k => match k with
  | 0 => .object "AlarmsOfFondness$Rules"
  | 1 => .object "AlarmsOfFondness$Reader"
  | 2 => .object "AlarmsOfFondness$Days"
  | 3 => .object "AlarmsOfFondness$People"
  | 4 => .object "AlarmsOfFondness$People"
  | 5 => .object "AlarmsOfFondness$People"
  | 6 => .object "AlarmsOfFondness$Ways"
  | 7 => .array (.object "AlarmsOfFondness$Sheet")
  | _ => .boolean
abbrev wsX70 : List Cond := u_ws RX7 TX7 9
theorem nmX7 : ∀ a, a < 9 → ∀ b, b < 9 → a ≠ b → (TX7 a).2.1 ≠ (TX7 b).2.1 := by decide +kernel
theorem tyX7_ok : ∀ k, k < 9 → parseFieldDescriptor (TX7 k).2.2.1 = some (tyX7 k) := by decide +kernel
abbrev cX7_init : ByteArray := prog_1_method_1_code
def yX7_init : MethodName := ⟨RX7, "<init>", "()V"⟩
abbrev cX7_set : ByteArray := prog_1_method_2_code
def yX7_set : MethodName := ⟨RX7, "set", "(III)I"⟩
abbrev cX7_person : ByteArray := prog_1_method_3_code
def yX7_person : MethodName := ⟨RX7, "person", "(III)I"⟩
abbrev cX7_told : ByteArray := prog_1_method_4_code
def yX7_told : MethodName := ⟨RX7, "told", "(II)I"⟩
abbrev cX7_asks : ByteArray := prog_1_method_5_code
def yX7_asks : MethodName := ⟨RX7, "asks", "(III)I"⟩
abbrev cX7_woken : ByteArray := prog_1_method_6_code
def yX7_woken : MethodName := ⟨RX7, "woken", "(II)I"⟩
abbrev cX7_feed : ByteArray := prog_1_method_7_code
def yX7_feed : MethodName := ⟨RX7, "feed", "(I)I"⟩
abbrev cX7_text : ByteArray := prog_1_method_8_code
def yX7_text : MethodName := ⟨RX7, "text", "()I"⟩
abbrev cX7_force : ByteArray := prog_1_method_9_code
def yX7_force : MethodName := ⟨RX7, "force", "(I)I"⟩
abbrev cX7_day : ByteArray := prog_1_method_10_code
def yX7_day : MethodName := ⟨RX7, "day", "()I"⟩
abbrev cX7_run : ByteArray := prog_1_method_11_code
def yX7_run : MethodName := ⟨RX7, "run", "(III)I"⟩
abbrev cX7_round : ByteArray := prog_1_method_12_code
def yX7_round : MethodName := ⟨RX7, "round", "(I)I"⟩
abbrev cX7_others : ByteArray := prog_1_method_13_code
def yX7_others : MethodName := ⟨RX7, "others", "(I)I"⟩
abbrev cX7_duty : ByteArray := prog_1_method_14_code
def yX7_duty : MethodName := ⟨RX7, "duty", "(III)I"⟩
abbrev cX7_fonder : ByteArray := prog_1_method_15_code
def yX7_fonder : MethodName := ⟨RX7, "fonder", "(III)I"⟩
abbrev cX7_mean : ByteArray := prog_1_method_16_code
def yX7_mean : MethodName := ⟨RX7, "mean", "(I)J"⟩
abbrev cX7_tells : ByteArray := prog_1_method_17_code
def yX7_tells : MethodName := ⟨RX7, "tells", "(IIII)I"⟩
abbrev cX7_film : ByteArray := prog_1_method_18_code
def yX7_film : MethodName := ⟨RX7, "film", "(III)I"⟩
abbrev cX7_drawn : ByteArray := prog_1_method_19_code
def yX7_drawn : MethodName := ⟨RX7, "drawn", "(II)I"⟩
abbrev cX7_chance : ByteArray := prog_1_method_20_code
def yX7_chance : MethodName := ⟨RX7, "chance", "(IIII)J"⟩
abbrev cX7_image : ByteArray := prog_1_method_21_code
def yX7_image : MethodName := ⟨RX7, "image", "()I"⟩
abbrev cX7_back : ByteArray := prog_1_method_22_code
def yX7_back : MethodName := ⟨RX7, "back", "()I"⟩
abbrev cX7_count : ByteArray := prog_1_method_23_code
def yX7_count : MethodName := ⟨RX7, "count", "(I)I"⟩
abbrev cX7_sheet : ByteArray := prog_1_method_24_code
def yX7_sheet : MethodName := ⟨RX7, "sheet", "(III)I"⟩
abbrev cX7_cell : ByteArray := prog_1_method_25_code
def yX7_cell : MethodName := ⟨RX7, "cell", "(III)I"⟩
abbrev cX7_copy : ByteArray := prog_1_method_26_code
def yX7_copy : MethodName := ⟨RX7, "copy", "(IIIII)I"⟩
abbrev cX7_court : ByteArray := prog_1_method_27_code
def yX7_court : MethodName := ⟨RX7, "court", "(IIII)I"⟩
abbrev cX7_taken : ByteArray := prog_1_method_28_code
def yX7_taken : MethodName := ⟨RX7, "taken", "(II)I"⟩
abbrev cX7_isSheet : ByteArray := prog_1_method_29_code
def yX7_isSheet : MethodName := ⟨RX7, "isSheet", "(I)Z"⟩
abbrev cX7_isSort : ByteArray := prog_1_method_30_code
def yX7_isSort : MethodName := ⟨RX7, "isSort", "(I)Z"⟩
abbrev cX7_isUnder : ByteArray := prog_1_method_31_code
def yX7_isUnder : MethodName := ⟨RX7, "isUnder", "(II)Z"⟩
abbrev cX7_partOf : ByteArray := prog_1_method_32_code
def yX7_partOf : MethodName := ⟨RX7, "partOf", "(III)J"⟩
abbrev cX7_passDays : ByteArray := prog_1_method_33_code
def yX7_passDays : MethodName := ⟨RX7, "passDays", "(I)V"⟩
abbrev cX7_lateBehind : ByteArray := prog_1_method_34_code
def yX7_lateBehind : MethodName := ⟨RX7, "lateBehind", "(IIII)I"⟩
abbrev cX7_firstOtherwise : ByteArray := prog_1_method_35_code
def yX7_firstOtherwise : MethodName := ⟨RX7, "firstOtherwise", "(LAlarmsOfFondness$Sheet;IIII)I"⟩
abbrev cX7_bitsThatFit : ByteArray := prog_1_method_36_code
def yX7_bitsThatFit : MethodName := ⟨RX7, "bitsThatFit", "(LAlarmsOfFondness$Sheet;IIII)I"⟩
abbrev cX7_tiredThatFits : ByteArray := prog_1_method_37_code
def yX7_tiredThatFits : MethodName := ⟨RX7, "tiredThatFits", "(LAlarmsOfFondness$Sheet;IIZ)I"⟩
abbrev cX7_peopleThatFit : ByteArray := prog_1_method_38_code
def yX7_peopleThatFit : MethodName := ⟨RX7, "peopleThatFit", "(LAlarmsOfFondness$Sheet;)I"⟩
abbrev cX7_missedWhenDrawn : ByteArray := prog_1_method_39_code
def yX7_missedWhenDrawn : MethodName := ⟨RX7, "missedWhenDrawn", "(II)I"⟩
abbrev cX7_bound : ByteArray := prog_1_method_40_code
def yX7_bound : MethodName := ⟨RX7, "bound", "(III)I"⟩
def RX8 : String := "AlarmsOfFondnessModel"
def TX8 : u_T := fun k => match k with
  | 0 => ("AlarmsOfFondnessModel", "now", "[I", true)
  | 1 => ("AlarmsOfFondnessModel", "kept", "[I", true)
  | 2 => ("AlarmsOfFondnessModel", "mind", "[I", true)
  | 3 => ("AlarmsOfFondnessModel", "isKept", "Z", false)
  | 4 => ("AlarmsOfFondnessModel", "highs", "[I", true)
  | 5 => ("AlarmsOfFondnessModel", "tape", "[I", true)
  | 6 => ("AlarmsOfFondnessModel", "size", "I", false)
  | 7 => ("AlarmsOfFondnessModel", "at", "I", false)
  | 8 => ("AlarmsOfFondnessModel", "from", "I", false)
  | 9 => ("AlarmsOfFondnessModel", "sort", "I", false)
  | 10 => ("AlarmsOfFondnessModel", "open", "I", false)
  | 11 => ("AlarmsOfFondnessModel", "code", "[I", true)
  | 12 => ("AlarmsOfFondnessModel", "ends", "[I", true)
  | 13 => ("AlarmsOfFondnessModel", "texts", "I", false)
  | 14 => ("AlarmsOfFondnessModel", "wrote", "I", false)
  | 15 => ("AlarmsOfFondnessModel", "names", "[C", true)
  | 16 => ("AlarmsOfFondnessModel", "waiting", "[I", true)
  | 17 => ("AlarmsOfFondnessModel", "waits", "I", false)
  | 18 => ("AlarmsOfFondnessModel", "row", "[I", true)
  | 19 => ("AlarmsOfFondnessModel", "who", "[I", true)
  | 20 => ("AlarmsOfFondnessModel", "late", "[I", true)
  | 21 => ("AlarmsOfFondnessModel", "more", "[I", true)
  | 22 => ("AlarmsOfFondnessModel", "fonder", "[I", true)
  | 23 => ("AlarmsOfFondnessModel", "least", "I", false)
  | 24 => ("AlarmsOfFondnessModel", "digits", "I", false)
  | 25 => ("AlarmsOfFondnessModel", "sorts", "[I", true)
  | 26 => ("AlarmsOfFondnessModel", "sizes", "[I", true)
  | 27 => ("AlarmsOfFondnessModel", "cells", "[I", true)
  | 28 => ("AlarmsOfFondnessModel", "moved", "[I", true)
  | 29 => ("AlarmsOfFondnessModel", "above", "[I", true)
  | _ => ("AlarmsOfFondnessModel", "fit", "[Z", true)
def tyX8 : Nat → FieldType := fun k => match k with
  | 0 => .array .int
  | 1 => .array .int
  | 2 => .array .int
  | 3 => .boolean
  | 4 => .array .int
  | 5 => .array .int
  | 6 => .int
  | 7 => .int
  | 8 => .int
  | 9 => .int
  | 10 => .int
  | 11 => .array .int
  | 12 => .array .int
  | 13 => .int
  | 14 => .int
  | 15 => .array .char
  | 16 => .array .int
  | 17 => .int
  | 18 => .array .int
  | 19 => .array .int
  | 20 => .array .int
  | 21 => .array .int
  | 22 => .array .int
  | 23 => .int
  | 24 => .int
  | 25 => .array .int
  | 26 => .array .int
  | 27 => .array .int
  | 28 => .array .int
  | 29 => .array .int
  | _ => .array .boolean
abbrev wsX80 : List Cond := u_ws RX8 TX8 31
theorem nmX8 : ∀ a, a < 31 → ∀ b, b < 31 → a ≠ b → (TX8 a).2.1 ≠ (TX8 b).2.1 := by decide +kernel
theorem tyX8_ok : ∀ k, k < 31 → parseFieldDescriptor (TX8 k).2.2.1 = some (tyX8 k) := by decide +kernel
abbrev cX8_init : ByteArray := prog_10_method_1_code
def yX8_init : MethodName := ⟨RX8, "<init>", "()V"⟩
abbrev cX8_isIn : ByteArray := prog_10_method_2_code
def yX8_isIn : MethodName := ⟨RX8, "isIn", "(III)Z"⟩
abbrev cX8_bound : ByteArray := prog_10_method_3_code
def yX8_bound : MethodName := ⟨RX8, "bound", "(III)I"⟩
abbrev cX8_keep : ByteArray := prog_10_method_4_code
def yX8_keep : MethodName := ⟨RX8, "keep", "([I)V"⟩
abbrev cX8_lay : ByteArray := prog_10_method_5_code
def yX8_lay : MethodName := ⟨RX8, "lay", "([I)V"⟩
abbrev cX8_many : ByteArray := prog_10_method_6_code
def yX8_many : MethodName := ⟨RX8, "many", "()I"⟩
abbrev cX8_isOne : ByteArray := prog_10_method_7_code
def yX8_isOne : MethodName := ⟨RX8, "isOne", "(I)Z"⟩
abbrev cX8_isTwo : ByteArray := prog_10_method_8_code
def yX8_isTwo : MethodName := ⟨RX8, "isTwo", "(II)Z"⟩
abbrev cX8_of : ByteArray := prog_10_method_9_code
def yX8_of : MethodName := ⟨RX8, "of", "(II)I"⟩
abbrev cX8_change : ByteArray := prog_10_method_10_code
def yX8_change : MethodName := ⟨RX8, "change", "(III)V"⟩
abbrev cX8_place : ByteArray := prog_10_method_11_code
def yX8_place : MethodName := ⟨RX8, "place", "(II)I"⟩
abbrev cX8_set : ByteArray := prog_10_method_12_code
def yX8_set : MethodName := ⟨RX8, "set", "(III)I"⟩
abbrev cX8_person : ByteArray := prog_10_method_13_code
def yX8_person : MethodName := ⟨RX8, "person", "(III)I"⟩
abbrev cX8_told : ByteArray := prog_10_method_14_code
def yX8_told : MethodName := ⟨RX8, "told", "(II)I"⟩
abbrev cX8_asks : ByteArray := prog_10_method_15_code
def yX8_asks : MethodName := ⟨RX8, "asks", "(III)I"⟩
abbrev cX8_woken : ByteArray := prog_10_method_16_code
def yX8_woken : MethodName := ⟨RX8, "woken", "(II)I"⟩
abbrev cX8_firstText : ByteArray := prog_10_method_17_code
def yX8_firstText : MethodName := ⟨RX8, "firstText", "()I"⟩
abbrev cX8_feed : ByteArray := prog_10_method_18_code
def yX8_feed : MethodName := ⟨RX8, "feed", "(I)I"⟩
abbrev cX8_sortAt : ByteArray := prog_10_method_19_code
def yX8_sortAt : MethodName := ⟨RX8, "sortAt", "(I)I"⟩
abbrev cX8_next : ByteArray := prog_10_method_20_code
def yX8_next : MethodName := ⟨RX8, "next", "()V"⟩
abbrev cX8_word : ByteArray := prog_10_method_21_code
def yX8_word : MethodName := ⟨RX8, "word", "()I"⟩
abbrev cX8_isSign : ByteArray := prog_10_method_22_code
def yX8_isSign : MethodName := ⟨RX8, "isSign", "(I)Z"⟩
abbrev cX8_write : ByteArray := prog_10_method_23_code
def yX8_write : MethodName := ⟨RX8, "write", "(I)V"⟩
abbrev cX8_rank : ByteArray := prog_10_method_24_code
def yX8_rank : MethodName := ⟨RX8, "rank", "(I)I"⟩
abbrev cX8_await : ByteArray := prog_10_method_25_code
def yX8_await : MethodName := ⟨RX8, "await", "(I)V"⟩
abbrev cX8_last : ByteArray := prog_10_method_26_code
def yX8_last : MethodName := ⟨RX8, "last", "()I"⟩
abbrev cX8_settle : ByteArray := prog_10_method_27_code
def yX8_settle : MethodName := ⟨RX8, "settle", "(I)V"⟩
abbrev cX8_between : ByteArray := prog_10_method_28_code
def yX8_between : MethodName := ⟨RX8, "between", "()I"⟩
abbrev cX8_numberThere : ByteArray := prog_10_method_29_code
def yX8_numberThere : MethodName := ⟨RX8, "numberThere", "()I"⟩
abbrev cX8_begin : ByteArray := prog_10_method_30_code
def yX8_begin : MethodName := ⟨RX8, "begin", "()I"⟩
abbrev cX8_isE : ByteArray := prog_10_method_31_code
def yX8_isE : MethodName := ⟨RX8, "isE", "()Z"⟩
abbrev cX8_isText : ByteArray := prog_10_method_32_code
def yX8_isText : MethodName := ⟨RX8, "isText", "()Z"⟩
abbrev cX8_text : ByteArray := prog_10_method_33_code
def yX8_text : MethodName := ⟨RX8, "text", "()I"⟩
abbrev cX8_force : ByteArray := prog_10_method_34_code
def yX8_force : MethodName := ⟨RX8, "force", "(I)I"⟩
abbrev cX8_yes : ByteArray := prog_10_method_35_code
def yX8_yes : MethodName := ⟨RX8, "yes", "(Z)I"⟩
abbrev cX8_deed : ByteArray := prog_10_method_36_code
def yX8_deed : MethodName := ⟨RX8, "deed", "(III)I"⟩
abbrev cX8_tell : ByteArray := prog_10_method_37_code
def yX8_tell : MethodName := ⟨RX8, "tell", "(III)I"⟩
abbrev cX8_sets : ByteArray := prog_10_method_38_code
def yX8_sets : MethodName := ⟨RX8, "sets", "(II)I"⟩
abbrev cX8_tires : ByteArray := prog_10_method_39_code
def yX8_tires : MethodName := ⟨RX8, "tires", "(II)I"⟩
abbrev cX8_grows : ByteArray := prog_10_method_40_code
def yX8_grows : MethodName := ⟨RX8, "grows", "(IIZ)I"⟩
abbrev cX8_setter : ByteArray := prog_10_method_41_code
def yX8_setter : MethodName := ⟨RX8, "setter", "(I)I"⟩
abbrev cX8_wakes : ByteArray := prog_10_method_42_code
def yX8_wakes : MethodName := ⟨RX8, "wakes", "(I)I"⟩
abbrev cX8_lateBy : ByteArray := prog_10_method_43_code
def yX8_lateBy : MethodName := ⟨RX8, "lateBy", "(I)I"⟩
abbrev cX8_goDay : ByteArray := prog_10_method_44_code
def yX8_goDay : MethodName := ⟨RX8, "goDay", "()I"⟩
abbrev cX8_goDays : ByteArray := prog_10_method_45_code
def yX8_goDays : MethodName := ⟨RX8, "goDays", "(I)V"⟩
abbrev cX8_all : ByteArray := prog_10_method_46_code
def yX8_all : MethodName := ⟨RX8, "all", "(I)I"⟩
abbrev cX8_lates : ByteArray := prog_10_method_47_code
def yX8_lates : MethodName := ⟨RX8, "lates", "()I"⟩
abbrev cX8_day : ByteArray := prog_10_method_48_code
def yX8_day : MethodName := ⟨RX8, "day", "()I"⟩
abbrev cX8_run : ByteArray := prog_10_method_49_code
def yX8_run : MethodName := ⟨RX8, "run", "(III)I"⟩
abbrev cX8_round : ByteArray := prog_10_method_50_code
def yX8_round : MethodName := ⟨RX8, "round", "(I)I"⟩
abbrev cX8_arrange : ByteArray := prog_10_method_51_code
def yX8_arrange : MethodName := ⟨RX8, "arrange", "(IIII)V"⟩
abbrev cX8_others : ByteArray := prog_10_method_52_code
def yX8_others : MethodName := ⟨RX8, "others", "(I)I"⟩
abbrev cX8_lateBehind : ByteArray := prog_10_method_53_code
def yX8_lateBehind : MethodName := ⟨RX8, "lateBehind", "(I)I"⟩
abbrev cX8_duty : ByteArray := prog_10_method_54_code
def yX8_duty : MethodName := ⟨RX8, "duty", "(III)I"⟩
abbrev cX8_fonder : ByteArray := prog_10_method_55_code
def yX8_fonder : MethodName := ⟨RX8, "fonder", "(III)I"⟩
abbrev cX8_gcd : ByteArray := prog_10_method_56_code
def yX8_gcd : MethodName := ⟨RX8, "gcd", "(JJ)J"⟩
abbrev cX8_mean : ByteArray := prog_10_method_57_code
def yX8_mean : MethodName := ⟨RX8, "mean", "(I)J"⟩
abbrev cX8_isSheet : ByteArray := prog_10_method_58_code
def yX8_isSheet : MethodName := ⟨RX8, "isSheet", "(I)Z"⟩
abbrev cX8_sheet : ByteArray := prog_10_method_59_code
def yX8_sheet : MethodName := ⟨RX8, "sheet", "(III)I"⟩
abbrev cX8_cell : ByteArray := prog_10_method_60_code
def yX8_cell : MethodName := ⟨RX8, "cell", "(III)I"⟩
abbrev cX8_copy : ByteArray := prog_10_method_61_code
def yX8_copy : MethodName := ⟨RX8, "copy", "(IIIII)I"⟩
abbrev cX8_court : ByteArray := prog_10_method_62_code
def yX8_court : MethodName := ⟨RX8, "court", "(IIII)I"⟩
abbrev cX8_taken : ByteArray := prog_10_method_63_code
def yX8_taken : MethodName := ⟨RX8, "taken", "(II)I"⟩
abbrev cX8_otherwise : ByteArray := prog_10_method_64_code
def yX8_otherwise : MethodName := ⟨RX8, "otherwise", "(II)I"⟩
abbrev cX8_fits : ByteArray := prog_10_method_65_code
def yX8_fits : MethodName := ⟨RX8, "fits", "(IIII)I"⟩
abbrev cX8_tiredBy : ByteArray := prog_10_method_66_code
def yX8_tiredBy : MethodName := ⟨RX8, "tiredBy", "(IIIZ)I"⟩
abbrev cX8_tells : ByteArray := prog_10_method_67_code
def yX8_tells : MethodName := ⟨RX8, "tells", "(IIII)I"⟩
abbrev cX8_film : ByteArray := prog_10_method_68_code
def yX8_film : MethodName := ⟨RX8, "film", "(III)I"⟩
abbrev cX8_drawn : ByteArray := prog_10_method_69_code
def yX8_drawn : MethodName := ⟨RX8, "drawn", "(II)I"⟩
abbrev cX8_chance : ByteArray := prog_10_method_70_code
def yX8_chance : MethodName := ⟨RX8, "chance", "(IIII)J"⟩
abbrev cX8_image : ByteArray := prog_10_method_71_code
def yX8_image : MethodName := ⟨RX8, "image", "()I"⟩
abbrev cX8_back : ByteArray := prog_10_method_72_code
def yX8_back : MethodName := ⟨RX8, "back", "()I"⟩
abbrev cX8_alone : ByteArray := prog_10_method_73_code
def yX8_alone : MethodName := ⟨RX8, "alone", "()I"⟩
abbrev cX8_count : ByteArray := prog_10_method_74_code
def yX8_count : MethodName := ⟨RX8, "count", "(I)I"⟩
def RJ6 : String := "java/lang/Integer"
def TJ6 : u_T := fun k => match k with
  | _ => ("", "", "", false)
def tyJ6 : Nat → FieldType := fun k => match k with
  | _ => .int
abbrev wsJ60 : List Cond := u_ws RJ6 TJ6 0
abbrev cJ6_bitCount_0f7a4 : ByteArray := prog_11_method_49_code
def yJ6_bitCount_0f7a4 : MethodName := ⟨RJ6, "bitCount", "(I)I"⟩
def RJ9 : String := "java/lang/Math"
def TJ9 : u_T := fun k => match k with
  | _ => ("", "", "", false)
def tyJ9 : Nat → FieldType := fun k => match k with
  | _ => .int
abbrev wsJ90 : List Cond := u_ws RJ9 TJ9 0
abbrev cJ9_max_7cf53 : ByteArray := prog_12_method_65_code
def yJ9_max_7cf53 : MethodName := ⟨RJ9, "max", "(II)I"⟩
abbrev cJ9_min_7cf53 : ByteArray := prog_12_method_69_code
def yJ9_min_7cf53 : MethodName := ⟨RJ9, "min", "(II)I"⟩
def RJ0 : String := "java/lang/String"
def TJ0 : u_T := fun k => match k with
  | _ => ("", "", "", false)
def tyJ0 : Nat → FieldType := fun k => match k with
  | _ => .int
abbrev wsJ00 : List Cond := u_ws RJ0 TJ0 0
abbrev cJ0_length_8abf5 : ByteArray := prog_13_method_54_code
def yJ0_length_8abf5 : MethodName := ⟨RJ0, "length", "()I"⟩
abbrev cJ0_charAt_5068e : ByteArray := prog_13_method_56_code
def yJ0_charAt_5068e : MethodName := ⟨RJ0, "charAt", "(I)C"⟩
abbrev cJ0_coder_7d493 : ByteArray := prog_13_method_152_code
def yJ0_coder_7d493 : MethodName := ⟨RJ0, "coder", "()B"⟩
abbrev cJ0_isLatin1_aae02 : ByteArray := prog_13_method_154_code
def yJ0_isLatin1_aae02 : MethodName := ⟨RJ0, "isLatin1", "()Z"⟩
abbrev cJ0_checkIndex_df160 : ByteArray := prog_13_method_155_code
def yJ0_checkIndex_df160 : MethodName := ⟨RJ0, "checkIndex", "(II)V"⟩
def RJ1 : String := "java/lang/StringLatin1"
def TJ1 : u_T := fun k => match k with
  | _ => ("", "", "", false)
def tyJ1 : Nat → FieldType := fun k => match k with
  | _ => .int
abbrev wsJ10 : List Cond := u_ws RJ1 TJ1 0
abbrev cJ1_charAt_3b067 : ByteArray := prog_14_method_2_code
def yJ1_charAt_3b067 : MethodName := ⟨RJ1, "charAt", "([BI)C"⟩
def RJ2 : String := "java/lang/StringUTF16"
def TJ2 : u_T := fun k => match k with
  | _ => ("", "", "", false)
def tyJ2 : Nat → FieldType := fun k => match k with
  | _ => .int
abbrev wsJ20 : List Cond := u_ws RJ2 TJ2 0
abbrev cJ2_getChar_3b067 : ByteArray := prog_15_method_5_code
def yJ2_getChar_3b067 : MethodName := ⟨RJ2, "getChar", "([BI)C"⟩
abbrev cJ2_length_9d52b : ByteArray := prog_15_method_6_code
def yJ2_length_9d52b : MethodName := ⟨RJ2, "length", "([B)I"⟩
abbrev cJ2_charAt_3b067 : ByteArray := prog_15_method_83_code
def yJ2_charAt_3b067 : MethodName := ⟨RJ2, "charAt", "([BI)C"⟩
abbrev cJ2_checkIndex_2214a : ByteArray := prog_15_method_91_code
def yJ2_checkIndex_2214a : MethodName := ⟨RJ2, "checkIndex", "(I[B)V"⟩
def RJ10 : String := "java/lang/System"
def TJ10 : u_T := fun k => match k with
  | _ => ("", "", "", false)
def tyJ10 : Nat → FieldType := fun k => match k with
  | _ => .int
abbrev wsJ100 : List Cond := u_ws RJ10 TJ10 0
def RJ3 : String := "jdk/internal/util/Preconditions"
def TJ3 : u_T := fun k => match k with
  | _ => ("", "", "", false)
def tyJ3 : Nat → FieldType := fun k => match k with
  | _ => .int
abbrev wsJ30 : List Cond := u_ws RJ3 TJ3 0
abbrev cJ3_checkIndex_8e157 : ByteArray := prog_17_method_11_code
def yJ3_checkIndex_8e157 : MethodName := ⟨RJ3, "checkIndex", "(IILjava/util/function/BiFunction;)I"⟩
def RL : String := "AlarmsOfFondnessLaw"
abbrev cL_law : ByteArray := code
def yL_law : MethodName := ⟨RL, "law", "([I)Z"⟩
abbrev vwCl : List vw_C := [(RX0, TX0, 6), (RX1, TX1, 10), (RX2, TX2, 8), (RX3, TX3, 4), (RX4, TX4, 3), (RX5, TX5, 3), (RX6, TX6, 4), (RX7, TX7, 9), (RX8, TX8, 31)]
end
section
theorem dX1_init_0 : decode cX1_init 0 = .ok (.aload_n 0, 1) := by decide +kernel
theorem dX1_init_1 : decode cX1_init 1 = .ok (.invokespecial 3, 3) := by decide +kernel
theorem dX1_init_4 : decode cX1_init 4 = .ok (.aload_n 0, 1) := by decide +kernel
theorem dX1_init_5 : decode cX1_init 5 = .ok (.iconst 5, 1) := by decide +kernel
theorem dX1_init_6 : decode cX1_init 6 = .ok (.newarray .int, 2) := by decide +kernel
theorem dX1_init_8 : decode cX1_init 8 = .ok (.putfield 9, 3) := by decide +kernel
theorem dX1_init_11 : decode cX1_init 11 = .ok (.aload_n 0, 1) := by decide +kernel
theorem dX1_init_12 : decode cX1_init 12 = .ok (.iconst 5, 1) := by decide +kernel
theorem dX1_init_13 : decode cX1_init 13 = .ok (.newarray .int, 2) := by decide +kernel
theorem dX1_init_15 : decode cX1_init 15 = .ok (.putfield 15, 3) := by decide +kernel
theorem dX1_init_18 : decode cX1_init 18 = .ok (.aload_n 0, 1) := by decide +kernel
theorem dX1_init_19 : decode cX1_init 19 = .ok (.iconst 5, 1) := by decide +kernel
theorem dX1_init_20 : decode cX1_init 20 = .ok (.newarray .int, 2) := by decide +kernel
theorem dX1_init_22 : decode cX1_init 22 = .ok (.putfield 18, 3) := by decide +kernel
theorem dX1_init_25 : decode cX1_init 25 = .ok (.aload_n 0, 1) := by decide +kernel
theorem dX1_init_26 : decode cX1_init 26 = .ok (.iconst 5, 1) := by decide +kernel
theorem dX1_init_27 : decode cX1_init 27 = .ok (.newarray .int, 2) := by decide +kernel
theorem dX1_init_29 : decode cX1_init 29 = .ok (.putfield 21, 3) := by decide +kernel
theorem dX1_init_32 : decode cX1_init 32 = .ok (.aload_n 0, 1) := by decide +kernel
theorem dX1_init_33 : decode cX1_init 33 = .ok (.iconst 5, 1) := by decide +kernel
theorem dX1_init_34 : decode cX1_init 34 = .ok (.newarray .int, 2) := by decide +kernel
theorem dX1_init_36 : decode cX1_init 36 = .ok (.putfield 24, 3) := by decide +kernel
theorem dX1_init_39 : decode cX1_init 39 = .ok (.aload_n 0, 1) := by decide +kernel
theorem dX1_init_40 : decode cX1_init 40 = .ok (.iconst 5, 1) := by decide +kernel
theorem dX1_init_41 : decode cX1_init 41 = .ok (.newarray .int, 2) := by decide +kernel
theorem dX1_init_43 : decode cX1_init 43 = .ok (.putfield 27, 3) := by decide +kernel
theorem dX1_init_46 : decode cX1_init 46 = .ok (.aload_n 0, 1) := by decide +kernel
theorem dX1_init_47 : decode cX1_init 47 = .ok (.bipush 25, 2) := by decide +kernel
theorem dX1_init_49 : decode cX1_init 49 = .ok (.newarray .int, 2) := by decide +kernel
theorem dX1_init_51 : decode cX1_init 51 = .ok (.putfield 30, 3) := by decide +kernel
theorem dX1_init_54 : decode cX1_init 54 = .ok (.return_, 1) := by decide +kernel
theorem dX1_copyFrom_0 : decode cX1_copyFrom 0 = .ok (.aload_n 1, 1) := by decide +kernel
theorem dX1_copyFrom_1 : decode cX1_copyFrom 1 = .ok (.getfield 9, 3) := by decide +kernel
theorem dX1_copyFrom_4 : decode cX1_copyFrom 4 = .ok (.iconst 0, 1) := by decide +kernel
theorem dX1_copyFrom_5 : decode cX1_copyFrom 5 = .ok (.aload_n 0, 1) := by decide +kernel
theorem dX1_copyFrom_6 : decode cX1_copyFrom 6 = .ok (.getfield 9, 3) := by decide +kernel
theorem dX1_copyFrom_9 : decode cX1_copyFrom 9 = .ok (.iconst 0, 1) := by decide +kernel
theorem dX1_copyFrom_10 : decode cX1_copyFrom 10 = .ok (.iconst 5, 1) := by decide +kernel
theorem dX1_copyFrom_11 : decode cX1_copyFrom 11 = .ok (.invokestatic 33, 3) := by decide +kernel
theorem dX1_copyFrom_14 : decode cX1_copyFrom 14 = .ok (.aload_n 1, 1) := by decide +kernel
theorem dX1_copyFrom_15 : decode cX1_copyFrom 15 = .ok (.getfield 15, 3) := by decide +kernel
theorem dX1_copyFrom_18 : decode cX1_copyFrom 18 = .ok (.iconst 0, 1) := by decide +kernel
theorem dX1_copyFrom_19 : decode cX1_copyFrom 19 = .ok (.aload_n 0, 1) := by decide +kernel
theorem dX1_copyFrom_20 : decode cX1_copyFrom 20 = .ok (.getfield 15, 3) := by decide +kernel
theorem dX1_copyFrom_23 : decode cX1_copyFrom 23 = .ok (.iconst 0, 1) := by decide +kernel
theorem dX1_copyFrom_24 : decode cX1_copyFrom 24 = .ok (.iconst 5, 1) := by decide +kernel
theorem dX1_copyFrom_25 : decode cX1_copyFrom 25 = .ok (.invokestatic 33, 3) := by decide +kernel
theorem dX1_copyFrom_28 : decode cX1_copyFrom 28 = .ok (.aload_n 1, 1) := by decide +kernel
theorem dX1_copyFrom_29 : decode cX1_copyFrom 29 = .ok (.getfield 18, 3) := by decide +kernel
theorem dX1_copyFrom_32 : decode cX1_copyFrom 32 = .ok (.iconst 0, 1) := by decide +kernel
theorem dX1_copyFrom_33 : decode cX1_copyFrom 33 = .ok (.aload_n 0, 1) := by decide +kernel
theorem dX1_copyFrom_34 : decode cX1_copyFrom 34 = .ok (.getfield 18, 3) := by decide +kernel
theorem dX1_copyFrom_37 : decode cX1_copyFrom 37 = .ok (.iconst 0, 1) := by decide +kernel
theorem dX1_copyFrom_38 : decode cX1_copyFrom 38 = .ok (.iconst 5, 1) := by decide +kernel
theorem dX1_copyFrom_39 : decode cX1_copyFrom 39 = .ok (.invokestatic 33, 3) := by decide +kernel
theorem dX1_copyFrom_42 : decode cX1_copyFrom 42 = .ok (.aload_n 1, 1) := by decide +kernel
theorem dX1_copyFrom_43 : decode cX1_copyFrom 43 = .ok (.getfield 21, 3) := by decide +kernel
theorem dX1_copyFrom_46 : decode cX1_copyFrom 46 = .ok (.iconst 0, 1) := by decide +kernel
theorem dX1_copyFrom_47 : decode cX1_copyFrom 47 = .ok (.aload_n 0, 1) := by decide +kernel
theorem dX1_copyFrom_48 : decode cX1_copyFrom 48 = .ok (.getfield 21, 3) := by decide +kernel
theorem dX1_copyFrom_51 : decode cX1_copyFrom 51 = .ok (.iconst 0, 1) := by decide +kernel
theorem dX1_copyFrom_52 : decode cX1_copyFrom 52 = .ok (.iconst 5, 1) := by decide +kernel
theorem dX1_copyFrom_53 : decode cX1_copyFrom 53 = .ok (.invokestatic 33, 3) := by decide +kernel
theorem dX1_copyFrom_56 : decode cX1_copyFrom 56 = .ok (.aload_n 1, 1) := by decide +kernel
theorem dX1_copyFrom_57 : decode cX1_copyFrom 57 = .ok (.getfield 24, 3) := by decide +kernel
theorem dX1_copyFrom_60 : decode cX1_copyFrom 60 = .ok (.iconst 0, 1) := by decide +kernel
theorem dX1_copyFrom_61 : decode cX1_copyFrom 61 = .ok (.aload_n 0, 1) := by decide +kernel
theorem dX1_copyFrom_62 : decode cX1_copyFrom 62 = .ok (.getfield 24, 3) := by decide +kernel
theorem dX1_copyFrom_65 : decode cX1_copyFrom 65 = .ok (.iconst 0, 1) := by decide +kernel
theorem dX1_copyFrom_66 : decode cX1_copyFrom 66 = .ok (.iconst 5, 1) := by decide +kernel
theorem dX1_copyFrom_67 : decode cX1_copyFrom 67 = .ok (.invokestatic 33, 3) := by decide +kernel
theorem dX1_copyFrom_70 : decode cX1_copyFrom 70 = .ok (.aload_n 1, 1) := by decide +kernel
theorem dX1_copyFrom_71 : decode cX1_copyFrom 71 = .ok (.getfield 27, 3) := by decide +kernel
theorem dX1_copyFrom_74 : decode cX1_copyFrom 74 = .ok (.iconst 0, 1) := by decide +kernel
theorem dX1_copyFrom_75 : decode cX1_copyFrom 75 = .ok (.aload_n 0, 1) := by decide +kernel
theorem dX1_copyFrom_76 : decode cX1_copyFrom 76 = .ok (.getfield 27, 3) := by decide +kernel
theorem dX1_copyFrom_79 : decode cX1_copyFrom 79 = .ok (.iconst 0, 1) := by decide +kernel
theorem dX1_copyFrom_80 : decode cX1_copyFrom 80 = .ok (.iconst 5, 1) := by decide +kernel
theorem dX1_copyFrom_81 : decode cX1_copyFrom 81 = .ok (.invokestatic 33, 3) := by decide +kernel
theorem dX1_copyFrom_84 : decode cX1_copyFrom 84 = .ok (.aload_n 1, 1) := by decide +kernel
theorem dX1_copyFrom_85 : decode cX1_copyFrom 85 = .ok (.getfield 30, 3) := by decide +kernel
theorem dX1_copyFrom_88 : decode cX1_copyFrom 88 = .ok (.iconst 0, 1) := by decide +kernel
theorem dX1_copyFrom_89 : decode cX1_copyFrom 89 = .ok (.aload_n 0, 1) := by decide +kernel
theorem dX1_copyFrom_90 : decode cX1_copyFrom 90 = .ok (.getfield 30, 3) := by decide +kernel
theorem dX1_copyFrom_93 : decode cX1_copyFrom 93 = .ok (.iconst 0, 1) := by decide +kernel
theorem dX1_copyFrom_94 : decode cX1_copyFrom 94 = .ok (.bipush 25, 2) := by decide +kernel
theorem dX1_copyFrom_96 : decode cX1_copyFrom 96 = .ok (.invokestatic 33, 3) := by decide +kernel
theorem dX1_copyFrom_99 : decode cX1_copyFrom 99 = .ok (.aload_n 0, 1) := by decide +kernel
theorem dX1_copyFrom_100 : decode cX1_copyFrom 100 = .ok (.aload_n 1, 1) := by decide +kernel
theorem dX1_copyFrom_101 : decode cX1_copyFrom 101 = .ok (.getfield 39, 3) := by decide +kernel
theorem dX1_copyFrom_104 : decode cX1_copyFrom 104 = .ok (.putfield 39, 3) := by decide +kernel
theorem dX1_copyFrom_107 : decode cX1_copyFrom 107 = .ok (.aload_n 0, 1) := by decide +kernel
theorem dX1_copyFrom_108 : decode cX1_copyFrom 108 = .ok (.aload_n 1, 1) := by decide +kernel
theorem dX1_copyFrom_109 : decode cX1_copyFrom 109 = .ok (.getfield 43, 3) := by decide +kernel
theorem dX1_copyFrom_112 : decode cX1_copyFrom 112 = .ok (.putfield 43, 3) := by decide +kernel
theorem dX1_copyFrom_115 : decode cX1_copyFrom 115 = .ok (.aload_n 0, 1) := by decide +kernel
theorem dX1_copyFrom_116 : decode cX1_copyFrom 116 = .ok (.aload_n 1, 1) := by decide +kernel
theorem dX1_copyFrom_117 : decode cX1_copyFrom 117 = .ok (.getfield 46, 3) := by decide +kernel
theorem dX1_copyFrom_120 : decode cX1_copyFrom 120 = .ok (.putfield 46, 3) := by decide +kernel
theorem dX1_copyFrom_123 : decode cX1_copyFrom 123 = .ok (.return_, 1) := by decide +kernel
theorem dX1_many_0 : decode cX1_many 0 = .ok (.aload_n 0, 1) := by decide +kernel
theorem dX1_many_1 : decode cX1_many 1 = .ok (.getfield 39, 3) := by decide +kernel
theorem dX1_many_4 : decode cX1_many 4 = .ok (.ireturn, 1) := by decide +kernel
theorem dX1_today_0 : decode cX1_today 0 = .ok (.aload_n 0, 1) := by decide +kernel
theorem dX1_today_1 : decode cX1_today 1 = .ok (.getfield 43, 3) := by decide +kernel
theorem dX1_today_4 : decode cX1_today 4 = .ok (.ireturn, 1) := by decide +kernel
theorem dX1_rule_0 : decode cX1_rule 0 = .ok (.aload_n 0, 1) := by decide +kernel
theorem dX1_rule_1 : decode cX1_rule 1 = .ok (.getfield 46, 3) := by decide +kernel
theorem dX1_rule_4 : decode cX1_rule 4 = .ok (.ireturn, 1) := by decide +kernel
theorem dX1_has_0 : decode cX1_has 0 = .ok (.iload_n 1, 1) := by decide +kernel
theorem dX1_has_1 : decode cX1_has 1 = .ok (.ifCond .lt 15, 3) := by decide +kernel
theorem dX1_has_4 : decode cX1_has 4 = .ok (.iload_n 1, 1) := by decide +kernel
theorem dX1_has_5 : decode cX1_has 5 = .ok (.aload_n 0, 1) := by decide +kernel
theorem dX1_has_6 : decode cX1_has 6 = .ok (.getfield 39, 3) := by decide +kernel
theorem dX1_has_9 : decode cX1_has 9 = .ok (.if_icmp .ge 7, 3) := by decide +kernel
theorem dX1_has_12 : decode cX1_has 12 = .ok (.iconst 1, 1) := by decide +kernel
theorem dX1_has_13 : decode cX1_has 13 = .ok (.goto 4, 3) := by decide +kernel
theorem dX1_has_16 : decode cX1_has 16 = .ok (.iconst 0, 1) := by decide +kernel
theorem dX1_has_17 : decode cX1_has 17 = .ok (.ireturn, 1) := by decide +kernel
theorem dX1_hasTwo_0 : decode cX1_hasTwo 0 = .ok (.aload_n 0, 1) := by decide +kernel
theorem dX1_hasTwo_1 : decode cX1_hasTwo 1 = .ok (.iload_n 1, 1) := by decide +kernel
theorem dX1_hasTwo_2 : decode cX1_hasTwo 2 = .ok (.invokevirtual 49, 3) := by decide +kernel
theorem dX1_hasTwo_5 : decode cX1_hasTwo 5 = .ok (.ifCond .eq 20, 3) := by decide +kernel
theorem dX1_hasTwo_8 : decode cX1_hasTwo 8 = .ok (.aload_n 0, 1) := by decide +kernel
theorem dX1_hasTwo_9 : decode cX1_hasTwo 9 = .ok (.iload_n 2, 1) := by decide +kernel
theorem dX1_hasTwo_10 : decode cX1_hasTwo 10 = .ok (.invokevirtual 49, 3) := by decide +kernel
theorem dX1_hasTwo_13 : decode cX1_hasTwo 13 = .ok (.ifCond .eq 12, 3) := by decide +kernel
theorem dX1_hasTwo_16 : decode cX1_hasTwo 16 = .ok (.iload_n 1, 1) := by decide +kernel
theorem dX1_hasTwo_17 : decode cX1_hasTwo 17 = .ok (.iload_n 2, 1) := by decide +kernel
theorem dX1_hasTwo_18 : decode cX1_hasTwo 18 = .ok (.if_icmp .eq 7, 3) := by decide +kernel
theorem dX1_hasTwo_21 : decode cX1_hasTwo 21 = .ok (.iconst 1, 1) := by decide +kernel
theorem dX1_hasTwo_22 : decode cX1_hasTwo 22 = .ok (.goto 4, 3) := by decide +kernel
theorem dX1_hasTwo_25 : decode cX1_hasTwo 25 = .ok (.iconst 0, 1) := by decide +kernel
theorem dX1_hasTwo_26 : decode cX1_hasTwo 26 = .ok (.ireturn, 1) := by decide +kernel
theorem dX1_hasPlace_0 : decode cX1_hasPlace 0 = .ok (.iload_n 1, 1) := by decide +kernel
theorem dX1_hasPlace_1 : decode cX1_hasPlace 1 = .ok (.ifCond .ne 5, 3) := by decide +kernel
theorem dX1_hasPlace_4 : decode cX1_hasPlace 4 = .ok (.iconst 1, 1) := by decide +kernel
theorem dX1_hasPlace_5 : decode cX1_hasPlace 5 = .ok (.ireturn, 1) := by decide +kernel
theorem dX1_hasPlace_6 : decode cX1_hasPlace 6 = .ok (.iload_n 1, 1) := by decide +kernel
theorem dX1_hasPlace_7 : decode cX1_hasPlace 7 = .ok (.bipush 6, 2) := by decide +kernel
theorem dX1_hasPlace_9 : decode cX1_hasPlace 9 = .ok (.if_icmp .ne 46, 3) := by decide +kernel
theorem dX1_hasPlace_12 : decode cX1_hasPlace 12 = .ok (.iload_n 2, 1) := by decide +kernel
theorem dX1_hasPlace_13 : decode cX1_hasPlace 13 = .ok (.ifCond .lt 40, 3) := by decide +kernel
theorem dX1_hasPlace_16 : decode cX1_hasPlace 16 = .ok (.iload_n 2, 1) := by decide +kernel
theorem dX1_hasPlace_17 : decode cX1_hasPlace 17 = .ok (.bipush 10, 2) := by decide +kernel
theorem dX1_hasPlace_19 : decode cX1_hasPlace 19 = .ok (.idiv, 1) := by decide +kernel
theorem dX1_hasPlace_20 : decode cX1_hasPlace 20 = .ok (.aload_n 0, 1) := by decide +kernel
theorem dX1_hasPlace_21 : decode cX1_hasPlace 21 = .ok (.getfield 39, 3) := by decide +kernel
theorem dX1_hasPlace_24 : decode cX1_hasPlace 24 = .ok (.if_icmp .ge 29, 3) := by decide +kernel
theorem dX1_hasPlace_27 : decode cX1_hasPlace 27 = .ok (.iload_n 2, 1) := by decide +kernel
theorem dX1_hasPlace_28 : decode cX1_hasPlace 28 = .ok (.bipush 10, 2) := by decide +kernel
theorem dX1_hasPlace_30 : decode cX1_hasPlace 30 = .ok (.irem, 1) := by decide +kernel
theorem dX1_hasPlace_31 : decode cX1_hasPlace 31 = .ok (.aload_n 0, 1) := by decide +kernel
theorem dX1_hasPlace_32 : decode cX1_hasPlace 32 = .ok (.getfield 39, 3) := by decide +kernel
theorem dX1_hasPlace_35 : decode cX1_hasPlace 35 = .ok (.if_icmp .ge 18, 3) := by decide +kernel
theorem dX1_hasPlace_38 : decode cX1_hasPlace 38 = .ok (.iload_n 2, 1) := by decide +kernel
theorem dX1_hasPlace_39 : decode cX1_hasPlace 39 = .ok (.bipush 10, 2) := by decide +kernel
theorem dX1_hasPlace_41 : decode cX1_hasPlace 41 = .ok (.idiv, 1) := by decide +kernel
theorem dX1_hasPlace_42 : decode cX1_hasPlace 42 = .ok (.iload_n 2, 1) := by decide +kernel
theorem dX1_hasPlace_43 : decode cX1_hasPlace 43 = .ok (.bipush 10, 2) := by decide +kernel
theorem dX1_hasPlace_45 : decode cX1_hasPlace 45 = .ok (.irem, 1) := by decide +kernel
theorem dX1_hasPlace_46 : decode cX1_hasPlace 46 = .ok (.if_icmp .eq 7, 3) := by decide +kernel
theorem dX1_hasPlace_49 : decode cX1_hasPlace 49 = .ok (.iconst 1, 1) := by decide +kernel
theorem dX1_hasPlace_50 : decode cX1_hasPlace 50 = .ok (.goto 4, 3) := by decide +kernel
theorem dX1_hasPlace_53 : decode cX1_hasPlace 53 = .ok (.iconst 0, 1) := by decide +kernel
theorem dX1_hasPlace_54 : decode cX1_hasPlace 54 = .ok (.ireturn, 1) := by decide +kernel
theorem dX1_hasPlace_55 : decode cX1_hasPlace 55 = .ok (.aload_n 0, 1) := by decide +kernel
theorem dX1_hasPlace_56 : decode cX1_hasPlace 56 = .ok (.iload_n 2, 1) := by decide +kernel
theorem dX1_hasPlace_57 : decode cX1_hasPlace 57 = .ok (.invokevirtual 49, 3) := by decide +kernel
theorem dX1_hasPlace_60 : decode cX1_hasPlace 60 = .ok (.ireturn, 1) := by decide +kernel
theorem dX1_get_0 : decode cX1_get 0 = .ok (.iload_n 1, 1) := by decide +kernel
theorem dX1_get_1 : decode cX1_get 1 = .ok (.ifCond .ne 8, 3) := by decide +kernel
theorem dX1_get_4 : decode cX1_get 4 = .ok (.aload_n 0, 1) := by decide +kernel
theorem dX1_get_5 : decode cX1_get 5 = .ok (.getfield 43, 3) := by decide +kernel
theorem dX1_get_8 : decode cX1_get 8 = .ok (.ireturn, 1) := by decide +kernel
theorem dX1_get_9 : decode cX1_get 9 = .ok (.aload_n 0, 1) := by decide +kernel
theorem dX1_get_10 : decode cX1_get 10 = .ok (.iload_n 1, 1) := by decide +kernel
theorem dX1_get_11 : decode cX1_get 11 = .ok (.iload_n 2, 1) := by decide +kernel
theorem dX1_get_12 : decode cX1_get 12 = .ok (.invokevirtual 53, 3) := by decide +kernel
theorem dX1_get_15 : decode cX1_get 15 = .ok (.ifCond .eq 17, 3) := by decide +kernel
theorem dX1_get_18 : decode cX1_get 18 = .ok (.aload_n 0, 1) := by decide +kernel
theorem dX1_get_19 : decode cX1_get 19 = .ok (.iload_n 1, 1) := by decide +kernel
theorem dX1_get_20 : decode cX1_get 20 = .ok (.invokevirtual 57, 3) := by decide +kernel
theorem dX1_get_23 : decode cX1_get 23 = .ok (.iload_n 1, 1) := by decide +kernel
theorem dX1_get_24 : decode cX1_get 24 = .ok (.iload_n 2, 1) := by decide +kernel
theorem dX1_get_25 : decode cX1_get 25 = .ok (.invokestatic 61, 3) := by decide +kernel
theorem dX1_get_28 : decode cX1_get 28 = .ok (.iaload, 1) := by decide +kernel
theorem dX1_get_29 : decode cX1_get 29 = .ok (.goto 4, 3) := by decide +kernel
theorem dX1_get_32 : decode cX1_get 32 = .ok (.iconst (-1), 1) := by decide +kernel
theorem dX1_get_33 : decode cX1_get 33 = .ok (.ireturn, 1) := by decide +kernel
theorem dX1_put_0 : decode cX1_put 0 = .ok (.iload_n 1, 1) := by decide +kernel
theorem dX1_put_1 : decode cX1_put 1 = .ok (.ifCond .ne 11, 3) := by decide +kernel
theorem dX1_put_4 : decode cX1_put 4 = .ok (.aload_n 0, 1) := by decide +kernel
theorem dX1_put_5 : decode cX1_put 5 = .ok (.iload_n 3, 1) := by decide +kernel
theorem dX1_put_6 : decode cX1_put 6 = .ok (.putfield 43, 3) := by decide +kernel
theorem dX1_put_9 : decode cX1_put 9 = .ok (.goto 44, 3) := by decide +kernel
theorem dX1_put_12 : decode cX1_put 12 = .ok (.iload_n 1, 1) := by decide +kernel
theorem dX1_put_13 : decode cX1_put 13 = .ok (.bipush 8, 2) := by decide +kernel
theorem dX1_put_15 : decode cX1_put 15 = .ok (.if_icmp .ne 11, 3) := by decide +kernel
theorem dX1_put_18 : decode cX1_put 18 = .ok (.aload_n 0, 1) := by decide +kernel
theorem dX1_put_19 : decode cX1_put 19 = .ok (.iload_n 3, 1) := by decide +kernel
theorem dX1_put_20 : decode cX1_put 20 = .ok (.putfield 46, 3) := by decide +kernel
theorem dX1_put_23 : decode cX1_put 23 = .ok (.goto 30, 3) := by decide +kernel
theorem dX1_put_26 : decode cX1_put 26 = .ok (.iload_n 1, 1) := by decide +kernel
theorem dX1_put_27 : decode cX1_put 27 = .ok (.bipush 9, 2) := by decide +kernel
theorem dX1_put_29 : decode cX1_put 29 = .ok (.if_icmp .eq 24, 3) := by decide +kernel
theorem dX1_put_32 : decode cX1_put 32 = .ok (.aload_n 0, 1) := by decide +kernel
theorem dX1_put_33 : decode cX1_put 33 = .ok (.iload_n 1, 1) := by decide +kernel
theorem dX1_put_34 : decode cX1_put 34 = .ok (.iload_n 2, 1) := by decide +kernel
theorem dX1_put_35 : decode cX1_put 35 = .ok (.invokevirtual 53, 3) := by decide +kernel
theorem dX1_put_38 : decode cX1_put 38 = .ok (.ifCond .eq 15, 3) := by decide +kernel
theorem dX1_put_41 : decode cX1_put 41 = .ok (.aload_n 0, 1) := by decide +kernel
theorem dX1_put_42 : decode cX1_put 42 = .ok (.iload_n 1, 1) := by decide +kernel
theorem dX1_put_43 : decode cX1_put 43 = .ok (.invokevirtual 57, 3) := by decide +kernel
theorem dX1_put_46 : decode cX1_put 46 = .ok (.iload_n 1, 1) := by decide +kernel
theorem dX1_put_47 : decode cX1_put 47 = .ok (.iload_n 2, 1) := by decide +kernel
theorem dX1_put_48 : decode cX1_put 48 = .ok (.invokestatic 61, 3) := by decide +kernel
theorem dX1_put_51 : decode cX1_put 51 = .ok (.iload_n 3, 1) := by decide +kernel
theorem dX1_put_52 : decode cX1_put 52 = .ok (.iastore, 1) := by decide +kernel
theorem dX1_put_53 : decode cX1_put 53 = .ok (.return_, 1) := by decide +kernel
theorem dX1_placeIn_0 : decode cX1_placeIn 0 = .ok (.iload_n 0, 1) := by decide +kernel
theorem dX1_placeIn_1 : decode cX1_placeIn 1 = .ok (.bipush 6, 2) := by decide +kernel
theorem dX1_placeIn_3 : decode cX1_placeIn 3 = .ok (.if_icmp .ne 17, 3) := by decide +kernel
theorem dX1_placeIn_6 : decode cX1_placeIn 6 = .ok (.iload_n 1, 1) := by decide +kernel
theorem dX1_placeIn_7 : decode cX1_placeIn 7 = .ok (.bipush 10, 2) := by decide +kernel
theorem dX1_placeIn_9 : decode cX1_placeIn 9 = .ok (.idiv, 1) := by decide +kernel
theorem dX1_placeIn_10 : decode cX1_placeIn 10 = .ok (.iconst 5, 1) := by decide +kernel
theorem dX1_placeIn_11 : decode cX1_placeIn 11 = .ok (.imul, 1) := by decide +kernel
theorem dX1_placeIn_12 : decode cX1_placeIn 12 = .ok (.iload_n 1, 1) := by decide +kernel
theorem dX1_placeIn_13 : decode cX1_placeIn 13 = .ok (.bipush 10, 2) := by decide +kernel
theorem dX1_placeIn_15 : decode cX1_placeIn 15 = .ok (.irem, 1) := by decide +kernel
theorem dX1_placeIn_16 : decode cX1_placeIn 16 = .ok (.iadd, 1) := by decide +kernel
theorem dX1_placeIn_17 : decode cX1_placeIn 17 = .ok (.goto 4, 3) := by decide +kernel
theorem dX1_placeIn_20 : decode cX1_placeIn 20 = .ok (.iload_n 1, 1) := by decide +kernel
theorem dX1_placeIn_21 : decode cX1_placeIn 21 = .ok (.ireturn, 1) := by decide +kernel
theorem dX1_rowOf_0 : decode cX1_rowOf 0 = .ok (.iload_n 1, 1) := by decide +kernel
theorem dX1_rowOf_1 : decode cX1_rowOf 1 = .ok (.tableswitch 69 1 6 #[39, 44, 49, 54, 59, 64], 39) := by decide +kernel
theorem dX1_rowOf_40 : decode cX1_rowOf 40 = .ok (.aload_n 0, 1) := by decide +kernel
theorem dX1_rowOf_41 : decode cX1_rowOf 41 = .ok (.getfield 15, 3) := by decide +kernel
theorem dX1_rowOf_44 : decode cX1_rowOf 44 = .ok (.areturn, 1) := by decide +kernel
theorem dX1_rowOf_45 : decode cX1_rowOf 45 = .ok (.aload_n 0, 1) := by decide +kernel
theorem dX1_rowOf_46 : decode cX1_rowOf 46 = .ok (.getfield 18, 3) := by decide +kernel
theorem dX1_rowOf_49 : decode cX1_rowOf 49 = .ok (.areturn, 1) := by decide +kernel
theorem dX1_rowOf_50 : decode cX1_rowOf 50 = .ok (.aload_n 0, 1) := by decide +kernel
theorem dX1_rowOf_51 : decode cX1_rowOf 51 = .ok (.getfield 21, 3) := by decide +kernel
theorem dX1_rowOf_54 : decode cX1_rowOf 54 = .ok (.areturn, 1) := by decide +kernel
theorem dX1_rowOf_55 : decode cX1_rowOf 55 = .ok (.aload_n 0, 1) := by decide +kernel
theorem dX1_rowOf_56 : decode cX1_rowOf 56 = .ok (.getfield 24, 3) := by decide +kernel
theorem dX1_rowOf_59 : decode cX1_rowOf 59 = .ok (.areturn, 1) := by decide +kernel
theorem dX1_rowOf_60 : decode cX1_rowOf 60 = .ok (.aload_n 0, 1) := by decide +kernel
theorem dX1_rowOf_61 : decode cX1_rowOf 61 = .ok (.getfield 27, 3) := by decide +kernel
theorem dX1_rowOf_64 : decode cX1_rowOf 64 = .ok (.areturn, 1) := by decide +kernel
theorem dX1_rowOf_65 : decode cX1_rowOf 65 = .ok (.aload_n 0, 1) := by decide +kernel
theorem dX1_rowOf_66 : decode cX1_rowOf 66 = .ok (.getfield 30, 3) := by decide +kernel
theorem dX1_rowOf_69 : decode cX1_rowOf 69 = .ok (.areturn, 1) := by decide +kernel
theorem dX1_rowOf_70 : decode cX1_rowOf 70 = .ok (.aload_n 0, 1) := by decide +kernel
theorem dX1_rowOf_71 : decode cX1_rowOf 71 = .ok (.getfield 9, 3) := by decide +kernel
theorem dX1_rowOf_74 : decode cX1_rowOf 74 = .ok (.areturn, 1) := by decide +kernel
theorem dX1_come_0 : decode cX1_come 0 = .ok (.iload_n 1, 1) := by decide +kernel
theorem dX1_come_1 : decode cX1_come 1 = .ok (.ifCond .lt 32, 3) := by decide +kernel
theorem dX1_come_4 : decode cX1_come 4 = .ok (.iload_n 1, 1) := by decide +kernel
theorem dX1_come_5 : decode cX1_come 5 = .ok (.bipush 6, 2) := by decide +kernel
theorem dX1_come_7 : decode cX1_come 7 = .ok (.if_icmp .ge 26, 3) := by decide +kernel
theorem dX1_come_10 : decode cX1_come 10 = .ok (.iload_n 2, 1) := by decide +kernel
theorem dX1_come_11 : decode cX1_come 11 = .ok (.ifCond .lt 22, 3) := by decide +kernel
theorem dX1_come_14 : decode cX1_come 14 = .ok (.iload_n 2, 1) := by decide +kernel
theorem dX1_come_15 : decode cX1_come 15 = .ok (.getstatic 65, 3) := by decide +kernel
theorem dX1_come_18 : decode cX1_come 18 = .ok (.iconst 1, 1) := by decide +kernel
theorem dX1_come_19 : decode cX1_come 19 = .ok (.iaload, 1) := by decide +kernel
theorem dX1_come_20 : decode cX1_come 20 = .ok (.if_icmp .gt 13, 3) := by decide +kernel
theorem dX1_come_23 : decode cX1_come 23 = .ok (.iload_n 3, 1) := by decide +kernel
theorem dX1_come_24 : decode cX1_come 24 = .ok (.ifCond .lt 9, 3) := by decide +kernel
theorem dX1_come_27 : decode cX1_come 27 = .ok (.iload_n 3, 1) := by decide +kernel
theorem dX1_come_28 : decode cX1_come 28 = .ok (.bipush 24, 2) := by decide +kernel
theorem dX1_come_30 : decode cX1_come 30 = .ok (.if_icmp .lt 6, 3) := by decide +kernel
theorem dX1_come_33 : decode cX1_come 33 = .ok (.bipush (-2), 2) := by decide +kernel
theorem dX1_come_35 : decode cX1_come 35 = .ok (.ireturn, 1) := by decide +kernel
theorem dX1_come_36 : decode cX1_come 36 = .ok (.aload_n 0, 1) := by decide +kernel
theorem dX1_come_37 : decode cX1_come 37 = .ok (.getfield 39, 3) := by decide +kernel
theorem dX1_come_40 : decode cX1_come 40 = .ok (.iconst 5, 1) := by decide +kernel
theorem dX1_come_41 : decode cX1_come 41 = .ok (.if_icmp .lt 6, 3) := by decide +kernel
theorem dX1_come_44 : decode cX1_come 44 = .ok (.bipush (-4), 2) := by decide +kernel
theorem dX1_come_46 : decode cX1_come 46 = .ok (.ireturn, 1) := by decide +kernel
theorem dX1_come_47 : decode cX1_come 47 = .ok (.aload_n 0, 1) := by decide +kernel
theorem dX1_come_48 : decode cX1_come 48 = .ok (.getfield 39, 3) := by decide +kernel
theorem dX1_come_51 : decode cX1_come 51 = .ok (.istore 4, 2) := by decide +kernel
theorem dX1_come_53 : decode cX1_come 53 = .ok (.aload_n 0, 1) := by decide +kernel
theorem dX1_come_54 : decode cX1_come 54 = .ok (.dup, 1) := by decide +kernel
theorem dX1_come_55 : decode cX1_come 55 = .ok (.getfield 39, 3) := by decide +kernel
theorem dX1_come_58 : decode cX1_come 58 = .ok (.iconst 1, 1) := by decide +kernel
theorem dX1_come_59 : decode cX1_come 59 = .ok (.iadd, 1) := by decide +kernel
theorem dX1_come_60 : decode cX1_come 60 = .ok (.putfield 39, 3) := by decide +kernel
theorem dX1_come_63 : decode cX1_come 63 = .ok (.aload_n 0, 1) := by decide +kernel
theorem dX1_come_64 : decode cX1_come 64 = .ok (.getfield 9, 3) := by decide +kernel
theorem dX1_come_67 : decode cX1_come 67 = .ok (.iload 4, 2) := by decide +kernel
theorem dX1_come_69 : decode cX1_come 69 = .ok (.iload_n 1, 1) := by decide +kernel
theorem dX1_come_70 : decode cX1_come 70 = .ok (.iastore, 1) := by decide +kernel
theorem dX1_come_71 : decode cX1_come 71 = .ok (.aload_n 0, 1) := by decide +kernel
theorem dX1_come_72 : decode cX1_come 72 = .ok (.getfield 15, 3) := by decide +kernel
theorem dX1_come_75 : decode cX1_come 75 = .ok (.iload 4, 2) := by decide +kernel
theorem dX1_come_77 : decode cX1_come 77 = .ok (.iload_n 2, 1) := by decide +kernel
theorem dX1_come_78 : decode cX1_come 78 = .ok (.iastore, 1) := by decide +kernel
theorem dX1_come_79 : decode cX1_come 79 = .ok (.aload_n 0, 1) := by decide +kernel
theorem dX1_come_80 : decode cX1_come 80 = .ok (.getfield 18, 3) := by decide +kernel
theorem dX1_come_83 : decode cX1_come 83 = .ok (.iload 4, 2) := by decide +kernel
theorem dX1_come_85 : decode cX1_come 85 = .ok (.iload_n 3, 1) := by decide +kernel
theorem dX1_come_86 : decode cX1_come 86 = .ok (.iastore, 1) := by decide +kernel
theorem dX1_come_87 : decode cX1_come 87 = .ok (.aload_n 0, 1) := by decide +kernel
theorem dX1_come_88 : decode cX1_come 88 = .ok (.getfield 21, 3) := by decide +kernel
theorem dX1_come_91 : decode cX1_come 91 = .ok (.iload 4, 2) := by decide +kernel
theorem dX1_come_93 : decode cX1_come 93 = .ok (.iconst 0, 1) := by decide +kernel
theorem dX1_come_94 : decode cX1_come 94 = .ok (.iastore, 1) := by decide +kernel
theorem dX1_come_95 : decode cX1_come 95 = .ok (.aload_n 0, 1) := by decide +kernel
theorem dX1_come_96 : decode cX1_come 96 = .ok (.getfield 24, 3) := by decide +kernel
theorem dX1_come_99 : decode cX1_come 99 = .ok (.iload 4, 2) := by decide +kernel
theorem dX1_come_101 : decode cX1_come 101 = .ok (.iconst 0, 1) := by decide +kernel
theorem dX1_come_102 : decode cX1_come 102 = .ok (.iastore, 1) := by decide +kernel
theorem dX1_come_103 : decode cX1_come 103 = .ok (.aload_n 0, 1) := by decide +kernel
theorem dX1_come_104 : decode cX1_come 104 = .ok (.getfield 27, 3) := by decide +kernel
theorem dX1_come_107 : decode cX1_come 107 = .ok (.iload 4, 2) := by decide +kernel
theorem dX1_come_109 : decode cX1_come 109 = .ok (.iconst 0, 1) := by decide +kernel
theorem dX1_come_110 : decode cX1_come 110 = .ok (.iastore, 1) := by decide +kernel
theorem dX1_come_111 : decode cX1_come 111 = .ok (.iconst 0, 1) := by decide +kernel
theorem dX1_come_112 : decode cX1_come 112 = .ok (.istore 5, 2) := by decide +kernel
theorem dX1_come_114 : decode cX1_come 114 = .ok (.iload 5, 2) := by decide +kernel
theorem dX1_come_116 : decode cX1_come 116 = .ok (.iload 4, 2) := by decide +kernel
theorem dX1_come_118 : decode cX1_come 118 = .ok (.if_icmp .ge 35, 3) := by decide +kernel
theorem dX1_come_121 : decode cX1_come 121 = .ok (.aload_n 0, 1) := by decide +kernel
theorem dX1_come_122 : decode cX1_come 122 = .ok (.getfield 30, 3) := by decide +kernel
theorem dX1_come_125 : decode cX1_come 125 = .ok (.iload 4, 2) := by decide +kernel
theorem dX1_come_127 : decode cX1_come 127 = .ok (.iconst 5, 1) := by decide +kernel
theorem dX1_come_128 : decode cX1_come 128 = .ok (.imul, 1) := by decide +kernel
theorem dX1_come_129 : decode cX1_come 129 = .ok (.iload 5, 2) := by decide +kernel
theorem dX1_come_131 : decode cX1_come 131 = .ok (.iadd, 1) := by decide +kernel
theorem dX1_come_132 : decode cX1_come 132 = .ok (.iconst 1, 1) := by decide +kernel
theorem dX1_come_133 : decode cX1_come 133 = .ok (.iastore, 1) := by decide +kernel
theorem dX1_come_134 : decode cX1_come 134 = .ok (.aload_n 0, 1) := by decide +kernel
theorem dX1_come_135 : decode cX1_come 135 = .ok (.getfield 30, 3) := by decide +kernel
theorem dX1_come_138 : decode cX1_come 138 = .ok (.iload 5, 2) := by decide +kernel
theorem dX1_come_140 : decode cX1_come 140 = .ok (.iconst 5, 1) := by decide +kernel
theorem dX1_come_141 : decode cX1_come 141 = .ok (.imul, 1) := by decide +kernel
theorem dX1_come_142 : decode cX1_come 142 = .ok (.iload 4, 2) := by decide +kernel
theorem dX1_come_144 : decode cX1_come 144 = .ok (.iadd, 1) := by decide +kernel
theorem dX1_come_145 : decode cX1_come 145 = .ok (.iconst 1, 1) := by decide +kernel
theorem dX1_come_146 : decode cX1_come 146 = .ok (.iastore, 1) := by decide +kernel
theorem dX1_come_147 : decode cX1_come 147 = .ok (.iinc 5 1, 3) := by decide +kernel
theorem dX1_come_150 : decode cX1_come 150 = .ok (.goto (-36), 3) := by decide +kernel
theorem dX1_come_153 : decode cX1_come 153 = .ok (.iload 4, 2) := by decide +kernel
theorem dX1_come_155 : decode cX1_come 155 = .ok (.ireturn, 1) := by decide +kernel
theorem dX1_quarrel_0 : decode cX1_quarrel 0 = .ok (.aload_n 0, 1) := by decide +kernel
theorem dX1_quarrel_1 : decode cX1_quarrel 1 = .ok (.iload_n 1, 1) := by decide +kernel
theorem dX1_quarrel_2 : decode cX1_quarrel 2 = .ok (.iload_n 2, 1) := by decide +kernel
theorem dX1_quarrel_3 : decode cX1_quarrel 3 = .ok (.invokevirtual 68, 3) := by decide +kernel
theorem dX1_quarrel_6 : decode cX1_quarrel 6 = .ok (.ifCond .eq 14, 3) := by decide +kernel
theorem dX1_quarrel_9 : decode cX1_quarrel 9 = .ok (.aload_n 0, 1) := by decide +kernel
theorem dX1_quarrel_10 : decode cX1_quarrel 10 = .ok (.getfield 30, 3) := by decide +kernel
theorem dX1_quarrel_13 : decode cX1_quarrel 13 = .ok (.iload_n 1, 1) := by decide +kernel
theorem dX1_quarrel_14 : decode cX1_quarrel 14 = .ok (.iconst 5, 1) := by decide +kernel
theorem dX1_quarrel_15 : decode cX1_quarrel 15 = .ok (.imul, 1) := by decide +kernel
theorem dX1_quarrel_16 : decode cX1_quarrel 16 = .ok (.iload_n 2, 1) := by decide +kernel
theorem dX1_quarrel_17 : decode cX1_quarrel 17 = .ok (.iadd, 1) := by decide +kernel
theorem dX1_quarrel_18 : decode cX1_quarrel 18 = .ok (.iconst 0, 1) := by decide +kernel
theorem dX1_quarrel_19 : decode cX1_quarrel 19 = .ok (.iastore, 1) := by decide +kernel
theorem dX1_quarrel_20 : decode cX1_quarrel 20 = .ok (.return_, 1) := by decide +kernel
theorem dX1_setterOf_0 : decode cX1_setterOf 0 = .ok (.aload_n 0, 1) := by decide +kernel
theorem dX1_setterOf_1 : decode cX1_setterOf 1 = .ok (.iload_n 1, 1) := by decide +kernel
theorem dX1_setterOf_2 : decode cX1_setterOf 2 = .ok (.invokevirtual 49, 3) := by decide +kernel
theorem dX1_setterOf_5 : decode cX1_setterOf 5 = .ok (.ifCond .ne 5, 3) := by decide +kernel
theorem dX1_setterOf_8 : decode cX1_setterOf 8 = .ok (.iconst (-1), 1) := by decide +kernel
theorem dX1_setterOf_9 : decode cX1_setterOf 9 = .ok (.ireturn, 1) := by decide +kernel
theorem dX1_setterOf_10 : decode cX1_setterOf 10 = .ok (.iconst (-1), 1) := by decide +kernel
theorem dX1_setterOf_11 : decode cX1_setterOf 11 = .ok (.istore_n 2, 1) := by decide +kernel
theorem dX1_setterOf_12 : decode cX1_setterOf 12 = .ok (.iconst 0, 1) := by decide +kernel
theorem dX1_setterOf_13 : decode cX1_setterOf 13 = .ok (.istore_n 3, 1) := by decide +kernel
theorem dX1_setterOf_14 : decode cX1_setterOf 14 = .ok (.iconst 0, 1) := by decide +kernel
theorem dX1_setterOf_15 : decode cX1_setterOf 15 = .ok (.istore 4, 2) := by decide +kernel
theorem dX1_setterOf_17 : decode cX1_setterOf 17 = .ok (.iload 4, 2) := by decide +kernel
theorem dX1_setterOf_19 : decode cX1_setterOf 19 = .ok (.aload_n 0, 1) := by decide +kernel
theorem dX1_setterOf_20 : decode cX1_setterOf 20 = .ok (.getfield 39, 3) := by decide +kernel
theorem dX1_setterOf_23 : decode cX1_setterOf 23 = .ok (.if_icmp .ge 34, 3) := by decide +kernel
theorem dX1_setterOf_26 : decode cX1_setterOf 26 = .ok (.aload_n 0, 1) := by decide +kernel
theorem dX1_setterOf_27 : decode cX1_setterOf 27 = .ok (.getfield 30, 3) := by decide +kernel
theorem dX1_setterOf_30 : decode cX1_setterOf 30 = .ok (.iload 4, 2) := by decide +kernel
theorem dX1_setterOf_32 : decode cX1_setterOf 32 = .ok (.iconst 5, 1) := by decide +kernel
theorem dX1_setterOf_33 : decode cX1_setterOf 33 = .ok (.imul, 1) := by decide +kernel
theorem dX1_setterOf_34 : decode cX1_setterOf 34 = .ok (.iload_n 1, 1) := by decide +kernel
theorem dX1_setterOf_35 : decode cX1_setterOf 35 = .ok (.iadd, 1) := by decide +kernel
theorem dX1_setterOf_36 : decode cX1_setterOf 36 = .ok (.iaload, 1) := by decide +kernel
theorem dX1_setterOf_37 : decode cX1_setterOf 37 = .ok (.istore 5, 2) := by decide +kernel
theorem dX1_setterOf_39 : decode cX1_setterOf 39 = .ok (.iload 5, 2) := by decide +kernel
theorem dX1_setterOf_41 : decode cX1_setterOf 41 = .ok (.iload_n 3, 1) := by decide +kernel
theorem dX1_setterOf_42 : decode cX1_setterOf 42 = .ok (.if_icmp .le 9, 3) := by decide +kernel
theorem dX1_setterOf_45 : decode cX1_setterOf 45 = .ok (.iload 5, 2) := by decide +kernel
theorem dX1_setterOf_47 : decode cX1_setterOf 47 = .ok (.istore_n 3, 1) := by decide +kernel
theorem dX1_setterOf_48 : decode cX1_setterOf 48 = .ok (.iload 4, 2) := by decide +kernel
theorem dX1_setterOf_50 : decode cX1_setterOf 50 = .ok (.istore_n 2, 1) := by decide +kernel
theorem dX1_setterOf_51 : decode cX1_setterOf 51 = .ok (.iinc 4 1, 3) := by decide +kernel
theorem dX1_setterOf_54 : decode cX1_setterOf 54 = .ok (.goto (-37), 3) := by decide +kernel
theorem dX1_setterOf_57 : decode cX1_setterOf 57 = .ok (.iload_n 2, 1) := by decide +kernel
theorem dX1_setterOf_58 : decode cX1_setterOf 58 = .ok (.ireturn, 1) := by decide +kernel
theorem dX1_whoseClocks_0 : decode cX1_whoseClocks 0 = .ok (.iconst 0, 1) := by decide +kernel
theorem dX1_whoseClocks_1 : decode cX1_whoseClocks 1 = .ok (.istore_n 2, 1) := by decide +kernel
theorem dX1_whoseClocks_2 : decode cX1_whoseClocks 2 = .ok (.iconst 0, 1) := by decide +kernel
theorem dX1_whoseClocks_3 : decode cX1_whoseClocks 3 = .ok (.istore_n 3, 1) := by decide +kernel
theorem dX1_whoseClocks_4 : decode cX1_whoseClocks 4 = .ok (.iload_n 3, 1) := by decide +kernel
theorem dX1_whoseClocks_5 : decode cX1_whoseClocks 5 = .ok (.aload_n 0, 1) := by decide +kernel
theorem dX1_whoseClocks_6 : decode cX1_whoseClocks 6 = .ok (.getfield 39, 3) := by decide +kernel
theorem dX1_whoseClocks_9 : decode cX1_whoseClocks 9 = .ok (.if_icmp .ge 24, 3) := by decide +kernel
theorem dX1_whoseClocks_12 : decode cX1_whoseClocks 12 = .ok (.aload_n 0, 1) := by decide +kernel
theorem dX1_whoseClocks_13 : decode cX1_whoseClocks 13 = .ok (.iload_n 3, 1) := by decide +kernel
theorem dX1_whoseClocks_14 : decode cX1_whoseClocks 14 = .ok (.invokevirtual 71, 3) := by decide +kernel
theorem dX1_whoseClocks_17 : decode cX1_whoseClocks 17 = .ok (.iload_n 1, 1) := by decide +kernel
theorem dX1_whoseClocks_18 : decode cX1_whoseClocks 18 = .ok (.if_icmp .ne 9, 3) := by decide +kernel
theorem dX1_whoseClocks_21 : decode cX1_whoseClocks 21 = .ok (.iload_n 2, 1) := by decide +kernel
theorem dX1_whoseClocks_22 : decode cX1_whoseClocks 22 = .ok (.iconst 1, 1) := by decide +kernel
theorem dX1_whoseClocks_23 : decode cX1_whoseClocks 23 = .ok (.iload_n 3, 1) := by decide +kernel
theorem dX1_whoseClocks_24 : decode cX1_whoseClocks 24 = .ok (.ishl, 1) := by decide +kernel
theorem dX1_whoseClocks_25 : decode cX1_whoseClocks 25 = .ok (.ior, 1) := by decide +kernel
theorem dX1_whoseClocks_26 : decode cX1_whoseClocks 26 = .ok (.istore_n 2, 1) := by decide +kernel
theorem dX1_whoseClocks_27 : decode cX1_whoseClocks 27 = .ok (.iinc 3 1, 3) := by decide +kernel
theorem dX1_whoseClocks_30 : decode cX1_whoseClocks 30 = .ok (.goto (-26), 3) := by decide +kernel
theorem dX1_whoseClocks_33 : decode cX1_whoseClocks 33 = .ok (.iload_n 2, 1) := by decide +kernel
theorem dX1_whoseClocks_34 : decode cX1_whoseClocks 34 = .ok (.ireturn, 1) := by decide +kernel
theorem dX1_manyWithoutSetter_0 : decode cX1_manyWithoutSetter 0 = .ok (.aload_n 0, 1) := by decide +kernel
theorem dX1_manyWithoutSetter_1 : decode cX1_manyWithoutSetter 1 = .ok (.iconst (-1), 1) := by decide +kernel
theorem dX1_manyWithoutSetter_2 : decode cX1_manyWithoutSetter 2 = .ok (.invokevirtual 75, 3) := by decide +kernel
theorem dX1_manyWithoutSetter_5 : decode cX1_manyWithoutSetter 5 = .ok (.invokestatic 78, 3) := by decide +kernel
theorem dX1_manyWithoutSetter_8 : decode cX1_manyWithoutSetter 8 = .ok (.ireturn, 1) := by decide +kernel
theorem dX1_sum_0 : decode cX1_sum 0 = .ok (.iconst 0, 1) := by decide +kernel
theorem dX1_sum_1 : decode cX1_sum 1 = .ok (.istore_n 2, 1) := by decide +kernel
theorem dX1_sum_2 : decode cX1_sum 2 = .ok (.iconst 0, 1) := by decide +kernel
theorem dX1_sum_3 : decode cX1_sum 3 = .ok (.istore_n 3, 1) := by decide +kernel
theorem dX1_sum_4 : decode cX1_sum 4 = .ok (.iload_n 3, 1) := by decide +kernel
theorem dX1_sum_5 : decode cX1_sum 5 = .ok (.aload_n 0, 1) := by decide +kernel
theorem dX1_sum_6 : decode cX1_sum 6 = .ok (.getfield 39, 3) := by decide +kernel
theorem dX1_sum_9 : decode cX1_sum 9 = .ok (.if_icmp .ge 18, 3) := by decide +kernel
theorem dX1_sum_12 : decode cX1_sum 12 = .ok (.iload_n 2, 1) := by decide +kernel
theorem dX1_sum_13 : decode cX1_sum 13 = .ok (.aload_n 0, 1) := by decide +kernel
theorem dX1_sum_14 : decode cX1_sum 14 = .ok (.iload_n 1, 1) := by decide +kernel
theorem dX1_sum_15 : decode cX1_sum 15 = .ok (.iload_n 3, 1) := by decide +kernel
theorem dX1_sum_16 : decode cX1_sum 16 = .ok (.invokevirtual 83, 3) := by decide +kernel
theorem dX1_sum_19 : decode cX1_sum 19 = .ok (.iadd, 1) := by decide +kernel
theorem dX1_sum_20 : decode cX1_sum 20 = .ok (.istore_n 2, 1) := by decide +kernel
theorem dX1_sum_21 : decode cX1_sum 21 = .ok (.iinc 3 1, 3) := by decide +kernel
theorem dX1_sum_24 : decode cX1_sum 24 = .ok (.goto (-20), 3) := by decide +kernel
theorem dX1_sum_27 : decode cX1_sum 27 = .ok (.iload_n 2, 1) := by decide +kernel
theorem dX1_sum_28 : decode cX1_sum 28 = .ok (.ireturn, 1) := by decide +kernel
theorem dX1_tellNames_0 : decode cX1_tellNames 0 = .ok (.aload_n 0, 1) := by decide +kernel
theorem dX1_tellNames_1 : decode cX1_tellNames 1 = .ok (.iload_n 1, 1) := by decide +kernel
theorem dX1_tellNames_2 : decode cX1_tellNames 2 = .ok (.invokevirtual 49, 3) := by decide +kernel
theorem dX1_tellNames_5 : decode cX1_tellNames 5 = .ok (.ifCond .eq 74, 3) := by decide +kernel
theorem dX1_tellNames_8 : decode cX1_tellNames 8 = .ok (.aload_n 0, 1) := by decide +kernel
theorem dX1_tellNames_9 : decode cX1_tellNames 9 = .ok (.iload_n 2, 1) := by decide +kernel
theorem dX1_tellNames_10 : decode cX1_tellNames 10 = .ok (.invokevirtual 49, 3) := by decide +kernel
theorem dX1_tellNames_13 : decode cX1_tellNames 13 = .ok (.ifCond .eq 66, 3) := by decide +kernel
theorem dX1_tellNames_16 : decode cX1_tellNames 16 = .ok (.aload_n 3, 1) := by decide +kernel
theorem dX1_tellNames_17 : decode cX1_tellNames 17 = .ok (.arraylength, 1) := by decide +kernel
theorem dX1_tellNames_18 : decode cX1_tellNames 18 = .ok (.bipush 6, 2) := by decide +kernel
theorem dX1_tellNames_20 : decode cX1_tellNames 20 = .ok (.if_icmp .lt 59, 3) := by decide +kernel
theorem dX1_tellNames_23 : decode cX1_tellNames 23 = .ok (.aload_n 3, 1) := by decide +kernel
theorem dX1_tellNames_24 : decode cX1_tellNames 24 = .ok (.iconst 0, 1) := by decide +kernel
theorem dX1_tellNames_25 : decode cX1_tellNames 25 = .ok (.aload_n 0, 1) := by decide +kernel
theorem dX1_tellNames_26 : decode cX1_tellNames 26 = .ok (.getfield 30, 3) := by decide +kernel
theorem dX1_tellNames_29 : decode cX1_tellNames 29 = .ok (.iload_n 1, 1) := by decide +kernel
theorem dX1_tellNames_30 : decode cX1_tellNames 30 = .ok (.iconst 5, 1) := by decide +kernel
theorem dX1_tellNames_31 : decode cX1_tellNames 31 = .ok (.imul, 1) := by decide +kernel
theorem dX1_tellNames_32 : decode cX1_tellNames 32 = .ok (.iload_n 2, 1) := by decide +kernel
theorem dX1_tellNames_33 : decode cX1_tellNames 33 = .ok (.iadd, 1) := by decide +kernel
theorem dX1_tellNames_34 : decode cX1_tellNames 34 = .ok (.iaload, 1) := by decide +kernel
theorem dX1_tellNames_35 : decode cX1_tellNames 35 = .ok (.iastore, 1) := by decide +kernel
theorem dX1_tellNames_36 : decode cX1_tellNames 36 = .ok (.aload_n 3, 1) := by decide +kernel
theorem dX1_tellNames_37 : decode cX1_tellNames 37 = .ok (.iconst 1, 1) := by decide +kernel
theorem dX1_tellNames_38 : decode cX1_tellNames 38 = .ok (.aload_n 0, 1) := by decide +kernel
theorem dX1_tellNames_39 : decode cX1_tellNames 39 = .ok (.getfield 18, 3) := by decide +kernel
theorem dX1_tellNames_42 : decode cX1_tellNames 42 = .ok (.iload_n 2, 1) := by decide +kernel
theorem dX1_tellNames_43 : decode cX1_tellNames 43 = .ok (.iaload, 1) := by decide +kernel
theorem dX1_tellNames_44 : decode cX1_tellNames 44 = .ok (.iastore, 1) := by decide +kernel
theorem dX1_tellNames_45 : decode cX1_tellNames 45 = .ok (.aload_n 3, 1) := by decide +kernel
theorem dX1_tellNames_46 : decode cX1_tellNames 46 = .ok (.iconst 2, 1) := by decide +kernel
theorem dX1_tellNames_47 : decode cX1_tellNames 47 = .ok (.aload_n 0, 1) := by decide +kernel
theorem dX1_tellNames_48 : decode cX1_tellNames 48 = .ok (.getfield 15, 3) := by decide +kernel
theorem dX1_tellNames_51 : decode cX1_tellNames 51 = .ok (.iload_n 1, 1) := by decide +kernel
theorem dX1_tellNames_52 : decode cX1_tellNames 52 = .ok (.iaload, 1) := by decide +kernel
theorem dX1_tellNames_53 : decode cX1_tellNames 53 = .ok (.iastore, 1) := by decide +kernel
theorem dX1_tellNames_54 : decode cX1_tellNames 54 = .ok (.aload_n 3, 1) := by decide +kernel
theorem dX1_tellNames_55 : decode cX1_tellNames 55 = .ok (.iconst 3, 1) := by decide +kernel
theorem dX1_tellNames_56 : decode cX1_tellNames 56 = .ok (.aload_n 0, 1) := by decide +kernel
theorem dX1_tellNames_57 : decode cX1_tellNames 57 = .ok (.getfield 43, 3) := by decide +kernel
theorem dX1_tellNames_60 : decode cX1_tellNames 60 = .ok (.iastore, 1) := by decide +kernel
theorem dX1_tellNames_61 : decode cX1_tellNames 61 = .ok (.aload_n 3, 1) := by decide +kernel
theorem dX1_tellNames_62 : decode cX1_tellNames 62 = .ok (.iconst 4, 1) := by decide +kernel
theorem dX1_tellNames_63 : decode cX1_tellNames 63 = .ok (.aload_n 0, 1) := by decide +kernel
theorem dX1_tellNames_64 : decode cX1_tellNames 64 = .ok (.getfield 21, 3) := by decide +kernel
theorem dX1_tellNames_67 : decode cX1_tellNames 67 = .ok (.iload_n 1, 1) := by decide +kernel
theorem dX1_tellNames_68 : decode cX1_tellNames 68 = .ok (.iaload, 1) := by decide +kernel
theorem dX1_tellNames_69 : decode cX1_tellNames 69 = .ok (.iastore, 1) := by decide +kernel
theorem dX1_tellNames_70 : decode cX1_tellNames 70 = .ok (.aload_n 3, 1) := by decide +kernel
theorem dX1_tellNames_71 : decode cX1_tellNames 71 = .ok (.iconst 5, 1) := by decide +kernel
theorem dX1_tellNames_72 : decode cX1_tellNames 72 = .ok (.aload_n 0, 1) := by decide +kernel
theorem dX1_tellNames_73 : decode cX1_tellNames 73 = .ok (.getfield 24, 3) := by decide +kernel
theorem dX1_tellNames_76 : decode cX1_tellNames 76 = .ok (.iload_n 2, 1) := by decide +kernel
theorem dX1_tellNames_77 : decode cX1_tellNames 77 = .ok (.iaload, 1) := by decide +kernel
theorem dX1_tellNames_78 : decode cX1_tellNames 78 = .ok (.iastore, 1) := by decide +kernel
theorem dX1_tellNames_79 : decode cX1_tellNames 79 = .ok (.return_, 1) := by decide +kernel
theorem dX1_wake_0 : decode cX1_wake 0 = .ok (.aload_n 0, 1) := by decide +kernel
theorem dX1_wake_1 : decode cX1_wake 1 = .ok (.iload_n 1, 1) := by decide +kernel
theorem dX1_wake_2 : decode cX1_wake 2 = .ok (.invokevirtual 49, 3) := by decide +kernel
theorem dX1_wake_5 : decode cX1_wake 5 = .ok (.ifCond .eq 48, 3) := by decide +kernel
theorem dX1_wake_8 : decode cX1_wake 8 = .ok (.aload_n 0, 1) := by decide +kernel
theorem dX1_wake_9 : decode cX1_wake 9 = .ok (.getfield 21, 3) := by decide +kernel
theorem dX1_wake_12 : decode cX1_wake 12 = .ok (.iload_n 1, 1) := by decide +kernel
theorem dX1_wake_13 : decode cX1_wake 13 = .ok (.aload_n 0, 1) := by decide +kernel
theorem dX1_wake_14 : decode cX1_wake 14 = .ok (.getfield 21, 3) := by decide +kernel
theorem dX1_wake_17 : decode cX1_wake 17 = .ok (.iload_n 1, 1) := by decide +kernel
theorem dX1_wake_18 : decode cX1_wake 18 = .ok (.iaload, 1) := by decide +kernel
theorem dX1_wake_19 : decode cX1_wake 19 = .ok (.iload_n 2, 1) := by decide +kernel
theorem dX1_wake_20 : decode cX1_wake 20 = .ok (.iadd, 1) := by decide +kernel
theorem dX1_wake_21 : decode cX1_wake 21 = .ok (.iconst 0, 1) := by decide +kernel
theorem dX1_wake_22 : decode cX1_wake 22 = .ok (.getstatic 65, 3) := by decide +kernel
theorem dX1_wake_25 : decode cX1_wake 25 = .ok (.iconst 3, 1) := by decide +kernel
theorem dX1_wake_26 : decode cX1_wake 26 = .ok (.iaload, 1) := by decide +kernel
theorem dX1_wake_27 : decode cX1_wake 27 = .ok (.invokestatic 88, 3) := by decide +kernel
theorem dX1_wake_30 : decode cX1_wake 30 = .ok (.iastore, 1) := by decide +kernel
theorem dX1_wake_31 : decode cX1_wake 31 = .ok (.aload_n 0, 1) := by decide +kernel
theorem dX1_wake_32 : decode cX1_wake 32 = .ok (.getfield 27, 3) := by decide +kernel
theorem dX1_wake_35 : decode cX1_wake 35 = .ok (.iload_n 1, 1) := by decide +kernel
theorem dX1_wake_36 : decode cX1_wake 36 = .ok (.aload_n 0, 1) := by decide +kernel
theorem dX1_wake_37 : decode cX1_wake 37 = .ok (.getfield 27, 3) := by decide +kernel
theorem dX1_wake_40 : decode cX1_wake 40 = .ok (.iload_n 1, 1) := by decide +kernel
theorem dX1_wake_41 : decode cX1_wake 41 = .ok (.iaload, 1) := by decide +kernel
theorem dX1_wake_42 : decode cX1_wake 42 = .ok (.iload_n 3, 1) := by decide +kernel
theorem dX1_wake_43 : decode cX1_wake 43 = .ok (.iadd, 1) := by decide +kernel
theorem dX1_wake_44 : decode cX1_wake 44 = .ok (.getstatic 65, 3) := by decide +kernel
theorem dX1_wake_47 : decode cX1_wake 47 = .ok (.iconst 5, 1) := by decide +kernel
theorem dX1_wake_48 : decode cX1_wake 48 = .ok (.iaload, 1) := by decide +kernel
theorem dX1_wake_49 : decode cX1_wake 49 = .ok (.invokestatic 92, 3) := by decide +kernel
theorem dX1_wake_52 : decode cX1_wake 52 = .ok (.iastore, 1) := by decide +kernel
theorem dX1_wake_53 : decode cX1_wake 53 = .ok (.return_, 1) := by decide +kernel
theorem dX1_growFonder_0 : decode cX1_growFonder 0 = .ok (.aload_n 0, 1) := by decide +kernel
theorem dX1_growFonder_1 : decode cX1_growFonder 1 = .ok (.iload_n 1, 1) := by decide +kernel
theorem dX1_growFonder_2 : decode cX1_growFonder 2 = .ok (.iload_n 2, 1) := by decide +kernel
theorem dX1_growFonder_3 : decode cX1_growFonder 3 = .ok (.invokevirtual 68, 3) := by decide +kernel
theorem dX1_growFonder_6 : decode cX1_growFonder 6 = .ok (.ifCond .eq 36, 3) := by decide +kernel
theorem dX1_growFonder_9 : decode cX1_growFonder 9 = .ok (.iload_n 1, 1) := by decide +kernel
theorem dX1_growFonder_10 : decode cX1_growFonder 10 = .ok (.iconst 5, 1) := by decide +kernel
theorem dX1_growFonder_11 : decode cX1_growFonder 11 = .ok (.imul, 1) := by decide +kernel
theorem dX1_growFonder_12 : decode cX1_growFonder 12 = .ok (.iload_n 2, 1) := by decide +kernel
theorem dX1_growFonder_13 : decode cX1_growFonder 13 = .ok (.iadd, 1) := by decide +kernel
theorem dX1_growFonder_14 : decode cX1_growFonder 14 = .ok (.istore 4, 2) := by decide +kernel
theorem dX1_growFonder_16 : decode cX1_growFonder 16 = .ok (.aload_n 0, 1) := by decide +kernel
theorem dX1_growFonder_17 : decode cX1_growFonder 17 = .ok (.getfield 30, 3) := by decide +kernel
theorem dX1_growFonder_20 : decode cX1_growFonder 20 = .ok (.iload 4, 2) := by decide +kernel
theorem dX1_growFonder_22 : decode cX1_growFonder 22 = .ok (.aload_n 0, 1) := by decide +kernel
theorem dX1_growFonder_23 : decode cX1_growFonder 23 = .ok (.getfield 30, 3) := by decide +kernel
theorem dX1_growFonder_26 : decode cX1_growFonder 26 = .ok (.iload 4, 2) := by decide +kernel
theorem dX1_growFonder_28 : decode cX1_growFonder 28 = .ok (.iaload, 1) := by decide +kernel
theorem dX1_growFonder_29 : decode cX1_growFonder 29 = .ok (.iload_n 3, 1) := by decide +kernel
theorem dX1_growFonder_30 : decode cX1_growFonder 30 = .ok (.iadd, 1) := by decide +kernel
theorem dX1_growFonder_31 : decode cX1_growFonder 31 = .ok (.iconst 0, 1) := by decide +kernel
theorem dX1_growFonder_32 : decode cX1_growFonder 32 = .ok (.getstatic 65, 3) := by decide +kernel
theorem dX1_growFonder_35 : decode cX1_growFonder 35 = .ok (.bipush 6, 2) := by decide +kernel
theorem dX1_growFonder_37 : decode cX1_growFonder 37 = .ok (.iaload, 1) := by decide +kernel
theorem dX1_growFonder_38 : decode cX1_growFonder 38 = .ok (.invokestatic 88, 3) := by decide +kernel
theorem dX1_growFonder_41 : decode cX1_growFonder 41 = .ok (.iastore, 1) := by decide +kernel
theorem dX1_growFonder_42 : decode cX1_growFonder 42 = .ok (.return_, 1) := by decide +kernel
theorem dX1_miss_0 : decode cX1_miss 0 = .ok (.aload_n 0, 1) := by decide +kernel
theorem dX1_miss_1 : decode cX1_miss 1 = .ok (.iload_n 1, 1) := by decide +kernel
theorem dX1_miss_2 : decode cX1_miss 2 = .ok (.invokevirtual 49, 3) := by decide +kernel
theorem dX1_miss_5 : decode cX1_miss 5 = .ok (.ifCond .eq 44, 3) := by decide +kernel
theorem dX1_miss_8 : decode cX1_miss 8 = .ok (.aload_n 0, 1) := by decide +kernel
theorem dX1_miss_9 : decode cX1_miss 9 = .ok (.getfield 21, 3) := by decide +kernel
theorem dX1_miss_12 : decode cX1_miss 12 = .ok (.iload_n 1, 1) := by decide +kernel
theorem dX1_miss_13 : decode cX1_miss 13 = .ok (.aload_n 0, 1) := by decide +kernel
theorem dX1_miss_14 : decode cX1_miss 14 = .ok (.getfield 21, 3) := by decide +kernel
theorem dX1_miss_17 : decode cX1_miss 17 = .ok (.iload_n 1, 1) := by decide +kernel
theorem dX1_miss_18 : decode cX1_miss 18 = .ok (.iaload, 1) := by decide +kernel
theorem dX1_miss_19 : decode cX1_miss 19 = .ok (.bipush 10, 2) := by decide +kernel
theorem dX1_miss_21 : decode cX1_miss 21 = .ok (.isub, 1) := by decide +kernel
theorem dX1_miss_22 : decode cX1_miss 22 = .ok (.iconst 0, 1) := by decide +kernel
theorem dX1_miss_23 : decode cX1_miss 23 = .ok (.invokestatic 97, 3) := by decide +kernel
theorem dX1_miss_26 : decode cX1_miss 26 = .ok (.iastore, 1) := by decide +kernel
theorem dX1_miss_27 : decode cX1_miss 27 = .ok (.aload_n 0, 1) := by decide +kernel
theorem dX1_miss_28 : decode cX1_miss 28 = .ok (.getfield 24, 3) := by decide +kernel
theorem dX1_miss_31 : decode cX1_miss 31 = .ok (.iload_n 1, 1) := by decide +kernel
theorem dX1_miss_32 : decode cX1_miss 32 = .ok (.aload_n 0, 1) := by decide +kernel
theorem dX1_miss_33 : decode cX1_miss 33 = .ok (.getfield 24, 3) := by decide +kernel
theorem dX1_miss_36 : decode cX1_miss 36 = .ok (.iload_n 1, 1) := by decide +kernel
theorem dX1_miss_37 : decode cX1_miss 37 = .ok (.iaload, 1) := by decide +kernel
theorem dX1_miss_38 : decode cX1_miss 38 = .ok (.iconst 1, 1) := by decide +kernel
theorem dX1_miss_39 : decode cX1_miss 39 = .ok (.iadd, 1) := by decide +kernel
theorem dX1_miss_40 : decode cX1_miss 40 = .ok (.getstatic 65, 3) := by decide +kernel
theorem dX1_miss_43 : decode cX1_miss 43 = .ok (.iconst 4, 1) := by decide +kernel
theorem dX1_miss_44 : decode cX1_miss 44 = .ok (.iaload, 1) := by decide +kernel
theorem dX1_miss_45 : decode cX1_miss 45 = .ok (.invokestatic 92, 3) := by decide +kernel
theorem dX1_miss_48 : decode cX1_miss 48 = .ok (.iastore, 1) := by decide +kernel
theorem dX1_miss_49 : decode cX1_miss 49 = .ok (.return_, 1) := by decide +kernel
theorem dX1_endDay_0 : decode cX1_endDay 0 = .ok (.aload_n 0, 1) := by decide +kernel
theorem dX1_endDay_1 : decode cX1_endDay 1 = .ok (.dup, 1) := by decide +kernel
theorem dX1_endDay_2 : decode cX1_endDay 2 = .ok (.getfield 43, 3) := by decide +kernel
theorem dX1_endDay_5 : decode cX1_endDay 5 = .ok (.iconst 1, 1) := by decide +kernel
theorem dX1_endDay_6 : decode cX1_endDay 6 = .ok (.iadd, 1) := by decide +kernel
theorem dX1_endDay_7 : decode cX1_endDay 7 = .ok (.putfield 43, 3) := by decide +kernel
theorem dX1_endDay_10 : decode cX1_endDay 10 = .ok (.return_, 1) := by decide +kernel
end
section
/-! A UNIFORM WORLD: places 0 .. N-1, each of a fixed shape (an array of numbers, a row of references, an object); all that moves is one map from place and slot to a number. -/
def lw_good : List Cond := lw_tbl.filter goodWord
theorem lw_mem {w : Cond} (i : Nat) (h : lw_tbl[i]? = some w) (hg : goodWord w = true) : w ∈ lw_good := List.mem_filter.mpr ⟨List.mem_of_getElem? h, hg⟩
def wsy (y : MethodName) (cb : ByteArray) (n : Nat) (ret : Option FieldType) : List Cond := .code y cb n ret :: lw_good
theorem good_ok {ws : List Cond} (h : ∀ w ∈ ws, w ∈ lw_good) : GoodIn lw_good ws := fun w hw => ⟨h w hw, good_of_word (List.mem_filter.mp (h w hw)).2⟩
theorem wsy_in {y : MethodName} {cb : ByteArray} {n : Nat} {ret : Option FieldType} (hc : Cond.code y cb n ret ∈ lw_good) : ∀ w ∈ wsy y cb n ret, w ∈ lw_good := fun w hw => by
  rcases List.mem_cons.mp hw with h | h
  · rw [h]; exact hc
  · exact h
abbrev sg_T : Type := Nat → Nat → Int32
abbrev sh_K : Type := (FieldType × Nat) ⊕ ((String × Nat × (Nat → Nat)) ⊕ (Nat × List Nat))
abbrev en_T : Type := va_G × (FieldType → ClassId) × (Nat → Nat) × Nat × (Nat → sh_K) × (Nat → Nat)
def eD (E : en_T) : va_G := E.1
def eA (E : en_T) : FieldType → ClassId := E.2.1
def eP (E : en_T) : Nat → Nat := E.2.2.1
def eN (E : en_T) : Nat := E.2.2.2.1
def eH (E : en_T) : Nat → sh_K := E.2.2.2.2.1
def eS (E : en_T) : Nat → Nat := E.2.2.2.2.2
/-- what a slot of a kind holds: 0 a number, 1 nothing, 2 a reference that moves (below 0: none), q + 3 the place q -/
def fv (ad : Nat → Nat) (kd : Nat) (x : Int32) : Value := match kd with
  | 0 => .int x
  | 1 => .null
  | 2 => if x < 0 then .null else .ref (ad x.toNatClampNeg)
  | q + 3 => .ref (ad q)
def fr (ad : Nat → Nat) (kd : Nat) : Option Nat := match kd with
  | 0 => none
  | 1 => none
  | 2 => none
  | q + 3 => some (ad q)
def en_f (ad : Nat → Nat) (ks : List Nat) (f : Nat → Int32) : List Value := (List.range ks.length).map (fun k => fv ad (ks.getD k 0) (f k))
def en_c (E : en_T) (h : sh_K) (f : Nat → Int32) : va_E := match h with
  | .inl a => .inl (eA E a.1, a.2, .inl f)
  | .inr (.inl a) => .inl (eA E (.object a.1), a.2.1, .inr (.inr (.inr (.inr (fun j => fr (eP E) (a.2.2 j))))))
  | .inr (.inr o) => .inr (o.1, en_f (eP E) o.2 f)
def en_w (E : en_T) (σ : sg_T) : va_W := (List.range (eN E)).map (fun p => (eP E p, en_c E (eH E p) (σ p)))
def en_A (E : en_T) : Nat → Prop := fun q => ∃ p, p < eN E ∧ q = eP E p
def en_ty (E : en_T) : List (ClassId × FieldType) := [(eA E .int, .int), (eA E .char, .char), (eA E .boolean, .boolean), (eA E (.object RX5), .object RX5), (eA E (.object RX4), .object RX4)]
def Sp (E : en_T) (p : Nat) (h : sh_K) : Prop := p < eN E ∧ eH E p = h
def en_I (E : en_T) : Prop := ∀ p q, p < eN E → q < eN E → eP E p = eP E q → p = q
def up (σ : sg_T) (p j : Nat) (x : Int32) : sg_T := fun q => if q = p then upd (σ q) j x else σ q
theorem up_s {σ : sg_T} {p j : Nat} {x : Int32} : up σ p j x p = upd (σ p) j x := by simp [up]
theorem up_n {σ : sg_T} {p q j : Nat} {x : Int32} (h : q ≠ p) : up σ p j x q = σ q := by simp [up, h]
def upr (σ : sg_T) (p : Nat) (f : Nat → Int32) : sg_T := fun q => if q = p then f else σ q
theorem upr_s {σ : sg_T} {p : Nat} {f : Nat → Int32} : upr σ p f p = f := by simp [upr]
theorem upr_n {σ : sg_T} {p q : Nat} {f : Nat → Int32} (h : q ≠ p) : upr σ p f q = σ q := by simp [upr, h]
theorem en_get {E : en_T} {σ : sg_T} {p : Nat} {h : sh_K} (hs : Sp E p h) : (en_w E σ)[p]? = some (eP E p, en_c E h (σ p)) := by
  obtain ⟨h1, h2⟩ := hs
  simp [en_w, h1, h2]
theorem en_set {E : en_T} {σ σ' : sg_T} {p : Nat} {h : sh_K} (hs : Sp E p h) (ho : ∀ q, q ≠ p → σ' q = σ q) : (en_w E σ).set p (eP E p, en_c E h (σ' p)) = en_w E σ' := by
  obtain ⟨h1, h2⟩ := hs
  apply List.ext_getElem?
  intro i
  rw [List.getElem?_set]
  by_cases hi : p = i
  · subst hi
    simp [en_w, h1, h2]
  · rw [if_neg hi]
    by_cases hN : i < eN E
    · simp [en_w, hN, ho i (fun e => hi e.symm)]
    · simp [en_w, hN]
theorem en_D {E : en_T} (hI : en_I E) (σ : sg_T) : va_D (en_A E) (en_w E σ) := by
  refine ⟨fun i j p q hi hj e => ?_, fun k q hk => ?_⟩
  · simp only [en_w, List.getElem?_map, Option.map_eq_some_iff, List.getElem?_range] at hi hj
    obtain ⟨a, ha, rfl⟩ := hi
    obtain ⟨b, hb, rfl⟩ := hj
    obtain ⟨ha1, ha2⟩ := List.getElem?_eq_some_iff.mp ha
    obtain ⟨hb1, hb2⟩ := List.getElem?_eq_some_iff.mp hb
    simp only [List.length_range, List.getElem_range] at ha1 ha2 hb1 hb2
    subst ha2; subst hb2
    exact hI _ _ ha1 hb1 e
  · simp only [en_w, List.getElem?_map, Option.map_eq_some_iff] at hk
    obtain ⟨a, ha, rfl⟩ := hk
    obtain ⟨ha1, ha2⟩ := List.getElem?_eq_some_iff.mp ha
    simp only [List.length_range, List.getElem_range] at ha1 ha2
    subst ha2
    exact ⟨_, ha1, rfl⟩
theorem en_f_get {ad : Nat → Nat} {ks : List Nat} {f : Nat → Int32} {k : Nat} (h : k < ks.length) : (en_f ad ks f)[k]? = some (fv ad (ks.getD k 0) (f k)) := by simp [en_f, h]
theorem en_f_set {ad : Nat → Nat} {ks : List Nat} {f : Nat → Int32} {k : Nat} {x : Int32} (h : k < ks.length) : (en_f ad ks f).set k (fv ad (ks.getD k 0) x) = en_f ad ks (upd f k x) := by
  apply List.ext_getElem?
  intro i
  rw [List.getElem?_set]
  by_cases hi : k = i
  · subst hi
    simp [en_f, h, upd]
  · rw [if_neg hi]
    by_cases hN : i < ks.length
    · have hi' : i ≠ k := fun e => hi e.symm
      simp [en_f, hN, upd, hi']
    · simp [en_f, hN]
theorem en_f_len {ad : Nat → Nat} {ks : List Nat} {f : Nat → Int32} : (en_f ad ks f).length = ks.length := by simp [en_f]
def fn_hi : Nat → Value := fun j => .int (([999, 9, 23, 99, 99, 9999, 9] : List Int32).getD j 0)
def fn_un : Nat → Value := fun j => .int (([-1, 0, 0, 1, 2, 0] : List Int32).getD j 0)
def lw_nest : List Cond := [.fieldLinkNest RX1 65 RX7 "HIGHEST" "[I" RX7, .methodLinkNest RX3 56 yX7_bound RX7, .methodLinkNest RX1 88 yX7_bound RX7, .methodLinkNest RX4 19 yX7_bound RX7, .methodLinkNest RX7 9 yX2_init RX7, .methodLinkNest RX3 24 yX5_init RX7, .methodLinkNest RX7 44 yX1_init RX7, .methodLinkNest RX7 57 yX6_init RX7, .methodLinkNest RX7 68 yX4_init RX7]
def tx_a : String := "sets 6 + fond ; tires 3 ; grows 0 ;"
def tx_b : String := "fond   duty   number day    tired  missed sets   tires  grows  or     and    not    "
def tx_of (s : String) : List Int32 := s.toList.map (fun ch => Int32.ofNat ch.toNat)
def tx_l : List Nat := [35, 84]
def tx_y : List (List Int32) := [tx_of tx_a, tx_of tx_b]
/-- what stays as it was at the start: the two fixed rows, the links of nest mates, the two texts -/
def Gs (E : en_T) (U : State) (H : Heap) : Prop :=
  (va_Z RX7 "HIGHEST" "[I" (.ref (eS E 0)) (en_A E) U H ∧ va_T .int (eS E 0) 7 fn_hi (en_A E) U H) ∧
  (va_Z RX7 "UNDER" "[I" (.ref (eS E 1)) (en_A E) U H ∧ va_T .int (eS E 1) 6 fn_un (en_A E) U H) ∧
  (∀ w ∈ lw_nest, va_Nw w U) ∧
  (vk_R RX7 23 tx_a (eS E 2) U ∧ vk_R RX2 98 tx_b (eS E 3) U ∧ vk_S 2 tx_l tx_y (fun i => eS E (2 + i)) (fun i => eS E (4 + i)) (en_A E) U H) ∧
  va_Z RJ0 "COMPACT_STRINGS" "Z" (.int 1) (en_A E) U H ∧ va_Zq RJ3 "SIOOBE_FORMATTER" "Ljava/util/function/BiFunction;" (en_A E) U H
theorem nest_warm {s U : State} (hW : s.WarmedH U.vm) : ∀ w ∈ lw_nest, va_Nw w s → va_Nw w U := by
  intro w hw h
  simp only [lw_nest, List.mem_cons, List.not_mem_nil, or_false] at hw
  rcases hw with rfl | rfl | rfl | rfl | rfl | rfl | rfl | rfl | rfl
  · exact va_Nw.warmF hW h
  all_goals exact va_Nw.warmM hW h
theorem nest_same {s U : State} (hW : s.vm = U.vm) : ∀ w ∈ lw_nest, va_Nw w s → va_Nw w U := by
  intro w hw h
  simp only [lw_nest, List.mem_cons, List.not_mem_nil, or_false] at hw
  rcases hw with rfl | rfl | rfl | rfl | rfl | rfl | rfl | rfl | rfl <;> exact va_Nw.same rfl hW h
theorem Gs.warm {E : en_T} {s U : State} {H : Heap} (hW : s.WarmedH U.vm) (h : Gs E s H) : Gs E U H := by
  obtain ⟨⟨a1, a2⟩, ⟨b1, b2⟩, c, ⟨d1, d2, d3⟩, e1, e2⟩ := h
  exact ⟨⟨a1.moved hW.alike, a2.moved hW.alike⟩, ⟨b1.moved hW.alike, b2.moved hW.alike⟩, fun w hw => nest_warm hW w hw (c w hw), ⟨d1.warm hW, d2.warm hW, d3.moved hW.alike⟩, e1.moved hW.alike, e2.moved hW.alike⟩
theorem Gs.same {E : en_T} {s U : State} {H : Heap} (hv : s.vm = U.vm) (h : Gs E s H) : Gs E U H := by
  obtain ⟨⟨a1, a2⟩, ⟨b1, b2⟩, c, ⟨d1, d2, d3⟩, e1, e2⟩ := h
  have hA : s.vm.Alike U.vm := by rw [hv]; exact Vm.Alike.refl _
  exact ⟨⟨a1.moved hA, a2.moved hA⟩, ⟨b1.moved hA, b2.moved hA⟩, fun w hw => nest_same hv w hw (c w hw), ⟨d1.same hv.symm, d2.same hv.symm, d3.moved hA⟩, e1.moved hA, e2.moved hA⟩
theorem Gs.kept {E : en_T} {U : State} {H H1 : Heap} (h : Gs E U H) (hq : ∀ a : Nat, a < H.size → ¬ en_A E a → H1[a]? = H[a]?) : Gs E U H1 := by
  obtain ⟨⟨a1, a2⟩, ⟨b1, b2⟩, c, ⟨d1, d2, d3⟩, e1, e2⟩ := h
  exact ⟨⟨a1.kept hq, a2.kept hq⟩, ⟨b1.kept hq, b2.kept hq⟩, c, ⟨d1, d2, d3.kept hq⟩, e1.kept hq, e2.kept hq⟩
/-- the world as a contract's start has it -/
def Iw (E : en_T) (σ : sg_T) (U : State) : Prop := va_P (eD E) vwCl (en_w E σ) U.heap ∧ va_K (eD E) vwCl (en_ty E) U ∧ Gs E U U.heap
def Qf (E : en_T) (res : Option Value) (σ : sg_T) : Array Value → State → Outcome → State → Prop := fun _ st oc t => oc = .returned res ∧ Iw E σ t ∧ va_F (en_A E) st t
/-- a method's contract: with these arguments over this map it returns res and leaves the map σ' -/
def Ct (l : Launch) (y : MethodName) (cb : ByteArray) (nL : Nat) (ret : Option FieldType) (rm : Room) (E : en_T) (As : List Value) (σ : sg_T) (res : Option Value) (σ' : sg_T) : Prop :=
  Met l y (wsy y cb nL ret) rm (va_Pc As (Iw E σ)) (Qf E res σ') 0 0 (en_A E)
def Cx (E : en_T) (p : Program) (s : State) (m : MethodId) (args : Array Value) (meth : Method) (c : Code) (cc : ByteArray) (nL : Nat) (own : String) (ret : Option FieldType) : Prop :=
  p.tables.exec = Jvm.exec ∧ c.code = cc ∧ c.maxLocals = nL ∧ s.vm.findClass own = some m.cls ∧ (∀ w ∈ lw_good, w.before args s = true) ∧ va_K (eD E) vwCl (en_ty E) s ∧ Gs E s s.heap ∧ en_I E ∧ meth.sig.returnType = ret ∧ meth.locks = false
def Hw (E : en_T) (σ : sg_T) (s : State) (H : Heap) (locs : List Loc) : Prop := va_P (eD E) vwCl (en_w E σ) H ∧ va_S (en_A E) s.heap H locs
theorem Ct.start {l : Launch} {y : MethodName} {cb : ByteArray} {nL : Nat} {ret : Option FieldType} {rm : Room} {E : en_T} {As : List Value} {σ : sg_T} {res : Option Value} {σ' : sg_T} (hy : plainName y.cls = true) (hI : en_I E) (hn : (lg_sl As).length ≤ nL)
    (k : ∀ (p : Program) (e : Env) (s : State) (m : MethodId) (below : List Frame) (meth : Method) (c : Code), Cx E p s m As.toArray meth c cb nL y.cls ret → Hw E σ s s.heap [] → ∀ ls : Array Slot, lv_has ls nL (lv_args 0 As) → W p l e rm s m As.toArray below meth c s.heap [] 0 0 (MQ below (Qf E res σ') As.toArray s 0 0 (en_A E)) (F0 m 0 ls [])) : Ct l y cb nL ret rm E As σ res σ' := by
  refine Met.ofW (cc := cb) (maxL := nL) (ret := ret) hy rfl ?_
  intro p e s m args below meth c s₁ B hml hv
  obtain ⟨rfl, hP, hK, hG⟩ := hv
  have hts := atoms_spec (ws := wsy y cb nL ret) B.pre
  have hown : s.vm.findClass y.cls = some m.cls := findClass_of_methodNamed B.named
  have hl := lv_entry As (n := nL) hn
  rw [lg_entry_eq]
  exact k p e s m below meth c ⟨B.exec, B.bytes, hml, hown, fun w hw => hts w (List.mem_cons_of_mem _ hw), hK, hG, hI, B.returns, B.notSynchronized⟩ ⟨hP, va_S.rf⟩ _ hl
end
section
section RowsA
variable {p : Program} {l : Launch} {e : Env} {R : Room} {s : State} {m : MethodId} {args : Array Value} {below : List Frame} {meth : Method} {c : Code} {H : Heap} {locs : List Loc} {cells slots : Nat} {Q : State → Prop}
variable {E : en_T} {σ : sg_T} {cc : ByteArray} {nL : Nat} {own : String} {ret : Option FieldType} {pc : Nat} {ls : Array Slot} {rest : List Value}
theorem r_iald (X : Cx E p s m args meth c cc nL own ret) (hw : Hw E σ s H locs) {pl n : Nat} (hs : Sp E pl (.inl (.int, n))) {i : Int32} (hin : vp_in i n) (hdg : decode cc pc = .ok (.iaload, 1))
    (kk : W p l e R s m args below meth c H locs cells slots Q (F0 m (pc + 1) ls (.int (σ pl i.toNatClampNeg) :: rest))) : W p l e R s m args below meth c H locs cells slots Q (F0 m pc ls (.int i :: .ref (eP E pl) :: rest)) :=
  va_iald X.1 X.2.1 X.2.2.2.2.2.1 hw.1 pl 0 (en_get hs) rfl hin hdg kk
theorem r_cald (X : Cx E p s m args meth c cc nL own ret) (hw : Hw E σ s H locs) {pl n : Nat} (hs : Sp E pl (.inl (.char, n))) {i : Int32} (hin : vp_in i n) (hdg : decode cc pc = .ok (.caload, 1))
    (kk : W p l e R s m args below meth c H locs cells slots Q (F0 m (pc + 1) ls (.int (σ pl i.toNatClampNeg) :: rest))) : W p l e R s m args below meth c H locs cells slots Q (F0 m pc ls (.int i :: .ref (eP E pl) :: rest)) :=
  va_cald X.1 X.2.1 X.2.2.2.2.2.1 hw.1 pl 1 (en_get hs) rfl hin hdg kk
theorem r_zald (X : Cx E p s m args meth c cc nL own ret) (hw : Hw E σ s H locs) {pl n : Nat} (hs : Sp E pl (.inl (.boolean, n))) {i : Int32} (hin : vp_in i n) (hdg : decode cc pc = .ok (.baload, 1))
    (kk : W p l e R s m args below meth c H locs cells slots Q (F0 m (pc + 1) ls (.int (σ pl i.toNatClampNeg) :: rest))) : W p l e R s m args below meth c H locs cells slots Q (F0 m pc ls (.int i :: .ref (eP E pl) :: rest)) :=
  va_zald X.1 X.2.1 X.2.2.2.2.2.1 hw.1 pl 2 (en_get hs) rfl hin hdg kk
theorem r_alen (X : Cx E p s m args meth c cc nL own ret) (hw : Hw E σ s H locs) {pl n : Nat} (hs : Sp E pl (.inl (.int, n))) {v : Int32} (hv : Int32.ofNat n = v) (hdg : decode cc pc = .ok (.arraylength, 1))
    (kk : W p l e R s m args below meth c H locs cells slots Q (F0 m (pc + 1) ls (.int v :: rest))) : W p l e R s m args below meth c H locs cells slots Q (F0 m pc ls (.ref (eP E pl) :: rest)) :=
  va_alen X.1 X.2.1 X.2.2.2.2.2.1 hw.1 pl 0 (en_get hs) rfl hv hdg kk
theorem r_aaldT (X : Cx E p s m args meth c cc nL own ret) (hw : Hw E σ s H locs) {pl n : Nat} {f : Nat → Nat} (hs : Sp E pl (.inr (.inl (RX5, n, f)))) {i : Int32} {q : Nat} (hin : vp_in i n) (hq : f i.toNatClampNeg = q + 3) (hdg : decode cc pc = .ok (.aaload, 1))
    (kk : W p l e R s m args below meth c H locs cells slots Q (F0 m (pc + 1) ls (.ref (eP E q) :: rest))) : W p l e R s m args below meth c H locs cells slots Q (F0 m pc ls (.int i :: .ref (eP E pl) :: rest)) := by
  refine va_aldq X.1 X.2.1 X.2.2.2.2.2.1 hw.1 pl 3 (en_get hs) rfl hin hdg ?_
  show W p l e R s m args below meth c H locs cells slots Q (F0 m (pc + 1) ls (va_rf (fr (eP E) (f i.toNatClampNeg)) :: rest))
  rw [hq]; exact kk
theorem r_aaldS (X : Cx E p s m args meth c cc nL own ret) (hw : Hw E σ s H locs) {pl n : Nat} {f : Nat → Nat} (hs : Sp E pl (.inr (.inl (RX4, n, f)))) {i : Int32} {q : Nat} (hin : vp_in i n) (hq : f i.toNatClampNeg = q + 3) (hdg : decode cc pc = .ok (.aaload, 1))
    (kk : W p l e R s m args below meth c H locs cells slots Q (F0 m (pc + 1) ls (.ref (eP E q) :: rest))) : W p l e R s m args below meth c H locs cells slots Q (F0 m pc ls (.int i :: .ref (eP E pl) :: rest)) := by
  refine va_aldq X.1 X.2.1 X.2.2.2.2.2.1 hw.1 pl 4 (en_get hs) rfl hin hdg ?_
  show W p l e R s m args below meth c H locs cells slots Q (F0 m (pc + 1) ls (va_rf (fr (eP E) (f i.toNatClampNeg)) :: rest))
  rw [hq]; exact kk
theorem r_iast (X : Cx E p s m args meth c cc nL own ret) (hw : Hw E σ s H locs) {pl n : Nat} (hs : Sp E pl (.inl (.int, n))) {i x : Int32} (hin : vp_in i n) (hdg : decode cc pc = .ok (.iastore, 1))
    (kk : ∀ (H1 : Heap) (locs1 : List Loc), Hw E (up σ pl i.toNatClampNeg x) s H1 locs1 → W p l e R s m args below meth c H1 locs1 cells slots Q (F0 m (pc + 1) ls rest)) : W p l e R s m args below meth c H locs cells slots Q (F0 m pc ls (.int x :: .int i :: .ref (eP E pl) :: rest)) := by
  refine va_iast X.1 X.2.1 X.2.2.2.2.2.1 hw.1 (en_D X.2.2.2.2.2.2.2.1 σ) hw.2 pl 0 (en_get hs) rfl hin hdg (fun H1 locs1 hP _ hS => kk H1 locs1 ⟨?_, hS⟩)
  have h := en_set (σ := σ) (σ' := up σ pl i.toNatClampNeg x) hs (fun q hq => up_n hq)
  rw [up_s] at h
  rw [← h]; exact hP
theorem r_zast (X : Cx E p s m args meth c cc nL own ret) (hw : Hw E σ s H locs) {pl n : Nat} (hs : Sp E pl (.inl (.boolean, n))) {i x : Int32} (hx : x = 0 ∨ x = 1) (hin : vp_in i n) (hdg : decode cc pc = .ok (.bastore, 1))
    (kk : ∀ (H1 : Heap) (locs1 : List Loc), Hw E (up σ pl i.toNatClampNeg x) s H1 locs1 → W p l e R s m args below meth c H1 locs1 cells slots Q (F0 m (pc + 1) ls rest)) : W p l e R s m args below meth c H locs cells slots Q (F0 m pc ls (.int x :: .int i :: .ref (eP E pl) :: rest)) := by
  refine va_zast X.1 X.2.1 X.2.2.2.2.2.1 hw.1 (en_D X.2.2.2.2.2.2.2.1 σ) hw.2 pl 2 (en_get hs) rfl hin hdg (fun H1 locs1 hP _ hS => kk H1 locs1 ⟨?_, hS⟩)
  have h := en_set (σ := σ) (σ' := up σ pl i.toNatClampNeg x) hs (fun q hq => up_n hq)
  rw [up_s] at h
  rw [← h]
  have hx2 : vp_nar .boolean x = x := by rcases hx with rfl | rfl <;> decide +kernel
  rw [hx2] at hP
  exact hP
theorem r_get (X : Cx E p s m args meth c cc nL own ret) (hw : Hw E σ s H locs) {pl ci : Nat} {ks : List Nat} (hs : Sp E pl (.inr (.inr (ci, ks)))) {C : String} {T : u_T} {N index : Nat} (hc : vwCl[ci]? = some (C, T, N)) (hin : ∀ w ∈ u_ws C T N, w ∈ lw_good) (k : Nat) (hk : k < N) (hkl : k < ks.length) (hlink : Cond.fieldLink own index (T k).1 (T k).2.1 (T k).2.2.1 ∈ lw_good) {v : Value} (hv : fv (eP E) (ks.getD k 0) (σ pl k) = v) (hdg : decode cc pc = .ok (.getfield index, 3))
    (kk : W p l e R s m args below meth c H locs cells slots Q (F0 m (pc + 3) ls (v :: rest))) : W p l e R s m args below meth c H locs cells slots Q (F0 m pc ls (.ref (eP E pl) :: rest)) :=
  va_get X.1 X.2.1 X.2.2.2.2.1 hin X.2.2.2.1 X.2.2.2.2.2.1 hw.1 pl (en_get hs) hc k hk (X.2.2.2.2.1 _ hlink) (fun _ h => h) (hv ▸ en_f_get hkl) hdg kk
theorem r_put (X : Cx E p s m args meth c cc nL own ret) (hw : Hw E σ s H locs) {pl ci : Nat} {ks : List Nat} (hs : Sp E pl (.inr (.inr (ci, ks)))) {C : String} {T : u_T} {N index : Nat} (hc : vwCl[ci]? = some (C, T, N)) (hin : ∀ w ∈ u_ws C T N, w ∈ lw_good) (ty0 : Nat → FieldType) (hty : ∀ k, k < N → parseFieldDescriptor (T k).2.2.1 = some (ty0 k)) (hnm : ∀ a, a < N → ∀ b, b < N → a ≠ b → (T a).2.1 ≠ (T b).2.1) (k : Nat) (hk : k < N) (hkl : k < ks.length) (hlink : Cond.fieldLink own index (T k).1 (T k).2.1 (T k).2.2.1 ∈ lw_good) (hfin : (T k).2.2.2 = false) {v : Value} (hn : narrow (ty0 k) v = v) (hfit : fits (ty0 k) v = true) {x : Int32} (hv : fv (eP E) (ks.getD k 0) x = v) (hdg : decode cc pc = .ok (.putfield index, 3))
    (kk : ∀ (H1 : Heap) (locs1 : List Loc), Hw E (up σ pl k x) s H1 locs1 → W p l e R s m args below meth c H1 locs1 cells slots Q (F0 m (pc + 3) ls rest)) : W p l e R s m args below meth c H locs cells slots Q (F0 m pc ls (v :: .ref (eP E pl) :: rest)) := by
  subst hv
  refine va_put X.1 X.2.1 X.2.2.2.2.1 hin ty0 hty hnm X.2.2.2.1 X.2.2.2.2.2.1 hw.1 (en_D X.2.2.2.2.2.2.2.1 σ) hw.2 pl (en_get hs) hc k hk (X.2.2.2.2.1 _ hlink) (fun _ h => h) hfin (hty k hk) hn hfit (by rw [en_f_len]; exact hkl) hdg (fun H1 locs1 hP _ hS => kk H1 locs1 ⟨?_, hS⟩)
  have h := en_set (σ := σ) (σ' := up σ pl k x) hs (fun q hq => up_n hq)
  rw [up_s] at h
  rw [en_f_set hkl] at hP
  rw [← h]; exact hP
theorem r_hi (X : Cx E p s m args meth c cc nL RX7 ret) (hw : Hw E σ s H locs) {index : Nat} (hlink : Cond.fieldLink RX7 index RX7 "HIGHEST" "[I" ∈ lw_good) (hdg : decode cc pc = .ok (.getstatic index, 3))
    (kk : W p l e R s m args below meth c H locs cells slots Q (F0 m (pc + 3) ls (.ref (eS E 0) :: rest))) : W p l e R s m args below meth c H locs cells slots Q (F0 m pc ls rest) :=
  va_gets X.1 X.2.1 X.2.2.2.2.2.2.1.1.1 hw.2 X.2.2.2.1 (X.2.2.2.2.1 _ hlink) (fun _ h => h) hdg kk
theorem r_hiN (X : Cx E p s m args meth c cc nL own ret) (hw : Hw E σ s H locs) {index : Nat} (hlink : Cond.fieldLinkNest own index RX7 "HIGHEST" "[I" RX7 ∈ lw_nest) (hdg : decode cc pc = .ok (.getstatic index, 3))
    (kk : W p l e R s m args below meth c H locs cells slots Q (F0 m (pc + 3) ls (.ref (eS E 0) :: rest))) : W p l e R s m args below meth c H locs cells slots Q (F0 m pc ls rest) :=
  va_getsN X.1 X.2.1 X.2.2.2.2.2.2.1.1.1 hw.2 X.2.2.2.1 (va_Nw.use rfl (X.2.2.2.2.2.2.1.2.2.1 _ hlink)) (fun _ h => h) hdg kk
theorem r_un (X : Cx E p s m args meth c cc nL RX7 ret) (hw : Hw E σ s H locs) {index : Nat} (hlink : Cond.fieldLink RX7 index RX7 "UNDER" "[I" ∈ lw_good) (hdg : decode cc pc = .ok (.getstatic index, 3))
    (kk : W p l e R s m args below meth c H locs cells slots Q (F0 m (pc + 3) ls (.ref (eS E 1) :: rest))) : W p l e R s m args below meth c H locs cells slots Q (F0 m pc ls rest) :=
  va_gets X.1 X.2.1 X.2.2.2.2.2.2.1.2.1.1 hw.2 X.2.2.2.1 (X.2.2.2.2.1 _ hlink) (fun _ h => h) hdg kk
def c_hi (i : Int32) : Int32 := ([999, 9, 23, 99, 99, 9999, 9] : List Int32).getD i.toNatClampNeg 0
def c_un (i : Int32) : Int32 := ([-1, 0, 0, 1, 2, 0] : List Int32).getD i.toNatClampNeg 0
theorem r_hild (X : Cx E p s m args meth c cc nL own ret) (hw : Hw E σ s H locs) {i : Int32} (hin : vp_in i 7) (hdg : decode cc pc = .ok (.iaload, 1))
    (kk : W p l e R s m args below meth c H locs cells slots Q (F0 m (pc + 1) ls (.int (c_hi i) :: rest))) : W p l e R s m args below meth c H locs cells slots Q (F0 m pc ls (.int i :: .ref (eS E 0) :: rest)) :=
  va_ti X.1 X.2.1 X.2.2.2.2.2.2.1.1.2 hw.2 hin rfl hdg kk
theorem r_unld (X : Cx E p s m args meth c cc nL own ret) (hw : Hw E σ s H locs) {i : Int32} (hin : vp_in i 6) (hdg : decode cc pc = .ok (.iaload, 1))
    (kk : W p l e R s m args below meth c H locs cells slots Q (F0 m (pc + 1) ls (.int (c_un i) :: rest))) : W p l e R s m args below meth c H locs cells slots Q (F0 m pc ls (.int i :: .ref (eS E 1) :: rest)) :=
  va_ti X.1 X.2.1 X.2.2.2.2.2.2.1.2.1.2 hw.2 hin rfl hdg kk
def jmax (x y : Int32) : Int32 := if x < y then y else x
theorem r_max (X : Cx E p s m args meth c cc nL own ret) (hl : ls.size = nL) {index : Nat} (h1 : Cond.methodLink own index Lib.Math.max.name ∈ lw_good) (h2 : Cond.static Lib.Math.max.name ∈ lw_good) (h3 : Cond.initialized "java/lang/Math" ∈ lw_good) (h4 : Cond.code Lib.Math.max.name Lib.Math.max.code 2 (some .int) ∈ lw_good) (hf : 1 ≤ R.frames) (hlo : (rest.map fun v => v.category).sum + 13 ≤ R.locals) (hc : cells ≤ R.cells) (hs : slots ≤ R.slots) {x y : Int32} (hdg : decode cc pc = .ok (.invokestatic index, 3))
    (kk : W p l e R s m args below meth c H locs cells slots Q (F0 m (pc + 3) ls (.int (jmax x y) :: rest))) : W p l e R s m args below meth c H locs cells slots Q (F0 m pc ls (.int y :: .int x :: rest)) :=
  va_mmax X.1 X.2.1 (X.2.2.1.trans hl.symm) X.2.2.2.1 (X.2.2.2.2.1 _ h1) (X.2.2.2.2.1 _ h2) (X.2.2.2.2.1 _ h3) (X.2.2.2.2.1 _ h4) hf hlo hc hs hdg kk
def jmin (x y : Int32) : Int32 := if y < x then y else x
theorem jmin_kit (x y : Int32) : jmin x y = if y < x then y else x := rfl
theorem r_run {As : Array Value} {st0 : List Value} {res : Option Value} {σ' : sg_T} {st1 : List Value} (hr : va_Run p l e R s m args below meth c H locs cells slots 0 0 (F0 m pc ls st0) rest (Qf E res σ' As) (en_A E)) (hw : Hw E σ s H locs) (hst : res.toList ++ rest = st1)
    (kk : ∀ (H1 : Heap) (locs1 : List Loc), Hw E σ' s H1 locs1 → W p l e R s m args below meth c H1 locs1 cells slots Q (F0 m (pc + 3) ls st1)) : W p l e R s m args below meth c H locs cells slots Q (F0 m pc ls st0) := by
  subst hst
  intro T hT X
  obtain ⟨v, st₀, t, T', L, h0, X', hL, e1, e2, ⟨hv, hI, hz, hk⟩, st⟩ := hr T hT X
  cases hv
  rw [h0] at hz hk
  have hS := hw.2
  obtain ⟨t2, a1, b1⟩ := kk T'.heap (locs ++ L) ⟨by rw [e1]; exact hI.1, ⟨Nat.le_trans hS.1 (by rw [e1]; exact hz), fun q h1 h2 => by rw [e1, hk q (Nat.lt_of_lt_of_le h1 hS.1) h2]; exact hS.2.1 q h1 h2, fun q hq => by
      rcases List.mem_append.mp hq with h | h
      · exact hS.2.2 q h
      · exact hL q h⟩⟩ T' rfl X'
  exact ⟨t2, st t2 a1, b1⟩
theorem Iw.blind (As : List Value) : FrameBlind (va_Pc As (Iw E σ)) := fun a U g mk q => by
  obtain ⟨q0, qP, qK, qG⟩ := q
  exact ⟨q0, qP, va_K.moved (u := U) (U := U.calling g mk a) (Vm.Alike.refl U.vm) qK, Gs.same (s := U) (U := U.calling g mk a) (H := U.heap) rfl qG⟩
theorem Hw.pre (X : Cx E p s m args meth c cc nL own ret) (hw : Hw E σ s H locs) (As : List Value) : ∀ U : State, U.heap = H → s.WarmedH U.vm → va_Pc As (Iw E σ) As.toArray U := fun U hU hW =>
  ⟨rfl, by rw [hU]; exact hw.1, va_K.moved hW.alike X.2.2.2.2.2.1, by rw [hU]; exact (X.2.2.2.2.2.2.1.kept hw.2.2.1).warm hW⟩
theorem r_callV (X : Cx E p s m args meth c cc nL own ret) (hw : Hw E σ s H locs) {y : MethodName} {cb : ByteArray} {maxL : Nat} {ret' : Option FieldType} {rm : Room} {pl : Nat} {As : List Value} {res : Option Value} {σ' : sg_T} (hM : Ct l y cb maxL ret' rm E (.ref (eP E pl) :: As) σ res σ')
    {ci : Nat} {ks : List Nat} (hs : Sp E pl (.inr (.inr (ci, ks)))) {C : String} {T : u_T} {N index n : Nat} (hc : vwCl[ci]? = some (C, T, N)) (w1 : Cond.methodLink own index y ∈ lw_good) (w2 : Cond.instanceMethod y ∈ lw_good) (w3 : Cond.selects C y y ∈ lw_good) (w4 : Cond.initialized C ∈ lw_good) (w5 : Cond.code y cb maxL ret' ∈ lw_good)
    (hd : y.cls = C ∧ y.cls ≠ "java/lang/invoke/MethodHandle" ∧ y.cls ≠ "java/lang/invoke/VarHandle" ∧ (parseMethodDescriptor y.desc).map (fun d => d.parameters.length) = some n) (hz : rm.cells = 0 ∧ rm.slots = 0) (hR : rm.frames + 1 ≤ R.frames ∧ 8 + (maxL + 11) + rm.locals ≤ R.locals) (hf : cells ≤ R.cells ∧ slots ≤ R.slots)
    (hn : As.length = n) (hl : ls.size = nL) {st0 st1 : List Value} (hst0 : st0 = As.reverse ++ .ref (eP E pl) :: rest) (hro : (rest.map fun v => v.category).sum ≤ 8) (hdg : decode cc pc = .ok (.invokevirtual index, 3)) (hst1 : res.toList ++ rest = st1)
    (kk : ∀ (H1 : Heap) (locs1 : List Loc), Hw E σ' s H1 locs1 → W p l e R s m args below meth c H1 locs1 cells slots Q (F0 m (pc + 3) ls st1)) : W p l e R s m args below meth c H locs cells slots Q (F0 m pc ls st0) := by
  have hG : GoodIn lw_good (wsV own index C y (wsy y cb maxL ret')) := good_ok (fun w hw => by
    simp only [wsV, List.mem_append, List.mem_cons, List.not_mem_nil, or_false] at hw
    rcases hw with (rfl | rfl | rfl | rfl) | hw
    · exact w1
    · exact w2
    · exact w3
    · exact w4
    · exact wsy_in w5 w hw)
  exact r_run (va_runV (As := As) (rest := rest) ⟨X.1, X.2.1, X.2.2.1, X.2.2.2.1, X.2.2.2.2.1⟩ hM (cwV n X.2.2.2.2.1 hG rfl hz.1 hz.2 hd hR) ⟨Iw.blind _, va_recv X.2.2.2.2.2.1 hw.1 hc (en_get hs), hw.pre X _⟩ rfl hn hl hst0 (lv_room hro) hdg hf) hw hst1 kk
theorem r_callS (X : Cx E p s m args meth c cc nL own ret) (hw : Hw E σ s H locs) {y : MethodName} {cb : ByteArray} {maxL : Nat} {ret' : Option FieldType} {rm : Room} {As : List Value} {res : Option Value} {σ' : sg_T} (hM : Ct l y cb maxL ret' rm E As σ res σ')
    {index n : Nat} (w1 : Cond.methodLink own index y ∈ lw_good) (w2 : Cond.static y ∈ lw_good) (w4 : Cond.initialized y.cls ∈ lw_good) (w5 : Cond.code y cb maxL ret' ∈ lw_good)
    (hd : y.cls ≠ "java/lang/invoke/MethodHandle" ∧ y.cls ≠ "java/lang/invoke/VarHandle" ∧ (parseMethodDescriptor y.desc).map (fun d => d.parameters.length) = some n) (hz : rm.cells = 0 ∧ rm.slots = 0) (hR : rm.frames + 1 ≤ R.frames ∧ 8 + (maxL + 11) + rm.locals ≤ R.locals) (hf : cells ≤ R.cells ∧ slots ≤ R.slots)
    (hn : As.length = n) (hl : ls.size = nL) {st0 st1 : List Value} (hst0 : st0 = As.reverse ++ rest) (hro : (rest.map fun v => v.category).sum ≤ 8) (hdg : decode cc pc = .ok (.invokestatic index, 3)) (hst1 : res.toList ++ rest = st1)
    (kk : ∀ (H1 : Heap) (locs1 : List Loc), Hw E σ' s H1 locs1 → W p l e R s m args below meth c H1 locs1 cells slots Q (F0 m (pc + 3) ls st1)) : W p l e R s m args below meth c H locs cells slots Q (F0 m pc ls st0) := by
  have hG : GoodIn lw_good (va_wsS own index y (wsy y cb maxL ret')) := good_ok (fun w hw => by
    simp only [va_wsS, List.mem_append, List.mem_cons, List.not_mem_nil, or_false] at hw
    rcases hw with (rfl | rfl | rfl) | hw
    · exact w1
    · exact w2
    · exact w4
    · exact wsy_in w5 w hw)
  exact r_run (va_runS (As := As) (rest := rest) ⟨X.1, X.2.1, X.2.2.1, X.2.2.2.1, X.2.2.2.2.1⟩ hM (va_cwS n X.2.2.2.2.1 hG rfl hz.1 hz.2 hd hR) ⟨Iw.blind _, hw.pre X _⟩ rfl hn hl hst0 (lv_room hro) hdg hf) hw hst1 kk
theorem r_callSN (X : Cx E p s m args meth c cc nL own ret) (hw : Hw E σ s H locs) {y : MethodName} {cb : ByteArray} {maxL : Nat} {ret' : Option FieldType} {rm : Room} {As : List Value} {res : Option Value} {σ' : sg_T} (hM : Ct l y cb maxL ret' rm E As σ res σ')
    {index n : Nat} {host : String} (w1 : Cond.methodLinkNest own index y host ∈ lw_nest) (w2 : Cond.static y ∈ lw_good) (w4 : Cond.initialized y.cls ∈ lw_good) (w5 : Cond.code y cb maxL ret' ∈ lw_good)
    (hd : y.cls ≠ "java/lang/invoke/MethodHandle" ∧ y.cls ≠ "java/lang/invoke/VarHandle" ∧ (parseMethodDescriptor y.desc).map (fun d => d.parameters.length) = some n) (hz : rm.cells = 0 ∧ rm.slots = 0) (hR : rm.frames + 1 ≤ R.frames ∧ 8 + (maxL + 11) + rm.locals ≤ R.locals) (hf : cells ≤ R.cells ∧ slots ≤ R.slots)
    (hn : As.length = n) (hl : ls.size = nL) {st0 st1 : List Value} (hst0 : st0 = As.reverse ++ rest) (hro : (rest.map fun v => v.category).sum ≤ 8) (hdg : decode cc pc = .ok (.invokestatic index, 3)) (hst1 : res.toList ++ rest = st1)
    (kk : ∀ (H1 : Heap) (locs1 : List Loc), Hw E σ' s H1 locs1 → W p l e R s m args below meth c H1 locs1 cells slots Q (F0 m (pc + 3) ls st1)) : W p l e R s m args below meth c H locs cells slots Q (F0 m pc ls st0) :=
  r_run (va_runSN (As := As) (rest := rest) (bytes := cb) (maxL := maxL) (ret := ret') ⟨X.1, X.2.1, X.2.2.1, X.2.2.2.1, X.2.2.2.2.1⟩ hM ⟨va_cnB n X.2.2.2.2.1 (good_ok (wsy_in w5)) rfl hz.1 hz.2 (X.2.2.2.2.2.2.1.2.2.1 _ w1) (X.2.2.2.2.1 _ w4) hd hR, X.2.2.2.2.1 _ w2, trivial⟩ ⟨Iw.blind _, hw.pre X _⟩ rfl hn hl hst0 (lv_room hro) hdg hf) hw hst1 kk
theorem Hw.post (X : Cx E p s m args meth c cc nL own ret) (hw : Hw E σ s H locs) (res : Option Value) : ∀ t : State, t.heap = H → s.WarmedH t.vm → Qf E res σ args s (.returned res) t := fun t ht hW =>
  ⟨rfl, ⟨by rw [ht]; exact hw.1, va_K.moved hW.alike X.2.2.2.2.2.1, by rw [ht]; exact (X.2.2.2.2.2.2.1.kept hw.2.2.1).warm hW⟩, hw.2.F ht⟩
theorem r_iret (X : Cx E p s m args meth c cc nL own (some .int)) (hw : Hw E σ s H locs) {v : Int32} (hdg : decode cc pc = .ok (.ireturn, 1)) : W p l e R s m args below meth c H locs cells slots (MQ below (Qf E (some (.int v)) σ) args s cells slots (en_A E)) (F0 m pc ls [.int v]) :=
  W.iret X.1 X.2.1 X.2.2.2.2.2.2.2.2.1 (hw.post X _) hw.2.2.2 hdg X.2.2.2.2.2.2.2.2.2
theorem r_zret (X : Cx E p s m args meth c cc nL own (some .boolean)) (hw : Hw E σ s H locs) {v : Int32} (hv : v &&& 1 = v) (hdg : decode cc pc = .ok (.ireturn, 1)) : W p l e R s m args below meth c H locs cells slots (MQ below (Qf E (some (.int v)) σ) args s cells slots (en_A E)) (F0 m pc ls [.int v]) :=
  W.zret X.1 X.2.1 X.2.2.2.2.2.2.2.2.1 (congrArg Value.int hv) (hw.post X _) hw.2.2.2 hdg X.2.2.2.2.2.2.2.2.2
theorem r_vret (X : Cx E p s m args meth c cc nL own none) (hw : Hw E σ s H locs) (hdg : decode cc pc = .ok (.return_, 1)) : W p l e R s m args below meth c H locs cells slots (MQ below (Qf E none σ) args s cells slots (en_A E)) (F0 m pc ls []) :=
  W.vret X.1 X.2.1 X.2.2.2.2.2.2.2.2.1 (hw.post X _) hw.2.2.2 hdg X.2.2.2.2.2.2.2.2.2
theorem r_lret (X : Cx E p s m args meth c cc nL own (some .long)) (hw : Hw E σ s H locs) {v : Int64} (hdg : decode cc pc = .ok (.lreturn, 1)) : W p l e R s m args below meth c H locs cells slots (MQ below (Qf E (some (.long v)) σ) args s cells slots (en_A E)) (F0 m pc ls [.long v]) :=
  W.lret X.1 X.2.1 X.2.2.2.2.2.2.2.2.1 (hw.post X _) hw.2.2.2 hdg X.2.2.2.2.2.2.2.2.2
theorem r_aret {t : FieldType} (X : Cx E p s m args meth c cc nL own (some (.array t))) (hw : Hw E σ s H locs) {q : Nat} (hdg : decode cc pc = .ok (.areturn, 1)) : W p l e R s m args below meth c H locs cells slots (MQ below (Qf E (some (.ref q)) σ) args s cells slots (en_A E)) (F0 m pc ls [.ref q]) :=
  W.aret X.1 X.2.1 X.2.2.2.2.2.2.2.2.1 (Or.inr ⟨t, rfl⟩) (Or.inr ⟨q, rfl⟩) (hw.post X _) hw.2.2.2 hdg X.2.2.2.2.2.2.2.2.2
end RowsA
end
section
/-! The pieces of which the methods' functions are made: each says what its being 'some' means. -/
def bnd {α β : Type} (a : α) (f : α → β) : β := f a
theorem b_bnd {α β : Type} {a : α} {k : α → Option β} {out : β} (h : bnd a k = some out) : ∃ y, y = a ∧ k y = some out := ⟨a, rfl, h⟩
def ck {β : Type} (i : Int32) (n : Nat) (r : Option β) : Option β := if (i < 0 ∨ n ≤ i.toNatClampNeg) then none else r
theorem b_ck {β : Type} {i : Int32} {n : Nat} {r : Option β} {out : β} (h : ck i n r = some out) : vp_in i n ∧ r = some out := by
  unfold ck at h
  by_cases q : (i < 0 ∨ n ≤ i.toNatClampNeg)
  · rw [if_pos q] at h; cases h
  · rw [if_neg q] at h; exact ⟨q, h⟩
theorem ck_of {β : Type} {i : Int32} {n : Nat} {r : Option β} (h : vp_in i n) : ck i n r = r := if_neg h
def dz {β : Type} (i : Int32) (r : Option β) : Option β := if i = 0 then none else r
theorem b_dz {β : Type} {i : Int32} {r : Option β} {out : β} (h : dz i r = some out) : (¬ i = 0) ∧ r = some out := by
  unfold dz at h
  by_cases q : i = 0
  · rw [if_pos q] at h; cases h
  · rw [if_neg q] at h; exact ⟨q, h⟩
theorem dz_of {β : Type} {i : Int32} {r : Option β} (h : ¬ i = 0) : dz i r = r := if_neg h
def dzl {β : Type} (i : Int64) (r : Option β) : Option β := if i = 0 then none else r
theorem b_dzl {β : Type} {i : Int64} {r : Option β} {out : β} (h : dzl i r = some out) : (¬ i = 0) ∧ r = some out := by
  unfold dzl at h
  by_cases q : i = 0
  · rw [if_pos q] at h; cases h
  · rw [if_neg q] at h; exact ⟨q, h⟩
theorem dzl_of {β : Type} {i : Int64} {r : Option β} (h : ¬ i = 0) : dzl i r = r := if_neg h
/-- a number that is a truth value -/
def cz {β : Type} (i : Int32) (r : Option β) : Option β := if (i = 0 ∨ i = 1) then r else none
theorem b_cz {β : Type} {i : Int32} {r : Option β} {out : β} (h : cz i r = some out) : (i = 0 ∨ i = 1) ∧ r = some out := by
  unfold cz at h
  by_cases q : (i = 0 ∨ i = 1)
  · rw [if_pos q] at h; exact ⟨q, h⟩
  · rw [if_neg q] at h; cases h
theorem cz_of {β : Type} {i : Int32} {r : Option β} (h : i = 0 ∨ i = 1) : cz i r = r := if_pos h
theorem cz_and {i : Int32} (h : i = 0 ∨ i = 1) : i &&& 1 = i := by rcases h with rfl | rfl <;> decide +kernel
theorem if_t {β : Type} {c : Prop} [Decidable c] {a b : Option β} {out : β} (h : (if c then a else b) = some out) (hc : c) : a = some out := by rw [if_pos hc] at h; exact h
theorem if_e {β : Type} {c : Prop} [Decidable c] {a b : Option β} {out : β} (h : (if c then a else b) = some out) (hc : ¬ c) : b = some out := by rw [if_neg hc] at h; exact h
/-- a loop: its body goes on (left) or comes to an end (right) -/
def itr {α β : Type} (f : α → Option (α ⊕ β)) : Nat → α → Option β
  | 0, _ => none
  | n + 1, a => match f a with
    | none => none
    | some (.inl b) => itr f n b
    | some (.inr r) => some r
theorem itr_s {α β : Type} {f : α → Option (α ⊕ β)} {n : Nat} {a : α} {res : β} (h : itr f (n + 1) a = some res) : ∃ r, f a = some r ∧ (∀ b, r = .inl b → itr f n b = some res) ∧ (∀ b, r = .inr b → b = res) := by
  rw [itr] at h
  cases hf : f a with
  | none => rw [hf] at h; cases h
  | some r =>
    rw [hf] at h
    cases r with
    | inl b => exact ⟨_, rfl, (fun b' e => by cases e; exact h), (fun b' e => by cases e)⟩
    | inr b => exact ⟨_, rfl, (fun b' e => by cases e), (fun b' e => by cases e; exact Option.some.inj h)⟩
theorem itr_0 {α β : Type} {f : α → Option (α ⊕ β)} {a : α} {res : β} (h : itr f 0 a = some res) : False := by cases h
theorem itr_l {α β : Type} {f : α → Option (α ⊕ β)} {n : Nat} {a b : α} (h : f a = some (.inl b)) : itr f (n + 1) a = itr f n b := by rw [itr, h]
theorem itr_r {α β : Type} {f : α → Option (α ⊕ β)} {n : Nat} {a : α} {r : β} (h : f a = some (.inr r)) : itr f (n + 1) a = some r := by rw [itr, h]
/-- how many turns a loop may take at most: far more than any takes -/
def lfu : Nat := 100000
def bs {α β γ : Type} (o : Option (α ⊕ β)) (kr : β → Option γ) (k : α → Option γ) : Option γ := match o with
  | none => none
  | some (.inl a) => k a
  | some (.inr b) => kr b
theorem b_bs {α β γ : Type} {o : Option (α ⊕ β)} {kr : β → Option γ} {k : α → Option γ} {out : γ} (h : bs o kr k = some out) : ∃ r, o = some r ∧ ((∃ a, r = .inl a ∧ k a = some out) ∨ (∃ b, r = .inr b ∧ kr b = some out)) := by
  cases o with
  | none => cases h
  | some r =>
    cases r with
    | inl a => exact ⟨_, rfl, Or.inl ⟨a, rfl, h⟩⟩
    | inr b => exact ⟨_, rfl, Or.inr ⟨b, rfl, h⟩⟩
def bd1 {a1 z : Type} (o : Option a1) (k : a1 → Option z) : Option z := match o with
  | none => none
  | some q => k q
theorem b_bd1 {a1 z : Type} {o : Option a1} {k : a1 → Option z} {out : z} (h : bd1 o k = some out) : ∃ x1, o = some x1 ∧ k x1 = some out := by
  cases o with
  | none => cases h
  | some q => exact ⟨_, rfl, h⟩
def bd2 {a1 a2 z : Type} (o : Option (a1 × a2)) (k : a1 → a2 → Option z) : Option z := match o with
  | none => none
  | some q => k q.1 q.2
theorem b_bd2 {a1 a2 z : Type} {o : Option (a1 × a2)} {k : a1 → a2 → Option z} {out : z} (h : bd2 o k = some out) : ∃ x1 x2, o = some (x1, x2) ∧ k x1 x2 = some out := by
  cases o with
  | none => cases h
  | some q => exact ⟨_, _, rfl, h⟩
def bd3 {a1 a2 a3 z : Type} (o : Option (a1 × a2 × a3)) (k : a1 → a2 → a3 → Option z) : Option z := match o with
  | none => none
  | some q => k q.1 q.2.1 q.2.2
theorem b_bd3 {a1 a2 a3 z : Type} {o : Option (a1 × a2 × a3)} {k : a1 → a2 → a3 → Option z} {out : z} (h : bd3 o k = some out) : ∃ x1 x2 x3, o = some (x1, x2, x3) ∧ k x1 x2 x3 = some out := by
  cases o with
  | none => cases h
  | some q => exact ⟨_, _, _, rfl, h⟩
def bd4 {a1 a2 a3 a4 z : Type} (o : Option (a1 × a2 × a3 × a4)) (k : a1 → a2 → a3 → a4 → Option z) : Option z := match o with
  | none => none
  | some q => k q.1 q.2.1 q.2.2.1 q.2.2.2
theorem b_bd4 {a1 a2 a3 a4 z : Type} {o : Option (a1 × a2 × a3 × a4)} {k : a1 → a2 → a3 → a4 → Option z} {out : z} (h : bd4 o k = some out) : ∃ x1 x2 x3 x4, o = some (x1, x2, x3, x4) ∧ k x1 x2 x3 x4 = some out := by
  cases o with
  | none => cases h
  | some q => exact ⟨_, _, _, _, rfl, h⟩
def bd5 {a1 a2 a3 a4 a5 z : Type} (o : Option (a1 × a2 × a3 × a4 × a5)) (k : a1 → a2 → a3 → a4 → a5 → Option z) : Option z := match o with
  | none => none
  | some q => k q.1 q.2.1 q.2.2.1 q.2.2.2.1 q.2.2.2.2
theorem b_bd5 {a1 a2 a3 a4 a5 z : Type} {o : Option (a1 × a2 × a3 × a4 × a5)} {k : a1 → a2 → a3 → a4 → a5 → Option z} {out : z} (h : bd5 o k = some out) : ∃ x1 x2 x3 x4 x5, o = some (x1, x2, x3, x4, x5) ∧ k x1 x2 x3 x4 x5 = some out := by
  cases o with
  | none => cases h
  | some q => exact ⟨_, _, _, _, _, rfl, h⟩
def bd6 {a1 a2 a3 a4 a5 a6 z : Type} (o : Option (a1 × a2 × a3 × a4 × a5 × a6)) (k : a1 → a2 → a3 → a4 → a5 → a6 → Option z) : Option z := match o with
  | none => none
  | some q => k q.1 q.2.1 q.2.2.1 q.2.2.2.1 q.2.2.2.2.1 q.2.2.2.2.2
theorem b_bd6 {a1 a2 a3 a4 a5 a6 z : Type} {o : Option (a1 × a2 × a3 × a4 × a5 × a6)} {k : a1 → a2 → a3 → a4 → a5 → a6 → Option z} {out : z} (h : bd6 o k = some out) : ∃ x1 x2 x3 x4 x5 x6, o = some (x1, x2, x3, x4, x5, x6) ∧ k x1 x2 x3 x4 x5 x6 = some out := by
  cases o with
  | none => cases h
  | some q => exact ⟨_, _, _, _, _, _, rfl, h⟩
def bd7 {a1 a2 a3 a4 a5 a6 a7 z : Type} (o : Option (a1 × a2 × a3 × a4 × a5 × a6 × a7)) (k : a1 → a2 → a3 → a4 → a5 → a6 → a7 → Option z) : Option z := match o with
  | none => none
  | some q => k q.1 q.2.1 q.2.2.1 q.2.2.2.1 q.2.2.2.2.1 q.2.2.2.2.2.1 q.2.2.2.2.2.2
theorem b_bd7 {a1 a2 a3 a4 a5 a6 a7 z : Type} {o : Option (a1 × a2 × a3 × a4 × a5 × a6 × a7)} {k : a1 → a2 → a3 → a4 → a5 → a6 → a7 → Option z} {out : z} (h : bd7 o k = some out) : ∃ x1 x2 x3 x4 x5 x6 x7, o = some (x1, x2, x3, x4, x5, x6, x7) ∧ k x1 x2 x3 x4 x5 x6 x7 = some out := by
  cases o with
  | none => cases h
  | some q => exact ⟨_, _, _, _, _, _, _, rfl, h⟩
def bd8 {a1 a2 a3 a4 a5 a6 a7 a8 z : Type} (o : Option (a1 × a2 × a3 × a4 × a5 × a6 × a7 × a8)) (k : a1 → a2 → a3 → a4 → a5 → a6 → a7 → a8 → Option z) : Option z := match o with
  | none => none
  | some q => k q.1 q.2.1 q.2.2.1 q.2.2.2.1 q.2.2.2.2.1 q.2.2.2.2.2.1 q.2.2.2.2.2.2.1 q.2.2.2.2.2.2.2
theorem b_bd8 {a1 a2 a3 a4 a5 a6 a7 a8 z : Type} {o : Option (a1 × a2 × a3 × a4 × a5 × a6 × a7 × a8)} {k : a1 → a2 → a3 → a4 → a5 → a6 → a7 → a8 → Option z} {out : z} (h : bd8 o k = some out) : ∃ x1 x2 x3 x4 x5 x6 x7 x8, o = some (x1, x2, x3, x4, x5, x6, x7, x8) ∧ k x1 x2 x3 x4 x5 x6 x7 x8 = some out := by
  cases o with
  | none => cases h
  | some q => exact ⟨_, _, _, _, _, _, _, _, rfl, h⟩
end
section
/-- the shape of every place behind both constructors -/
def shL : List sh_K := [.inr (.inr (7, [9, 4, 31, 37, 45, 53, 61, 63, 0])),
  .inr (.inr (2, [5, 0, 6, 7, 8, 0, 0, 2])),
  .inl (.int, 160),
  .inl (.int, 161),
  .inl (.int, 161),
  .inl (.int, 161),
  .inr (.inr (3, [10, 11, 12, 0])),
  .inr (.inl (RX5, 6, fun j => 10 + 3 * j + 3)),
  .inl (.int, 6),
  .inl (.int, 36),
  .inr (.inr (5, [14, 15, 0])),
  .inl (.int, 160),
  .inl (.int, 3),
  .inr (.inr (5, [17, 18, 0])),
  .inl (.int, 160),
  .inl (.int, 3),
  .inr (.inr (5, [20, 21, 0])),
  .inl (.int, 160),
  .inl (.int, 3),
  .inr (.inr (5, [23, 24, 0])),
  .inl (.int, 160),
  .inl (.int, 3),
  .inr (.inr (5, [26, 27, 0])),
  .inl (.int, 160),
  .inl (.int, 3),
  .inr (.inr (5, [29, 30, 0])),
  .inl (.int, 160),
  .inl (.int, 3),
  .inr (.inr (0, [9, 32, 33, 34, 35, 36])),
  .inl (.int, 5),
  .inl (.int, 5),
  .inl (.int, 5),
  .inl (.int, 5),
  .inl (.int, 5),
  .inr (.inr (1, [38, 39, 40, 41, 42, 43, 44, 0, 0, 0])),
  .inl (.int, 5),
  .inl (.int, 5),
  .inl (.int, 5),
  .inl (.int, 5),
  .inl (.int, 5),
  .inl (.int, 5),
  .inl (.int, 25),
  .inr (.inr (1, [46, 47, 48, 49, 50, 51, 52, 0, 0, 0])),
  .inl (.int, 5),
  .inl (.int, 5),
  .inl (.int, 5),
  .inl (.int, 5),
  .inl (.int, 5),
  .inl (.int, 5),
  .inl (.int, 25),
  .inr (.inr (1, [54, 55, 56, 57, 58, 59, 60, 0, 0, 0])),
  .inl (.int, 5),
  .inl (.int, 5),
  .inl (.int, 5),
  .inl (.int, 5),
  .inl (.int, 5),
  .inl (.int, 5),
  .inl (.int, 25),
  .inr (.inr (6, [62, 0, 0, 0])),
  .inl (.int, 25),
  .inr (.inl (RX4, 4, fun j => 61 + 2 * j + 3)),
  .inr (.inr (4, [65, 0, 0])),
  .inl (.int, 40),
  .inr (.inr (4, [67, 0, 0])),
  .inl (.int, 40),
  .inr (.inr (4, [69, 0, 0])),
  .inl (.int, 40),
  .inr (.inr (4, [71, 0, 0])),
  .inl (.int, 40),
  .inr (.inr (8, [73, 74, 75, 0, 76, 77, 0, 0, 0, 0, 0, 78, 79, 0, 0, 80, 81, 0, 82, 83, 84, 85, 86, 0, 0, 87, 88, 89, 90, 91, 92])),
  .inl (.int, 58),
  .inl (.int, 58),
  .inl (.int, 58),
  .inl (.int, 7),
  .inl (.int, 160),
  .inl (.int, 960),
  .inl (.int, 18),
  .inl (.char, 72),
  .inl (.int, 160),
  .inl (.int, 160),
  .inl (.int, 5),
  .inl (.int, 5),
  .inl (.int, 5),
  .inl (.int, 5),
  .inl (.int, 4),
  .inl (.int, 4),
  .inl (.int, 160),
  .inl (.int, 40),
  .inl (.int, 6),
  .inl (.boolean, 100)]
def shF (p : Nat) : sh_K := shL.getD p (.inl (.int, 0))
def nF : Nat := 90
/-- the reader, the rules and the texts stand in their places (also while the rest is being made) -/
def ShR (E : en_T) : Prop := en_I E ∧ 28 ≤ eN E ∧ ∀ p, 1 ≤ p → p < 28 → eH E p = shF p
def ShF (E : en_T) : Prop := en_I E ∧ eN E = nF ∧ ∀ p, p < nF → eH E p = shF p
theorem ShF.r {E : en_T} (h : ShF E) : ShR E := ⟨h.1, by rw [h.2.1]; decide, fun p _ h2 => h.2.2 p (Nat.lt_of_lt_of_le h2 (by decide))⟩
theorem sp0 {E : en_T} (h : ShF E) : Sp E 0 (.inr (.inr (7, [9, 4, 31, 37, 45, 53, 61, 63, 0]))) := ⟨by rw [h.2.1]; decide, (h.2.2 0 (by decide)).trans rfl⟩
theorem sp1 {E : en_T} (h : ShR E) : Sp E 1 (.inr (.inr (2, [5, 0, 6, 7, 8, 0, 0, 2]))) := ⟨Nat.lt_of_lt_of_le (by decide) h.2.1, (h.2.2 1 (by decide) (by decide)).trans rfl⟩
theorem sp2 {E : en_T} (h : ShR E) : Sp E 2 (.inl (.int, 160)) := ⟨Nat.lt_of_lt_of_le (by decide) h.2.1, (h.2.2 2 (by decide) (by decide)).trans rfl⟩
theorem sp3 {E : en_T} (h : ShR E) : Sp E 3 (.inl (.int, 161)) := ⟨Nat.lt_of_lt_of_le (by decide) h.2.1, (h.2.2 3 (by decide) (by decide)).trans rfl⟩
theorem sp4 {E : en_T} (h : ShR E) : Sp E 4 (.inl (.int, 161)) := ⟨Nat.lt_of_lt_of_le (by decide) h.2.1, (h.2.2 4 (by decide) (by decide)).trans rfl⟩
theorem sp5 {E : en_T} (h : ShR E) : Sp E 5 (.inl (.int, 161)) := ⟨Nat.lt_of_lt_of_le (by decide) h.2.1, (h.2.2 5 (by decide) (by decide)).trans rfl⟩
theorem sp6 {E : en_T} (h : ShR E) : Sp E 6 (.inr (.inr (3, [10, 11, 12, 0]))) := ⟨Nat.lt_of_lt_of_le (by decide) h.2.1, (h.2.2 6 (by decide) (by decide)).trans rfl⟩
theorem sp7 {E : en_T} (h : ShR E) : Sp E 7 (.inr (.inl (RX5, 6, fun j => 10 + 3 * j + 3))) := ⟨Nat.lt_of_lt_of_le (by decide) h.2.1, (h.2.2 7 (by decide) (by decide)).trans rfl⟩
theorem sp8 {E : en_T} (h : ShR E) : Sp E 8 (.inl (.int, 6)) := ⟨Nat.lt_of_lt_of_le (by decide) h.2.1, (h.2.2 8 (by decide) (by decide)).trans rfl⟩
theorem sp9 {E : en_T} (h : ShR E) : Sp E 9 (.inl (.int, 36)) := ⟨Nat.lt_of_lt_of_le (by decide) h.2.1, (h.2.2 9 (by decide) (by decide)).trans rfl⟩
theorem sp10 {E : en_T} (h : ShR E) : Sp E 10 (.inr (.inr (5, [14, 15, 0]))) := ⟨Nat.lt_of_lt_of_le (by decide) h.2.1, (h.2.2 10 (by decide) (by decide)).trans rfl⟩
theorem sp11 {E : en_T} (h : ShR E) : Sp E 11 (.inl (.int, 160)) := ⟨Nat.lt_of_lt_of_le (by decide) h.2.1, (h.2.2 11 (by decide) (by decide)).trans rfl⟩
theorem sp12 {E : en_T} (h : ShR E) : Sp E 12 (.inl (.int, 3)) := ⟨Nat.lt_of_lt_of_le (by decide) h.2.1, (h.2.2 12 (by decide) (by decide)).trans rfl⟩
theorem sp13 {E : en_T} (h : ShR E) : Sp E 13 (.inr (.inr (5, [17, 18, 0]))) := ⟨Nat.lt_of_lt_of_le (by decide) h.2.1, (h.2.2 13 (by decide) (by decide)).trans rfl⟩
theorem sp14 {E : en_T} (h : ShR E) : Sp E 14 (.inl (.int, 160)) := ⟨Nat.lt_of_lt_of_le (by decide) h.2.1, (h.2.2 14 (by decide) (by decide)).trans rfl⟩
theorem sp15 {E : en_T} (h : ShR E) : Sp E 15 (.inl (.int, 3)) := ⟨Nat.lt_of_lt_of_le (by decide) h.2.1, (h.2.2 15 (by decide) (by decide)).trans rfl⟩
theorem sp16 {E : en_T} (h : ShR E) : Sp E 16 (.inr (.inr (5, [20, 21, 0]))) := ⟨Nat.lt_of_lt_of_le (by decide) h.2.1, (h.2.2 16 (by decide) (by decide)).trans rfl⟩
theorem sp17 {E : en_T} (h : ShR E) : Sp E 17 (.inl (.int, 160)) := ⟨Nat.lt_of_lt_of_le (by decide) h.2.1, (h.2.2 17 (by decide) (by decide)).trans rfl⟩
theorem sp18 {E : en_T} (h : ShR E) : Sp E 18 (.inl (.int, 3)) := ⟨Nat.lt_of_lt_of_le (by decide) h.2.1, (h.2.2 18 (by decide) (by decide)).trans rfl⟩
theorem sp19 {E : en_T} (h : ShR E) : Sp E 19 (.inr (.inr (5, [23, 24, 0]))) := ⟨Nat.lt_of_lt_of_le (by decide) h.2.1, (h.2.2 19 (by decide) (by decide)).trans rfl⟩
theorem sp20 {E : en_T} (h : ShR E) : Sp E 20 (.inl (.int, 160)) := ⟨Nat.lt_of_lt_of_le (by decide) h.2.1, (h.2.2 20 (by decide) (by decide)).trans rfl⟩
theorem sp21 {E : en_T} (h : ShR E) : Sp E 21 (.inl (.int, 3)) := ⟨Nat.lt_of_lt_of_le (by decide) h.2.1, (h.2.2 21 (by decide) (by decide)).trans rfl⟩
theorem sp22 {E : en_T} (h : ShR E) : Sp E 22 (.inr (.inr (5, [26, 27, 0]))) := ⟨Nat.lt_of_lt_of_le (by decide) h.2.1, (h.2.2 22 (by decide) (by decide)).trans rfl⟩
theorem sp23 {E : en_T} (h : ShR E) : Sp E 23 (.inl (.int, 160)) := ⟨Nat.lt_of_lt_of_le (by decide) h.2.1, (h.2.2 23 (by decide) (by decide)).trans rfl⟩
theorem sp24 {E : en_T} (h : ShR E) : Sp E 24 (.inl (.int, 3)) := ⟨Nat.lt_of_lt_of_le (by decide) h.2.1, (h.2.2 24 (by decide) (by decide)).trans rfl⟩
theorem sp25 {E : en_T} (h : ShR E) : Sp E 25 (.inr (.inr (5, [29, 30, 0]))) := ⟨Nat.lt_of_lt_of_le (by decide) h.2.1, (h.2.2 25 (by decide) (by decide)).trans rfl⟩
theorem sp26 {E : en_T} (h : ShR E) : Sp E 26 (.inl (.int, 160)) := ⟨Nat.lt_of_lt_of_le (by decide) h.2.1, (h.2.2 26 (by decide) (by decide)).trans rfl⟩
theorem sp27 {E : en_T} (h : ShR E) : Sp E 27 (.inl (.int, 3)) := ⟨Nat.lt_of_lt_of_le (by decide) h.2.1, (h.2.2 27 (by decide) (by decide)).trans rfl⟩
theorem sp28 {E : en_T} (h : ShF E) : Sp E 28 (.inr (.inr (0, [9, 32, 33, 34, 35, 36]))) := ⟨by rw [h.2.1]; decide, (h.2.2 28 (by decide)).trans rfl⟩
theorem sp29 {E : en_T} (h : ShF E) : Sp E 29 (.inl (.int, 5)) := ⟨by rw [h.2.1]; decide, (h.2.2 29 (by decide)).trans rfl⟩
theorem sp30 {E : en_T} (h : ShF E) : Sp E 30 (.inl (.int, 5)) := ⟨by rw [h.2.1]; decide, (h.2.2 30 (by decide)).trans rfl⟩
theorem sp31 {E : en_T} (h : ShF E) : Sp E 31 (.inl (.int, 5)) := ⟨by rw [h.2.1]; decide, (h.2.2 31 (by decide)).trans rfl⟩
theorem sp32 {E : en_T} (h : ShF E) : Sp E 32 (.inl (.int, 5)) := ⟨by rw [h.2.1]; decide, (h.2.2 32 (by decide)).trans rfl⟩
theorem sp33 {E : en_T} (h : ShF E) : Sp E 33 (.inl (.int, 5)) := ⟨by rw [h.2.1]; decide, (h.2.2 33 (by decide)).trans rfl⟩
theorem sp34 {E : en_T} (h : ShF E) : Sp E 34 (.inr (.inr (1, [38, 39, 40, 41, 42, 43, 44, 0, 0, 0]))) := ⟨by rw [h.2.1]; decide, (h.2.2 34 (by decide)).trans rfl⟩
theorem sp35 {E : en_T} (h : ShF E) : Sp E 35 (.inl (.int, 5)) := ⟨by rw [h.2.1]; decide, (h.2.2 35 (by decide)).trans rfl⟩
theorem sp36 {E : en_T} (h : ShF E) : Sp E 36 (.inl (.int, 5)) := ⟨by rw [h.2.1]; decide, (h.2.2 36 (by decide)).trans rfl⟩
theorem sp37 {E : en_T} (h : ShF E) : Sp E 37 (.inl (.int, 5)) := ⟨by rw [h.2.1]; decide, (h.2.2 37 (by decide)).trans rfl⟩
theorem sp38 {E : en_T} (h : ShF E) : Sp E 38 (.inl (.int, 5)) := ⟨by rw [h.2.1]; decide, (h.2.2 38 (by decide)).trans rfl⟩
theorem sp39 {E : en_T} (h : ShF E) : Sp E 39 (.inl (.int, 5)) := ⟨by rw [h.2.1]; decide, (h.2.2 39 (by decide)).trans rfl⟩
theorem sp40 {E : en_T} (h : ShF E) : Sp E 40 (.inl (.int, 5)) := ⟨by rw [h.2.1]; decide, (h.2.2 40 (by decide)).trans rfl⟩
theorem sp41 {E : en_T} (h : ShF E) : Sp E 41 (.inl (.int, 25)) := ⟨by rw [h.2.1]; decide, (h.2.2 41 (by decide)).trans rfl⟩
theorem sp42 {E : en_T} (h : ShF E) : Sp E 42 (.inr (.inr (1, [46, 47, 48, 49, 50, 51, 52, 0, 0, 0]))) := ⟨by rw [h.2.1]; decide, (h.2.2 42 (by decide)).trans rfl⟩
theorem sp43 {E : en_T} (h : ShF E) : Sp E 43 (.inl (.int, 5)) := ⟨by rw [h.2.1]; decide, (h.2.2 43 (by decide)).trans rfl⟩
theorem sp44 {E : en_T} (h : ShF E) : Sp E 44 (.inl (.int, 5)) := ⟨by rw [h.2.1]; decide, (h.2.2 44 (by decide)).trans rfl⟩
theorem sp45 {E : en_T} (h : ShF E) : Sp E 45 (.inl (.int, 5)) := ⟨by rw [h.2.1]; decide, (h.2.2 45 (by decide)).trans rfl⟩
theorem sp46 {E : en_T} (h : ShF E) : Sp E 46 (.inl (.int, 5)) := ⟨by rw [h.2.1]; decide, (h.2.2 46 (by decide)).trans rfl⟩
theorem sp47 {E : en_T} (h : ShF E) : Sp E 47 (.inl (.int, 5)) := ⟨by rw [h.2.1]; decide, (h.2.2 47 (by decide)).trans rfl⟩
theorem sp48 {E : en_T} (h : ShF E) : Sp E 48 (.inl (.int, 5)) := ⟨by rw [h.2.1]; decide, (h.2.2 48 (by decide)).trans rfl⟩
theorem sp49 {E : en_T} (h : ShF E) : Sp E 49 (.inl (.int, 25)) := ⟨by rw [h.2.1]; decide, (h.2.2 49 (by decide)).trans rfl⟩
theorem sp50 {E : en_T} (h : ShF E) : Sp E 50 (.inr (.inr (1, [54, 55, 56, 57, 58, 59, 60, 0, 0, 0]))) := ⟨by rw [h.2.1]; decide, (h.2.2 50 (by decide)).trans rfl⟩
theorem sp51 {E : en_T} (h : ShF E) : Sp E 51 (.inl (.int, 5)) := ⟨by rw [h.2.1]; decide, (h.2.2 51 (by decide)).trans rfl⟩
theorem sp52 {E : en_T} (h : ShF E) : Sp E 52 (.inl (.int, 5)) := ⟨by rw [h.2.1]; decide, (h.2.2 52 (by decide)).trans rfl⟩
theorem sp53 {E : en_T} (h : ShF E) : Sp E 53 (.inl (.int, 5)) := ⟨by rw [h.2.1]; decide, (h.2.2 53 (by decide)).trans rfl⟩
theorem sp54 {E : en_T} (h : ShF E) : Sp E 54 (.inl (.int, 5)) := ⟨by rw [h.2.1]; decide, (h.2.2 54 (by decide)).trans rfl⟩
theorem sp55 {E : en_T} (h : ShF E) : Sp E 55 (.inl (.int, 5)) := ⟨by rw [h.2.1]; decide, (h.2.2 55 (by decide)).trans rfl⟩
theorem sp56 {E : en_T} (h : ShF E) : Sp E 56 (.inl (.int, 5)) := ⟨by rw [h.2.1]; decide, (h.2.2 56 (by decide)).trans rfl⟩
theorem sp57 {E : en_T} (h : ShF E) : Sp E 57 (.inl (.int, 25)) := ⟨by rw [h.2.1]; decide, (h.2.2 57 (by decide)).trans rfl⟩
theorem sp58 {E : en_T} (h : ShF E) : Sp E 58 (.inr (.inr (6, [62, 0, 0, 0]))) := ⟨by rw [h.2.1]; decide, (h.2.2 58 (by decide)).trans rfl⟩
theorem sp59 {E : en_T} (h : ShF E) : Sp E 59 (.inl (.int, 25)) := ⟨by rw [h.2.1]; decide, (h.2.2 59 (by decide)).trans rfl⟩
theorem sp60 {E : en_T} (h : ShF E) : Sp E 60 (.inr (.inl (RX4, 4, fun j => 61 + 2 * j + 3))) := ⟨by rw [h.2.1]; decide, (h.2.2 60 (by decide)).trans rfl⟩
theorem sp61 {E : en_T} (h : ShF E) : Sp E 61 (.inr (.inr (4, [65, 0, 0]))) := ⟨by rw [h.2.1]; decide, (h.2.2 61 (by decide)).trans rfl⟩
theorem sp62 {E : en_T} (h : ShF E) : Sp E 62 (.inl (.int, 40)) := ⟨by rw [h.2.1]; decide, (h.2.2 62 (by decide)).trans rfl⟩
theorem sp63 {E : en_T} (h : ShF E) : Sp E 63 (.inr (.inr (4, [67, 0, 0]))) := ⟨by rw [h.2.1]; decide, (h.2.2 63 (by decide)).trans rfl⟩
theorem sp64 {E : en_T} (h : ShF E) : Sp E 64 (.inl (.int, 40)) := ⟨by rw [h.2.1]; decide, (h.2.2 64 (by decide)).trans rfl⟩
theorem sp65 {E : en_T} (h : ShF E) : Sp E 65 (.inr (.inr (4, [69, 0, 0]))) := ⟨by rw [h.2.1]; decide, (h.2.2 65 (by decide)).trans rfl⟩
theorem sp66 {E : en_T} (h : ShF E) : Sp E 66 (.inl (.int, 40)) := ⟨by rw [h.2.1]; decide, (h.2.2 66 (by decide)).trans rfl⟩
theorem sp67 {E : en_T} (h : ShF E) : Sp E 67 (.inr (.inr (4, [71, 0, 0]))) := ⟨by rw [h.2.1]; decide, (h.2.2 67 (by decide)).trans rfl⟩
theorem sp68 {E : en_T} (h : ShF E) : Sp E 68 (.inl (.int, 40)) := ⟨by rw [h.2.1]; decide, (h.2.2 68 (by decide)).trans rfl⟩
theorem sp69 {E : en_T} (h : ShF E) : Sp E 69 (.inr (.inr (8, [73, 74, 75, 0, 76, 77, 0, 0, 0, 0, 0, 78, 79, 0, 0, 80, 81, 0, 82, 83, 84, 85, 86, 0, 0, 87, 88, 89, 90, 91, 92]))) := ⟨by rw [h.2.1]; decide, (h.2.2 69 (by decide)).trans rfl⟩
theorem sp70 {E : en_T} (h : ShF E) : Sp E 70 (.inl (.int, 58)) := ⟨by rw [h.2.1]; decide, (h.2.2 70 (by decide)).trans rfl⟩
theorem sp71 {E : en_T} (h : ShF E) : Sp E 71 (.inl (.int, 58)) := ⟨by rw [h.2.1]; decide, (h.2.2 71 (by decide)).trans rfl⟩
theorem sp72 {E : en_T} (h : ShF E) : Sp E 72 (.inl (.int, 58)) := ⟨by rw [h.2.1]; decide, (h.2.2 72 (by decide)).trans rfl⟩
theorem sp73 {E : en_T} (h : ShF E) : Sp E 73 (.inl (.int, 7)) := ⟨by rw [h.2.1]; decide, (h.2.2 73 (by decide)).trans rfl⟩
theorem sp74 {E : en_T} (h : ShF E) : Sp E 74 (.inl (.int, 160)) := ⟨by rw [h.2.1]; decide, (h.2.2 74 (by decide)).trans rfl⟩
theorem sp75 {E : en_T} (h : ShF E) : Sp E 75 (.inl (.int, 960)) := ⟨by rw [h.2.1]; decide, (h.2.2 75 (by decide)).trans rfl⟩
theorem sp76 {E : en_T} (h : ShF E) : Sp E 76 (.inl (.int, 18)) := ⟨by rw [h.2.1]; decide, (h.2.2 76 (by decide)).trans rfl⟩
theorem sp77 {E : en_T} (h : ShF E) : Sp E 77 (.inl (.char, 72)) := ⟨by rw [h.2.1]; decide, (h.2.2 77 (by decide)).trans rfl⟩
theorem sp78 {E : en_T} (h : ShF E) : Sp E 78 (.inl (.int, 160)) := ⟨by rw [h.2.1]; decide, (h.2.2 78 (by decide)).trans rfl⟩
theorem sp79 {E : en_T} (h : ShF E) : Sp E 79 (.inl (.int, 160)) := ⟨by rw [h.2.1]; decide, (h.2.2 79 (by decide)).trans rfl⟩
theorem sp80 {E : en_T} (h : ShF E) : Sp E 80 (.inl (.int, 5)) := ⟨by rw [h.2.1]; decide, (h.2.2 80 (by decide)).trans rfl⟩
theorem sp81 {E : en_T} (h : ShF E) : Sp E 81 (.inl (.int, 5)) := ⟨by rw [h.2.1]; decide, (h.2.2 81 (by decide)).trans rfl⟩
theorem sp82 {E : en_T} (h : ShF E) : Sp E 82 (.inl (.int, 5)) := ⟨by rw [h.2.1]; decide, (h.2.2 82 (by decide)).trans rfl⟩
theorem sp83 {E : en_T} (h : ShF E) : Sp E 83 (.inl (.int, 5)) := ⟨by rw [h.2.1]; decide, (h.2.2 83 (by decide)).trans rfl⟩
theorem sp84 {E : en_T} (h : ShF E) : Sp E 84 (.inl (.int, 4)) := ⟨by rw [h.2.1]; decide, (h.2.2 84 (by decide)).trans rfl⟩
theorem sp85 {E : en_T} (h : ShF E) : Sp E 85 (.inl (.int, 4)) := ⟨by rw [h.2.1]; decide, (h.2.2 85 (by decide)).trans rfl⟩
theorem sp86 {E : en_T} (h : ShF E) : Sp E 86 (.inl (.int, 160)) := ⟨by rw [h.2.1]; decide, (h.2.2 86 (by decide)).trans rfl⟩
theorem sp87 {E : en_T} (h : ShF E) : Sp E 87 (.inl (.int, 40)) := ⟨by rw [h.2.1]; decide, (h.2.2 87 (by decide)).trans rfl⟩
theorem sp88 {E : en_T} (h : ShF E) : Sp E 88 (.inl (.int, 6)) := ⟨by rw [h.2.1]; decide, (h.2.2 88 (by decide)).trans rfl⟩
theorem sp89 {E : en_T} (h : ShF E) : Sp E 89 (.inl (.boolean, 100)) := ⟨by rw [h.2.1]; decide, (h.2.2 89 (by decide)).trans rfl⟩
def isP (o : Nat) : Prop := o = 34 ∨ o = 42 ∨ o = 50
def isT (o : Nat) : Prop := o = 10 ∨ o = 13 ∨ o = 16 ∨ o = 19 ∨ o = 22 ∨ o = 25
def isS (o : Nat) : Prop := o = 61 ∨ o = 63 ∨ o = 65 ∨ o = 67
def isW (o : Nat) : Prop := o = 71 ∨ o = 72
theorem spP0 {E : en_T} {o : Nat} (h : ShF E) (ho : isP o) : Sp E (o) (.inr (.inr (1, [o + 1 + 3, o + 2 + 3, o + 3 + 3, o + 4 + 3, o + 5 + 3, o + 6 + 3, o + 7 + 3, 0, 0, 0]))) := by
  rcases ho with rfl | rfl | rfl
  · exact sp34 h
  · exact sp42 h
  · exact sp50 h
theorem spP1 {E : en_T} {o : Nat} (h : ShF E) (ho : isP o) : Sp E (o + 1) (.inl (.int, 5)) := by
  rcases ho with rfl | rfl | rfl
  · exact sp35 h
  · exact sp43 h
  · exact sp51 h
theorem spP2 {E : en_T} {o : Nat} (h : ShF E) (ho : isP o) : Sp E (o + 2) (.inl (.int, 5)) := by
  rcases ho with rfl | rfl | rfl
  · exact sp36 h
  · exact sp44 h
  · exact sp52 h
theorem spP3 {E : en_T} {o : Nat} (h : ShF E) (ho : isP o) : Sp E (o + 3) (.inl (.int, 5)) := by
  rcases ho with rfl | rfl | rfl
  · exact sp37 h
  · exact sp45 h
  · exact sp53 h
theorem spP4 {E : en_T} {o : Nat} (h : ShF E) (ho : isP o) : Sp E (o + 4) (.inl (.int, 5)) := by
  rcases ho with rfl | rfl | rfl
  · exact sp38 h
  · exact sp46 h
  · exact sp54 h
theorem spP5 {E : en_T} {o : Nat} (h : ShF E) (ho : isP o) : Sp E (o + 5) (.inl (.int, 5)) := by
  rcases ho with rfl | rfl | rfl
  · exact sp39 h
  · exact sp47 h
  · exact sp55 h
theorem spP6 {E : en_T} {o : Nat} (h : ShF E) (ho : isP o) : Sp E (o + 6) (.inl (.int, 5)) := by
  rcases ho with rfl | rfl | rfl
  · exact sp40 h
  · exact sp48 h
  · exact sp56 h
theorem spP7 {E : en_T} {o : Nat} (h : ShF E) (ho : isP o) : Sp E (o + 7) (.inl (.int, 25)) := by
  rcases ho with rfl | rfl | rfl
  · exact sp41 h
  · exact sp49 h
  · exact sp57 h
theorem spT0 {E : en_T} {o : Nat} (h : ShR E) (ho : isT o) : Sp E (o) (.inr (.inr (5, [o + 1 + 3, o + 2 + 3, 0]))) := by
  rcases ho with rfl | rfl | rfl | rfl | rfl | rfl
  · exact sp10 h
  · exact sp13 h
  · exact sp16 h
  · exact sp19 h
  · exact sp22 h
  · exact sp25 h
theorem spT1 {E : en_T} {o : Nat} (h : ShR E) (ho : isT o) : Sp E (o + 1) (.inl (.int, 160)) := by
  rcases ho with rfl | rfl | rfl | rfl | rfl | rfl
  · exact sp11 h
  · exact sp14 h
  · exact sp17 h
  · exact sp20 h
  · exact sp23 h
  · exact sp26 h
theorem spT2 {E : en_T} {o : Nat} (h : ShR E) (ho : isT o) : Sp E (o + 2) (.inl (.int, 3)) := by
  rcases ho with rfl | rfl | rfl | rfl | rfl | rfl
  · exact sp12 h
  · exact sp15 h
  · exact sp18 h
  · exact sp21 h
  · exact sp24 h
  · exact sp27 h
theorem spS0 {E : en_T} {o : Nat} (h : ShF E) (ho : isS o) : Sp E (o) (.inr (.inr (4, [o + 1 + 3, 0, 0]))) := by
  rcases ho with rfl | rfl | rfl | rfl
  · exact sp61 h
  · exact sp63 h
  · exact sp65 h
  · exact sp67 h
theorem spS1 {E : en_T} {o : Nat} (h : ShF E) (ho : isS o) : Sp E (o + 1) (.inl (.int, 40)) := by
  rcases ho with rfl | rfl | rfl | rfl
  · exact sp62 h
  · exact sp64 h
  · exact sp66 h
  · exact sp68 h
theorem spW {E : en_T} {o : Nat} (h : ShF E) (ho : isW o) : Sp E o (.inl (.int, 58)) := by
  rcases ho with rfl | rfl
  · exact sp71 h
  · exact sp72 h
theorem isT_of {i : Int32} (h : vp_in i 6) : isT (10 + 3 * i.toNatClampNeg) := by
  have h2 : i.toNatClampNeg < 6 := Nat.lt_of_not_le (fun q => h (Or.inr q))
  unfold isT; omega
theorem isS_of {i : Int32} (h : vp_in i 4) : isS (61 + 2 * i.toNatClampNeg) := by
  have h2 : i.toNatClampNeg < 4 := Nat.lt_of_not_le (fun q => h (Or.inr q))
  unfold isS; omega
def cT {β : Type} (x : Int32) (r : Option β) : Option β := if (x = 10 ∨ x = 13 ∨ x = 16 ∨ x = 19 ∨ x = 22 ∨ x = 25) then r else none
theorem b_cT {β : Type} {x : Int32} {r : Option β} {out : β} (h : cT x r = some out) : isT x.toNatClampNeg ∧ (¬ x < 0) ∧ r = some out := by
  unfold cT at h
  by_cases q : (x = 10 ∨ x = 13 ∨ x = 16 ∨ x = 19 ∨ x = 22 ∨ x = 25)
  · rw [if_pos q] at h
    refine ⟨?_, ?_, h⟩
    · unfold isT
      rcases q with rfl | rfl | rfl | rfl | rfl | rfl <;> decide +kernel
    · rcases q with rfl | rfl | rfl | rfl | rfl | rfl <;> decide +kernel
  · rw [if_neg q] at h; cases h
theorem fv_into {ad : Nat → Nat} {t : Nat} (h : isT t) : fv ad 2 (nI t) = .ref (ad t) := by
  have hb : t < 2 ^ 31 := by rcases h with rfl | rfl | rfl | rfl | rfl | rfl <;> decide
  show (if nI t < 0 then Value.null else Value.ref (ad (nI t).toNatClampNeg)) = _
  rw [if_neg (nI_pos hb), nI_clamp hb]
theorem fv_dyn {ad : Nat → Nat} {x : Int32} (h : ¬ x < 0) : fv ad 2 x = .ref (ad x.toNatClampNeg) := by
  show (if x < 0 then Value.null else Value.ref (ad x.toNatClampNeg)) = _
  rw [if_neg h]
end
section
section RowsB
variable {p : Program} {l : Launch} {e : Env} {R : Room} {s : State} {m : MethodId} {args : Array Value} {below : List Frame} {meth : Method} {c : Code} {H : Heap} {locs : List Loc} {cells slots : Nat} {Q : State → Prop}
variable {E : en_T} {σ : sg_T} {cc : ByteArray} {nL : Nat} {own : String} {ret : Option FieldType} {pc : Nat} {ls : Array Slot} {rest : List Value}
theorem r_bnd {β : Type} {x : Int32} {k : Int32 → Option β} {out : β} (hf : bnd x k = some out) (g : ∀ y : Int32, k y = some out → W p l e R s m args below meth c H locs cells slots Q (F0 m pc ls (.int y :: rest))) : W p l e R s m args below meth c H locs cells slots Q (F0 m pc ls (.int x :: rest)) := g x hf
theorem r_bndl {β : Type} {x : Int64} {k : Int64 → Option β} {out : β} (hf : bnd x k = some out) (g : ∀ y : Int64, k y = some out → W p l e R s m args below meth c H locs cells slots Q (F0 m pc ls (.long y :: rest))) : W p l e R s m args below meth c H locs cells slots Q (F0 m pc ls (.long x :: rest)) := g x hf
theorem r_min (X : Cx E p s m args meth c cc nL own ret) (hl : ls.size = nL) {index : Nat} (h1 : Cond.methodLink own index Lib.Math.min.name ∈ lw_good) (h2 : Cond.static Lib.Math.min.name ∈ lw_good) (h3 : Cond.initialized "java/lang/Math" ∈ lw_good) (h4 : Cond.code Lib.Math.min.name Lib.Math.min.code 2 (some .int) ∈ lw_good) (hf : 1 ≤ R.frames) (hlo : (rest.map fun v => v.category).sum + 13 ≤ R.locals) (hc : cells ≤ R.cells) (hs : slots ≤ R.slots) {x y : Int32} (hdg : decode cc pc = .ok (.invokestatic index, 3))
    (kk : W p l e R s m args below meth c H locs cells slots Q (F0 m (pc + 3) ls (.int (jmin x y) :: rest))) : W p l e R s m args below meth c H locs cells slots Q (F0 m pc ls (.int y :: .int x :: rest)) :=
  va_mmin X.1 X.2.1 (X.2.2.1.trans hl.symm) X.2.2.2.1 (X.2.2.2.2.1 _ h1) (X.2.2.2.2.1 _ h2) (X.2.2.2.2.1 _ h3) (X.2.2.2.2.1 _ h4) hf hlo hc hs hdg kk
def jrem (x y : Int32) : Int32 := x - x / y * y
theorem r_irem (X : Cx E p s m args meth c cc nL own ret) {x y : Int32} (hdg : decode cc pc = .ok (.irem, 1)) (hne : ¬ y = 0) (kk : W p l e R s m args below meth c H locs cells slots Q (F0 m (pc + 1) ls (.int (jrem x y) :: rest))) : W p l e R s m args below meth c H locs cells slots Q (F0 m pc ls (.int y :: .int x :: rest)) :=
  lv_irem X.1 X.2.1 hdg hne kk
def jreml (x y : Int64) : Int64 := x - x / y * y
theorem r_lrem (X : Cx E p s m args meth c cc nL own ret) {x y : Int64} (hdg : decode cc pc = .ok (.lrem, 1)) (hne : ¬ y = 0) (kk : W p l e R s m args below meth c H locs cells slots Q (F0 m (pc + 1) ls (.long (jreml x y) :: rest))) : W p l e R s m args below meth c H locs cells slots Q (F0 m pc ls (.long y :: .long x :: rest)) :=
  lv_lrem X.1 X.2.1 hdg hne kk
def jushr (x y : Int32) : Int32 := (x.toUInt32 >>> (y.toUInt32 &&& Int32.toUInt32 31)).toInt32
theorem r_iushr (X : Cx E p s m args meth c cc nL own ret) {x y : Int32} (hdg : decode cc pc = .ok (.iushr, 1)) (kk : W p l e R s m args below meth c H locs cells slots Q (F0 m (pc + 1) ls (.int (jushr x y) :: rest))) : W p l e R s m args below meth c H locs cells slots Q (F0 m pc ls (.int y :: .int x :: rest)) :=
  lv_iushr X.1 X.2.1 hdg rfl kk
/-- System.arraycopy between rows of numbers: what it asks, and what it leaves -/
def cy {β : Type} (sp dp n : Int32) (n0 n1 : Nat) (r : Option β) : Option β := if (sp < 0 ∨ dp < 0 ∨ n < 0 ∨ n0 < sp.toNatClampNeg + n.toNatClampNeg ∨ n1 < dp.toNatClampNeg + n.toNatClampNeg) then none else r
theorem b_cy {β : Type} {sp dp n : Int32} {n0 n1 : Nat} {r : Option β} {out : β} (h : cy sp dp n n0 n1 r = some out) : (¬ sp < 0 ∧ ¬ dp < 0 ∧ ¬ n < 0 ∧ sp.toNatClampNeg + n.toNatClampNeg ≤ n0 ∧ dp.toNatClampNeg + n.toNatClampNeg ≤ n1) ∧ r = some out := by
  unfold cy at h
  by_cases q : (sp < 0 ∨ dp < 0 ∨ n < 0 ∨ n0 < sp.toNatClampNeg + n.toNatClampNeg ∨ n1 < dp.toNatClampNeg + n.toNatClampNeg)
  · rw [if_pos q] at h; cases h
  · rw [if_neg q] at h
    refine ⟨⟨fun z => q (Or.inl z), fun z => q (Or.inr (Or.inl z)), fun z => q (Or.inr (Or.inr (Or.inl z))), Nat.le_of_not_lt (fun z => q (Or.inr (Or.inr (Or.inr (Or.inl z))))), Nat.le_of_not_lt (fun z => q (Or.inr (Or.inr (Or.inr (Or.inr z)))))⟩, h⟩
def cpd (σ : sg_T) (q0 q1 : Nat) (sp dp n : Int32) : sg_T := upr σ q1 (va_cpy (σ q0) (σ q1) sp.toNatClampNeg dp.toNatClampNeg n.toNatClampNeg)
theorem r_copy (X : Cx E p s m args meth c cc nL own ret) (hw : Hw E σ s H locs) (hl : ls.size = nL) {index : Nat} (h1 : Cond.methodLink own index arraycopyName ∈ lw_good) (h2 : Cond.native arraycopyName ∈ lw_good) (h3 : Cond.static arraycopyName ∈ lw_good) (h4 : Cond.initialized "java/lang/System" ∈ lw_good) {q0 q1 n0 n1 : Nat} (hs0 : Sp E q0 (.inl (.int, n0))) (hs1 : Sp E q1 (.inl (.int, n1)))
    {sp dp n : Int32} (hh : ¬ sp < 0 ∧ ¬ dp < 0 ∧ ¬ n < 0 ∧ sp.toNatClampNeg + n.toNatClampNeg ≤ n0 ∧ dp.toNatClampNeg + n.toNatClampNeg ≤ n1) (hf : 1 ≤ R.frames) (hlo : (rest.map fun v => v.category).sum + (nativeFrameWords "java/lang/System" "arraycopy" 5 + 11) ≤ R.locals) (hdg : decode cc pc = .ok (.invokestatic index, 3))
    (kk : ∀ (H1 : Heap) (locs1 : List Loc), Hw E (cpd σ q0 q1 sp dp n) s H1 locs1 → W p l e R s m args below meth c H1 locs1 cells slots Q (F0 m (pc + 3) ls rest)) : W p l e R s m args below meth c H locs cells slots Q (F0 m pc ls (.int n :: .int dp :: .ref (eP E q1) :: .int sp :: .ref (eP E q0) :: rest)) := by
  obtain ⟨k1, k2, k3, k4, k5⟩ := hh
  refine va_copyi X.1 X.2.1 (X.2.2.1.trans hl.symm) X.2.2.2.1 (X.2.2.2.2.1 _ h1) (X.2.2.2.2.1 _ h2) (X.2.2.2.2.1 _ h3) (X.2.2.2.2.1 _ h4) X.2.2.2.2.2.1 hw.1 (en_D X.2.2.2.2.2.2.2.1 σ) hw.2 q0 q1 0 0 (en_get hs0) (en_get hs1) rfl rfl rfl k1 k2 k3 k4 k5 (fun _ _ => rfl) hf hlo hdg (fun H1 locs1 hP _ hS => kk H1 locs1 ⟨?_, hS⟩)
  have h := en_set (σ := σ) (σ' := cpd σ q0 q1 sp dp n) hs1 (fun q hq => upr_n hq)
  unfold cpd at h ⊢
  rw [upr_s] at h
  rw [← h]; exact hP
end RowsB
end
section
/-! the words that the walks use, by their places in the tables -/
theorem qw77 : Cond.initialized RX1 ∈ lw_good := lw_mem 77 (by decide +kernel) (by decide +kernel)
theorem qw358 : Cond.fieldLink RX1 30 "AlarmsOfFondness$People" "fond" "[I" ∈ lw_good := lw_mem 358 (by decide +kernel) (by decide +kernel)
theorem qw359 : Cond.fieldLink RX1 39 "AlarmsOfFondness$People" "many" "I" ∈ lw_good := lw_mem 359 (by decide +kernel) (by decide +kernel)
theorem qw455 : Cond.methodLink RX1 49 yX1_has ∈ lw_good := lw_mem 455 (by decide +kernel) (by decide +kernel)
theorem qw456 : Cond.instanceMethod yX1_has ∈ lw_good := lw_mem 456 (by decide +kernel) (by decide +kernel)
theorem qw457 : Cond.selects RX1 yX1_has yX1_has ∈ lw_good := lw_mem 457 (by decide +kernel) (by decide +kernel)
theorem qw458 : Cond.code yX1_has cX1_has 2 (some .boolean) ∈ lw_good := lw_mem 458 (by decide +kernel) (by decide +kernel)
theorem qw492 : Cond.instanceMethod yX1_setterOf ∈ lw_good := lw_mem 492 (by decide +kernel) (by decide +kernel)
theorem qw493 : Cond.selects RX1 yX1_setterOf yX1_setterOf ∈ lw_good := lw_mem 493 (by decide +kernel) (by decide +kernel)
theorem qw494 : Cond.code yX1_setterOf cX1_setterOf 6 (some .int) ∈ lw_good := lw_mem 494 (by decide +kernel) (by decide +kernel)
theorem qw557 : Cond.methodLink RX1 71 yX1_setterOf ∈ lw_good := lw_mem 557 (by decide +kernel) (by decide +kernel)
theorem iwX0 : ∀ w ∈ u_ws RX0 TX0 6, w ∈ lw_good := by decide +kernel
theorem iwX1 : ∀ w ∈ u_ws RX1 TX1 10, w ∈ lw_good := by decide +kernel
theorem iwX2 : ∀ w ∈ u_ws RX2 TX2 8, w ∈ lw_good := by decide +kernel
theorem iwX3 : ∀ w ∈ u_ws RX3 TX3 4, w ∈ lw_good := by decide +kernel
theorem iwX4 : ∀ w ∈ u_ws RX4 TX4 3, w ∈ lw_good := by decide +kernel
theorem iwX5 : ∀ w ∈ u_ws RX5 TX5 3, w ∈ lw_good := by decide +kernel
theorem iwX6 : ∀ w ∈ u_ws RX6 TX6 4, w ∈ lw_good := by decide +kernel
theorem iwX7 : ∀ w ∈ u_ws RX7 TX7 9, w ∈ lw_good := by decide +kernel
theorem iwX8 : ∀ w ∈ u_ws RX8 TX8 31, w ∈ lw_good := by decide +kernel
end
section
/-- how deep a method may call itself: more than any does -/
def rfu : Nat := 64
def f_X1_has (o : Nat) (x1 : Int32) (σ : sg_T) : Option (Int32) :=
  if x1 < 0 then
    some 0
  else
    if (σ o 7) ≤ x1 then
      some 0
    else
      some 1
def b_X1_setterOf_17 (o50 : Nat) (u1 : Int32) (w2 : Int32) (w3 : Int32) (w4 : Int32) (σ : sg_T) : Option ((Int32 × Int32 × Int32) ⊕ (Int32 × Int32 × Int32)) :=
  if (σ o50 7) ≤ w4 then
    some (.inr (w2, w3, w4))
  else
    ck ((w4 * 5) + u1) 25 (
    bnd ((σ (o50 + 7) ((w4 * 5) + u1).toNatClampNeg)) (fun v6 =>
    if v6 ≤ w3 then
      bnd (w4 + 1) (fun v8 =>
      some (.inl (w2, w3, v8)))
    else
      bnd (w4 + 1) (fun v10 =>
      some (.inl (w4, v6, v10)))))
def f_X1_setterOf (o : Nat) (x1 : Int32) (σ : sg_T) : Option (Int32) :=
  bd1 (f_X1_has o x1 σ) (fun r2 =>
  if r2 = 0 then
    some (-1)
  else
    bd3 (itr (fun q => b_X1_setterOf_17 o x1 q.1 q.2.1 q.2.2 σ) lfu ((-1), 0, 0)) (fun v13 v14 v15 =>
    some v13))
def b_X1_whoseClocks_4 (o50 : Nat) (u1 : Int32) (w2 : Int32) (w3 : Int32) (σ : sg_T) : Option ((Int32 × Int32) ⊕ (Int32 × Int32)) :=
  if (σ o50 7) ≤ w3 then
    some (.inr (w2, w3))
  else
    bd1 (f_X1_setterOf o50 w3 σ) (fun r3 =>
    if r3 = u1 then
      bnd ((w2 ||| (1 <<< (w3 &&& 31)))) (fun v7 =>
      bnd (w3 + 1) (fun v8 =>
      some (.inl (v7, v8))))
    else
      bnd (w3 + 1) (fun v5 =>
      some (.inl (w2, v5))))
def f_X1_whoseClocks (o : Nat) (x1 : Int32) (σ : sg_T) : Option (Int32) :=
  bd2 (itr (fun q => b_X1_whoseClocks_4 o x1 q.1 q.2 σ) lfu (0, 0)) (fun v11 v12 =>
  some v11)
def f_X1_hasTwo (o : Nat) (x1 : Int32) (x2 : Int32) (σ : sg_T) : Option (Int32) :=
  bd1 (f_X1_has o x1 σ) (fun r2 =>
  if r2 = 0 then
    some 0
  else
    bd1 (f_X1_has o x2 σ) (fun r5 =>
    if r5 = 0 then
      some 0
    else
      if x1 = x2 then
        some 0
      else
        some 1))
end
section
theorem okX1_has : yX1_has.cls = RX1 ∧ yX1_has.cls ≠ "java/lang/invoke/MethodHandle" ∧ yX1_has.cls ≠ "java/lang/invoke/VarHandle" ∧ (parseMethodDescriptor yX1_has.desc).map (fun d => d.parameters.length) = some 1 := by decide +kernel
abbrev rm_X1_has : Room := { frames := 0, cells := 0, slots := 0, locals := 0 }
set_option maxHeartbeats 4000000 in
set_option maxRecDepth 100000 in
theorem k_X1_has {l : Launch} {E : en_T} (hE : ShF E) {o : Nat} (ho : isP o) {x1 : Int32} {σ : sg_T} {r : Int32} (hf : f_X1_has o x1 σ = some r) : Ct l yX1_has cX1_has 2 (some .boolean) rm_X1_has E [.ref (eP E o), .int x1] σ (some (.int r)) σ := by
  refine Ct.start (by decide) hE.1 (Nat.le_of_ble_eq_true rfl) ?_
  intro p e s m below meth c X hw ls hl
  have X : Cx E p s m _ meth c cX1_has 2 RX1 (some .boolean) := X
  have hR : ShR E := hE.r
  have hl : lv_has ls 2 [(0, .ref (eP E o)), (1, .int x1)] := hl
  unfold f_X1_has at hf
  refine lv_iload_n X.1 X.2.1 dX1_has_0 rfl (lv_at hl 1 rfl) ?_
  refine lv_if_lt (tgt := 16) X.1 X.2.1 dX1_has_1 (by decide) (fun c1 => ?_) (fun c1 => ?_)
  · have hf := if_t hf c1
    refine lv_iconst (v := 0) X.1 X.2.1 dX1_has_16 (by decide) ?_
    cases hf
    exact r_zret X hw (by decide) dX1_has_17
  · have hf := if_e hf c1
    refine lv_iload_n X.1 X.2.1 dX1_has_4 rfl (lv_at hl 1 rfl) ?_
    refine lv_aload_n X.1 X.2.1 dX1_has_5 rfl (lv_at hl 0 rfl) ?_
    refine r_get X hw (spP0 hE ho) (C := RX1) (T := TX1) (N := 10) rfl iwX1 7 (by decide) (Nat.le_of_ble_eq_true rfl) qw359 (v := .int (σ o 7)) rfl dX1_has_6 ?_
    refine lv_icmp_ge (tgt := 16) X.1 X.2.1 dX1_has_9 (by decide) (fun c2 => ?_) (fun c2 => ?_)
    · have hf := if_t hf c2
      refine lv_iconst (v := 0) X.1 X.2.1 dX1_has_16 (by decide) ?_
      cases hf
      exact r_zret X hw (by decide) dX1_has_17
    · have hf := if_e hf c2
      refine lv_iconst (v := 1) X.1 X.2.1 dX1_has_12 (by decide) ?_
      refine lv_goto (tgt := 17) X.1 X.2.1 dX1_has_13 (by decide) ?_
      cases hf
      exact r_zret X hw (by decide) dX1_has_17
theorem okX1_setterOf : yX1_setterOf.cls = RX1 ∧ yX1_setterOf.cls ≠ "java/lang/invoke/MethodHandle" ∧ yX1_setterOf.cls ≠ "java/lang/invoke/VarHandle" ∧ (parseMethodDescriptor yX1_setterOf.desc).map (fun d => d.parameters.length) = some 1 := by decide +kernel
abbrev rm_X1_setterOf : Room := { frames := 1, cells := 0, slots := 0, locals := 100 }
set_option maxHeartbeats 4000000 in
set_option maxRecDepth 100000 in
theorem w_X1_setterOf_17 {p : Program} {l : Launch} {e : Env} {s : State} {m : MethodId} {args : Array Value} {below : List Frame} {meth : Method} {c : Code} {Q : State → Prop} {E : en_T} (X : Cx E p s m args meth c cX1_setterOf 6 RX1 (some .int)) (hE : ShF E) {o50 : Nat} (ho50 : isP o50) {u1 : Int32} {σ : sg_T} {res : Int32 × Int32 × Int32} :
    ∀ (n : Nat) (w2 : Int32) (w3 : Int32) (w4 : Int32), itr (fun q => b_X1_setterOf_17 o50 u1 q.1 q.2.1 q.2.2 σ) n (w2, w3, w4) = some res → ∀ (H : Heap) (locs : List Loc) (ls : Array Slot), Hw E σ s H locs → lv_has ls 6 [(0, .ref (eP E o50)), (1, .int u1), (2, .int w2), (3, .int w3), (4, .int w4)] →
    (∀ (y2 : Int32) (y3 : Int32) (y4 : Int32), res = (y2, y3, y4) → ∀ (H : Heap) (locs : List Loc) (ls : Array Slot), Hw E σ s H locs → lv_has ls 6 [(0, .ref (eP E o50)), (1, .int u1), (2, .int y2), (3, .int y3), (4, .int y4)] → W p l e rm_X1_setterOf s m args below meth c H locs 0 0 Q (F0 m 57 ls [])) →
    W p l e rm_X1_setterOf s m args below meth c H locs 0 0 Q (F0 m 17 ls []) := by
  have hR : ShR E := hE.r
  intro n
  induction n with
  | zero =>
    intro w2 w3 w4 hf0
    exact (itr_0 hf0).elim
  | succ n ih =>
    intro w2 w3 w4 hf0 H locs ls hw hl K1
    obtain ⟨r0, hf, hr1, hr2⟩ := itr_s hf0
    have hf : b_X1_setterOf_17 o50 u1 w2 w3 w4 σ = some r0 := hf
    unfold b_X1_setterOf_17 at hf
    refine lv_iload X.1 X.2.1 dX1_setterOf_17 (lv_at hl 4 rfl) ?_
    refine lv_aload_n X.1 X.2.1 dX1_setterOf_19 rfl (lv_at hl 0 rfl) ?_
    refine r_get X hw (spP0 hE ho50) (C := RX1) (T := TX1) (N := 10) rfl iwX1 7 (by decide) (Nat.le_of_ble_eq_true rfl) qw359 (v := .int (σ o50 7)) rfl dX1_setterOf_20 ?_
    refine lv_icmp_ge (tgt := 57) X.1 X.2.1 dX1_setterOf_23 (by decide) (fun c4 => ?_) (fun c4 => ?_)
    · have hf := if_t hf c4
      obtain rfl := Option.some.inj hf
      obtain rfl := hr2 _ rfl
      exact K1 _ _ _ rfl _ _ _ hw (lv_sub hl [0, 1, 2, 3, 4] rfl)
    · have hf := if_e hf c4
      refine lv_aload_n X.1 X.2.1 dX1_setterOf_26 rfl (lv_at hl 0 rfl) ?_
      refine r_get X hw (spP0 hE ho50) (C := RX1) (T := TX1) (N := 10) rfl iwX1 6 (by decide) (Nat.le_of_ble_eq_true rfl) qw358 (v := .ref (eP E (o50 + 7))) rfl dX1_setterOf_27 ?_
      refine lv_iload X.1 X.2.1 dX1_setterOf_30 (lv_at hl 4 rfl) ?_
      refine lv_iconst (v := 5) X.1 X.2.1 dX1_setterOf_32 (by decide) ?_
      refine lv_imul X.1 X.2.1 dX1_setterOf_33 ?_
      refine lv_iload_n X.1 X.2.1 dX1_setterOf_34 rfl (lv_at hl 1 rfl) ?_
      refine lv_iadd X.1 X.2.1 dX1_setterOf_35 ?_
      obtain ⟨h5, hf⟩ := b_ck hf
      refine r_iald X hw (spP7 hE ho50) h5 dX1_setterOf_36 ?_
      refine r_bnd hf (fun v6 hf => ?_)
      refine lv_istore (lv' := [(5, .int v6), (0, .ref (eP E o50)), (1, .int u1), (2, .int w2), (3, .int w3), (4, .int w4)]) X.1 X.2.1 dX1_setterOf_37 hl (by decide) rfl (fun ls hl => ?_)
      refine lv_iload X.1 X.2.1 dX1_setterOf_39 (lv_at hl 0 rfl) ?_
      refine lv_iload_n X.1 X.2.1 dX1_setterOf_41 rfl (lv_at hl 4 rfl) ?_
      refine lv_icmp_le (tgt := 51) X.1 X.2.1 dX1_setterOf_42 (by decide) (fun c7 => ?_) (fun c7 => ?_)
      · have hf := if_t hf c7
        obtain ⟨v8, e9, hf⟩ := b_bnd hf
        refine lv_iinc (v := v8) (k := 5) (lv' := [(4, .int v8), (5, .int v6), (0, .ref (eP E o50)), (1, .int u1), (2, .int w2), (3, .int w3)]) X.1 X.2.1 dX1_setterOf_51 hl rfl (by rw [e9]; exact congrArg _ (by decide)) (by decide) rfl (fun ls hl => ?_)
        refine lv_goto (tgt := 17) X.1 X.2.1 dX1_setterOf_54 (by decide) ?_
        obtain rfl := Option.some.inj hf
        exact ih _ _ _ (hr1 _ rfl) _ _ _ hw (lv_sub hl [2, 3, 4, 5, 0] rfl) K1
      · have hf := if_e hf c7
        refine lv_iload X.1 X.2.1 dX1_setterOf_45 (lv_at hl 0 rfl) ?_
        refine lv_istore_n (lv' := [(3, .int v6), (5, .int v6), (0, .ref (eP E o50)), (1, .int u1), (2, .int w2), (4, .int w4)]) X.1 X.2.1 dX1_setterOf_47 rfl hl (by decide) rfl (fun ls hl => ?_)
        refine lv_iload X.1 X.2.1 dX1_setterOf_48 (lv_at hl 5 rfl) ?_
        refine lv_istore_n (lv' := [(2, .int w4), (3, .int v6), (5, .int v6), (0, .ref (eP E o50)), (1, .int u1), (4, .int w4)]) X.1 X.2.1 dX1_setterOf_50 rfl hl (by decide) rfl (fun ls hl => ?_)
        obtain ⟨v10, e11, hf⟩ := b_bnd hf
        refine lv_iinc (v := v10) (k := 5) (lv' := [(4, .int v10), (2, .int w4), (3, .int v6), (5, .int v6), (0, .ref (eP E o50)), (1, .int u1)]) X.1 X.2.1 dX1_setterOf_51 hl rfl (by rw [e11]; exact congrArg _ (by decide)) (by decide) rfl (fun ls hl => ?_)
        refine lv_goto (tgt := 17) X.1 X.2.1 dX1_setterOf_54 (by decide) ?_
        obtain rfl := Option.some.inj hf
        exact ih _ _ _ (hr1 _ rfl) _ _ _ hw (lv_sub hl [4, 5, 1, 2, 0] rfl) K1
set_option maxHeartbeats 4000000 in
set_option maxRecDepth 100000 in
theorem k_X1_setterOf {l : Launch} {E : en_T} (hE : ShF E) {o : Nat} (ho : isP o) {x1 : Int32} {σ : sg_T} {r : Int32} (hf : f_X1_setterOf o x1 σ = some r) : Ct l yX1_setterOf cX1_setterOf 6 (some .int) rm_X1_setterOf E [.ref (eP E o), .int x1] σ (some (.int r)) σ := by
  refine Ct.start (by decide) hE.1 (Nat.le_of_ble_eq_true rfl) ?_
  intro p e s m below meth c X hw ls hl
  have X : Cx E p s m _ meth c cX1_setterOf 6 RX1 (some .int) := X
  have hR : ShR E := hE.r
  have hl : lv_has ls 6 [(0, .ref (eP E o)), (1, .int x1)] := hl
  unfold f_X1_setterOf at hf
  refine lv_aload_n X.1 X.2.1 dX1_setterOf_0 rfl (lv_at hl 0 rfl) ?_
  refine lv_iload_n X.1 X.2.1 dX1_setterOf_1 rfl (lv_at hl 1 rfl) ?_
  obtain ⟨r2, h1, hf⟩ := b_bd1 hf
  refine r_callV X hw (k_X1_has hE ho h1) (spP0 hE ho) (C := RX1) (T := TX1) (N := 10) rfl qw455 qw456 qw457 qw77 qw458 okX1_has ⟨rfl, rfl⟩ ⟨(Nat.le_of_ble_eq_true rfl), (Nat.le_of_ble_eq_true rfl)⟩ ⟨Nat.zero_le _, Nat.zero_le _⟩ rfl hl.1 (rest := []) rfl (Nat.le_of_ble_eq_true rfl) dX1_setterOf_2 (st1 := [.int r2]) rfl (fun H locs hw => ?_)
  refine lv_if_ne (tgt := 10) X.1 X.2.1 dX1_setterOf_5 (by decide) (fun c3 => ?_) (fun c3 => ?_)
  · have hf := if_e hf c3
    refine lv_iconst (v := (-1)) X.1 X.2.1 dX1_setterOf_10 (by decide) ?_
    refine lv_istore_n (lv' := [(2, .int (-1)), (0, .ref (eP E o)), (1, .int x1)]) X.1 X.2.1 dX1_setterOf_11 rfl hl (by decide) rfl (fun ls hl => ?_)
    refine lv_iconst (v := 0) X.1 X.2.1 dX1_setterOf_12 (by decide) ?_
    refine lv_istore_n (lv' := [(3, .int 0), (2, .int (-1)), (0, .ref (eP E o)), (1, .int x1)]) X.1 X.2.1 dX1_setterOf_13 rfl hl (by decide) rfl (fun ls hl => ?_)
    refine lv_iconst (v := 0) X.1 X.2.1 dX1_setterOf_14 (by decide) ?_
    refine lv_istore (lv' := [(4, .int 0), (3, .int 0), (2, .int (-1)), (0, .ref (eP E o)), (1, .int x1)]) X.1 X.2.1 dX1_setterOf_15 hl (by decide) rfl (fun ls hl => ?_)
    obtain ⟨v13, v14, v15, h12, hf⟩ := b_bd3 hf
    refine w_X1_setterOf_17 X hE ho lfu _ _ _ h12 _ _ _ hw (lv_sub hl [3, 4, 2, 1, 0] rfl) (fun yv13 yv14 yv15 hq H locs ls hw hl => ?_)
    cases hq
    refine lv_iload_n X.1 X.2.1 dX1_setterOf_57 rfl (lv_at hl 2 rfl) ?_
    cases hf
    exact r_iret X hw dX1_setterOf_58
  · have hf := if_t hf c3
    refine lv_iconst (v := (-1)) X.1 X.2.1 dX1_setterOf_8 (by decide) ?_
    cases hf
    exact r_iret X hw dX1_setterOf_9
theorem okX1_whoseClocks : yX1_whoseClocks.cls = RX1 ∧ yX1_whoseClocks.cls ≠ "java/lang/invoke/MethodHandle" ∧ yX1_whoseClocks.cls ≠ "java/lang/invoke/VarHandle" ∧ (parseMethodDescriptor yX1_whoseClocks.desc).map (fun d => d.parameters.length) = some 1 := by decide +kernel
abbrev rm_X1_whoseClocks : Room := { frames := 2, cells := 0, slots := 0, locals := 125 }
set_option maxHeartbeats 4000000 in
set_option maxRecDepth 100000 in
theorem w_X1_whoseClocks_4 {p : Program} {l : Launch} {e : Env} {s : State} {m : MethodId} {args : Array Value} {below : List Frame} {meth : Method} {c : Code} {Q : State → Prop} {E : en_T} (X : Cx E p s m args meth c cX1_whoseClocks 4 RX1 (some .int)) (hE : ShF E) {o50 : Nat} (ho50 : isP o50) {u1 : Int32} {σ : sg_T} {res : Int32 × Int32} :
    ∀ (n : Nat) (w2 : Int32) (w3 : Int32), itr (fun q => b_X1_whoseClocks_4 o50 u1 q.1 q.2 σ) n (w2, w3) = some res → ∀ (H : Heap) (locs : List Loc) (ls : Array Slot), Hw E σ s H locs → lv_has ls 4 [(0, .ref (eP E o50)), (1, .int u1), (2, .int w2), (3, .int w3)] →
    (∀ (y2 : Int32) (y3 : Int32), res = (y2, y3) → ∀ (H : Heap) (locs : List Loc) (ls : Array Slot), Hw E σ s H locs → lv_has ls 4 [(0, .ref (eP E o50)), (1, .int u1), (2, .int y2), (3, .int y3)] → W p l e rm_X1_whoseClocks s m args below meth c H locs 0 0 Q (F0 m 33 ls [])) →
    W p l e rm_X1_whoseClocks s m args below meth c H locs 0 0 Q (F0 m 4 ls []) := by
  have hR : ShR E := hE.r
  intro n
  induction n with
  | zero =>
    intro w2 w3 hf0
    exact (itr_0 hf0).elim
  | succ n ih =>
    intro w2 w3 hf0 H locs ls hw hl K1
    obtain ⟨r0, hf, hr1, hr2⟩ := itr_s hf0
    have hf : b_X1_whoseClocks_4 o50 u1 w2 w3 σ = some r0 := hf
    unfold b_X1_whoseClocks_4 at hf
    refine lv_iload_n X.1 X.2.1 dX1_whoseClocks_4 rfl (lv_at hl 3 rfl) ?_
    refine lv_aload_n X.1 X.2.1 dX1_whoseClocks_5 rfl (lv_at hl 0 rfl) ?_
    refine r_get X hw (spP0 hE ho50) (C := RX1) (T := TX1) (N := 10) rfl iwX1 7 (by decide) (Nat.le_of_ble_eq_true rfl) qw359 (v := .int (σ o50 7)) rfl dX1_whoseClocks_6 ?_
    refine lv_icmp_ge (tgt := 33) X.1 X.2.1 dX1_whoseClocks_9 (by decide) (fun c1 => ?_) (fun c1 => ?_)
    · have hf := if_t hf c1
      obtain rfl := Option.some.inj hf
      obtain rfl := hr2 _ rfl
      exact K1 _ _ rfl _ _ _ hw (lv_sub hl [0, 1, 2, 3] rfl)
    · have hf := if_e hf c1
      refine lv_aload_n X.1 X.2.1 dX1_whoseClocks_12 rfl (lv_at hl 0 rfl) ?_
      refine lv_iload_n X.1 X.2.1 dX1_whoseClocks_13 rfl (lv_at hl 3 rfl) ?_
      obtain ⟨r3, h2, hf⟩ := b_bd1 hf
      refine r_callV X hw (k_X1_setterOf hE ho50 h2) (spP0 hE ho50) (C := RX1) (T := TX1) (N := 10) rfl qw557 qw492 qw493 qw77 qw494 okX1_setterOf ⟨rfl, rfl⟩ ⟨(Nat.le_of_ble_eq_true rfl), (Nat.le_of_ble_eq_true rfl)⟩ ⟨Nat.zero_le _, Nat.zero_le _⟩ rfl hl.1 (rest := []) rfl (Nat.le_of_ble_eq_true rfl) dX1_whoseClocks_14 (st1 := [.int r3]) rfl (fun H locs hw => ?_)
      refine lv_iload_n X.1 X.2.1 dX1_whoseClocks_17 rfl (lv_at hl 1 rfl) ?_
      refine lv_icmp_ne (tgt := 27) X.1 X.2.1 dX1_whoseClocks_18 (by decide) (fun c4 => ?_) (fun c4 => ?_)
      · have hf := if_e hf c4
        obtain ⟨v5, e6, hf⟩ := b_bnd hf
        refine lv_iinc (v := v5) (k := 3) (lv' := [(3, .int v5), (0, .ref (eP E o50)), (1, .int u1), (2, .int w2)]) X.1 X.2.1 dX1_whoseClocks_27 hl rfl (by rw [e6]; exact congrArg _ (by decide)) (by decide) rfl (fun ls hl => ?_)
        refine lv_goto (tgt := 4) X.1 X.2.1 dX1_whoseClocks_30 (by decide) ?_
        obtain rfl := Option.some.inj hf
        exact ih _ _ (hr1 _ rfl) _ _ _ hw (lv_sub hl [1, 2, 3, 0] rfl) K1
      · have hf := if_t hf c4
        refine lv_iload_n X.1 X.2.1 dX1_whoseClocks_21 rfl (lv_at hl 2 rfl) ?_
        refine lv_iconst (v := 1) X.1 X.2.1 dX1_whoseClocks_22 (by decide) ?_
        refine lv_iload_n X.1 X.2.1 dX1_whoseClocks_23 rfl (lv_at hl 3 rfl) ?_
        refine lv_ishl X.1 X.2.1 dX1_whoseClocks_24 ?_
        refine lv_ior X.1 X.2.1 dX1_whoseClocks_25 ?_
        refine r_bnd hf (fun v7 hf => ?_)
        refine lv_istore_n (lv' := [(2, .int v7), (0, .ref (eP E o50)), (1, .int u1), (3, .int w3)]) X.1 X.2.1 dX1_whoseClocks_26 rfl hl (by decide) rfl (fun ls hl => ?_)
        obtain ⟨v8, e9, hf⟩ := b_bnd hf
        refine lv_iinc (v := v8) (k := 3) (lv' := [(3, .int v8), (2, .int v7), (0, .ref (eP E o50)), (1, .int u1)]) X.1 X.2.1 dX1_whoseClocks_27 hl rfl (by rw [e9]; exact congrArg _ (by decide)) (by decide) rfl (fun ls hl => ?_)
        refine lv_goto (tgt := 4) X.1 X.2.1 dX1_whoseClocks_30 (by decide) ?_
        obtain rfl := Option.some.inj hf
        exact ih _ _ (hr1 _ rfl) _ _ _ hw (lv_sub hl [2, 3, 1, 0] rfl) K1
set_option maxHeartbeats 4000000 in
set_option maxRecDepth 100000 in
theorem k_X1_whoseClocks {l : Launch} {E : en_T} (hE : ShF E) {o : Nat} (ho : isP o) {x1 : Int32} {σ : sg_T} {r : Int32} (hf : f_X1_whoseClocks o x1 σ = some r) : Ct l yX1_whoseClocks cX1_whoseClocks 4 (some .int) rm_X1_whoseClocks E [.ref (eP E o), .int x1] σ (some (.int r)) σ := by
  refine Ct.start (by decide) hE.1 (Nat.le_of_ble_eq_true rfl) ?_
  intro p e s m below meth c X hw ls hl
  have X : Cx E p s m _ meth c cX1_whoseClocks 4 RX1 (some .int) := X
  have hR : ShR E := hE.r
  have hl : lv_has ls 4 [(0, .ref (eP E o)), (1, .int x1)] := hl
  unfold f_X1_whoseClocks at hf
  refine lv_iconst (v := 0) X.1 X.2.1 dX1_whoseClocks_0 (by decide) ?_
  refine lv_istore_n (lv' := [(2, .int 0), (0, .ref (eP E o)), (1, .int x1)]) X.1 X.2.1 dX1_whoseClocks_1 rfl hl (by decide) rfl (fun ls hl => ?_)
  refine lv_iconst (v := 0) X.1 X.2.1 dX1_whoseClocks_2 (by decide) ?_
  refine lv_istore_n (lv' := [(3, .int 0), (2, .int 0), (0, .ref (eP E o)), (1, .int x1)]) X.1 X.2.1 dX1_whoseClocks_3 rfl hl (by decide) rfl (fun ls hl => ?_)
  obtain ⟨v11, v12, h10, hf⟩ := b_bd2 hf
  refine w_X1_whoseClocks_4 X hE ho lfu _ _ h10 _ _ _ hw (lv_sub hl [2, 3, 1, 0] rfl) (fun yv11 yv12 hq H locs ls hw hl => ?_)
  cases hq
  refine lv_iload_n X.1 X.2.1 dX1_whoseClocks_33 rfl (lv_at hl 2 rfl) ?_
  cases hf
  exact r_iret X hw dX1_whoseClocks_34
theorem okX1_hasTwo : yX1_hasTwo.cls = RX1 ∧ yX1_hasTwo.cls ≠ "java/lang/invoke/MethodHandle" ∧ yX1_hasTwo.cls ≠ "java/lang/invoke/VarHandle" ∧ (parseMethodDescriptor yX1_hasTwo.desc).map (fun d => d.parameters.length) = some 2 := by decide +kernel
abbrev rm_X1_hasTwo : Room := { frames := 1, cells := 0, slots := 0, locals := 100 }
set_option maxHeartbeats 4000000 in
set_option maxRecDepth 100000 in
theorem k_X1_hasTwo {l : Launch} {E : en_T} (hE : ShF E) {o : Nat} (ho : isP o) {x1 : Int32} {x2 : Int32} {σ : sg_T} {r : Int32} (hf : f_X1_hasTwo o x1 x2 σ = some r) : Ct l yX1_hasTwo cX1_hasTwo 3 (some .boolean) rm_X1_hasTwo E [.ref (eP E o), .int x1, .int x2] σ (some (.int r)) σ := by
  refine Ct.start (by decide) hE.1 (Nat.le_of_ble_eq_true rfl) ?_
  intro p e s m below meth c X hw ls hl
  have X : Cx E p s m _ meth c cX1_hasTwo 3 RX1 (some .boolean) := X
  have hR : ShR E := hE.r
  have hl : lv_has ls 3 [(0, .ref (eP E o)), (1, .int x1), (2, .int x2)] := hl
  unfold f_X1_hasTwo at hf
  refine lv_aload_n X.1 X.2.1 dX1_hasTwo_0 rfl (lv_at hl 0 rfl) ?_
  refine lv_iload_n X.1 X.2.1 dX1_hasTwo_1 rfl (lv_at hl 1 rfl) ?_
  obtain ⟨r2, h1, hf⟩ := b_bd1 hf
  refine r_callV X hw (k_X1_has hE ho h1) (spP0 hE ho) (C := RX1) (T := TX1) (N := 10) rfl qw455 qw456 qw457 qw77 qw458 okX1_has ⟨rfl, rfl⟩ ⟨(Nat.le_of_ble_eq_true rfl), (Nat.le_of_ble_eq_true rfl)⟩ ⟨Nat.zero_le _, Nat.zero_le _⟩ rfl hl.1 (rest := []) rfl (Nat.le_of_ble_eq_true rfl) dX1_hasTwo_2 (st1 := [.int r2]) rfl (fun H locs hw => ?_)
  refine lv_if_eq (tgt := 25) X.1 X.2.1 dX1_hasTwo_5 (by decide) (fun c3 => ?_) (fun c3 => ?_)
  · have hf := if_t hf c3
    refine lv_iconst (v := 0) X.1 X.2.1 dX1_hasTwo_25 (by decide) ?_
    cases hf
    exact r_zret X hw (by decide) dX1_hasTwo_26
  · have hf := if_e hf c3
    refine lv_aload_n X.1 X.2.1 dX1_hasTwo_8 rfl (lv_at hl 0 rfl) ?_
    refine lv_iload_n X.1 X.2.1 dX1_hasTwo_9 rfl (lv_at hl 2 rfl) ?_
    obtain ⟨r5, h4, hf⟩ := b_bd1 hf
    refine r_callV X hw (k_X1_has hE ho h4) (spP0 hE ho) (C := RX1) (T := TX1) (N := 10) rfl qw455 qw456 qw457 qw77 qw458 okX1_has ⟨rfl, rfl⟩ ⟨(Nat.le_of_ble_eq_true rfl), (Nat.le_of_ble_eq_true rfl)⟩ ⟨Nat.zero_le _, Nat.zero_le _⟩ rfl hl.1 (rest := []) rfl (Nat.le_of_ble_eq_true rfl) dX1_hasTwo_10 (st1 := [.int r5]) rfl (fun H locs hw => ?_)
    refine lv_if_eq (tgt := 25) X.1 X.2.1 dX1_hasTwo_13 (by decide) (fun c6 => ?_) (fun c6 => ?_)
    · have hf := if_t hf c6
      refine lv_iconst (v := 0) X.1 X.2.1 dX1_hasTwo_25 (by decide) ?_
      cases hf
      exact r_zret X hw (by decide) dX1_hasTwo_26
    · have hf := if_e hf c6
      refine lv_iload_n X.1 X.2.1 dX1_hasTwo_16 rfl (lv_at hl 1 rfl) ?_
      refine lv_iload_n X.1 X.2.1 dX1_hasTwo_17 rfl (lv_at hl 2 rfl) ?_
      refine lv_icmp_eq (tgt := 25) X.1 X.2.1 dX1_hasTwo_18 (by decide) (fun c7 => ?_) (fun c7 => ?_)
      · have hf := if_t hf c7
        refine lv_iconst (v := 0) X.1 X.2.1 dX1_hasTwo_25 (by decide) ?_
        cases hf
        exact r_zret X hw (by decide) dX1_hasTwo_26
      · have hf := if_e hf c7
        refine lv_iconst (v := 1) X.1 X.2.1 dX1_hasTwo_21 (by decide) ?_
        refine lv_goto (tgt := 26) X.1 X.2.1 dX1_hasTwo_22 (by decide) ?_
        cases hf
        exact r_zret X hw (by decide) dX1_hasTwo_26
end
