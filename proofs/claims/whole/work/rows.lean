section
-- ===== PART A: goes FIRST, ahead of the names: the tables' words, and 'selects' of the private methods out of them =====
/-- a private method of a class that the tables say can be made, by its rows of tables_1 -/
def lw_okq (q : MethodName × Nat) : Prop := (q.1.cls ≠ "java/lang/invoke/MethodHandle" ∧ q.1.cls ≠ "java/lang/invoke/VarHandle") ∧ Cond.instantiable q.1.cls q.2 ∈ tables_1 ∧ Cond.privateMethod q.1 ∈ tables_1 ∧ Cond.instanceMethod q.1 ∈ tables_1
theorem lw_p0 : lw_okq (⟨"EscapeLights", "remember", "()V"⟩, 6) := ⟨⟨by decide +kernel, by decide +kernel⟩, List.mem_of_getElem? (i := 11) (by decide +kernel), List.mem_of_getElem? (i := 283) (by decide +kernel), List.mem_of_getElem? (i := 284) (by decide +kernel)⟩
theorem lw_p1 : lw_okq (⟨"EscapeLights", "darkPlaces", "(I)I"⟩, 6) := ⟨⟨by decide +kernel, by decide +kernel⟩, List.mem_of_getElem? (i := 11) (by decide +kernel), List.mem_of_getElem? (i := 574) (by decide +kernel), List.mem_of_getElem? (i := 575) (by decide +kernel)⟩
theorem lw_p2 : lw_okq (⟨"EscapeLights", "worstCircuit", "(I)I"⟩, 6) := ⟨⟨by decide +kernel, by decide +kernel⟩, List.mem_of_getElem? (i := 11) (by decide +kernel), List.mem_of_getElem? (i := 589) (by decide +kernel), List.mem_of_getElem? (i := 590) (by decide +kernel)⟩
theorem lw_p3 : lw_okq (⟨"EscapeLights", "daysWithLamp", "(II)I"⟩, 6) := ⟨⟨by decide +kernel, by decide +kernel⟩, List.mem_of_getElem? (i := 11) (by decide +kernel), List.mem_of_getElem? (i := 630) (by decide +kernel), List.mem_of_getElem? (i := 631) (by decide +kernel)⟩
theorem lw_p4 : lw_okq (⟨"EscapeLights", "countSafe", "()I"⟩, 6) := ⟨⟨by decide +kernel, by decide +kernel⟩, List.mem_of_getElem? (i := 11) (by decide +kernel), List.mem_of_getElem? (i := 644) (by decide +kernel), List.mem_of_getElem? (i := 645) (by decide +kernel)⟩
theorem lw_p5 : lw_okq (⟨"EscapeLightsModel", "lights", "()I"⟩, 16) := ⟨⟨by decide +kernel, by decide +kernel⟩, List.mem_of_getElem? (i := 672) (by decide +kernel), List.mem_of_getElem? (i := 741) (by decide +kernel), List.mem_of_getElem? (i := 742) (by decide +kernel)⟩
theorem lw_p6 : lw_okq (⟨"EscapeLightsModel", "records", "()V"⟩, 16) := ⟨⟨by decide +kernel, by decide +kernel⟩, List.mem_of_getElem? (i := 672) (by decide +kernel), List.mem_of_getElem? (i := 745) (by decide +kernel), List.mem_of_getElem? (i := 746) (by decide +kernel)⟩
theorem lw_p7 : lw_okq (⟨"EscapeLightsModel", "lays", "(IIIIIZ)V"⟩, 16) := ⟨⟨by decide +kernel, by decide +kernel⟩, List.mem_of_getElem? (i := 672) (by decide +kernel), List.mem_of_getElem? (i := 749) (by decide +kernel), List.mem_of_getElem? (i := 750) (by decide +kernel)⟩
theorem lw_p8 : lw_okq (⟨"EscapeLightsModel", "at", "(II)I"⟩, 16) := ⟨⟨by decide +kernel, by decide +kernel⟩, List.mem_of_getElem? (i := 672) (by decide +kernel), List.mem_of_getElem? (i := 753) (by decide +kernel), List.mem_of_getElem? (i := 754) (by decide +kernel)⟩
theorem lw_p9 : lw_okq (⟨"EscapeLightsModel", "capacityOf", "(I)I"⟩, 16) := ⟨⟨by decide +kernel, by decide +kernel⟩, List.mem_of_getElem? (i := 672) (by decide +kernel), List.mem_of_getElem? (i := 757) (by decide +kernel), List.mem_of_getElem? (i := 758) (by decide +kernel)⟩
theorem lw_p10 : lw_okq (⟨"EscapeLightsModel", "ratedOf", "(I)I"⟩, 16) := ⟨⟨by decide +kernel, by decide +kernel⟩, List.mem_of_getElem? (i := 672) (by decide +kernel), List.mem_of_getElem? (i := 761) (by decide +kernel), List.mem_of_getElem? (i := 762) (by decide +kernel)⟩
theorem lw_p11 : lw_okq (⟨"EscapeLightsModel", "of", "(II)I"⟩, 16) := ⟨⟨by decide +kernel, by decide +kernel⟩, List.mem_of_getElem? (i := 672) (by decide +kernel), List.mem_of_getElem? (i := 765) (by decide +kernel), List.mem_of_getElem? (i := 766) (by decide +kernel)⟩
theorem lw_p12 : lw_okq (⟨"EscapeLightsModel", "isLight", "(I)Z"⟩, 16) := ⟨⟨by decide +kernel, by decide +kernel⟩, List.mem_of_getElem? (i := 672) (by decide +kernel), List.mem_of_getElem? (i := 773) (by decide +kernel), List.mem_of_getElem? (i := 774) (by decide +kernel)⟩
theorem lw_p13 : lw_okq (⟨"EscapeLightsModel", "isRoute", "(I)Z"⟩, 16) := ⟨⟨by decide +kernel, by decide +kernel⟩, List.mem_of_getElem? (i := 672) (by decide +kernel), List.mem_of_getElem? (i := 789) (by decide +kernel), List.mem_of_getElem? (i := 790) (by decide +kernel)⟩
theorem lw_p14 : lw_okq (⟨"EscapeLightsModel", "here", "()I"⟩, 16) := ⟨⟨by decide +kernel, by decide +kernel⟩, List.mem_of_getElem? (i := 672) (by decide +kernel), List.mem_of_getElem? (i := 813) (by decide +kernel), List.mem_of_getElem? (i := 814) (by decide +kernel)⟩
theorem lw_p15 : lw_okq (⟨"EscapeLightsModel", "readsLight", "()Z"⟩, 16) := ⟨⟨by decide +kernel, by decide +kernel⟩, List.mem_of_getElem? (i := 672) (by decide +kernel), List.mem_of_getElem? (i := 817) (by decide +kernel), List.mem_of_getElem? (i := 818) (by decide +kernel)⟩
def lw_privs_1 : List (MethodName × Nat) := [(⟨"EscapeLights", "remember", "()V"⟩, 6), (⟨"EscapeLights", "darkPlaces", "(I)I"⟩, 6), (⟨"EscapeLights", "worstCircuit", "(I)I"⟩, 6), (⟨"EscapeLights", "daysWithLamp", "(II)I"⟩, 6), (⟨"EscapeLights", "countSafe", "()I"⟩, 6), (⟨"EscapeLightsModel", "lights", "()I"⟩, 16), (⟨"EscapeLightsModel", "records", "()V"⟩, 16), (⟨"EscapeLightsModel", "lays", "(IIIIIZ)V"⟩, 16), (⟨"EscapeLightsModel", "at", "(II)I"⟩, 16), (⟨"EscapeLightsModel", "capacityOf", "(I)I"⟩, 16), (⟨"EscapeLightsModel", "ratedOf", "(I)I"⟩, 16), (⟨"EscapeLightsModel", "of", "(II)I"⟩, 16), (⟨"EscapeLightsModel", "isLight", "(I)Z"⟩, 16), (⟨"EscapeLightsModel", "isRoute", "(I)Z"⟩, 16), (⟨"EscapeLightsModel", "here", "()I"⟩, 16), (⟨"EscapeLightsModel", "readsLight", "()Z"⟩, 16)]
theorem lw_r1 : ∀ q ∈ lw_privs_1, lw_okq q := List.forall_mem_cons.mpr ⟨lw_p0, List.forall_mem_cons.mpr ⟨lw_p1, List.forall_mem_cons.mpr ⟨lw_p2, List.forall_mem_cons.mpr ⟨lw_p3, List.forall_mem_cons.mpr ⟨lw_p4, List.forall_mem_cons.mpr ⟨lw_p5, List.forall_mem_cons.mpr ⟨lw_p6, List.forall_mem_cons.mpr ⟨lw_p7, List.forall_mem_cons.mpr ⟨lw_p8, List.forall_mem_cons.mpr ⟨lw_p9, List.forall_mem_cons.mpr ⟨lw_p10, List.forall_mem_cons.mpr ⟨lw_p11, List.forall_mem_cons.mpr ⟨lw_p12, List.forall_mem_cons.mpr ⟨lw_p13, List.forall_mem_cons.mpr ⟨lw_p14, List.forall_mem_cons.mpr ⟨lw_p15, fun _ h => absurd h List.not_mem_nil⟩⟩⟩⟩⟩⟩⟩⟩⟩⟩⟩⟩⟩⟩⟩⟩
theorem lw_p16 : lw_okq (⟨"EscapeLightsModel", "readsNumber", "(III)Z"⟩, 16) := ⟨⟨by decide +kernel, by decide +kernel⟩, List.mem_of_getElem? (i := 672) (by decide +kernel), List.mem_of_getElem? (i := 821) (by decide +kernel), List.mem_of_getElem? (i := 822) (by decide +kernel)⟩
theorem lw_p17 : lw_okq (⟨"EscapeLightsModel", "isFigure", "()Z"⟩, 16) := ⟨⟨by decide +kernel, by decide +kernel⟩, List.mem_of_getElem? (i := 672) (by decide +kernel), List.mem_of_getElem? (i := 825) (by decide +kernel), List.mem_of_getElem? (i := 826) (by decide +kernel)⟩
theorem lw_p18 : lw_okq (⟨"EscapeLightsModel", "takes", "(I)Z"⟩, 16) := ⟨⟨by decide +kernel, by decide +kernel⟩, List.mem_of_getElem? (i := 672) (by decide +kernel), List.mem_of_getElem? (i := 829) (by decide +kernel), List.mem_of_getElem? (i := 830) (by decide +kernel)⟩
theorem lw_p19 : lw_okq (⟨"EscapeLightsModel", "readsRoute", "()Z"⟩, 16) := ⟨⟨by decide +kernel, by decide +kernel⟩, List.mem_of_getElem? (i := 672) (by decide +kernel), List.mem_of_getElem? (i := 833) (by decide +kernel), List.mem_of_getElem? (i := 834) (by decide +kernel)⟩
theorem lw_p20 : lw_okq (⟨"EscapeLightsModel", "puts", "(II)V"⟩, 16) := ⟨⟨by decide +kernel, by decide +kernel⟩, List.mem_of_getElem? (i := 672) (by decide +kernel), List.mem_of_getElem? (i := 841) (by decide +kernel), List.mem_of_getElem? (i := 842) (by decide +kernel)⟩
theorem lw_p21 : lw_okq (⟨"EscapeLightsModel", "restOf", "(I)I"⟩, 16) := ⟨⟨by decide +kernel, by decide +kernel⟩, List.mem_of_getElem? (i := 672) (by decide +kernel), List.mem_of_getElem? (i := 849) (by decide +kernel), List.mem_of_getElem? (i := 850) (by decide +kernel)⟩
theorem lw_p22 : lw_okq (⟨"EscapeLightsModel", "instead", "(I)I"⟩, 16) := ⟨⟨by decide +kernel, by decide +kernel⟩, List.mem_of_getElem? (i := 672) (by decide +kernel), List.mem_of_getElem? (i := 853) (by decide +kernel), List.mem_of_getElem? (i := 854) (by decide +kernel)⟩
theorem lw_p23 : lw_okq (⟨"EscapeLightsModel", "hour", "()V"⟩, 16) := ⟨⟨by decide +kernel, by decide +kernel⟩, List.mem_of_getElem? (i := 672) (by decide +kernel), List.mem_of_getElem? (i := 869) (by decide +kernel), List.mem_of_getElem? (i := 870) (by decide +kernel)⟩
theorem lw_p24 : lw_okq (⟨"EscapeLightsModel", "clips", "(I)V"⟩, 16) := ⟨⟨by decide +kernel, by decide +kernel⟩, List.mem_of_getElem? (i := 672) (by decide +kernel), List.mem_of_getElem? (i := 873) (by decide +kernel), List.mem_of_getElem? (i := 874) (by decide +kernel)⟩
theorem lw_p25 : lw_okq (⟨"EscapeLightsModel", "wears", "(II)V"⟩, 16) := ⟨⟨by decide +kernel, by decide +kernel⟩, List.mem_of_getElem? (i := 672) (by decide +kernel), List.mem_of_getElem? (i := 877) (by decide +kernel), List.mem_of_getElem? (i := 878) (by decide +kernel)⟩
theorem lw_p26 : lw_okq (⟨"EscapeLightsModel", "ready", "()I"⟩, 16) := ⟨⟨by decide +kernel, by decide +kernel⟩, List.mem_of_getElem? (i := 672) (by decide +kernel), List.mem_of_getElem? (i := 881) (by decide +kernel), List.mem_of_getElem? (i := 882) (by decide +kernel)⟩
theorem lw_p27 : lw_okq (⟨"EscapeLightsModel", "isReady", "(I)Z"⟩, 16) := ⟨⟨by decide +kernel, by decide +kernel⟩, List.mem_of_getElem? (i := 672) (by decide +kernel), List.mem_of_getElem? (i := 885) (by decide +kernel), List.mem_of_getElem? (i := 886) (by decide +kernel)⟩
theorem lw_p28 : lw_okq (⟨"EscapeLightsModel", "enduranceOf", "(I)I"⟩, 16) := ⟨⟨by decide +kernel, by decide +kernel⟩, List.mem_of_getElem? (i := 672) (by decide +kernel), List.mem_of_getElem? (i := 889) (by decide +kernel), List.mem_of_getElem? (i := 890) (by decide +kernel)⟩
theorem lw_p29 : lw_okq (⟨"EscapeLightsModel", "isSet", "(I)Z"⟩, 16) := ⟨⟨by decide +kernel, by decide +kernel⟩, List.mem_of_getElem? (i := 672) (by decide +kernel), List.mem_of_getElem? (i := 897) (by decide +kernel), List.mem_of_getElem? (i := 898) (by decide +kernel)⟩
theorem lw_p30 : lw_okq (⟨"EscapeLightsModel", "laysPlaces", "()V"⟩, 16) := ⟨⟨by decide +kernel, by decide +kernel⟩, List.mem_of_getElem? (i := 672) (by decide +kernel), List.mem_of_getElem? (i := 901) (by decide +kernel), List.mem_of_getElem? (i := 902) (by decide +kernel)⟩
theorem lw_p31 : lw_okq (⟨"EscapeLightsModel", "reaches", "(II)Z"⟩, 16) := ⟨⟨by decide +kernel, by decide +kernel⟩, List.mem_of_getElem? (i := 672) (by decide +kernel), List.mem_of_getElem? (i := 905) (by decide +kernel), List.mem_of_getElem? (i := 906) (by decide +kernel)⟩
def lw_privs_2 : List (MethodName × Nat) := [(⟨"EscapeLightsModel", "readsNumber", "(III)Z"⟩, 16), (⟨"EscapeLightsModel", "isFigure", "()Z"⟩, 16), (⟨"EscapeLightsModel", "takes", "(I)Z"⟩, 16), (⟨"EscapeLightsModel", "readsRoute", "()Z"⟩, 16), (⟨"EscapeLightsModel", "puts", "(II)V"⟩, 16), (⟨"EscapeLightsModel", "restOf", "(I)I"⟩, 16), (⟨"EscapeLightsModel", "instead", "(I)I"⟩, 16), (⟨"EscapeLightsModel", "hour", "()V"⟩, 16), (⟨"EscapeLightsModel", "clips", "(I)V"⟩, 16), (⟨"EscapeLightsModel", "wears", "(II)V"⟩, 16), (⟨"EscapeLightsModel", "ready", "()I"⟩, 16), (⟨"EscapeLightsModel", "isReady", "(I)Z"⟩, 16), (⟨"EscapeLightsModel", "enduranceOf", "(I)I"⟩, 16), (⟨"EscapeLightsModel", "isSet", "(I)Z"⟩, 16), (⟨"EscapeLightsModel", "laysPlaces", "()V"⟩, 16), (⟨"EscapeLightsModel", "reaches", "(II)Z"⟩, 16)]
theorem lw_r2 : ∀ q ∈ lw_privs_2, lw_okq q := List.forall_mem_cons.mpr ⟨lw_p16, List.forall_mem_cons.mpr ⟨lw_p17, List.forall_mem_cons.mpr ⟨lw_p18, List.forall_mem_cons.mpr ⟨lw_p19, List.forall_mem_cons.mpr ⟨lw_p20, List.forall_mem_cons.mpr ⟨lw_p21, List.forall_mem_cons.mpr ⟨lw_p22, List.forall_mem_cons.mpr ⟨lw_p23, List.forall_mem_cons.mpr ⟨lw_p24, List.forall_mem_cons.mpr ⟨lw_p25, List.forall_mem_cons.mpr ⟨lw_p26, List.forall_mem_cons.mpr ⟨lw_p27, List.forall_mem_cons.mpr ⟨lw_p28, List.forall_mem_cons.mpr ⟨lw_p29, List.forall_mem_cons.mpr ⟨lw_p30, List.forall_mem_cons.mpr ⟨lw_p31, fun _ h => absurd h List.not_mem_nil⟩⟩⟩⟩⟩⟩⟩⟩⟩⟩⟩⟩⟩⟩⟩⟩
theorem lw_p32 : lw_okq (⟨"EscapeLightsModel", "unlit", "(I)I"⟩, 16) := ⟨⟨by decide +kernel, by decide +kernel⟩, List.mem_of_getElem? (i := 672) (by decide +kernel), List.mem_of_getElem? (i := 909) (by decide +kernel), List.mem_of_getElem? (i := 910) (by decide +kernel)⟩
theorem lw_p33 : lw_okq (⟨"EscapeLightsModel", "isAllowed", "(I)Z"⟩, 16) := ⟨⟨by decide +kernel, by decide +kernel⟩, List.mem_of_getElem? (i := 672) (by decide +kernel), List.mem_of_getElem? (i := 913) (by decide +kernel), List.mem_of_getElem? (i := 914) (by decide +kernel)⟩
theorem lw_p34 : lw_okq (⟨"EscapeLightsModel", "tests", "(I)I"⟩, 16) := ⟨⟨by decide +kernel, by decide +kernel⟩, List.mem_of_getElem? (i := 672) (by decide +kernel), List.mem_of_getElem? (i := 921) (by decide +kernel), List.mem_of_getElem? (i := 922) (by decide +kernel)⟩
theorem lw_p35 : lw_okq (⟨"EscapeLightsModel", "laysPlan", "()V"⟩, 16) := ⟨⟨by decide +kernel, by decide +kernel⟩, List.mem_of_getElem? (i := 672) (by decide +kernel), List.mem_of_getElem? (i := 929) (by decide +kernel), List.mem_of_getElem? (i := 930) (by decide +kernel)⟩
theorem lw_p36 : lw_okq (⟨"EscapeLightsModel", "daysNow", "()I"⟩, 16) := ⟨⟨by decide +kernel, by decide +kernel⟩, List.mem_of_getElem? (i := 672) (by decide +kernel), List.mem_of_getElem? (i := 933) (by decide +kernel), List.mem_of_getElem? (i := 934) (by decide +kernel)⟩
theorem lw_p37 : lw_okq (⟨"EscapeLightsModel", "hasPlan", "()Z"⟩, 16) := ⟨⟨by decide +kernel, by decide +kernel⟩, List.mem_of_getElem? (i := 672) (by decide +kernel), List.mem_of_getElem? (i := 937) (by decide +kernel), List.mem_of_getElem? (i := 938) (by decide +kernel)⟩
theorem lw_p38 : lw_okq (⟨"EscapeLightsModel", "setOf", "(I)I"⟩, 16) := ⟨⟨by decide +kernel, by decide +kernel⟩, List.mem_of_getElem? (i := 672) (by decide +kernel), List.mem_of_getElem? (i := 945) (by decide +kernel), List.mem_of_getElem? (i := 946) (by decide +kernel)⟩
theorem lw_p39 : lw_okq (⟨"EscapeLightsModel", "daysWith", "(II)I"⟩, 16) := ⟨⟨by decide +kernel, by decide +kernel⟩, List.mem_of_getElem? (i := 672) (by decide +kernel), List.mem_of_getElem? (i := 957) (by decide +kernel), List.mem_of_getElem? (i := 958) (by decide +kernel)⟩
theorem lw_p40 : lw_okq (⟨"EscapeLightsModel", "lastsNow", "(II)I"⟩, 16) := ⟨⟨by decide +kernel, by decide +kernel⟩, List.mem_of_getElem? (i := 672) (by decide +kernel), List.mem_of_getElem? (i := 969) (by decide +kernel), List.mem_of_getElem? (i := 970) (by decide +kernel)⟩
theorem lw_p41 : lw_okq (⟨"EscapeLightsModel", "weakest", "(IZ)I"⟩, 16) := ⟨⟨by decide +kernel, by decide +kernel⟩, List.mem_of_getElem? (i := 672) (by decide +kernel), List.mem_of_getElem? (i := 977) (by decide +kernel), List.mem_of_getElem? (i := 978) (by decide +kernel)⟩
theorem lw_p42 : lw_okq (⟨"EscapeLightsModel", "without", "(I)I"⟩, 16) := ⟨⟨by decide +kernel, by decide +kernel⟩, List.mem_of_getElem? (i := 672) (by decide +kernel), List.mem_of_getElem? (i := 981) (by decide +kernel), List.mem_of_getElem? (i := 982) (by decide +kernel)⟩
theorem lw_p43 : lw_okq (⟨"EscapeLightsModel", "dayOf", "(I)I"⟩, 16) := ⟨⟨by decide +kernel, by decide +kernel⟩, List.mem_of_getElem? (i := 672) (by decide +kernel), List.mem_of_getElem? (i := 993) (by decide +kernel), List.mem_of_getElem? (i := 994) (by decide +kernel)⟩
theorem lw_p44 : lw_okq (⟨"EscapeLightsModel", "safe", "()I"⟩, 16) := ⟨⟨by decide +kernel, by decide +kernel⟩, List.mem_of_getElem? (i := 672) (by decide +kernel), List.mem_of_getElem? (i := 1001) (by decide +kernel), List.mem_of_getElem? (i := 1002) (by decide +kernel)⟩
theorem lw_p45 : lw_okq (⟨"EscapeLightsModel", "burntOut", "()I"⟩, 16) := ⟨⟨by decide +kernel, by decide +kernel⟩, List.mem_of_getElem? (i := 672) (by decide +kernel), List.mem_of_getElem? (i := 1005) (by decide +kernel), List.mem_of_getElem? (i := 1006) (by decide +kernel)⟩
theorem lw_p46 : lw_okq (⟨"EscapeLightsModel", "mixedPlan", "(J)J"⟩, 16) := ⟨⟨by decide +kernel, by decide +kernel⟩, List.mem_of_getElem? (i := 672) (by decide +kernel), List.mem_of_getElem? (i := 1022) (by decide +kernel), List.mem_of_getElem? (i := 1023) (by decide +kernel)⟩
def lw_privs_3 : List (MethodName × Nat) := [(⟨"EscapeLightsModel", "unlit", "(I)I"⟩, 16), (⟨"EscapeLightsModel", "isAllowed", "(I)Z"⟩, 16), (⟨"EscapeLightsModel", "tests", "(I)I"⟩, 16), (⟨"EscapeLightsModel", "laysPlan", "()V"⟩, 16), (⟨"EscapeLightsModel", "daysNow", "()I"⟩, 16), (⟨"EscapeLightsModel", "hasPlan", "()Z"⟩, 16), (⟨"EscapeLightsModel", "setOf", "(I)I"⟩, 16), (⟨"EscapeLightsModel", "daysWith", "(II)I"⟩, 16), (⟨"EscapeLightsModel", "lastsNow", "(II)I"⟩, 16), (⟨"EscapeLightsModel", "weakest", "(IZ)I"⟩, 16), (⟨"EscapeLightsModel", "without", "(I)I"⟩, 16), (⟨"EscapeLightsModel", "dayOf", "(I)I"⟩, 16), (⟨"EscapeLightsModel", "safe", "()I"⟩, 16), (⟨"EscapeLightsModel", "burntOut", "()I"⟩, 16), (⟨"EscapeLightsModel", "mixedPlan", "(J)J"⟩, 16)]
theorem lw_r3 : ∀ q ∈ lw_privs_3, lw_okq q := List.forall_mem_cons.mpr ⟨lw_p32, List.forall_mem_cons.mpr ⟨lw_p33, List.forall_mem_cons.mpr ⟨lw_p34, List.forall_mem_cons.mpr ⟨lw_p35, List.forall_mem_cons.mpr ⟨lw_p36, List.forall_mem_cons.mpr ⟨lw_p37, List.forall_mem_cons.mpr ⟨lw_p38, List.forall_mem_cons.mpr ⟨lw_p39, List.forall_mem_cons.mpr ⟨lw_p40, List.forall_mem_cons.mpr ⟨lw_p41, List.forall_mem_cons.mpr ⟨lw_p42, List.forall_mem_cons.mpr ⟨lw_p43, List.forall_mem_cons.mpr ⟨lw_p44, List.forall_mem_cons.mpr ⟨lw_p45, List.forall_mem_cons.mpr ⟨lw_p46, fun _ h => absurd h List.not_mem_nil⟩⟩⟩⟩⟩⟩⟩⟩⟩⟩⟩⟩⟩⟩⟩
def lw_privs : List (MethodName × Nat) := lw_privs_1 ++ (lw_privs_2 ++ (lw_privs_3))
def lw_tbl : List Cond := k2_sels lw_privs ++ tables_1
theorem lw_privs_ok : ∀ q ∈ lw_privs, lw_okq q := by
  show ∀ q ∈ lw_privs_1 ++ (lw_privs_2 ++ (lw_privs_3)), lw_okq q
  exact List.forall_mem_append.mpr ⟨lw_r1, List.forall_mem_append.mpr ⟨lw_r2, lw_r3⟩⟩
-- ===== end of PART A; then your names; then what follows =====
end
section
def RX0 : String := "EscapeLights$Building"
def TX0 : u_T := fun k => match k with
  | 0 => ("EscapeLights$Building", "lights", "[LEscapeLights$Light;", true)
  | 1 => ("EscapeLights$Building", "lightCount", "I", false)
  | 2 => ("EscapeLights$Building", "from", "[I", true)
  | 3 => ("EscapeLights$Building", "to", "[I", true)
  | 4 => ("EscapeLights$Building", "routeCount", "I", false)
  | 5 => ("EscapeLights$Building", "need", "I", false)
  | 6 => ("EscapeLights$Building", "hours", "I", false)
  | 7 => ("EscapeLights$Building", "stock", "[I", true)
  | 8 => ("EscapeLights$Building", "passed", "I", false)
  | _ => ("EscapeLights$Building", "failed", "I", false)
def tyX0 : Nat → FieldType := fun k => match k with
  | 0 => .array (.object "EscapeLights$Light")
  | 1 => .int
  | 2 => .array .int
  | 3 => .array .int
  | 4 => .int
  | 5 => .int
  | 6 => .int
  | 7 => .array .int
  | 8 => .int
  | _ => .int
theorem nmX0 : ∀ a, a < 10 → ∀ b, b < 10 → a ≠ b → (TX0 a).2.1 ≠ (TX0 b).2.1 := by decide +kernel
theorem tyX0_ok : ∀ k, k < 10 → parseFieldDescriptor (TX0 k).2.2.1 = some (tyX0 k) := by decide +kernel
def RX1 : String := "EscapeLights$History"
def TX1 : u_T := fun k => match k with
  | 0 => ("EscapeLights$History", "kept", "[LEscapeLights$Building;", true)
  | 1 => ("EscapeLights$History", "next", "I", false)
  | _ => ("EscapeLights$History", "many", "I", false)
def tyX1 : Nat → FieldType := fun k => match k with
  | 0 => .array (.object "EscapeLights$Building")
  | 1 => .int
  | _ => .int
theorem nmX1 : ∀ a, a < 3 → ∀ b, b < 3 → a ≠ b → (TX1 a).2.1 ≠ (TX1 b).2.1 := by decide +kernel
theorem tyX1_ok : ∀ k, k < 3 → parseFieldDescriptor (TX1 k).2.2.1 = some (tyX1 k) := by decide +kernel
def RX2 : String := "EscapeLights$Light"
def TX2 : u_T := fun k => match k with
  | 0 => ("EscapeLights$Light", "place", "I", false)
  | 1 => ("EscapeLights$Light", "circuit", "I", false)
  | 2 => ("EscapeLights$Light", "battery", "I", false)
  | 3 => ("EscapeLights$Light", "lamp", "I", false)
  | 4 => ("EscapeLights$Light", "maintained", "Z", false)
  | 5 => ("EscapeLights$Light", "health", "I", false)
  | 6 => ("EscapeLights$Light", "charge", "I", false)
  | 7 => ("EscapeLights$Light", "rest", "I", false)
  | _ => ("EscapeLights$Light", "result", "I", false)
def tyX2 : Nat → FieldType := fun k => match k with
  | 0 => .int
  | 1 => .int
  | 2 => .int
  | 3 => .int
  | 4 => .boolean
  | 5 => .int
  | 6 => .int
  | 7 => .int
  | _ => .int
theorem nmX2 : ∀ a, a < 9 → ∀ b, b < 9 → a ≠ b → (TX2 a).2.1 ≠ (TX2 b).2.1 := by decide +kernel
theorem tyX2_ok : ∀ k, k < 9 → parseFieldDescriptor (TX2 k).2.2.1 = some (tyX2 k) := by decide +kernel
def RX3 : String := "EscapeLights$Planner"
def TX3 : u_T := fun k => match k with
  | 0 => ("EscapeLights$Planner", "fewest", "[B", true)
  | 1 => ("EscapeLights$Planner", "sets", "[I", true)
  | 2 => ("EscapeLights$Planner", "dayCount", "I", false)
  | _ => ("EscapeLights$Planner", "fresh", "Z", false)
def tyX3 : Nat → FieldType := fun k => match k with
  | 0 => .array .byte
  | 1 => .array .int
  | 2 => .int
  | _ => .boolean
theorem nmX3 : ∀ a, a < 4 → ∀ b, b < 4 → a ≠ b → (TX3 a).2.1 ≠ (TX3 b).2.1 := by decide +kernel
theorem tyX3_ok : ∀ k, k < 4 → parseFieldDescriptor (TX3 k).2.2.1 = some (tyX3 k) := by decide +kernel
def RX4 : String := "EscapeLights$Reach"
def TX4 : u_T := fun k => match k with
  | 0 => ("EscapeLights$Reach", "near", "[I", true)
  | _ => ("EscapeLights$Reach", "longest", "[I", true)
def tyX4 : Nat → FieldType := fun k => match k with
  | 0 => .array .int
  | _ => .array .int
theorem nmX4 : ∀ a, a < 2 → ∀ b, b < 2 → a ≠ b → (TX4 a).2.1 ≠ (TX4 b).2.1 := by decide +kernel
theorem tyX4_ok : ∀ k, k < 2 → parseFieldDescriptor (TX4 k).2.2.1 = some (tyX4 k) := by decide +kernel
def RX5 : String := "EscapeLights$Text"
def TX5 : u_T := fun k => match k with
  | 0 => ("EscapeLights$Text", "bytes", "[B", true)
  | 1 => ("EscapeLights$Text", "length", "I", false)
  | 2 => ("EscapeLights$Text", "at", "I", false)
  | _ => ("EscapeLights$Text", "fault", "I", false)
def tyX5 : Nat → FieldType := fun k => match k with
  | 0 => .array .byte
  | 1 => .int
  | 2 => .int
  | _ => .int
theorem nmX5 : ∀ a, a < 4 → ∀ b, b < 4 → a ≠ b → (TX5 a).2.1 ≠ (TX5 b).2.1 := by decide +kernel
theorem tyX5_ok : ∀ k, k < 4 → parseFieldDescriptor (TX5 k).2.2.1 = some (tyX5 k) := by decide +kernel
def RX6 : String := "EscapeLights"
def TX6 : u_T := fun k => match k with
  | 0 => ("EscapeLights", "text", "LEscapeLights$Text;", true)
  | 1 => ("EscapeLights", "now", "LEscapeLights$Building;", true)
  | 2 => ("EscapeLights", "trial", "LEscapeLights$Building;", true)
  | 3 => ("EscapeLights", "history", "LEscapeLights$History;", true)
  | 4 => ("EscapeLights", "reach", "LEscapeLights$Reach;", true)
  | _ => ("EscapeLights", "planner", "LEscapeLights$Planner;", true)
def tyX6 : Nat → FieldType := fun k => match k with
  | 0 => .object "EscapeLights$Text"
  | 1 => .object "EscapeLights$Building"
  | 2 => .object "EscapeLights$Building"
  | 3 => .object "EscapeLights$History"
  | 4 => .object "EscapeLights$Reach"
  | _ => .object "EscapeLights$Planner"
theorem nmX6 : ∀ a, a < 6 → ∀ b, b < 6 → a ≠ b → (TX6 a).2.1 ≠ (TX6 b).2.1 := by decide +kernel
theorem tyX6_ok : ∀ k, k < 6 → parseFieldDescriptor (TX6 k).2.2.1 = some (tyX6 k) := by decide +kernel
def RX7 : String := "EscapeLightsModel"
def TX7 : u_T := fun k => match k with
  | 0 => ("EscapeLightsModel", "page", "[I", true)
  | 1 => ("EscapeLightsModel", "remembered", "I", false)
  | 2 => ("EscapeLightsModel", "text", "[I", true)
  | 3 => ("EscapeLightsModel", "typed", "I", false)
  | 4 => ("EscapeLightsModel", "spot", "I", false)
  | 5 => ("EscapeLightsModel", "number", "I", false)
  | 6 => ("EscapeLightsModel", "madeLights", "[I", true)
  | 7 => ("EscapeLightsModel", "madeRoutes", "[I", true)
  | 8 => ("EscapeLightsModel", "lightsMade", "I", false)
  | 9 => ("EscapeLightsModel", "routesMade", "I", false)
  | 10 => ("EscapeLightsModel", "lit", "[I", true)
  | 11 => ("EscapeLightsModel", "counts", "[Z", true)
  | 12 => ("EscapeLightsModel", "fewest", "[I", true)
  | 13 => ("EscapeLightsModel", "first", "[I", true)
  | 14 => ("EscapeLightsModel", "may", "[Z", true)
  | _ => ("EscapeLightsModel", "planned", "[I", true)
def tyX7 : Nat → FieldType := fun k => match k with
  | 0 => .array .int
  | 1 => .int
  | 2 => .array .int
  | 3 => .int
  | 4 => .int
  | 5 => .int
  | 6 => .array .int
  | 7 => .array .int
  | 8 => .int
  | 9 => .int
  | 10 => .array .int
  | 11 => .array .boolean
  | 12 => .array .int
  | 13 => .array .int
  | 14 => .array .boolean
  | _ => .array .int
theorem nmX7 : ∀ a, a < 16 → ∀ b, b < 16 → a ≠ b → (TX7 a).2.1 ≠ (TX7 b).2.1 := by decide +kernel
theorem tyX7_ok : ∀ k, k < 16 → parseFieldDescriptor (TX7 k).2.2.1 = some (tyX7 k) := by decide +kernel
def RJ9 : String := "java/lang/Math"
def RL : String := "EscapeLightsLaw"
abbrev cL_law : ByteArray := code
abbrev cX0_init : ByteArray := prog_2_method_1_code
def yX0_init : MethodName := ⟨RX0, "<init>", "()V"⟩
abbrev cX0_find : ByteArray := prog_2_method_2_code
def yX0_find : MethodName := ⟨RX0, "find", "(I)LEscapeLights$Light;"⟩
abbrev cX0_grow : ByteArray := prog_2_method_3_code
def yX0_grow : MethodName := ⟨RX0, "grow", "()LEscapeLights$Light;"⟩
abbrev cX0_removeLight : ByteArray := prog_2_method_4_code
def yX0_removeLight : MethodName := ⟨RX0, "removeLight", "(I)V"⟩
abbrev cX0_hasRoute : ByteArray := prog_2_method_5_code
def yX0_hasRoute : MethodName := ⟨RX0, "hasRoute", "(I)Z"⟩
abbrev cX0_firstPlace : ByteArray := prog_2_method_6_code
def yX0_firstPlace : MethodName := ⟨RX0, "firstPlace", "(I)I"⟩
abbrev cX0_lastPlace : ByteArray := prog_2_method_7_code
def yX0_lastPlace : MethodName := ⟨RX0, "lastPlace", "(I)I"⟩
abbrev cX0_appendRoute : ByteArray := prog_2_method_8_code
def yX0_appendRoute : MethodName := ⟨RX0, "appendRoute", "(II)V"⟩
abbrev cX0_removeRoute : ByteArray := prog_2_method_9_code
def yX0_removeRoute : MethodName := ⟨RX0, "removeRoute", "(I)V"⟩
abbrev cX0_copyFrom : ByteArray := prog_2_method_10_code
def yX0_copyFrom : MethodName := ⟨RX0, "copyFrom", "(LEscapeLights$Building;)V"⟩
abbrev cX0_copyLayout : ByteArray := prog_2_method_11_code
def yX0_copyLayout : MethodName := ⟨RX0, "copyLayout", "(LEscapeLights$Building;)V"⟩
abbrev cX0_stockOf : ByteArray := prog_2_method_12_code
def yX0_stockOf : MethodName := ⟨RX0, "stockOf", "(I)I"⟩
abbrev cX0_changeStock : ByteArray := prog_2_method_13_code
def yX0_changeStock : MethodName := ⟨RX0, "changeStock", "(II)V"⟩
abbrev cX0_holds : ByteArray := prog_2_method_14_code
def yX0_holds : MethodName := ⟨RX0, "holds", "(I)Z"⟩
abbrev cX0_withoutCircuit : ByteArray := prog_2_method_15_code
def yX0_withoutCircuit : MethodName := ⟨RX0, "withoutCircuit", "(I)I"⟩
abbrev cX0_countReady : ByteArray := prog_2_method_16_code
def yX0_countReady : MethodName := ⟨RX0, "countReady", "()I"⟩
abbrev cX0_countBurntOut : ByteArray := prog_2_method_17_code
def yX0_countBurntOut : MethodName := ⟨RX0, "countBurntOut", "()I"⟩
abbrev cX0_countReaching : ByteArray := prog_2_method_18_code
def yX0_countReaching : MethodName := ⟨RX0, "countReaching", "(IZ)I"⟩
abbrev cX0_putLamps : ByteArray := prog_2_method_19_code
def yX0_putLamps : MethodName := ⟨RX0, "putLamps", "(I)I"⟩
abbrev cX0_lampInPlaceOf : ByteArray := prog_2_method_20_code
def yX0_lampInPlaceOf : MethodName := ⟨RX0, "lampInPlaceOf", "(I)I"⟩
abbrev cX0_burn : ByteArray := prog_2_method_21_code
def yX0_burn : MethodName := ⟨RX0, "burn", "(I)V"⟩
abbrev cX0_letHoursPass : ByteArray := prog_2_method_22_code
def yX0_letHoursPass : MethodName := ⟨RX0, "letHoursPass", "(I)V"⟩
abbrev cX0_letStretchPass : ByteArray := prog_2_method_23_code
def yX0_letStretchPass : MethodName := ⟨RX0, "letStretchPass", "(I)V"⟩
abbrev cX1_init : ByteArray := prog_3_method_1_code
def yX1_init : MethodName := ⟨RX1, "<init>", "()V"⟩
abbrev cX1_keep : ByteArray := prog_3_method_2_code
def yX1_keep : MethodName := ⟨RX1, "keep", "(LEscapeLights$Building;)V"⟩
abbrev cX1_restore : ByteArray := prog_3_method_3_code
def yX1_restore : MethodName := ⟨RX1, "restore", "(LEscapeLights$Building;)V"⟩
abbrev cX1_slot : ByteArray := prog_3_method_4_code
def yX1_slot : MethodName := ⟨RX1, "slot", "(I)LEscapeLights$Building;"⟩
abbrev cX2_init : ByteArray := prog_4_method_1_code
def yX2_init : MethodName := ⟨RX2, "<init>", "()V"⟩
abbrev cX2_begin : ByteArray := prog_4_method_2_code
def yX2_begin : MethodName := ⟨RX2, "begin", "(IIIIZ)V"⟩
abbrev cX2_copyFrom : ByteArray := prog_4_method_3_code
def yX2_copyFrom : MethodName := ⟨RX2, "copyFrom", "(LEscapeLights$Light;)V"⟩
abbrev cX2_putLamp : ByteArray := prog_4_method_4_code
def yX2_putLamp : MethodName := ⟨RX2, "putLamp", "(I)V"⟩
abbrev cX2_ratedTime : ByteArray := prog_4_method_5_code
def yX2_ratedTime : MethodName := ⟨RX2, "ratedTime", "()I"⟩
abbrev cX2_wear : ByteArray := prog_4_method_6_code
def yX2_wear : MethodName := ⟨RX2, "wear", "()I"⟩
abbrev cX2_life : ByteArray := prog_4_method_7_code
def yX2_life : MethodName := ⟨RX2, "life", "()I"⟩
abbrev cX2_width : ByteArray := prog_4_method_8_code
def yX2_width : MethodName := ⟨RX2, "width", "()I"⟩
abbrev cX2_widthOf : ByteArray := prog_4_method_9_code
def yX2_widthOf : MethodName := ⟨RX2, "widthOf", "(I)I"⟩
abbrev cX2_capacity : ByteArray := prog_4_method_10_code
def yX2_capacity : MethodName := ⟨RX2, "capacity", "()I"⟩
abbrev cX2_fullCharge : ByteArray := prog_4_method_11_code
def yX2_fullCharge : MethodName := ⟨RX2, "fullCharge", "()I"⟩
abbrev cX2_endurance : ByteArray := prog_4_method_12_code
def yX2_endurance : MethodName := ⟨RX2, "endurance", "()I"⟩
abbrev cX2_isReady : ByteArray := prog_4_method_13_code
def yX2_isReady : MethodName := ⟨RX2, "isReady", "(I)Z"⟩
abbrev cX2_reaches : ByteArray := prog_4_method_14_code
def yX2_reaches : MethodName := ⟨RX2, "reaches", "(I)Z"⟩
abbrev cX2_letHoursPass : ByteArray := prog_4_method_15_code
def yX2_letHoursPass : MethodName := ⟨RX2, "letHoursPass", "(I)V"⟩
abbrev cX2_age : ByteArray := prog_4_method_16_code
def yX2_age : MethodName := ⟨RX2, "age", "(I)V"⟩
abbrev cX2_burn : ByteArray := prog_4_method_17_code
def yX2_burn : MethodName := ⟨RX2, "burn", "()Z"⟩
abbrev cX2_property : ByteArray := prog_4_method_18_code
def yX2_property : MethodName := ⟨RX2, "property", "(II)I"⟩
abbrev cX3_init : ByteArray := prog_5_method_1_code
def yX3_init : MethodName := ⟨RX3, "<init>", "()V"⟩
abbrev cX3_forget : ByteArray := prog_5_method_2_code
def yX3_forget : MethodName := ⟨RX3, "forget", "()V"⟩
abbrev cX3_setOn : ByteArray := prog_5_method_3_code
def yX3_setOn : MethodName := ⟨RX3, "setOn", "(I)I"⟩
abbrev cX3_dayOf : ByteArray := prog_5_method_4_code
def yX3_dayOf : MethodName := ⟨RX3, "dayOf", "(I)I"⟩
abbrev cX3_follow : ByteArray := prog_5_method_5_code
def yX3_follow : MethodName := ⟨RX3, "follow", "(LEscapeLights$Building;LEscapeLights$Reach;)V"⟩
abbrev cX3_fewestDays : ByteArray := prog_5_method_6_code
def yX3_fewestDays : MethodName := ⟨RX3, "fewestDays", "(LEscapeLights$Building;LEscapeLights$Reach;)I"⟩
abbrev cX3_markForbidden : ByteArray := prog_5_method_7_code
def yX3_markForbidden : MethodName := ⟨RX3, "markForbidden", "(LEscapeLights$Building;LEscapeLights$Reach;I)V"⟩
abbrev cX3_forbid : ByteArray := prog_5_method_8_code
def yX3_forbid : MethodName := ⟨RX3, "forbid", "(I)V"⟩
abbrev cX3_daysFor : ByteArray := prog_5_method_9_code
def yX3_daysFor : MethodName := ⟨RX3, "daysFor", "(I)I"⟩
abbrev cX3_holdsForbidden : ByteArray := prog_5_method_10_code
def yX3_holdsForbidden : MethodName := ⟨RX3, "holdsForbidden", "(I)Z"⟩
abbrev cX3_fewestApart : ByteArray := prog_5_method_11_code
def yX3_fewestApart : MethodName := ⟨RX3, "fewestApart", "(I)I"⟩
abbrev cX3_firstSet : ByteArray := prog_5_method_12_code
def yX3_firstSet : MethodName := ⟨RX3, "firstSet", "(I)I"⟩
abbrev cX3_begins : ByteArray := prog_5_method_13_code
def yX3_begins : MethodName := ⟨RX3, "begins", "(II)Z"⟩
abbrev cX4_init : ByteArray := prog_6_method_1_code
def yX4_init : MethodName := ⟨RX4, "<init>", "()V"⟩
abbrev cX4_look : ByteArray := prog_6_method_2_code
def yX4_look : MethodName := ⟨RX4, "look", "(LEscapeLights$Building;)V"⟩
abbrev cX4_nearTo : ByteArray := prog_6_method_3_code
def yX4_nearTo : MethodName := ⟨RX4, "nearTo", "(I)I"⟩
abbrev cX4_dark : ByteArray := prog_6_method_4_code
def yX4_dark : MethodName := ⟨RX4, "dark", "(III)I"⟩
abbrev cX4_minutes : ByteArray := prog_6_method_5_code
def yX4_minutes : MethodName := ⟨RX4, "minutes", "(LEscapeLights$Building;II)I"⟩
abbrev cX4_lengthen : ByteArray := prog_6_method_6_code
def yX4_lengthen : MethodName := ⟨RX4, "lengthen", "(LEscapeLights$Light;II)V"⟩
abbrev cX5_init : ByteArray := prog_7_method_1_code
def yX5_init : MethodName := ⟨RX5, "<init>", "()V"⟩
abbrev cX5_append : ByteArray := prog_7_method_2_code
def yX5_append : MethodName := ⟨RX5, "append", "(I)Z"⟩
abbrev cX5_readInto : ByteArray := prog_7_method_3_code
def yX5_readInto : MethodName := ⟨RX5, "readInto", "(LEscapeLights$Building;)I"⟩
abbrev cX5_readLight : ByteArray := prog_7_method_4_code
def yX5_readLight : MethodName := ⟨RX5, "readLight", "(LEscapeLights$Building;)V"⟩
abbrev cX5_readRoute : ByteArray := prog_7_method_5_code
def yX5_readRoute : MethodName := ⟨RX5, "readRoute", "(LEscapeLights$Building;)V"⟩
abbrev cX5_peek : ByteArray := prog_7_method_6_code
def yX5_peek : MethodName := ⟨RX5, "peek", "()I"⟩
abbrev cX5_expect : ByteArray := prog_7_method_7_code
def yX5_expect : MethodName := ⟨RX5, "expect", "(I)V"⟩
abbrev cX5_readNumber : ByteArray := prog_7_method_8_code
def yX5_readNumber : MethodName := ⟨RX5, "readNumber", "(III)I"⟩
abbrev cX5_isAtDigit : ByteArray := prog_7_method_9_code
def yX5_isAtDigit : MethodName := ⟨RX5, "isAtDigit", "()Z"⟩
abbrev cX5_fail : ByteArray := prog_7_method_10_code
def yX5_fail : MethodName := ⟨RX5, "fail", "(I)V"⟩
abbrev cX6_init : ByteArray := prog_1_method_1_code
def yX6_init : MethodName := ⟨RX6, "<init>", "()V"⟩
abbrev cX6_type : ByteArray := prog_1_method_2_code
def yX6_type : MethodName := ⟨RX6, "type", "(I)I"⟩
abbrev cX6_clear : ByteArray := prog_1_method_3_code
def yX6_clear : MethodName := ⟨RX6, "clear", "()I"⟩
abbrev cX6_load : ByteArray := prog_1_method_4_code
def yX6_load : MethodName := ⟨RX6, "load", "()I"⟩
abbrev cX6_add : ByteArray := prog_1_method_5_code
def yX6_add : MethodName := ⟨RX6, "add", "(IIII)I"⟩
abbrev cX6_drop : ByteArray := prog_1_method_6_code
def yX6_drop : MethodName := ⟨RX6, "drop", "(I)I"⟩
abbrev cX6_maintain : ByteArray := prog_1_method_7_code
def yX6_maintain : MethodName := ⟨RX6, "maintain", "(IZ)I"⟩
abbrev cX6_route : ByteArray := prog_1_method_8_code
def yX6_route : MethodName := ⟨RX6, "route", "(II)I"⟩
abbrev cX6_dropRoute : ByteArray := prog_1_method_9_code
def yX6_dropRoute : MethodName := ⟨RX6, "dropRoute", "(I)I"⟩
abbrev cX6_setNeed : ByteArray := prog_1_method_10_code
def yX6_setNeed : MethodName := ⟨RX6, "setNeed", "(I)I"⟩
abbrev cX6_setStock : ByteArray := prog_1_method_11_code
def yX6_setStock : MethodName := ⟨RX6, "setStock", "(II)I"⟩
abbrev cX6_light : ByteArray := prog_1_method_12_code
def yX6_light : MethodName := ⟨RX6, "light", "(II)I"⟩
abbrev cX6_swap : ByteArray := prog_1_method_13_code
def yX6_swap : MethodName := ⟨RX6, "swap", "(II)I"⟩
abbrev cX6_swapAll : ByteArray := prog_1_method_14_code
def yX6_swapAll : MethodName := ⟨RX6, "swapAll", "(I)I"⟩
abbrev cX6_renew : ByteArray := prog_1_method_15_code
def yX6_renew : MethodName := ⟨RX6, "renew", "(I)I"⟩
abbrev cX6_pass : ByteArray := prog_1_method_16_code
def yX6_pass : MethodName := ⟨RX6, "pass", "(I)I"⟩
abbrev cX6_test : ByteArray := prog_1_method_17_code
def yX6_test : MethodName := ⟨RX6, "test", "(IZ)I"⟩
abbrev cX6_carryOut : ByteArray := prog_1_method_18_code
def yX6_carryOut : MethodName := ⟨RX6, "carryOut", "()I"⟩
abbrev cX6_routeAt : ByteArray := prog_1_method_19_code
def yX6_routeAt : MethodName := ⟨RX6, "routeAt", "(II)I"⟩
abbrev cX6_lasts : ByteArray := prog_1_method_20_code
def yX6_lasts : MethodName := ⟨RX6, "lasts", "(II)I"⟩
abbrev cX6_reaching : ByteArray := prog_1_method_21_code
def yX6_reaching : MethodName := ⟨RX6, "reaching", "(IZ)I"⟩
abbrev cX6_allowed : ByteArray := prog_1_method_22_code
def yX6_allowed : MethodName := ⟨RX6, "allowed", "(I)I"⟩
abbrev cX6_days : ByteArray := prog_1_method_23_code
def yX6_days : MethodName := ⟨RX6, "days", "()I"⟩
abbrev cX6_day : ByteArray := prog_1_method_24_code
def yX6_day : MethodName := ⟨RX6, "day", "(I)I"⟩
abbrev cX6_ifLamp : ByteArray := prog_1_method_25_code
def yX6_ifLamp : MethodName := ⟨RX6, "ifLamp", "(II)I"⟩
abbrev cX6_bestSwap : ByteArray := prog_1_method_26_code
def yX6_bestSwap : MethodName := ⟨RX6, "bestSwap", "(I)I"⟩
abbrev cX6_told : ByteArray := prog_1_method_27_code
def yX6_told : MethodName := ⟨RX6, "told", "(I)I"⟩
abbrev cX6_undo : ByteArray := prog_1_method_28_code
def yX6_undo : MethodName := ⟨RX6, "undo", "()I"⟩
abbrev cX6_digest : ByteArray := prog_1_method_29_code
def yX6_digest : MethodName := ⟨RX6, "digest", "()J"⟩
abbrev cX6_isPlace : ByteArray := prog_1_method_30_code
def yX6_isPlace : MethodName := ⟨RX6, "isPlace", "(I)Z"⟩
abbrev cX6_isLamp : ByteArray := prog_1_method_31_code
def yX6_isLamp : MethodName := ⟨RX6, "isLamp", "(I)Z"⟩
abbrev cX6_remember : ByteArray := prog_1_method_32_code
def yX6_remember : MethodName := ⟨RX6, "remember", "()V"⟩
abbrev cX6_darkPlaces : ByteArray := prog_1_method_33_code
def yX6_darkPlaces : MethodName := ⟨RX6, "darkPlaces", "(I)I"⟩
abbrev cX6_countSafe : ByteArray := prog_1_method_34_code
def yX6_countSafe : MethodName := ⟨RX6, "countSafe", "()I"⟩
abbrev cX6_worstCircuit : ByteArray := prog_1_method_35_code
def yX6_worstCircuit : MethodName := ⟨RX6, "worstCircuit", "(I)I"⟩
abbrev cX6_daysWithLamp : ByteArray := prog_1_method_36_code
def yX6_daysWithLamp : MethodName := ⟨RX6, "daysWithLamp", "(II)I"⟩
abbrev cX7_init : ByteArray := prog_9_method_1_code
def yX7_init : MethodName := ⟨RX7, "<init>", "()V"⟩
abbrev cX7_in : ByteArray := prog_9_method_3_code
def yX7_in : MethodName := ⟨RX7, "in", "(III)Z"⟩
abbrev cX7_records : ByteArray := prog_9_method_4_code
def yX7_records : MethodName := ⟨RX7, "records", "()V"⟩
abbrev cX7_at : ByteArray := prog_9_method_5_code
def yX7_at : MethodName := ⟨RX7, "at", "(II)I"⟩
abbrev cX7_of : ByteArray := prog_9_method_6_code
def yX7_of : MethodName := ⟨RX7, "of", "(II)I"⟩
abbrev cX7_lights : ByteArray := prog_9_method_7_code
def yX7_lights : MethodName := ⟨RX7, "lights", "()I"⟩
abbrev cX7_isLight : ByteArray := prog_9_method_8_code
def yX7_isLight : MethodName := ⟨RX7, "isLight", "(I)Z"⟩
abbrev cX7_isRoute : ByteArray := prog_9_method_9_code
def yX7_isRoute : MethodName := ⟨RX7, "isRoute", "(I)Z"⟩
abbrev cX7_ratedOf : ByteArray := prog_9_method_10_code
def yX7_ratedOf : MethodName := ⟨RX7, "ratedOf", "(I)I"⟩
abbrev cX7_reachOf : ByteArray := prog_9_method_11_code
def yX7_reachOf : MethodName := ⟨RX7, "reachOf", "(I)I"⟩
abbrev cX7_capacityOf : ByteArray := prog_9_method_12_code
def yX7_capacityOf : MethodName := ⟨RX7, "capacityOf", "(I)I"⟩
abbrev cX7_restOf : ByteArray := prog_9_method_13_code
def yX7_restOf : MethodName := ⟨RX7, "restOf", "(I)I"⟩
abbrev cX7_enduranceOf : ByteArray := prog_9_method_14_code
def yX7_enduranceOf : MethodName := ⟨RX7, "enduranceOf", "(I)I"⟩
abbrev cX7_isReady : ByteArray := prog_9_method_15_code
def yX7_isReady : MethodName := ⟨RX7, "isReady", "(I)Z"⟩
abbrev cX7_reaches : ByteArray := prog_9_method_16_code
def yX7_reaches : MethodName := ⟨RX7, "reaches", "(II)Z"⟩
abbrev cX7_clips : ByteArray := prog_9_method_17_code
def yX7_clips : MethodName := ⟨RX7, "clips", "(I)V"⟩
abbrev cX7_wears : ByteArray := prog_9_method_18_code
def yX7_wears : MethodName := ⟨RX7, "wears", "(II)V"⟩
abbrev cX7_lays : ByteArray := prog_9_method_19_code
def yX7_lays : MethodName := ⟨RX7, "lays", "(IIIIIZ)V"⟩
abbrev cX7_isPlace : ByteArray := prog_9_method_20_code
def yX7_isPlace : MethodName := ⟨RX7, "isPlace", "(I)Z"⟩
abbrev cX7_isLamp : ByteArray := prog_9_method_21_code
def yX7_isLamp : MethodName := ⟨RX7, "isLamp", "(I)Z"⟩
abbrev cX7_add : ByteArray := prog_9_method_22_code
def yX7_add : MethodName := ⟨RX7, "add", "(IIII)I"⟩
abbrev cX7_drop : ByteArray := prog_9_method_23_code
def yX7_drop : MethodName := ⟨RX7, "drop", "(I)I"⟩
abbrev cX7_maintain : ByteArray := prog_9_method_24_code
def yX7_maintain : MethodName := ⟨RX7, "maintain", "(IZ)I"⟩
abbrev cX7_route : ByteArray := prog_9_method_25_code
def yX7_route : MethodName := ⟨RX7, "route", "(II)I"⟩
abbrev cX7_dropRoute : ByteArray := prog_9_method_26_code
def yX7_dropRoute : MethodName := ⟨RX7, "dropRoute", "(I)I"⟩
abbrev cX7_setNeed : ByteArray := prog_9_method_27_code
def yX7_setNeed : MethodName := ⟨RX7, "setNeed", "(I)I"⟩
abbrev cX7_setStock : ByteArray := prog_9_method_28_code
def yX7_setStock : MethodName := ⟨RX7, "setStock", "(II)I"⟩
abbrev cX7_type : ByteArray := prog_9_method_29_code
def yX7_type : MethodName := ⟨RX7, "type", "(I)I"⟩
abbrev cX7_clear : ByteArray := prog_9_method_30_code
def yX7_clear : MethodName := ⟨RX7, "clear", "()I"⟩
abbrev cX7_here : ByteArray := prog_9_method_31_code
def yX7_here : MethodName := ⟨RX7, "here", "()I"⟩
abbrev cX7_takes : ByteArray := prog_9_method_32_code
def yX7_takes : MethodName := ⟨RX7, "takes", "(I)Z"⟩
abbrev cX7_isFigure : ByteArray := prog_9_method_33_code
def yX7_isFigure : MethodName := ⟨RX7, "isFigure", "()Z"⟩
abbrev cX7_readsNumber : ByteArray := prog_9_method_34_code
def yX7_readsNumber : MethodName := ⟨RX7, "readsNumber", "(III)Z"⟩
abbrev cX7_readsLight : ByteArray := prog_9_method_35_code
def yX7_readsLight : MethodName := ⟨RX7, "readsLight", "()Z"⟩
abbrev cX7_readsRoute : ByteArray := prog_9_method_36_code
def yX7_readsRoute : MethodName := ⟨RX7, "readsRoute", "()Z"⟩
abbrev cX7_load : ByteArray := prog_9_method_37_code
def yX7_load : MethodName := ⟨RX7, "load", "()I"⟩
abbrev cX7_puts : ByteArray := prog_9_method_38_code
def yX7_puts : MethodName := ⟨RX7, "puts", "(II)V"⟩
abbrev cX7_swap : ByteArray := prog_9_method_39_code
def yX7_swap : MethodName := ⟨RX7, "swap", "(II)I"⟩
abbrev cX7_instead : ByteArray := prog_9_method_40_code
def yX7_instead : MethodName := ⟨RX7, "instead", "(I)I"⟩
abbrev cX7_swapAll : ByteArray := prog_9_method_41_code
def yX7_swapAll : MethodName := ⟨RX7, "swapAll", "(I)I"⟩
abbrev cX7_renew : ByteArray := prog_9_method_42_code
def yX7_renew : MethodName := ⟨RX7, "renew", "(I)I"⟩
abbrev cX7_hour : ByteArray := prog_9_method_43_code
def yX7_hour : MethodName := ⟨RX7, "hour", "()V"⟩
abbrev cX7_ready : ByteArray := prog_9_method_44_code
def yX7_ready : MethodName := ⟨RX7, "ready", "()I"⟩
abbrev cX7_pass : ByteArray := prog_9_method_45_code
def yX7_pass : MethodName := ⟨RX7, "pass", "(I)I"⟩
abbrev cX7_tests : ByteArray := prog_9_method_46_code
def yX7_tests : MethodName := ⟨RX7, "tests", "(I)I"⟩
abbrev cX7_isSet : ByteArray := prog_9_method_47_code
def yX7_isSet : MethodName := ⟨RX7, "isSet", "(I)Z"⟩
abbrev cX7_laysPlaces : ByteArray := prog_9_method_48_code
def yX7_laysPlaces : MethodName := ⟨RX7, "laysPlaces", "()V"⟩
abbrev cX7_unlit : ByteArray := prog_9_method_49_code
def yX7_unlit : MethodName := ⟨RX7, "unlit", "(I)I"⟩
abbrev cX7_isAllowed : ByteArray := prog_9_method_50_code
def yX7_isAllowed : MethodName := ⟨RX7, "isAllowed", "(I)Z"⟩
abbrev cX7_allowed : ByteArray := prog_9_method_51_code
def yX7_allowed : MethodName := ⟨RX7, "allowed", "(I)I"⟩
abbrev cX7_test : ByteArray := prog_9_method_52_code
def yX7_test : MethodName := ⟨RX7, "test", "(IZ)I"⟩
abbrev cX7_laysPlan : ByteArray := prog_9_method_53_code
def yX7_laysPlan : MethodName := ⟨RX7, "laysPlan", "()V"⟩
abbrev cX7_hasPlan : ByteArray := prog_9_method_54_code
def yX7_hasPlan : MethodName := ⟨RX7, "hasPlan", "()Z"⟩
abbrev cX7_setOf : ByteArray := prog_9_method_55_code
def yX7_setOf : MethodName := ⟨RX7, "setOf", "(I)I"⟩
abbrev cX7_daysNow : ByteArray := prog_9_method_56_code
def yX7_daysNow : MethodName := ⟨RX7, "daysNow", "()I"⟩
abbrev cX7_days : ByteArray := prog_9_method_57_code
def yX7_days : MethodName := ⟨RX7, "days", "()I"⟩
abbrev cX7_day : ByteArray := prog_9_method_58_code
def yX7_day : MethodName := ⟨RX7, "day", "(I)I"⟩
abbrev cX7_dayOf : ByteArray := prog_9_method_59_code
def yX7_dayOf : MethodName := ⟨RX7, "dayOf", "(I)I"⟩
abbrev cX7_carryOut : ByteArray := prog_9_method_60_code
def yX7_carryOut : MethodName := ⟨RX7, "carryOut", "()I"⟩
abbrev cX7_daysWith : ByteArray := prog_9_method_61_code
def yX7_daysWith : MethodName := ⟨RX7, "daysWith", "(II)I"⟩
abbrev cX7_ifLamp : ByteArray := prog_9_method_62_code
def yX7_ifLamp : MethodName := ⟨RX7, "ifLamp", "(II)I"⟩
abbrev cX7_bestSwap : ByteArray := prog_9_method_63_code
def yX7_bestSwap : MethodName := ⟨RX7, "bestSwap", "(I)I"⟩
abbrev cX7_lastsNow : ByteArray := prog_9_method_64_code
def yX7_lastsNow : MethodName := ⟨RX7, "lastsNow", "(II)I"⟩
abbrev cX7_lasts : ByteArray := prog_9_method_65_code
def yX7_lasts : MethodName := ⟨RX7, "lasts", "(II)I"⟩
abbrev cX7_without : ByteArray := prog_9_method_66_code
def yX7_without : MethodName := ⟨RX7, "without", "(I)I"⟩
abbrev cX7_weakest : ByteArray := prog_9_method_67_code
def yX7_weakest : MethodName := ⟨RX7, "weakest", "(IZ)I"⟩
abbrev cX7_routeAt : ByteArray := prog_9_method_68_code
def yX7_routeAt : MethodName := ⟨RX7, "routeAt", "(II)I"⟩
abbrev cX7_reaching : ByteArray := prog_9_method_69_code
def yX7_reaching : MethodName := ⟨RX7, "reaching", "(IZ)I"⟩
abbrev cX7_light : ByteArray := prog_9_method_70_code
def yX7_light : MethodName := ⟨RX7, "light", "(II)I"⟩
abbrev cX7_burntOut : ByteArray := prog_9_method_71_code
def yX7_burntOut : MethodName := ⟨RX7, "burntOut", "()I"⟩
abbrev cX7_safe : ByteArray := prog_9_method_72_code
def yX7_safe : MethodName := ⟨RX7, "safe", "()I"⟩
abbrev cX7_told : ByteArray := prog_9_method_73_code
def yX7_told : MethodName := ⟨RX7, "told", "(I)I"⟩
abbrev cX7_undo : ByteArray := prog_9_method_74_code
def yX7_undo : MethodName := ⟨RX7, "undo", "()I"⟩
abbrev cX7_mixedPlan : ByteArray := prog_9_method_75_code
def yX7_mixedPlan : MethodName := ⟨RX7, "mixedPlan", "(J)J"⟩
abbrev cX7_digest : ByteArray := prog_9_method_76_code
def yX7_digest : MethodName := ⟨RX7, "digest", "()J"⟩
abbrev cJ9_floorMod_7cf53 : ByteArray := prog_10_method_50_code
def yJ9_floorMod_7cf53 : MethodName := ⟨RJ9, "floorMod", "(II)I"⟩
abbrev vwCl : List vw_C := [(RX0, TX0, 10), (RX1, TX1, 3), (RX2, TX2, 9), (RX3, TX3, 4), (RX4, TX4, 2), (RX5, TX5, 4), (RX6, TX6, 6), (RX7, TX7, 16)]
end
section
theorem dX0_init_0 : decode cX0_init 0 = .ok (.aload_n 0, 1) := by decide +kernel
theorem dX0_init_1 : decode cX0_init 1 = .ok (.invokespecial 3, 3) := by decide +kernel
theorem dX0_init_4 : decode cX0_init 4 = .ok (.aload_n 0, 1) := by decide +kernel
theorem dX0_init_5 : decode cX0_init 5 = .ok (.bipush 10, 2) := by decide +kernel
theorem dX0_init_7 : decode cX0_init 7 = .ok (.anewarray 9, 3) := by decide +kernel
theorem dX0_init_10 : decode cX0_init 10 = .ok (.putfield 11, 3) := by decide +kernel
theorem dX0_init_13 : decode cX0_init 13 = .ok (.aload_n 0, 1) := by decide +kernel
theorem dX0_init_14 : decode cX0_init 14 = .ok (.bipush 6, 2) := by decide +kernel
theorem dX0_init_16 : decode cX0_init 16 = .ok (.newarray .int, 2) := by decide +kernel
theorem dX0_init_18 : decode cX0_init 18 = .ok (.putfield 17, 3) := by decide +kernel
theorem dX0_init_21 : decode cX0_init 21 = .ok (.aload_n 0, 1) := by decide +kernel
theorem dX0_init_22 : decode cX0_init 22 = .ok (.bipush 6, 2) := by decide +kernel
theorem dX0_init_24 : decode cX0_init 24 = .ok (.newarray .int, 2) := by decide +kernel
theorem dX0_init_26 : decode cX0_init 26 = .ok (.putfield 21, 3) := by decide +kernel
theorem dX0_init_29 : decode cX0_init 29 = .ok (.aload_n 0, 1) := by decide +kernel
theorem dX0_init_30 : decode cX0_init 30 = .ok (.bipush 60, 2) := by decide +kernel
theorem dX0_init_32 : decode cX0_init 32 = .ok (.putfield 24, 3) := by decide +kernel
theorem dX0_init_35 : decode cX0_init 35 = .ok (.aload_n 0, 1) := by decide +kernel
theorem dX0_init_36 : decode cX0_init 36 = .ok (.iconst 3, 1) := by decide +kernel
theorem dX0_init_37 : decode cX0_init 37 = .ok (.newarray .int, 2) := by decide +kernel
theorem dX0_init_39 : decode cX0_init 39 = .ok (.putfield 28, 3) := by decide +kernel
theorem dX0_init_42 : decode cX0_init 42 = .ok (.return_, 1) := by decide +kernel
theorem dX0_find_0 : decode cX0_find 0 = .ok (.iload_n 1, 1) := by decide +kernel
theorem dX0_find_1 : decode cX0_find 1 = .ok (.ifCond .lt 26, 3) := by decide +kernel
theorem dX0_find_4 : decode cX0_find 4 = .ok (.iload_n 1, 1) := by decide +kernel
theorem dX0_find_5 : decode cX0_find 5 = .ok (.aload_n 0, 1) := by decide +kernel
theorem dX0_find_6 : decode cX0_find 6 = .ok (.getfield 31, 3) := by decide +kernel
theorem dX0_find_9 : decode cX0_find 9 = .ok (.if_icmp .ge 18, 3) := by decide +kernel
theorem dX0_find_12 : decode cX0_find 12 = .ok (.iload_n 1, 1) := by decide +kernel
theorem dX0_find_13 : decode cX0_find 13 = .ok (.bipush 10, 2) := by decide +kernel
theorem dX0_find_15 : decode cX0_find 15 = .ok (.if_icmp .ge 12, 3) := by decide +kernel
theorem dX0_find_18 : decode cX0_find 18 = .ok (.aload_n 0, 1) := by decide +kernel
theorem dX0_find_19 : decode cX0_find 19 = .ok (.getfield 11, 3) := by decide +kernel
theorem dX0_find_22 : decode cX0_find 22 = .ok (.iload_n 1, 1) := by decide +kernel
theorem dX0_find_23 : decode cX0_find 23 = .ok (.aaload, 1) := by decide +kernel
theorem dX0_find_24 : decode cX0_find 24 = .ok (.goto 4, 3) := by decide +kernel
theorem dX0_find_27 : decode cX0_find 27 = .ok (.aconst_null, 1) := by decide +kernel
theorem dX0_find_28 : decode cX0_find 28 = .ok (.areturn, 1) := by decide +kernel
theorem dX0_grow_0 : decode cX0_grow 0 = .ok (.aload_n 0, 1) := by decide +kernel
theorem dX0_grow_1 : decode cX0_grow 1 = .ok (.getfield 31, 3) := by decide +kernel
theorem dX0_grow_4 : decode cX0_grow 4 = .ok (.ifCond .lt 12, 3) := by decide +kernel
theorem dX0_grow_7 : decode cX0_grow 7 = .ok (.aload_n 0, 1) := by decide +kernel
theorem dX0_grow_8 : decode cX0_grow 8 = .ok (.getfield 31, 3) := by decide +kernel
theorem dX0_grow_11 : decode cX0_grow 11 = .ok (.bipush 10, 2) := by decide +kernel
theorem dX0_grow_13 : decode cX0_grow 13 = .ok (.if_icmp .lt 5, 3) := by decide +kernel
theorem dX0_grow_16 : decode cX0_grow 16 = .ok (.aconst_null, 1) := by decide +kernel
theorem dX0_grow_17 : decode cX0_grow 17 = .ok (.areturn, 1) := by decide +kernel
theorem dX0_grow_18 : decode cX0_grow 18 = .ok (.aload_n 0, 1) := by decide +kernel
theorem dX0_grow_19 : decode cX0_grow 19 = .ok (.getfield 11, 3) := by decide +kernel
theorem dX0_grow_22 : decode cX0_grow 22 = .ok (.aload_n 0, 1) := by decide +kernel
theorem dX0_grow_23 : decode cX0_grow 23 = .ok (.getfield 31, 3) := by decide +kernel
theorem dX0_grow_26 : decode cX0_grow 26 = .ok (.aaload, 1) := by decide +kernel
theorem dX0_grow_27 : decode cX0_grow 27 = .ok (.astore_n 1, 1) := by decide +kernel
theorem dX0_grow_28 : decode cX0_grow 28 = .ok (.aload_n 1, 1) := by decide +kernel
theorem dX0_grow_29 : decode cX0_grow 29 = .ok (.ifnonnull 21, 3) := by decide +kernel
theorem dX0_grow_32 : decode cX0_grow 32 = .ok (.new 9, 3) := by decide +kernel
theorem dX0_grow_35 : decode cX0_grow 35 = .ok (.dup, 1) := by decide +kernel
theorem dX0_grow_36 : decode cX0_grow 36 = .ok (.invokespecial 34, 3) := by decide +kernel
theorem dX0_grow_39 : decode cX0_grow 39 = .ok (.astore_n 1, 1) := by decide +kernel
theorem dX0_grow_40 : decode cX0_grow 40 = .ok (.aload_n 0, 1) := by decide +kernel
theorem dX0_grow_41 : decode cX0_grow 41 = .ok (.getfield 11, 3) := by decide +kernel
theorem dX0_grow_44 : decode cX0_grow 44 = .ok (.aload_n 0, 1) := by decide +kernel
theorem dX0_grow_45 : decode cX0_grow 45 = .ok (.getfield 31, 3) := by decide +kernel
theorem dX0_grow_48 : decode cX0_grow 48 = .ok (.aload_n 1, 1) := by decide +kernel
theorem dX0_grow_49 : decode cX0_grow 49 = .ok (.aastore, 1) := by decide +kernel
theorem dX0_grow_50 : decode cX0_grow 50 = .ok (.aload_n 0, 1) := by decide +kernel
theorem dX0_grow_51 : decode cX0_grow 51 = .ok (.dup, 1) := by decide +kernel
theorem dX0_grow_52 : decode cX0_grow 52 = .ok (.getfield 31, 3) := by decide +kernel
theorem dX0_grow_55 : decode cX0_grow 55 = .ok (.iconst 1, 1) := by decide +kernel
theorem dX0_grow_56 : decode cX0_grow 56 = .ok (.iadd, 1) := by decide +kernel
theorem dX0_grow_57 : decode cX0_grow 57 = .ok (.putfield 31, 3) := by decide +kernel
theorem dX0_grow_60 : decode cX0_grow 60 = .ok (.aload_n 1, 1) := by decide +kernel
theorem dX0_grow_61 : decode cX0_grow 61 = .ok (.areturn, 1) := by decide +kernel
theorem dX0_removeLight_0 : decode cX0_removeLight 0 = .ok (.aload_n 0, 1) := by decide +kernel
theorem dX0_removeLight_1 : decode cX0_removeLight 1 = .ok (.iload_n 1, 1) := by decide +kernel
theorem dX0_removeLight_2 : decode cX0_removeLight 2 = .ok (.invokevirtual 35, 3) := by decide +kernel
theorem dX0_removeLight_5 : decode cX0_removeLight 5 = .ok (.astore_n 2, 1) := by decide +kernel
theorem dX0_removeLight_6 : decode cX0_removeLight 6 = .ok (.aload_n 2, 1) := by decide +kernel
theorem dX0_removeLight_7 : decode cX0_removeLight 7 = .ok (.ifnonnull 4, 3) := by decide +kernel
theorem dX0_removeLight_10 : decode cX0_removeLight 10 = .ok (.return_, 1) := by decide +kernel
theorem dX0_removeLight_11 : decode cX0_removeLight 11 = .ok (.iload_n 1, 1) := by decide +kernel
theorem dX0_removeLight_12 : decode cX0_removeLight 12 = .ok (.istore_n 3, 1) := by decide +kernel
theorem dX0_removeLight_13 : decode cX0_removeLight 13 = .ok (.iload_n 1, 1) := by decide +kernel
theorem dX0_removeLight_14 : decode cX0_removeLight 14 = .ok (.iconst 1, 1) := by decide +kernel
theorem dX0_removeLight_15 : decode cX0_removeLight 15 = .ok (.iadd, 1) := by decide +kernel
theorem dX0_removeLight_16 : decode cX0_removeLight 16 = .ok (.istore 4, 2) := by decide +kernel
theorem dX0_removeLight_18 : decode cX0_removeLight 18 = .ok (.iload 4, 2) := by decide +kernel
theorem dX0_removeLight_20 : decode cX0_removeLight 20 = .ok (.aload_n 0, 1) := by decide +kernel
theorem dX0_removeLight_21 : decode cX0_removeLight 21 = .ok (.getfield 31, 3) := by decide +kernel
theorem dX0_removeLight_24 : decode cX0_removeLight 24 = .ok (.if_icmp .ge 35, 3) := by decide +kernel
theorem dX0_removeLight_27 : decode cX0_removeLight 27 = .ok (.iload 4, 2) := by decide +kernel
theorem dX0_removeLight_29 : decode cX0_removeLight 29 = .ok (.bipush 10, 2) := by decide +kernel
theorem dX0_removeLight_31 : decode cX0_removeLight 31 = .ok (.if_icmp .ge 28, 3) := by decide +kernel
theorem dX0_removeLight_34 : decode cX0_removeLight 34 = .ok (.aload_n 0, 1) := by decide +kernel
theorem dX0_removeLight_35 : decode cX0_removeLight 35 = .ok (.getfield 11, 3) := by decide +kernel
theorem dX0_removeLight_38 : decode cX0_removeLight 38 = .ok (.iload 4, 2) := by decide +kernel
theorem dX0_removeLight_40 : decode cX0_removeLight 40 = .ok (.iconst 1, 1) := by decide +kernel
theorem dX0_removeLight_41 : decode cX0_removeLight 41 = .ok (.isub, 1) := by decide +kernel
theorem dX0_removeLight_42 : decode cX0_removeLight 42 = .ok (.aload_n 0, 1) := by decide +kernel
theorem dX0_removeLight_43 : decode cX0_removeLight 43 = .ok (.getfield 11, 3) := by decide +kernel
theorem dX0_removeLight_46 : decode cX0_removeLight 46 = .ok (.iload 4, 2) := by decide +kernel
theorem dX0_removeLight_48 : decode cX0_removeLight 48 = .ok (.aaload, 1) := by decide +kernel
theorem dX0_removeLight_49 : decode cX0_removeLight 49 = .ok (.aastore, 1) := by decide +kernel
theorem dX0_removeLight_50 : decode cX0_removeLight 50 = .ok (.iload 4, 2) := by decide +kernel
theorem dX0_removeLight_52 : decode cX0_removeLight 52 = .ok (.istore_n 3, 1) := by decide +kernel
theorem dX0_removeLight_53 : decode cX0_removeLight 53 = .ok (.iinc 4 1, 3) := by decide +kernel
theorem dX0_removeLight_56 : decode cX0_removeLight 56 = .ok (.goto (-38), 3) := by decide +kernel
theorem dX0_removeLight_59 : decode cX0_removeLight 59 = .ok (.aload_n 0, 1) := by decide +kernel
theorem dX0_removeLight_60 : decode cX0_removeLight 60 = .ok (.getfield 11, 3) := by decide +kernel
theorem dX0_removeLight_63 : decode cX0_removeLight 63 = .ok (.iload_n 3, 1) := by decide +kernel
theorem dX0_removeLight_64 : decode cX0_removeLight 64 = .ok (.aload_n 2, 1) := by decide +kernel
theorem dX0_removeLight_65 : decode cX0_removeLight 65 = .ok (.aastore, 1) := by decide +kernel
theorem dX0_removeLight_66 : decode cX0_removeLight 66 = .ok (.aload_n 0, 1) := by decide +kernel
theorem dX0_removeLight_67 : decode cX0_removeLight 67 = .ok (.dup, 1) := by decide +kernel
theorem dX0_removeLight_68 : decode cX0_removeLight 68 = .ok (.getfield 31, 3) := by decide +kernel
theorem dX0_removeLight_71 : decode cX0_removeLight 71 = .ok (.iconst 1, 1) := by decide +kernel
theorem dX0_removeLight_72 : decode cX0_removeLight 72 = .ok (.isub, 1) := by decide +kernel
theorem dX0_removeLight_73 : decode cX0_removeLight 73 = .ok (.putfield 31, 3) := by decide +kernel
theorem dX0_removeLight_76 : decode cX0_removeLight 76 = .ok (.return_, 1) := by decide +kernel
theorem dX0_hasRoute_0 : decode cX0_hasRoute 0 = .ok (.iload_n 1, 1) := by decide +kernel
theorem dX0_hasRoute_1 : decode cX0_hasRoute 1 = .ok (.ifCond .lt 21, 3) := by decide +kernel
theorem dX0_hasRoute_4 : decode cX0_hasRoute 4 = .ok (.iload_n 1, 1) := by decide +kernel
theorem dX0_hasRoute_5 : decode cX0_hasRoute 5 = .ok (.aload_n 0, 1) := by decide +kernel
theorem dX0_hasRoute_6 : decode cX0_hasRoute 6 = .ok (.getfield 39, 3) := by decide +kernel
theorem dX0_hasRoute_9 : decode cX0_hasRoute 9 = .ok (.if_icmp .ge 13, 3) := by decide +kernel
theorem dX0_hasRoute_12 : decode cX0_hasRoute 12 = .ok (.iload_n 1, 1) := by decide +kernel
theorem dX0_hasRoute_13 : decode cX0_hasRoute 13 = .ok (.bipush 6, 2) := by decide +kernel
theorem dX0_hasRoute_15 : decode cX0_hasRoute 15 = .ok (.if_icmp .ge 7, 3) := by decide +kernel
theorem dX0_hasRoute_18 : decode cX0_hasRoute 18 = .ok (.iconst 1, 1) := by decide +kernel
theorem dX0_hasRoute_19 : decode cX0_hasRoute 19 = .ok (.goto 4, 3) := by decide +kernel
theorem dX0_hasRoute_22 : decode cX0_hasRoute 22 = .ok (.iconst 0, 1) := by decide +kernel
theorem dX0_hasRoute_23 : decode cX0_hasRoute 23 = .ok (.ireturn, 1) := by decide +kernel
theorem dX0_firstPlace_0 : decode cX0_firstPlace 0 = .ok (.aload_n 0, 1) := by decide +kernel
theorem dX0_firstPlace_1 : decode cX0_firstPlace 1 = .ok (.iload_n 1, 1) := by decide +kernel
theorem dX0_firstPlace_2 : decode cX0_firstPlace 2 = .ok (.invokevirtual 42, 3) := by decide +kernel
theorem dX0_firstPlace_5 : decode cX0_firstPlace 5 = .ok (.ifCond .eq 12, 3) := by decide +kernel
theorem dX0_firstPlace_8 : decode cX0_firstPlace 8 = .ok (.aload_n 0, 1) := by decide +kernel
theorem dX0_firstPlace_9 : decode cX0_firstPlace 9 = .ok (.getfield 17, 3) := by decide +kernel
theorem dX0_firstPlace_12 : decode cX0_firstPlace 12 = .ok (.iload_n 1, 1) := by decide +kernel
theorem dX0_firstPlace_13 : decode cX0_firstPlace 13 = .ok (.iaload, 1) := by decide +kernel
theorem dX0_firstPlace_14 : decode cX0_firstPlace 14 = .ok (.goto 4, 3) := by decide +kernel
theorem dX0_firstPlace_17 : decode cX0_firstPlace 17 = .ok (.iconst 0, 1) := by decide +kernel
theorem dX0_firstPlace_18 : decode cX0_firstPlace 18 = .ok (.ireturn, 1) := by decide +kernel
theorem dX0_lastPlace_0 : decode cX0_lastPlace 0 = .ok (.aload_n 0, 1) := by decide +kernel
theorem dX0_lastPlace_1 : decode cX0_lastPlace 1 = .ok (.iload_n 1, 1) := by decide +kernel
theorem dX0_lastPlace_2 : decode cX0_lastPlace 2 = .ok (.invokevirtual 42, 3) := by decide +kernel
theorem dX0_lastPlace_5 : decode cX0_lastPlace 5 = .ok (.ifCond .eq 12, 3) := by decide +kernel
theorem dX0_lastPlace_8 : decode cX0_lastPlace 8 = .ok (.aload_n 0, 1) := by decide +kernel
theorem dX0_lastPlace_9 : decode cX0_lastPlace 9 = .ok (.getfield 21, 3) := by decide +kernel
theorem dX0_lastPlace_12 : decode cX0_lastPlace 12 = .ok (.iload_n 1, 1) := by decide +kernel
theorem dX0_lastPlace_13 : decode cX0_lastPlace 13 = .ok (.iaload, 1) := by decide +kernel
theorem dX0_lastPlace_14 : decode cX0_lastPlace 14 = .ok (.goto 4, 3) := by decide +kernel
theorem dX0_lastPlace_17 : decode cX0_lastPlace 17 = .ok (.iconst 0, 1) := by decide +kernel
theorem dX0_lastPlace_18 : decode cX0_lastPlace 18 = .ok (.ireturn, 1) := by decide +kernel
theorem dX0_appendRoute_0 : decode cX0_appendRoute 0 = .ok (.aload_n 0, 1) := by decide +kernel
theorem dX0_appendRoute_1 : decode cX0_appendRoute 1 = .ok (.getfield 39, 3) := by decide +kernel
theorem dX0_appendRoute_4 : decode cX0_appendRoute 4 = .ok (.ifCond .lt 42, 3) := by decide +kernel
theorem dX0_appendRoute_7 : decode cX0_appendRoute 7 = .ok (.aload_n 0, 1) := by decide +kernel
theorem dX0_appendRoute_8 : decode cX0_appendRoute 8 = .ok (.getfield 39, 3) := by decide +kernel
theorem dX0_appendRoute_11 : decode cX0_appendRoute 11 = .ok (.bipush 6, 2) := by decide +kernel
theorem dX0_appendRoute_13 : decode cX0_appendRoute 13 = .ok (.if_icmp .ge 33, 3) := by decide +kernel
theorem dX0_appendRoute_16 : decode cX0_appendRoute 16 = .ok (.aload_n 0, 1) := by decide +kernel
theorem dX0_appendRoute_17 : decode cX0_appendRoute 17 = .ok (.getfield 17, 3) := by decide +kernel
theorem dX0_appendRoute_20 : decode cX0_appendRoute 20 = .ok (.aload_n 0, 1) := by decide +kernel
theorem dX0_appendRoute_21 : decode cX0_appendRoute 21 = .ok (.getfield 39, 3) := by decide +kernel
theorem dX0_appendRoute_24 : decode cX0_appendRoute 24 = .ok (.iload_n 1, 1) := by decide +kernel
theorem dX0_appendRoute_25 : decode cX0_appendRoute 25 = .ok (.iastore, 1) := by decide +kernel
theorem dX0_appendRoute_26 : decode cX0_appendRoute 26 = .ok (.aload_n 0, 1) := by decide +kernel
theorem dX0_appendRoute_27 : decode cX0_appendRoute 27 = .ok (.getfield 21, 3) := by decide +kernel
theorem dX0_appendRoute_30 : decode cX0_appendRoute 30 = .ok (.aload_n 0, 1) := by decide +kernel
theorem dX0_appendRoute_31 : decode cX0_appendRoute 31 = .ok (.getfield 39, 3) := by decide +kernel
theorem dX0_appendRoute_34 : decode cX0_appendRoute 34 = .ok (.iload_n 2, 1) := by decide +kernel
theorem dX0_appendRoute_35 : decode cX0_appendRoute 35 = .ok (.iastore, 1) := by decide +kernel
theorem dX0_appendRoute_36 : decode cX0_appendRoute 36 = .ok (.aload_n 0, 1) := by decide +kernel
theorem dX0_appendRoute_37 : decode cX0_appendRoute 37 = .ok (.dup, 1) := by decide +kernel
theorem dX0_appendRoute_38 : decode cX0_appendRoute 38 = .ok (.getfield 39, 3) := by decide +kernel
theorem dX0_appendRoute_41 : decode cX0_appendRoute 41 = .ok (.iconst 1, 1) := by decide +kernel
theorem dX0_appendRoute_42 : decode cX0_appendRoute 42 = .ok (.iadd, 1) := by decide +kernel
theorem dX0_appendRoute_43 : decode cX0_appendRoute 43 = .ok (.putfield 39, 3) := by decide +kernel
theorem dX0_appendRoute_46 : decode cX0_appendRoute 46 = .ok (.return_, 1) := by decide +kernel
theorem dX0_removeRoute_0 : decode cX0_removeRoute 0 = .ok (.aload_n 0, 1) := by decide +kernel
theorem dX0_removeRoute_1 : decode cX0_removeRoute 1 = .ok (.iload_n 1, 1) := by decide +kernel
theorem dX0_removeRoute_2 : decode cX0_removeRoute 2 = .ok (.invokevirtual 42, 3) := by decide +kernel
theorem dX0_removeRoute_5 : decode cX0_removeRoute 5 = .ok (.ifCond .ne 4, 3) := by decide +kernel
theorem dX0_removeRoute_8 : decode cX0_removeRoute 8 = .ok (.return_, 1) := by decide +kernel
theorem dX0_removeRoute_9 : decode cX0_removeRoute 9 = .ok (.iload_n 1, 1) := by decide +kernel
theorem dX0_removeRoute_10 : decode cX0_removeRoute 10 = .ok (.iconst 1, 1) := by decide +kernel
theorem dX0_removeRoute_11 : decode cX0_removeRoute 11 = .ok (.iadd, 1) := by decide +kernel
theorem dX0_removeRoute_12 : decode cX0_removeRoute 12 = .ok (.istore_n 2, 1) := by decide +kernel
theorem dX0_removeRoute_13 : decode cX0_removeRoute 13 = .ok (.iload_n 2, 1) := by decide +kernel
theorem dX0_removeRoute_14 : decode cX0_removeRoute 14 = .ok (.aload_n 0, 1) := by decide +kernel
theorem dX0_removeRoute_15 : decode cX0_removeRoute 15 = .ok (.getfield 39, 3) := by decide +kernel
theorem dX0_removeRoute_18 : decode cX0_removeRoute 18 = .ok (.if_icmp .ge 43, 3) := by decide +kernel
theorem dX0_removeRoute_21 : decode cX0_removeRoute 21 = .ok (.iload_n 2, 1) := by decide +kernel
theorem dX0_removeRoute_22 : decode cX0_removeRoute 22 = .ok (.bipush 6, 2) := by decide +kernel
theorem dX0_removeRoute_24 : decode cX0_removeRoute 24 = .ok (.if_icmp .ge 37, 3) := by decide +kernel
theorem dX0_removeRoute_27 : decode cX0_removeRoute 27 = .ok (.aload_n 0, 1) := by decide +kernel
theorem dX0_removeRoute_28 : decode cX0_removeRoute 28 = .ok (.getfield 17, 3) := by decide +kernel
theorem dX0_removeRoute_31 : decode cX0_removeRoute 31 = .ok (.iload_n 2, 1) := by decide +kernel
theorem dX0_removeRoute_32 : decode cX0_removeRoute 32 = .ok (.iconst 1, 1) := by decide +kernel
theorem dX0_removeRoute_33 : decode cX0_removeRoute 33 = .ok (.isub, 1) := by decide +kernel
theorem dX0_removeRoute_34 : decode cX0_removeRoute 34 = .ok (.aload_n 0, 1) := by decide +kernel
theorem dX0_removeRoute_35 : decode cX0_removeRoute 35 = .ok (.getfield 17, 3) := by decide +kernel
theorem dX0_removeRoute_38 : decode cX0_removeRoute 38 = .ok (.iload_n 2, 1) := by decide +kernel
theorem dX0_removeRoute_39 : decode cX0_removeRoute 39 = .ok (.iaload, 1) := by decide +kernel
theorem dX0_removeRoute_40 : decode cX0_removeRoute 40 = .ok (.iastore, 1) := by decide +kernel
theorem dX0_removeRoute_41 : decode cX0_removeRoute 41 = .ok (.aload_n 0, 1) := by decide +kernel
theorem dX0_removeRoute_42 : decode cX0_removeRoute 42 = .ok (.getfield 21, 3) := by decide +kernel
theorem dX0_removeRoute_45 : decode cX0_removeRoute 45 = .ok (.iload_n 2, 1) := by decide +kernel
theorem dX0_removeRoute_46 : decode cX0_removeRoute 46 = .ok (.iconst 1, 1) := by decide +kernel
theorem dX0_removeRoute_47 : decode cX0_removeRoute 47 = .ok (.isub, 1) := by decide +kernel
theorem dX0_removeRoute_48 : decode cX0_removeRoute 48 = .ok (.aload_n 0, 1) := by decide +kernel
theorem dX0_removeRoute_49 : decode cX0_removeRoute 49 = .ok (.getfield 21, 3) := by decide +kernel
theorem dX0_removeRoute_52 : decode cX0_removeRoute 52 = .ok (.iload_n 2, 1) := by decide +kernel
theorem dX0_removeRoute_53 : decode cX0_removeRoute 53 = .ok (.iaload, 1) := by decide +kernel
theorem dX0_removeRoute_54 : decode cX0_removeRoute 54 = .ok (.iastore, 1) := by decide +kernel
theorem dX0_removeRoute_55 : decode cX0_removeRoute 55 = .ok (.iinc 2 1, 3) := by decide +kernel
theorem dX0_removeRoute_58 : decode cX0_removeRoute 58 = .ok (.goto (-45), 3) := by decide +kernel
theorem dX0_removeRoute_61 : decode cX0_removeRoute 61 = .ok (.aload_n 0, 1) := by decide +kernel
theorem dX0_removeRoute_62 : decode cX0_removeRoute 62 = .ok (.dup, 1) := by decide +kernel
theorem dX0_removeRoute_63 : decode cX0_removeRoute 63 = .ok (.getfield 39, 3) := by decide +kernel
theorem dX0_removeRoute_66 : decode cX0_removeRoute 66 = .ok (.iconst 1, 1) := by decide +kernel
theorem dX0_removeRoute_67 : decode cX0_removeRoute 67 = .ok (.isub, 1) := by decide +kernel
theorem dX0_removeRoute_68 : decode cX0_removeRoute 68 = .ok (.putfield 39, 3) := by decide +kernel
theorem dX0_removeRoute_71 : decode cX0_removeRoute 71 = .ok (.return_, 1) := by decide +kernel
theorem dX0_copyFrom_0 : decode cX0_copyFrom 0 = .ok (.aload_n 0, 1) := by decide +kernel
theorem dX0_copyFrom_1 : decode cX0_copyFrom 1 = .ok (.aload_n 1, 1) := by decide +kernel
theorem dX0_copyFrom_2 : decode cX0_copyFrom 2 = .ok (.invokevirtual 46, 3) := by decide +kernel
theorem dX0_copyFrom_5 : decode cX0_copyFrom 5 = .ok (.aload_n 0, 1) := by decide +kernel
theorem dX0_copyFrom_6 : decode cX0_copyFrom 6 = .ok (.aload_n 1, 1) := by decide +kernel
theorem dX0_copyFrom_7 : decode cX0_copyFrom 7 = .ok (.getfield 24, 3) := by decide +kernel
theorem dX0_copyFrom_10 : decode cX0_copyFrom 10 = .ok (.putfield 24, 3) := by decide +kernel
theorem dX0_copyFrom_13 : decode cX0_copyFrom 13 = .ok (.aload_n 0, 1) := by decide +kernel
theorem dX0_copyFrom_14 : decode cX0_copyFrom 14 = .ok (.aload_n 1, 1) := by decide +kernel
theorem dX0_copyFrom_15 : decode cX0_copyFrom 15 = .ok (.getfield 50, 3) := by decide +kernel
theorem dX0_copyFrom_18 : decode cX0_copyFrom 18 = .ok (.putfield 50, 3) := by decide +kernel
theorem dX0_copyFrom_21 : decode cX0_copyFrom 21 = .ok (.aload_n 0, 1) := by decide +kernel
theorem dX0_copyFrom_22 : decode cX0_copyFrom 22 = .ok (.aload_n 1, 1) := by decide +kernel
theorem dX0_copyFrom_23 : decode cX0_copyFrom 23 = .ok (.getfield 53, 3) := by decide +kernel
theorem dX0_copyFrom_26 : decode cX0_copyFrom 26 = .ok (.putfield 53, 3) := by decide +kernel
theorem dX0_copyFrom_29 : decode cX0_copyFrom 29 = .ok (.aload_n 0, 1) := by decide +kernel
theorem dX0_copyFrom_30 : decode cX0_copyFrom 30 = .ok (.aload_n 1, 1) := by decide +kernel
theorem dX0_copyFrom_31 : decode cX0_copyFrom 31 = .ok (.getfield 56, 3) := by decide +kernel
theorem dX0_copyFrom_34 : decode cX0_copyFrom 34 = .ok (.putfield 56, 3) := by decide +kernel
theorem dX0_copyFrom_37 : decode cX0_copyFrom 37 = .ok (.iconst 0, 1) := by decide +kernel
theorem dX0_copyFrom_38 : decode cX0_copyFrom 38 = .ok (.istore_n 2, 1) := by decide +kernel
theorem dX0_copyFrom_39 : decode cX0_copyFrom 39 = .ok (.iload_n 2, 1) := by decide +kernel
theorem dX0_copyFrom_40 : decode cX0_copyFrom 40 = .ok (.iconst 2, 1) := by decide +kernel
theorem dX0_copyFrom_41 : decode cX0_copyFrom 41 = .ok (.if_icmp .gt 21, 3) := by decide +kernel
theorem dX0_copyFrom_44 : decode cX0_copyFrom 44 = .ok (.aload_n 0, 1) := by decide +kernel
theorem dX0_copyFrom_45 : decode cX0_copyFrom 45 = .ok (.getfield 28, 3) := by decide +kernel
theorem dX0_copyFrom_48 : decode cX0_copyFrom 48 = .ok (.iload_n 2, 1) := by decide +kernel
theorem dX0_copyFrom_49 : decode cX0_copyFrom 49 = .ok (.aload_n 1, 1) := by decide +kernel
theorem dX0_copyFrom_50 : decode cX0_copyFrom 50 = .ok (.getfield 28, 3) := by decide +kernel
theorem dX0_copyFrom_53 : decode cX0_copyFrom 53 = .ok (.iload_n 2, 1) := by decide +kernel
theorem dX0_copyFrom_54 : decode cX0_copyFrom 54 = .ok (.iaload, 1) := by decide +kernel
theorem dX0_copyFrom_55 : decode cX0_copyFrom 55 = .ok (.iastore, 1) := by decide +kernel
theorem dX0_copyFrom_56 : decode cX0_copyFrom 56 = .ok (.iinc 2 1, 3) := by decide +kernel
theorem dX0_copyFrom_59 : decode cX0_copyFrom 59 = .ok (.goto (-20), 3) := by decide +kernel
theorem dX0_copyFrom_62 : decode cX0_copyFrom 62 = .ok (.return_, 1) := by decide +kernel
theorem dX0_copyLayout_0 : decode cX0_copyLayout 0 = .ok (.aload_n 0, 1) := by decide +kernel
theorem dX0_copyLayout_1 : decode cX0_copyLayout 1 = .ok (.iconst 0, 1) := by decide +kernel
theorem dX0_copyLayout_2 : decode cX0_copyLayout 2 = .ok (.putfield 31, 3) := by decide +kernel
theorem dX0_copyLayout_5 : decode cX0_copyLayout 5 = .ok (.iconst 0, 1) := by decide +kernel
theorem dX0_copyLayout_6 : decode cX0_copyLayout 6 = .ok (.istore_n 2, 1) := by decide +kernel
theorem dX0_copyLayout_7 : decode cX0_copyLayout 7 = .ok (.iload_n 2, 1) := by decide +kernel
theorem dX0_copyLayout_8 : decode cX0_copyLayout 8 = .ok (.aload_n 1, 1) := by decide +kernel
theorem dX0_copyLayout_9 : decode cX0_copyLayout 9 = .ok (.getfield 31, 3) := by decide +kernel
theorem dX0_copyLayout_12 : decode cX0_copyLayout 12 = .ok (.if_icmp .ge 36, 3) := by decide +kernel
theorem dX0_copyLayout_15 : decode cX0_copyLayout 15 = .ok (.aload_n 1, 1) := by decide +kernel
theorem dX0_copyLayout_16 : decode cX0_copyLayout 16 = .ok (.iload_n 2, 1) := by decide +kernel
theorem dX0_copyLayout_17 : decode cX0_copyLayout 17 = .ok (.invokevirtual 35, 3) := by decide +kernel
theorem dX0_copyLayout_20 : decode cX0_copyLayout 20 = .ok (.astore_n 3, 1) := by decide +kernel
theorem dX0_copyLayout_21 : decode cX0_copyLayout 21 = .ok (.aload_n 0, 1) := by decide +kernel
theorem dX0_copyLayout_22 : decode cX0_copyLayout 22 = .ok (.invokevirtual 59, 3) := by decide +kernel
theorem dX0_copyLayout_25 : decode cX0_copyLayout 25 = .ok (.astore 4, 2) := by decide +kernel
theorem dX0_copyLayout_27 : decode cX0_copyLayout 27 = .ok (.aload_n 3, 1) := by decide +kernel
theorem dX0_copyLayout_28 : decode cX0_copyLayout 28 = .ok (.ifnull 14, 3) := by decide +kernel
theorem dX0_copyLayout_31 : decode cX0_copyLayout 31 = .ok (.aload 4, 2) := by decide +kernel
theorem dX0_copyLayout_33 : decode cX0_copyLayout 33 = .ok (.ifnull 9, 3) := by decide +kernel
theorem dX0_copyLayout_36 : decode cX0_copyLayout 36 = .ok (.aload 4, 2) := by decide +kernel
theorem dX0_copyLayout_38 : decode cX0_copyLayout 38 = .ok (.aload_n 3, 1) := by decide +kernel
theorem dX0_copyLayout_39 : decode cX0_copyLayout 39 = .ok (.invokevirtual 63, 3) := by decide +kernel
theorem dX0_copyLayout_42 : decode cX0_copyLayout 42 = .ok (.iinc 2 1, 3) := by decide +kernel
theorem dX0_copyLayout_45 : decode cX0_copyLayout 45 = .ok (.goto (-38), 3) := by decide +kernel
theorem dX0_copyLayout_48 : decode cX0_copyLayout 48 = .ok (.aload_n 0, 1) := by decide +kernel
theorem dX0_copyLayout_49 : decode cX0_copyLayout 49 = .ok (.iconst 0, 1) := by decide +kernel
theorem dX0_copyLayout_50 : decode cX0_copyLayout 50 = .ok (.putfield 39, 3) := by decide +kernel
theorem dX0_copyLayout_53 : decode cX0_copyLayout 53 = .ok (.iconst 0, 1) := by decide +kernel
theorem dX0_copyLayout_54 : decode cX0_copyLayout 54 = .ok (.istore_n 2, 1) := by decide +kernel
theorem dX0_copyLayout_55 : decode cX0_copyLayout 55 = .ok (.iload_n 2, 1) := by decide +kernel
theorem dX0_copyLayout_56 : decode cX0_copyLayout 56 = .ok (.aload_n 1, 1) := by decide +kernel
theorem dX0_copyLayout_57 : decode cX0_copyLayout 57 = .ok (.getfield 39, 3) := by decide +kernel
theorem dX0_copyLayout_60 : decode cX0_copyLayout 60 = .ok (.if_icmp .ge 23, 3) := by decide +kernel
theorem dX0_copyLayout_63 : decode cX0_copyLayout 63 = .ok (.aload_n 0, 1) := by decide +kernel
theorem dX0_copyLayout_64 : decode cX0_copyLayout 64 = .ok (.aload_n 1, 1) := by decide +kernel
theorem dX0_copyLayout_65 : decode cX0_copyLayout 65 = .ok (.iload_n 2, 1) := by decide +kernel
theorem dX0_copyLayout_66 : decode cX0_copyLayout 66 = .ok (.invokevirtual 67, 3) := by decide +kernel
theorem dX0_copyLayout_69 : decode cX0_copyLayout 69 = .ok (.aload_n 1, 1) := by decide +kernel
theorem dX0_copyLayout_70 : decode cX0_copyLayout 70 = .ok (.iload_n 2, 1) := by decide +kernel
theorem dX0_copyLayout_71 : decode cX0_copyLayout 71 = .ok (.invokevirtual 71, 3) := by decide +kernel
theorem dX0_copyLayout_74 : decode cX0_copyLayout 74 = .ok (.invokevirtual 74, 3) := by decide +kernel
theorem dX0_copyLayout_77 : decode cX0_copyLayout 77 = .ok (.iinc 2 1, 3) := by decide +kernel
theorem dX0_copyLayout_80 : decode cX0_copyLayout 80 = .ok (.goto (-25), 3) := by decide +kernel
theorem dX0_copyLayout_83 : decode cX0_copyLayout 83 = .ok (.return_, 1) := by decide +kernel
theorem dX0_stockOf_0 : decode cX0_stockOf 0 = .ok (.iload_n 1, 1) := by decide +kernel
theorem dX0_stockOf_1 : decode cX0_stockOf 1 = .ok (.invokestatic 78, 3) := by decide +kernel
theorem dX0_stockOf_4 : decode cX0_stockOf 4 = .ok (.ifCond .eq 12, 3) := by decide +kernel
theorem dX0_stockOf_7 : decode cX0_stockOf 7 = .ok (.aload_n 0, 1) := by decide +kernel
theorem dX0_stockOf_8 : decode cX0_stockOf 8 = .ok (.getfield 28, 3) := by decide +kernel
theorem dX0_stockOf_11 : decode cX0_stockOf 11 = .ok (.iload_n 1, 1) := by decide +kernel
theorem dX0_stockOf_12 : decode cX0_stockOf 12 = .ok (.iaload, 1) := by decide +kernel
theorem dX0_stockOf_13 : decode cX0_stockOf 13 = .ok (.goto 4, 3) := by decide +kernel
theorem dX0_stockOf_16 : decode cX0_stockOf 16 = .ok (.iconst 0, 1) := by decide +kernel
theorem dX0_stockOf_17 : decode cX0_stockOf 17 = .ok (.ireturn, 1) := by decide +kernel
theorem dX0_changeStock_0 : decode cX0_changeStock 0 = .ok (.iload_n 1, 1) := by decide +kernel
theorem dX0_changeStock_1 : decode cX0_changeStock 1 = .ok (.invokestatic 78, 3) := by decide +kernel
theorem dX0_changeStock_4 : decode cX0_changeStock 4 = .ok (.ifCond .eq 13, 3) := by decide +kernel
theorem dX0_changeStock_7 : decode cX0_changeStock 7 = .ok (.aload_n 0, 1) := by decide +kernel
theorem dX0_changeStock_8 : decode cX0_changeStock 8 = .ok (.getfield 28, 3) := by decide +kernel
theorem dX0_changeStock_11 : decode cX0_changeStock 11 = .ok (.iload_n 1, 1) := by decide +kernel
theorem dX0_changeStock_12 : decode cX0_changeStock 12 = .ok (.dup2, 1) := by decide +kernel
theorem dX0_changeStock_13 : decode cX0_changeStock 13 = .ok (.iaload, 1) := by decide +kernel
theorem dX0_changeStock_14 : decode cX0_changeStock 14 = .ok (.iload_n 2, 1) := by decide +kernel
theorem dX0_changeStock_15 : decode cX0_changeStock 15 = .ok (.iadd, 1) := by decide +kernel
theorem dX0_changeStock_16 : decode cX0_changeStock 16 = .ok (.iastore, 1) := by decide +kernel
theorem dX0_changeStock_17 : decode cX0_changeStock 17 = .ok (.return_, 1) := by decide +kernel
theorem dX0_holds_0 : decode cX0_holds 0 = .ok (.iload_n 1, 1) := by decide +kernel
theorem dX0_holds_1 : decode cX0_holds 1 = .ok (.ifCond .lt 17, 3) := by decide +kernel
theorem dX0_holds_4 : decode cX0_holds 4 = .ok (.iload_n 1, 1) := by decide +kernel
theorem dX0_holds_5 : decode cX0_holds 5 = .ok (.iconst 1, 1) := by decide +kernel
theorem dX0_holds_6 : decode cX0_holds 6 = .ok (.aload_n 0, 1) := by decide +kernel
theorem dX0_holds_7 : decode cX0_holds 7 = .ok (.getfield 31, 3) := by decide +kernel
theorem dX0_holds_10 : decode cX0_holds 10 = .ok (.ishl, 1) := by decide +kernel
theorem dX0_holds_11 : decode cX0_holds 11 = .ok (.if_icmp .ge 7, 3) := by decide +kernel
theorem dX0_holds_14 : decode cX0_holds 14 = .ok (.iconst 1, 1) := by decide +kernel
theorem dX0_holds_15 : decode cX0_holds 15 = .ok (.goto 4, 3) := by decide +kernel
theorem dX0_holds_18 : decode cX0_holds 18 = .ok (.iconst 0, 1) := by decide +kernel
theorem dX0_holds_19 : decode cX0_holds 19 = .ok (.ireturn, 1) := by decide +kernel
theorem dX0_withoutCircuit_0 : decode cX0_withoutCircuit 0 = .ok (.iconst 0, 1) := by decide +kernel
theorem dX0_withoutCircuit_1 : decode cX0_withoutCircuit 1 = .ok (.istore_n 2, 1) := by decide +kernel
theorem dX0_withoutCircuit_2 : decode cX0_withoutCircuit 2 = .ok (.iconst 0, 1) := by decide +kernel
theorem dX0_withoutCircuit_3 : decode cX0_withoutCircuit 3 = .ok (.istore_n 3, 1) := by decide +kernel
theorem dX0_withoutCircuit_4 : decode cX0_withoutCircuit 4 = .ok (.iload_n 3, 1) := by decide +kernel
theorem dX0_withoutCircuit_5 : decode cX0_withoutCircuit 5 = .ok (.aload_n 0, 1) := by decide +kernel
theorem dX0_withoutCircuit_6 : decode cX0_withoutCircuit 6 = .ok (.getfield 31, 3) := by decide +kernel
theorem dX0_withoutCircuit_9 : decode cX0_withoutCircuit 9 = .ok (.if_icmp .ge 36, 3) := by decide +kernel
theorem dX0_withoutCircuit_12 : decode cX0_withoutCircuit 12 = .ok (.aload_n 0, 1) := by decide +kernel
theorem dX0_withoutCircuit_13 : decode cX0_withoutCircuit 13 = .ok (.iload_n 3, 1) := by decide +kernel
theorem dX0_withoutCircuit_14 : decode cX0_withoutCircuit 14 = .ok (.invokevirtual 35, 3) := by decide +kernel
theorem dX0_withoutCircuit_17 : decode cX0_withoutCircuit 17 = .ok (.astore 4, 2) := by decide +kernel
theorem dX0_withoutCircuit_19 : decode cX0_withoutCircuit 19 = .ok (.aload 4, 2) := by decide +kernel
theorem dX0_withoutCircuit_21 : decode cX0_withoutCircuit 21 = .ok (.ifnull 18, 3) := by decide +kernel
theorem dX0_withoutCircuit_24 : decode cX0_withoutCircuit 24 = .ok (.aload 4, 2) := by decide +kernel
theorem dX0_withoutCircuit_26 : decode cX0_withoutCircuit 26 = .ok (.getfield 81, 3) := by decide +kernel
theorem dX0_withoutCircuit_29 : decode cX0_withoutCircuit 29 = .ok (.iload_n 1, 1) := by decide +kernel
theorem dX0_withoutCircuit_30 : decode cX0_withoutCircuit 30 = .ok (.if_icmp .eq 9, 3) := by decide +kernel
theorem dX0_withoutCircuit_33 : decode cX0_withoutCircuit 33 = .ok (.iload_n 2, 1) := by decide +kernel
theorem dX0_withoutCircuit_34 : decode cX0_withoutCircuit 34 = .ok (.iconst 1, 1) := by decide +kernel
theorem dX0_withoutCircuit_35 : decode cX0_withoutCircuit 35 = .ok (.iload_n 3, 1) := by decide +kernel
theorem dX0_withoutCircuit_36 : decode cX0_withoutCircuit 36 = .ok (.ishl, 1) := by decide +kernel
theorem dX0_withoutCircuit_37 : decode cX0_withoutCircuit 37 = .ok (.ior, 1) := by decide +kernel
theorem dX0_withoutCircuit_38 : decode cX0_withoutCircuit 38 = .ok (.istore_n 2, 1) := by decide +kernel
theorem dX0_withoutCircuit_39 : decode cX0_withoutCircuit 39 = .ok (.iinc 3 1, 3) := by decide +kernel
theorem dX0_withoutCircuit_42 : decode cX0_withoutCircuit 42 = .ok (.goto (-38), 3) := by decide +kernel
theorem dX0_withoutCircuit_45 : decode cX0_withoutCircuit 45 = .ok (.iload_n 2, 1) := by decide +kernel
theorem dX0_withoutCircuit_46 : decode cX0_withoutCircuit 46 = .ok (.ireturn, 1) := by decide +kernel
theorem dX0_countReady_0 : decode cX0_countReady 0 = .ok (.iconst 0, 1) := by decide +kernel
theorem dX0_countReady_1 : decode cX0_countReady 1 = .ok (.istore_n 1, 1) := by decide +kernel
theorem dX0_countReady_2 : decode cX0_countReady 2 = .ok (.iconst 0, 1) := by decide +kernel
theorem dX0_countReady_3 : decode cX0_countReady 3 = .ok (.istore_n 2, 1) := by decide +kernel
theorem dX0_countReady_4 : decode cX0_countReady 4 = .ok (.iload_n 2, 1) := by decide +kernel
theorem dX0_countReady_5 : decode cX0_countReady 5 = .ok (.aload_n 0, 1) := by decide +kernel
theorem dX0_countReady_6 : decode cX0_countReady 6 = .ok (.getfield 31, 3) := by decide +kernel
theorem dX0_countReady_9 : decode cX0_countReady 9 = .ok (.if_icmp .ge 33, 3) := by decide +kernel
theorem dX0_countReady_12 : decode cX0_countReady 12 = .ok (.aload_n 0, 1) := by decide +kernel
theorem dX0_countReady_13 : decode cX0_countReady 13 = .ok (.iload_n 2, 1) := by decide +kernel
theorem dX0_countReady_14 : decode cX0_countReady 14 = .ok (.invokevirtual 35, 3) := by decide +kernel
theorem dX0_countReady_17 : decode cX0_countReady 17 = .ok (.astore_n 3, 1) := by decide +kernel
theorem dX0_countReady_18 : decode cX0_countReady 18 = .ok (.aload_n 3, 1) := by decide +kernel
theorem dX0_countReady_19 : decode cX0_countReady 19 = .ok (.ifnull 17, 3) := by decide +kernel
theorem dX0_countReady_22 : decode cX0_countReady 22 = .ok (.aload_n 3, 1) := by decide +kernel
theorem dX0_countReady_23 : decode cX0_countReady 23 = .ok (.aload_n 0, 1) := by decide +kernel
theorem dX0_countReady_24 : decode cX0_countReady 24 = .ok (.getfield 24, 3) := by decide +kernel
theorem dX0_countReady_27 : decode cX0_countReady 27 = .ok (.invokevirtual 84, 3) := by decide +kernel
theorem dX0_countReady_30 : decode cX0_countReady 30 = .ok (.ifCond .eq 6, 3) := by decide +kernel
theorem dX0_countReady_33 : decode cX0_countReady 33 = .ok (.iinc 1 1, 3) := by decide +kernel
theorem dX0_countReady_36 : decode cX0_countReady 36 = .ok (.iinc 2 1, 3) := by decide +kernel
theorem dX0_countReady_39 : decode cX0_countReady 39 = .ok (.goto (-35), 3) := by decide +kernel
theorem dX0_countReady_42 : decode cX0_countReady 42 = .ok (.iload_n 1, 1) := by decide +kernel
theorem dX0_countReady_43 : decode cX0_countReady 43 = .ok (.ireturn, 1) := by decide +kernel
theorem dX0_countBurntOut_0 : decode cX0_countBurntOut 0 = .ok (.iconst 0, 1) := by decide +kernel
theorem dX0_countBurntOut_1 : decode cX0_countBurntOut 1 = .ok (.istore_n 1, 1) := by decide +kernel
theorem dX0_countBurntOut_2 : decode cX0_countBurntOut 2 = .ok (.iconst 0, 1) := by decide +kernel
theorem dX0_countBurntOut_3 : decode cX0_countBurntOut 3 = .ok (.istore_n 2, 1) := by decide +kernel
theorem dX0_countBurntOut_4 : decode cX0_countBurntOut 4 = .ok (.iload_n 2, 1) := by decide +kernel
theorem dX0_countBurntOut_5 : decode cX0_countBurntOut 5 = .ok (.aload_n 0, 1) := by decide +kernel
theorem dX0_countBurntOut_6 : decode cX0_countBurntOut 6 = .ok (.getfield 31, 3) := by decide +kernel
theorem dX0_countBurntOut_9 : decode cX0_countBurntOut 9 = .ok (.if_icmp .ge 29, 3) := by decide +kernel
theorem dX0_countBurntOut_12 : decode cX0_countBurntOut 12 = .ok (.aload_n 0, 1) := by decide +kernel
theorem dX0_countBurntOut_13 : decode cX0_countBurntOut 13 = .ok (.iload_n 2, 1) := by decide +kernel
theorem dX0_countBurntOut_14 : decode cX0_countBurntOut 14 = .ok (.invokevirtual 35, 3) := by decide +kernel
theorem dX0_countBurntOut_17 : decode cX0_countBurntOut 17 = .ok (.astore_n 3, 1) := by decide +kernel
theorem dX0_countBurntOut_18 : decode cX0_countBurntOut 18 = .ok (.aload_n 3, 1) := by decide +kernel
theorem dX0_countBurntOut_19 : decode cX0_countBurntOut 19 = .ok (.ifnull 13, 3) := by decide +kernel
theorem dX0_countBurntOut_22 : decode cX0_countBurntOut 22 = .ok (.aload_n 3, 1) := by decide +kernel
theorem dX0_countBurntOut_23 : decode cX0_countBurntOut 23 = .ok (.getfield 87, 3) := by decide +kernel
theorem dX0_countBurntOut_26 : decode cX0_countBurntOut 26 = .ok (.ifCond .ne 6, 3) := by decide +kernel
theorem dX0_countBurntOut_29 : decode cX0_countBurntOut 29 = .ok (.iinc 1 1, 3) := by decide +kernel
theorem dX0_countBurntOut_32 : decode cX0_countBurntOut 32 = .ok (.iinc 2 1, 3) := by decide +kernel
theorem dX0_countBurntOut_35 : decode cX0_countBurntOut 35 = .ok (.goto (-31), 3) := by decide +kernel
theorem dX0_countBurntOut_38 : decode cX0_countBurntOut 38 = .ok (.iload_n 1, 1) := by decide +kernel
theorem dX0_countBurntOut_39 : decode cX0_countBurntOut 39 = .ok (.ireturn, 1) := by decide +kernel
theorem dX0_countReaching_0 : decode cX0_countReaching 0 = .ok (.iconst 0, 1) := by decide +kernel
theorem dX0_countReaching_1 : decode cX0_countReaching 1 = .ok (.istore_n 3, 1) := by decide +kernel
theorem dX0_countReaching_2 : decode cX0_countReaching 2 = .ok (.iconst 0, 1) := by decide +kernel
theorem dX0_countReaching_3 : decode cX0_countReaching 3 = .ok (.istore 4, 2) := by decide +kernel
theorem dX0_countReaching_5 : decode cX0_countReaching 5 = .ok (.iload 4, 2) := by decide +kernel
theorem dX0_countReaching_7 : decode cX0_countReaching 7 = .ok (.aload_n 0, 1) := by decide +kernel
theorem dX0_countReaching_8 : decode cX0_countReaching 8 = .ok (.getfield 31, 3) := by decide +kernel
theorem dX0_countReaching_11 : decode cX0_countReaching 11 = .ok (.if_icmp .ge 50, 3) := by decide +kernel
theorem dX0_countReaching_14 : decode cX0_countReaching 14 = .ok (.aload_n 0, 1) := by decide +kernel
theorem dX0_countReaching_15 : decode cX0_countReaching 15 = .ok (.iload 4, 2) := by decide +kernel
theorem dX0_countReaching_17 : decode cX0_countReaching 17 = .ok (.invokevirtual 35, 3) := by decide +kernel
theorem dX0_countReaching_20 : decode cX0_countReaching 20 = .ok (.astore 5, 2) := by decide +kernel
theorem dX0_countReaching_22 : decode cX0_countReaching 22 = .ok (.aload 5, 2) := by decide +kernel
theorem dX0_countReaching_24 : decode cX0_countReaching 24 = .ok (.ifnull 31, 3) := by decide +kernel
theorem dX0_countReaching_27 : decode cX0_countReaching 27 = .ok (.aload 5, 2) := by decide +kernel
theorem dX0_countReaching_29 : decode cX0_countReaching 29 = .ok (.iload_n 1, 1) := by decide +kernel
theorem dX0_countReaching_30 : decode cX0_countReaching 30 = .ok (.invokevirtual 90, 3) := by decide +kernel
theorem dX0_countReaching_33 : decode cX0_countReaching 33 = .ok (.ifCond .eq 22, 3) := by decide +kernel
theorem dX0_countReaching_36 : decode cX0_countReaching 36 = .ok (.iload_n 2, 1) := by decide +kernel
theorem dX0_countReaching_37 : decode cX0_countReaching 37 = .ok (.ifCond .eq 15, 3) := by decide +kernel
theorem dX0_countReaching_40 : decode cX0_countReaching 40 = .ok (.aload 5, 2) := by decide +kernel
theorem dX0_countReaching_42 : decode cX0_countReaching 42 = .ok (.aload_n 0, 1) := by decide +kernel
theorem dX0_countReaching_43 : decode cX0_countReaching 43 = .ok (.getfield 24, 3) := by decide +kernel
theorem dX0_countReaching_46 : decode cX0_countReaching 46 = .ok (.invokevirtual 84, 3) := by decide +kernel
theorem dX0_countReaching_49 : decode cX0_countReaching 49 = .ok (.ifCond .eq 6, 3) := by decide +kernel
theorem dX0_countReaching_52 : decode cX0_countReaching 52 = .ok (.iinc 3 1, 3) := by decide +kernel
theorem dX0_countReaching_55 : decode cX0_countReaching 55 = .ok (.iinc 4 1, 3) := by decide +kernel
theorem dX0_countReaching_58 : decode cX0_countReaching 58 = .ok (.goto (-53), 3) := by decide +kernel
theorem dX0_countReaching_61 : decode cX0_countReaching 61 = .ok (.iload_n 3, 1) := by decide +kernel
theorem dX0_countReaching_62 : decode cX0_countReaching 62 = .ok (.ireturn, 1) := by decide +kernel
theorem dX0_putLamps_0 : decode cX0_putLamps 0 = .ok (.iconst 0, 1) := by decide +kernel
theorem dX0_putLamps_1 : decode cX0_putLamps 1 = .ok (.istore_n 2, 1) := by decide +kernel
theorem dX0_putLamps_2 : decode cX0_putLamps 2 = .ok (.iconst 0, 1) := by decide +kernel
theorem dX0_putLamps_3 : decode cX0_putLamps 3 = .ok (.istore_n 3, 1) := by decide +kernel
theorem dX0_putLamps_4 : decode cX0_putLamps 4 = .ok (.iload_n 3, 1) := by decide +kernel
theorem dX0_putLamps_5 : decode cX0_putLamps 5 = .ok (.aload_n 0, 1) := by decide +kernel
theorem dX0_putLamps_6 : decode cX0_putLamps 6 = .ok (.getfield 31, 3) := by decide +kernel
theorem dX0_putLamps_9 : decode cX0_putLamps 9 = .ok (.if_icmp .ge 65, 3) := by decide +kernel
theorem dX0_putLamps_12 : decode cX0_putLamps 12 = .ok (.aload_n 0, 1) := by decide +kernel
theorem dX0_putLamps_13 : decode cX0_putLamps 13 = .ok (.iload_n 3, 1) := by decide +kernel
theorem dX0_putLamps_14 : decode cX0_putLamps 14 = .ok (.invokevirtual 35, 3) := by decide +kernel
theorem dX0_putLamps_17 : decode cX0_putLamps 17 = .ok (.astore 4, 2) := by decide +kernel
theorem dX0_putLamps_19 : decode cX0_putLamps 19 = .ok (.aload 4, 2) := by decide +kernel
theorem dX0_putLamps_21 : decode cX0_putLamps 21 = .ok (.ifnull 47, 3) := by decide +kernel
theorem dX0_putLamps_24 : decode cX0_putLamps 24 = .ok (.aload 4, 2) := by decide +kernel
theorem dX0_putLamps_26 : decode cX0_putLamps 26 = .ok (.getfield 87, 3) := by decide +kernel
theorem dX0_putLamps_29 : decode cX0_putLamps 29 = .ok (.iload_n 1, 1) := by decide +kernel
theorem dX0_putLamps_30 : decode cX0_putLamps 30 = .ok (.if_icmp .ge 38, 3) := by decide +kernel
theorem dX0_putLamps_33 : decode cX0_putLamps 33 = .ok (.aload_n 0, 1) := by decide +kernel
theorem dX0_putLamps_34 : decode cX0_putLamps 34 = .ok (.aload 4, 2) := by decide +kernel
theorem dX0_putLamps_36 : decode cX0_putLamps 36 = .ok (.getfield 93, 3) := by decide +kernel
theorem dX0_putLamps_39 : decode cX0_putLamps 39 = .ok (.invokevirtual 96, 3) := by decide +kernel
theorem dX0_putLamps_42 : decode cX0_putLamps 42 = .ok (.istore 5, 2) := by decide +kernel
theorem dX0_putLamps_44 : decode cX0_putLamps 44 = .ok (.iload 5, 2) := by decide +kernel
theorem dX0_putLamps_46 : decode cX0_putLamps 46 = .ok (.bipush (-9), 2) := by decide +kernel
theorem dX0_putLamps_48 : decode cX0_putLamps 48 = .ok (.if_icmp .eq 20, 3) := by decide +kernel
theorem dX0_putLamps_51 : decode cX0_putLamps 51 = .ok (.aload 4, 2) := by decide +kernel
theorem dX0_putLamps_53 : decode cX0_putLamps 53 = .ok (.iload 5, 2) := by decide +kernel
theorem dX0_putLamps_55 : decode cX0_putLamps 55 = .ok (.invokevirtual 99, 3) := by decide +kernel
theorem dX0_putLamps_58 : decode cX0_putLamps 58 = .ok (.aload_n 0, 1) := by decide +kernel
theorem dX0_putLamps_59 : decode cX0_putLamps 59 = .ok (.iload 5, 2) := by decide +kernel
theorem dX0_putLamps_61 : decode cX0_putLamps 61 = .ok (.iconst (-1), 1) := by decide +kernel
theorem dX0_putLamps_62 : decode cX0_putLamps 62 = .ok (.invokevirtual 103, 3) := by decide +kernel
theorem dX0_putLamps_65 : decode cX0_putLamps 65 = .ok (.iinc 2 1, 3) := by decide +kernel
theorem dX0_putLamps_68 : decode cX0_putLamps 68 = .ok (.iinc 3 1, 3) := by decide +kernel
theorem dX0_putLamps_71 : decode cX0_putLamps 71 = .ok (.goto (-67), 3) := by decide +kernel
theorem dX0_putLamps_74 : decode cX0_putLamps 74 = .ok (.iload_n 2, 1) := by decide +kernel
theorem dX0_putLamps_75 : decode cX0_putLamps 75 = .ok (.ireturn, 1) := by decide +kernel
theorem dX0_lampInPlaceOf_0 : decode cX0_lampInPlaceOf 0 = .ok (.aload_n 0, 1) := by decide +kernel
theorem dX0_lampInPlaceOf_1 : decode cX0_lampInPlaceOf 1 = .ok (.iload_n 1, 1) := by decide +kernel
theorem dX0_lampInPlaceOf_2 : decode cX0_lampInPlaceOf 2 = .ok (.invokevirtual 106, 3) := by decide +kernel
theorem dX0_lampInPlaceOf_5 : decode cX0_lampInPlaceOf 5 = .ok (.ifCond .le 5, 3) := by decide +kernel
theorem dX0_lampInPlaceOf_8 : decode cX0_lampInPlaceOf 8 = .ok (.iload_n 1, 1) := by decide +kernel
theorem dX0_lampInPlaceOf_9 : decode cX0_lampInPlaceOf 9 = .ok (.ireturn, 1) := by decide +kernel
theorem dX0_lampInPlaceOf_10 : decode cX0_lampInPlaceOf 10 = .ok (.iconst 2, 1) := by decide +kernel
theorem dX0_lampInPlaceOf_11 : decode cX0_lampInPlaceOf 11 = .ok (.istore_n 2, 1) := by decide +kernel
theorem dX0_lampInPlaceOf_12 : decode cX0_lampInPlaceOf 12 = .ok (.iload_n 2, 1) := by decide +kernel
theorem dX0_lampInPlaceOf_13 : decode cX0_lampInPlaceOf 13 = .ok (.ifCond .lt 35, 3) := by decide +kernel
theorem dX0_lampInPlaceOf_16 : decode cX0_lampInPlaceOf 16 = .ok (.aload_n 0, 1) := by decide +kernel
theorem dX0_lampInPlaceOf_17 : decode cX0_lampInPlaceOf 17 = .ok (.iload_n 2, 1) := by decide +kernel
theorem dX0_lampInPlaceOf_18 : decode cX0_lampInPlaceOf 18 = .ok (.invokevirtual 106, 3) := by decide +kernel
theorem dX0_lampInPlaceOf_21 : decode cX0_lampInPlaceOf 21 = .ok (.ifCond .le 21, 3) := by decide +kernel
theorem dX0_lampInPlaceOf_24 : decode cX0_lampInPlaceOf 24 = .ok (.iload_n 2, 1) := by decide +kernel
theorem dX0_lampInPlaceOf_25 : decode cX0_lampInPlaceOf 25 = .ok (.invokestatic 109, 3) := by decide +kernel
theorem dX0_lampInPlaceOf_28 : decode cX0_lampInPlaceOf 28 = .ok (.iload_n 1, 1) := by decide +kernel
theorem dX0_lampInPlaceOf_29 : decode cX0_lampInPlaceOf 29 = .ok (.invokestatic 109, 3) := by decide +kernel
theorem dX0_lampInPlaceOf_32 : decode cX0_lampInPlaceOf 32 = .ok (.if_icmp .lt 7, 3) := by decide +kernel
theorem dX0_lampInPlaceOf_35 : decode cX0_lampInPlaceOf 35 = .ok (.iload_n 2, 1) := by decide +kernel
theorem dX0_lampInPlaceOf_36 : decode cX0_lampInPlaceOf 36 = .ok (.goto 5, 3) := by decide +kernel
theorem dX0_lampInPlaceOf_39 : decode cX0_lampInPlaceOf 39 = .ok (.bipush (-9), 2) := by decide +kernel
theorem dX0_lampInPlaceOf_41 : decode cX0_lampInPlaceOf 41 = .ok (.ireturn, 1) := by decide +kernel
theorem dX0_lampInPlaceOf_42 : decode cX0_lampInPlaceOf 42 = .ok (.iinc 2 (-1), 3) := by decide +kernel
theorem dX0_lampInPlaceOf_45 : decode cX0_lampInPlaceOf 45 = .ok (.goto (-33), 3) := by decide +kernel
theorem dX0_lampInPlaceOf_48 : decode cX0_lampInPlaceOf 48 = .ok (.bipush (-9), 2) := by decide +kernel
theorem dX0_lampInPlaceOf_50 : decode cX0_lampInPlaceOf 50 = .ok (.ireturn, 1) := by decide +kernel
theorem dX0_burn_0 : decode cX0_burn 0 = .ok (.iconst 0, 1) := by decide +kernel
theorem dX0_burn_1 : decode cX0_burn 1 = .ok (.istore_n 2, 1) := by decide +kernel
theorem dX0_burn_2 : decode cX0_burn 2 = .ok (.iload_n 2, 1) := by decide +kernel
theorem dX0_burn_3 : decode cX0_burn 3 = .ok (.aload_n 0, 1) := by decide +kernel
theorem dX0_burn_4 : decode cX0_burn 4 = .ok (.getfield 31, 3) := by decide +kernel
theorem dX0_burn_7 : decode cX0_burn 7 = .ok (.if_icmp .ge 58, 3) := by decide +kernel
theorem dX0_burn_10 : decode cX0_burn 10 = .ok (.aload_n 0, 1) := by decide +kernel
theorem dX0_burn_11 : decode cX0_burn 11 = .ok (.iload_n 2, 1) := by decide +kernel
theorem dX0_burn_12 : decode cX0_burn 12 = .ok (.invokevirtual 35, 3) := by decide +kernel
theorem dX0_burn_15 : decode cX0_burn 15 = .ok (.astore_n 3, 1) := by decide +kernel
theorem dX0_burn_16 : decode cX0_burn 16 = .ok (.aload_n 3, 1) := by decide +kernel
theorem dX0_burn_17 : decode cX0_burn 17 = .ok (.ifnull 42, 3) := by decide +kernel
theorem dX0_burn_20 : decode cX0_burn 20 = .ok (.iload_n 1, 1) := by decide +kernel
theorem dX0_burn_21 : decode cX0_burn 21 = .ok (.iload_n 2, 1) := by decide +kernel
theorem dX0_burn_22 : decode cX0_burn 22 = .ok (.ishr, 1) := by decide +kernel
theorem dX0_burn_23 : decode cX0_burn 23 = .ok (.iconst 1, 1) := by decide +kernel
theorem dX0_burn_24 : decode cX0_burn 24 = .ok (.iand, 1) := by decide +kernel
theorem dX0_burn_25 : decode cX0_burn 25 = .ok (.iconst 1, 1) := by decide +kernel
theorem dX0_burn_26 : decode cX0_burn 26 = .ok (.if_icmp .ne 33, 3) := by decide +kernel
theorem dX0_burn_29 : decode cX0_burn 29 = .ok (.aload_n 3, 1) := by decide +kernel
theorem dX0_burn_30 : decode cX0_burn 30 = .ok (.invokevirtual 112, 3) := by decide +kernel
theorem dX0_burn_33 : decode cX0_burn 33 = .ok (.ifCond .eq 16, 3) := by decide +kernel
theorem dX0_burn_36 : decode cX0_burn 36 = .ok (.aload_n 0, 1) := by decide +kernel
theorem dX0_burn_37 : decode cX0_burn 37 = .ok (.dup, 1) := by decide +kernel
theorem dX0_burn_38 : decode cX0_burn 38 = .ok (.getfield 53, 3) := by decide +kernel
theorem dX0_burn_41 : decode cX0_burn 41 = .ok (.iconst 1, 1) := by decide +kernel
theorem dX0_burn_42 : decode cX0_burn 42 = .ok (.iadd, 1) := by decide +kernel
theorem dX0_burn_43 : decode cX0_burn 43 = .ok (.putfield 53, 3) := by decide +kernel
theorem dX0_burn_46 : decode cX0_burn 46 = .ok (.goto 13, 3) := by decide +kernel
theorem dX0_burn_49 : decode cX0_burn 49 = .ok (.aload_n 0, 1) := by decide +kernel
theorem dX0_burn_50 : decode cX0_burn 50 = .ok (.dup, 1) := by decide +kernel
theorem dX0_burn_51 : decode cX0_burn 51 = .ok (.getfield 56, 3) := by decide +kernel
theorem dX0_burn_54 : decode cX0_burn 54 = .ok (.iconst 1, 1) := by decide +kernel
theorem dX0_burn_55 : decode cX0_burn 55 = .ok (.iadd, 1) := by decide +kernel
theorem dX0_burn_56 : decode cX0_burn 56 = .ok (.putfield 56, 3) := by decide +kernel
theorem dX0_burn_59 : decode cX0_burn 59 = .ok (.iinc 2 1, 3) := by decide +kernel
theorem dX0_burn_62 : decode cX0_burn 62 = .ok (.goto (-60), 3) := by decide +kernel
theorem dX0_burn_65 : decode cX0_burn 65 = .ok (.return_, 1) := by decide +kernel
theorem dX0_letHoursPass_0 : decode cX0_letHoursPass 0 = .ok (.iload_n 1, 1) := by decide +kernel
theorem dX0_letHoursPass_1 : decode cX0_letHoursPass 1 = .ok (.sipush 1000, 3) := by decide +kernel
theorem dX0_letHoursPass_4 : decode cX0_letHoursPass 4 = .ok (.aload_n 0, 1) := by decide +kernel
theorem dX0_letHoursPass_5 : decode cX0_letHoursPass 5 = .ok (.getfield 50, 3) := by decide +kernel
theorem dX0_letHoursPass_8 : decode cX0_letHoursPass 8 = .ok (.sipush 1000, 3) := by decide +kernel
theorem dX0_letHoursPass_11 : decode cX0_letHoursPass 11 = .ok (.irem, 1) := by decide +kernel
theorem dX0_letHoursPass_12 : decode cX0_letHoursPass 12 = .ok (.isub, 1) := by decide +kernel
theorem dX0_letHoursPass_13 : decode cX0_letHoursPass 13 = .ok (.invokestatic 116, 3) := by decide +kernel
theorem dX0_letHoursPass_16 : decode cX0_letHoursPass 16 = .ok (.istore_n 2, 1) := by decide +kernel
theorem dX0_letHoursPass_17 : decode cX0_letHoursPass 17 = .ok (.aload_n 0, 1) := by decide +kernel
theorem dX0_letHoursPass_18 : decode cX0_letHoursPass 18 = .ok (.iload_n 2, 1) := by decide +kernel
theorem dX0_letHoursPass_19 : decode cX0_letHoursPass 19 = .ok (.invokevirtual 122, 3) := by decide +kernel
theorem dX0_letHoursPass_22 : decode cX0_letHoursPass 22 = .ok (.iload_n 1, 1) := by decide +kernel
theorem dX0_letHoursPass_23 : decode cX0_letHoursPass 23 = .ok (.iload_n 2, 1) := by decide +kernel
theorem dX0_letHoursPass_24 : decode cX0_letHoursPass 24 = .ok (.isub, 1) := by decide +kernel
theorem dX0_letHoursPass_25 : decode cX0_letHoursPass 25 = .ok (.istore_n 3, 1) := by decide +kernel
theorem dX0_letHoursPass_26 : decode cX0_letHoursPass 26 = .ok (.iload_n 3, 1) := by decide +kernel
theorem dX0_letHoursPass_27 : decode cX0_letHoursPass 27 = .ok (.ifCond .le 23, 3) := by decide +kernel
theorem dX0_letHoursPass_30 : decode cX0_letHoursPass 30 = .ok (.aload_n 0, 1) := by decide +kernel
theorem dX0_letHoursPass_31 : decode cX0_letHoursPass 31 = .ok (.iload_n 3, 1) := by decide +kernel
theorem dX0_letHoursPass_32 : decode cX0_letHoursPass 32 = .ok (.sipush 1000, 3) := by decide +kernel
theorem dX0_letHoursPass_35 : decode cX0_letHoursPass 35 = .ok (.invokestatic 116, 3) := by decide +kernel
theorem dX0_letHoursPass_38 : decode cX0_letHoursPass 38 = .ok (.invokevirtual 122, 3) := by decide +kernel
theorem dX0_letHoursPass_41 : decode cX0_letHoursPass 41 = .ok (.iinc 3 (-1000), 6) := by decide +kernel
theorem dX0_letHoursPass_47 : decode cX0_letHoursPass 47 = .ok (.goto (-21), 3) := by decide +kernel
theorem dX0_letHoursPass_50 : decode cX0_letHoursPass 50 = .ok (.return_, 1) := by decide +kernel
theorem dX0_letStretchPass_0 : decode cX0_letStretchPass 0 = .ok (.aload_n 0, 1) := by decide +kernel
theorem dX0_letStretchPass_1 : decode cX0_letStretchPass 1 = .ok (.dup, 1) := by decide +kernel
theorem dX0_letStretchPass_2 : decode cX0_letStretchPass 2 = .ok (.getfield 50, 3) := by decide +kernel
theorem dX0_letStretchPass_5 : decode cX0_letStretchPass 5 = .ok (.iload_n 1, 1) := by decide +kernel
theorem dX0_letStretchPass_6 : decode cX0_letStretchPass 6 = .ok (.iadd, 1) := by decide +kernel
theorem dX0_letStretchPass_7 : decode cX0_letStretchPass 7 = .ok (.putfield 50, 3) := by decide +kernel
theorem dX0_letStretchPass_10 : decode cX0_letStretchPass 10 = .ok (.iconst 0, 1) := by decide +kernel
theorem dX0_letStretchPass_11 : decode cX0_letStretchPass 11 = .ok (.istore_n 2, 1) := by decide +kernel
theorem dX0_letStretchPass_12 : decode cX0_letStretchPass 12 = .ok (.iload_n 2, 1) := by decide +kernel
theorem dX0_letStretchPass_13 : decode cX0_letStretchPass 13 = .ok (.aload_n 0, 1) := by decide +kernel
theorem dX0_letStretchPass_14 : decode cX0_letStretchPass 14 = .ok (.getfield 31, 3) := by decide +kernel
theorem dX0_letStretchPass_17 : decode cX0_letStretchPass 17 = .ok (.if_icmp .ge 40, 3) := by decide +kernel
theorem dX0_letStretchPass_20 : decode cX0_letStretchPass 20 = .ok (.aload_n 0, 1) := by decide +kernel
theorem dX0_letStretchPass_21 : decode cX0_letStretchPass 21 = .ok (.iload_n 2, 1) := by decide +kernel
theorem dX0_letStretchPass_22 : decode cX0_letStretchPass 22 = .ok (.invokevirtual 35, 3) := by decide +kernel
theorem dX0_letStretchPass_25 : decode cX0_letStretchPass 25 = .ok (.astore_n 3, 1) := by decide +kernel
theorem dX0_letStretchPass_26 : decode cX0_letStretchPass 26 = .ok (.aload_n 3, 1) := by decide +kernel
theorem dX0_letStretchPass_27 : decode cX0_letStretchPass 27 = .ok (.ifnull 24, 3) := by decide +kernel
theorem dX0_letStretchPass_30 : decode cX0_letStretchPass 30 = .ok (.aload_n 3, 1) := by decide +kernel
theorem dX0_letStretchPass_31 : decode cX0_letStretchPass 31 = .ok (.iload_n 1, 1) := by decide +kernel
theorem dX0_letStretchPass_32 : decode cX0_letStretchPass 32 = .ok (.invokevirtual 125, 3) := by decide +kernel
theorem dX0_letStretchPass_35 : decode cX0_letStretchPass 35 = .ok (.aload_n 0, 1) := by decide +kernel
theorem dX0_letStretchPass_36 : decode cX0_letStretchPass 36 = .ok (.getfield 50, 3) := by decide +kernel
theorem dX0_letStretchPass_39 : decode cX0_letStretchPass 39 = .ok (.sipush 1000, 3) := by decide +kernel
theorem dX0_letStretchPass_42 : decode cX0_letStretchPass 42 = .ok (.irem, 1) := by decide +kernel
theorem dX0_letStretchPass_43 : decode cX0_letStretchPass 43 = .ok (.ifCond .ne 8, 3) := by decide +kernel
theorem dX0_letStretchPass_46 : decode cX0_letStretchPass 46 = .ok (.aload_n 3, 1) := by decide +kernel
theorem dX0_letStretchPass_47 : decode cX0_letStretchPass 47 = .ok (.iconst 1, 1) := by decide +kernel
theorem dX0_letStretchPass_48 : decode cX0_letStretchPass 48 = .ok (.invokevirtual 128, 3) := by decide +kernel
theorem dX0_letStretchPass_51 : decode cX0_letStretchPass 51 = .ok (.iinc 2 1, 3) := by decide +kernel
theorem dX0_letStretchPass_54 : decode cX0_letStretchPass 54 = .ok (.goto (-42), 3) := by decide +kernel
theorem dX0_letStretchPass_57 : decode cX0_letStretchPass 57 = .ok (.return_, 1) := by decide +kernel
theorem dX1_init_0 : decode cX1_init 0 = .ok (.aload_n 0, 1) := by decide +kernel
theorem dX1_init_1 : decode cX1_init 1 = .ok (.invokespecial 3, 3) := by decide +kernel
theorem dX1_init_4 : decode cX1_init 4 = .ok (.aload_n 0, 1) := by decide +kernel
theorem dX1_init_5 : decode cX1_init 5 = .ok (.bipush 8, 2) := by decide +kernel
theorem dX1_init_7 : decode cX1_init 7 = .ok (.anewarray 9, 3) := by decide +kernel
theorem dX1_init_10 : decode cX1_init 10 = .ok (.putfield 11, 3) := by decide +kernel
theorem dX1_init_13 : decode cX1_init 13 = .ok (.return_, 1) := by decide +kernel
theorem dX1_keep_0 : decode cX1_keep 0 = .ok (.aload_n 0, 1) := by decide +kernel
theorem dX1_keep_1 : decode cX1_keep 1 = .ok (.aload_n 0, 1) := by decide +kernel
theorem dX1_keep_2 : decode cX1_keep 2 = .ok (.getfield 17, 3) := by decide +kernel
theorem dX1_keep_5 : decode cX1_keep 5 = .ok (.invokevirtual 21, 3) := by decide +kernel
theorem dX1_keep_8 : decode cX1_keep 8 = .ok (.aload_n 1, 1) := by decide +kernel
theorem dX1_keep_9 : decode cX1_keep 9 = .ok (.invokevirtual 25, 3) := by decide +kernel
theorem dX1_keep_12 : decode cX1_keep 12 = .ok (.aload_n 0, 1) := by decide +kernel
theorem dX1_keep_13 : decode cX1_keep 13 = .ok (.aload_n 0, 1) := by decide +kernel
theorem dX1_keep_14 : decode cX1_keep 14 = .ok (.getfield 17, 3) := by decide +kernel
theorem dX1_keep_17 : decode cX1_keep 17 = .ok (.iconst 1, 1) := by decide +kernel
theorem dX1_keep_18 : decode cX1_keep 18 = .ok (.iadd, 1) := by decide +kernel
theorem dX1_keep_19 : decode cX1_keep 19 = .ok (.bipush 8, 2) := by decide +kernel
theorem dX1_keep_21 : decode cX1_keep 21 = .ok (.irem, 1) := by decide +kernel
theorem dX1_keep_22 : decode cX1_keep 22 = .ok (.putfield 17, 3) := by decide +kernel
theorem dX1_keep_25 : decode cX1_keep 25 = .ok (.aload_n 0, 1) := by decide +kernel
theorem dX1_keep_26 : decode cX1_keep 26 = .ok (.aload_n 0, 1) := by decide +kernel
theorem dX1_keep_27 : decode cX1_keep 27 = .ok (.getfield 29, 3) := by decide +kernel
theorem dX1_keep_30 : decode cX1_keep 30 = .ok (.iconst 1, 1) := by decide +kernel
theorem dX1_keep_31 : decode cX1_keep 31 = .ok (.iadd, 1) := by decide +kernel
theorem dX1_keep_32 : decode cX1_keep 32 = .ok (.bipush 8, 2) := by decide +kernel
theorem dX1_keep_34 : decode cX1_keep 34 = .ok (.invokestatic 32, 3) := by decide +kernel
theorem dX1_keep_37 : decode cX1_keep 37 = .ok (.putfield 29, 3) := by decide +kernel
theorem dX1_keep_40 : decode cX1_keep 40 = .ok (.return_, 1) := by decide +kernel
theorem dX1_restore_0 : decode cX1_restore 0 = .ok (.aload_n 0, 1) := by decide +kernel
theorem dX1_restore_1 : decode cX1_restore 1 = .ok (.getfield 29, 3) := by decide +kernel
theorem dX1_restore_4 : decode cX1_restore 4 = .ok (.ifCond .le 41, 3) := by decide +kernel
theorem dX1_restore_7 : decode cX1_restore 7 = .ok (.aload_n 0, 1) := by decide +kernel
theorem dX1_restore_8 : decode cX1_restore 8 = .ok (.aload_n 0, 1) := by decide +kernel
theorem dX1_restore_9 : decode cX1_restore 9 = .ok (.getfield 17, 3) := by decide +kernel
theorem dX1_restore_12 : decode cX1_restore 12 = .ok (.bipush 8, 2) := by decide +kernel
theorem dX1_restore_14 : decode cX1_restore 14 = .ok (.iadd, 1) := by decide +kernel
theorem dX1_restore_15 : decode cX1_restore 15 = .ok (.iconst 1, 1) := by decide +kernel
theorem dX1_restore_16 : decode cX1_restore 16 = .ok (.isub, 1) := by decide +kernel
theorem dX1_restore_17 : decode cX1_restore 17 = .ok (.bipush 8, 2) := by decide +kernel
theorem dX1_restore_19 : decode cX1_restore 19 = .ok (.irem, 1) := by decide +kernel
theorem dX1_restore_20 : decode cX1_restore 20 = .ok (.putfield 17, 3) := by decide +kernel
theorem dX1_restore_23 : decode cX1_restore 23 = .ok (.aload_n 0, 1) := by decide +kernel
theorem dX1_restore_24 : decode cX1_restore 24 = .ok (.dup, 1) := by decide +kernel
theorem dX1_restore_25 : decode cX1_restore 25 = .ok (.getfield 29, 3) := by decide +kernel
theorem dX1_restore_28 : decode cX1_restore 28 = .ok (.iconst 1, 1) := by decide +kernel
theorem dX1_restore_29 : decode cX1_restore 29 = .ok (.isub, 1) := by decide +kernel
theorem dX1_restore_30 : decode cX1_restore 30 = .ok (.putfield 29, 3) := by decide +kernel
theorem dX1_restore_33 : decode cX1_restore 33 = .ok (.aload_n 1, 1) := by decide +kernel
theorem dX1_restore_34 : decode cX1_restore 34 = .ok (.aload_n 0, 1) := by decide +kernel
theorem dX1_restore_35 : decode cX1_restore 35 = .ok (.aload_n 0, 1) := by decide +kernel
theorem dX1_restore_36 : decode cX1_restore 36 = .ok (.getfield 17, 3) := by decide +kernel
theorem dX1_restore_39 : decode cX1_restore 39 = .ok (.invokevirtual 21, 3) := by decide +kernel
theorem dX1_restore_42 : decode cX1_restore 42 = .ok (.invokevirtual 25, 3) := by decide +kernel
theorem dX1_restore_45 : decode cX1_restore 45 = .ok (.return_, 1) := by decide +kernel
theorem dX1_slot_0 : decode cX1_slot 0 = .ok (.iload_n 1, 1) := by decide +kernel
theorem dX1_slot_1 : decode cX1_slot 1 = .ok (.bipush 8, 2) := by decide +kernel
theorem dX1_slot_3 : decode cX1_slot 3 = .ok (.invokestatic 38, 3) := by decide +kernel
theorem dX1_slot_6 : decode cX1_slot 6 = .ok (.istore_n 2, 1) := by decide +kernel
theorem dX1_slot_7 : decode cX1_slot 7 = .ok (.aload_n 0, 1) := by decide +kernel
theorem dX1_slot_8 : decode cX1_slot 8 = .ok (.getfield 11, 3) := by decide +kernel
theorem dX1_slot_11 : decode cX1_slot 11 = .ok (.iload_n 2, 1) := by decide +kernel
theorem dX1_slot_12 : decode cX1_slot 12 = .ok (.aaload, 1) := by decide +kernel
theorem dX1_slot_13 : decode cX1_slot 13 = .ok (.astore_n 3, 1) := by decide +kernel
theorem dX1_slot_14 : decode cX1_slot 14 = .ok (.aload_n 3, 1) := by decide +kernel
theorem dX1_slot_15 : decode cX1_slot 15 = .ok (.ifnonnull 18, 3) := by decide +kernel
theorem dX1_slot_18 : decode cX1_slot 18 = .ok (.new 9, 3) := by decide +kernel
theorem dX1_slot_21 : decode cX1_slot 21 = .ok (.dup, 1) := by decide +kernel
theorem dX1_slot_22 : decode cX1_slot 22 = .ok (.invokespecial 41, 3) := by decide +kernel
theorem dX1_slot_25 : decode cX1_slot 25 = .ok (.astore_n 3, 1) := by decide +kernel
theorem dX1_slot_26 : decode cX1_slot 26 = .ok (.aload_n 0, 1) := by decide +kernel
theorem dX1_slot_27 : decode cX1_slot 27 = .ok (.getfield 11, 3) := by decide +kernel
theorem dX1_slot_30 : decode cX1_slot 30 = .ok (.iload_n 2, 1) := by decide +kernel
theorem dX1_slot_31 : decode cX1_slot 31 = .ok (.aload_n 3, 1) := by decide +kernel
theorem dX1_slot_32 : decode cX1_slot 32 = .ok (.aastore, 1) := by decide +kernel
theorem dX1_slot_33 : decode cX1_slot 33 = .ok (.aload_n 3, 1) := by decide +kernel
theorem dX1_slot_34 : decode cX1_slot 34 = .ok (.areturn, 1) := by decide +kernel
theorem dX2_init_0 : decode cX2_init 0 = .ok (.aload_n 0, 1) := by decide +kernel
theorem dX2_init_1 : decode cX2_init 1 = .ok (.invokespecial 3, 3) := by decide +kernel
theorem dX2_init_4 : decode cX2_init 4 = .ok (.return_, 1) := by decide +kernel
theorem dX2_begin_0 : decode cX2_begin 0 = .ok (.aload_n 0, 1) := by decide +kernel
theorem dX2_begin_1 : decode cX2_begin 1 = .ok (.iload_n 1, 1) := by decide +kernel
theorem dX2_begin_2 : decode cX2_begin 2 = .ok (.putfield 9, 3) := by decide +kernel
theorem dX2_begin_5 : decode cX2_begin 5 = .ok (.aload_n 0, 1) := by decide +kernel
theorem dX2_begin_6 : decode cX2_begin 6 = .ok (.iload_n 2, 1) := by decide +kernel
theorem dX2_begin_7 : decode cX2_begin 7 = .ok (.putfield 15, 3) := by decide +kernel
theorem dX2_begin_10 : decode cX2_begin 10 = .ok (.aload_n 0, 1) := by decide +kernel
theorem dX2_begin_11 : decode cX2_begin 11 = .ok (.iload_n 3, 1) := by decide +kernel
theorem dX2_begin_12 : decode cX2_begin 12 = .ok (.putfield 18, 3) := by decide +kernel
theorem dX2_begin_15 : decode cX2_begin 15 = .ok (.aload_n 0, 1) := by decide +kernel
theorem dX2_begin_16 : decode cX2_begin 16 = .ok (.iload 5, 2) := by decide +kernel
theorem dX2_begin_18 : decode cX2_begin 18 = .ok (.putfield 21, 3) := by decide +kernel
theorem dX2_begin_21 : decode cX2_begin 21 = .ok (.aload_n 0, 1) := by decide +kernel
theorem dX2_begin_22 : decode cX2_begin 22 = .ok (.sipush 1000, 3) := by decide +kernel
theorem dX2_begin_25 : decode cX2_begin 25 = .ok (.putfield 25, 3) := by decide +kernel
theorem dX2_begin_28 : decode cX2_begin 28 = .ok (.aload_n 0, 1) := by decide +kernel
theorem dX2_begin_29 : decode cX2_begin 29 = .ok (.aload_n 0, 1) := by decide +kernel
theorem dX2_begin_30 : decode cX2_begin 30 = .ok (.invokevirtual 28, 3) := by decide +kernel
theorem dX2_begin_33 : decode cX2_begin 33 = .ok (.putfield 32, 3) := by decide +kernel
theorem dX2_begin_36 : decode cX2_begin 36 = .ok (.aload_n 0, 1) := by decide +kernel
theorem dX2_begin_37 : decode cX2_begin 37 = .ok (.bipush (-9), 2) := by decide +kernel
theorem dX2_begin_39 : decode cX2_begin 39 = .ok (.putfield 35, 3) := by decide +kernel
theorem dX2_begin_42 : decode cX2_begin 42 = .ok (.aload_n 0, 1) := by decide +kernel
theorem dX2_begin_43 : decode cX2_begin 43 = .ok (.iload 4, 2) := by decide +kernel
theorem dX2_begin_45 : decode cX2_begin 45 = .ok (.invokevirtual 38, 3) := by decide +kernel
theorem dX2_begin_48 : decode cX2_begin 48 = .ok (.return_, 1) := by decide +kernel
theorem dX2_copyFrom_0 : decode cX2_copyFrom 0 = .ok (.aload_n 0, 1) := by decide +kernel
theorem dX2_copyFrom_1 : decode cX2_copyFrom 1 = .ok (.aload_n 1, 1) := by decide +kernel
theorem dX2_copyFrom_2 : decode cX2_copyFrom 2 = .ok (.getfield 9, 3) := by decide +kernel
theorem dX2_copyFrom_5 : decode cX2_copyFrom 5 = .ok (.putfield 9, 3) := by decide +kernel
theorem dX2_copyFrom_8 : decode cX2_copyFrom 8 = .ok (.aload_n 0, 1) := by decide +kernel
theorem dX2_copyFrom_9 : decode cX2_copyFrom 9 = .ok (.aload_n 1, 1) := by decide +kernel
theorem dX2_copyFrom_10 : decode cX2_copyFrom 10 = .ok (.getfield 15, 3) := by decide +kernel
theorem dX2_copyFrom_13 : decode cX2_copyFrom 13 = .ok (.putfield 15, 3) := by decide +kernel
theorem dX2_copyFrom_16 : decode cX2_copyFrom 16 = .ok (.aload_n 0, 1) := by decide +kernel
theorem dX2_copyFrom_17 : decode cX2_copyFrom 17 = .ok (.aload_n 1, 1) := by decide +kernel
theorem dX2_copyFrom_18 : decode cX2_copyFrom 18 = .ok (.getfield 18, 3) := by decide +kernel
theorem dX2_copyFrom_21 : decode cX2_copyFrom 21 = .ok (.putfield 18, 3) := by decide +kernel
theorem dX2_copyFrom_24 : decode cX2_copyFrom 24 = .ok (.aload_n 0, 1) := by decide +kernel
theorem dX2_copyFrom_25 : decode cX2_copyFrom 25 = .ok (.aload_n 1, 1) := by decide +kernel
theorem dX2_copyFrom_26 : decode cX2_copyFrom 26 = .ok (.getfield 42, 3) := by decide +kernel
theorem dX2_copyFrom_29 : decode cX2_copyFrom 29 = .ok (.putfield 42, 3) := by decide +kernel
theorem dX2_copyFrom_32 : decode cX2_copyFrom 32 = .ok (.aload_n 0, 1) := by decide +kernel
theorem dX2_copyFrom_33 : decode cX2_copyFrom 33 = .ok (.aload_n 1, 1) := by decide +kernel
theorem dX2_copyFrom_34 : decode cX2_copyFrom 34 = .ok (.getfield 21, 3) := by decide +kernel
theorem dX2_copyFrom_37 : decode cX2_copyFrom 37 = .ok (.putfield 21, 3) := by decide +kernel
theorem dX2_copyFrom_40 : decode cX2_copyFrom 40 = .ok (.aload_n 0, 1) := by decide +kernel
theorem dX2_copyFrom_41 : decode cX2_copyFrom 41 = .ok (.aload_n 1, 1) := by decide +kernel
theorem dX2_copyFrom_42 : decode cX2_copyFrom 42 = .ok (.getfield 25, 3) := by decide +kernel
theorem dX2_copyFrom_45 : decode cX2_copyFrom 45 = .ok (.putfield 25, 3) := by decide +kernel
theorem dX2_copyFrom_48 : decode cX2_copyFrom 48 = .ok (.aload_n 0, 1) := by decide +kernel
theorem dX2_copyFrom_49 : decode cX2_copyFrom 49 = .ok (.aload_n 1, 1) := by decide +kernel
theorem dX2_copyFrom_50 : decode cX2_copyFrom 50 = .ok (.getfield 32, 3) := by decide +kernel
theorem dX2_copyFrom_53 : decode cX2_copyFrom 53 = .ok (.putfield 32, 3) := by decide +kernel
theorem dX2_copyFrom_56 : decode cX2_copyFrom 56 = .ok (.aload_n 0, 1) := by decide +kernel
theorem dX2_copyFrom_57 : decode cX2_copyFrom 57 = .ok (.aload_n 1, 1) := by decide +kernel
theorem dX2_copyFrom_58 : decode cX2_copyFrom 58 = .ok (.getfield 45, 3) := by decide +kernel
theorem dX2_copyFrom_61 : decode cX2_copyFrom 61 = .ok (.putfield 45, 3) := by decide +kernel
theorem dX2_copyFrom_64 : decode cX2_copyFrom 64 = .ok (.aload_n 0, 1) := by decide +kernel
theorem dX2_copyFrom_65 : decode cX2_copyFrom 65 = .ok (.aload_n 1, 1) := by decide +kernel
theorem dX2_copyFrom_66 : decode cX2_copyFrom 66 = .ok (.getfield 35, 3) := by decide +kernel
theorem dX2_copyFrom_69 : decode cX2_copyFrom 69 = .ok (.putfield 35, 3) := by decide +kernel
theorem dX2_copyFrom_72 : decode cX2_copyFrom 72 = .ok (.return_, 1) := by decide +kernel
theorem dX2_putLamp_0 : decode cX2_putLamp 0 = .ok (.aload_n 0, 1) := by decide +kernel
theorem dX2_putLamp_1 : decode cX2_putLamp 1 = .ok (.iload_n 1, 1) := by decide +kernel
theorem dX2_putLamp_2 : decode cX2_putLamp 2 = .ok (.putfield 42, 3) := by decide +kernel
theorem dX2_putLamp_5 : decode cX2_putLamp 5 = .ok (.aload_n 0, 1) := by decide +kernel
theorem dX2_putLamp_6 : decode cX2_putLamp 6 = .ok (.aload_n 0, 1) := by decide +kernel
theorem dX2_putLamp_7 : decode cX2_putLamp 7 = .ok (.invokevirtual 48, 3) := by decide +kernel
theorem dX2_putLamp_10 : decode cX2_putLamp 10 = .ok (.putfield 45, 3) := by decide +kernel
theorem dX2_putLamp_13 : decode cX2_putLamp 13 = .ok (.return_, 1) := by decide +kernel
theorem dX2_ratedTime_0 : decode cX2_ratedTime 0 = .ok (.aload_n 0, 1) := by decide +kernel
theorem dX2_ratedTime_1 : decode cX2_ratedTime 1 = .ok (.getfield 18, 3) := by decide +kernel
theorem dX2_ratedTime_4 : decode cX2_ratedTime 4 = .ok (.tableswitch 37 0 2 #[28, 31, 34], 28) := by decide +kernel
theorem dX2_ratedTime_32 : decode cX2_ratedTime 32 = .ok (.bipush 60, 2) := by decide +kernel
theorem dX2_ratedTime_34 : decode cX2_ratedTime 34 = .ok (.ireturn, 1) := by decide +kernel
theorem dX2_ratedTime_35 : decode cX2_ratedTime 35 = .ok (.bipush 90, 2) := by decide +kernel
theorem dX2_ratedTime_37 : decode cX2_ratedTime 37 = .ok (.ireturn, 1) := by decide +kernel
theorem dX2_ratedTime_38 : decode cX2_ratedTime 38 = .ok (.bipush 120, 2) := by decide +kernel
theorem dX2_ratedTime_40 : decode cX2_ratedTime 40 = .ok (.ireturn, 1) := by decide +kernel
theorem dX2_ratedTime_41 : decode cX2_ratedTime 41 = .ok (.sipush 180, 3) := by decide +kernel
theorem dX2_ratedTime_44 : decode cX2_ratedTime 44 = .ok (.ireturn, 1) := by decide +kernel
theorem dX2_wear_0 : decode cX2_wear 0 = .ok (.aload_n 0, 1) := by decide +kernel
theorem dX2_wear_1 : decode cX2_wear 1 = .ok (.getfield 18, 3) := by decide +kernel
theorem dX2_wear_4 : decode cX2_wear 4 = .ok (.tableswitch 34 0 2 #[28, 30, 32], 28) := by decide +kernel
theorem dX2_wear_32 : decode cX2_wear 32 = .ok (.iconst 5, 1) := by decide +kernel
theorem dX2_wear_33 : decode cX2_wear 33 = .ok (.ireturn, 1) := by decide +kernel
theorem dX2_wear_34 : decode cX2_wear 34 = .ok (.iconst 4, 1) := by decide +kernel
theorem dX2_wear_35 : decode cX2_wear 35 = .ok (.ireturn, 1) := by decide +kernel
theorem dX2_wear_36 : decode cX2_wear 36 = .ok (.iconst 3, 1) := by decide +kernel
theorem dX2_wear_37 : decode cX2_wear 37 = .ok (.ireturn, 1) := by decide +kernel
theorem dX2_wear_38 : decode cX2_wear 38 = .ok (.iconst 2, 1) := by decide +kernel
theorem dX2_wear_39 : decode cX2_wear 39 = .ok (.ireturn, 1) := by decide +kernel
theorem dX2_life_0 : decode cX2_life 0 = .ok (.aload_n 0, 1) := by decide +kernel
theorem dX2_life_1 : decode cX2_life 1 = .ok (.getfield 42, 3) := by decide +kernel
theorem dX2_life_4 : decode cX2_life 4 = .ok (.lookupswitch 36 #[(0, 28), (1, 32)], 28) := by decide +kernel
theorem dX2_life_32 : decode cX2_life 32 = .ok (.sipush 3000, 3) := by decide +kernel
theorem dX2_life_35 : decode cX2_life 35 = .ok (.ireturn, 1) := by decide +kernel
theorem dX2_life_36 : decode cX2_life 36 = .ok (.sipush 6000, 3) := by decide +kernel
theorem dX2_life_39 : decode cX2_life 39 = .ok (.ireturn, 1) := by decide +kernel
theorem dX2_life_40 : decode cX2_life 40 = .ok (.sipush 9000, 3) := by decide +kernel
theorem dX2_life_43 : decode cX2_life 43 = .ok (.ireturn, 1) := by decide +kernel
theorem dX2_width_0 : decode cX2_width 0 = .ok (.aload_n 0, 1) := by decide +kernel
theorem dX2_width_1 : decode cX2_width 1 = .ok (.getfield 42, 3) := by decide +kernel
theorem dX2_width_4 : decode cX2_width 4 = .ok (.invokestatic 51, 3) := by decide +kernel
theorem dX2_width_7 : decode cX2_width 7 = .ok (.ireturn, 1) := by decide +kernel
theorem dX2_widthOf_0 : decode cX2_widthOf 0 = .ok (.iload_n 0, 1) := by decide +kernel
theorem dX2_widthOf_1 : decode cX2_widthOf 1 = .ok (.lookupswitch 32 #[(0, 27), (1, 29)], 27) := by decide +kernel
theorem dX2_widthOf_28 : decode cX2_widthOf 28 = .ok (.iconst 4, 1) := by decide +kernel
theorem dX2_widthOf_29 : decode cX2_widthOf 29 = .ok (.ireturn, 1) := by decide +kernel
theorem dX2_widthOf_30 : decode cX2_widthOf 30 = .ok (.bipush 6, 2) := by decide +kernel
theorem dX2_widthOf_32 : decode cX2_widthOf 32 = .ok (.ireturn, 1) := by decide +kernel
theorem dX2_widthOf_33 : decode cX2_widthOf 33 = .ok (.bipush 9, 2) := by decide +kernel
theorem dX2_widthOf_35 : decode cX2_widthOf 35 = .ok (.ireturn, 1) := by decide +kernel
theorem dX2_capacity_0 : decode cX2_capacity 0 = .ok (.iconst 5, 1) := by decide +kernel
theorem dX2_capacity_1 : decode cX2_capacity 1 = .ok (.aload_n 0, 1) := by decide +kernel
theorem dX2_capacity_2 : decode cX2_capacity 2 = .ok (.invokevirtual 55, 3) := by decide +kernel
theorem dX2_capacity_5 : decode cX2_capacity 5 = .ok (.imul, 1) := by decide +kernel
theorem dX2_capacity_6 : decode cX2_capacity 6 = .ok (.aload_n 0, 1) := by decide +kernel
theorem dX2_capacity_7 : decode cX2_capacity 7 = .ok (.getfield 25, 3) := by decide +kernel
theorem dX2_capacity_10 : decode cX2_capacity 10 = .ok (.imul, 1) := by decide +kernel
theorem dX2_capacity_11 : decode cX2_capacity 11 = .ok (.sipush 4000, 3) := by decide +kernel
theorem dX2_capacity_14 : decode cX2_capacity 14 = .ok (.idiv, 1) := by decide +kernel
theorem dX2_capacity_15 : decode cX2_capacity 15 = .ok (.ireturn, 1) := by decide +kernel
theorem dX2_fullCharge_0 : decode cX2_fullCharge 0 = .ok (.bipush 24, 2) := by decide +kernel
theorem dX2_fullCharge_2 : decode cX2_fullCharge 2 = .ok (.aload_n 0, 1) := by decide +kernel
theorem dX2_fullCharge_3 : decode cX2_fullCharge 3 = .ok (.invokevirtual 58, 3) := by decide +kernel
theorem dX2_fullCharge_6 : decode cX2_fullCharge 6 = .ok (.imul, 1) := by decide +kernel
theorem dX2_fullCharge_7 : decode cX2_fullCharge 7 = .ok (.ireturn, 1) := by decide +kernel
theorem dX2_endurance_0 : decode cX2_endurance 0 = .ok (.aload_n 0, 1) := by decide +kernel
theorem dX2_endurance_1 : decode cX2_endurance 1 = .ok (.getfield 32, 3) := by decide +kernel
theorem dX2_endurance_4 : decode cX2_endurance 4 = .ok (.bipush 24, 2) := by decide +kernel
theorem dX2_endurance_6 : decode cX2_endurance 6 = .ok (.idiv, 1) := by decide +kernel
theorem dX2_endurance_7 : decode cX2_endurance 7 = .ok (.aload_n 0, 1) := by decide +kernel
theorem dX2_endurance_8 : decode cX2_endurance 8 = .ok (.getfield 45, 3) := by decide +kernel
theorem dX2_endurance_11 : decode cX2_endurance 11 = .ok (.invokestatic 61, 3) := by decide +kernel
theorem dX2_endurance_14 : decode cX2_endurance 14 = .ok (.ireturn, 1) := by decide +kernel
theorem dX2_isReady_0 : decode cX2_isReady 0 = .ok (.aload_n 0, 1) := by decide +kernel
theorem dX2_isReady_1 : decode cX2_isReady 1 = .ok (.invokevirtual 67, 3) := by decide +kernel
theorem dX2_isReady_4 : decode cX2_isReady 4 = .ok (.iload_n 1, 1) := by decide +kernel
theorem dX2_isReady_5 : decode cX2_isReady 5 = .ok (.if_icmp .lt 7, 3) := by decide +kernel
theorem dX2_isReady_8 : decode cX2_isReady 8 = .ok (.iconst 1, 1) := by decide +kernel
theorem dX2_isReady_9 : decode cX2_isReady 9 = .ok (.goto 4, 3) := by decide +kernel
theorem dX2_isReady_12 : decode cX2_isReady 12 = .ok (.iconst 0, 1) := by decide +kernel
theorem dX2_isReady_13 : decode cX2_isReady 13 = .ok (.ireturn, 1) := by decide +kernel
theorem dX2_reaches_0 : decode cX2_reaches 0 = .ok (.iload_n 1, 1) := by decide +kernel
theorem dX2_reaches_1 : decode cX2_reaches 1 = .ok (.aload_n 0, 1) := by decide +kernel
theorem dX2_reaches_2 : decode cX2_reaches 2 = .ok (.getfield 9, 3) := by decide +kernel
theorem dX2_reaches_5 : decode cX2_reaches 5 = .ok (.isub, 1) := by decide +kernel
theorem dX2_reaches_6 : decode cX2_reaches 6 = .ok (.invokestatic 70, 3) := by decide +kernel
theorem dX2_reaches_9 : decode cX2_reaches 9 = .ok (.aload_n 0, 1) := by decide +kernel
theorem dX2_reaches_10 : decode cX2_reaches 10 = .ok (.invokevirtual 73, 3) := by decide +kernel
theorem dX2_reaches_13 : decode cX2_reaches 13 = .ok (.if_icmp .gt 7, 3) := by decide +kernel
theorem dX2_reaches_16 : decode cX2_reaches 16 = .ok (.iconst 1, 1) := by decide +kernel
theorem dX2_reaches_17 : decode cX2_reaches 17 = .ok (.goto 4, 3) := by decide +kernel
theorem dX2_reaches_20 : decode cX2_reaches 20 = .ok (.iconst 0, 1) := by decide +kernel
theorem dX2_reaches_21 : decode cX2_reaches 21 = .ok (.ireturn, 1) := by decide +kernel
theorem dX2_letHoursPass_0 : decode cX2_letHoursPass 0 = .ok (.aload_n 0, 1) := by decide +kernel
theorem dX2_letHoursPass_1 : decode cX2_letHoursPass 1 = .ok (.getfield 21, 3) := by decide +kernel
theorem dX2_letHoursPass_4 : decode cX2_letHoursPass 4 = .ok (.ifCond .eq 20, 3) := by decide +kernel
theorem dX2_letHoursPass_7 : decode cX2_letHoursPass 7 = .ok (.aload_n 0, 1) := by decide +kernel
theorem dX2_letHoursPass_8 : decode cX2_letHoursPass 8 = .ok (.iconst 0, 1) := by decide +kernel
theorem dX2_letHoursPass_9 : decode cX2_letHoursPass 9 = .ok (.aload_n 0, 1) := by decide +kernel
theorem dX2_letHoursPass_10 : decode cX2_letHoursPass 10 = .ok (.getfield 45, 3) := by decide +kernel
theorem dX2_letHoursPass_13 : decode cX2_letHoursPass 13 = .ok (.bipush 60, 2) := by decide +kernel
theorem dX2_letHoursPass_15 : decode cX2_letHoursPass 15 = .ok (.iload_n 1, 1) := by decide +kernel
theorem dX2_letHoursPass_16 : decode cX2_letHoursPass 16 = .ok (.imul, 1) := by decide +kernel
theorem dX2_letHoursPass_17 : decode cX2_letHoursPass 17 = .ok (.isub, 1) := by decide +kernel
theorem dX2_letHoursPass_18 : decode cX2_letHoursPass 18 = .ok (.invokestatic 76, 3) := by decide +kernel
theorem dX2_letHoursPass_21 : decode cX2_letHoursPass 21 = .ok (.putfield 45, 3) := by decide +kernel
theorem dX2_letHoursPass_24 : decode cX2_letHoursPass 24 = .ok (.aload_n 0, 1) := by decide +kernel
theorem dX2_letHoursPass_25 : decode cX2_letHoursPass 25 = .ok (.aload_n 0, 1) := by decide +kernel
theorem dX2_letHoursPass_26 : decode cX2_letHoursPass 26 = .ok (.invokevirtual 28, 3) := by decide +kernel
theorem dX2_letHoursPass_29 : decode cX2_letHoursPass 29 = .ok (.aload_n 0, 1) := by decide +kernel
theorem dX2_letHoursPass_30 : decode cX2_letHoursPass 30 = .ok (.getfield 32, 3) := by decide +kernel
theorem dX2_letHoursPass_33 : decode cX2_letHoursPass 33 = .ok (.iload_n 1, 1) := by decide +kernel
theorem dX2_letHoursPass_34 : decode cX2_letHoursPass 34 = .ok (.aload_n 0, 1) := by decide +kernel
theorem dX2_letHoursPass_35 : decode cX2_letHoursPass 35 = .ok (.invokevirtual 58, 3) := by decide +kernel
theorem dX2_letHoursPass_38 : decode cX2_letHoursPass 38 = .ok (.imul, 1) := by decide +kernel
theorem dX2_letHoursPass_39 : decode cX2_letHoursPass 39 = .ok (.iadd, 1) := by decide +kernel
theorem dX2_letHoursPass_40 : decode cX2_letHoursPass 40 = .ok (.invokestatic 61, 3) := by decide +kernel
theorem dX2_letHoursPass_43 : decode cX2_letHoursPass 43 = .ok (.putfield 32, 3) := by decide +kernel
theorem dX2_letHoursPass_46 : decode cX2_letHoursPass 46 = .ok (.return_, 1) := by decide +kernel
theorem dX2_age_0 : decode cX2_age 0 = .ok (.aload_n 0, 1) := by decide +kernel
theorem dX2_age_1 : decode cX2_age 1 = .ok (.iconst 0, 1) := by decide +kernel
theorem dX2_age_2 : decode cX2_age 2 = .ok (.aload_n 0, 1) := by decide +kernel
theorem dX2_age_3 : decode cX2_age 3 = .ok (.getfield 25, 3) := by decide +kernel
theorem dX2_age_6 : decode cX2_age 6 = .ok (.iload_n 1, 1) := by decide +kernel
theorem dX2_age_7 : decode cX2_age 7 = .ok (.isub, 1) := by decide +kernel
theorem dX2_age_8 : decode cX2_age 8 = .ok (.invokestatic 76, 3) := by decide +kernel
theorem dX2_age_11 : decode cX2_age 11 = .ok (.putfield 25, 3) := by decide +kernel
theorem dX2_age_14 : decode cX2_age 14 = .ok (.aload_n 0, 1) := by decide +kernel
theorem dX2_age_15 : decode cX2_age 15 = .ok (.aload_n 0, 1) := by decide +kernel
theorem dX2_age_16 : decode cX2_age 16 = .ok (.getfield 32, 3) := by decide +kernel
theorem dX2_age_19 : decode cX2_age 19 = .ok (.aload_n 0, 1) := by decide +kernel
theorem dX2_age_20 : decode cX2_age 20 = .ok (.invokevirtual 28, 3) := by decide +kernel
theorem dX2_age_23 : decode cX2_age 23 = .ok (.invokestatic 61, 3) := by decide +kernel
theorem dX2_age_26 : decode cX2_age 26 = .ok (.putfield 32, 3) := by decide +kernel
theorem dX2_age_29 : decode cX2_age 29 = .ok (.return_, 1) := by decide +kernel
theorem dX2_burn_0 : decode cX2_burn 0 = .ok (.aload_n 0, 1) := by decide +kernel
theorem dX2_burn_1 : decode cX2_burn 1 = .ok (.invokevirtual 67, 3) := by decide +kernel
theorem dX2_burn_4 : decode cX2_burn 4 = .ok (.aload_n 0, 1) := by decide +kernel
theorem dX2_burn_5 : decode cX2_burn 5 = .ok (.invokevirtual 55, 3) := by decide +kernel
theorem dX2_burn_8 : decode cX2_burn 8 = .ok (.invokestatic 61, 3) := by decide +kernel
theorem dX2_burn_11 : decode cX2_burn 11 = .ok (.istore_n 1, 1) := by decide +kernel
theorem dX2_burn_12 : decode cX2_burn 12 = .ok (.aload_n 0, 1) := by decide +kernel
theorem dX2_burn_13 : decode cX2_burn 13 = .ok (.dup, 1) := by decide +kernel
theorem dX2_burn_14 : decode cX2_burn 14 = .ok (.getfield 45, 3) := by decide +kernel
theorem dX2_burn_17 : decode cX2_burn 17 = .ok (.iload_n 1, 1) := by decide +kernel
theorem dX2_burn_18 : decode cX2_burn 18 = .ok (.isub, 1) := by decide +kernel
theorem dX2_burn_19 : decode cX2_burn 19 = .ok (.putfield 45, 3) := by decide +kernel
theorem dX2_burn_22 : decode cX2_burn 22 = .ok (.aload_n 0, 1) := by decide +kernel
theorem dX2_burn_23 : decode cX2_burn 23 = .ok (.dup, 1) := by decide +kernel
theorem dX2_burn_24 : decode cX2_burn 24 = .ok (.getfield 32, 3) := by decide +kernel
theorem dX2_burn_27 : decode cX2_burn 27 = .ok (.bipush 24, 2) := by decide +kernel
theorem dX2_burn_29 : decode cX2_burn 29 = .ok (.iload_n 1, 1) := by decide +kernel
theorem dX2_burn_30 : decode cX2_burn 30 = .ok (.imul, 1) := by decide +kernel
theorem dX2_burn_31 : decode cX2_burn 31 = .ok (.isub, 1) := by decide +kernel
theorem dX2_burn_32 : decode cX2_burn 32 = .ok (.putfield 32, 3) := by decide +kernel
theorem dX2_burn_35 : decode cX2_burn 35 = .ok (.aload_n 0, 1) := by decide +kernel
theorem dX2_burn_36 : decode cX2_burn 36 = .ok (.aload_n 0, 1) := by decide +kernel
theorem dX2_burn_37 : decode cX2_burn 37 = .ok (.invokevirtual 79, 3) := by decide +kernel
theorem dX2_burn_40 : decode cX2_burn 40 = .ok (.invokevirtual 82, 3) := by decide +kernel
theorem dX2_burn_43 : decode cX2_burn 43 = .ok (.aload_n 0, 1) := by decide +kernel
theorem dX2_burn_44 : decode cX2_burn 44 = .ok (.iload_n 1, 1) := by decide +kernel
theorem dX2_burn_45 : decode cX2_burn 45 = .ok (.putfield 35, 3) := by decide +kernel
theorem dX2_burn_48 : decode cX2_burn 48 = .ok (.iload_n 1, 1) := by decide +kernel
theorem dX2_burn_49 : decode cX2_burn 49 = .ok (.aload_n 0, 1) := by decide +kernel
theorem dX2_burn_50 : decode cX2_burn 50 = .ok (.invokevirtual 55, 3) := by decide +kernel
theorem dX2_burn_53 : decode cX2_burn 53 = .ok (.if_icmp .ne 7, 3) := by decide +kernel
theorem dX2_burn_56 : decode cX2_burn 56 = .ok (.iconst 1, 1) := by decide +kernel
theorem dX2_burn_57 : decode cX2_burn 57 = .ok (.goto 4, 3) := by decide +kernel
theorem dX2_burn_60 : decode cX2_burn 60 = .ok (.iconst 0, 1) := by decide +kernel
theorem dX2_burn_61 : decode cX2_burn 61 = .ok (.ireturn, 1) := by decide +kernel
theorem dX2_property_0 : decode cX2_property 0 = .ok (.iload_n 1, 1) := by decide +kernel
theorem dX2_property_1 : decode cX2_property 1 = .ok (.tableswitch 131 0 10 #[59, 64, 69, 74, 79, 92, 97, 102, 107, 112, 117], 59) := by decide +kernel
theorem dX2_property_60 : decode cX2_property 60 = .ok (.aload_n 0, 1) := by decide +kernel
theorem dX2_property_61 : decode cX2_property 61 = .ok (.getfield 9, 3) := by decide +kernel
theorem dX2_property_64 : decode cX2_property 64 = .ok (.ireturn, 1) := by decide +kernel
theorem dX2_property_65 : decode cX2_property 65 = .ok (.aload_n 0, 1) := by decide +kernel
theorem dX2_property_66 : decode cX2_property 66 = .ok (.getfield 15, 3) := by decide +kernel
theorem dX2_property_69 : decode cX2_property 69 = .ok (.ireturn, 1) := by decide +kernel
theorem dX2_property_70 : decode cX2_property 70 = .ok (.aload_n 0, 1) := by decide +kernel
theorem dX2_property_71 : decode cX2_property 71 = .ok (.getfield 18, 3) := by decide +kernel
theorem dX2_property_74 : decode cX2_property 74 = .ok (.ireturn, 1) := by decide +kernel
theorem dX2_property_75 : decode cX2_property 75 = .ok (.aload_n 0, 1) := by decide +kernel
theorem dX2_property_76 : decode cX2_property 76 = .ok (.getfield 42, 3) := by decide +kernel
theorem dX2_property_79 : decode cX2_property 79 = .ok (.ireturn, 1) := by decide +kernel
theorem dX2_property_80 : decode cX2_property 80 = .ok (.aload_n 0, 1) := by decide +kernel
theorem dX2_property_81 : decode cX2_property 81 = .ok (.getfield 21, 3) := by decide +kernel
theorem dX2_property_84 : decode cX2_property 84 = .ok (.ifCond .eq 7, 3) := by decide +kernel
theorem dX2_property_87 : decode cX2_property 87 = .ok (.iconst 1, 1) := by decide +kernel
theorem dX2_property_88 : decode cX2_property 88 = .ok (.goto 4, 3) := by decide +kernel
theorem dX2_property_91 : decode cX2_property 91 = .ok (.iconst 0, 1) := by decide +kernel
theorem dX2_property_92 : decode cX2_property 92 = .ok (.ireturn, 1) := by decide +kernel
theorem dX2_property_93 : decode cX2_property 93 = .ok (.aload_n 0, 1) := by decide +kernel
theorem dX2_property_94 : decode cX2_property 94 = .ok (.getfield 25, 3) := by decide +kernel
theorem dX2_property_97 : decode cX2_property 97 = .ok (.ireturn, 1) := by decide +kernel
theorem dX2_property_98 : decode cX2_property 98 = .ok (.aload_n 0, 1) := by decide +kernel
theorem dX2_property_99 : decode cX2_property 99 = .ok (.invokevirtual 58, 3) := by decide +kernel
theorem dX2_property_102 : decode cX2_property 102 = .ok (.ireturn, 1) := by decide +kernel
theorem dX2_property_103 : decode cX2_property 103 = .ok (.aload_n 0, 1) := by decide +kernel
theorem dX2_property_104 : decode cX2_property 104 = .ok (.getfield 32, 3) := by decide +kernel
theorem dX2_property_107 : decode cX2_property 107 = .ok (.ireturn, 1) := by decide +kernel
theorem dX2_property_108 : decode cX2_property 108 = .ok (.aload_n 0, 1) := by decide +kernel
theorem dX2_property_109 : decode cX2_property 109 = .ok (.getfield 45, 3) := by decide +kernel
theorem dX2_property_112 : decode cX2_property 112 = .ok (.ireturn, 1) := by decide +kernel
theorem dX2_property_113 : decode cX2_property 113 = .ok (.aload_n 0, 1) := by decide +kernel
theorem dX2_property_114 : decode cX2_property 114 = .ok (.invokevirtual 67, 3) := by decide +kernel
theorem dX2_property_117 : decode cX2_property 117 = .ok (.ireturn, 1) := by decide +kernel
theorem dX2_property_118 : decode cX2_property 118 = .ok (.aload_n 0, 1) := by decide +kernel
theorem dX2_property_119 : decode cX2_property 119 = .ok (.iload_n 2, 1) := by decide +kernel
theorem dX2_property_120 : decode cX2_property 120 = .ok (.invokevirtual 85, 3) := by decide +kernel
theorem dX2_property_123 : decode cX2_property 123 = .ok (.ifCond .eq 7, 3) := by decide +kernel
theorem dX2_property_126 : decode cX2_property 126 = .ok (.iconst 1, 1) := by decide +kernel
theorem dX2_property_127 : decode cX2_property 127 = .ok (.goto 4, 3) := by decide +kernel
theorem dX2_property_130 : decode cX2_property 130 = .ok (.iconst 0, 1) := by decide +kernel
theorem dX2_property_131 : decode cX2_property 131 = .ok (.ireturn, 1) := by decide +kernel
theorem dX2_property_132 : decode cX2_property 132 = .ok (.aload_n 0, 1) := by decide +kernel
theorem dX2_property_133 : decode cX2_property 133 = .ok (.getfield 35, 3) := by decide +kernel
theorem dX2_property_136 : decode cX2_property 136 = .ok (.ireturn, 1) := by decide +kernel
theorem dX3_init_0 : decode cX3_init 0 = .ok (.aload_n 0, 1) := by decide +kernel
theorem dX3_init_1 : decode cX3_init 1 = .ok (.invokespecial 3, 3) := by decide +kernel
theorem dX3_init_4 : decode cX3_init 4 = .ok (.aload_n 0, 1) := by decide +kernel
theorem dX3_init_5 : decode cX3_init 5 = .ok (.sipush 1024, 3) := by decide +kernel
theorem dX3_init_8 : decode cX3_init 8 = .ok (.newarray .byte, 2) := by decide +kernel
theorem dX3_init_10 : decode cX3_init 10 = .ok (.putfield 9, 3) := by decide +kernel
theorem dX3_init_13 : decode cX3_init 13 = .ok (.aload_n 0, 1) := by decide +kernel
theorem dX3_init_14 : decode cX3_init 14 = .ok (.bipush 10, 2) := by decide +kernel
theorem dX3_init_16 : decode cX3_init 16 = .ok (.newarray .int, 2) := by decide +kernel
theorem dX3_init_18 : decode cX3_init 18 = .ok (.putfield 15, 3) := by decide +kernel
theorem dX3_init_21 : decode cX3_init 21 = .ok (.return_, 1) := by decide +kernel
theorem dX3_forget_0 : decode cX3_forget 0 = .ok (.aload_n 0, 1) := by decide +kernel
theorem dX3_forget_1 : decode cX3_forget 1 = .ok (.iconst 0, 1) := by decide +kernel
theorem dX3_forget_2 : decode cX3_forget 2 = .ok (.putfield 19, 3) := by decide +kernel
theorem dX3_forget_5 : decode cX3_forget 5 = .ok (.return_, 1) := by decide +kernel
theorem dX3_setOn_0 : decode cX3_setOn 0 = .ok (.iload_n 1, 1) := by decide +kernel
theorem dX3_setOn_1 : decode cX3_setOn 1 = .ok (.ifCond .lt 26, 3) := by decide +kernel
theorem dX3_setOn_4 : decode cX3_setOn 4 = .ok (.iload_n 1, 1) := by decide +kernel
theorem dX3_setOn_5 : decode cX3_setOn 5 = .ok (.aload_n 0, 1) := by decide +kernel
theorem dX3_setOn_6 : decode cX3_setOn 6 = .ok (.getfield 23, 3) := by decide +kernel
theorem dX3_setOn_9 : decode cX3_setOn 9 = .ok (.if_icmp .ge 18, 3) := by decide +kernel
theorem dX3_setOn_12 : decode cX3_setOn 12 = .ok (.iload_n 1, 1) := by decide +kernel
theorem dX3_setOn_13 : decode cX3_setOn 13 = .ok (.bipush 10, 2) := by decide +kernel
theorem dX3_setOn_15 : decode cX3_setOn 15 = .ok (.if_icmp .ge 12, 3) := by decide +kernel
theorem dX3_setOn_18 : decode cX3_setOn 18 = .ok (.aload_n 0, 1) := by decide +kernel
theorem dX3_setOn_19 : decode cX3_setOn 19 = .ok (.getfield 15, 3) := by decide +kernel
theorem dX3_setOn_22 : decode cX3_setOn 22 = .ok (.iload_n 1, 1) := by decide +kernel
theorem dX3_setOn_23 : decode cX3_setOn 23 = .ok (.iaload, 1) := by decide +kernel
theorem dX3_setOn_24 : decode cX3_setOn 24 = .ok (.goto 5, 3) := by decide +kernel
theorem dX3_setOn_27 : decode cX3_setOn 27 = .ok (.bipush (-9), 2) := by decide +kernel
theorem dX3_setOn_29 : decode cX3_setOn 29 = .ok (.ireturn, 1) := by decide +kernel
theorem dX3_dayOf_0 : decode cX3_dayOf 0 = .ok (.iconst 0, 1) := by decide +kernel
theorem dX3_dayOf_1 : decode cX3_dayOf 1 = .ok (.istore_n 2, 1) := by decide +kernel
theorem dX3_dayOf_2 : decode cX3_dayOf 2 = .ok (.iload_n 2, 1) := by decide +kernel
theorem dX3_dayOf_3 : decode cX3_dayOf 3 = .ok (.aload_n 0, 1) := by decide +kernel
theorem dX3_dayOf_4 : decode cX3_dayOf 4 = .ok (.getfield 23, 3) := by decide +kernel
theorem dX3_dayOf_7 : decode cX3_dayOf 7 = .ok (.if_icmp .ge 24, 3) := by decide +kernel
theorem dX3_dayOf_10 : decode cX3_dayOf 10 = .ok (.aload_n 0, 1) := by decide +kernel
theorem dX3_dayOf_11 : decode cX3_dayOf 11 = .ok (.iload_n 2, 1) := by decide +kernel
theorem dX3_dayOf_12 : decode cX3_dayOf 12 = .ok (.invokevirtual 27, 3) := by decide +kernel
theorem dX3_dayOf_15 : decode cX3_dayOf 15 = .ok (.iload_n 1, 1) := by decide +kernel
theorem dX3_dayOf_16 : decode cX3_dayOf 16 = .ok (.ishr, 1) := by decide +kernel
theorem dX3_dayOf_17 : decode cX3_dayOf 17 = .ok (.iconst 1, 1) := by decide +kernel
theorem dX3_dayOf_18 : decode cX3_dayOf 18 = .ok (.iand, 1) := by decide +kernel
theorem dX3_dayOf_19 : decode cX3_dayOf 19 = .ok (.iconst 1, 1) := by decide +kernel
theorem dX3_dayOf_20 : decode cX3_dayOf 20 = .ok (.if_icmp .ne 5, 3) := by decide +kernel
theorem dX3_dayOf_23 : decode cX3_dayOf 23 = .ok (.iload_n 2, 1) := by decide +kernel
theorem dX3_dayOf_24 : decode cX3_dayOf 24 = .ok (.ireturn, 1) := by decide +kernel
theorem dX3_dayOf_25 : decode cX3_dayOf 25 = .ok (.iinc 2 1, 3) := by decide +kernel
theorem dX3_dayOf_28 : decode cX3_dayOf 28 = .ok (.goto (-26), 3) := by decide +kernel
theorem dX3_dayOf_31 : decode cX3_dayOf 31 = .ok (.bipush (-9), 2) := by decide +kernel
theorem dX3_dayOf_33 : decode cX3_dayOf 33 = .ok (.ireturn, 1) := by decide +kernel
theorem dX3_follow_0 : decode cX3_follow 0 = .ok (.aload_n 0, 1) := by decide +kernel
theorem dX3_follow_1 : decode cX3_follow 1 = .ok (.getfield 19, 3) := by decide +kernel
theorem dX3_follow_4 : decode cX3_follow 4 = .ok (.ifCond .eq 4, 3) := by decide +kernel
theorem dX3_follow_7 : decode cX3_follow 7 = .ok (.return_, 1) := by decide +kernel
theorem dX3_follow_8 : decode cX3_follow 8 = .ok (.aload_n 0, 1) := by decide +kernel
theorem dX3_follow_9 : decode cX3_follow 9 = .ok (.aload_n 0, 1) := by decide +kernel
theorem dX3_follow_10 : decode cX3_follow 10 = .ok (.aload_n 1, 1) := by decide +kernel
theorem dX3_follow_11 : decode cX3_follow 11 = .ok (.aload_n 2, 1) := by decide +kernel
theorem dX3_follow_12 : decode cX3_follow 12 = .ok (.invokevirtual 31, 3) := by decide +kernel
theorem dX3_follow_15 : decode cX3_follow 15 = .ok (.putfield 23, 3) := by decide +kernel
theorem dX3_follow_18 : decode cX3_follow 18 = .ok (.iconst 1, 1) := by decide +kernel
theorem dX3_follow_19 : decode cX3_follow 19 = .ok (.aload_n 1, 1) := by decide +kernel
theorem dX3_follow_20 : decode cX3_follow 20 = .ok (.getfield 35, 3) := by decide +kernel
theorem dX3_follow_23 : decode cX3_follow 23 = .ok (.ishl, 1) := by decide +kernel
theorem dX3_follow_24 : decode cX3_follow 24 = .ok (.iconst 1, 1) := by decide +kernel
theorem dX3_follow_25 : decode cX3_follow 25 = .ok (.isub, 1) := by decide +kernel
theorem dX3_follow_26 : decode cX3_follow 26 = .ok (.istore_n 3, 1) := by decide +kernel
theorem dX3_follow_27 : decode cX3_follow 27 = .ok (.iconst 0, 1) := by decide +kernel
theorem dX3_follow_28 : decode cX3_follow 28 = .ok (.istore 4, 2) := by decide +kernel
theorem dX3_follow_30 : decode cX3_follow 30 = .ok (.iload 4, 2) := by decide +kernel
theorem dX3_follow_32 : decode cX3_follow 32 = .ok (.aload_n 0, 1) := by decide +kernel
theorem dX3_follow_33 : decode cX3_follow 33 = .ok (.getfield 23, 3) := by decide +kernel
theorem dX3_follow_36 : decode cX3_follow 36 = .ok (.if_icmp .ge 38, 3) := by decide +kernel
theorem dX3_follow_39 : decode cX3_follow 39 = .ok (.iload 4, 2) := by decide +kernel
theorem dX3_follow_41 : decode cX3_follow 41 = .ok (.bipush 10, 2) := by decide +kernel
theorem dX3_follow_43 : decode cX3_follow 43 = .ok (.if_icmp .ge 31, 3) := by decide +kernel
theorem dX3_follow_46 : decode cX3_follow 46 = .ok (.aload_n 0, 1) := by decide +kernel
theorem dX3_follow_47 : decode cX3_follow 47 = .ok (.getfield 15, 3) := by decide +kernel
theorem dX3_follow_50 : decode cX3_follow 50 = .ok (.iload 4, 2) := by decide +kernel
theorem dX3_follow_52 : decode cX3_follow 52 = .ok (.aload_n 0, 1) := by decide +kernel
theorem dX3_follow_53 : decode cX3_follow 53 = .ok (.iload_n 3, 1) := by decide +kernel
theorem dX3_follow_54 : decode cX3_follow 54 = .ok (.invokevirtual 40, 3) := by decide +kernel
theorem dX3_follow_57 : decode cX3_follow 57 = .ok (.iastore, 1) := by decide +kernel
theorem dX3_follow_58 : decode cX3_follow 58 = .ok (.iload_n 3, 1) := by decide +kernel
theorem dX3_follow_59 : decode cX3_follow 59 = .ok (.aload_n 0, 1) := by decide +kernel
theorem dX3_follow_60 : decode cX3_follow 60 = .ok (.getfield 15, 3) := by decide +kernel
theorem dX3_follow_63 : decode cX3_follow 63 = .ok (.iload 4, 2) := by decide +kernel
theorem dX3_follow_65 : decode cX3_follow 65 = .ok (.iaload, 1) := by decide +kernel
theorem dX3_follow_66 : decode cX3_follow 66 = .ok (.ixor, 1) := by decide +kernel
theorem dX3_follow_67 : decode cX3_follow 67 = .ok (.istore_n 3, 1) := by decide +kernel
theorem dX3_follow_68 : decode cX3_follow 68 = .ok (.iinc 4 1, 3) := by decide +kernel
theorem dX3_follow_71 : decode cX3_follow 71 = .ok (.goto (-41), 3) := by decide +kernel
theorem dX3_follow_74 : decode cX3_follow 74 = .ok (.aload_n 0, 1) := by decide +kernel
theorem dX3_follow_75 : decode cX3_follow 75 = .ok (.iconst 1, 1) := by decide +kernel
theorem dX3_follow_76 : decode cX3_follow 76 = .ok (.putfield 19, 3) := by decide +kernel
theorem dX3_follow_79 : decode cX3_follow 79 = .ok (.return_, 1) := by decide +kernel
theorem dX3_fewestDays_0 : decode cX3_fewestDays 0 = .ok (.sipush 1023, 3) := by decide +kernel
theorem dX3_fewestDays_3 : decode cX3_fewestDays 3 = .ok (.iconst 1, 1) := by decide +kernel
theorem dX3_fewestDays_4 : decode cX3_fewestDays 4 = .ok (.aload_n 1, 1) := by decide +kernel
theorem dX3_fewestDays_5 : decode cX3_fewestDays 5 = .ok (.getfield 35, 3) := by decide +kernel
theorem dX3_fewestDays_8 : decode cX3_fewestDays 8 = .ok (.ishl, 1) := by decide +kernel
theorem dX3_fewestDays_9 : decode cX3_fewestDays 9 = .ok (.iconst 1, 1) := by decide +kernel
theorem dX3_fewestDays_10 : decode cX3_fewestDays 10 = .ok (.isub, 1) := by decide +kernel
theorem dX3_fewestDays_11 : decode cX3_fewestDays 11 = .ok (.invokestatic 43, 3) := by decide +kernel
theorem dX3_fewestDays_14 : decode cX3_fewestDays 14 = .ok (.istore_n 3, 1) := by decide +kernel
theorem dX3_fewestDays_15 : decode cX3_fewestDays 15 = .ok (.aload_n 2, 1) := by decide +kernel
theorem dX3_fewestDays_16 : decode cX3_fewestDays 16 = .ok (.aload_n 1, 1) := by decide +kernel
theorem dX3_fewestDays_17 : decode cX3_fewestDays 17 = .ok (.invokevirtual 49, 3) := by decide +kernel
theorem dX3_fewestDays_20 : decode cX3_fewestDays 20 = .ok (.aload_n 0, 1) := by decide +kernel
theorem dX3_fewestDays_21 : decode cX3_fewestDays 21 = .ok (.aload_n 1, 1) := by decide +kernel
theorem dX3_fewestDays_22 : decode cX3_fewestDays 22 = .ok (.aload_n 2, 1) := by decide +kernel
theorem dX3_fewestDays_23 : decode cX3_fewestDays 23 = .ok (.iload_n 3, 1) := by decide +kernel
theorem dX3_fewestDays_24 : decode cX3_fewestDays 24 = .ok (.invokevirtual 55, 3) := by decide +kernel
theorem dX3_fewestDays_27 : decode cX3_fewestDays 27 = .ok (.iconst 0, 1) := by decide +kernel
theorem dX3_fewestDays_28 : decode cX3_fewestDays 28 = .ok (.istore 4, 2) := by decide +kernel
theorem dX3_fewestDays_30 : decode cX3_fewestDays 30 = .ok (.iload 4, 2) := by decide +kernel
theorem dX3_fewestDays_32 : decode cX3_fewestDays 32 = .ok (.aload_n 1, 1) := by decide +kernel
theorem dX3_fewestDays_33 : decode cX3_fewestDays 33 = .ok (.getfield 35, 3) := by decide +kernel
theorem dX3_fewestDays_36 : decode cX3_fewestDays 36 = .ok (.if_icmp .ge 24, 3) := by decide +kernel
theorem dX3_fewestDays_39 : decode cX3_fewestDays 39 = .ok (.aload_n 0, 1) := by decide +kernel
theorem dX3_fewestDays_40 : decode cX3_fewestDays 40 = .ok (.iconst 1, 1) := by decide +kernel
theorem dX3_fewestDays_41 : decode cX3_fewestDays 41 = .ok (.iload 4, 2) := by decide +kernel
theorem dX3_fewestDays_43 : decode cX3_fewestDays 43 = .ok (.ishl, 1) := by decide +kernel
theorem dX3_fewestDays_44 : decode cX3_fewestDays 44 = .ok (.invokevirtual 59, 3) := by decide +kernel
theorem dX3_fewestDays_47 : decode cX3_fewestDays 47 = .ok (.iconst 1, 1) := by decide +kernel
theorem dX3_fewestDays_48 : decode cX3_fewestDays 48 = .ok (.if_icmp .le 6, 3) := by decide +kernel
theorem dX3_fewestDays_51 : decode cX3_fewestDays 51 = .ok (.bipush (-9), 2) := by decide +kernel
theorem dX3_fewestDays_53 : decode cX3_fewestDays 53 = .ok (.ireturn, 1) := by decide +kernel
theorem dX3_fewestDays_54 : decode cX3_fewestDays 54 = .ok (.iinc 4 1, 3) := by decide +kernel
theorem dX3_fewestDays_57 : decode cX3_fewestDays 57 = .ok (.goto (-27), 3) := by decide +kernel
theorem dX3_fewestDays_60 : decode cX3_fewestDays 60 = .ok (.iconst 1, 1) := by decide +kernel
theorem dX3_fewestDays_61 : decode cX3_fewestDays 61 = .ok (.istore 4, 2) := by decide +kernel
theorem dX3_fewestDays_63 : decode cX3_fewestDays 63 = .ok (.iload 4, 2) := by decide +kernel
theorem dX3_fewestDays_65 : decode cX3_fewestDays 65 = .ok (.iload_n 3, 1) := by decide +kernel
theorem dX3_fewestDays_66 : decode cX3_fewestDays 66 = .ok (.if_icmp .gt 43, 3) := by decide +kernel
theorem dX3_fewestDays_69 : decode cX3_fewestDays 69 = .ok (.aload_n 0, 1) := by decide +kernel
theorem dX3_fewestDays_70 : decode cX3_fewestDays 70 = .ok (.getfield 9, 3) := by decide +kernel
theorem dX3_fewestDays_73 : decode cX3_fewestDays 73 = .ok (.iload 4, 2) := by decide +kernel
theorem dX3_fewestDays_75 : decode cX3_fewestDays 75 = .ok (.baload, 1) := by decide +kernel
theorem dX3_fewestDays_76 : decode cX3_fewestDays 76 = .ok (.iconst 1, 1) := by decide +kernel
theorem dX3_fewestDays_77 : decode cX3_fewestDays 77 = .ok (.if_icmp .gt 12, 3) := by decide +kernel
theorem dX3_fewestDays_80 : decode cX3_fewestDays 80 = .ok (.aload_n 0, 1) := by decide +kernel
theorem dX3_fewestDays_81 : decode cX3_fewestDays 81 = .ok (.iload 4, 2) := by decide +kernel
theorem dX3_fewestDays_83 : decode cX3_fewestDays 83 = .ok (.invokevirtual 62, 3) := by decide +kernel
theorem dX3_fewestDays_86 : decode cX3_fewestDays 86 = .ok (.ifCond .eq 17, 3) := by decide +kernel
theorem dX3_fewestDays_89 : decode cX3_fewestDays 89 = .ok (.aload_n 0, 1) := by decide +kernel
theorem dX3_fewestDays_90 : decode cX3_fewestDays 90 = .ok (.getfield 9, 3) := by decide +kernel
theorem dX3_fewestDays_93 : decode cX3_fewestDays 93 = .ok (.iload 4, 2) := by decide +kernel
theorem dX3_fewestDays_95 : decode cX3_fewestDays 95 = .ok (.aload_n 0, 1) := by decide +kernel
theorem dX3_fewestDays_96 : decode cX3_fewestDays 96 = .ok (.iload 4, 2) := by decide +kernel
theorem dX3_fewestDays_98 : decode cX3_fewestDays 98 = .ok (.invokevirtual 66, 3) := by decide +kernel
theorem dX3_fewestDays_101 : decode cX3_fewestDays 101 = .ok (.i2b, 1) := by decide +kernel
theorem dX3_fewestDays_102 : decode cX3_fewestDays 102 = .ok (.bastore, 1) := by decide +kernel
theorem dX3_fewestDays_103 : decode cX3_fewestDays 103 = .ok (.iinc 4 1, 3) := by decide +kernel
theorem dX3_fewestDays_106 : decode cX3_fewestDays 106 = .ok (.goto (-43), 3) := by decide +kernel
theorem dX3_fewestDays_109 : decode cX3_fewestDays 109 = .ok (.aload_n 0, 1) := by decide +kernel
theorem dX3_fewestDays_110 : decode cX3_fewestDays 110 = .ok (.iload_n 3, 1) := by decide +kernel
theorem dX3_fewestDays_111 : decode cX3_fewestDays 111 = .ok (.invokevirtual 59, 3) := by decide +kernel
theorem dX3_fewestDays_114 : decode cX3_fewestDays 114 = .ok (.ireturn, 1) := by decide +kernel
theorem dX3_markForbidden_0 : decode cX3_markForbidden 0 = .ok (.iconst 1, 1) := by decide +kernel
theorem dX3_markForbidden_1 : decode cX3_markForbidden 1 = .ok (.istore 4, 2) := by decide +kernel
theorem dX3_markForbidden_3 : decode cX3_markForbidden 3 = .ok (.iload 4, 2) := by decide +kernel
theorem dX3_markForbidden_5 : decode cX3_markForbidden 5 = .ok (.iload_n 3, 1) := by decide +kernel
theorem dX3_markForbidden_6 : decode cX3_markForbidden 6 = .ok (.if_icmp .gt 25, 3) := by decide +kernel
theorem dX3_markForbidden_9 : decode cX3_markForbidden 9 = .ok (.iload 4, 2) := by decide +kernel
theorem dX3_markForbidden_11 : decode cX3_markForbidden 11 = .ok (.sipush 1023, 3) := by decide +kernel
theorem dX3_markForbidden_14 : decode cX3_markForbidden 14 = .ok (.if_icmp .gt 17, 3) := by decide +kernel
theorem dX3_markForbidden_17 : decode cX3_markForbidden 17 = .ok (.aload_n 0, 1) := by decide +kernel
theorem dX3_markForbidden_18 : decode cX3_markForbidden 18 = .ok (.getfield 9, 3) := by decide +kernel
theorem dX3_markForbidden_21 : decode cX3_markForbidden 21 = .ok (.iload 4, 2) := by decide +kernel
theorem dX3_markForbidden_23 : decode cX3_markForbidden 23 = .ok (.iconst 1, 1) := by decide +kernel
theorem dX3_markForbidden_24 : decode cX3_markForbidden 24 = .ok (.bastore, 1) := by decide +kernel
theorem dX3_markForbidden_25 : decode cX3_markForbidden 25 = .ok (.iinc 4 1, 3) := by decide +kernel
theorem dX3_markForbidden_28 : decode cX3_markForbidden 28 = .ok (.goto (-25), 3) := by decide +kernel
theorem dX3_markForbidden_31 : decode cX3_markForbidden 31 = .ok (.iconst 0, 1) := by decide +kernel
theorem dX3_markForbidden_32 : decode cX3_markForbidden 32 = .ok (.istore 4, 2) := by decide +kernel
theorem dX3_markForbidden_34 : decode cX3_markForbidden 34 = .ok (.iload 4, 2) := by decide +kernel
theorem dX3_markForbidden_36 : decode cX3_markForbidden 36 = .ok (.aload_n 1, 1) := by decide +kernel
theorem dX3_markForbidden_37 : decode cX3_markForbidden 37 = .ok (.getfield 69, 3) := by decide +kernel
theorem dX3_markForbidden_40 : decode cX3_markForbidden 40 = .ok (.if_icmp .ge 66, 3) := by decide +kernel
theorem dX3_markForbidden_43 : decode cX3_markForbidden 43 = .ok (.aload_n 1, 1) := by decide +kernel
theorem dX3_markForbidden_44 : decode cX3_markForbidden 44 = .ok (.iload 4, 2) := by decide +kernel
theorem dX3_markForbidden_46 : decode cX3_markForbidden 46 = .ok (.invokevirtual 72, 3) := by decide +kernel
theorem dX3_markForbidden_49 : decode cX3_markForbidden 49 = .ok (.istore 5, 2) := by decide +kernel
theorem dX3_markForbidden_51 : decode cX3_markForbidden 51 = .ok (.aload_n 1, 1) := by decide +kernel
theorem dX3_markForbidden_52 : decode cX3_markForbidden 52 = .ok (.iload 4, 2) := by decide +kernel
theorem dX3_markForbidden_54 : decode cX3_markForbidden 54 = .ok (.invokevirtual 75, 3) := by decide +kernel
theorem dX3_markForbidden_57 : decode cX3_markForbidden 57 = .ok (.istore 6, 2) := by decide +kernel
theorem dX3_markForbidden_59 : decode cX3_markForbidden 59 = .ok (.aload_n 2, 1) := by decide +kernel
theorem dX3_markForbidden_60 : decode cX3_markForbidden 60 = .ok (.iload 5, 2) := by decide +kernel
theorem dX3_markForbidden_62 : decode cX3_markForbidden 62 = .ok (.iload 6, 2) := by decide +kernel
theorem dX3_markForbidden_64 : decode cX3_markForbidden 64 = .ok (.sipush 1023, 3) := by decide +kernel
theorem dX3_markForbidden_67 : decode cX3_markForbidden 67 = .ok (.invokevirtual 78, 3) := by decide +kernel
theorem dX3_markForbidden_70 : decode cX3_markForbidden 70 = .ok (.ifCond .ne 30, 3) := by decide +kernel
theorem dX3_markForbidden_73 : decode cX3_markForbidden 73 = .ok (.iload 5, 2) := by decide +kernel
theorem dX3_markForbidden_75 : decode cX3_markForbidden 75 = .ok (.istore 7, 2) := by decide +kernel
theorem dX3_markForbidden_77 : decode cX3_markForbidden 77 = .ok (.iload 7, 2) := by decide +kernel
theorem dX3_markForbidden_79 : decode cX3_markForbidden 79 = .ok (.iload 6, 2) := by decide +kernel
theorem dX3_markForbidden_81 : decode cX3_markForbidden 81 = .ok (.if_icmp .gt 19, 3) := by decide +kernel
theorem dX3_markForbidden_84 : decode cX3_markForbidden 84 = .ok (.aload_n 0, 1) := by decide +kernel
theorem dX3_markForbidden_85 : decode cX3_markForbidden 85 = .ok (.aload_n 2, 1) := by decide +kernel
theorem dX3_markForbidden_86 : decode cX3_markForbidden 86 = .ok (.iload 7, 2) := by decide +kernel
theorem dX3_markForbidden_88 : decode cX3_markForbidden 88 = .ok (.invokevirtual 82, 3) := by decide +kernel
theorem dX3_markForbidden_91 : decode cX3_markForbidden 91 = .ok (.invokevirtual 85, 3) := by decide +kernel
theorem dX3_markForbidden_94 : decode cX3_markForbidden 94 = .ok (.iinc 7 1, 3) := by decide +kernel
theorem dX3_markForbidden_97 : decode cX3_markForbidden 97 = .ok (.goto (-20), 3) := by decide +kernel
theorem dX3_markForbidden_100 : decode cX3_markForbidden 100 = .ok (.iinc 4 1, 3) := by decide +kernel
theorem dX3_markForbidden_103 : decode cX3_markForbidden 103 = .ok (.goto (-69), 3) := by decide +kernel
theorem dX3_markForbidden_106 : decode cX3_markForbidden 106 = .ok (.return_, 1) := by decide +kernel
theorem dX3_forbid_0 : decode cX3_forbid 0 = .ok (.iload_n 1, 1) := by decide +kernel
theorem dX3_forbid_1 : decode cX3_forbid 1 = .ok (.ifCond .le 17, 3) := by decide +kernel
theorem dX3_forbid_4 : decode cX3_forbid 4 = .ok (.iload_n 1, 1) := by decide +kernel
theorem dX3_forbid_5 : decode cX3_forbid 5 = .ok (.sipush 1023, 3) := by decide +kernel
theorem dX3_forbid_8 : decode cX3_forbid 8 = .ok (.if_icmp .gt 10, 3) := by decide +kernel
theorem dX3_forbid_11 : decode cX3_forbid 11 = .ok (.aload_n 0, 1) := by decide +kernel
theorem dX3_forbid_12 : decode cX3_forbid 12 = .ok (.getfield 9, 3) := by decide +kernel
theorem dX3_forbid_15 : decode cX3_forbid 15 = .ok (.iload_n 1, 1) := by decide +kernel
theorem dX3_forbid_16 : decode cX3_forbid 16 = .ok (.iconst 2, 1) := by decide +kernel
theorem dX3_forbid_17 : decode cX3_forbid 17 = .ok (.bastore, 1) := by decide +kernel
theorem dX3_forbid_18 : decode cX3_forbid 18 = .ok (.return_, 1) := by decide +kernel
theorem dX3_daysFor_0 : decode cX3_daysFor 0 = .ok (.iload_n 1, 1) := by decide +kernel
theorem dX3_daysFor_1 : decode cX3_daysFor 1 = .ok (.ifCond .lt 19, 3) := by decide +kernel
theorem dX3_daysFor_4 : decode cX3_daysFor 4 = .ok (.iload_n 1, 1) := by decide +kernel
theorem dX3_daysFor_5 : decode cX3_daysFor 5 = .ok (.sipush 1023, 3) := by decide +kernel
theorem dX3_daysFor_8 : decode cX3_daysFor 8 = .ok (.if_icmp .gt 12, 3) := by decide +kernel
theorem dX3_daysFor_11 : decode cX3_daysFor 11 = .ok (.aload_n 0, 1) := by decide +kernel
theorem dX3_daysFor_12 : decode cX3_daysFor 12 = .ok (.getfield 9, 3) := by decide +kernel
theorem dX3_daysFor_15 : decode cX3_daysFor 15 = .ok (.iload_n 1, 1) := by decide +kernel
theorem dX3_daysFor_16 : decode cX3_daysFor 16 = .ok (.baload, 1) := by decide +kernel
theorem dX3_daysFor_17 : decode cX3_daysFor 17 = .ok (.goto 4, 3) := by decide +kernel
theorem dX3_daysFor_20 : decode cX3_daysFor 20 = .ok (.iconst 0, 1) := by decide +kernel
theorem dX3_daysFor_21 : decode cX3_daysFor 21 = .ok (.ireturn, 1) := by decide +kernel
theorem dX3_holdsForbidden_0 : decode cX3_holdsForbidden 0 = .ok (.iconst 0, 1) := by decide +kernel
theorem dX3_holdsForbidden_1 : decode cX3_holdsForbidden 1 = .ok (.istore_n 2, 1) := by decide +kernel
theorem dX3_holdsForbidden_2 : decode cX3_holdsForbidden 2 = .ok (.iload_n 2, 1) := by decide +kernel
theorem dX3_holdsForbidden_3 : decode cX3_holdsForbidden 3 = .ok (.bipush 10, 2) := by decide +kernel
theorem dX3_holdsForbidden_5 : decode cX3_holdsForbidden 5 = .ok (.if_icmp .ge 33, 3) := by decide +kernel
theorem dX3_holdsForbidden_8 : decode cX3_holdsForbidden 8 = .ok (.iload_n 1, 1) := by decide +kernel
theorem dX3_holdsForbidden_9 : decode cX3_holdsForbidden 9 = .ok (.iload_n 2, 1) := by decide +kernel
theorem dX3_holdsForbidden_10 : decode cX3_holdsForbidden 10 = .ok (.ishr, 1) := by decide +kernel
theorem dX3_holdsForbidden_11 : decode cX3_holdsForbidden 11 = .ok (.iconst 1, 1) := by decide +kernel
theorem dX3_holdsForbidden_12 : decode cX3_holdsForbidden 12 = .ok (.iand, 1) := by decide +kernel
theorem dX3_holdsForbidden_13 : decode cX3_holdsForbidden 13 = .ok (.iconst 1, 1) := by decide +kernel
theorem dX3_holdsForbidden_14 : decode cX3_holdsForbidden 14 = .ok (.if_icmp .ne 18, 3) := by decide +kernel
theorem dX3_holdsForbidden_17 : decode cX3_holdsForbidden 17 = .ok (.aload_n 0, 1) := by decide +kernel
theorem dX3_holdsForbidden_18 : decode cX3_holdsForbidden 18 = .ok (.iload_n 1, 1) := by decide +kernel
theorem dX3_holdsForbidden_19 : decode cX3_holdsForbidden 19 = .ok (.iconst 1, 1) := by decide +kernel
theorem dX3_holdsForbidden_20 : decode cX3_holdsForbidden 20 = .ok (.iload_n 2, 1) := by decide +kernel
theorem dX3_holdsForbidden_21 : decode cX3_holdsForbidden 21 = .ok (.ishl, 1) := by decide +kernel
theorem dX3_holdsForbidden_22 : decode cX3_holdsForbidden 22 = .ok (.ixor, 1) := by decide +kernel
theorem dX3_holdsForbidden_23 : decode cX3_holdsForbidden 23 = .ok (.invokevirtual 59, 3) := by decide +kernel
theorem dX3_holdsForbidden_26 : decode cX3_holdsForbidden 26 = .ok (.iconst 1, 1) := by decide +kernel
theorem dX3_holdsForbidden_27 : decode cX3_holdsForbidden 27 = .ok (.if_icmp .le 5, 3) := by decide +kernel
theorem dX3_holdsForbidden_30 : decode cX3_holdsForbidden 30 = .ok (.iconst 1, 1) := by decide +kernel
theorem dX3_holdsForbidden_31 : decode cX3_holdsForbidden 31 = .ok (.ireturn, 1) := by decide +kernel
theorem dX3_holdsForbidden_32 : decode cX3_holdsForbidden 32 = .ok (.iinc 2 1, 3) := by decide +kernel
theorem dX3_holdsForbidden_35 : decode cX3_holdsForbidden 35 = .ok (.goto (-33), 3) := by decide +kernel
theorem dX3_holdsForbidden_38 : decode cX3_holdsForbidden 38 = .ok (.iconst 0, 1) := by decide +kernel
theorem dX3_holdsForbidden_39 : decode cX3_holdsForbidden 39 = .ok (.ireturn, 1) := by decide +kernel
theorem dX3_fewestApart_0 : decode cX3_fewestApart 0 = .ok (.iload_n 1, 1) := by decide +kernel
theorem dX3_fewestApart_1 : decode cX3_fewestApart 1 = .ok (.iload_n 1, 1) := by decide +kernel
theorem dX3_fewestApart_2 : decode cX3_fewestApart 2 = .ok (.ineg, 1) := by decide +kernel
theorem dX3_fewestApart_3 : decode cX3_fewestApart 3 = .ok (.iand, 1) := by decide +kernel
theorem dX3_fewestApart_4 : decode cX3_fewestApart 4 = .ok (.istore_n 2, 1) := by decide +kernel
theorem dX3_fewestApart_5 : decode cX3_fewestApart 5 = .ok (.iload_n 1, 1) := by decide +kernel
theorem dX3_fewestApart_6 : decode cX3_fewestApart 6 = .ok (.iload_n 2, 1) := by decide +kernel
theorem dX3_fewestApart_7 : decode cX3_fewestApart 7 = .ok (.ixor, 1) := by decide +kernel
theorem dX3_fewestApart_8 : decode cX3_fewestApart 8 = .ok (.istore_n 3, 1) := by decide +kernel
theorem dX3_fewestApart_9 : decode cX3_fewestApart 9 = .ok (.iconst 1, 1) := by decide +kernel
theorem dX3_fewestApart_10 : decode cX3_fewestApart 10 = .ok (.aload_n 0, 1) := by decide +kernel
theorem dX3_fewestApart_11 : decode cX3_fewestApart 11 = .ok (.iload_n 3, 1) := by decide +kernel
theorem dX3_fewestApart_12 : decode cX3_fewestApart 12 = .ok (.invokevirtual 59, 3) := by decide +kernel
theorem dX3_fewestApart_15 : decode cX3_fewestApart 15 = .ok (.iadd, 1) := by decide +kernel
theorem dX3_fewestApart_16 : decode cX3_fewestApart 16 = .ok (.istore 4, 2) := by decide +kernel
theorem dX3_fewestApart_18 : decode cX3_fewestApart 18 = .ok (.iload_n 3, 1) := by decide +kernel
theorem dX3_fewestApart_19 : decode cX3_fewestApart 19 = .ok (.iconst 1, 1) := by decide +kernel
theorem dX3_fewestApart_20 : decode cX3_fewestApart 20 = .ok (.isub, 1) := by decide +kernel
theorem dX3_fewestApart_21 : decode cX3_fewestApart 21 = .ok (.iload_n 3, 1) := by decide +kernel
theorem dX3_fewestApart_22 : decode cX3_fewestApart 22 = .ok (.iand, 1) := by decide +kernel
theorem dX3_fewestApart_23 : decode cX3_fewestApart 23 = .ok (.istore 5, 2) := by decide +kernel
theorem dX3_fewestApart_25 : decode cX3_fewestApart 25 = .ok (.iload 5, 2) := by decide +kernel
theorem dX3_fewestApart_27 : decode cX3_fewestApart 27 = .ok (.ifCond .le 49, 3) := by decide +kernel
theorem dX3_fewestApart_30 : decode cX3_fewestApart 30 = .ok (.iload 4, 2) := by decide +kernel
theorem dX3_fewestApart_32 : decode cX3_fewestApart 32 = .ok (.iconst 2, 1) := by decide +kernel
theorem dX3_fewestApart_33 : decode cX3_fewestApart 33 = .ok (.if_icmp .le 43, 3) := by decide +kernel
theorem dX3_fewestApart_36 : decode cX3_fewestApart 36 = .ok (.aload_n 0, 1) := by decide +kernel
theorem dX3_fewestApart_37 : decode cX3_fewestApart 37 = .ok (.iload_n 2, 1) := by decide +kernel
theorem dX3_fewestApart_38 : decode cX3_fewestApart 38 = .ok (.iload 5, 2) := by decide +kernel
theorem dX3_fewestApart_40 : decode cX3_fewestApart 40 = .ok (.ior, 1) := by decide +kernel
theorem dX3_fewestApart_41 : decode cX3_fewestApart 41 = .ok (.invokevirtual 59, 3) := by decide +kernel
theorem dX3_fewestApart_44 : decode cX3_fewestApart 44 = .ok (.iconst 1, 1) := by decide +kernel
theorem dX3_fewestApart_45 : decode cX3_fewestApart 45 = .ok (.if_icmp .ne 20, 3) := by decide +kernel
theorem dX3_fewestApart_48 : decode cX3_fewestApart 48 = .ok (.iload 4, 2) := by decide +kernel
theorem dX3_fewestApart_50 : decode cX3_fewestApart 50 = .ok (.iconst 1, 1) := by decide +kernel
theorem dX3_fewestApart_51 : decode cX3_fewestApart 51 = .ok (.aload_n 0, 1) := by decide +kernel
theorem dX3_fewestApart_52 : decode cX3_fewestApart 52 = .ok (.iload_n 3, 1) := by decide +kernel
theorem dX3_fewestApart_53 : decode cX3_fewestApart 53 = .ok (.iload 5, 2) := by decide +kernel
theorem dX3_fewestApart_55 : decode cX3_fewestApart 55 = .ok (.ixor, 1) := by decide +kernel
theorem dX3_fewestApart_56 : decode cX3_fewestApart 56 = .ok (.invokevirtual 59, 3) := by decide +kernel
theorem dX3_fewestApart_59 : decode cX3_fewestApart 59 = .ok (.iadd, 1) := by decide +kernel
theorem dX3_fewestApart_60 : decode cX3_fewestApart 60 = .ok (.invokestatic 43, 3) := by decide +kernel
theorem dX3_fewestApart_63 : decode cX3_fewestApart 63 = .ok (.istore 4, 2) := by decide +kernel
theorem dX3_fewestApart_65 : decode cX3_fewestApart 65 = .ok (.iload 5, 2) := by decide +kernel
theorem dX3_fewestApart_67 : decode cX3_fewestApart 67 = .ok (.iconst 1, 1) := by decide +kernel
theorem dX3_fewestApart_68 : decode cX3_fewestApart 68 = .ok (.isub, 1) := by decide +kernel
theorem dX3_fewestApart_69 : decode cX3_fewestApart 69 = .ok (.iload_n 3, 1) := by decide +kernel
theorem dX3_fewestApart_70 : decode cX3_fewestApart 70 = .ok (.iand, 1) := by decide +kernel
theorem dX3_fewestApart_71 : decode cX3_fewestApart 71 = .ok (.istore 5, 2) := by decide +kernel
theorem dX3_fewestApart_73 : decode cX3_fewestApart 73 = .ok (.goto (-48), 3) := by decide +kernel
theorem dX3_fewestApart_76 : decode cX3_fewestApart 76 = .ok (.iload 4, 2) := by decide +kernel
theorem dX3_fewestApart_78 : decode cX3_fewestApart 78 = .ok (.ireturn, 1) := by decide +kernel
theorem dX3_firstSet_0 : decode cX3_firstSet 0 = .ok (.iload_n 1, 1) := by decide +kernel
theorem dX3_firstSet_1 : decode cX3_firstSet 1 = .ok (.iload_n 1, 1) := by decide +kernel
theorem dX3_firstSet_2 : decode cX3_firstSet 2 = .ok (.ineg, 1) := by decide +kernel
theorem dX3_firstSet_3 : decode cX3_firstSet 3 = .ok (.iand, 1) := by decide +kernel
theorem dX3_firstSet_4 : decode cX3_firstSet 4 = .ok (.istore_n 2, 1) := by decide +kernel
theorem dX3_firstSet_5 : decode cX3_firstSet 5 = .ok (.iload_n 1, 1) := by decide +kernel
theorem dX3_firstSet_6 : decode cX3_firstSet 6 = .ok (.iload_n 2, 1) := by decide +kernel
theorem dX3_firstSet_7 : decode cX3_firstSet 7 = .ok (.ixor, 1) := by decide +kernel
theorem dX3_firstSet_8 : decode cX3_firstSet 8 = .ok (.istore_n 3, 1) := by decide +kernel
theorem dX3_firstSet_9 : decode cX3_firstSet 9 = .ok (.iload_n 1, 1) := by decide +kernel
theorem dX3_firstSet_10 : decode cX3_firstSet 10 = .ok (.istore 4, 2) := by decide +kernel
theorem dX3_firstSet_12 : decode cX3_firstSet 12 = .ok (.iload_n 3, 1) := by decide +kernel
theorem dX3_firstSet_13 : decode cX3_firstSet 13 = .ok (.istore 5, 2) := by decide +kernel
theorem dX3_firstSet_15 : decode cX3_firstSet 15 = .ok (.iload 5, 2) := by decide +kernel
theorem dX3_firstSet_17 : decode cX3_firstSet 17 = .ok (.ifCond .le 32, 3) := by decide +kernel
theorem dX3_firstSet_20 : decode cX3_firstSet 20 = .ok (.aload_n 0, 1) := by decide +kernel
theorem dX3_firstSet_21 : decode cX3_firstSet 21 = .ok (.iload_n 2, 1) := by decide +kernel
theorem dX3_firstSet_22 : decode cX3_firstSet 22 = .ok (.iload 5, 2) := by decide +kernel
theorem dX3_firstSet_24 : decode cX3_firstSet 24 = .ok (.ior, 1) := by decide +kernel
theorem dX3_firstSet_25 : decode cX3_firstSet 25 = .ok (.iload_n 1, 1) := by decide +kernel
theorem dX3_firstSet_26 : decode cX3_firstSet 26 = .ok (.invokevirtual 89, 3) := by decide +kernel
theorem dX3_firstSet_29 : decode cX3_firstSet 29 = .ok (.ifCond .eq 9, 3) := by decide +kernel
theorem dX3_firstSet_32 : decode cX3_firstSet 32 = .ok (.iload_n 2, 1) := by decide +kernel
theorem dX3_firstSet_33 : decode cX3_firstSet 33 = .ok (.iload 5, 2) := by decide +kernel
theorem dX3_firstSet_35 : decode cX3_firstSet 35 = .ok (.ior, 1) := by decide +kernel
theorem dX3_firstSet_36 : decode cX3_firstSet 36 = .ok (.istore 4, 2) := by decide +kernel
theorem dX3_firstSet_38 : decode cX3_firstSet 38 = .ok (.iload 5, 2) := by decide +kernel
theorem dX3_firstSet_40 : decode cX3_firstSet 40 = .ok (.iconst 1, 1) := by decide +kernel
theorem dX3_firstSet_41 : decode cX3_firstSet 41 = .ok (.isub, 1) := by decide +kernel
theorem dX3_firstSet_42 : decode cX3_firstSet 42 = .ok (.iload_n 3, 1) := by decide +kernel
theorem dX3_firstSet_43 : decode cX3_firstSet 43 = .ok (.iand, 1) := by decide +kernel
theorem dX3_firstSet_44 : decode cX3_firstSet 44 = .ok (.istore 5, 2) := by decide +kernel
theorem dX3_firstSet_46 : decode cX3_firstSet 46 = .ok (.goto (-31), 3) := by decide +kernel
theorem dX3_firstSet_49 : decode cX3_firstSet 49 = .ok (.aload_n 0, 1) := by decide +kernel
theorem dX3_firstSet_50 : decode cX3_firstSet 50 = .ok (.iload_n 2, 1) := by decide +kernel
theorem dX3_firstSet_51 : decode cX3_firstSet 51 = .ok (.iload_n 1, 1) := by decide +kernel
theorem dX3_firstSet_52 : decode cX3_firstSet 52 = .ok (.invokevirtual 89, 3) := by decide +kernel
theorem dX3_firstSet_55 : decode cX3_firstSet 55 = .ok (.ifCond .eq 7, 3) := by decide +kernel
theorem dX3_firstSet_58 : decode cX3_firstSet 58 = .ok (.iload_n 2, 1) := by decide +kernel
theorem dX3_firstSet_59 : decode cX3_firstSet 59 = .ok (.goto 5, 3) := by decide +kernel
theorem dX3_firstSet_62 : decode cX3_firstSet 62 = .ok (.iload 4, 2) := by decide +kernel
theorem dX3_firstSet_64 : decode cX3_firstSet 64 = .ok (.ireturn, 1) := by decide +kernel
theorem dX3_begins_0 : decode cX3_begins 0 = .ok (.aload_n 0, 1) := by decide +kernel
theorem dX3_begins_1 : decode cX3_begins 1 = .ok (.iload_n 1, 1) := by decide +kernel
theorem dX3_begins_2 : decode cX3_begins 2 = .ok (.invokevirtual 59, 3) := by decide +kernel
theorem dX3_begins_5 : decode cX3_begins 5 = .ok (.iconst 1, 1) := by decide +kernel
theorem dX3_begins_6 : decode cX3_begins 6 = .ok (.if_icmp .ne 24, 3) := by decide +kernel
theorem dX3_begins_9 : decode cX3_begins 9 = .ok (.aload_n 0, 1) := by decide +kernel
theorem dX3_begins_10 : decode cX3_begins 10 = .ok (.iload_n 2, 1) := by decide +kernel
theorem dX3_begins_11 : decode cX3_begins 11 = .ok (.iload_n 1, 1) := by decide +kernel
theorem dX3_begins_12 : decode cX3_begins 12 = .ok (.ixor, 1) := by decide +kernel
theorem dX3_begins_13 : decode cX3_begins 13 = .ok (.invokevirtual 59, 3) := by decide +kernel
theorem dX3_begins_16 : decode cX3_begins 16 = .ok (.aload_n 0, 1) := by decide +kernel
theorem dX3_begins_17 : decode cX3_begins 17 = .ok (.iload_n 2, 1) := by decide +kernel
theorem dX3_begins_18 : decode cX3_begins 18 = .ok (.invokevirtual 59, 3) := by decide +kernel
theorem dX3_begins_21 : decode cX3_begins 21 = .ok (.iconst 1, 1) := by decide +kernel
theorem dX3_begins_22 : decode cX3_begins 22 = .ok (.isub, 1) := by decide +kernel
theorem dX3_begins_23 : decode cX3_begins 23 = .ok (.if_icmp .ne 7, 3) := by decide +kernel
theorem dX3_begins_26 : decode cX3_begins 26 = .ok (.iconst 1, 1) := by decide +kernel
theorem dX3_begins_27 : decode cX3_begins 27 = .ok (.goto 4, 3) := by decide +kernel
theorem dX3_begins_30 : decode cX3_begins 30 = .ok (.iconst 0, 1) := by decide +kernel
theorem dX3_begins_31 : decode cX3_begins 31 = .ok (.ireturn, 1) := by decide +kernel
theorem dX4_init_0 : decode cX4_init 0 = .ok (.aload_n 0, 1) := by decide +kernel
theorem dX4_init_1 : decode cX4_init 1 = .ok (.invokespecial 3, 3) := by decide +kernel
theorem dX4_init_4 : decode cX4_init 4 = .ok (.aload_n 0, 1) := by decide +kernel
theorem dX4_init_5 : decode cX4_init 5 = .ok (.sipush 201, 3) := by decide +kernel
theorem dX4_init_8 : decode cX4_init 8 = .ok (.newarray .int, 2) := by decide +kernel
theorem dX4_init_10 : decode cX4_init 10 = .ok (.putfield 9, 3) := by decide +kernel
theorem dX4_init_13 : decode cX4_init 13 = .ok (.aload_n 0, 1) := by decide +kernel
theorem dX4_init_14 : decode cX4_init 14 = .ok (.sipush 201, 3) := by decide +kernel
theorem dX4_init_17 : decode cX4_init 17 = .ok (.newarray .int, 2) := by decide +kernel
theorem dX4_init_19 : decode cX4_init 19 = .ok (.putfield 15, 3) := by decide +kernel
theorem dX4_init_22 : decode cX4_init 22 = .ok (.return_, 1) := by decide +kernel
theorem dX4_look_0 : decode cX4_look 0 = .ok (.iconst 0, 1) := by decide +kernel
theorem dX4_look_1 : decode cX4_look 1 = .ok (.istore_n 2, 1) := by decide +kernel
theorem dX4_look_2 : decode cX4_look 2 = .ok (.iload_n 2, 1) := by decide +kernel
theorem dX4_look_3 : decode cX4_look 3 = .ok (.sipush 200, 3) := by decide +kernel
theorem dX4_look_6 : decode cX4_look 6 = .ok (.if_icmp .gt 16, 3) := by decide +kernel
theorem dX4_look_9 : decode cX4_look 9 = .ok (.aload_n 0, 1) := by decide +kernel
theorem dX4_look_10 : decode cX4_look 10 = .ok (.getfield 9, 3) := by decide +kernel
theorem dX4_look_13 : decode cX4_look 13 = .ok (.iload_n 2, 1) := by decide +kernel
theorem dX4_look_14 : decode cX4_look 14 = .ok (.iconst 0, 1) := by decide +kernel
theorem dX4_look_15 : decode cX4_look 15 = .ok (.iastore, 1) := by decide +kernel
theorem dX4_look_16 : decode cX4_look 16 = .ok (.iinc 2 1, 3) := by decide +kernel
theorem dX4_look_19 : decode cX4_look 19 = .ok (.goto (-17), 3) := by decide +kernel
theorem dX4_look_22 : decode cX4_look 22 = .ok (.iconst 0, 1) := by decide +kernel
theorem dX4_look_23 : decode cX4_look 23 = .ok (.istore_n 2, 1) := by decide +kernel
theorem dX4_look_24 : decode cX4_look 24 = .ok (.iload_n 2, 1) := by decide +kernel
theorem dX4_look_25 : decode cX4_look 25 = .ok (.aload_n 1, 1) := by decide +kernel
theorem dX4_look_26 : decode cX4_look 26 = .ok (.getfield 18, 3) := by decide +kernel
theorem dX4_look_29 : decode cX4_look 29 = .ok (.if_icmp .ge 92, 3) := by decide +kernel
theorem dX4_look_32 : decode cX4_look 32 = .ok (.aload_n 1, 1) := by decide +kernel
theorem dX4_look_33 : decode cX4_look 33 = .ok (.iload_n 2, 1) := by decide +kernel
theorem dX4_look_34 : decode cX4_look 34 = .ok (.invokevirtual 24, 3) := by decide +kernel
theorem dX4_look_37 : decode cX4_look 37 = .ok (.astore_n 3, 1) := by decide +kernel
theorem dX4_look_38 : decode cX4_look 38 = .ok (.aload_n 3, 1) := by decide +kernel
theorem dX4_look_39 : decode cX4_look 39 = .ok (.ifnull 76, 3) := by decide +kernel
theorem dX4_look_42 : decode cX4_look 42 = .ok (.aload_n 3, 1) := by decide +kernel
theorem dX4_look_43 : decode cX4_look 43 = .ok (.invokevirtual 28, 3) := by decide +kernel
theorem dX4_look_46 : decode cX4_look 46 = .ok (.aload_n 1, 1) := by decide +kernel
theorem dX4_look_47 : decode cX4_look 47 = .ok (.getfield 34, 3) := by decide +kernel
theorem dX4_look_50 : decode cX4_look 50 = .ok (.if_icmp .lt 65, 3) := by decide +kernel
theorem dX4_look_53 : decode cX4_look 53 = .ok (.iconst 0, 1) := by decide +kernel
theorem dX4_look_54 : decode cX4_look 54 = .ok (.aload_n 3, 1) := by decide +kernel
theorem dX4_look_55 : decode cX4_look 55 = .ok (.getfield 37, 3) := by decide +kernel
theorem dX4_look_58 : decode cX4_look 58 = .ok (.aload_n 3, 1) := by decide +kernel
theorem dX4_look_59 : decode cX4_look 59 = .ok (.invokevirtual 40, 3) := by decide +kernel
theorem dX4_look_62 : decode cX4_look 62 = .ok (.isub, 1) := by decide +kernel
theorem dX4_look_63 : decode cX4_look 63 = .ok (.invokestatic 43, 3) := by decide +kernel
theorem dX4_look_66 : decode cX4_look 66 = .ok (.istore 4, 2) := by decide +kernel
theorem dX4_look_68 : decode cX4_look 68 = .ok (.sipush 200, 3) := by decide +kernel
theorem dX4_look_71 : decode cX4_look 71 = .ok (.aload_n 3, 1) := by decide +kernel
theorem dX4_look_72 : decode cX4_look 72 = .ok (.getfield 37, 3) := by decide +kernel
theorem dX4_look_75 : decode cX4_look 75 = .ok (.aload_n 3, 1) := by decide +kernel
theorem dX4_look_76 : decode cX4_look 76 = .ok (.invokevirtual 40, 3) := by decide +kernel
theorem dX4_look_79 : decode cX4_look 79 = .ok (.iadd, 1) := by decide +kernel
theorem dX4_look_80 : decode cX4_look 80 = .ok (.invokestatic 49, 3) := by decide +kernel
theorem dX4_look_83 : decode cX4_look 83 = .ok (.istore 5, 2) := by decide +kernel
theorem dX4_look_85 : decode cX4_look 85 = .ok (.iload 4, 2) := by decide +kernel
theorem dX4_look_87 : decode cX4_look 87 = .ok (.istore 6, 2) := by decide +kernel
theorem dX4_look_89 : decode cX4_look 89 = .ok (.iload 6, 2) := by decide +kernel
theorem dX4_look_91 : decode cX4_look 91 = .ok (.iload 5, 2) := by decide +kernel
theorem dX4_look_93 : decode cX4_look 93 = .ok (.if_icmp .gt 22, 3) := by decide +kernel
theorem dX4_look_96 : decode cX4_look 96 = .ok (.aload_n 0, 1) := by decide +kernel
theorem dX4_look_97 : decode cX4_look 97 = .ok (.getfield 9, 3) := by decide +kernel
theorem dX4_look_100 : decode cX4_look 100 = .ok (.iload 6, 2) := by decide +kernel
theorem dX4_look_102 : decode cX4_look 102 = .ok (.dup2, 1) := by decide +kernel
theorem dX4_look_103 : decode cX4_look 103 = .ok (.iaload, 1) := by decide +kernel
theorem dX4_look_104 : decode cX4_look 104 = .ok (.iconst 1, 1) := by decide +kernel
theorem dX4_look_105 : decode cX4_look 105 = .ok (.iload_n 2, 1) := by decide +kernel
theorem dX4_look_106 : decode cX4_look 106 = .ok (.ishl, 1) := by decide +kernel
theorem dX4_look_107 : decode cX4_look 107 = .ok (.ior, 1) := by decide +kernel
theorem dX4_look_108 : decode cX4_look 108 = .ok (.iastore, 1) := by decide +kernel
theorem dX4_look_109 : decode cX4_look 109 = .ok (.iinc 6 1, 3) := by decide +kernel
theorem dX4_look_112 : decode cX4_look 112 = .ok (.goto (-23), 3) := by decide +kernel
theorem dX4_look_115 : decode cX4_look 115 = .ok (.iinc 2 1, 3) := by decide +kernel
theorem dX4_look_118 : decode cX4_look 118 = .ok (.goto (-94), 3) := by decide +kernel
theorem dX4_look_121 : decode cX4_look 121 = .ok (.return_, 1) := by decide +kernel
theorem dX4_nearTo_0 : decode cX4_nearTo 0 = .ok (.iload_n 1, 1) := by decide +kernel
theorem dX4_nearTo_1 : decode cX4_nearTo 1 = .ok (.ifCond .lt 19, 3) := by decide +kernel
theorem dX4_nearTo_4 : decode cX4_nearTo 4 = .ok (.iload_n 1, 1) := by decide +kernel
theorem dX4_nearTo_5 : decode cX4_nearTo 5 = .ok (.sipush 200, 3) := by decide +kernel
theorem dX4_nearTo_8 : decode cX4_nearTo 8 = .ok (.if_icmp .gt 12, 3) := by decide +kernel
theorem dX4_nearTo_11 : decode cX4_nearTo 11 = .ok (.aload_n 0, 1) := by decide +kernel
theorem dX4_nearTo_12 : decode cX4_nearTo 12 = .ok (.getfield 9, 3) := by decide +kernel
theorem dX4_nearTo_15 : decode cX4_nearTo 15 = .ok (.iload_n 1, 1) := by decide +kernel
theorem dX4_nearTo_16 : decode cX4_nearTo 16 = .ok (.iaload, 1) := by decide +kernel
theorem dX4_nearTo_17 : decode cX4_nearTo 17 = .ok (.goto 4, 3) := by decide +kernel
theorem dX4_nearTo_20 : decode cX4_nearTo 20 = .ok (.iconst 0, 1) := by decide +kernel
theorem dX4_nearTo_21 : decode cX4_nearTo 21 = .ok (.ireturn, 1) := by decide +kernel
theorem dX4_dark_0 : decode cX4_dark 0 = .ok (.iconst 0, 1) := by decide +kernel
theorem dX4_dark_1 : decode cX4_dark 1 = .ok (.istore 4, 2) := by decide +kernel
theorem dX4_dark_3 : decode cX4_dark 3 = .ok (.iload_n 1, 1) := by decide +kernel
theorem dX4_dark_4 : decode cX4_dark 4 = .ok (.istore 5, 2) := by decide +kernel
theorem dX4_dark_6 : decode cX4_dark 6 = .ok (.iload 5, 2) := by decide +kernel
theorem dX4_dark_8 : decode cX4_dark 8 = .ok (.iload_n 2, 1) := by decide +kernel
theorem dX4_dark_9 : decode cX4_dark 9 = .ok (.if_icmp .gt 23, 3) := by decide +kernel
theorem dX4_dark_12 : decode cX4_dark 12 = .ok (.aload_n 0, 1) := by decide +kernel
theorem dX4_dark_13 : decode cX4_dark 13 = .ok (.iload 5, 2) := by decide +kernel
theorem dX4_dark_15 : decode cX4_dark 15 = .ok (.invokevirtual 52, 3) := by decide +kernel
theorem dX4_dark_18 : decode cX4_dark 18 = .ok (.iload_n 3, 1) := by decide +kernel
theorem dX4_dark_19 : decode cX4_dark 19 = .ok (.iand, 1) := by decide +kernel
theorem dX4_dark_20 : decode cX4_dark 20 = .ok (.ifCond .ne 6, 3) := by decide +kernel
theorem dX4_dark_23 : decode cX4_dark 23 = .ok (.iinc 4 1, 3) := by decide +kernel
theorem dX4_dark_26 : decode cX4_dark 26 = .ok (.iinc 5 1, 3) := by decide +kernel
theorem dX4_dark_29 : decode cX4_dark 29 = .ok (.goto (-23), 3) := by decide +kernel
theorem dX4_dark_32 : decode cX4_dark 32 = .ok (.iload 4, 2) := by decide +kernel
theorem dX4_dark_34 : decode cX4_dark 34 = .ok (.ireturn, 1) := by decide +kernel
theorem dX4_minutes_0 : decode cX4_minutes 0 = .ok (.iconst 0, 1) := by decide +kernel
theorem dX4_minutes_1 : decode cX4_minutes 1 = .ok (.aload_n 1, 1) := by decide +kernel
theorem dX4_minutes_2 : decode cX4_minutes 2 = .ok (.iload_n 2, 1) := by decide +kernel
theorem dX4_minutes_3 : decode cX4_minutes 3 = .ok (.invokevirtual 56, 3) := by decide +kernel
theorem dX4_minutes_6 : decode cX4_minutes 6 = .ok (.invokestatic 43, 3) := by decide +kernel
theorem dX4_minutes_9 : decode cX4_minutes 9 = .ok (.istore 4, 2) := by decide +kernel
theorem dX4_minutes_11 : decode cX4_minutes 11 = .ok (.sipush 200, 3) := by decide +kernel
theorem dX4_minutes_14 : decode cX4_minutes 14 = .ok (.aload_n 1, 1) := by decide +kernel
theorem dX4_minutes_15 : decode cX4_minutes 15 = .ok (.iload_n 2, 1) := by decide +kernel
theorem dX4_minutes_16 : decode cX4_minutes 16 = .ok (.invokevirtual 59, 3) := by decide +kernel
theorem dX4_minutes_19 : decode cX4_minutes 19 = .ok (.invokestatic 49, 3) := by decide +kernel
theorem dX4_minutes_22 : decode cX4_minutes 22 = .ok (.istore 5, 2) := by decide +kernel
theorem dX4_minutes_24 : decode cX4_minutes 24 = .ok (.iload 4, 2) := by decide +kernel
theorem dX4_minutes_26 : decode cX4_minutes 26 = .ok (.iload 5, 2) := by decide +kernel
theorem dX4_minutes_28 : decode cX4_minutes 28 = .ok (.if_icmp .le 5, 3) := by decide +kernel
theorem dX4_minutes_31 : decode cX4_minutes 31 = .ok (.iconst 0, 1) := by decide +kernel
theorem dX4_minutes_32 : decode cX4_minutes 32 = .ok (.ireturn, 1) := by decide +kernel
theorem dX4_minutes_33 : decode cX4_minutes 33 = .ok (.iload 4, 2) := by decide +kernel
theorem dX4_minutes_35 : decode cX4_minutes 35 = .ok (.istore 6, 2) := by decide +kernel
theorem dX4_minutes_37 : decode cX4_minutes 37 = .ok (.iload 6, 2) := by decide +kernel
theorem dX4_minutes_39 : decode cX4_minutes 39 = .ok (.iload 5, 2) := by decide +kernel
theorem dX4_minutes_41 : decode cX4_minutes 41 = .ok (.if_icmp .gt 17, 3) := by decide +kernel
theorem dX4_minutes_44 : decode cX4_minutes 44 = .ok (.aload_n 0, 1) := by decide +kernel
theorem dX4_minutes_45 : decode cX4_minutes 45 = .ok (.getfield 15, 3) := by decide +kernel
theorem dX4_minutes_48 : decode cX4_minutes 48 = .ok (.iload 6, 2) := by decide +kernel
theorem dX4_minutes_50 : decode cX4_minutes 50 = .ok (.iconst 0, 1) := by decide +kernel
theorem dX4_minutes_51 : decode cX4_minutes 51 = .ok (.iastore, 1) := by decide +kernel
theorem dX4_minutes_52 : decode cX4_minutes 52 = .ok (.iinc 6 1, 3) := by decide +kernel
theorem dX4_minutes_55 : decode cX4_minutes 55 = .ok (.goto (-18), 3) := by decide +kernel
theorem dX4_minutes_58 : decode cX4_minutes 58 = .ok (.iconst 0, 1) := by decide +kernel
theorem dX4_minutes_59 : decode cX4_minutes 59 = .ok (.istore 6, 2) := by decide +kernel
theorem dX4_minutes_61 : decode cX4_minutes 61 = .ok (.iload 6, 2) := by decide +kernel
theorem dX4_minutes_63 : decode cX4_minutes 63 = .ok (.aload_n 1, 1) := by decide +kernel
theorem dX4_minutes_64 : decode cX4_minutes 64 = .ok (.getfield 18, 3) := by decide +kernel
theorem dX4_minutes_67 : decode cX4_minutes 67 = .ok (.if_icmp .ge 42, 3) := by decide +kernel
theorem dX4_minutes_70 : decode cX4_minutes 70 = .ok (.aload_n 1, 1) := by decide +kernel
theorem dX4_minutes_71 : decode cX4_minutes 71 = .ok (.iload 6, 2) := by decide +kernel
theorem dX4_minutes_73 : decode cX4_minutes 73 = .ok (.invokevirtual 24, 3) := by decide +kernel
theorem dX4_minutes_76 : decode cX4_minutes 76 = .ok (.astore 7, 2) := by decide +kernel
theorem dX4_minutes_78 : decode cX4_minutes 78 = .ok (.aload 7, 2) := by decide +kernel
theorem dX4_minutes_80 : decode cX4_minutes 80 = .ok (.ifnull 23, 3) := by decide +kernel
theorem dX4_minutes_83 : decode cX4_minutes 83 = .ok (.iload_n 3, 1) := by decide +kernel
theorem dX4_minutes_84 : decode cX4_minutes 84 = .ok (.iload 6, 2) := by decide +kernel
theorem dX4_minutes_86 : decode cX4_minutes 86 = .ok (.ishr, 1) := by decide +kernel
theorem dX4_minutes_87 : decode cX4_minutes 87 = .ok (.iconst 1, 1) := by decide +kernel
theorem dX4_minutes_88 : decode cX4_minutes 88 = .ok (.iand, 1) := by decide +kernel
theorem dX4_minutes_89 : decode cX4_minutes 89 = .ok (.iconst 1, 1) := by decide +kernel
theorem dX4_minutes_90 : decode cX4_minutes 90 = .ok (.if_icmp .ne 13, 3) := by decide +kernel
theorem dX4_minutes_93 : decode cX4_minutes 93 = .ok (.aload_n 0, 1) := by decide +kernel
theorem dX4_minutes_94 : decode cX4_minutes 94 = .ok (.aload 7, 2) := by decide +kernel
theorem dX4_minutes_96 : decode cX4_minutes 96 = .ok (.iload 4, 2) := by decide +kernel
theorem dX4_minutes_98 : decode cX4_minutes 98 = .ok (.iload 5, 2) := by decide +kernel
theorem dX4_minutes_100 : decode cX4_minutes 100 = .ok (.invokevirtual 62, 3) := by decide +kernel
theorem dX4_minutes_103 : decode cX4_minutes 103 = .ok (.iinc 6 1, 3) := by decide +kernel
theorem dX4_minutes_106 : decode cX4_minutes 106 = .ok (.goto (-45), 3) := by decide +kernel
theorem dX4_minutes_109 : decode cX4_minutes 109 = .ok (.aload_n 0, 1) := by decide +kernel
theorem dX4_minutes_110 : decode cX4_minutes 110 = .ok (.getfield 15, 3) := by decide +kernel
theorem dX4_minutes_113 : decode cX4_minutes 113 = .ok (.iload 4, 2) := by decide +kernel
theorem dX4_minutes_115 : decode cX4_minutes 115 = .ok (.iaload, 1) := by decide +kernel
theorem dX4_minutes_116 : decode cX4_minutes 116 = .ok (.istore 6, 2) := by decide +kernel
theorem dX4_minutes_118 : decode cX4_minutes 118 = .ok (.iload 4, 2) := by decide +kernel
theorem dX4_minutes_120 : decode cX4_minutes 120 = .ok (.iconst 1, 1) := by decide +kernel
theorem dX4_minutes_121 : decode cX4_minutes 121 = .ok (.iadd, 1) := by decide +kernel
theorem dX4_minutes_122 : decode cX4_minutes 122 = .ok (.istore 7, 2) := by decide +kernel
theorem dX4_minutes_124 : decode cX4_minutes 124 = .ok (.iload 7, 2) := by decide +kernel
theorem dX4_minutes_126 : decode cX4_minutes 126 = .ok (.iload 5, 2) := by decide +kernel
theorem dX4_minutes_128 : decode cX4_minutes 128 = .ok (.if_icmp .gt 23, 3) := by decide +kernel
theorem dX4_minutes_131 : decode cX4_minutes 131 = .ok (.iload 6, 2) := by decide +kernel
theorem dX4_minutes_133 : decode cX4_minutes 133 = .ok (.aload_n 0, 1) := by decide +kernel
theorem dX4_minutes_134 : decode cX4_minutes 134 = .ok (.getfield 15, 3) := by decide +kernel
theorem dX4_minutes_137 : decode cX4_minutes 137 = .ok (.iload 7, 2) := by decide +kernel
theorem dX4_minutes_139 : decode cX4_minutes 139 = .ok (.iaload, 1) := by decide +kernel
theorem dX4_minutes_140 : decode cX4_minutes 140 = .ok (.invokestatic 49, 3) := by decide +kernel
theorem dX4_minutes_143 : decode cX4_minutes 143 = .ok (.istore 6, 2) := by decide +kernel
theorem dX4_minutes_145 : decode cX4_minutes 145 = .ok (.iinc 7 1, 3) := by decide +kernel
theorem dX4_minutes_148 : decode cX4_minutes 148 = .ok (.goto (-24), 3) := by decide +kernel
theorem dX4_minutes_151 : decode cX4_minutes 151 = .ok (.iload 6, 2) := by decide +kernel
theorem dX4_minutes_153 : decode cX4_minutes 153 = .ok (.ireturn, 1) := by decide +kernel
theorem dX4_lengthen_0 : decode cX4_lengthen 0 = .ok (.iload_n 2, 1) := by decide +kernel
theorem dX4_lengthen_1 : decode cX4_lengthen 1 = .ok (.aload_n 1, 1) := by decide +kernel
theorem dX4_lengthen_2 : decode cX4_lengthen 2 = .ok (.getfield 37, 3) := by decide +kernel
theorem dX4_lengthen_5 : decode cX4_lengthen 5 = .ok (.aload_n 1, 1) := by decide +kernel
theorem dX4_lengthen_6 : decode cX4_lengthen 6 = .ok (.invokevirtual 40, 3) := by decide +kernel
theorem dX4_lengthen_9 : decode cX4_lengthen 9 = .ok (.isub, 1) := by decide +kernel
theorem dX4_lengthen_10 : decode cX4_lengthen 10 = .ok (.invokestatic 43, 3) := by decide +kernel
theorem dX4_lengthen_13 : decode cX4_lengthen 13 = .ok (.istore 4, 2) := by decide +kernel
theorem dX4_lengthen_15 : decode cX4_lengthen 15 = .ok (.iload_n 3, 1) := by decide +kernel
theorem dX4_lengthen_16 : decode cX4_lengthen 16 = .ok (.aload_n 1, 1) := by decide +kernel
theorem dX4_lengthen_17 : decode cX4_lengthen 17 = .ok (.getfield 37, 3) := by decide +kernel
theorem dX4_lengthen_20 : decode cX4_lengthen 20 = .ok (.aload_n 1, 1) := by decide +kernel
theorem dX4_lengthen_21 : decode cX4_lengthen 21 = .ok (.invokevirtual 40, 3) := by decide +kernel
theorem dX4_lengthen_24 : decode cX4_lengthen 24 = .ok (.iadd, 1) := by decide +kernel
theorem dX4_lengthen_25 : decode cX4_lengthen 25 = .ok (.invokestatic 49, 3) := by decide +kernel
theorem dX4_lengthen_28 : decode cX4_lengthen 28 = .ok (.istore 5, 2) := by decide +kernel
theorem dX4_lengthen_30 : decode cX4_lengthen 30 = .ok (.aload_n 1, 1) := by decide +kernel
theorem dX4_lengthen_31 : decode cX4_lengthen 31 = .ok (.invokevirtual 28, 3) := by decide +kernel
theorem dX4_lengthen_34 : decode cX4_lengthen 34 = .ok (.istore 6, 2) := by decide +kernel
theorem dX4_lengthen_36 : decode cX4_lengthen 36 = .ok (.iload 4, 2) := by decide +kernel
theorem dX4_lengthen_38 : decode cX4_lengthen 38 = .ok (.istore 7, 2) := by decide +kernel
theorem dX4_lengthen_40 : decode cX4_lengthen 40 = .ok (.iload 7, 2) := by decide +kernel
theorem dX4_lengthen_42 : decode cX4_lengthen 42 = .ok (.iload 5, 2) := by decide +kernel
theorem dX4_lengthen_44 : decode cX4_lengthen 44 = .ok (.if_icmp .gt 36, 3) := by decide +kernel
theorem dX4_lengthen_47 : decode cX4_lengthen 47 = .ok (.iload 7, 2) := by decide +kernel
theorem dX4_lengthen_49 : decode cX4_lengthen 49 = .ok (.invokestatic 66, 3) := by decide +kernel
theorem dX4_lengthen_52 : decode cX4_lengthen 52 = .ok (.ifCond .eq 22, 3) := by decide +kernel
theorem dX4_lengthen_55 : decode cX4_lengthen 55 = .ok (.aload_n 0, 1) := by decide +kernel
theorem dX4_lengthen_56 : decode cX4_lengthen 56 = .ok (.getfield 15, 3) := by decide +kernel
theorem dX4_lengthen_59 : decode cX4_lengthen 59 = .ok (.iload 7, 2) := by decide +kernel
theorem dX4_lengthen_61 : decode cX4_lengthen 61 = .ok (.aload_n 0, 1) := by decide +kernel
theorem dX4_lengthen_62 : decode cX4_lengthen 62 = .ok (.getfield 15, 3) := by decide +kernel
theorem dX4_lengthen_65 : decode cX4_lengthen 65 = .ok (.iload 7, 2) := by decide +kernel
theorem dX4_lengthen_67 : decode cX4_lengthen 67 = .ok (.iaload, 1) := by decide +kernel
theorem dX4_lengthen_68 : decode cX4_lengthen 68 = .ok (.iload 6, 2) := by decide +kernel
theorem dX4_lengthen_70 : decode cX4_lengthen 70 = .ok (.invokestatic 43, 3) := by decide +kernel
theorem dX4_lengthen_73 : decode cX4_lengthen 73 = .ok (.iastore, 1) := by decide +kernel
theorem dX4_lengthen_74 : decode cX4_lengthen 74 = .ok (.iinc 7 1, 3) := by decide +kernel
theorem dX4_lengthen_77 : decode cX4_lengthen 77 = .ok (.goto (-37), 3) := by decide +kernel
theorem dX4_lengthen_80 : decode cX4_lengthen 80 = .ok (.return_, 1) := by decide +kernel
theorem dX5_init_0 : decode cX5_init 0 = .ok (.aload_n 0, 1) := by decide +kernel
theorem dX5_init_1 : decode cX5_init 1 = .ok (.invokespecial 3, 3) := by decide +kernel
theorem dX5_init_4 : decode cX5_init 4 = .ok (.aload_n 0, 1) := by decide +kernel
theorem dX5_init_5 : decode cX5_init 5 = .ok (.bipush 80, 2) := by decide +kernel
theorem dX5_init_7 : decode cX5_init 7 = .ok (.newarray .byte, 2) := by decide +kernel
theorem dX5_init_9 : decode cX5_init 9 = .ok (.putfield 9, 3) := by decide +kernel
theorem dX5_init_12 : decode cX5_init 12 = .ok (.return_, 1) := by decide +kernel
theorem dX5_append_0 : decode cX5_append 0 = .ok (.aload_n 0, 1) := by decide +kernel
theorem dX5_append_1 : decode cX5_append 1 = .ok (.getfield 15, 3) := by decide +kernel
theorem dX5_append_4 : decode cX5_append 4 = .ok (.ifCond .lt 12, 3) := by decide +kernel
theorem dX5_append_7 : decode cX5_append 7 = .ok (.aload_n 0, 1) := by decide +kernel
theorem dX5_append_8 : decode cX5_append 8 = .ok (.getfield 15, 3) := by decide +kernel
theorem dX5_append_11 : decode cX5_append 11 = .ok (.bipush 80, 2) := by decide +kernel
theorem dX5_append_13 : decode cX5_append 13 = .ok (.if_icmp .lt 5, 3) := by decide +kernel
theorem dX5_append_16 : decode cX5_append 16 = .ok (.iconst 0, 1) := by decide +kernel
theorem dX5_append_17 : decode cX5_append 17 = .ok (.ireturn, 1) := by decide +kernel
theorem dX5_append_18 : decode cX5_append 18 = .ok (.aload_n 0, 1) := by decide +kernel
theorem dX5_append_19 : decode cX5_append 19 = .ok (.getfield 9, 3) := by decide +kernel
theorem dX5_append_22 : decode cX5_append 22 = .ok (.aload_n 0, 1) := by decide +kernel
theorem dX5_append_23 : decode cX5_append 23 = .ok (.getfield 15, 3) := by decide +kernel
theorem dX5_append_26 : decode cX5_append 26 = .ok (.iload_n 1, 1) := by decide +kernel
theorem dX5_append_27 : decode cX5_append 27 = .ok (.i2b, 1) := by decide +kernel
theorem dX5_append_28 : decode cX5_append 28 = .ok (.bastore, 1) := by decide +kernel
theorem dX5_append_29 : decode cX5_append 29 = .ok (.aload_n 0, 1) := by decide +kernel
theorem dX5_append_30 : decode cX5_append 30 = .ok (.dup, 1) := by decide +kernel
theorem dX5_append_31 : decode cX5_append 31 = .ok (.getfield 15, 3) := by decide +kernel
theorem dX5_append_34 : decode cX5_append 34 = .ok (.iconst 1, 1) := by decide +kernel
theorem dX5_append_35 : decode cX5_append 35 = .ok (.iadd, 1) := by decide +kernel
theorem dX5_append_36 : decode cX5_append 36 = .ok (.putfield 15, 3) := by decide +kernel
theorem dX5_append_39 : decode cX5_append 39 = .ok (.iconst 1, 1) := by decide +kernel
theorem dX5_append_40 : decode cX5_append 40 = .ok (.ireturn, 1) := by decide +kernel
theorem dX5_readInto_0 : decode cX5_readInto 0 = .ok (.aload_n 1, 1) := by decide +kernel
theorem dX5_readInto_1 : decode cX5_readInto 1 = .ok (.iconst 0, 1) := by decide +kernel
theorem dX5_readInto_2 : decode cX5_readInto 2 = .ok (.putfield 19, 3) := by decide +kernel
theorem dX5_readInto_5 : decode cX5_readInto 5 = .ok (.aload_n 1, 1) := by decide +kernel
theorem dX5_readInto_6 : decode cX5_readInto 6 = .ok (.iconst 0, 1) := by decide +kernel
theorem dX5_readInto_7 : decode cX5_readInto 7 = .ok (.putfield 24, 3) := by decide +kernel
theorem dX5_readInto_10 : decode cX5_readInto 10 = .ok (.aload_n 0, 1) := by decide +kernel
theorem dX5_readInto_11 : decode cX5_readInto 11 = .ok (.iconst 0, 1) := by decide +kernel
theorem dX5_readInto_12 : decode cX5_readInto 12 = .ok (.putfield 27, 3) := by decide +kernel
theorem dX5_readInto_15 : decode cX5_readInto 15 = .ok (.aload_n 0, 1) := by decide +kernel
theorem dX5_readInto_16 : decode cX5_readInto 16 = .ok (.iconst (-1), 1) := by decide +kernel
theorem dX5_readInto_17 : decode cX5_readInto 17 = .ok (.putfield 30, 3) := by decide +kernel
theorem dX5_readInto_20 : decode cX5_readInto 20 = .ok (.iconst 0, 1) := by decide +kernel
theorem dX5_readInto_21 : decode cX5_readInto 21 = .ok (.istore_n 2, 1) := by decide +kernel
theorem dX5_readInto_22 : decode cX5_readInto 22 = .ok (.iload_n 2, 1) := by decide +kernel
theorem dX5_readInto_23 : decode cX5_readInto 23 = .ok (.bipush 80, 2) := by decide +kernel
theorem dX5_readInto_25 : decode cX5_readInto 25 = .ok (.if_icmp .ge 88, 3) := by decide +kernel
theorem dX5_readInto_28 : decode cX5_readInto 28 = .ok (.aload_n 0, 1) := by decide +kernel
theorem dX5_readInto_29 : decode cX5_readInto 29 = .ok (.getfield 27, 3) := by decide +kernel
theorem dX5_readInto_32 : decode cX5_readInto 32 = .ok (.aload_n 0, 1) := by decide +kernel
theorem dX5_readInto_33 : decode cX5_readInto 33 = .ok (.getfield 15, 3) := by decide +kernel
theorem dX5_readInto_36 : decode cX5_readInto 36 = .ok (.if_icmp .ge 77, 3) := by decide +kernel
theorem dX5_readInto_39 : decode cX5_readInto 39 = .ok (.aload_n 0, 1) := by decide +kernel
theorem dX5_readInto_40 : decode cX5_readInto 40 = .ok (.getfield 30, 3) := by decide +kernel
theorem dX5_readInto_43 : decode cX5_readInto 43 = .ok (.iconst (-1), 1) := by decide +kernel
theorem dX5_readInto_44 : decode cX5_readInto 44 = .ok (.if_icmp .ne 69, 3) := by decide +kernel
theorem dX5_readInto_47 : decode cX5_readInto 47 = .ok (.aload_n 0, 1) := by decide +kernel
theorem dX5_readInto_48 : decode cX5_readInto 48 = .ok (.invokevirtual 33, 3) := by decide +kernel
theorem dX5_readInto_51 : decode cX5_readInto 51 = .ok (.bipush 112, 2) := by decide +kernel
theorem dX5_readInto_53 : decode cX5_readInto 53 = .ok (.if_icmp .ne 20, 3) := by decide +kernel
theorem dX5_readInto_56 : decode cX5_readInto 56 = .ok (.aload_n 1, 1) := by decide +kernel
theorem dX5_readInto_57 : decode cX5_readInto 57 = .ok (.getfield 19, 3) := by decide +kernel
theorem dX5_readInto_60 : decode cX5_readInto 60 = .ok (.bipush 10, 2) := by decide +kernel
theorem dX5_readInto_62 : decode cX5_readInto 62 = .ok (.if_icmp .ge 11, 3) := by decide +kernel
theorem dX5_readInto_65 : decode cX5_readInto 65 = .ok (.aload_n 0, 1) := by decide +kernel
theorem dX5_readInto_66 : decode cX5_readInto 66 = .ok (.aload_n 1, 1) := by decide +kernel
theorem dX5_readInto_67 : decode cX5_readInto 67 = .ok (.invokevirtual 37, 3) := by decide +kernel
theorem dX5_readInto_70 : decode cX5_readInto 70 = .ok (.goto 37, 3) := by decide +kernel
theorem dX5_readInto_73 : decode cX5_readInto 73 = .ok (.aload_n 0, 1) := by decide +kernel
theorem dX5_readInto_74 : decode cX5_readInto 74 = .ok (.invokevirtual 33, 3) := by decide +kernel
theorem dX5_readInto_77 : decode cX5_readInto 77 = .ok (.bipush 114, 2) := by decide +kernel
theorem dX5_readInto_79 : decode cX5_readInto 79 = .ok (.if_icmp .ne 20, 3) := by decide +kernel
theorem dX5_readInto_82 : decode cX5_readInto 82 = .ok (.aload_n 1, 1) := by decide +kernel
theorem dX5_readInto_83 : decode cX5_readInto 83 = .ok (.getfield 24, 3) := by decide +kernel
theorem dX5_readInto_86 : decode cX5_readInto 86 = .ok (.bipush 6, 2) := by decide +kernel
theorem dX5_readInto_88 : decode cX5_readInto 88 = .ok (.if_icmp .ge 11, 3) := by decide +kernel
theorem dX5_readInto_91 : decode cX5_readInto 91 = .ok (.aload_n 0, 1) := by decide +kernel
theorem dX5_readInto_92 : decode cX5_readInto 92 = .ok (.aload_n 1, 1) := by decide +kernel
theorem dX5_readInto_93 : decode cX5_readInto 93 = .ok (.invokevirtual 41, 3) := by decide +kernel
theorem dX5_readInto_96 : decode cX5_readInto 96 = .ok (.goto 11, 3) := by decide +kernel
theorem dX5_readInto_99 : decode cX5_readInto 99 = .ok (.aload_n 0, 1) := by decide +kernel
theorem dX5_readInto_100 : decode cX5_readInto 100 = .ok (.aload_n 0, 1) := by decide +kernel
theorem dX5_readInto_101 : decode cX5_readInto 101 = .ok (.getfield 27, 3) := by decide +kernel
theorem dX5_readInto_104 : decode cX5_readInto 104 = .ok (.invokevirtual 44, 3) := by decide +kernel
theorem dX5_readInto_107 : decode cX5_readInto 107 = .ok (.iinc 2 1, 3) := by decide +kernel
theorem dX5_readInto_110 : decode cX5_readInto 110 = .ok (.goto (-88), 3) := by decide +kernel
theorem dX5_readInto_113 : decode cX5_readInto 113 = .ok (.aload_n 0, 1) := by decide +kernel
theorem dX5_readInto_114 : decode cX5_readInto 114 = .ok (.getfield 30, 3) := by decide +kernel
theorem dX5_readInto_117 : decode cX5_readInto 117 = .ok (.ireturn, 1) := by decide +kernel
theorem dX5_readLight_0 : decode cX5_readLight 0 = .ok (.aload_n 0, 1) := by decide +kernel
theorem dX5_readLight_1 : decode cX5_readLight 1 = .ok (.bipush 112, 2) := by decide +kernel
theorem dX5_readLight_3 : decode cX5_readLight 3 = .ok (.invokevirtual 48, 3) := by decide +kernel
theorem dX5_readLight_6 : decode cX5_readLight 6 = .ok (.aload_n 0, 1) := by decide +kernel
theorem dX5_readLight_7 : decode cX5_readLight 7 = .ok (.iconst 3, 1) := by decide +kernel
theorem dX5_readLight_8 : decode cX5_readLight 8 = .ok (.iconst 0, 1) := by decide +kernel
theorem dX5_readLight_9 : decode cX5_readLight 9 = .ok (.sipush 200, 3) := by decide +kernel
theorem dX5_readLight_12 : decode cX5_readLight 12 = .ok (.invokevirtual 51, 3) := by decide +kernel
theorem dX5_readLight_15 : decode cX5_readLight 15 = .ok (.istore_n 2, 1) := by decide +kernel
theorem dX5_readLight_16 : decode cX5_readLight 16 = .ok (.aload_n 0, 1) := by decide +kernel
theorem dX5_readLight_17 : decode cX5_readLight 17 = .ok (.bipush 99, 2) := by decide +kernel
theorem dX5_readLight_19 : decode cX5_readLight 19 = .ok (.invokevirtual 48, 3) := by decide +kernel
theorem dX5_readLight_22 : decode cX5_readLight 22 = .ok (.aload_n 0, 1) := by decide +kernel
theorem dX5_readLight_23 : decode cX5_readLight 23 = .ok (.iconst 1, 1) := by decide +kernel
theorem dX5_readLight_24 : decode cX5_readLight 24 = .ok (.iconst 0, 1) := by decide +kernel
theorem dX5_readLight_25 : decode cX5_readLight 25 = .ok (.iconst 3, 1) := by decide +kernel
theorem dX5_readLight_26 : decode cX5_readLight 26 = .ok (.invokevirtual 51, 3) := by decide +kernel
theorem dX5_readLight_29 : decode cX5_readLight 29 = .ok (.istore_n 3, 1) := by decide +kernel
theorem dX5_readLight_30 : decode cX5_readLight 30 = .ok (.aload_n 0, 1) := by decide +kernel
theorem dX5_readLight_31 : decode cX5_readLight 31 = .ok (.bipush 98, 2) := by decide +kernel
theorem dX5_readLight_33 : decode cX5_readLight 33 = .ok (.invokevirtual 48, 3) := by decide +kernel
theorem dX5_readLight_36 : decode cX5_readLight 36 = .ok (.aload_n 0, 1) := by decide +kernel
theorem dX5_readLight_37 : decode cX5_readLight 37 = .ok (.iconst 1, 1) := by decide +kernel
theorem dX5_readLight_38 : decode cX5_readLight 38 = .ok (.iconst 0, 1) := by decide +kernel
theorem dX5_readLight_39 : decode cX5_readLight 39 = .ok (.iconst 3, 1) := by decide +kernel
theorem dX5_readLight_40 : decode cX5_readLight 40 = .ok (.invokevirtual 51, 3) := by decide +kernel
theorem dX5_readLight_43 : decode cX5_readLight 43 = .ok (.istore 4, 2) := by decide +kernel
theorem dX5_readLight_45 : decode cX5_readLight 45 = .ok (.aload_n 0, 1) := by decide +kernel
theorem dX5_readLight_46 : decode cX5_readLight 46 = .ok (.bipush 108, 2) := by decide +kernel
theorem dX5_readLight_48 : decode cX5_readLight 48 = .ok (.invokevirtual 48, 3) := by decide +kernel
theorem dX5_readLight_51 : decode cX5_readLight 51 = .ok (.aload_n 0, 1) := by decide +kernel
theorem dX5_readLight_52 : decode cX5_readLight 52 = .ok (.iconst 1, 1) := by decide +kernel
theorem dX5_readLight_53 : decode cX5_readLight 53 = .ok (.iconst 0, 1) := by decide +kernel
theorem dX5_readLight_54 : decode cX5_readLight 54 = .ok (.iconst 2, 1) := by decide +kernel
theorem dX5_readLight_55 : decode cX5_readLight 55 = .ok (.invokevirtual 51, 3) := by decide +kernel
theorem dX5_readLight_58 : decode cX5_readLight 58 = .ok (.istore 5, 2) := by decide +kernel
theorem dX5_readLight_60 : decode cX5_readLight 60 = .ok (.aload_n 0, 1) := by decide +kernel
theorem dX5_readLight_61 : decode cX5_readLight 61 = .ok (.invokevirtual 33, 3) := by decide +kernel
theorem dX5_readLight_64 : decode cX5_readLight 64 = .ok (.bipush 109, 2) := by decide +kernel
theorem dX5_readLight_66 : decode cX5_readLight 66 = .ok (.if_icmp .ne 7, 3) := by decide +kernel
theorem dX5_readLight_69 : decode cX5_readLight 69 = .ok (.iconst 1, 1) := by decide +kernel
theorem dX5_readLight_70 : decode cX5_readLight 70 = .ok (.goto 4, 3) := by decide +kernel
theorem dX5_readLight_73 : decode cX5_readLight 73 = .ok (.iconst 0, 1) := by decide +kernel
theorem dX5_readLight_74 : decode cX5_readLight 74 = .ok (.istore 6, 2) := by decide +kernel
theorem dX5_readLight_76 : decode cX5_readLight 76 = .ok (.iload 6, 2) := by decide +kernel
theorem dX5_readLight_78 : decode cX5_readLight 78 = .ok (.ifCond .eq 9, 3) := by decide +kernel
theorem dX5_readLight_81 : decode cX5_readLight 81 = .ok (.aload_n 0, 1) := by decide +kernel
theorem dX5_readLight_82 : decode cX5_readLight 82 = .ok (.bipush 109, 2) := by decide +kernel
theorem dX5_readLight_84 : decode cX5_readLight 84 = .ok (.invokevirtual 48, 3) := by decide +kernel
theorem dX5_readLight_87 : decode cX5_readLight 87 = .ok (.aload_n 0, 1) := by decide +kernel
theorem dX5_readLight_88 : decode cX5_readLight 88 = .ok (.bipush 59, 2) := by decide +kernel
theorem dX5_readLight_90 : decode cX5_readLight 90 = .ok (.invokevirtual 48, 3) := by decide +kernel
theorem dX5_readLight_93 : decode cX5_readLight 93 = .ok (.aload_n 0, 1) := by decide +kernel
theorem dX5_readLight_94 : decode cX5_readLight 94 = .ok (.getfield 30, 3) := by decide +kernel
theorem dX5_readLight_97 : decode cX5_readLight 97 = .ok (.iconst (-1), 1) := by decide +kernel
theorem dX5_readLight_98 : decode cX5_readLight 98 = .ok (.if_icmp .ne 10, 3) := by decide +kernel
theorem dX5_readLight_101 : decode cX5_readLight 101 = .ok (.aload_n 1, 1) := by decide +kernel
theorem dX5_readLight_102 : decode cX5_readLight 102 = .ok (.invokevirtual 55, 3) := by decide +kernel
theorem dX5_readLight_105 : decode cX5_readLight 105 = .ok (.goto 4, 3) := by decide +kernel
theorem dX5_readLight_108 : decode cX5_readLight 108 = .ok (.aconst_null, 1) := by decide +kernel
theorem dX5_readLight_109 : decode cX5_readLight 109 = .ok (.astore 7, 2) := by decide +kernel
theorem dX5_readLight_111 : decode cX5_readLight 111 = .ok (.aload 7, 2) := by decide +kernel
theorem dX5_readLight_113 : decode cX5_readLight 113 = .ok (.ifnull 16, 3) := by decide +kernel
theorem dX5_readLight_116 : decode cX5_readLight 116 = .ok (.aload 7, 2) := by decide +kernel
theorem dX5_readLight_118 : decode cX5_readLight 118 = .ok (.iload_n 2, 1) := by decide +kernel
theorem dX5_readLight_119 : decode cX5_readLight 119 = .ok (.iload_n 3, 1) := by decide +kernel
theorem dX5_readLight_120 : decode cX5_readLight 120 = .ok (.iload 4, 2) := by decide +kernel
theorem dX5_readLight_122 : decode cX5_readLight 122 = .ok (.iload 5, 2) := by decide +kernel
theorem dX5_readLight_124 : decode cX5_readLight 124 = .ok (.iload 6, 2) := by decide +kernel
theorem dX5_readLight_126 : decode cX5_readLight 126 = .ok (.invokevirtual 59, 3) := by decide +kernel
theorem dX5_readLight_129 : decode cX5_readLight 129 = .ok (.return_, 1) := by decide +kernel
theorem dX5_readRoute_0 : decode cX5_readRoute 0 = .ok (.aload_n 0, 1) := by decide +kernel
theorem dX5_readRoute_1 : decode cX5_readRoute 1 = .ok (.bipush 114, 2) := by decide +kernel
theorem dX5_readRoute_3 : decode cX5_readRoute 3 = .ok (.invokevirtual 48, 3) := by decide +kernel
theorem dX5_readRoute_6 : decode cX5_readRoute 6 = .ok (.aload_n 0, 1) := by decide +kernel
theorem dX5_readRoute_7 : decode cX5_readRoute 7 = .ok (.iconst 3, 1) := by decide +kernel
theorem dX5_readRoute_8 : decode cX5_readRoute 8 = .ok (.iconst 0, 1) := by decide +kernel
theorem dX5_readRoute_9 : decode cX5_readRoute 9 = .ok (.sipush 200, 3) := by decide +kernel
theorem dX5_readRoute_12 : decode cX5_readRoute 12 = .ok (.invokevirtual 51, 3) := by decide +kernel
theorem dX5_readRoute_15 : decode cX5_readRoute 15 = .ok (.istore_n 2, 1) := by decide +kernel
theorem dX5_readRoute_16 : decode cX5_readRoute 16 = .ok (.aload_n 0, 1) := by decide +kernel
theorem dX5_readRoute_17 : decode cX5_readRoute 17 = .ok (.bipush 45, 2) := by decide +kernel
theorem dX5_readRoute_19 : decode cX5_readRoute 19 = .ok (.invokevirtual 48, 3) := by decide +kernel
theorem dX5_readRoute_22 : decode cX5_readRoute 22 = .ok (.aload_n 0, 1) := by decide +kernel
theorem dX5_readRoute_23 : decode cX5_readRoute 23 = .ok (.iconst 3, 1) := by decide +kernel
theorem dX5_readRoute_24 : decode cX5_readRoute 24 = .ok (.iload_n 2, 1) := by decide +kernel
theorem dX5_readRoute_25 : decode cX5_readRoute 25 = .ok (.sipush 200, 3) := by decide +kernel
theorem dX5_readRoute_28 : decode cX5_readRoute 28 = .ok (.invokevirtual 51, 3) := by decide +kernel
theorem dX5_readRoute_31 : decode cX5_readRoute 31 = .ok (.istore_n 3, 1) := by decide +kernel
theorem dX5_readRoute_32 : decode cX5_readRoute 32 = .ok (.aload_n 0, 1) := by decide +kernel
theorem dX5_readRoute_33 : decode cX5_readRoute 33 = .ok (.bipush 59, 2) := by decide +kernel
theorem dX5_readRoute_35 : decode cX5_readRoute 35 = .ok (.invokevirtual 48, 3) := by decide +kernel
theorem dX5_readRoute_38 : decode cX5_readRoute 38 = .ok (.aload_n 0, 1) := by decide +kernel
theorem dX5_readRoute_39 : decode cX5_readRoute 39 = .ok (.getfield 30, 3) := by decide +kernel
theorem dX5_readRoute_42 : decode cX5_readRoute 42 = .ok (.iconst (-1), 1) := by decide +kernel
theorem dX5_readRoute_43 : decode cX5_readRoute 43 = .ok (.if_icmp .ne 9, 3) := by decide +kernel
theorem dX5_readRoute_46 : decode cX5_readRoute 46 = .ok (.aload_n 1, 1) := by decide +kernel
theorem dX5_readRoute_47 : decode cX5_readRoute 47 = .ok (.iload_n 2, 1) := by decide +kernel
theorem dX5_readRoute_48 : decode cX5_readRoute 48 = .ok (.iload_n 3, 1) := by decide +kernel
theorem dX5_readRoute_49 : decode cX5_readRoute 49 = .ok (.invokevirtual 65, 3) := by decide +kernel
theorem dX5_readRoute_52 : decode cX5_readRoute 52 = .ok (.return_, 1) := by decide +kernel
theorem dX5_peek_0 : decode cX5_peek 0 = .ok (.aload_n 0, 1) := by decide +kernel
theorem dX5_peek_1 : decode cX5_peek 1 = .ok (.getfield 27, 3) := by decide +kernel
theorem dX5_peek_4 : decode cX5_peek 4 = .ok (.ifCond .lt 35, 3) := by decide +kernel
theorem dX5_peek_7 : decode cX5_peek 7 = .ok (.aload_n 0, 1) := by decide +kernel
theorem dX5_peek_8 : decode cX5_peek 8 = .ok (.getfield 27, 3) := by decide +kernel
theorem dX5_peek_11 : decode cX5_peek 11 = .ok (.aload_n 0, 1) := by decide +kernel
theorem dX5_peek_12 : decode cX5_peek 12 = .ok (.getfield 15, 3) := by decide +kernel
theorem dX5_peek_15 : decode cX5_peek 15 = .ok (.if_icmp .ge 24, 3) := by decide +kernel
theorem dX5_peek_18 : decode cX5_peek 18 = .ok (.aload_n 0, 1) := by decide +kernel
theorem dX5_peek_19 : decode cX5_peek 19 = .ok (.getfield 27, 3) := by decide +kernel
theorem dX5_peek_22 : decode cX5_peek 22 = .ok (.bipush 80, 2) := by decide +kernel
theorem dX5_peek_24 : decode cX5_peek 24 = .ok (.if_icmp .ge 15, 3) := by decide +kernel
theorem dX5_peek_27 : decode cX5_peek 27 = .ok (.aload_n 0, 1) := by decide +kernel
theorem dX5_peek_28 : decode cX5_peek 28 = .ok (.getfield 9, 3) := by decide +kernel
theorem dX5_peek_31 : decode cX5_peek 31 = .ok (.aload_n 0, 1) := by decide +kernel
theorem dX5_peek_32 : decode cX5_peek 32 = .ok (.getfield 27, 3) := by decide +kernel
theorem dX5_peek_35 : decode cX5_peek 35 = .ok (.baload, 1) := by decide +kernel
theorem dX5_peek_36 : decode cX5_peek 36 = .ok (.goto 4, 3) := by decide +kernel
theorem dX5_peek_39 : decode cX5_peek 39 = .ok (.iconst (-1), 1) := by decide +kernel
theorem dX5_peek_40 : decode cX5_peek 40 = .ok (.ireturn, 1) := by decide +kernel
theorem dX5_expect_0 : decode cX5_expect 0 = .ok (.aload_n 0, 1) := by decide +kernel
theorem dX5_expect_1 : decode cX5_expect 1 = .ok (.invokevirtual 33, 3) := by decide +kernel
theorem dX5_expect_4 : decode cX5_expect 4 = .ok (.iload_n 1, 1) := by decide +kernel
theorem dX5_expect_5 : decode cX5_expect 5 = .ok (.if_icmp .ne 16, 3) := by decide +kernel
theorem dX5_expect_8 : decode cX5_expect 8 = .ok (.aload_n 0, 1) := by decide +kernel
theorem dX5_expect_9 : decode cX5_expect 9 = .ok (.dup, 1) := by decide +kernel
theorem dX5_expect_10 : decode cX5_expect 10 = .ok (.getfield 27, 3) := by decide +kernel
theorem dX5_expect_13 : decode cX5_expect 13 = .ok (.iconst 1, 1) := by decide +kernel
theorem dX5_expect_14 : decode cX5_expect 14 = .ok (.iadd, 1) := by decide +kernel
theorem dX5_expect_15 : decode cX5_expect 15 = .ok (.putfield 27, 3) := by decide +kernel
theorem dX5_expect_18 : decode cX5_expect 18 = .ok (.goto 11, 3) := by decide +kernel
theorem dX5_expect_21 : decode cX5_expect 21 = .ok (.aload_n 0, 1) := by decide +kernel
theorem dX5_expect_22 : decode cX5_expect 22 = .ok (.aload_n 0, 1) := by decide +kernel
theorem dX5_expect_23 : decode cX5_expect 23 = .ok (.getfield 27, 3) := by decide +kernel
theorem dX5_expect_26 : decode cX5_expect 26 = .ok (.invokevirtual 44, 3) := by decide +kernel
theorem dX5_expect_29 : decode cX5_expect 29 = .ok (.return_, 1) := by decide +kernel
theorem dX5_readNumber_0 : decode cX5_readNumber 0 = .ok (.aload_n 0, 1) := by decide +kernel
theorem dX5_readNumber_1 : decode cX5_readNumber 1 = .ok (.getfield 27, 3) := by decide +kernel
theorem dX5_readNumber_4 : decode cX5_readNumber 4 = .ok (.istore 4, 2) := by decide +kernel
theorem dX5_readNumber_6 : decode cX5_readNumber 6 = .ok (.iconst 0, 1) := by decide +kernel
theorem dX5_readNumber_7 : decode cX5_readNumber 7 = .ok (.istore 5, 2) := by decide +kernel
theorem dX5_readNumber_9 : decode cX5_readNumber 9 = .ok (.iconst 0, 1) := by decide +kernel
theorem dX5_readNumber_10 : decode cX5_readNumber 10 = .ok (.istore 6, 2) := by decide +kernel
theorem dX5_readNumber_12 : decode cX5_readNumber 12 = .ok (.iload 6, 2) := by decide +kernel
theorem dX5_readNumber_14 : decode cX5_readNumber 14 = .ok (.iload_n 1, 1) := by decide +kernel
theorem dX5_readNumber_15 : decode cX5_readNumber 15 = .ok (.if_icmp .ge 41, 3) := by decide +kernel
theorem dX5_readNumber_18 : decode cX5_readNumber 18 = .ok (.aload_n 0, 1) := by decide +kernel
theorem dX5_readNumber_19 : decode cX5_readNumber 19 = .ok (.invokevirtual 69, 3) := by decide +kernel
theorem dX5_readNumber_22 : decode cX5_readNumber 22 = .ok (.ifCond .eq 34, 3) := by decide +kernel
theorem dX5_readNumber_25 : decode cX5_readNumber 25 = .ok (.bipush 10, 2) := by decide +kernel
theorem dX5_readNumber_27 : decode cX5_readNumber 27 = .ok (.iload 5, 2) := by decide +kernel
theorem dX5_readNumber_29 : decode cX5_readNumber 29 = .ok (.imul, 1) := by decide +kernel
theorem dX5_readNumber_30 : decode cX5_readNumber 30 = .ok (.aload_n 0, 1) := by decide +kernel
theorem dX5_readNumber_31 : decode cX5_readNumber 31 = .ok (.invokevirtual 33, 3) := by decide +kernel
theorem dX5_readNumber_34 : decode cX5_readNumber 34 = .ok (.iadd, 1) := by decide +kernel
theorem dX5_readNumber_35 : decode cX5_readNumber 35 = .ok (.bipush 48, 2) := by decide +kernel
theorem dX5_readNumber_37 : decode cX5_readNumber 37 = .ok (.isub, 1) := by decide +kernel
theorem dX5_readNumber_38 : decode cX5_readNumber 38 = .ok (.istore 5, 2) := by decide +kernel
theorem dX5_readNumber_40 : decode cX5_readNumber 40 = .ok (.aload_n 0, 1) := by decide +kernel
theorem dX5_readNumber_41 : decode cX5_readNumber 41 = .ok (.dup, 1) := by decide +kernel
theorem dX5_readNumber_42 : decode cX5_readNumber 42 = .ok (.getfield 27, 3) := by decide +kernel
theorem dX5_readNumber_45 : decode cX5_readNumber 45 = .ok (.iconst 1, 1) := by decide +kernel
theorem dX5_readNumber_46 : decode cX5_readNumber 46 = .ok (.iadd, 1) := by decide +kernel
theorem dX5_readNumber_47 : decode cX5_readNumber 47 = .ok (.putfield 27, 3) := by decide +kernel
theorem dX5_readNumber_50 : decode cX5_readNumber 50 = .ok (.iinc 6 1, 3) := by decide +kernel
theorem dX5_readNumber_53 : decode cX5_readNumber 53 = .ok (.goto (-41), 3) := by decide +kernel
theorem dX5_readNumber_56 : decode cX5_readNumber 56 = .ok (.aload_n 0, 1) := by decide +kernel
theorem dX5_readNumber_57 : decode cX5_readNumber 57 = .ok (.getfield 27, 3) := by decide +kernel
theorem dX5_readNumber_60 : decode cX5_readNumber 60 = .ok (.iload 4, 2) := by decide +kernel
theorem dX5_readNumber_62 : decode cX5_readNumber 62 = .ok (.if_icmp .eq 10, 3) := by decide +kernel
theorem dX5_readNumber_65 : decode cX5_readNumber 65 = .ok (.aload_n 0, 1) := by decide +kernel
theorem dX5_readNumber_66 : decode cX5_readNumber 66 = .ok (.invokevirtual 69, 3) := by decide +kernel
theorem dX5_readNumber_69 : decode cX5_readNumber 69 = .ok (.ifCond .eq 14, 3) := by decide +kernel
theorem dX5_readNumber_72 : decode cX5_readNumber 72 = .ok (.aload_n 0, 1) := by decide +kernel
theorem dX5_readNumber_73 : decode cX5_readNumber 73 = .ok (.aload_n 0, 1) := by decide +kernel
theorem dX5_readNumber_74 : decode cX5_readNumber 74 = .ok (.getfield 27, 3) := by decide +kernel
theorem dX5_readNumber_77 : decode cX5_readNumber 77 = .ok (.invokevirtual 44, 3) := by decide +kernel
theorem dX5_readNumber_80 : decode cX5_readNumber 80 = .ok (.goto 25, 3) := by decide +kernel
theorem dX5_readNumber_83 : decode cX5_readNumber 83 = .ok (.iload 5, 2) := by decide +kernel
theorem dX5_readNumber_85 : decode cX5_readNumber 85 = .ok (.iload_n 2, 1) := by decide +kernel
theorem dX5_readNumber_86 : decode cX5_readNumber 86 = .ok (.if_icmp .lt 9, 3) := by decide +kernel
theorem dX5_readNumber_89 : decode cX5_readNumber 89 = .ok (.iload 5, 2) := by decide +kernel
theorem dX5_readNumber_91 : decode cX5_readNumber 91 = .ok (.iload_n 3, 1) := by decide +kernel
theorem dX5_readNumber_92 : decode cX5_readNumber 92 = .ok (.if_icmp .le 13, 3) := by decide +kernel
theorem dX5_readNumber_95 : decode cX5_readNumber 95 = .ok (.aload_n 0, 1) := by decide +kernel
theorem dX5_readNumber_96 : decode cX5_readNumber 96 = .ok (.aload_n 0, 1) := by decide +kernel
theorem dX5_readNumber_97 : decode cX5_readNumber 97 = .ok (.getfield 27, 3) := by decide +kernel
theorem dX5_readNumber_100 : decode cX5_readNumber 100 = .ok (.iconst 1, 1) := by decide +kernel
theorem dX5_readNumber_101 : decode cX5_readNumber 101 = .ok (.isub, 1) := by decide +kernel
theorem dX5_readNumber_102 : decode cX5_readNumber 102 = .ok (.invokevirtual 44, 3) := by decide +kernel
theorem dX5_readNumber_105 : decode cX5_readNumber 105 = .ok (.iload 5, 2) := by decide +kernel
theorem dX5_readNumber_107 : decode cX5_readNumber 107 = .ok (.ireturn, 1) := by decide +kernel
theorem dX5_isAtDigit_0 : decode cX5_isAtDigit 0 = .ok (.aload_n 0, 1) := by decide +kernel
theorem dX5_isAtDigit_1 : decode cX5_isAtDigit 1 = .ok (.invokevirtual 33, 3) := by decide +kernel
theorem dX5_isAtDigit_4 : decode cX5_isAtDigit 4 = .ok (.bipush 48, 2) := by decide +kernel
theorem dX5_isAtDigit_6 : decode cX5_isAtDigit 6 = .ok (.if_icmp .lt 16, 3) := by decide +kernel
theorem dX5_isAtDigit_9 : decode cX5_isAtDigit 9 = .ok (.aload_n 0, 1) := by decide +kernel
theorem dX5_isAtDigit_10 : decode cX5_isAtDigit 10 = .ok (.invokevirtual 33, 3) := by decide +kernel
theorem dX5_isAtDigit_13 : decode cX5_isAtDigit 13 = .ok (.bipush 57, 2) := by decide +kernel
theorem dX5_isAtDigit_15 : decode cX5_isAtDigit 15 = .ok (.if_icmp .gt 7, 3) := by decide +kernel
theorem dX5_isAtDigit_18 : decode cX5_isAtDigit 18 = .ok (.iconst 1, 1) := by decide +kernel
theorem dX5_isAtDigit_19 : decode cX5_isAtDigit 19 = .ok (.goto 4, 3) := by decide +kernel
theorem dX5_isAtDigit_22 : decode cX5_isAtDigit 22 = .ok (.iconst 0, 1) := by decide +kernel
theorem dX5_isAtDigit_23 : decode cX5_isAtDigit 23 = .ok (.ireturn, 1) := by decide +kernel
theorem dX5_fail_0 : decode cX5_fail 0 = .ok (.aload_n 0, 1) := by decide +kernel
theorem dX5_fail_1 : decode cX5_fail 1 = .ok (.getfield 30, 3) := by decide +kernel
theorem dX5_fail_4 : decode cX5_fail 4 = .ok (.iconst (-1), 1) := by decide +kernel
theorem dX5_fail_5 : decode cX5_fail 5 = .ok (.if_icmp .ne 8, 3) := by decide +kernel
theorem dX5_fail_8 : decode cX5_fail 8 = .ok (.aload_n 0, 1) := by decide +kernel
theorem dX5_fail_9 : decode cX5_fail 9 = .ok (.iload_n 1, 1) := by decide +kernel
theorem dX5_fail_10 : decode cX5_fail 10 = .ok (.putfield 30, 3) := by decide +kernel
theorem dX5_fail_13 : decode cX5_fail 13 = .ok (.return_, 1) := by decide +kernel
theorem dX6_init_0 : decode cX6_init 0 = .ok (.aload_n 0, 1) := by decide +kernel
theorem dX6_init_1 : decode cX6_init 1 = .ok (.invokespecial 3, 3) := by decide +kernel
theorem dX6_init_4 : decode cX6_init 4 = .ok (.aload_n 0, 1) := by decide +kernel
theorem dX6_init_5 : decode cX6_init 5 = .ok (.new 9, 3) := by decide +kernel
theorem dX6_init_8 : decode cX6_init 8 = .ok (.dup, 1) := by decide +kernel
theorem dX6_init_9 : decode cX6_init 9 = .ok (.invokespecial 11, 3) := by decide +kernel
theorem dX6_init_12 : decode cX6_init 12 = .ok (.putfield 12, 3) := by decide +kernel
theorem dX6_init_15 : decode cX6_init 15 = .ok (.aload_n 0, 1) := by decide +kernel
theorem dX6_init_16 : decode cX6_init 16 = .ok (.new 16, 3) := by decide +kernel
theorem dX6_init_19 : decode cX6_init 19 = .ok (.dup, 1) := by decide +kernel
theorem dX6_init_20 : decode cX6_init 20 = .ok (.invokespecial 18, 3) := by decide +kernel
theorem dX6_init_23 : decode cX6_init 23 = .ok (.putfield 19, 3) := by decide +kernel
theorem dX6_init_26 : decode cX6_init 26 = .ok (.aload_n 0, 1) := by decide +kernel
theorem dX6_init_27 : decode cX6_init 27 = .ok (.new 16, 3) := by decide +kernel
theorem dX6_init_30 : decode cX6_init 30 = .ok (.dup, 1) := by decide +kernel
theorem dX6_init_31 : decode cX6_init 31 = .ok (.invokespecial 18, 3) := by decide +kernel
theorem dX6_init_34 : decode cX6_init 34 = .ok (.putfield 23, 3) := by decide +kernel
theorem dX6_init_37 : decode cX6_init 37 = .ok (.aload_n 0, 1) := by decide +kernel
theorem dX6_init_38 : decode cX6_init 38 = .ok (.new 26, 3) := by decide +kernel
theorem dX6_init_41 : decode cX6_init 41 = .ok (.dup, 1) := by decide +kernel
theorem dX6_init_42 : decode cX6_init 42 = .ok (.invokespecial 28, 3) := by decide +kernel
theorem dX6_init_45 : decode cX6_init 45 = .ok (.putfield 29, 3) := by decide +kernel
theorem dX6_init_48 : decode cX6_init 48 = .ok (.aload_n 0, 1) := by decide +kernel
theorem dX6_init_49 : decode cX6_init 49 = .ok (.new 33, 3) := by decide +kernel
theorem dX6_init_52 : decode cX6_init 52 = .ok (.dup, 1) := by decide +kernel
theorem dX6_init_53 : decode cX6_init 53 = .ok (.invokespecial 35, 3) := by decide +kernel
theorem dX6_init_56 : decode cX6_init 56 = .ok (.putfield 36, 3) := by decide +kernel
theorem dX6_init_59 : decode cX6_init 59 = .ok (.aload_n 0, 1) := by decide +kernel
theorem dX6_init_60 : decode cX6_init 60 = .ok (.new 40, 3) := by decide +kernel
theorem dX6_init_63 : decode cX6_init 63 = .ok (.dup, 1) := by decide +kernel
theorem dX6_init_64 : decode cX6_init 64 = .ok (.invokespecial 42, 3) := by decide +kernel
theorem dX6_init_67 : decode cX6_init 67 = .ok (.putfield 43, 3) := by decide +kernel
theorem dX6_init_70 : decode cX6_init 70 = .ok (.return_, 1) := by decide +kernel
theorem dX6_type_0 : decode cX6_type 0 = .ok (.iload_n 1, 1) := by decide +kernel
theorem dX6_type_1 : decode cX6_type 1 = .ok (.bipush 33, 2) := by decide +kernel
theorem dX6_type_3 : decode cX6_type 3 = .ok (.if_icmp .lt 9, 3) := by decide +kernel
theorem dX6_type_6 : decode cX6_type 6 = .ok (.iload_n 1, 1) := by decide +kernel
theorem dX6_type_7 : decode cX6_type 7 = .ok (.bipush 126, 2) := by decide +kernel
theorem dX6_type_9 : decode cX6_type 9 = .ok (.if_icmp .le 5, 3) := by decide +kernel
theorem dX6_type_12 : decode cX6_type 12 = .ok (.iconst (-1), 1) := by decide +kernel
theorem dX6_type_13 : decode cX6_type 13 = .ok (.ireturn, 1) := by decide +kernel
theorem dX6_type_14 : decode cX6_type 14 = .ok (.aload_n 0, 1) := by decide +kernel
theorem dX6_type_15 : decode cX6_type 15 = .ok (.getfield 12, 3) := by decide +kernel
theorem dX6_type_18 : decode cX6_type 18 = .ok (.iload_n 1, 1) := by decide +kernel
theorem dX6_type_19 : decode cX6_type 19 = .ok (.invokevirtual 47, 3) := by decide +kernel
theorem dX6_type_22 : decode cX6_type 22 = .ok (.ifCond .eq 13, 3) := by decide +kernel
theorem dX6_type_25 : decode cX6_type 25 = .ok (.aload_n 0, 1) := by decide +kernel
theorem dX6_type_26 : decode cX6_type 26 = .ok (.getfield 12, 3) := by decide +kernel
theorem dX6_type_29 : decode cX6_type 29 = .ok (.getfield 51, 3) := by decide +kernel
theorem dX6_type_32 : decode cX6_type 32 = .ok (.goto 5, 3) := by decide +kernel
theorem dX6_type_35 : decode cX6_type 35 = .ok (.bipush (-3), 2) := by decide +kernel
theorem dX6_type_37 : decode cX6_type 37 = .ok (.ireturn, 1) := by decide +kernel
theorem dX6_clear_0 : decode cX6_clear 0 = .ok (.aload_n 0, 1) := by decide +kernel
theorem dX6_clear_1 : decode cX6_clear 1 = .ok (.getfield 12, 3) := by decide +kernel
theorem dX6_clear_4 : decode cX6_clear 4 = .ok (.getfield 51, 3) := by decide +kernel
theorem dX6_clear_7 : decode cX6_clear 7 = .ok (.istore_n 1, 1) := by decide +kernel
theorem dX6_clear_8 : decode cX6_clear 8 = .ok (.aload_n 0, 1) := by decide +kernel
theorem dX6_clear_9 : decode cX6_clear 9 = .ok (.getfield 12, 3) := by decide +kernel
theorem dX6_clear_12 : decode cX6_clear 12 = .ok (.iconst 0, 1) := by decide +kernel
theorem dX6_clear_13 : decode cX6_clear 13 = .ok (.putfield 51, 3) := by decide +kernel
theorem dX6_clear_16 : decode cX6_clear 16 = .ok (.iload_n 1, 1) := by decide +kernel
theorem dX6_clear_17 : decode cX6_clear 17 = .ok (.ireturn, 1) := by decide +kernel
theorem dX6_load_0 : decode cX6_load 0 = .ok (.aload_n 0, 1) := by decide +kernel
theorem dX6_load_1 : decode cX6_load 1 = .ok (.getfield 12, 3) := by decide +kernel
theorem dX6_load_4 : decode cX6_load 4 = .ok (.aload_n 0, 1) := by decide +kernel
theorem dX6_load_5 : decode cX6_load 5 = .ok (.getfield 23, 3) := by decide +kernel
theorem dX6_load_8 : decode cX6_load 8 = .ok (.invokevirtual 55, 3) := by decide +kernel
theorem dX6_load_11 : decode cX6_load 11 = .ok (.istore_n 1, 1) := by decide +kernel
theorem dX6_load_12 : decode cX6_load 12 = .ok (.iload_n 1, 1) := by decide +kernel
theorem dX6_load_13 : decode cX6_load 13 = .ok (.iconst (-1), 1) := by decide +kernel
theorem dX6_load_14 : decode cX6_load 14 = .ok (.if_icmp .eq 8, 3) := by decide +kernel
theorem dX6_load_17 : decode cX6_load 17 = .ok (.bipush (-10), 2) := by decide +kernel
theorem dX6_load_19 : decode cX6_load 19 = .ok (.iload_n 1, 1) := by decide +kernel
theorem dX6_load_20 : decode cX6_load 20 = .ok (.isub, 1) := by decide +kernel
theorem dX6_load_21 : decode cX6_load 21 = .ok (.ireturn, 1) := by decide +kernel
theorem dX6_load_22 : decode cX6_load 22 = .ok (.aload_n 0, 1) := by decide +kernel
theorem dX6_load_23 : decode cX6_load 23 = .ok (.invokevirtual 59, 3) := by decide +kernel
theorem dX6_load_26 : decode cX6_load 26 = .ok (.aload_n 0, 1) := by decide +kernel
theorem dX6_load_27 : decode cX6_load 27 = .ok (.getfield 19, 3) := by decide +kernel
theorem dX6_load_30 : decode cX6_load 30 = .ok (.aload_n 0, 1) := by decide +kernel
theorem dX6_load_31 : decode cX6_load 31 = .ok (.getfield 23, 3) := by decide +kernel
theorem dX6_load_34 : decode cX6_load 34 = .ok (.invokevirtual 62, 3) := by decide +kernel
theorem dX6_load_37 : decode cX6_load 37 = .ok (.aload_n 0, 1) := by decide +kernel
theorem dX6_load_38 : decode cX6_load 38 = .ok (.getfield 19, 3) := by decide +kernel
theorem dX6_load_41 : decode cX6_load 41 = .ok (.getfield 66, 3) := by decide +kernel
theorem dX6_load_44 : decode cX6_load 44 = .ok (.bipush 100, 2) := by decide +kernel
theorem dX6_load_46 : decode cX6_load 46 = .ok (.aload_n 0, 1) := by decide +kernel
theorem dX6_load_47 : decode cX6_load 47 = .ok (.getfield 19, 3) := by decide +kernel
theorem dX6_load_50 : decode cX6_load 50 = .ok (.getfield 69, 3) := by decide +kernel
theorem dX6_load_53 : decode cX6_load 53 = .ok (.imul, 1) := by decide +kernel
theorem dX6_load_54 : decode cX6_load 54 = .ok (.iadd, 1) := by decide +kernel
theorem dX6_load_55 : decode cX6_load 55 = .ok (.ireturn, 1) := by decide +kernel
theorem dX6_add_0 : decode cX6_add 0 = .ok (.iload_n 1, 1) := by decide +kernel
theorem dX6_add_1 : decode cX6_add 1 = .ok (.invokestatic 72, 3) := by decide +kernel
theorem dX6_add_4 : decode cX6_add 4 = .ok (.ifCond .eq 29, 3) := by decide +kernel
theorem dX6_add_7 : decode cX6_add 7 = .ok (.iload_n 2, 1) := by decide +kernel
theorem dX6_add_8 : decode cX6_add 8 = .ok (.ifCond .lt 25, 3) := by decide +kernel
theorem dX6_add_11 : decode cX6_add 11 = .ok (.iload_n 2, 1) := by decide +kernel
theorem dX6_add_12 : decode cX6_add 12 = .ok (.iconst 3, 1) := by decide +kernel
theorem dX6_add_13 : decode cX6_add 13 = .ok (.if_icmp .gt 20, 3) := by decide +kernel
theorem dX6_add_16 : decode cX6_add 16 = .ok (.iload_n 3, 1) := by decide +kernel
theorem dX6_add_17 : decode cX6_add 17 = .ok (.ifCond .lt 16, 3) := by decide +kernel
theorem dX6_add_20 : decode cX6_add 20 = .ok (.iload_n 3, 1) := by decide +kernel
theorem dX6_add_21 : decode cX6_add 21 = .ok (.iconst 3, 1) := by decide +kernel
theorem dX6_add_22 : decode cX6_add 22 = .ok (.if_icmp .gt 11, 3) := by decide +kernel
theorem dX6_add_25 : decode cX6_add 25 = .ok (.iload 4, 2) := by decide +kernel
theorem dX6_add_27 : decode cX6_add 27 = .ok (.invokestatic 75, 3) := by decide +kernel
theorem dX6_add_30 : decode cX6_add 30 = .ok (.ifCond .ne 5, 3) := by decide +kernel
theorem dX6_add_33 : decode cX6_add 33 = .ok (.iconst (-1), 1) := by decide +kernel
theorem dX6_add_34 : decode cX6_add 34 = .ok (.ireturn, 1) := by decide +kernel
theorem dX6_add_35 : decode cX6_add 35 = .ok (.aload_n 0, 1) := by decide +kernel
theorem dX6_add_36 : decode cX6_add 36 = .ok (.getfield 19, 3) := by decide +kernel
theorem dX6_add_39 : decode cX6_add 39 = .ok (.getfield 66, 3) := by decide +kernel
theorem dX6_add_42 : decode cX6_add 42 = .ok (.bipush 10, 2) := by decide +kernel
theorem dX6_add_44 : decode cX6_add 44 = .ok (.if_icmp .lt 6, 3) := by decide +kernel
theorem dX6_add_47 : decode cX6_add 47 = .ok (.bipush (-3), 2) := by decide +kernel
theorem dX6_add_49 : decode cX6_add 49 = .ok (.ireturn, 1) := by decide +kernel
theorem dX6_add_50 : decode cX6_add 50 = .ok (.aload_n 0, 1) := by decide +kernel
theorem dX6_add_51 : decode cX6_add 51 = .ok (.invokevirtual 59, 3) := by decide +kernel
theorem dX6_add_54 : decode cX6_add 54 = .ok (.aload_n 0, 1) := by decide +kernel
theorem dX6_add_55 : decode cX6_add 55 = .ok (.getfield 19, 3) := by decide +kernel
theorem dX6_add_58 : decode cX6_add 58 = .ok (.invokevirtual 78, 3) := by decide +kernel
theorem dX6_add_61 : decode cX6_add 61 = .ok (.astore 5, 2) := by decide +kernel
theorem dX6_add_63 : decode cX6_add 63 = .ok (.aload 5, 2) := by decide +kernel
theorem dX6_add_65 : decode cX6_add 65 = .ok (.ifnull 14, 3) := by decide +kernel
theorem dX6_add_68 : decode cX6_add 68 = .ok (.aload 5, 2) := by decide +kernel
theorem dX6_add_70 : decode cX6_add 70 = .ok (.iload_n 1, 1) := by decide +kernel
theorem dX6_add_71 : decode cX6_add 71 = .ok (.iload_n 2, 1) := by decide +kernel
theorem dX6_add_72 : decode cX6_add 72 = .ok (.iload_n 3, 1) := by decide +kernel
theorem dX6_add_73 : decode cX6_add 73 = .ok (.iload 4, 2) := by decide +kernel
theorem dX6_add_75 : decode cX6_add 75 = .ok (.iconst 0, 1) := by decide +kernel
theorem dX6_add_76 : decode cX6_add 76 = .ok (.invokevirtual 82, 3) := by decide +kernel
theorem dX6_add_79 : decode cX6_add 79 = .ok (.aload_n 0, 1) := by decide +kernel
theorem dX6_add_80 : decode cX6_add 80 = .ok (.getfield 19, 3) := by decide +kernel
theorem dX6_add_83 : decode cX6_add 83 = .ok (.getfield 66, 3) := by decide +kernel
theorem dX6_add_86 : decode cX6_add 86 = .ok (.iconst 1, 1) := by decide +kernel
theorem dX6_add_87 : decode cX6_add 87 = .ok (.isub, 1) := by decide +kernel
theorem dX6_add_88 : decode cX6_add 88 = .ok (.ireturn, 1) := by decide +kernel
theorem dX6_drop_0 : decode cX6_drop 0 = .ok (.aload_n 0, 1) := by decide +kernel
theorem dX6_drop_1 : decode cX6_drop 1 = .ok (.getfield 19, 3) := by decide +kernel
theorem dX6_drop_4 : decode cX6_drop 4 = .ok (.iload_n 1, 1) := by decide +kernel
theorem dX6_drop_5 : decode cX6_drop 5 = .ok (.invokevirtual 88, 3) := by decide +kernel
theorem dX6_drop_8 : decode cX6_drop 8 = .ok (.ifnonnull 5, 3) := by decide +kernel
theorem dX6_drop_11 : decode cX6_drop 11 = .ok (.iconst (-1), 1) := by decide +kernel
theorem dX6_drop_12 : decode cX6_drop 12 = .ok (.ireturn, 1) := by decide +kernel
theorem dX6_drop_13 : decode cX6_drop 13 = .ok (.aload_n 0, 1) := by decide +kernel
theorem dX6_drop_14 : decode cX6_drop 14 = .ok (.invokevirtual 59, 3) := by decide +kernel
theorem dX6_drop_17 : decode cX6_drop 17 = .ok (.aload_n 0, 1) := by decide +kernel
theorem dX6_drop_18 : decode cX6_drop 18 = .ok (.getfield 19, 3) := by decide +kernel
theorem dX6_drop_21 : decode cX6_drop 21 = .ok (.iload_n 1, 1) := by decide +kernel
theorem dX6_drop_22 : decode cX6_drop 22 = .ok (.invokevirtual 92, 3) := by decide +kernel
theorem dX6_drop_25 : decode cX6_drop 25 = .ok (.aload_n 0, 1) := by decide +kernel
theorem dX6_drop_26 : decode cX6_drop 26 = .ok (.getfield 19, 3) := by decide +kernel
theorem dX6_drop_29 : decode cX6_drop 29 = .ok (.getfield 66, 3) := by decide +kernel
theorem dX6_drop_32 : decode cX6_drop 32 = .ok (.ireturn, 1) := by decide +kernel
theorem dX6_maintain_0 : decode cX6_maintain 0 = .ok (.aload_n 0, 1) := by decide +kernel
theorem dX6_maintain_1 : decode cX6_maintain 1 = .ok (.getfield 19, 3) := by decide +kernel
theorem dX6_maintain_4 : decode cX6_maintain 4 = .ok (.iload_n 1, 1) := by decide +kernel
theorem dX6_maintain_5 : decode cX6_maintain 5 = .ok (.invokevirtual 88, 3) := by decide +kernel
theorem dX6_maintain_8 : decode cX6_maintain 8 = .ok (.astore_n 3, 1) := by decide +kernel
theorem dX6_maintain_9 : decode cX6_maintain 9 = .ok (.aload_n 3, 1) := by decide +kernel
theorem dX6_maintain_10 : decode cX6_maintain 10 = .ok (.ifnonnull 5, 3) := by decide +kernel
theorem dX6_maintain_13 : decode cX6_maintain 13 = .ok (.iconst (-1), 1) := by decide +kernel
theorem dX6_maintain_14 : decode cX6_maintain 14 = .ok (.ireturn, 1) := by decide +kernel
theorem dX6_maintain_15 : decode cX6_maintain 15 = .ok (.aload_n 0, 1) := by decide +kernel
theorem dX6_maintain_16 : decode cX6_maintain 16 = .ok (.invokevirtual 59, 3) := by decide +kernel
theorem dX6_maintain_19 : decode cX6_maintain 19 = .ok (.aload_n 3, 1) := by decide +kernel
theorem dX6_maintain_20 : decode cX6_maintain 20 = .ok (.getfield 96, 3) := by decide +kernel
theorem dX6_maintain_23 : decode cX6_maintain 23 = .ok (.ifCond .eq 7, 3) := by decide +kernel
theorem dX6_maintain_26 : decode cX6_maintain 26 = .ok (.iconst 1, 1) := by decide +kernel
theorem dX6_maintain_27 : decode cX6_maintain 27 = .ok (.goto 4, 3) := by decide +kernel
theorem dX6_maintain_30 : decode cX6_maintain 30 = .ok (.iconst 0, 1) := by decide +kernel
theorem dX6_maintain_31 : decode cX6_maintain 31 = .ok (.istore 4, 2) := by decide +kernel
theorem dX6_maintain_33 : decode cX6_maintain 33 = .ok (.aload_n 3, 1) := by decide +kernel
theorem dX6_maintain_34 : decode cX6_maintain 34 = .ok (.iload_n 2, 1) := by decide +kernel
theorem dX6_maintain_35 : decode cX6_maintain 35 = .ok (.putfield 96, 3) := by decide +kernel
theorem dX6_maintain_38 : decode cX6_maintain 38 = .ok (.iload 4, 2) := by decide +kernel
theorem dX6_maintain_40 : decode cX6_maintain 40 = .ok (.ireturn, 1) := by decide +kernel
theorem dX6_route_0 : decode cX6_route 0 = .ok (.iload_n 1, 1) := by decide +kernel
theorem dX6_route_1 : decode cX6_route 1 = .ok (.invokestatic 72, 3) := by decide +kernel
theorem dX6_route_4 : decode cX6_route 4 = .ok (.ifCond .eq 15, 3) := by decide +kernel
theorem dX6_route_7 : decode cX6_route 7 = .ok (.iload_n 2, 1) := by decide +kernel
theorem dX6_route_8 : decode cX6_route 8 = .ok (.invokestatic 72, 3) := by decide +kernel
theorem dX6_route_11 : decode cX6_route 11 = .ok (.ifCond .eq 8, 3) := by decide +kernel
theorem dX6_route_14 : decode cX6_route 14 = .ok (.iload_n 2, 1) := by decide +kernel
theorem dX6_route_15 : decode cX6_route 15 = .ok (.iload_n 1, 1) := by decide +kernel
theorem dX6_route_16 : decode cX6_route 16 = .ok (.if_icmp .ge 5, 3) := by decide +kernel
theorem dX6_route_19 : decode cX6_route 19 = .ok (.iconst (-1), 1) := by decide +kernel
theorem dX6_route_20 : decode cX6_route 20 = .ok (.ireturn, 1) := by decide +kernel
theorem dX6_route_21 : decode cX6_route 21 = .ok (.aload_n 0, 1) := by decide +kernel
theorem dX6_route_22 : decode cX6_route 22 = .ok (.getfield 19, 3) := by decide +kernel
theorem dX6_route_25 : decode cX6_route 25 = .ok (.getfield 69, 3) := by decide +kernel
theorem dX6_route_28 : decode cX6_route 28 = .ok (.bipush 6, 2) := by decide +kernel
theorem dX6_route_30 : decode cX6_route 30 = .ok (.if_icmp .lt 6, 3) := by decide +kernel
theorem dX6_route_33 : decode cX6_route 33 = .ok (.bipush (-3), 2) := by decide +kernel
theorem dX6_route_35 : decode cX6_route 35 = .ok (.ireturn, 1) := by decide +kernel
theorem dX6_route_36 : decode cX6_route 36 = .ok (.aload_n 0, 1) := by decide +kernel
theorem dX6_route_37 : decode cX6_route 37 = .ok (.invokevirtual 59, 3) := by decide +kernel
theorem dX6_route_40 : decode cX6_route 40 = .ok (.aload_n 0, 1) := by decide +kernel
theorem dX6_route_41 : decode cX6_route 41 = .ok (.getfield 19, 3) := by decide +kernel
theorem dX6_route_44 : decode cX6_route 44 = .ok (.iload_n 1, 1) := by decide +kernel
theorem dX6_route_45 : decode cX6_route 45 = .ok (.iload_n 2, 1) := by decide +kernel
theorem dX6_route_46 : decode cX6_route 46 = .ok (.invokevirtual 100, 3) := by decide +kernel
theorem dX6_route_49 : decode cX6_route 49 = .ok (.aload_n 0, 1) := by decide +kernel
theorem dX6_route_50 : decode cX6_route 50 = .ok (.getfield 19, 3) := by decide +kernel
theorem dX6_route_53 : decode cX6_route 53 = .ok (.getfield 69, 3) := by decide +kernel
theorem dX6_route_56 : decode cX6_route 56 = .ok (.iconst 1, 1) := by decide +kernel
theorem dX6_route_57 : decode cX6_route 57 = .ok (.isub, 1) := by decide +kernel
theorem dX6_route_58 : decode cX6_route 58 = .ok (.ireturn, 1) := by decide +kernel
theorem dX6_dropRoute_0 : decode cX6_dropRoute 0 = .ok (.aload_n 0, 1) := by decide +kernel
theorem dX6_dropRoute_1 : decode cX6_dropRoute 1 = .ok (.getfield 19, 3) := by decide +kernel
theorem dX6_dropRoute_4 : decode cX6_dropRoute 4 = .ok (.iload_n 1, 1) := by decide +kernel
theorem dX6_dropRoute_5 : decode cX6_dropRoute 5 = .ok (.invokevirtual 104, 3) := by decide +kernel
theorem dX6_dropRoute_8 : decode cX6_dropRoute 8 = .ok (.ifCond .ne 5, 3) := by decide +kernel
theorem dX6_dropRoute_11 : decode cX6_dropRoute 11 = .ok (.iconst (-1), 1) := by decide +kernel
theorem dX6_dropRoute_12 : decode cX6_dropRoute 12 = .ok (.ireturn, 1) := by decide +kernel
theorem dX6_dropRoute_13 : decode cX6_dropRoute 13 = .ok (.aload_n 0, 1) := by decide +kernel
theorem dX6_dropRoute_14 : decode cX6_dropRoute 14 = .ok (.invokevirtual 59, 3) := by decide +kernel
theorem dX6_dropRoute_17 : decode cX6_dropRoute 17 = .ok (.aload_n 0, 1) := by decide +kernel
theorem dX6_dropRoute_18 : decode cX6_dropRoute 18 = .ok (.getfield 19, 3) := by decide +kernel
theorem dX6_dropRoute_21 : decode cX6_dropRoute 21 = .ok (.iload_n 1, 1) := by decide +kernel
theorem dX6_dropRoute_22 : decode cX6_dropRoute 22 = .ok (.invokevirtual 107, 3) := by decide +kernel
theorem dX6_dropRoute_25 : decode cX6_dropRoute 25 = .ok (.aload_n 0, 1) := by decide +kernel
theorem dX6_dropRoute_26 : decode cX6_dropRoute 26 = .ok (.getfield 19, 3) := by decide +kernel
theorem dX6_dropRoute_29 : decode cX6_dropRoute 29 = .ok (.getfield 69, 3) := by decide +kernel
theorem dX6_dropRoute_32 : decode cX6_dropRoute 32 = .ok (.ireturn, 1) := by decide +kernel
theorem dX6_setNeed_0 : decode cX6_setNeed 0 = .ok (.iload_n 1, 1) := by decide +kernel
theorem dX6_setNeed_1 : decode cX6_setNeed 1 = .ok (.iconst 1, 1) := by decide +kernel
theorem dX6_setNeed_2 : decode cX6_setNeed 2 = .ok (.if_icmp .lt 10, 3) := by decide +kernel
theorem dX6_setNeed_5 : decode cX6_setNeed 5 = .ok (.iload_n 1, 1) := by decide +kernel
theorem dX6_setNeed_6 : decode cX6_setNeed 6 = .ok (.sipush 180, 3) := by decide +kernel
theorem dX6_setNeed_9 : decode cX6_setNeed 9 = .ok (.if_icmp .le 5, 3) := by decide +kernel
theorem dX6_setNeed_12 : decode cX6_setNeed 12 = .ok (.iconst (-1), 1) := by decide +kernel
theorem dX6_setNeed_13 : decode cX6_setNeed 13 = .ok (.ireturn, 1) := by decide +kernel
theorem dX6_setNeed_14 : decode cX6_setNeed 14 = .ok (.aload_n 0, 1) := by decide +kernel
theorem dX6_setNeed_15 : decode cX6_setNeed 15 = .ok (.invokevirtual 59, 3) := by decide +kernel
theorem dX6_setNeed_18 : decode cX6_setNeed 18 = .ok (.aload_n 0, 1) := by decide +kernel
theorem dX6_setNeed_19 : decode cX6_setNeed 19 = .ok (.getfield 19, 3) := by decide +kernel
theorem dX6_setNeed_22 : decode cX6_setNeed 22 = .ok (.getfield 110, 3) := by decide +kernel
theorem dX6_setNeed_25 : decode cX6_setNeed 25 = .ok (.istore_n 2, 1) := by decide +kernel
theorem dX6_setNeed_26 : decode cX6_setNeed 26 = .ok (.aload_n 0, 1) := by decide +kernel
theorem dX6_setNeed_27 : decode cX6_setNeed 27 = .ok (.getfield 19, 3) := by decide +kernel
theorem dX6_setNeed_30 : decode cX6_setNeed 30 = .ok (.iload_n 1, 1) := by decide +kernel
theorem dX6_setNeed_31 : decode cX6_setNeed 31 = .ok (.putfield 110, 3) := by decide +kernel
theorem dX6_setNeed_34 : decode cX6_setNeed 34 = .ok (.iload_n 2, 1) := by decide +kernel
theorem dX6_setNeed_35 : decode cX6_setNeed 35 = .ok (.ireturn, 1) := by decide +kernel
theorem dX6_setStock_0 : decode cX6_setStock 0 = .ok (.iload_n 1, 1) := by decide +kernel
theorem dX6_setStock_1 : decode cX6_setStock 1 = .ok (.invokestatic 75, 3) := by decide +kernel
theorem dX6_setStock_4 : decode cX6_setStock 4 = .ok (.ifCond .eq 13, 3) := by decide +kernel
theorem dX6_setStock_7 : decode cX6_setStock 7 = .ok (.iload_n 2, 1) := by decide +kernel
theorem dX6_setStock_8 : decode cX6_setStock 8 = .ok (.ifCond .lt 9, 3) := by decide +kernel
theorem dX6_setStock_11 : decode cX6_setStock 11 = .ok (.iload_n 2, 1) := by decide +kernel
theorem dX6_setStock_12 : decode cX6_setStock 12 = .ok (.bipush 99, 2) := by decide +kernel
theorem dX6_setStock_14 : decode cX6_setStock 14 = .ok (.if_icmp .le 5, 3) := by decide +kernel
theorem dX6_setStock_17 : decode cX6_setStock 17 = .ok (.iconst (-1), 1) := by decide +kernel
theorem dX6_setStock_18 : decode cX6_setStock 18 = .ok (.ireturn, 1) := by decide +kernel
theorem dX6_setStock_19 : decode cX6_setStock 19 = .ok (.aload_n 0, 1) := by decide +kernel
theorem dX6_setStock_20 : decode cX6_setStock 20 = .ok (.invokevirtual 59, 3) := by decide +kernel
theorem dX6_setStock_23 : decode cX6_setStock 23 = .ok (.aload_n 0, 1) := by decide +kernel
theorem dX6_setStock_24 : decode cX6_setStock 24 = .ok (.getfield 19, 3) := by decide +kernel
theorem dX6_setStock_27 : decode cX6_setStock 27 = .ok (.iload_n 1, 1) := by decide +kernel
theorem dX6_setStock_28 : decode cX6_setStock 28 = .ok (.invokevirtual 113, 3) := by decide +kernel
theorem dX6_setStock_31 : decode cX6_setStock 31 = .ok (.istore_n 3, 1) := by decide +kernel
theorem dX6_setStock_32 : decode cX6_setStock 32 = .ok (.aload_n 0, 1) := by decide +kernel
theorem dX6_setStock_33 : decode cX6_setStock 33 = .ok (.getfield 19, 3) := by decide +kernel
theorem dX6_setStock_36 : decode cX6_setStock 36 = .ok (.iload_n 1, 1) := by decide +kernel
theorem dX6_setStock_37 : decode cX6_setStock 37 = .ok (.iload_n 2, 1) := by decide +kernel
theorem dX6_setStock_38 : decode cX6_setStock 38 = .ok (.iload_n 3, 1) := by decide +kernel
theorem dX6_setStock_39 : decode cX6_setStock 39 = .ok (.isub, 1) := by decide +kernel
theorem dX6_setStock_40 : decode cX6_setStock 40 = .ok (.invokevirtual 117, 3) := by decide +kernel
theorem dX6_setStock_43 : decode cX6_setStock 43 = .ok (.iload_n 3, 1) := by decide +kernel
theorem dX6_setStock_44 : decode cX6_setStock 44 = .ok (.ireturn, 1) := by decide +kernel
theorem dX6_light_0 : decode cX6_light 0 = .ok (.aload_n 0, 1) := by decide +kernel
theorem dX6_light_1 : decode cX6_light 1 = .ok (.getfield 19, 3) := by decide +kernel
theorem dX6_light_4 : decode cX6_light 4 = .ok (.iload_n 1, 1) := by decide +kernel
theorem dX6_light_5 : decode cX6_light 5 = .ok (.invokevirtual 88, 3) := by decide +kernel
theorem dX6_light_8 : decode cX6_light 8 = .ok (.astore_n 3, 1) := by decide +kernel
theorem dX6_light_9 : decode cX6_light 9 = .ok (.aload_n 3, 1) := by decide +kernel
theorem dX6_light_10 : decode cX6_light 10 = .ok (.ifnull 13, 3) := by decide +kernel
theorem dX6_light_13 : decode cX6_light 13 = .ok (.iload_n 2, 1) := by decide +kernel
theorem dX6_light_14 : decode cX6_light 14 = .ok (.ifCond .lt 9, 3) := by decide +kernel
theorem dX6_light_17 : decode cX6_light 17 = .ok (.iload_n 2, 1) := by decide +kernel
theorem dX6_light_18 : decode cX6_light 18 = .ok (.bipush 12, 2) := by decide +kernel
theorem dX6_light_20 : decode cX6_light 20 = .ok (.if_icmp .le 5, 3) := by decide +kernel
theorem dX6_light_23 : decode cX6_light 23 = .ok (.iconst (-1), 1) := by decide +kernel
theorem dX6_light_24 : decode cX6_light 24 = .ok (.ireturn, 1) := by decide +kernel
theorem dX6_light_25 : decode cX6_light 25 = .ok (.iload_n 2, 1) := by decide +kernel
theorem dX6_light_26 : decode cX6_light 26 = .ok (.bipush 12, 2) := by decide +kernel
theorem dX6_light_28 : decode cX6_light 28 = .ok (.if_icmp .ne 27, 3) := by decide +kernel
theorem dX6_light_31 : decode cX6_light 31 = .ok (.aload_n 0, 1) := by decide +kernel
theorem dX6_light_32 : decode cX6_light 32 = .ok (.getfield 43, 3) := by decide +kernel
theorem dX6_light_35 : decode cX6_light 35 = .ok (.aload_n 0, 1) := by decide +kernel
theorem dX6_light_36 : decode cX6_light 36 = .ok (.getfield 19, 3) := by decide +kernel
theorem dX6_light_39 : decode cX6_light 39 = .ok (.aload_n 0, 1) := by decide +kernel
theorem dX6_light_40 : decode cX6_light 40 = .ok (.getfield 36, 3) := by decide +kernel
theorem dX6_light_43 : decode cX6_light 43 = .ok (.invokevirtual 120, 3) := by decide +kernel
theorem dX6_light_46 : decode cX6_light 46 = .ok (.aload_n 0, 1) := by decide +kernel
theorem dX6_light_47 : decode cX6_light 47 = .ok (.getfield 43, 3) := by decide +kernel
theorem dX6_light_50 : decode cX6_light 50 = .ok (.iload_n 1, 1) := by decide +kernel
theorem dX6_light_51 : decode cX6_light 51 = .ok (.invokevirtual 124, 3) := by decide +kernel
theorem dX6_light_54 : decode cX6_light 54 = .ok (.ireturn, 1) := by decide +kernel
theorem dX6_light_55 : decode cX6_light 55 = .ok (.aload_n 3, 1) := by decide +kernel
theorem dX6_light_56 : decode cX6_light 56 = .ok (.iload_n 2, 1) := by decide +kernel
theorem dX6_light_57 : decode cX6_light 57 = .ok (.aload_n 0, 1) := by decide +kernel
theorem dX6_light_58 : decode cX6_light 58 = .ok (.getfield 19, 3) := by decide +kernel
theorem dX6_light_61 : decode cX6_light 61 = .ok (.getfield 110, 3) := by decide +kernel
theorem dX6_light_64 : decode cX6_light 64 = .ok (.invokevirtual 127, 3) := by decide +kernel
theorem dX6_light_67 : decode cX6_light 67 = .ok (.ireturn, 1) := by decide +kernel
theorem dX6_swap_0 : decode cX6_swap 0 = .ok (.aload_n 0, 1) := by decide +kernel
theorem dX6_swap_1 : decode cX6_swap 1 = .ok (.getfield 19, 3) := by decide +kernel
theorem dX6_swap_4 : decode cX6_swap 4 = .ok (.iload_n 1, 1) := by decide +kernel
theorem dX6_swap_5 : decode cX6_swap 5 = .ok (.invokevirtual 88, 3) := by decide +kernel
theorem dX6_swap_8 : decode cX6_swap 8 = .ok (.astore_n 3, 1) := by decide +kernel
theorem dX6_swap_9 : decode cX6_swap 9 = .ok (.aload_n 3, 1) := by decide +kernel
theorem dX6_swap_10 : decode cX6_swap 10 = .ok (.ifnull 10, 3) := by decide +kernel
theorem dX6_swap_13 : decode cX6_swap 13 = .ok (.iload_n 2, 1) := by decide +kernel
theorem dX6_swap_14 : decode cX6_swap 14 = .ok (.invokestatic 75, 3) := by decide +kernel
theorem dX6_swap_17 : decode cX6_swap 17 = .ok (.ifCond .ne 5, 3) := by decide +kernel
theorem dX6_swap_20 : decode cX6_swap 20 = .ok (.iconst (-1), 1) := by decide +kernel
theorem dX6_swap_21 : decode cX6_swap 21 = .ok (.ireturn, 1) := by decide +kernel
theorem dX6_swap_22 : decode cX6_swap 22 = .ok (.aload_n 0, 1) := by decide +kernel
theorem dX6_swap_23 : decode cX6_swap 23 = .ok (.getfield 19, 3) := by decide +kernel
theorem dX6_swap_26 : decode cX6_swap 26 = .ok (.iload_n 2, 1) := by decide +kernel
theorem dX6_swap_27 : decode cX6_swap 27 = .ok (.invokevirtual 113, 3) := by decide +kernel
theorem dX6_swap_30 : decode cX6_swap 30 = .ok (.ifCond .ne 6, 3) := by decide +kernel
theorem dX6_swap_33 : decode cX6_swap 33 = .ok (.bipush (-2), 2) := by decide +kernel
theorem dX6_swap_35 : decode cX6_swap 35 = .ok (.ireturn, 1) := by decide +kernel
theorem dX6_swap_36 : decode cX6_swap 36 = .ok (.aload_n 0, 1) := by decide +kernel
theorem dX6_swap_37 : decode cX6_swap 37 = .ok (.invokevirtual 59, 3) := by decide +kernel
theorem dX6_swap_40 : decode cX6_swap 40 = .ok (.aload_n 3, 1) := by decide +kernel
theorem dX6_swap_41 : decode cX6_swap 41 = .ok (.iload_n 2, 1) := by decide +kernel
theorem dX6_swap_42 : decode cX6_swap 42 = .ok (.invokevirtual 131, 3) := by decide +kernel
theorem dX6_swap_45 : decode cX6_swap 45 = .ok (.aload_n 0, 1) := by decide +kernel
theorem dX6_swap_46 : decode cX6_swap 46 = .ok (.getfield 19, 3) := by decide +kernel
theorem dX6_swap_49 : decode cX6_swap 49 = .ok (.iload_n 2, 1) := by decide +kernel
theorem dX6_swap_50 : decode cX6_swap 50 = .ok (.iconst (-1), 1) := by decide +kernel
theorem dX6_swap_51 : decode cX6_swap 51 = .ok (.invokevirtual 117, 3) := by decide +kernel
theorem dX6_swap_54 : decode cX6_swap 54 = .ok (.aload_n 0, 1) := by decide +kernel
theorem dX6_swap_55 : decode cX6_swap 55 = .ok (.getfield 19, 3) := by decide +kernel
theorem dX6_swap_58 : decode cX6_swap 58 = .ok (.iload_n 2, 1) := by decide +kernel
theorem dX6_swap_59 : decode cX6_swap 59 = .ok (.invokevirtual 113, 3) := by decide +kernel
theorem dX6_swap_62 : decode cX6_swap 62 = .ok (.ireturn, 1) := by decide +kernel
theorem dX6_swapAll_0 : decode cX6_swapAll 0 = .ok (.iload_n 1, 1) := by decide +kernel
theorem dX6_swapAll_1 : decode cX6_swapAll 1 = .ok (.iconst 1, 1) := by decide +kernel
theorem dX6_swapAll_2 : decode cX6_swapAll 2 = .ok (.if_icmp .lt 10, 3) := by decide +kernel
theorem dX6_swapAll_5 : decode cX6_swapAll 5 = .ok (.iload_n 1, 1) := by decide +kernel
theorem dX6_swapAll_6 : decode cX6_swapAll 6 = .ok (.sipush 9000, 3) := by decide +kernel
theorem dX6_swapAll_9 : decode cX6_swapAll 9 = .ok (.if_icmp .le 5, 3) := by decide +kernel
theorem dX6_swapAll_12 : decode cX6_swapAll 12 = .ok (.iconst (-1), 1) := by decide +kernel
theorem dX6_swapAll_13 : decode cX6_swapAll 13 = .ok (.ireturn, 1) := by decide +kernel
theorem dX6_swapAll_14 : decode cX6_swapAll 14 = .ok (.aload_n 0, 1) := by decide +kernel
theorem dX6_swapAll_15 : decode cX6_swapAll 15 = .ok (.invokevirtual 59, 3) := by decide +kernel
theorem dX6_swapAll_18 : decode cX6_swapAll 18 = .ok (.aload_n 0, 1) := by decide +kernel
theorem dX6_swapAll_19 : decode cX6_swapAll 19 = .ok (.getfield 19, 3) := by decide +kernel
theorem dX6_swapAll_22 : decode cX6_swapAll 22 = .ok (.iload_n 1, 1) := by decide +kernel
theorem dX6_swapAll_23 : decode cX6_swapAll 23 = .ok (.invokevirtual 134, 3) := by decide +kernel
theorem dX6_swapAll_26 : decode cX6_swapAll 26 = .ok (.ireturn, 1) := by decide +kernel
theorem dX6_renew_0 : decode cX6_renew 0 = .ok (.aload_n 0, 1) := by decide +kernel
theorem dX6_renew_1 : decode cX6_renew 1 = .ok (.getfield 19, 3) := by decide +kernel
theorem dX6_renew_4 : decode cX6_renew 4 = .ok (.iload_n 1, 1) := by decide +kernel
theorem dX6_renew_5 : decode cX6_renew 5 = .ok (.invokevirtual 88, 3) := by decide +kernel
theorem dX6_renew_8 : decode cX6_renew 8 = .ok (.astore_n 2, 1) := by decide +kernel
theorem dX6_renew_9 : decode cX6_renew 9 = .ok (.aload_n 2, 1) := by decide +kernel
theorem dX6_renew_10 : decode cX6_renew 10 = .ok (.ifnonnull 5, 3) := by decide +kernel
theorem dX6_renew_13 : decode cX6_renew 13 = .ok (.iconst (-1), 1) := by decide +kernel
theorem dX6_renew_14 : decode cX6_renew 14 = .ok (.ireturn, 1) := by decide +kernel
theorem dX6_renew_15 : decode cX6_renew 15 = .ok (.aload_n 0, 1) := by decide +kernel
theorem dX6_renew_16 : decode cX6_renew 16 = .ok (.invokevirtual 59, 3) := by decide +kernel
theorem dX6_renew_19 : decode cX6_renew 19 = .ok (.aload_n 2, 1) := by decide +kernel
theorem dX6_renew_20 : decode cX6_renew 20 = .ok (.getfield 137, 3) := by decide +kernel
theorem dX6_renew_23 : decode cX6_renew 23 = .ok (.istore_n 3, 1) := by decide +kernel
theorem dX6_renew_24 : decode cX6_renew 24 = .ok (.aload_n 2, 1) := by decide +kernel
theorem dX6_renew_25 : decode cX6_renew 25 = .ok (.sipush 1000, 3) := by decide +kernel
theorem dX6_renew_28 : decode cX6_renew 28 = .ok (.putfield 137, 3) := by decide +kernel
theorem dX6_renew_31 : decode cX6_renew 31 = .ok (.aload_n 2, 1) := by decide +kernel
theorem dX6_renew_32 : decode cX6_renew 32 = .ok (.iconst 0, 1) := by decide +kernel
theorem dX6_renew_33 : decode cX6_renew 33 = .ok (.putfield 140, 3) := by decide +kernel
theorem dX6_renew_36 : decode cX6_renew 36 = .ok (.iload_n 3, 1) := by decide +kernel
theorem dX6_renew_37 : decode cX6_renew 37 = .ok (.ireturn, 1) := by decide +kernel
theorem dX6_pass_0 : decode cX6_pass 0 = .ok (.iload_n 1, 1) := by decide +kernel
theorem dX6_pass_1 : decode cX6_pass 1 = .ok (.iconst 1, 1) := by decide +kernel
theorem dX6_pass_2 : decode cX6_pass 2 = .ok (.if_icmp .lt 10, 3) := by decide +kernel
theorem dX6_pass_5 : decode cX6_pass 5 = .ok (.iload_n 1, 1) := by decide +kernel
theorem dX6_pass_6 : decode cX6_pass 6 = .ok (.sipush 2000, 3) := by decide +kernel
theorem dX6_pass_9 : decode cX6_pass 9 = .ok (.if_icmp .le 5, 3) := by decide +kernel
theorem dX6_pass_12 : decode cX6_pass 12 = .ok (.iconst (-1), 1) := by decide +kernel
theorem dX6_pass_13 : decode cX6_pass 13 = .ok (.ireturn, 1) := by decide +kernel
theorem dX6_pass_14 : decode cX6_pass 14 = .ok (.aload_n 0, 1) := by decide +kernel
theorem dX6_pass_15 : decode cX6_pass 15 = .ok (.getfield 19, 3) := by decide +kernel
theorem dX6_pass_18 : decode cX6_pass 18 = .ok (.getfield 143, 3) := by decide +kernel
theorem dX6_pass_21 : decode cX6_pass 21 = .ok (.iload_n 1, 1) := by decide +kernel
theorem dX6_pass_22 : decode cX6_pass 22 = .ok (.iadd, 1) := by decide +kernel
theorem dX6_pass_23 : decode cX6_pass 23 = .ok (.ldc 146, 2) := by decide +kernel
theorem dX6_pass_25 : decode cX6_pass 25 = .ok (.if_icmp .le 6, 3) := by decide +kernel
theorem dX6_pass_28 : decode cX6_pass 28 = .ok (.bipush (-3), 2) := by decide +kernel
theorem dX6_pass_30 : decode cX6_pass 30 = .ok (.ireturn, 1) := by decide +kernel
theorem dX6_pass_31 : decode cX6_pass 31 = .ok (.aload_n 0, 1) := by decide +kernel
theorem dX6_pass_32 : decode cX6_pass 32 = .ok (.invokevirtual 59, 3) := by decide +kernel
theorem dX6_pass_35 : decode cX6_pass 35 = .ok (.aload_n 0, 1) := by decide +kernel
theorem dX6_pass_36 : decode cX6_pass 36 = .ok (.getfield 19, 3) := by decide +kernel
theorem dX6_pass_39 : decode cX6_pass 39 = .ok (.iload_n 1, 1) := by decide +kernel
theorem dX6_pass_40 : decode cX6_pass 40 = .ok (.invokevirtual 147, 3) := by decide +kernel
theorem dX6_pass_43 : decode cX6_pass 43 = .ok (.aload_n 0, 1) := by decide +kernel
theorem dX6_pass_44 : decode cX6_pass 44 = .ok (.getfield 19, 3) := by decide +kernel
theorem dX6_pass_47 : decode cX6_pass 47 = .ok (.invokevirtual 150, 3) := by decide +kernel
theorem dX6_pass_50 : decode cX6_pass 50 = .ok (.ireturn, 1) := by decide +kernel
theorem dX6_test_0 : decode cX6_test 0 = .ok (.iload_n 1, 1) := by decide +kernel
theorem dX6_test_1 : decode cX6_test 1 = .ok (.ifCond .eq 14, 3) := by decide +kernel
theorem dX6_test_4 : decode cX6_test 4 = .ok (.aload_n 0, 1) := by decide +kernel
theorem dX6_test_5 : decode cX6_test 5 = .ok (.getfield 19, 3) := by decide +kernel
theorem dX6_test_8 : decode cX6_test 8 = .ok (.iload_n 1, 1) := by decide +kernel
theorem dX6_test_9 : decode cX6_test 9 = .ok (.invokevirtual 154, 3) := by decide +kernel
theorem dX6_test_12 : decode cX6_test 12 = .ok (.ifCond .ne 5, 3) := by decide +kernel
theorem dX6_test_15 : decode cX6_test 15 = .ok (.iconst (-1), 1) := by decide +kernel
theorem dX6_test_16 : decode cX6_test 16 = .ok (.ireturn, 1) := by decide +kernel
theorem dX6_test_17 : decode cX6_test 17 = .ok (.iload_n 2, 1) := by decide +kernel
theorem dX6_test_18 : decode cX6_test 18 = .ok (.ifCond .ne 14, 3) := by decide +kernel
theorem dX6_test_21 : decode cX6_test 21 = .ok (.aload_n 0, 1) := by decide +kernel
theorem dX6_test_22 : decode cX6_test 22 = .ok (.iload_n 1, 1) := by decide +kernel
theorem dX6_test_23 : decode cX6_test 23 = .ok (.invokevirtual 157, 3) := by decide +kernel
theorem dX6_test_26 : decode cX6_test 26 = .ok (.ifCond .ne 6, 3) := by decide +kernel
theorem dX6_test_29 : decode cX6_test 29 = .ok (.bipush (-2), 2) := by decide +kernel
theorem dX6_test_31 : decode cX6_test 31 = .ok (.ireturn, 1) := by decide +kernel
theorem dX6_test_32 : decode cX6_test 32 = .ok (.aload_n 0, 1) := by decide +kernel
theorem dX6_test_33 : decode cX6_test 33 = .ok (.invokevirtual 59, 3) := by decide +kernel
theorem dX6_test_36 : decode cX6_test 36 = .ok (.aload_n 0, 1) := by decide +kernel
theorem dX6_test_37 : decode cX6_test 37 = .ok (.getfield 19, 3) := by decide +kernel
theorem dX6_test_40 : decode cX6_test 40 = .ok (.getfield 160, 3) := by decide +kernel
theorem dX6_test_43 : decode cX6_test 43 = .ok (.istore_n 3, 1) := by decide +kernel
theorem dX6_test_44 : decode cX6_test 44 = .ok (.aload_n 0, 1) := by decide +kernel
theorem dX6_test_45 : decode cX6_test 45 = .ok (.getfield 19, 3) := by decide +kernel
theorem dX6_test_48 : decode cX6_test 48 = .ok (.iload_n 1, 1) := by decide +kernel
theorem dX6_test_49 : decode cX6_test 49 = .ok (.invokevirtual 163, 3) := by decide +kernel
theorem dX6_test_52 : decode cX6_test 52 = .ok (.aload_n 0, 1) := by decide +kernel
theorem dX6_test_53 : decode cX6_test 53 = .ok (.getfield 19, 3) := by decide +kernel
theorem dX6_test_56 : decode cX6_test 56 = .ok (.getfield 160, 3) := by decide +kernel
theorem dX6_test_59 : decode cX6_test 59 = .ok (.iload_n 3, 1) := by decide +kernel
theorem dX6_test_60 : decode cX6_test 60 = .ok (.isub, 1) := by decide +kernel
theorem dX6_test_61 : decode cX6_test 61 = .ok (.ireturn, 1) := by decide +kernel
theorem dX6_carryOut_0 : decode cX6_carryOut 0 = .ok (.aload_n 0, 1) := by decide +kernel
theorem dX6_carryOut_1 : decode cX6_carryOut 1 = .ok (.getfield 19, 3) := by decide +kernel
theorem dX6_carryOut_4 : decode cX6_carryOut 4 = .ok (.getfield 66, 3) := by decide +kernel
theorem dX6_carryOut_7 : decode cX6_carryOut 7 = .ok (.ifCond .ne 5, 3) := by decide +kernel
theorem dX6_carryOut_10 : decode cX6_carryOut 10 = .ok (.iconst (-1), 1) := by decide +kernel
theorem dX6_carryOut_11 : decode cX6_carryOut 11 = .ok (.ireturn, 1) := by decide +kernel
theorem dX6_carryOut_12 : decode cX6_carryOut 12 = .ok (.aload_n 0, 1) := by decide +kernel
theorem dX6_carryOut_13 : decode cX6_carryOut 13 = .ok (.getfield 43, 3) := by decide +kernel
theorem dX6_carryOut_16 : decode cX6_carryOut 16 = .ok (.aload_n 0, 1) := by decide +kernel
theorem dX6_carryOut_17 : decode cX6_carryOut 17 = .ok (.getfield 19, 3) := by decide +kernel
theorem dX6_carryOut_20 : decode cX6_carryOut 20 = .ok (.aload_n 0, 1) := by decide +kernel
theorem dX6_carryOut_21 : decode cX6_carryOut 21 = .ok (.getfield 36, 3) := by decide +kernel
theorem dX6_carryOut_24 : decode cX6_carryOut 24 = .ok (.invokevirtual 120, 3) := by decide +kernel
theorem dX6_carryOut_27 : decode cX6_carryOut 27 = .ok (.aload_n 0, 1) := by decide +kernel
theorem dX6_carryOut_28 : decode cX6_carryOut 28 = .ok (.getfield 43, 3) := by decide +kernel
theorem dX6_carryOut_31 : decode cX6_carryOut 31 = .ok (.getfield 166, 3) := by decide +kernel
theorem dX6_carryOut_34 : decode cX6_carryOut 34 = .ok (.istore_n 1, 1) := by decide +kernel
theorem dX6_carryOut_35 : decode cX6_carryOut 35 = .ok (.iload_n 1, 1) := by decide +kernel
theorem dX6_carryOut_36 : decode cX6_carryOut 36 = .ok (.bipush (-9), 2) := by decide +kernel
theorem dX6_carryOut_38 : decode cX6_carryOut 38 = .ok (.if_icmp .ne 6, 3) := by decide +kernel
theorem dX6_carryOut_41 : decode cX6_carryOut 41 = .ok (.bipush (-2), 2) := by decide +kernel
theorem dX6_carryOut_43 : decode cX6_carryOut 43 = .ok (.ireturn, 1) := by decide +kernel
theorem dX6_carryOut_44 : decode cX6_carryOut 44 = .ok (.aload_n 0, 1) := by decide +kernel
theorem dX6_carryOut_45 : decode cX6_carryOut 45 = .ok (.getfield 19, 3) := by decide +kernel
theorem dX6_carryOut_48 : decode cX6_carryOut 48 = .ok (.getfield 143, 3) := by decide +kernel
theorem dX6_carryOut_51 : decode cX6_carryOut 51 = .ok (.bipush 24, 2) := by decide +kernel
theorem dX6_carryOut_53 : decode cX6_carryOut 53 = .ok (.iload_n 1, 1) := by decide +kernel
theorem dX6_carryOut_54 : decode cX6_carryOut 54 = .ok (.imul, 1) := by decide +kernel
theorem dX6_carryOut_55 : decode cX6_carryOut 55 = .ok (.iadd, 1) := by decide +kernel
theorem dX6_carryOut_56 : decode cX6_carryOut 56 = .ok (.ldc 146, 2) := by decide +kernel
theorem dX6_carryOut_58 : decode cX6_carryOut 58 = .ok (.if_icmp .le 6, 3) := by decide +kernel
theorem dX6_carryOut_61 : decode cX6_carryOut 61 = .ok (.bipush (-3), 2) := by decide +kernel
theorem dX6_carryOut_63 : decode cX6_carryOut 63 = .ok (.ireturn, 1) := by decide +kernel
theorem dX6_carryOut_64 : decode cX6_carryOut 64 = .ok (.aload_n 0, 1) := by decide +kernel
theorem dX6_carryOut_65 : decode cX6_carryOut 65 = .ok (.invokevirtual 59, 3) := by decide +kernel
theorem dX6_carryOut_68 : decode cX6_carryOut 68 = .ok (.aload_n 0, 1) := by decide +kernel
theorem dX6_carryOut_69 : decode cX6_carryOut 69 = .ok (.getfield 19, 3) := by decide +kernel
theorem dX6_carryOut_72 : decode cX6_carryOut 72 = .ok (.getfield 169, 3) := by decide +kernel
theorem dX6_carryOut_75 : decode cX6_carryOut 75 = .ok (.istore_n 2, 1) := by decide +kernel
theorem dX6_carryOut_76 : decode cX6_carryOut 76 = .ok (.iconst 0, 1) := by decide +kernel
theorem dX6_carryOut_77 : decode cX6_carryOut 77 = .ok (.istore_n 3, 1) := by decide +kernel
theorem dX6_carryOut_78 : decode cX6_carryOut 78 = .ok (.iload_n 3, 1) := by decide +kernel
theorem dX6_carryOut_79 : decode cX6_carryOut 79 = .ok (.iload_n 1, 1) := by decide +kernel
theorem dX6_carryOut_80 : decode cX6_carryOut 80 = .ok (.if_icmp .ge 33, 3) := by decide +kernel
theorem dX6_carryOut_83 : decode cX6_carryOut 83 = .ok (.aload_n 0, 1) := by decide +kernel
theorem dX6_carryOut_84 : decode cX6_carryOut 84 = .ok (.getfield 19, 3) := by decide +kernel
theorem dX6_carryOut_87 : decode cX6_carryOut 87 = .ok (.aload_n 0, 1) := by decide +kernel
theorem dX6_carryOut_88 : decode cX6_carryOut 88 = .ok (.getfield 43, 3) := by decide +kernel
theorem dX6_carryOut_91 : decode cX6_carryOut 91 = .ok (.iload_n 3, 1) := by decide +kernel
theorem dX6_carryOut_92 : decode cX6_carryOut 92 = .ok (.invokevirtual 172, 3) := by decide +kernel
theorem dX6_carryOut_95 : decode cX6_carryOut 95 = .ok (.invokevirtual 163, 3) := by decide +kernel
theorem dX6_carryOut_98 : decode cX6_carryOut 98 = .ok (.aload_n 0, 1) := by decide +kernel
theorem dX6_carryOut_99 : decode cX6_carryOut 99 = .ok (.getfield 19, 3) := by decide +kernel
theorem dX6_carryOut_102 : decode cX6_carryOut 102 = .ok (.bipush 24, 2) := by decide +kernel
theorem dX6_carryOut_104 : decode cX6_carryOut 104 = .ok (.invokevirtual 147, 3) := by decide +kernel
theorem dX6_carryOut_107 : decode cX6_carryOut 107 = .ok (.iinc 3 1, 3) := by decide +kernel
theorem dX6_carryOut_110 : decode cX6_carryOut 110 = .ok (.goto (-32), 3) := by decide +kernel
theorem dX6_carryOut_113 : decode cX6_carryOut 113 = .ok (.aload_n 0, 1) := by decide +kernel
theorem dX6_carryOut_114 : decode cX6_carryOut 114 = .ok (.getfield 19, 3) := by decide +kernel
theorem dX6_carryOut_117 : decode cX6_carryOut 117 = .ok (.getfield 169, 3) := by decide +kernel
theorem dX6_carryOut_120 : decode cX6_carryOut 120 = .ok (.iload_n 2, 1) := by decide +kernel
theorem dX6_carryOut_121 : decode cX6_carryOut 121 = .ok (.isub, 1) := by decide +kernel
theorem dX6_carryOut_122 : decode cX6_carryOut 122 = .ok (.ireturn, 1) := by decide +kernel
theorem dX6_routeAt_0 : decode cX6_routeAt 0 = .ok (.aload_n 0, 1) := by decide +kernel
theorem dX6_routeAt_1 : decode cX6_routeAt 1 = .ok (.getfield 19, 3) := by decide +kernel
theorem dX6_routeAt_4 : decode cX6_routeAt 4 = .ok (.iload_n 1, 1) := by decide +kernel
theorem dX6_routeAt_5 : decode cX6_routeAt 5 = .ok (.invokevirtual 104, 3) := by decide +kernel
theorem dX6_routeAt_8 : decode cX6_routeAt 8 = .ok (.ifCond .eq 13, 3) := by decide +kernel
theorem dX6_routeAt_11 : decode cX6_routeAt 11 = .ok (.iload_n 2, 1) := by decide +kernel
theorem dX6_routeAt_12 : decode cX6_routeAt 12 = .ok (.ifCond .lt 9, 3) := by decide +kernel
theorem dX6_routeAt_15 : decode cX6_routeAt 15 = .ok (.iload_n 2, 1) := by decide +kernel
theorem dX6_routeAt_16 : decode cX6_routeAt 16 = .ok (.bipush 6, 2) := by decide +kernel
theorem dX6_routeAt_18 : decode cX6_routeAt 18 = .ok (.if_icmp .le 5, 3) := by decide +kernel
theorem dX6_routeAt_21 : decode cX6_routeAt 21 = .ok (.iconst (-1), 1) := by decide +kernel
theorem dX6_routeAt_22 : decode cX6_routeAt 22 = .ok (.ireturn, 1) := by decide +kernel
theorem dX6_routeAt_23 : decode cX6_routeAt 23 = .ok (.iload_n 2, 1) := by decide +kernel
theorem dX6_routeAt_24 : decode cX6_routeAt 24 = .ok (.tableswitch 119 0 5 #[40, 49, 58, 64, 78, 94], 40) := by decide +kernel
theorem dX6_routeAt_64 : decode cX6_routeAt 64 = .ok (.aload_n 0, 1) := by decide +kernel
theorem dX6_routeAt_65 : decode cX6_routeAt 65 = .ok (.getfield 19, 3) := by decide +kernel
theorem dX6_routeAt_68 : decode cX6_routeAt 68 = .ok (.iload_n 1, 1) := by decide +kernel
theorem dX6_routeAt_69 : decode cX6_routeAt 69 = .ok (.invokevirtual 175, 3) := by decide +kernel
theorem dX6_routeAt_72 : decode cX6_routeAt 72 = .ok (.ireturn, 1) := by decide +kernel
theorem dX6_routeAt_73 : decode cX6_routeAt 73 = .ok (.aload_n 0, 1) := by decide +kernel
theorem dX6_routeAt_74 : decode cX6_routeAt 74 = .ok (.getfield 19, 3) := by decide +kernel
theorem dX6_routeAt_77 : decode cX6_routeAt 77 = .ok (.iload_n 1, 1) := by decide +kernel
theorem dX6_routeAt_78 : decode cX6_routeAt 78 = .ok (.invokevirtual 178, 3) := by decide +kernel
theorem dX6_routeAt_81 : decode cX6_routeAt 81 = .ok (.ireturn, 1) := by decide +kernel
theorem dX6_routeAt_82 : decode cX6_routeAt 82 = .ok (.aload_n 0, 1) := by decide +kernel
theorem dX6_routeAt_83 : decode cX6_routeAt 83 = .ok (.iload_n 1, 1) := by decide +kernel
theorem dX6_routeAt_84 : decode cX6_routeAt 84 = .ok (.invokevirtual 181, 3) := by decide +kernel
theorem dX6_routeAt_87 : decode cX6_routeAt 87 = .ok (.ireturn, 1) := by decide +kernel
theorem dX6_routeAt_88 : decode cX6_routeAt 88 = .ok (.aload_n 0, 1) := by decide +kernel
theorem dX6_routeAt_89 : decode cX6_routeAt 89 = .ok (.iload_n 1, 1) := by decide +kernel
theorem dX6_routeAt_90 : decode cX6_routeAt 90 = .ok (.invokevirtual 181, 3) := by decide +kernel
theorem dX6_routeAt_93 : decode cX6_routeAt 93 = .ok (.ifCond .ne 7, 3) := by decide +kernel
theorem dX6_routeAt_96 : decode cX6_routeAt 96 = .ok (.iconst 1, 1) := by decide +kernel
theorem dX6_routeAt_97 : decode cX6_routeAt 97 = .ok (.goto 4, 3) := by decide +kernel
theorem dX6_routeAt_100 : decode cX6_routeAt 100 = .ok (.iconst 0, 1) := by decide +kernel
theorem dX6_routeAt_101 : decode cX6_routeAt 101 = .ok (.ireturn, 1) := by decide +kernel
theorem dX6_routeAt_102 : decode cX6_routeAt 102 = .ok (.aload_n 0, 1) := by decide +kernel
theorem dX6_routeAt_103 : decode cX6_routeAt 103 = .ok (.getfield 36, 3) := by decide +kernel
theorem dX6_routeAt_106 : decode cX6_routeAt 106 = .ok (.aload_n 0, 1) := by decide +kernel
theorem dX6_routeAt_107 : decode cX6_routeAt 107 = .ok (.getfield 19, 3) := by decide +kernel
theorem dX6_routeAt_110 : decode cX6_routeAt 110 = .ok (.iload_n 1, 1) := by decide +kernel
theorem dX6_routeAt_111 : decode cX6_routeAt 111 = .ok (.sipush 1023, 3) := by decide +kernel
theorem dX6_routeAt_114 : decode cX6_routeAt 114 = .ok (.invokevirtual 184, 3) := by decide +kernel
theorem dX6_routeAt_117 : decode cX6_routeAt 117 = .ok (.ireturn, 1) := by decide +kernel
theorem dX6_routeAt_118 : decode cX6_routeAt 118 = .ok (.aload_n 0, 1) := by decide +kernel
theorem dX6_routeAt_119 : decode cX6_routeAt 119 = .ok (.getfield 36, 3) := by decide +kernel
theorem dX6_routeAt_122 : decode cX6_routeAt 122 = .ok (.aload_n 0, 1) := by decide +kernel
theorem dX6_routeAt_123 : decode cX6_routeAt 123 = .ok (.getfield 19, 3) := by decide +kernel
theorem dX6_routeAt_126 : decode cX6_routeAt 126 = .ok (.iload_n 1, 1) := by decide +kernel
theorem dX6_routeAt_127 : decode cX6_routeAt 127 = .ok (.aload_n 0, 1) := by decide +kernel
theorem dX6_routeAt_128 : decode cX6_routeAt 128 = .ok (.getfield 19, 3) := by decide +kernel
theorem dX6_routeAt_131 : decode cX6_routeAt 131 = .ok (.aload_n 0, 1) := by decide +kernel
theorem dX6_routeAt_132 : decode cX6_routeAt 132 = .ok (.iload_n 1, 1) := by decide +kernel
theorem dX6_routeAt_133 : decode cX6_routeAt 133 = .ok (.invokevirtual 188, 3) := by decide +kernel
theorem dX6_routeAt_136 : decode cX6_routeAt 136 = .ok (.invokevirtual 191, 3) := by decide +kernel
theorem dX6_routeAt_139 : decode cX6_routeAt 139 = .ok (.invokevirtual 184, 3) := by decide +kernel
theorem dX6_routeAt_142 : decode cX6_routeAt 142 = .ok (.ireturn, 1) := by decide +kernel
theorem dX6_routeAt_143 : decode cX6_routeAt 143 = .ok (.aload_n 0, 1) := by decide +kernel
theorem dX6_routeAt_144 : decode cX6_routeAt 144 = .ok (.iload_n 1, 1) := by decide +kernel
theorem dX6_routeAt_145 : decode cX6_routeAt 145 = .ok (.invokevirtual 188, 3) := by decide +kernel
theorem dX6_routeAt_148 : decode cX6_routeAt 148 = .ok (.ireturn, 1) := by decide +kernel
theorem dX6_lasts_0 : decode cX6_lasts 0 = .ok (.aload_n 0, 1) := by decide +kernel
theorem dX6_lasts_1 : decode cX6_lasts 1 = .ok (.getfield 19, 3) := by decide +kernel
theorem dX6_lasts_4 : decode cX6_lasts 4 = .ok (.iload_n 1, 1) := by decide +kernel
theorem dX6_lasts_5 : decode cX6_lasts 5 = .ok (.invokevirtual 104, 3) := by decide +kernel
theorem dX6_lasts_8 : decode cX6_lasts 8 = .ok (.ifCond .eq 14, 3) := by decide +kernel
theorem dX6_lasts_11 : decode cX6_lasts 11 = .ok (.aload_n 0, 1) := by decide +kernel
theorem dX6_lasts_12 : decode cX6_lasts 12 = .ok (.getfield 19, 3) := by decide +kernel
theorem dX6_lasts_15 : decode cX6_lasts 15 = .ok (.iload_n 2, 1) := by decide +kernel
theorem dX6_lasts_16 : decode cX6_lasts 16 = .ok (.invokevirtual 154, 3) := by decide +kernel
theorem dX6_lasts_19 : decode cX6_lasts 19 = .ok (.ifCond .ne 5, 3) := by decide +kernel
theorem dX6_lasts_22 : decode cX6_lasts 22 = .ok (.iconst (-1), 1) := by decide +kernel
theorem dX6_lasts_23 : decode cX6_lasts 23 = .ok (.ireturn, 1) := by decide +kernel
theorem dX6_lasts_24 : decode cX6_lasts 24 = .ok (.aload_n 0, 1) := by decide +kernel
theorem dX6_lasts_25 : decode cX6_lasts 25 = .ok (.getfield 36, 3) := by decide +kernel
theorem dX6_lasts_28 : decode cX6_lasts 28 = .ok (.aload_n 0, 1) := by decide +kernel
theorem dX6_lasts_29 : decode cX6_lasts 29 = .ok (.getfield 19, 3) := by decide +kernel
theorem dX6_lasts_32 : decode cX6_lasts 32 = .ok (.iload_n 1, 1) := by decide +kernel
theorem dX6_lasts_33 : decode cX6_lasts 33 = .ok (.iload_n 2, 1) := by decide +kernel
theorem dX6_lasts_34 : decode cX6_lasts 34 = .ok (.invokevirtual 184, 3) := by decide +kernel
theorem dX6_lasts_37 : decode cX6_lasts 37 = .ok (.ireturn, 1) := by decide +kernel
theorem dX6_reaching_0 : decode cX6_reaching 0 = .ok (.iload_n 1, 1) := by decide +kernel
theorem dX6_reaching_1 : decode cX6_reaching 1 = .ok (.invokestatic 72, 3) := by decide +kernel
theorem dX6_reaching_4 : decode cX6_reaching 4 = .ok (.ifCond .eq 15, 3) := by decide +kernel
theorem dX6_reaching_7 : decode cX6_reaching 7 = .ok (.aload_n 0, 1) := by decide +kernel
theorem dX6_reaching_8 : decode cX6_reaching 8 = .ok (.getfield 19, 3) := by decide +kernel
theorem dX6_reaching_11 : decode cX6_reaching 11 = .ok (.iload_n 1, 1) := by decide +kernel
theorem dX6_reaching_12 : decode cX6_reaching 12 = .ok (.iload_n 2, 1) := by decide +kernel
theorem dX6_reaching_13 : decode cX6_reaching 13 = .ok (.invokevirtual 194, 3) := by decide +kernel
theorem dX6_reaching_16 : decode cX6_reaching 16 = .ok (.goto 4, 3) := by decide +kernel
theorem dX6_reaching_19 : decode cX6_reaching 19 = .ok (.iconst (-1), 1) := by decide +kernel
theorem dX6_reaching_20 : decode cX6_reaching 20 = .ok (.ireturn, 1) := by decide +kernel
theorem dX6_allowed_0 : decode cX6_allowed 0 = .ok (.aload_n 0, 1) := by decide +kernel
theorem dX6_allowed_1 : decode cX6_allowed 1 = .ok (.getfield 19, 3) := by decide +kernel
theorem dX6_allowed_4 : decode cX6_allowed 4 = .ok (.iload_n 1, 1) := by decide +kernel
theorem dX6_allowed_5 : decode cX6_allowed 5 = .ok (.invokevirtual 154, 3) := by decide +kernel
theorem dX6_allowed_8 : decode cX6_allowed 8 = .ok (.ifCond .ne 5, 3) := by decide +kernel
theorem dX6_allowed_11 : decode cX6_allowed 11 = .ok (.iconst (-1), 1) := by decide +kernel
theorem dX6_allowed_12 : decode cX6_allowed 12 = .ok (.ireturn, 1) := by decide +kernel
theorem dX6_allowed_13 : decode cX6_allowed 13 = .ok (.aload_n 0, 1) := by decide +kernel
theorem dX6_allowed_14 : decode cX6_allowed 14 = .ok (.getfield 36, 3) := by decide +kernel
theorem dX6_allowed_17 : decode cX6_allowed 17 = .ok (.aload_n 0, 1) := by decide +kernel
theorem dX6_allowed_18 : decode cX6_allowed 18 = .ok (.getfield 19, 3) := by decide +kernel
theorem dX6_allowed_21 : decode cX6_allowed 21 = .ok (.invokevirtual 198, 3) := by decide +kernel
theorem dX6_allowed_24 : decode cX6_allowed 24 = .ok (.iconst 0, 1) := by decide +kernel
theorem dX6_allowed_25 : decode cX6_allowed 25 = .ok (.istore_n 2, 1) := by decide +kernel
theorem dX6_allowed_26 : decode cX6_allowed 26 = .ok (.iload_n 2, 1) := by decide +kernel
theorem dX6_allowed_27 : decode cX6_allowed 27 = .ok (.aload_n 0, 1) := by decide +kernel
theorem dX6_allowed_28 : decode cX6_allowed 28 = .ok (.getfield 19, 3) := by decide +kernel
theorem dX6_allowed_31 : decode cX6_allowed 31 = .ok (.getfield 69, 3) := by decide +kernel
theorem dX6_allowed_34 : decode cX6_allowed 34 = .ok (.if_icmp .ge 62, 3) := by decide +kernel
theorem dX6_allowed_37 : decode cX6_allowed 37 = .ok (.aload_n 0, 1) := by decide +kernel
theorem dX6_allowed_38 : decode cX6_allowed 38 = .ok (.getfield 19, 3) := by decide +kernel
theorem dX6_allowed_41 : decode cX6_allowed 41 = .ok (.iload_n 2, 1) := by decide +kernel
theorem dX6_allowed_42 : decode cX6_allowed 42 = .ok (.invokevirtual 175, 3) := by decide +kernel
theorem dX6_allowed_45 : decode cX6_allowed 45 = .ok (.istore_n 3, 1) := by decide +kernel
theorem dX6_allowed_46 : decode cX6_allowed 46 = .ok (.aload_n 0, 1) := by decide +kernel
theorem dX6_allowed_47 : decode cX6_allowed 47 = .ok (.getfield 19, 3) := by decide +kernel
theorem dX6_allowed_50 : decode cX6_allowed 50 = .ok (.iload_n 2, 1) := by decide +kernel
theorem dX6_allowed_51 : decode cX6_allowed 51 = .ok (.invokevirtual 178, 3) := by decide +kernel
theorem dX6_allowed_54 : decode cX6_allowed 54 = .ok (.istore 4, 2) := by decide +kernel
theorem dX6_allowed_56 : decode cX6_allowed 56 = .ok (.aload_n 0, 1) := by decide +kernel
theorem dX6_allowed_57 : decode cX6_allowed 57 = .ok (.getfield 36, 3) := by decide +kernel
theorem dX6_allowed_60 : decode cX6_allowed 60 = .ok (.iload_n 3, 1) := by decide +kernel
theorem dX6_allowed_61 : decode cX6_allowed 61 = .ok (.iload 4, 2) := by decide +kernel
theorem dX6_allowed_63 : decode cX6_allowed 63 = .ok (.sipush 1023, 3) := by decide +kernel
theorem dX6_allowed_66 : decode cX6_allowed 66 = .ok (.invokevirtual 201, 3) := by decide +kernel
theorem dX6_allowed_69 : decode cX6_allowed 69 = .ok (.ifCond .ne 21, 3) := by decide +kernel
theorem dX6_allowed_72 : decode cX6_allowed 72 = .ok (.aload_n 0, 1) := by decide +kernel
theorem dX6_allowed_73 : decode cX6_allowed 73 = .ok (.getfield 36, 3) := by decide +kernel
theorem dX6_allowed_76 : decode cX6_allowed 76 = .ok (.iload_n 3, 1) := by decide +kernel
theorem dX6_allowed_77 : decode cX6_allowed 77 = .ok (.iload 4, 2) := by decide +kernel
theorem dX6_allowed_79 : decode cX6_allowed 79 = .ok (.iload_n 1, 1) := by decide +kernel
theorem dX6_allowed_80 : decode cX6_allowed 80 = .ok (.iconst (-1), 1) := by decide +kernel
theorem dX6_allowed_81 : decode cX6_allowed 81 = .ok (.ixor, 1) := by decide +kernel
theorem dX6_allowed_82 : decode cX6_allowed 82 = .ok (.invokevirtual 201, 3) := by decide +kernel
theorem dX6_allowed_85 : decode cX6_allowed 85 = .ok (.ifCond .le 5, 3) := by decide +kernel
theorem dX6_allowed_88 : decode cX6_allowed 88 = .ok (.iconst 0, 1) := by decide +kernel
theorem dX6_allowed_89 : decode cX6_allowed 89 = .ok (.ireturn, 1) := by decide +kernel
theorem dX6_allowed_90 : decode cX6_allowed 90 = .ok (.iinc 2 1, 3) := by decide +kernel
theorem dX6_allowed_93 : decode cX6_allowed 93 = .ok (.goto (-67), 3) := by decide +kernel
theorem dX6_allowed_96 : decode cX6_allowed 96 = .ok (.iconst 1, 1) := by decide +kernel
theorem dX6_allowed_97 : decode cX6_allowed 97 = .ok (.ireturn, 1) := by decide +kernel
theorem dX6_days_0 : decode cX6_days 0 = .ok (.aload_n 0, 1) := by decide +kernel
theorem dX6_days_1 : decode cX6_days 1 = .ok (.getfield 43, 3) := by decide +kernel
theorem dX6_days_4 : decode cX6_days 4 = .ok (.aload_n 0, 1) := by decide +kernel
theorem dX6_days_5 : decode cX6_days 5 = .ok (.getfield 19, 3) := by decide +kernel
theorem dX6_days_8 : decode cX6_days 8 = .ok (.aload_n 0, 1) := by decide +kernel
theorem dX6_days_9 : decode cX6_days 9 = .ok (.getfield 36, 3) := by decide +kernel
theorem dX6_days_12 : decode cX6_days 12 = .ok (.invokevirtual 120, 3) := by decide +kernel
theorem dX6_days_15 : decode cX6_days 15 = .ok (.aload_n 0, 1) := by decide +kernel
theorem dX6_days_16 : decode cX6_days 16 = .ok (.getfield 43, 3) := by decide +kernel
theorem dX6_days_19 : decode cX6_days 19 = .ok (.getfield 166, 3) := by decide +kernel
theorem dX6_days_22 : decode cX6_days 22 = .ok (.ireturn, 1) := by decide +kernel
theorem dX6_day_0 : decode cX6_day 0 = .ok (.iload_n 1, 1) := by decide +kernel
theorem dX6_day_1 : decode cX6_day 1 = .ok (.ifCond .ge 5, 3) := by decide +kernel
theorem dX6_day_4 : decode cX6_day 4 = .ok (.iconst (-1), 1) := by decide +kernel
theorem dX6_day_5 : decode cX6_day 5 = .ok (.ireturn, 1) := by decide +kernel
theorem dX6_day_6 : decode cX6_day 6 = .ok (.aload_n 0, 1) := by decide +kernel
theorem dX6_day_7 : decode cX6_day 7 = .ok (.getfield 43, 3) := by decide +kernel
theorem dX6_day_10 : decode cX6_day 10 = .ok (.aload_n 0, 1) := by decide +kernel
theorem dX6_day_11 : decode cX6_day 11 = .ok (.getfield 19, 3) := by decide +kernel
theorem dX6_day_14 : decode cX6_day 14 = .ok (.aload_n 0, 1) := by decide +kernel
theorem dX6_day_15 : decode cX6_day 15 = .ok (.getfield 36, 3) := by decide +kernel
theorem dX6_day_18 : decode cX6_day 18 = .ok (.invokevirtual 120, 3) := by decide +kernel
theorem dX6_day_21 : decode cX6_day 21 = .ok (.aload_n 0, 1) := by decide +kernel
theorem dX6_day_22 : decode cX6_day 22 = .ok (.getfield 43, 3) := by decide +kernel
theorem dX6_day_25 : decode cX6_day 25 = .ok (.iload_n 1, 1) := by decide +kernel
theorem dX6_day_26 : decode cX6_day 26 = .ok (.invokevirtual 172, 3) := by decide +kernel
theorem dX6_day_29 : decode cX6_day 29 = .ok (.ireturn, 1) := by decide +kernel
theorem dX6_ifLamp_0 : decode cX6_ifLamp 0 = .ok (.aload_n 0, 1) := by decide +kernel
theorem dX6_ifLamp_1 : decode cX6_ifLamp 1 = .ok (.getfield 19, 3) := by decide +kernel
theorem dX6_ifLamp_4 : decode cX6_ifLamp 4 = .ok (.iload_n 1, 1) := by decide +kernel
theorem dX6_ifLamp_5 : decode cX6_ifLamp 5 = .ok (.invokevirtual 88, 3) := by decide +kernel
theorem dX6_ifLamp_8 : decode cX6_ifLamp 8 = .ok (.ifnull 10, 3) := by decide +kernel
theorem dX6_ifLamp_11 : decode cX6_ifLamp 11 = .ok (.iload_n 2, 1) := by decide +kernel
theorem dX6_ifLamp_12 : decode cX6_ifLamp 12 = .ok (.invokestatic 75, 3) := by decide +kernel
theorem dX6_ifLamp_15 : decode cX6_ifLamp 15 = .ok (.ifCond .ne 5, 3) := by decide +kernel
theorem dX6_ifLamp_18 : decode cX6_ifLamp 18 = .ok (.iconst (-1), 1) := by decide +kernel
theorem dX6_ifLamp_19 : decode cX6_ifLamp 19 = .ok (.ireturn, 1) := by decide +kernel
theorem dX6_ifLamp_20 : decode cX6_ifLamp 20 = .ok (.aload_n 0, 1) := by decide +kernel
theorem dX6_ifLamp_21 : decode cX6_ifLamp 21 = .ok (.iload_n 1, 1) := by decide +kernel
theorem dX6_ifLamp_22 : decode cX6_ifLamp 22 = .ok (.iload_n 2, 1) := by decide +kernel
theorem dX6_ifLamp_23 : decode cX6_ifLamp 23 = .ok (.invokevirtual 205, 3) := by decide +kernel
theorem dX6_ifLamp_26 : decode cX6_ifLamp 26 = .ok (.ireturn, 1) := by decide +kernel
theorem dX6_bestSwap_0 : decode cX6_bestSwap 0 = .ok (.iload_n 1, 1) := by decide +kernel
theorem dX6_bestSwap_1 : decode cX6_bestSwap 1 = .ok (.invokestatic 75, 3) := by decide +kernel
theorem dX6_bestSwap_4 : decode cX6_bestSwap 4 = .ok (.ifCond .ne 5, 3) := by decide +kernel
theorem dX6_bestSwap_7 : decode cX6_bestSwap 7 = .ok (.iconst (-1), 1) := by decide +kernel
theorem dX6_bestSwap_8 : decode cX6_bestSwap 8 = .ok (.ireturn, 1) := by decide +kernel
theorem dX6_bestSwap_9 : decode cX6_bestSwap 9 = .ok (.bipush (-9), 2) := by decide +kernel
theorem dX6_bestSwap_11 : decode cX6_bestSwap 11 = .ok (.istore_n 2, 1) := by decide +kernel
theorem dX6_bestSwap_12 : decode cX6_bestSwap 12 = .ok (.iconst 0, 1) := by decide +kernel
theorem dX6_bestSwap_13 : decode cX6_bestSwap 13 = .ok (.istore_n 3, 1) := by decide +kernel
theorem dX6_bestSwap_14 : decode cX6_bestSwap 14 = .ok (.iconst 0, 1) := by decide +kernel
theorem dX6_bestSwap_15 : decode cX6_bestSwap 15 = .ok (.istore 4, 2) := by decide +kernel
theorem dX6_bestSwap_17 : decode cX6_bestSwap 17 = .ok (.iload 4, 2) := by decide +kernel
theorem dX6_bestSwap_19 : decode cX6_bestSwap 19 = .ok (.aload_n 0, 1) := by decide +kernel
theorem dX6_bestSwap_20 : decode cX6_bestSwap 20 = .ok (.getfield 19, 3) := by decide +kernel
theorem dX6_bestSwap_23 : decode cX6_bestSwap 23 = .ok (.getfield 66, 3) := by decide +kernel
theorem dX6_bestSwap_26 : decode cX6_bestSwap 26 = .ok (.if_icmp .ge 52, 3) := by decide +kernel
theorem dX6_bestSwap_29 : decode cX6_bestSwap 29 = .ok (.aload_n 0, 1) := by decide +kernel
theorem dX6_bestSwap_30 : decode cX6_bestSwap 30 = .ok (.iload 4, 2) := by decide +kernel
theorem dX6_bestSwap_32 : decode cX6_bestSwap 32 = .ok (.iload_n 1, 1) := by decide +kernel
theorem dX6_bestSwap_33 : decode cX6_bestSwap 33 = .ok (.invokevirtual 205, 3) := by decide +kernel
theorem dX6_bestSwap_36 : decode cX6_bestSwap 36 = .ok (.istore 5, 2) := by decide +kernel
theorem dX6_bestSwap_38 : decode cX6_bestSwap 38 = .ok (.iload 5, 2) := by decide +kernel
theorem dX6_bestSwap_40 : decode cX6_bestSwap 40 = .ok (.bipush (-9), 2) := by decide +kernel
theorem dX6_bestSwap_42 : decode cX6_bestSwap 42 = .ok (.if_icmp .ne 8, 3) := by decide +kernel
theorem dX6_bestSwap_45 : decode cX6_bestSwap 45 = .ok (.bipush 11, 2) := by decide +kernel
theorem dX6_bestSwap_47 : decode cX6_bestSwap 47 = .ok (.goto 5, 3) := by decide +kernel
theorem dX6_bestSwap_50 : decode cX6_bestSwap 50 = .ok (.iload 5, 2) := by decide +kernel
theorem dX6_bestSwap_52 : decode cX6_bestSwap 52 = .ok (.istore 6, 2) := by decide +kernel
theorem dX6_bestSwap_54 : decode cX6_bestSwap 54 = .ok (.iload_n 2, 1) := by decide +kernel
theorem dX6_bestSwap_55 : decode cX6_bestSwap 55 = .ok (.bipush (-9), 2) := by decide +kernel
theorem dX6_bestSwap_57 : decode cX6_bestSwap 57 = .ok (.if_icmp .eq 9, 3) := by decide +kernel
theorem dX6_bestSwap_60 : decode cX6_bestSwap 60 = .ok (.iload 6, 2) := by decide +kernel
theorem dX6_bestSwap_62 : decode cX6_bestSwap 62 = .ok (.iload_n 3, 1) := by decide +kernel
theorem dX6_bestSwap_63 : decode cX6_bestSwap 63 = .ok (.if_icmp .ge 9, 3) := by decide +kernel
theorem dX6_bestSwap_66 : decode cX6_bestSwap 66 = .ok (.iload 4, 2) := by decide +kernel
theorem dX6_bestSwap_68 : decode cX6_bestSwap 68 = .ok (.istore_n 2, 1) := by decide +kernel
theorem dX6_bestSwap_69 : decode cX6_bestSwap 69 = .ok (.iload 6, 2) := by decide +kernel
theorem dX6_bestSwap_71 : decode cX6_bestSwap 71 = .ok (.istore_n 3, 1) := by decide +kernel
theorem dX6_bestSwap_72 : decode cX6_bestSwap 72 = .ok (.iinc 4 1, 3) := by decide +kernel
theorem dX6_bestSwap_75 : decode cX6_bestSwap 75 = .ok (.goto (-58), 3) := by decide +kernel
theorem dX6_bestSwap_78 : decode cX6_bestSwap 78 = .ok (.iload_n 2, 1) := by decide +kernel
theorem dX6_bestSwap_79 : decode cX6_bestSwap 79 = .ok (.ireturn, 1) := by decide +kernel
theorem dX6_told_0 : decode cX6_told 0 = .ok (.iload_n 1, 1) := by decide +kernel
theorem dX6_told_1 : decode cX6_told 1 = .ok (.tableswitch 183 0 13 #[71, 79, 87, 95, 100, 108, 116, 125, 134, 143, 151, 159, 167, 175], 71) := by decide +kernel
theorem dX6_told_72 : decode cX6_told 72 = .ok (.aload_n 0, 1) := by decide +kernel
theorem dX6_told_73 : decode cX6_told 73 = .ok (.getfield 19, 3) := by decide +kernel
theorem dX6_told_76 : decode cX6_told 76 = .ok (.getfield 66, 3) := by decide +kernel
theorem dX6_told_79 : decode cX6_told 79 = .ok (.ireturn, 1) := by decide +kernel
theorem dX6_told_80 : decode cX6_told 80 = .ok (.aload_n 0, 1) := by decide +kernel
theorem dX6_told_81 : decode cX6_told 81 = .ok (.getfield 19, 3) := by decide +kernel
theorem dX6_told_84 : decode cX6_told 84 = .ok (.invokevirtual 150, 3) := by decide +kernel
theorem dX6_told_87 : decode cX6_told 87 = .ok (.ireturn, 1) := by decide +kernel
theorem dX6_told_88 : decode cX6_told 88 = .ok (.aload_n 0, 1) := by decide +kernel
theorem dX6_told_89 : decode cX6_told 89 = .ok (.getfield 19, 3) := by decide +kernel
theorem dX6_told_92 : decode cX6_told 92 = .ok (.getfield 69, 3) := by decide +kernel
theorem dX6_told_95 : decode cX6_told 95 = .ok (.ireturn, 1) := by decide +kernel
theorem dX6_told_96 : decode cX6_told 96 = .ok (.aload_n 0, 1) := by decide +kernel
theorem dX6_told_97 : decode cX6_told 97 = .ok (.invokevirtual 208, 3) := by decide +kernel
theorem dX6_told_100 : decode cX6_told 100 = .ok (.ireturn, 1) := by decide +kernel
theorem dX6_told_101 : decode cX6_told 101 = .ok (.aload_n 0, 1) := by decide +kernel
theorem dX6_told_102 : decode cX6_told 102 = .ok (.getfield 19, 3) := by decide +kernel
theorem dX6_told_105 : decode cX6_told 105 = .ok (.getfield 110, 3) := by decide +kernel
theorem dX6_told_108 : decode cX6_told 108 = .ok (.ireturn, 1) := by decide +kernel
theorem dX6_told_109 : decode cX6_told 109 = .ok (.aload_n 0, 1) := by decide +kernel
theorem dX6_told_110 : decode cX6_told 110 = .ok (.getfield 19, 3) := by decide +kernel
theorem dX6_told_113 : decode cX6_told 113 = .ok (.getfield 143, 3) := by decide +kernel
theorem dX6_told_116 : decode cX6_told 116 = .ok (.ireturn, 1) := by decide +kernel
theorem dX6_told_117 : decode cX6_told 117 = .ok (.aload_n 0, 1) := by decide +kernel
theorem dX6_told_118 : decode cX6_told 118 = .ok (.getfield 19, 3) := by decide +kernel
theorem dX6_told_121 : decode cX6_told 121 = .ok (.iconst 0, 1) := by decide +kernel
theorem dX6_told_122 : decode cX6_told 122 = .ok (.invokevirtual 113, 3) := by decide +kernel
theorem dX6_told_125 : decode cX6_told 125 = .ok (.ireturn, 1) := by decide +kernel
theorem dX6_told_126 : decode cX6_told 126 = .ok (.aload_n 0, 1) := by decide +kernel
theorem dX6_told_127 : decode cX6_told 127 = .ok (.getfield 19, 3) := by decide +kernel
theorem dX6_told_130 : decode cX6_told 130 = .ok (.iconst 1, 1) := by decide +kernel
theorem dX6_told_131 : decode cX6_told 131 = .ok (.invokevirtual 113, 3) := by decide +kernel
theorem dX6_told_134 : decode cX6_told 134 = .ok (.ireturn, 1) := by decide +kernel
theorem dX6_told_135 : decode cX6_told 135 = .ok (.aload_n 0, 1) := by decide +kernel
theorem dX6_told_136 : decode cX6_told 136 = .ok (.getfield 19, 3) := by decide +kernel
theorem dX6_told_139 : decode cX6_told 139 = .ok (.iconst 2, 1) := by decide +kernel
theorem dX6_told_140 : decode cX6_told 140 = .ok (.invokevirtual 113, 3) := by decide +kernel
theorem dX6_told_143 : decode cX6_told 143 = .ok (.ireturn, 1) := by decide +kernel
theorem dX6_told_144 : decode cX6_told 144 = .ok (.aload_n 0, 1) := by decide +kernel
theorem dX6_told_145 : decode cX6_told 145 = .ok (.getfield 19, 3) := by decide +kernel
theorem dX6_told_148 : decode cX6_told 148 = .ok (.invokevirtual 211, 3) := by decide +kernel
theorem dX6_told_151 : decode cX6_told 151 = .ok (.ireturn, 1) := by decide +kernel
theorem dX6_told_152 : decode cX6_told 152 = .ok (.aload_n 0, 1) := by decide +kernel
theorem dX6_told_153 : decode cX6_told 153 = .ok (.getfield 19, 3) := by decide +kernel
theorem dX6_told_156 : decode cX6_told 156 = .ok (.getfield 160, 3) := by decide +kernel
theorem dX6_told_159 : decode cX6_told 159 = .ok (.ireturn, 1) := by decide +kernel
theorem dX6_told_160 : decode cX6_told 160 = .ok (.aload_n 0, 1) := by decide +kernel
theorem dX6_told_161 : decode cX6_told 161 = .ok (.getfield 19, 3) := by decide +kernel
theorem dX6_told_164 : decode cX6_told 164 = .ok (.getfield 169, 3) := by decide +kernel
theorem dX6_told_167 : decode cX6_told 167 = .ok (.ireturn, 1) := by decide +kernel
theorem dX6_told_168 : decode cX6_told 168 = .ok (.aload_n 0, 1) := by decide +kernel
theorem dX6_told_169 : decode cX6_told 169 = .ok (.getfield 12, 3) := by decide +kernel
theorem dX6_told_172 : decode cX6_told 172 = .ok (.getfield 51, 3) := by decide +kernel
theorem dX6_told_175 : decode cX6_told 175 = .ok (.ireturn, 1) := by decide +kernel
theorem dX6_told_176 : decode cX6_told 176 = .ok (.aload_n 0, 1) := by decide +kernel
theorem dX6_told_177 : decode cX6_told 177 = .ok (.getfield 29, 3) := by decide +kernel
theorem dX6_told_180 : decode cX6_told 180 = .ok (.getfield 214, 3) := by decide +kernel
theorem dX6_told_183 : decode cX6_told 183 = .ok (.ireturn, 1) := by decide +kernel
theorem dX6_told_184 : decode cX6_told 184 = .ok (.iconst (-1), 1) := by decide +kernel
theorem dX6_told_185 : decode cX6_told 185 = .ok (.ireturn, 1) := by decide +kernel
theorem dX6_undo_0 : decode cX6_undo 0 = .ok (.aload_n 0, 1) := by decide +kernel
theorem dX6_undo_1 : decode cX6_undo 1 = .ok (.getfield 29, 3) := by decide +kernel
theorem dX6_undo_4 : decode cX6_undo 4 = .ok (.getfield 214, 3) := by decide +kernel
theorem dX6_undo_7 : decode cX6_undo 7 = .ok (.ifCond .ne 6, 3) := by decide +kernel
theorem dX6_undo_10 : decode cX6_undo 10 = .ok (.bipush (-2), 2) := by decide +kernel
theorem dX6_undo_12 : decode cX6_undo 12 = .ok (.ireturn, 1) := by decide +kernel
theorem dX6_undo_13 : decode cX6_undo 13 = .ok (.aload_n 0, 1) := by decide +kernel
theorem dX6_undo_14 : decode cX6_undo 14 = .ok (.getfield 29, 3) := by decide +kernel
theorem dX6_undo_17 : decode cX6_undo 17 = .ok (.aload_n 0, 1) := by decide +kernel
theorem dX6_undo_18 : decode cX6_undo 18 = .ok (.getfield 19, 3) := by decide +kernel
theorem dX6_undo_21 : decode cX6_undo 21 = .ok (.invokevirtual 217, 3) := by decide +kernel
theorem dX6_undo_24 : decode cX6_undo 24 = .ok (.aload_n 0, 1) := by decide +kernel
theorem dX6_undo_25 : decode cX6_undo 25 = .ok (.getfield 43, 3) := by decide +kernel
theorem dX6_undo_28 : decode cX6_undo 28 = .ok (.invokevirtual 220, 3) := by decide +kernel
theorem dX6_undo_31 : decode cX6_undo 31 = .ok (.aload_n 0, 1) := by decide +kernel
theorem dX6_undo_32 : decode cX6_undo 32 = .ok (.getfield 29, 3) := by decide +kernel
theorem dX6_undo_35 : decode cX6_undo 35 = .ok (.getfield 214, 3) := by decide +kernel
theorem dX6_undo_38 : decode cX6_undo 38 = .ok (.ireturn, 1) := by decide +kernel
theorem dX6_digest_0 : decode cX6_digest 0 = .ok (.ldc2_w 223, 3) := by decide +kernel
theorem dX6_digest_3 : decode cX6_digest 3 = .ok (.lstore_n 1, 1) := by decide +kernel
theorem dX6_digest_4 : decode cX6_digest 4 = .ok (.iconst 0, 1) := by decide +kernel
theorem dX6_digest_5 : decode cX6_digest 5 = .ok (.istore_n 3, 1) := by decide +kernel
theorem dX6_digest_6 : decode cX6_digest 6 = .ok (.iload_n 3, 1) := by decide +kernel
theorem dX6_digest_7 : decode cX6_digest 7 = .ok (.bipush 13, 2) := by decide +kernel
theorem dX6_digest_9 : decode cX6_digest 9 = .ok (.if_icmp .gt 22, 3) := by decide +kernel
theorem dX6_digest_12 : decode cX6_digest 12 = .ok (.ldc2_w 225, 3) := by decide +kernel
theorem dX6_digest_15 : decode cX6_digest 15 = .ok (.lload_n 1, 1) := by decide +kernel
theorem dX6_digest_16 : decode cX6_digest 16 = .ok (.lmul, 1) := by decide +kernel
theorem dX6_digest_17 : decode cX6_digest 17 = .ok (.aload_n 0, 1) := by decide +kernel
theorem dX6_digest_18 : decode cX6_digest 18 = .ok (.iload_n 3, 1) := by decide +kernel
theorem dX6_digest_19 : decode cX6_digest 19 = .ok (.invokevirtual 227, 3) := by decide +kernel
theorem dX6_digest_22 : decode cX6_digest 22 = .ok (.i2l, 1) := by decide +kernel
theorem dX6_digest_23 : decode cX6_digest 23 = .ok (.ladd, 1) := by decide +kernel
theorem dX6_digest_24 : decode cX6_digest 24 = .ok (.lstore_n 1, 1) := by decide +kernel
theorem dX6_digest_25 : decode cX6_digest 25 = .ok (.iinc 3 1, 3) := by decide +kernel
theorem dX6_digest_28 : decode cX6_digest 28 = .ok (.goto (-22), 3) := by decide +kernel
theorem dX6_digest_31 : decode cX6_digest 31 = .ok (.iconst 0, 1) := by decide +kernel
theorem dX6_digest_32 : decode cX6_digest 32 = .ok (.istore_n 3, 1) := by decide +kernel
theorem dX6_digest_33 : decode cX6_digest 33 = .ok (.iload_n 3, 1) := by decide +kernel
theorem dX6_digest_34 : decode cX6_digest 34 = .ok (.aload_n 0, 1) := by decide +kernel
theorem dX6_digest_35 : decode cX6_digest 35 = .ok (.getfield 19, 3) := by decide +kernel
theorem dX6_digest_38 : decode cX6_digest 38 = .ok (.getfield 66, 3) := by decide +kernel
theorem dX6_digest_41 : decode cX6_digest 41 = .ok (.if_icmp .ge 40, 3) := by decide +kernel
theorem dX6_digest_44 : decode cX6_digest 44 = .ok (.iconst 0, 1) := by decide +kernel
theorem dX6_digest_45 : decode cX6_digest 45 = .ok (.istore 4, 2) := by decide +kernel
theorem dX6_digest_47 : decode cX6_digest 47 = .ok (.iload 4, 2) := by decide +kernel
theorem dX6_digest_49 : decode cX6_digest 49 = .ok (.bipush 12, 2) := by decide +kernel
theorem dX6_digest_51 : decode cX6_digest 51 = .ok (.if_icmp .gt 24, 3) := by decide +kernel
theorem dX6_digest_54 : decode cX6_digest 54 = .ok (.ldc2_w 225, 3) := by decide +kernel
theorem dX6_digest_57 : decode cX6_digest 57 = .ok (.lload_n 1, 1) := by decide +kernel
theorem dX6_digest_58 : decode cX6_digest 58 = .ok (.lmul, 1) := by decide +kernel
theorem dX6_digest_59 : decode cX6_digest 59 = .ok (.aload_n 0, 1) := by decide +kernel
theorem dX6_digest_60 : decode cX6_digest 60 = .ok (.iload_n 3, 1) := by decide +kernel
theorem dX6_digest_61 : decode cX6_digest 61 = .ok (.iload 4, 2) := by decide +kernel
theorem dX6_digest_63 : decode cX6_digest 63 = .ok (.invokevirtual 230, 3) := by decide +kernel
theorem dX6_digest_66 : decode cX6_digest 66 = .ok (.i2l, 1) := by decide +kernel
theorem dX6_digest_67 : decode cX6_digest 67 = .ok (.ladd, 1) := by decide +kernel
theorem dX6_digest_68 : decode cX6_digest 68 = .ok (.lstore_n 1, 1) := by decide +kernel
theorem dX6_digest_69 : decode cX6_digest 69 = .ok (.iinc 4 1, 3) := by decide +kernel
theorem dX6_digest_72 : decode cX6_digest 72 = .ok (.goto (-25), 3) := by decide +kernel
theorem dX6_digest_75 : decode cX6_digest 75 = .ok (.iinc 3 1, 3) := by decide +kernel
theorem dX6_digest_78 : decode cX6_digest 78 = .ok (.goto (-45), 3) := by decide +kernel
theorem dX6_digest_81 : decode cX6_digest 81 = .ok (.iconst 0, 1) := by decide +kernel
theorem dX6_digest_82 : decode cX6_digest 82 = .ok (.istore_n 3, 1) := by decide +kernel
theorem dX6_digest_83 : decode cX6_digest 83 = .ok (.iload_n 3, 1) := by decide +kernel
theorem dX6_digest_84 : decode cX6_digest 84 = .ok (.aload_n 0, 1) := by decide +kernel
theorem dX6_digest_85 : decode cX6_digest 85 = .ok (.getfield 19, 3) := by decide +kernel
theorem dX6_digest_88 : decode cX6_digest 88 = .ok (.getfield 69, 3) := by decide +kernel
theorem dX6_digest_91 : decode cX6_digest 91 = .ok (.if_icmp .ge 40, 3) := by decide +kernel
theorem dX6_digest_94 : decode cX6_digest 94 = .ok (.iconst 0, 1) := by decide +kernel
theorem dX6_digest_95 : decode cX6_digest 95 = .ok (.istore 4, 2) := by decide +kernel
theorem dX6_digest_97 : decode cX6_digest 97 = .ok (.iload 4, 2) := by decide +kernel
theorem dX6_digest_99 : decode cX6_digest 99 = .ok (.bipush 6, 2) := by decide +kernel
theorem dX6_digest_101 : decode cX6_digest 101 = .ok (.if_icmp .gt 24, 3) := by decide +kernel
theorem dX6_digest_104 : decode cX6_digest 104 = .ok (.ldc2_w 225, 3) := by decide +kernel
theorem dX6_digest_107 : decode cX6_digest 107 = .ok (.lload_n 1, 1) := by decide +kernel
theorem dX6_digest_108 : decode cX6_digest 108 = .ok (.lmul, 1) := by decide +kernel
theorem dX6_digest_109 : decode cX6_digest 109 = .ok (.aload_n 0, 1) := by decide +kernel
theorem dX6_digest_110 : decode cX6_digest 110 = .ok (.iload_n 3, 1) := by decide +kernel
theorem dX6_digest_111 : decode cX6_digest 111 = .ok (.iload 4, 2) := by decide +kernel
theorem dX6_digest_113 : decode cX6_digest 113 = .ok (.invokevirtual 233, 3) := by decide +kernel
theorem dX6_digest_116 : decode cX6_digest 116 = .ok (.i2l, 1) := by decide +kernel
theorem dX6_digest_117 : decode cX6_digest 117 = .ok (.ladd, 1) := by decide +kernel
theorem dX6_digest_118 : decode cX6_digest 118 = .ok (.lstore_n 1, 1) := by decide +kernel
theorem dX6_digest_119 : decode cX6_digest 119 = .ok (.iinc 4 1, 3) := by decide +kernel
theorem dX6_digest_122 : decode cX6_digest 122 = .ok (.goto (-25), 3) := by decide +kernel
theorem dX6_digest_125 : decode cX6_digest 125 = .ok (.iinc 3 1, 3) := by decide +kernel
theorem dX6_digest_128 : decode cX6_digest 128 = .ok (.goto (-45), 3) := by decide +kernel
theorem dX6_digest_131 : decode cX6_digest 131 = .ok (.aload_n 0, 1) := by decide +kernel
theorem dX6_digest_132 : decode cX6_digest 132 = .ok (.invokevirtual 236, 3) := by decide +kernel
theorem dX6_digest_135 : decode cX6_digest 135 = .ok (.istore_n 3, 1) := by decide +kernel
theorem dX6_digest_136 : decode cX6_digest 136 = .ok (.ldc2_w 225, 3) := by decide +kernel
theorem dX6_digest_139 : decode cX6_digest 139 = .ok (.lload_n 1, 1) := by decide +kernel
theorem dX6_digest_140 : decode cX6_digest 140 = .ok (.lmul, 1) := by decide +kernel
theorem dX6_digest_141 : decode cX6_digest 141 = .ok (.iload_n 3, 1) := by decide +kernel
theorem dX6_digest_142 : decode cX6_digest 142 = .ok (.i2l, 1) := by decide +kernel
theorem dX6_digest_143 : decode cX6_digest 143 = .ok (.ladd, 1) := by decide +kernel
theorem dX6_digest_144 : decode cX6_digest 144 = .ok (.lstore_n 1, 1) := by decide +kernel
theorem dX6_digest_145 : decode cX6_digest 145 = .ok (.iconst 0, 1) := by decide +kernel
theorem dX6_digest_146 : decode cX6_digest 146 = .ok (.istore 4, 2) := by decide +kernel
theorem dX6_digest_148 : decode cX6_digest 148 = .ok (.iload 4, 2) := by decide +kernel
theorem dX6_digest_150 : decode cX6_digest 150 = .ok (.iload_n 3, 1) := by decide +kernel
theorem dX6_digest_151 : decode cX6_digest 151 = .ok (.if_icmp .ge 23, 3) := by decide +kernel
theorem dX6_digest_154 : decode cX6_digest 154 = .ok (.ldc2_w 225, 3) := by decide +kernel
theorem dX6_digest_157 : decode cX6_digest 157 = .ok (.lload_n 1, 1) := by decide +kernel
theorem dX6_digest_158 : decode cX6_digest 158 = .ok (.lmul, 1) := by decide +kernel
theorem dX6_digest_159 : decode cX6_digest 159 = .ok (.aload_n 0, 1) := by decide +kernel
theorem dX6_digest_160 : decode cX6_digest 160 = .ok (.iload 4, 2) := by decide +kernel
theorem dX6_digest_162 : decode cX6_digest 162 = .ok (.invokevirtual 239, 3) := by decide +kernel
theorem dX6_digest_165 : decode cX6_digest 165 = .ok (.i2l, 1) := by decide +kernel
theorem dX6_digest_166 : decode cX6_digest 166 = .ok (.ladd, 1) := by decide +kernel
theorem dX6_digest_167 : decode cX6_digest 167 = .ok (.lstore_n 1, 1) := by decide +kernel
theorem dX6_digest_168 : decode cX6_digest 168 = .ok (.iinc 4 1, 3) := by decide +kernel
theorem dX6_digest_171 : decode cX6_digest 171 = .ok (.goto (-23), 3) := by decide +kernel
theorem dX6_digest_174 : decode cX6_digest 174 = .ok (.iconst 0, 1) := by decide +kernel
theorem dX6_digest_175 : decode cX6_digest 175 = .ok (.istore 4, 2) := by decide +kernel
theorem dX6_digest_177 : decode cX6_digest 177 = .ok (.iload 4, 2) := by decide +kernel
theorem dX6_digest_179 : decode cX6_digest 179 = .ok (.sipush 200, 3) := by decide +kernel
theorem dX6_digest_182 : decode cX6_digest 182 = .ok (.if_icmp .gt 39, 3) := by decide +kernel
theorem dX6_digest_185 : decode cX6_digest 185 = .ok (.ldc2_w 225, 3) := by decide +kernel
theorem dX6_digest_188 : decode cX6_digest 188 = .ok (.lload_n 1, 1) := by decide +kernel
theorem dX6_digest_189 : decode cX6_digest 189 = .ok (.lmul, 1) := by decide +kernel
theorem dX6_digest_190 : decode cX6_digest 190 = .ok (.aload_n 0, 1) := by decide +kernel
theorem dX6_digest_191 : decode cX6_digest 191 = .ok (.iload 4, 2) := by decide +kernel
theorem dX6_digest_193 : decode cX6_digest 193 = .ok (.iconst 0, 1) := by decide +kernel
theorem dX6_digest_194 : decode cX6_digest 194 = .ok (.invokevirtual 242, 3) := by decide +kernel
theorem dX6_digest_197 : decode cX6_digest 197 = .ok (.i2l, 1) := by decide +kernel
theorem dX6_digest_198 : decode cX6_digest 198 = .ok (.ladd, 1) := by decide +kernel
theorem dX6_digest_199 : decode cX6_digest 199 = .ok (.lstore_n 1, 1) := by decide +kernel
theorem dX6_digest_200 : decode cX6_digest 200 = .ok (.ldc2_w 225, 3) := by decide +kernel
theorem dX6_digest_203 : decode cX6_digest 203 = .ok (.lload_n 1, 1) := by decide +kernel
theorem dX6_digest_204 : decode cX6_digest 204 = .ok (.lmul, 1) := by decide +kernel
theorem dX6_digest_205 : decode cX6_digest 205 = .ok (.aload_n 0, 1) := by decide +kernel
theorem dX6_digest_206 : decode cX6_digest 206 = .ok (.iload 4, 2) := by decide +kernel
theorem dX6_digest_208 : decode cX6_digest 208 = .ok (.iconst 1, 1) := by decide +kernel
theorem dX6_digest_209 : decode cX6_digest 209 = .ok (.invokevirtual 242, 3) := by decide +kernel
theorem dX6_digest_212 : decode cX6_digest 212 = .ok (.i2l, 1) := by decide +kernel
theorem dX6_digest_213 : decode cX6_digest 213 = .ok (.ladd, 1) := by decide +kernel
theorem dX6_digest_214 : decode cX6_digest 214 = .ok (.lstore_n 1, 1) := by decide +kernel
theorem dX6_digest_215 : decode cX6_digest 215 = .ok (.iinc 4 5, 3) := by decide +kernel
theorem dX6_digest_218 : decode cX6_digest 218 = .ok (.goto (-41), 3) := by decide +kernel
theorem dX6_digest_221 : decode cX6_digest 221 = .ok (.lload_n 1, 1) := by decide +kernel
theorem dX6_digest_222 : decode cX6_digest 222 = .ok (.lreturn, 1) := by decide +kernel
theorem dX6_isPlace_0 : decode cX6_isPlace 0 = .ok (.iload_n 0, 1) := by decide +kernel
theorem dX6_isPlace_1 : decode cX6_isPlace 1 = .ok (.ifCond .lt 14, 3) := by decide +kernel
theorem dX6_isPlace_4 : decode cX6_isPlace 4 = .ok (.iload_n 0, 1) := by decide +kernel
theorem dX6_isPlace_5 : decode cX6_isPlace 5 = .ok (.sipush 200, 3) := by decide +kernel
theorem dX6_isPlace_8 : decode cX6_isPlace 8 = .ok (.if_icmp .gt 7, 3) := by decide +kernel
theorem dX6_isPlace_11 : decode cX6_isPlace 11 = .ok (.iconst 1, 1) := by decide +kernel
theorem dX6_isPlace_12 : decode cX6_isPlace 12 = .ok (.goto 4, 3) := by decide +kernel
theorem dX6_isPlace_15 : decode cX6_isPlace 15 = .ok (.iconst 0, 1) := by decide +kernel
theorem dX6_isPlace_16 : decode cX6_isPlace 16 = .ok (.ireturn, 1) := by decide +kernel
theorem dX6_isLamp_0 : decode cX6_isLamp 0 = .ok (.iload_n 0, 1) := by decide +kernel
theorem dX6_isLamp_1 : decode cX6_isLamp 1 = .ok (.ifCond .lt 12, 3) := by decide +kernel
theorem dX6_isLamp_4 : decode cX6_isLamp 4 = .ok (.iload_n 0, 1) := by decide +kernel
theorem dX6_isLamp_5 : decode cX6_isLamp 5 = .ok (.iconst 2, 1) := by decide +kernel
theorem dX6_isLamp_6 : decode cX6_isLamp 6 = .ok (.if_icmp .gt 7, 3) := by decide +kernel
theorem dX6_isLamp_9 : decode cX6_isLamp 9 = .ok (.iconst 1, 1) := by decide +kernel
theorem dX6_isLamp_10 : decode cX6_isLamp 10 = .ok (.goto 4, 3) := by decide +kernel
theorem dX6_isLamp_13 : decode cX6_isLamp 13 = .ok (.iconst 0, 1) := by decide +kernel
theorem dX6_isLamp_14 : decode cX6_isLamp 14 = .ok (.ireturn, 1) := by decide +kernel
theorem dX6_remember_0 : decode cX6_remember 0 = .ok (.aload_n 0, 1) := by decide +kernel
theorem dX6_remember_1 : decode cX6_remember 1 = .ok (.getfield 29, 3) := by decide +kernel
theorem dX6_remember_4 : decode cX6_remember 4 = .ok (.aload_n 0, 1) := by decide +kernel
theorem dX6_remember_5 : decode cX6_remember 5 = .ok (.getfield 19, 3) := by decide +kernel
theorem dX6_remember_8 : decode cX6_remember 8 = .ok (.invokevirtual 245, 3) := by decide +kernel
theorem dX6_remember_11 : decode cX6_remember 11 = .ok (.aload_n 0, 1) := by decide +kernel
theorem dX6_remember_12 : decode cX6_remember 12 = .ok (.getfield 43, 3) := by decide +kernel
theorem dX6_remember_15 : decode cX6_remember 15 = .ok (.invokevirtual 220, 3) := by decide +kernel
theorem dX6_remember_18 : decode cX6_remember 18 = .ok (.return_, 1) := by decide +kernel
theorem dX6_darkPlaces_0 : decode cX6_darkPlaces 0 = .ok (.aload_n 0, 1) := by decide +kernel
theorem dX6_darkPlaces_1 : decode cX6_darkPlaces 1 = .ok (.getfield 36, 3) := by decide +kernel
theorem dX6_darkPlaces_4 : decode cX6_darkPlaces 4 = .ok (.aload_n 0, 1) := by decide +kernel
theorem dX6_darkPlaces_5 : decode cX6_darkPlaces 5 = .ok (.getfield 19, 3) := by decide +kernel
theorem dX6_darkPlaces_8 : decode cX6_darkPlaces 8 = .ok (.invokevirtual 198, 3) := by decide +kernel
theorem dX6_darkPlaces_11 : decode cX6_darkPlaces 11 = .ok (.aload_n 0, 1) := by decide +kernel
theorem dX6_darkPlaces_12 : decode cX6_darkPlaces 12 = .ok (.getfield 36, 3) := by decide +kernel
theorem dX6_darkPlaces_15 : decode cX6_darkPlaces 15 = .ok (.aload_n 0, 1) := by decide +kernel
theorem dX6_darkPlaces_16 : decode cX6_darkPlaces 16 = .ok (.getfield 19, 3) := by decide +kernel
theorem dX6_darkPlaces_19 : decode cX6_darkPlaces 19 = .ok (.iload_n 1, 1) := by decide +kernel
theorem dX6_darkPlaces_20 : decode cX6_darkPlaces 20 = .ok (.invokevirtual 175, 3) := by decide +kernel
theorem dX6_darkPlaces_23 : decode cX6_darkPlaces 23 = .ok (.aload_n 0, 1) := by decide +kernel
theorem dX6_darkPlaces_24 : decode cX6_darkPlaces 24 = .ok (.getfield 19, 3) := by decide +kernel
theorem dX6_darkPlaces_27 : decode cX6_darkPlaces 27 = .ok (.iload_n 1, 1) := by decide +kernel
theorem dX6_darkPlaces_28 : decode cX6_darkPlaces 28 = .ok (.invokevirtual 178, 3) := by decide +kernel
theorem dX6_darkPlaces_31 : decode cX6_darkPlaces 31 = .ok (.sipush 1023, 3) := by decide +kernel
theorem dX6_darkPlaces_34 : decode cX6_darkPlaces 34 = .ok (.invokevirtual 201, 3) := by decide +kernel
theorem dX6_darkPlaces_37 : decode cX6_darkPlaces 37 = .ok (.ireturn, 1) := by decide +kernel
theorem dX6_countSafe_0 : decode cX6_countSafe 0 = .ok (.iconst 0, 1) := by decide +kernel
theorem dX6_countSafe_1 : decode cX6_countSafe 1 = .ok (.istore_n 1, 1) := by decide +kernel
theorem dX6_countSafe_2 : decode cX6_countSafe 2 = .ok (.iconst 0, 1) := by decide +kernel
theorem dX6_countSafe_3 : decode cX6_countSafe 3 = .ok (.istore_n 2, 1) := by decide +kernel
theorem dX6_countSafe_4 : decode cX6_countSafe 4 = .ok (.iload_n 2, 1) := by decide +kernel
theorem dX6_countSafe_5 : decode cX6_countSafe 5 = .ok (.aload_n 0, 1) := by decide +kernel
theorem dX6_countSafe_6 : decode cX6_countSafe 6 = .ok (.getfield 19, 3) := by decide +kernel
theorem dX6_countSafe_9 : decode cX6_countSafe 9 = .ok (.getfield 69, 3) := by decide +kernel
theorem dX6_countSafe_12 : decode cX6_countSafe 12 = .ok (.if_icmp .ge 20, 3) := by decide +kernel
theorem dX6_countSafe_15 : decode cX6_countSafe 15 = .ok (.aload_n 0, 1) := by decide +kernel
theorem dX6_countSafe_16 : decode cX6_countSafe 16 = .ok (.iload_n 2, 1) := by decide +kernel
theorem dX6_countSafe_17 : decode cX6_countSafe 17 = .ok (.invokevirtual 181, 3) := by decide +kernel
theorem dX6_countSafe_20 : decode cX6_countSafe 20 = .ok (.ifCond .ne 6, 3) := by decide +kernel
theorem dX6_countSafe_23 : decode cX6_countSafe 23 = .ok (.iinc 1 1, 3) := by decide +kernel
theorem dX6_countSafe_26 : decode cX6_countSafe 26 = .ok (.iinc 2 1, 3) := by decide +kernel
theorem dX6_countSafe_29 : decode cX6_countSafe 29 = .ok (.goto (-25), 3) := by decide +kernel
theorem dX6_countSafe_32 : decode cX6_countSafe 32 = .ok (.iload_n 1, 1) := by decide +kernel
theorem dX6_countSafe_33 : decode cX6_countSafe 33 = .ok (.ireturn, 1) := by decide +kernel
theorem dX6_worstCircuit_0 : decode cX6_worstCircuit 0 = .ok (.iconst 0, 1) := by decide +kernel
theorem dX6_worstCircuit_1 : decode cX6_worstCircuit 1 = .ok (.istore_n 2, 1) := by decide +kernel
theorem dX6_worstCircuit_2 : decode cX6_worstCircuit 2 = .ok (.aload_n 0, 1) := by decide +kernel
theorem dX6_worstCircuit_3 : decode cX6_worstCircuit 3 = .ok (.getfield 36, 3) := by decide +kernel
theorem dX6_worstCircuit_6 : decode cX6_worstCircuit 6 = .ok (.aload_n 0, 1) := by decide +kernel
theorem dX6_worstCircuit_7 : decode cX6_worstCircuit 7 = .ok (.getfield 19, 3) := by decide +kernel
theorem dX6_worstCircuit_10 : decode cX6_worstCircuit 10 = .ok (.iload_n 1, 1) := by decide +kernel
theorem dX6_worstCircuit_11 : decode cX6_worstCircuit 11 = .ok (.aload_n 0, 1) := by decide +kernel
theorem dX6_worstCircuit_12 : decode cX6_worstCircuit 12 = .ok (.getfield 19, 3) := by decide +kernel
theorem dX6_worstCircuit_15 : decode cX6_worstCircuit 15 = .ok (.iconst 0, 1) := by decide +kernel
theorem dX6_worstCircuit_16 : decode cX6_worstCircuit 16 = .ok (.invokevirtual 191, 3) := by decide +kernel
theorem dX6_worstCircuit_19 : decode cX6_worstCircuit 19 = .ok (.invokevirtual 184, 3) := by decide +kernel
theorem dX6_worstCircuit_22 : decode cX6_worstCircuit 22 = .ok (.istore_n 3, 1) := by decide +kernel
theorem dX6_worstCircuit_23 : decode cX6_worstCircuit 23 = .ok (.iconst 1, 1) := by decide +kernel
theorem dX6_worstCircuit_24 : decode cX6_worstCircuit 24 = .ok (.istore 4, 2) := by decide +kernel
theorem dX6_worstCircuit_26 : decode cX6_worstCircuit 26 = .ok (.iload 4, 2) := by decide +kernel
theorem dX6_worstCircuit_28 : decode cX6_worstCircuit 28 = .ok (.iconst 3, 1) := by decide +kernel
theorem dX6_worstCircuit_29 : decode cX6_worstCircuit 29 = .ok (.if_icmp .gt 44, 3) := by decide +kernel
theorem dX6_worstCircuit_32 : decode cX6_worstCircuit 32 = .ok (.aload_n 0, 1) := by decide +kernel
theorem dX6_worstCircuit_33 : decode cX6_worstCircuit 33 = .ok (.getfield 36, 3) := by decide +kernel
theorem dX6_worstCircuit_36 : decode cX6_worstCircuit 36 = .ok (.aload_n 0, 1) := by decide +kernel
theorem dX6_worstCircuit_37 : decode cX6_worstCircuit 37 = .ok (.getfield 19, 3) := by decide +kernel
theorem dX6_worstCircuit_40 : decode cX6_worstCircuit 40 = .ok (.iload_n 1, 1) := by decide +kernel
theorem dX6_worstCircuit_41 : decode cX6_worstCircuit 41 = .ok (.aload_n 0, 1) := by decide +kernel
theorem dX6_worstCircuit_42 : decode cX6_worstCircuit 42 = .ok (.getfield 19, 3) := by decide +kernel
theorem dX6_worstCircuit_45 : decode cX6_worstCircuit 45 = .ok (.iload 4, 2) := by decide +kernel
theorem dX6_worstCircuit_47 : decode cX6_worstCircuit 47 = .ok (.invokevirtual 191, 3) := by decide +kernel
theorem dX6_worstCircuit_50 : decode cX6_worstCircuit 50 = .ok (.invokevirtual 184, 3) := by decide +kernel
theorem dX6_worstCircuit_53 : decode cX6_worstCircuit 53 = .ok (.istore 5, 2) := by decide +kernel
theorem dX6_worstCircuit_55 : decode cX6_worstCircuit 55 = .ok (.iload 5, 2) := by decide +kernel
theorem dX6_worstCircuit_57 : decode cX6_worstCircuit 57 = .ok (.iload_n 3, 1) := by decide +kernel
theorem dX6_worstCircuit_58 : decode cX6_worstCircuit 58 = .ok (.if_icmp .ge 9, 3) := by decide +kernel
theorem dX6_worstCircuit_61 : decode cX6_worstCircuit 61 = .ok (.iload 4, 2) := by decide +kernel
theorem dX6_worstCircuit_63 : decode cX6_worstCircuit 63 = .ok (.istore_n 2, 1) := by decide +kernel
theorem dX6_worstCircuit_64 : decode cX6_worstCircuit 64 = .ok (.iload 5, 2) := by decide +kernel
theorem dX6_worstCircuit_66 : decode cX6_worstCircuit 66 = .ok (.istore_n 3, 1) := by decide +kernel
theorem dX6_worstCircuit_67 : decode cX6_worstCircuit 67 = .ok (.iinc 4 1, 3) := by decide +kernel
theorem dX6_worstCircuit_70 : decode cX6_worstCircuit 70 = .ok (.goto (-44), 3) := by decide +kernel
theorem dX6_worstCircuit_73 : decode cX6_worstCircuit 73 = .ok (.iload_n 2, 1) := by decide +kernel
theorem dX6_worstCircuit_74 : decode cX6_worstCircuit 74 = .ok (.ireturn, 1) := by decide +kernel
theorem dX6_daysWithLamp_0 : decode cX6_daysWithLamp 0 = .ok (.aload_n 0, 1) := by decide +kernel
theorem dX6_daysWithLamp_1 : decode cX6_daysWithLamp 1 = .ok (.getfield 23, 3) := by decide +kernel
theorem dX6_daysWithLamp_4 : decode cX6_daysWithLamp 4 = .ok (.aload_n 0, 1) := by decide +kernel
theorem dX6_daysWithLamp_5 : decode cX6_daysWithLamp 5 = .ok (.getfield 19, 3) := by decide +kernel
theorem dX6_daysWithLamp_8 : decode cX6_daysWithLamp 8 = .ok (.invokevirtual 248, 3) := by decide +kernel
theorem dX6_daysWithLamp_11 : decode cX6_daysWithLamp 11 = .ok (.aload_n 0, 1) := by decide +kernel
theorem dX6_daysWithLamp_12 : decode cX6_daysWithLamp 12 = .ok (.getfield 23, 3) := by decide +kernel
theorem dX6_daysWithLamp_15 : decode cX6_daysWithLamp 15 = .ok (.iload_n 1, 1) := by decide +kernel
theorem dX6_daysWithLamp_16 : decode cX6_daysWithLamp 16 = .ok (.invokevirtual 88, 3) := by decide +kernel
theorem dX6_daysWithLamp_19 : decode cX6_daysWithLamp 19 = .ok (.astore_n 3, 1) := by decide +kernel
theorem dX6_daysWithLamp_20 : decode cX6_daysWithLamp 20 = .ok (.aload_n 3, 1) := by decide +kernel
theorem dX6_daysWithLamp_21 : decode cX6_daysWithLamp 21 = .ok (.ifnonnull 6, 3) := by decide +kernel
theorem dX6_daysWithLamp_24 : decode cX6_daysWithLamp 24 = .ok (.bipush (-9), 2) := by decide +kernel
theorem dX6_daysWithLamp_26 : decode cX6_daysWithLamp 26 = .ok (.ireturn, 1) := by decide +kernel
theorem dX6_daysWithLamp_27 : decode cX6_daysWithLamp 27 = .ok (.aload_n 3, 1) := by decide +kernel
theorem dX6_daysWithLamp_28 : decode cX6_daysWithLamp 28 = .ok (.iload_n 2, 1) := by decide +kernel
theorem dX6_daysWithLamp_29 : decode cX6_daysWithLamp 29 = .ok (.invokevirtual 131, 3) := by decide +kernel
theorem dX6_daysWithLamp_32 : decode cX6_daysWithLamp 32 = .ok (.aload_n 0, 1) := by decide +kernel
theorem dX6_daysWithLamp_33 : decode cX6_daysWithLamp 33 = .ok (.getfield 43, 3) := by decide +kernel
theorem dX6_daysWithLamp_36 : decode cX6_daysWithLamp 36 = .ok (.aload_n 0, 1) := by decide +kernel
theorem dX6_daysWithLamp_37 : decode cX6_daysWithLamp 37 = .ok (.getfield 23, 3) := by decide +kernel
theorem dX6_daysWithLamp_40 : decode cX6_daysWithLamp 40 = .ok (.aload_n 0, 1) := by decide +kernel
theorem dX6_daysWithLamp_41 : decode cX6_daysWithLamp 41 = .ok (.getfield 36, 3) := by decide +kernel
theorem dX6_daysWithLamp_44 : decode cX6_daysWithLamp 44 = .ok (.invokevirtual 251, 3) := by decide +kernel
theorem dX6_daysWithLamp_47 : decode cX6_daysWithLamp 47 = .ok (.ireturn, 1) := by decide +kernel
theorem dJ9_floorMod_7cf53_0 : decode cJ9_floorMod_7cf53 0 = .ok (.iload_n 0, 1) := by decide +kernel
theorem dJ9_floorMod_7cf53_1 : decode cJ9_floorMod_7cf53 1 = .ok (.iload_n 1, 1) := by decide +kernel
theorem dJ9_floorMod_7cf53_2 : decode cJ9_floorMod_7cf53 2 = .ok (.irem, 1) := by decide +kernel
theorem dJ9_floorMod_7cf53_3 : decode cJ9_floorMod_7cf53 3 = .ok (.istore_n 2, 1) := by decide +kernel
theorem dJ9_floorMod_7cf53_4 : decode cJ9_floorMod_7cf53 4 = .ok (.iload_n 0, 1) := by decide +kernel
theorem dJ9_floorMod_7cf53_5 : decode cJ9_floorMod_7cf53 5 = .ok (.iload_n 1, 1) := by decide +kernel
theorem dJ9_floorMod_7cf53_6 : decode cJ9_floorMod_7cf53 6 = .ok (.ixor, 1) := by decide +kernel
theorem dJ9_floorMod_7cf53_7 : decode cJ9_floorMod_7cf53 7 = .ok (.ifCond .ge 11, 3) := by decide +kernel
theorem dJ9_floorMod_7cf53_10 : decode cJ9_floorMod_7cf53 10 = .ok (.iload_n 2, 1) := by decide +kernel
theorem dJ9_floorMod_7cf53_11 : decode cJ9_floorMod_7cf53 11 = .ok (.ifCond .eq 7, 3) := by decide +kernel
theorem dJ9_floorMod_7cf53_14 : decode cJ9_floorMod_7cf53 14 = .ok (.iload_n 2, 1) := by decide +kernel
theorem dJ9_floorMod_7cf53_15 : decode cJ9_floorMod_7cf53 15 = .ok (.iload_n 1, 1) := by decide +kernel
theorem dJ9_floorMod_7cf53_16 : decode cJ9_floorMod_7cf53 16 = .ok (.iadd, 1) := by decide +kernel
theorem dJ9_floorMod_7cf53_17 : decode cJ9_floorMod_7cf53 17 = .ok (.ireturn, 1) := by decide +kernel
theorem dJ9_floorMod_7cf53_18 : decode cJ9_floorMod_7cf53 18 = .ok (.iload_n 2, 1) := by decide +kernel
theorem dJ9_floorMod_7cf53_19 : decode cJ9_floorMod_7cf53 19 = .ok (.ireturn, 1) := by decide +kernel
end
section
theorem dX7_init_0 : decode cX7_init 0 = .ok (.aload_n 0, 1) := by decide +kernel
theorem dX7_init_1 : decode cX7_init 1 = .ok (.invokespecial 1, 3) := by decide +kernel
theorem dX7_init_4 : decode cX7_init 4 = .ok (.aload_n 0, 1) := by decide +kernel
theorem dX7_init_5 : decode cX7_init 5 = .ok (.sipush 999, 3) := by decide +kernel
theorem dX7_init_8 : decode cX7_init 8 = .ok (.newarray .int, 2) := by decide +kernel
theorem dX7_init_10 : decode cX7_init 10 = .ok (.putfield 7, 3) := by decide +kernel
theorem dX7_init_13 : decode cX7_init 13 = .ok (.aload_n 0, 1) := by decide +kernel
theorem dX7_init_14 : decode cX7_init 14 = .ok (.bipush 80, 2) := by decide +kernel
theorem dX7_init_16 : decode cX7_init 16 = .ok (.newarray .int, 2) := by decide +kernel
theorem dX7_init_18 : decode cX7_init 18 = .ok (.putfield 13, 3) := by decide +kernel
theorem dX7_init_21 : decode cX7_init 21 = .ok (.aload_n 0, 1) := by decide +kernel
theorem dX7_init_22 : decode cX7_init 22 = .ok (.bipush 50, 2) := by decide +kernel
theorem dX7_init_24 : decode cX7_init 24 = .ok (.newarray .int, 2) := by decide +kernel
theorem dX7_init_26 : decode cX7_init 26 = .ok (.putfield 16, 3) := by decide +kernel
theorem dX7_init_29 : decode cX7_init 29 = .ok (.aload_n 0, 1) := by decide +kernel
theorem dX7_init_30 : decode cX7_init 30 = .ok (.bipush 12, 2) := by decide +kernel
theorem dX7_init_32 : decode cX7_init 32 = .ok (.newarray .int, 2) := by decide +kernel
theorem dX7_init_34 : decode cX7_init 34 = .ok (.putfield 19, 3) := by decide +kernel
theorem dX7_init_37 : decode cX7_init 37 = .ok (.aload_n 0, 1) := by decide +kernel
theorem dX7_init_38 : decode cX7_init 38 = .ok (.sipush 201, 3) := by decide +kernel
theorem dX7_init_41 : decode cX7_init 41 = .ok (.newarray .int, 2) := by decide +kernel
theorem dX7_init_43 : decode cX7_init 43 = .ok (.putfield 22, 3) := by decide +kernel
theorem dX7_init_46 : decode cX7_init 46 = .ok (.aload_n 0, 1) := by decide +kernel
theorem dX7_init_47 : decode cX7_init 47 = .ok (.sipush 201, 3) := by decide +kernel
theorem dX7_init_50 : decode cX7_init 50 = .ok (.newarray .boolean, 2) := by decide +kernel
theorem dX7_init_52 : decode cX7_init 52 = .ok (.putfield 25, 3) := by decide +kernel
theorem dX7_init_55 : decode cX7_init 55 = .ok (.aload_n 0, 1) := by decide +kernel
theorem dX7_init_56 : decode cX7_init 56 = .ok (.sipush 1024, 3) := by decide +kernel
theorem dX7_init_59 : decode cX7_init 59 = .ok (.newarray .int, 2) := by decide +kernel
theorem dX7_init_61 : decode cX7_init 61 = .ok (.putfield 29, 3) := by decide +kernel
theorem dX7_init_64 : decode cX7_init 64 = .ok (.aload_n 0, 1) := by decide +kernel
theorem dX7_init_65 : decode cX7_init 65 = .ok (.sipush 1024, 3) := by decide +kernel
theorem dX7_init_68 : decode cX7_init 68 = .ok (.newarray .int, 2) := by decide +kernel
theorem dX7_init_70 : decode cX7_init 70 = .ok (.putfield 32, 3) := by decide +kernel
theorem dX7_init_73 : decode cX7_init 73 = .ok (.aload_n 0, 1) := by decide +kernel
theorem dX7_init_74 : decode cX7_init 74 = .ok (.sipush 1024, 3) := by decide +kernel
theorem dX7_init_77 : decode cX7_init 77 = .ok (.newarray .boolean, 2) := by decide +kernel
theorem dX7_init_79 : decode cX7_init 79 = .ok (.putfield 35, 3) := by decide +kernel
theorem dX7_init_82 : decode cX7_init 82 = .ok (.aload_n 0, 1) := by decide +kernel
theorem dX7_init_83 : decode cX7_init 83 = .ok (.bipush 10, 2) := by decide +kernel
theorem dX7_init_85 : decode cX7_init 85 = .ok (.newarray .int, 2) := by decide +kernel
theorem dX7_init_87 : decode cX7_init 87 = .ok (.putfield 38, 3) := by decide +kernel
theorem dX7_init_90 : decode cX7_init 90 = .ok (.aload_n 0, 1) := by decide +kernel
theorem dX7_init_91 : decode cX7_init 91 = .ok (.getfield 7, 3) := by decide +kernel
theorem dX7_init_94 : decode cX7_init 94 = .ok (.bipush 104, 2) := by decide +kernel
theorem dX7_init_96 : decode cX7_init 96 = .ok (.bipush 60, 2) := by decide +kernel
theorem dX7_init_98 : decode cX7_init 98 = .ok (.iastore, 1) := by decide +kernel
theorem dX7_init_99 : decode cX7_init 99 = .ok (.return_, 1) := by decide +kernel
theorem dX7_in_0 : decode cX7_in 0 = .ok (.iload_n 0, 1) := by decide +kernel
theorem dX7_in_1 : decode cX7_in 1 = .ok (.iload_n 1, 1) := by decide +kernel
theorem dX7_in_2 : decode cX7_in 2 = .ok (.if_icmp .lt 12, 3) := by decide +kernel
theorem dX7_in_5 : decode cX7_in 5 = .ok (.iload_n 0, 1) := by decide +kernel
theorem dX7_in_6 : decode cX7_in 6 = .ok (.iload_n 2, 1) := by decide +kernel
theorem dX7_in_7 : decode cX7_in 7 = .ok (.if_icmp .gt 7, 3) := by decide +kernel
theorem dX7_in_10 : decode cX7_in 10 = .ok (.iconst 1, 1) := by decide +kernel
theorem dX7_in_11 : decode cX7_in 11 = .ok (.goto 4, 3) := by decide +kernel
theorem dX7_in_14 : decode cX7_in 14 = .ok (.iconst 0, 1) := by decide +kernel
theorem dX7_in_15 : decode cX7_in 15 = .ok (.ireturn, 1) := by decide +kernel
theorem dX7_records_0 : decode cX7_records 0 = .ok (.aload_n 0, 1) := by decide +kernel
theorem dX7_records_1 : decode cX7_records 1 = .ok (.getfield 41, 3) := by decide +kernel
theorem dX7_records_4 : decode cX7_records 4 = .ok (.bipush 8, 2) := by decide +kernel
theorem dX7_records_6 : decode cX7_records 6 = .ok (.if_icmp .ne 44, 3) := by decide +kernel
theorem dX7_records_9 : decode cX7_records 9 = .ok (.bipush 111, 2) := by decide +kernel
theorem dX7_records_11 : decode cX7_records 11 = .ok (.istore_n 1, 1) := by decide +kernel
theorem dX7_records_12 : decode cX7_records 12 = .ok (.iload_n 1, 1) := by decide +kernel
theorem dX7_records_13 : decode cX7_records 13 = .ok (.sipush 888, 3) := by decide +kernel
theorem dX7_records_16 : decode cX7_records 16 = .ok (.if_icmp .ge 24, 3) := by decide +kernel
theorem dX7_records_19 : decode cX7_records 19 = .ok (.aload_n 0, 1) := by decide +kernel
theorem dX7_records_20 : decode cX7_records 20 = .ok (.getfield 7, 3) := by decide +kernel
theorem dX7_records_23 : decode cX7_records 23 = .ok (.iload_n 1, 1) := by decide +kernel
theorem dX7_records_24 : decode cX7_records 24 = .ok (.aload_n 0, 1) := by decide +kernel
theorem dX7_records_25 : decode cX7_records 25 = .ok (.getfield 7, 3) := by decide +kernel
theorem dX7_records_28 : decode cX7_records 28 = .ok (.iload_n 1, 1) := by decide +kernel
theorem dX7_records_29 : decode cX7_records 29 = .ok (.bipush 111, 2) := by decide +kernel
theorem dX7_records_31 : decode cX7_records 31 = .ok (.iadd, 1) := by decide +kernel
theorem dX7_records_32 : decode cX7_records 32 = .ok (.iaload, 1) := by decide +kernel
theorem dX7_records_33 : decode cX7_records 33 = .ok (.iastore, 1) := by decide +kernel
theorem dX7_records_34 : decode cX7_records 34 = .ok (.iinc 1 1, 3) := by decide +kernel
theorem dX7_records_37 : decode cX7_records 37 = .ok (.goto (-25), 3) := by decide +kernel
theorem dX7_records_40 : decode cX7_records 40 = .ok (.aload_n 0, 1) := by decide +kernel
theorem dX7_records_41 : decode cX7_records 41 = .ok (.dup, 1) := by decide +kernel
theorem dX7_records_42 : decode cX7_records 42 = .ok (.getfield 41, 3) := by decide +kernel
theorem dX7_records_45 : decode cX7_records 45 = .ok (.iconst 1, 1) := by decide +kernel
theorem dX7_records_46 : decode cX7_records 46 = .ok (.isub, 1) := by decide +kernel
theorem dX7_records_47 : decode cX7_records 47 = .ok (.putfield 41, 3) := by decide +kernel
theorem dX7_records_50 : decode cX7_records 50 = .ok (.aload_n 0, 1) := by decide +kernel
theorem dX7_records_51 : decode cX7_records 51 = .ok (.dup, 1) := by decide +kernel
theorem dX7_records_52 : decode cX7_records 52 = .ok (.getfield 41, 3) := by decide +kernel
theorem dX7_records_55 : decode cX7_records 55 = .ok (.iconst 1, 1) := by decide +kernel
theorem dX7_records_56 : decode cX7_records 56 = .ok (.iadd, 1) := by decide +kernel
theorem dX7_records_57 : decode cX7_records 57 = .ok (.putfield 41, 3) := by decide +kernel
theorem dX7_records_60 : decode cX7_records 60 = .ok (.iconst 0, 1) := by decide +kernel
theorem dX7_records_61 : decode cX7_records 61 = .ok (.istore_n 1, 1) := by decide +kernel
theorem dX7_records_62 : decode cX7_records 62 = .ok (.iload_n 1, 1) := by decide +kernel
theorem dX7_records_63 : decode cX7_records 63 = .ok (.bipush 111, 2) := by decide +kernel
theorem dX7_records_65 : decode cX7_records 65 = .ok (.if_icmp .ge 29, 3) := by decide +kernel
theorem dX7_records_68 : decode cX7_records 68 = .ok (.aload_n 0, 1) := by decide +kernel
theorem dX7_records_69 : decode cX7_records 69 = .ok (.getfield 7, 3) := by decide +kernel
theorem dX7_records_72 : decode cX7_records 72 = .ok (.bipush 111, 2) := by decide +kernel
theorem dX7_records_74 : decode cX7_records 74 = .ok (.aload_n 0, 1) := by decide +kernel
theorem dX7_records_75 : decode cX7_records 75 = .ok (.getfield 41, 3) := by decide +kernel
theorem dX7_records_78 : decode cX7_records 78 = .ok (.imul, 1) := by decide +kernel
theorem dX7_records_79 : decode cX7_records 79 = .ok (.iload_n 1, 1) := by decide +kernel
theorem dX7_records_80 : decode cX7_records 80 = .ok (.iadd, 1) := by decide +kernel
theorem dX7_records_81 : decode cX7_records 81 = .ok (.aload_n 0, 1) := by decide +kernel
theorem dX7_records_82 : decode cX7_records 82 = .ok (.getfield 7, 3) := by decide +kernel
theorem dX7_records_85 : decode cX7_records 85 = .ok (.iload_n 1, 1) := by decide +kernel
theorem dX7_records_86 : decode cX7_records 86 = .ok (.iaload, 1) := by decide +kernel
theorem dX7_records_87 : decode cX7_records 87 = .ok (.iastore, 1) := by decide +kernel
theorem dX7_records_88 : decode cX7_records 88 = .ok (.iinc 1 1, 3) := by decide +kernel
theorem dX7_records_91 : decode cX7_records 91 = .ok (.goto (-29), 3) := by decide +kernel
theorem dX7_records_94 : decode cX7_records 94 = .ok (.return_, 1) := by decide +kernel
theorem dX7_at_0 : decode cX7_at 0 = .ok (.iconst 1, 1) := by decide +kernel
theorem dX7_at_1 : decode cX7_at 1 = .ok (.bipush 9, 2) := by decide +kernel
theorem dX7_at_3 : decode cX7_at 3 = .ok (.iload_n 1, 1) := by decide +kernel
theorem dX7_at_4 : decode cX7_at 4 = .ok (.imul, 1) := by decide +kernel
theorem dX7_at_5 : decode cX7_at 5 = .ok (.iadd, 1) := by decide +kernel
theorem dX7_at_6 : decode cX7_at 6 = .ok (.iload_n 2, 1) := by decide +kernel
theorem dX7_at_7 : decode cX7_at 7 = .ok (.iadd, 1) := by decide +kernel
theorem dX7_at_8 : decode cX7_at 8 = .ok (.ireturn, 1) := by decide +kernel
theorem dX7_of_0 : decode cX7_of 0 = .ok (.aload_n 0, 1) := by decide +kernel
theorem dX7_of_1 : decode cX7_of 1 = .ok (.getfield 7, 3) := by decide +kernel
theorem dX7_of_4 : decode cX7_of 4 = .ok (.aload_n 0, 1) := by decide +kernel
theorem dX7_of_5 : decode cX7_of 5 = .ok (.iload_n 1, 1) := by decide +kernel
theorem dX7_of_6 : decode cX7_of 6 = .ok (.iload_n 2, 1) := by decide +kernel
theorem dX7_of_7 : decode cX7_of 7 = .ok (.invokevirtual 45, 3) := by decide +kernel
theorem dX7_of_10 : decode cX7_of 10 = .ok (.iaload, 1) := by decide +kernel
theorem dX7_of_11 : decode cX7_of 11 = .ok (.ireturn, 1) := by decide +kernel
theorem dX7_lights_0 : decode cX7_lights 0 = .ok (.aload_n 0, 1) := by decide +kernel
theorem dX7_lights_1 : decode cX7_lights 1 = .ok (.getfield 7, 3) := by decide +kernel
theorem dX7_lights_4 : decode cX7_lights 4 = .ok (.iconst 0, 1) := by decide +kernel
theorem dX7_lights_5 : decode cX7_lights 5 = .ok (.iaload, 1) := by decide +kernel
theorem dX7_lights_6 : decode cX7_lights 6 = .ok (.ireturn, 1) := by decide +kernel
theorem dX7_isLight_0 : decode cX7_isLight 0 = .ok (.iload_n 1, 1) := by decide +kernel
theorem dX7_isLight_1 : decode cX7_isLight 1 = .ok (.iconst 0, 1) := by decide +kernel
theorem dX7_isLight_2 : decode cX7_isLight 2 = .ok (.aload_n 0, 1) := by decide +kernel
theorem dX7_isLight_3 : decode cX7_isLight 3 = .ok (.invokevirtual 49, 3) := by decide +kernel
theorem dX7_isLight_6 : decode cX7_isLight 6 = .ok (.iconst 1, 1) := by decide +kernel
theorem dX7_isLight_7 : decode cX7_isLight 7 = .ok (.isub, 1) := by decide +kernel
theorem dX7_isLight_8 : decode cX7_isLight 8 = .ok (.invokestatic 53, 3) := by decide +kernel
theorem dX7_isLight_11 : decode cX7_isLight 11 = .ok (.ireturn, 1) := by decide +kernel
theorem dX7_isRoute_0 : decode cX7_isRoute 0 = .ok (.iload_n 1, 1) := by decide +kernel
theorem dX7_isRoute_1 : decode cX7_isRoute 1 = .ok (.iconst 0, 1) := by decide +kernel
theorem dX7_isRoute_2 : decode cX7_isRoute 2 = .ok (.aload_n 0, 1) := by decide +kernel
theorem dX7_isRoute_3 : decode cX7_isRoute 3 = .ok (.getfield 7, 3) := by decide +kernel
theorem dX7_isRoute_6 : decode cX7_isRoute 6 = .ok (.bipush 91, 2) := by decide +kernel
theorem dX7_isRoute_8 : decode cX7_isRoute 8 = .ok (.iaload, 1) := by decide +kernel
theorem dX7_isRoute_9 : decode cX7_isRoute 9 = .ok (.iconst 1, 1) := by decide +kernel
theorem dX7_isRoute_10 : decode cX7_isRoute 10 = .ok (.isub, 1) := by decide +kernel
theorem dX7_isRoute_11 : decode cX7_isRoute 11 = .ok (.invokestatic 53, 3) := by decide +kernel
theorem dX7_isRoute_14 : decode cX7_isRoute 14 = .ok (.ireturn, 1) := by decide +kernel
theorem dX7_ratedOf_0 : decode cX7_ratedOf 0 = .ok (.aload_n 0, 1) := by decide +kernel
theorem dX7_ratedOf_1 : decode cX7_ratedOf 1 = .ok (.iload_n 1, 1) := by decide +kernel
theorem dX7_ratedOf_2 : decode cX7_ratedOf 2 = .ok (.iconst 2, 1) := by decide +kernel
theorem dX7_ratedOf_3 : decode cX7_ratedOf 3 = .ok (.invokevirtual 57, 3) := by decide +kernel
theorem dX7_ratedOf_6 : decode cX7_ratedOf 6 = .ok (.istore_n 2, 1) := by decide +kernel
theorem dX7_ratedOf_7 : decode cX7_ratedOf 7 = .ok (.iload_n 2, 1) := by decide +kernel
theorem dX7_ratedOf_8 : decode cX7_ratedOf 8 = .ok (.iconst 3, 1) := by decide +kernel
theorem dX7_ratedOf_9 : decode cX7_ratedOf 9 = .ok (.if_icmp .ne 9, 3) := by decide +kernel
theorem dX7_ratedOf_12 : decode cX7_ratedOf 12 = .ok (.sipush 180, 3) := by decide +kernel
theorem dX7_ratedOf_15 : decode cX7_ratedOf 15 = .ok (.goto 10, 3) := by decide +kernel
theorem dX7_ratedOf_18 : decode cX7_ratedOf 18 = .ok (.bipush 60, 2) := by decide +kernel
theorem dX7_ratedOf_20 : decode cX7_ratedOf 20 = .ok (.bipush 30, 2) := by decide +kernel
theorem dX7_ratedOf_22 : decode cX7_ratedOf 22 = .ok (.iload_n 2, 1) := by decide +kernel
theorem dX7_ratedOf_23 : decode cX7_ratedOf 23 = .ok (.imul, 1) := by decide +kernel
theorem dX7_ratedOf_24 : decode cX7_ratedOf 24 = .ok (.iadd, 1) := by decide +kernel
theorem dX7_ratedOf_25 : decode cX7_ratedOf 25 = .ok (.ireturn, 1) := by decide +kernel
theorem dX7_reachOf_0 : decode cX7_reachOf 0 = .ok (.iload_n 0, 1) := by decide +kernel
theorem dX7_reachOf_1 : decode cX7_reachOf 1 = .ok (.ifCond .ne 7, 3) := by decide +kernel
theorem dX7_reachOf_4 : decode cX7_reachOf 4 = .ok (.iconst 4, 1) := by decide +kernel
theorem dX7_reachOf_5 : decode cX7_reachOf 5 = .ok (.goto 15, 3) := by decide +kernel
theorem dX7_reachOf_8 : decode cX7_reachOf 8 = .ok (.iload_n 0, 1) := by decide +kernel
theorem dX7_reachOf_9 : decode cX7_reachOf 9 = .ok (.iconst 1, 1) := by decide +kernel
theorem dX7_reachOf_10 : decode cX7_reachOf 10 = .ok (.if_icmp .ne 8, 3) := by decide +kernel
theorem dX7_reachOf_13 : decode cX7_reachOf 13 = .ok (.bipush 6, 2) := by decide +kernel
theorem dX7_reachOf_15 : decode cX7_reachOf 15 = .ok (.goto 5, 3) := by decide +kernel
theorem dX7_reachOf_18 : decode cX7_reachOf 18 = .ok (.bipush 9, 2) := by decide +kernel
theorem dX7_reachOf_20 : decode cX7_reachOf 20 = .ok (.ireturn, 1) := by decide +kernel
theorem dX7_capacityOf_0 : decode cX7_capacityOf 0 = .ok (.iconst 5, 1) := by decide +kernel
theorem dX7_capacityOf_1 : decode cX7_capacityOf 1 = .ok (.aload_n 0, 1) := by decide +kernel
theorem dX7_capacityOf_2 : decode cX7_capacityOf 2 = .ok (.iload_n 1, 1) := by decide +kernel
theorem dX7_capacityOf_3 : decode cX7_capacityOf 3 = .ok (.invokevirtual 60, 3) := by decide +kernel
theorem dX7_capacityOf_6 : decode cX7_capacityOf 6 = .ok (.imul, 1) := by decide +kernel
theorem dX7_capacityOf_7 : decode cX7_capacityOf 7 = .ok (.aload_n 0, 1) := by decide +kernel
theorem dX7_capacityOf_8 : decode cX7_capacityOf 8 = .ok (.iload_n 1, 1) := by decide +kernel
theorem dX7_capacityOf_9 : decode cX7_capacityOf 9 = .ok (.iconst 5, 1) := by decide +kernel
theorem dX7_capacityOf_10 : decode cX7_capacityOf 10 = .ok (.invokevirtual 57, 3) := by decide +kernel
theorem dX7_capacityOf_13 : decode cX7_capacityOf 13 = .ok (.imul, 1) := by decide +kernel
theorem dX7_capacityOf_14 : decode cX7_capacityOf 14 = .ok (.sipush 4000, 3) := by decide +kernel
theorem dX7_capacityOf_17 : decode cX7_capacityOf 17 = .ok (.idiv, 1) := by decide +kernel
theorem dX7_capacityOf_18 : decode cX7_capacityOf 18 = .ok (.ireturn, 1) := by decide +kernel
theorem dX7_restOf_0 : decode cX7_restOf 0 = .ok (.sipush 3000, 3) := by decide +kernel
theorem dX7_restOf_3 : decode cX7_restOf 3 = .ok (.aload_n 0, 1) := by decide +kernel
theorem dX7_restOf_4 : decode cX7_restOf 4 = .ok (.iload_n 1, 1) := by decide +kernel
theorem dX7_restOf_5 : decode cX7_restOf 5 = .ok (.iconst 3, 1) := by decide +kernel
theorem dX7_restOf_6 : decode cX7_restOf 6 = .ok (.invokevirtual 57, 3) := by decide +kernel
theorem dX7_restOf_9 : decode cX7_restOf 9 = .ok (.iconst 1, 1) := by decide +kernel
theorem dX7_restOf_10 : decode cX7_restOf 10 = .ok (.iadd, 1) := by decide +kernel
theorem dX7_restOf_11 : decode cX7_restOf 11 = .ok (.imul, 1) := by decide +kernel
theorem dX7_restOf_12 : decode cX7_restOf 12 = .ok (.aload_n 0, 1) := by decide +kernel
theorem dX7_restOf_13 : decode cX7_restOf 13 = .ok (.iload_n 1, 1) := by decide +kernel
theorem dX7_restOf_14 : decode cX7_restOf 14 = .ok (.bipush 7, 2) := by decide +kernel
theorem dX7_restOf_16 : decode cX7_restOf 16 = .ok (.invokevirtual 57, 3) := by decide +kernel
theorem dX7_restOf_19 : decode cX7_restOf 19 = .ok (.isub, 1) := by decide +kernel
theorem dX7_restOf_20 : decode cX7_restOf 20 = .ok (.istore_n 2, 1) := by decide +kernel
theorem dX7_restOf_21 : decode cX7_restOf 21 = .ok (.iload_n 2, 1) := by decide +kernel
theorem dX7_restOf_22 : decode cX7_restOf 22 = .ok (.ifCond .le 7, 3) := by decide +kernel
theorem dX7_restOf_25 : decode cX7_restOf 25 = .ok (.iload_n 2, 1) := by decide +kernel
theorem dX7_restOf_26 : decode cX7_restOf 26 = .ok (.goto 4, 3) := by decide +kernel
theorem dX7_restOf_29 : decode cX7_restOf 29 = .ok (.iconst 0, 1) := by decide +kernel
theorem dX7_restOf_30 : decode cX7_restOf 30 = .ok (.ireturn, 1) := by decide +kernel
theorem dX7_enduranceOf_0 : decode cX7_enduranceOf 0 = .ok (.aload_n 0, 1) := by decide +kernel
theorem dX7_enduranceOf_1 : decode cX7_enduranceOf 1 = .ok (.iload_n 1, 1) := by decide +kernel
theorem dX7_enduranceOf_2 : decode cX7_enduranceOf 2 = .ok (.bipush 6, 2) := by decide +kernel
theorem dX7_enduranceOf_4 : decode cX7_enduranceOf 4 = .ok (.invokevirtual 57, 3) := by decide +kernel
theorem dX7_enduranceOf_7 : decode cX7_enduranceOf 7 = .ok (.bipush 24, 2) := by decide +kernel
theorem dX7_enduranceOf_9 : decode cX7_enduranceOf 9 = .ok (.idiv, 1) := by decide +kernel
theorem dX7_enduranceOf_10 : decode cX7_enduranceOf 10 = .ok (.istore_n 2, 1) := by decide +kernel
theorem dX7_enduranceOf_11 : decode cX7_enduranceOf 11 = .ok (.iload_n 2, 1) := by decide +kernel
theorem dX7_enduranceOf_12 : decode cX7_enduranceOf 12 = .ok (.aload_n 0, 1) := by decide +kernel
theorem dX7_enduranceOf_13 : decode cX7_enduranceOf 13 = .ok (.iload_n 1, 1) := by decide +kernel
theorem dX7_enduranceOf_14 : decode cX7_enduranceOf 14 = .ok (.invokevirtual 64, 3) := by decide +kernel
theorem dX7_enduranceOf_17 : decode cX7_enduranceOf 17 = .ok (.if_icmp .ge 7, 3) := by decide +kernel
theorem dX7_enduranceOf_20 : decode cX7_enduranceOf 20 = .ok (.iload_n 2, 1) := by decide +kernel
theorem dX7_enduranceOf_21 : decode cX7_enduranceOf 21 = .ok (.goto 8, 3) := by decide +kernel
theorem dX7_enduranceOf_24 : decode cX7_enduranceOf 24 = .ok (.aload_n 0, 1) := by decide +kernel
theorem dX7_enduranceOf_25 : decode cX7_enduranceOf 25 = .ok (.iload_n 1, 1) := by decide +kernel
theorem dX7_enduranceOf_26 : decode cX7_enduranceOf 26 = .ok (.invokevirtual 64, 3) := by decide +kernel
theorem dX7_enduranceOf_29 : decode cX7_enduranceOf 29 = .ok (.ireturn, 1) := by decide +kernel
theorem dX7_isReady_0 : decode cX7_isReady 0 = .ok (.aload_n 0, 1) := by decide +kernel
theorem dX7_isReady_1 : decode cX7_isReady 1 = .ok (.iload_n 1, 1) := by decide +kernel
theorem dX7_isReady_2 : decode cX7_isReady 2 = .ok (.invokevirtual 67, 3) := by decide +kernel
theorem dX7_isReady_5 : decode cX7_isReady 5 = .ok (.aload_n 0, 1) := by decide +kernel
theorem dX7_isReady_6 : decode cX7_isReady 6 = .ok (.getfield 7, 3) := by decide +kernel
theorem dX7_isReady_9 : decode cX7_isReady 9 = .ok (.bipush 104, 2) := by decide +kernel
theorem dX7_isReady_11 : decode cX7_isReady 11 = .ok (.iaload, 1) := by decide +kernel
theorem dX7_isReady_12 : decode cX7_isReady 12 = .ok (.if_icmp .lt 7, 3) := by decide +kernel
theorem dX7_isReady_15 : decode cX7_isReady 15 = .ok (.iconst 1, 1) := by decide +kernel
theorem dX7_isReady_16 : decode cX7_isReady 16 = .ok (.goto 4, 3) := by decide +kernel
theorem dX7_isReady_19 : decode cX7_isReady 19 = .ok (.iconst 0, 1) := by decide +kernel
theorem dX7_isReady_20 : decode cX7_isReady 20 = .ok (.ireturn, 1) := by decide +kernel
theorem dX7_reaches_0 : decode cX7_reaches 0 = .ok (.aload_n 0, 1) := by decide +kernel
theorem dX7_reaches_1 : decode cX7_reaches 1 = .ok (.iload_n 1, 1) := by decide +kernel
theorem dX7_reaches_2 : decode cX7_reaches 2 = .ok (.iconst 0, 1) := by decide +kernel
theorem dX7_reaches_3 : decode cX7_reaches 3 = .ok (.invokevirtual 57, 3) := by decide +kernel
theorem dX7_reaches_6 : decode cX7_reaches 6 = .ok (.iload_n 2, 1) := by decide +kernel
theorem dX7_reaches_7 : decode cX7_reaches 7 = .ok (.if_icmp .le 14, 3) := by decide +kernel
theorem dX7_reaches_10 : decode cX7_reaches 10 = .ok (.aload_n 0, 1) := by decide +kernel
theorem dX7_reaches_11 : decode cX7_reaches 11 = .ok (.iload_n 1, 1) := by decide +kernel
theorem dX7_reaches_12 : decode cX7_reaches 12 = .ok (.iconst 0, 1) := by decide +kernel
theorem dX7_reaches_13 : decode cX7_reaches 13 = .ok (.invokevirtual 57, 3) := by decide +kernel
theorem dX7_reaches_16 : decode cX7_reaches 16 = .ok (.iload_n 2, 1) := by decide +kernel
theorem dX7_reaches_17 : decode cX7_reaches 17 = .ok (.isub, 1) := by decide +kernel
theorem dX7_reaches_18 : decode cX7_reaches 18 = .ok (.goto 11, 3) := by decide +kernel
theorem dX7_reaches_21 : decode cX7_reaches 21 = .ok (.iload_n 2, 1) := by decide +kernel
theorem dX7_reaches_22 : decode cX7_reaches 22 = .ok (.aload_n 0, 1) := by decide +kernel
theorem dX7_reaches_23 : decode cX7_reaches 23 = .ok (.iload_n 1, 1) := by decide +kernel
theorem dX7_reaches_24 : decode cX7_reaches 24 = .ok (.iconst 0, 1) := by decide +kernel
theorem dX7_reaches_25 : decode cX7_reaches 25 = .ok (.invokevirtual 57, 3) := by decide +kernel
theorem dX7_reaches_28 : decode cX7_reaches 28 = .ok (.isub, 1) := by decide +kernel
theorem dX7_reaches_29 : decode cX7_reaches 29 = .ok (.istore_n 3, 1) := by decide +kernel
theorem dX7_reaches_30 : decode cX7_reaches 30 = .ok (.iload_n 3, 1) := by decide +kernel
theorem dX7_reaches_31 : decode cX7_reaches 31 = .ok (.aload_n 0, 1) := by decide +kernel
theorem dX7_reaches_32 : decode cX7_reaches 32 = .ok (.iload_n 1, 1) := by decide +kernel
theorem dX7_reaches_33 : decode cX7_reaches 33 = .ok (.iconst 3, 1) := by decide +kernel
theorem dX7_reaches_34 : decode cX7_reaches 34 = .ok (.invokevirtual 57, 3) := by decide +kernel
theorem dX7_reaches_37 : decode cX7_reaches 37 = .ok (.invokestatic 70, 3) := by decide +kernel
theorem dX7_reaches_40 : decode cX7_reaches 40 = .ok (.if_icmp .gt 7, 3) := by decide +kernel
theorem dX7_reaches_43 : decode cX7_reaches 43 = .ok (.iconst 1, 1) := by decide +kernel
theorem dX7_reaches_44 : decode cX7_reaches 44 = .ok (.goto 4, 3) := by decide +kernel
theorem dX7_reaches_47 : decode cX7_reaches 47 = .ok (.iconst 0, 1) := by decide +kernel
theorem dX7_reaches_48 : decode cX7_reaches 48 = .ok (.ireturn, 1) := by decide +kernel
theorem dX7_clips_0 : decode cX7_clips 0 = .ok (.bipush 24, 2) := by decide +kernel
theorem dX7_clips_2 : decode cX7_clips 2 = .ok (.aload_n 0, 1) := by decide +kernel
theorem dX7_clips_3 : decode cX7_clips 3 = .ok (.iload_n 1, 1) := by decide +kernel
theorem dX7_clips_4 : decode cX7_clips 4 = .ok (.invokevirtual 73, 3) := by decide +kernel
theorem dX7_clips_7 : decode cX7_clips 7 = .ok (.imul, 1) := by decide +kernel
theorem dX7_clips_8 : decode cX7_clips 8 = .ok (.istore_n 2, 1) := by decide +kernel
theorem dX7_clips_9 : decode cX7_clips 9 = .ok (.aload_n 0, 1) := by decide +kernel
theorem dX7_clips_10 : decode cX7_clips 10 = .ok (.getfield 7, 3) := by decide +kernel
theorem dX7_clips_13 : decode cX7_clips 13 = .ok (.aload_n 0, 1) := by decide +kernel
theorem dX7_clips_14 : decode cX7_clips 14 = .ok (.iload_n 1, 1) := by decide +kernel
theorem dX7_clips_15 : decode cX7_clips 15 = .ok (.bipush 6, 2) := by decide +kernel
theorem dX7_clips_17 : decode cX7_clips 17 = .ok (.invokevirtual 45, 3) := by decide +kernel
theorem dX7_clips_20 : decode cX7_clips 20 = .ok (.aload_n 0, 1) := by decide +kernel
theorem dX7_clips_21 : decode cX7_clips 21 = .ok (.iload_n 1, 1) := by decide +kernel
theorem dX7_clips_22 : decode cX7_clips 22 = .ok (.bipush 6, 2) := by decide +kernel
theorem dX7_clips_24 : decode cX7_clips 24 = .ok (.invokevirtual 57, 3) := by decide +kernel
theorem dX7_clips_27 : decode cX7_clips 27 = .ok (.iload_n 2, 1) := by decide +kernel
theorem dX7_clips_28 : decode cX7_clips 28 = .ok (.if_icmp .le 7, 3) := by decide +kernel
theorem dX7_clips_31 : decode cX7_clips 31 = .ok (.iload_n 2, 1) := by decide +kernel
theorem dX7_clips_32 : decode cX7_clips 32 = .ok (.goto 10, 3) := by decide +kernel
theorem dX7_clips_35 : decode cX7_clips 35 = .ok (.aload_n 0, 1) := by decide +kernel
theorem dX7_clips_36 : decode cX7_clips 36 = .ok (.iload_n 1, 1) := by decide +kernel
theorem dX7_clips_37 : decode cX7_clips 37 = .ok (.bipush 6, 2) := by decide +kernel
theorem dX7_clips_39 : decode cX7_clips 39 = .ok (.invokevirtual 57, 3) := by decide +kernel
theorem dX7_clips_42 : decode cX7_clips 42 = .ok (.iastore, 1) := by decide +kernel
theorem dX7_clips_43 : decode cX7_clips 43 = .ok (.return_, 1) := by decide +kernel
theorem dX7_wears_0 : decode cX7_wears 0 = .ok (.aload_n 0, 1) := by decide +kernel
theorem dX7_wears_1 : decode cX7_wears 1 = .ok (.getfield 7, 3) := by decide +kernel
theorem dX7_wears_4 : decode cX7_wears 4 = .ok (.aload_n 0, 1) := by decide +kernel
theorem dX7_wears_5 : decode cX7_wears 5 = .ok (.iload_n 1, 1) := by decide +kernel
theorem dX7_wears_6 : decode cX7_wears 6 = .ok (.iconst 5, 1) := by decide +kernel
theorem dX7_wears_7 : decode cX7_wears 7 = .ok (.invokevirtual 45, 3) := by decide +kernel
theorem dX7_wears_10 : decode cX7_wears 10 = .ok (.aload_n 0, 1) := by decide +kernel
theorem dX7_wears_11 : decode cX7_wears 11 = .ok (.iload_n 1, 1) := by decide +kernel
theorem dX7_wears_12 : decode cX7_wears 12 = .ok (.iconst 5, 1) := by decide +kernel
theorem dX7_wears_13 : decode cX7_wears 13 = .ok (.invokevirtual 57, 3) := by decide +kernel
theorem dX7_wears_16 : decode cX7_wears 16 = .ok (.iload_n 2, 1) := by decide +kernel
theorem dX7_wears_17 : decode cX7_wears 17 = .ok (.if_icmp .le 14, 3) := by decide +kernel
theorem dX7_wears_20 : decode cX7_wears 20 = .ok (.aload_n 0, 1) := by decide +kernel
theorem dX7_wears_21 : decode cX7_wears 21 = .ok (.iload_n 1, 1) := by decide +kernel
theorem dX7_wears_22 : decode cX7_wears 22 = .ok (.iconst 5, 1) := by decide +kernel
theorem dX7_wears_23 : decode cX7_wears 23 = .ok (.invokevirtual 57, 3) := by decide +kernel
theorem dX7_wears_26 : decode cX7_wears 26 = .ok (.iload_n 2, 1) := by decide +kernel
theorem dX7_wears_27 : decode cX7_wears 27 = .ok (.isub, 1) := by decide +kernel
theorem dX7_wears_28 : decode cX7_wears 28 = .ok (.goto 4, 3) := by decide +kernel
theorem dX7_wears_31 : decode cX7_wears 31 = .ok (.iconst 0, 1) := by decide +kernel
theorem dX7_wears_32 : decode cX7_wears 32 = .ok (.iastore, 1) := by decide +kernel
theorem dX7_wears_33 : decode cX7_wears 33 = .ok (.aload_n 0, 1) := by decide +kernel
theorem dX7_wears_34 : decode cX7_wears 34 = .ok (.iload_n 1, 1) := by decide +kernel
theorem dX7_wears_35 : decode cX7_wears 35 = .ok (.invokevirtual 76, 3) := by decide +kernel
theorem dX7_wears_38 : decode cX7_wears 38 = .ok (.return_, 1) := by decide +kernel
theorem dX7_lays_0 : decode cX7_lays 0 = .ok (.aload_n 0, 1) := by decide +kernel
theorem dX7_lays_1 : decode cX7_lays 1 = .ok (.getfield 7, 3) := by decide +kernel
theorem dX7_lays_4 : decode cX7_lays 4 = .ok (.aload_n 0, 1) := by decide +kernel
theorem dX7_lays_5 : decode cX7_lays 5 = .ok (.iload_n 1, 1) := by decide +kernel
theorem dX7_lays_6 : decode cX7_lays 6 = .ok (.iconst 0, 1) := by decide +kernel
theorem dX7_lays_7 : decode cX7_lays 7 = .ok (.invokevirtual 45, 3) := by decide +kernel
theorem dX7_lays_10 : decode cX7_lays 10 = .ok (.iload_n 2, 1) := by decide +kernel
theorem dX7_lays_11 : decode cX7_lays 11 = .ok (.iastore, 1) := by decide +kernel
theorem dX7_lays_12 : decode cX7_lays 12 = .ok (.aload_n 0, 1) := by decide +kernel
theorem dX7_lays_13 : decode cX7_lays 13 = .ok (.getfield 7, 3) := by decide +kernel
theorem dX7_lays_16 : decode cX7_lays 16 = .ok (.aload_n 0, 1) := by decide +kernel
theorem dX7_lays_17 : decode cX7_lays 17 = .ok (.iload_n 1, 1) := by decide +kernel
theorem dX7_lays_18 : decode cX7_lays 18 = .ok (.iconst 1, 1) := by decide +kernel
theorem dX7_lays_19 : decode cX7_lays 19 = .ok (.invokevirtual 45, 3) := by decide +kernel
theorem dX7_lays_22 : decode cX7_lays 22 = .ok (.iload_n 3, 1) := by decide +kernel
theorem dX7_lays_23 : decode cX7_lays 23 = .ok (.iastore, 1) := by decide +kernel
theorem dX7_lays_24 : decode cX7_lays 24 = .ok (.aload_n 0, 1) := by decide +kernel
theorem dX7_lays_25 : decode cX7_lays 25 = .ok (.getfield 7, 3) := by decide +kernel
theorem dX7_lays_28 : decode cX7_lays 28 = .ok (.aload_n 0, 1) := by decide +kernel
theorem dX7_lays_29 : decode cX7_lays 29 = .ok (.iload_n 1, 1) := by decide +kernel
theorem dX7_lays_30 : decode cX7_lays 30 = .ok (.iconst 2, 1) := by decide +kernel
theorem dX7_lays_31 : decode cX7_lays 31 = .ok (.invokevirtual 45, 3) := by decide +kernel
theorem dX7_lays_34 : decode cX7_lays 34 = .ok (.iload 4, 2) := by decide +kernel
theorem dX7_lays_36 : decode cX7_lays 36 = .ok (.iastore, 1) := by decide +kernel
theorem dX7_lays_37 : decode cX7_lays 37 = .ok (.aload_n 0, 1) := by decide +kernel
theorem dX7_lays_38 : decode cX7_lays 38 = .ok (.getfield 7, 3) := by decide +kernel
theorem dX7_lays_41 : decode cX7_lays 41 = .ok (.aload_n 0, 1) := by decide +kernel
theorem dX7_lays_42 : decode cX7_lays 42 = .ok (.iload_n 1, 1) := by decide +kernel
theorem dX7_lays_43 : decode cX7_lays 43 = .ok (.iconst 3, 1) := by decide +kernel
theorem dX7_lays_44 : decode cX7_lays 44 = .ok (.invokevirtual 45, 3) := by decide +kernel
theorem dX7_lays_47 : decode cX7_lays 47 = .ok (.iload 5, 2) := by decide +kernel
theorem dX7_lays_49 : decode cX7_lays 49 = .ok (.iastore, 1) := by decide +kernel
theorem dX7_lays_50 : decode cX7_lays 50 = .ok (.aload_n 0, 1) := by decide +kernel
theorem dX7_lays_51 : decode cX7_lays 51 = .ok (.getfield 7, 3) := by decide +kernel
theorem dX7_lays_54 : decode cX7_lays 54 = .ok (.aload_n 0, 1) := by decide +kernel
theorem dX7_lays_55 : decode cX7_lays 55 = .ok (.iload_n 1, 1) := by decide +kernel
theorem dX7_lays_56 : decode cX7_lays 56 = .ok (.iconst 4, 1) := by decide +kernel
theorem dX7_lays_57 : decode cX7_lays 57 = .ok (.invokevirtual 45, 3) := by decide +kernel
theorem dX7_lays_60 : decode cX7_lays 60 = .ok (.iload 6, 2) := by decide +kernel
theorem dX7_lays_62 : decode cX7_lays 62 = .ok (.ifCond .eq 7, 3) := by decide +kernel
theorem dX7_lays_65 : decode cX7_lays 65 = .ok (.iconst 1, 1) := by decide +kernel
theorem dX7_lays_66 : decode cX7_lays 66 = .ok (.goto 4, 3) := by decide +kernel
theorem dX7_lays_69 : decode cX7_lays 69 = .ok (.iconst 0, 1) := by decide +kernel
theorem dX7_lays_70 : decode cX7_lays 70 = .ok (.iastore, 1) := by decide +kernel
theorem dX7_lays_71 : decode cX7_lays 71 = .ok (.aload_n 0, 1) := by decide +kernel
theorem dX7_lays_72 : decode cX7_lays 72 = .ok (.getfield 7, 3) := by decide +kernel
theorem dX7_lays_75 : decode cX7_lays 75 = .ok (.aload_n 0, 1) := by decide +kernel
theorem dX7_lays_76 : decode cX7_lays 76 = .ok (.iload_n 1, 1) := by decide +kernel
theorem dX7_lays_77 : decode cX7_lays 77 = .ok (.iconst 5, 1) := by decide +kernel
theorem dX7_lays_78 : decode cX7_lays 78 = .ok (.invokevirtual 45, 3) := by decide +kernel
theorem dX7_lays_81 : decode cX7_lays 81 = .ok (.sipush 1000, 3) := by decide +kernel
theorem dX7_lays_84 : decode cX7_lays 84 = .ok (.iastore, 1) := by decide +kernel
theorem dX7_lays_85 : decode cX7_lays 85 = .ok (.aload_n 0, 1) := by decide +kernel
theorem dX7_lays_86 : decode cX7_lays 86 = .ok (.getfield 7, 3) := by decide +kernel
theorem dX7_lays_89 : decode cX7_lays 89 = .ok (.aload_n 0, 1) := by decide +kernel
theorem dX7_lays_90 : decode cX7_lays 90 = .ok (.iload_n 1, 1) := by decide +kernel
theorem dX7_lays_91 : decode cX7_lays 91 = .ok (.bipush 6, 2) := by decide +kernel
theorem dX7_lays_93 : decode cX7_lays 93 = .ok (.invokevirtual 45, 3) := by decide +kernel
theorem dX7_lays_96 : decode cX7_lays 96 = .ok (.bipush 24, 2) := by decide +kernel
theorem dX7_lays_98 : decode cX7_lays 98 = .ok (.aload_n 0, 1) := by decide +kernel
theorem dX7_lays_99 : decode cX7_lays 99 = .ok (.iload_n 1, 1) := by decide +kernel
theorem dX7_lays_100 : decode cX7_lays 100 = .ok (.invokevirtual 73, 3) := by decide +kernel
theorem dX7_lays_103 : decode cX7_lays 103 = .ok (.imul, 1) := by decide +kernel
theorem dX7_lays_104 : decode cX7_lays 104 = .ok (.iastore, 1) := by decide +kernel
theorem dX7_lays_105 : decode cX7_lays 105 = .ok (.aload_n 0, 1) := by decide +kernel
theorem dX7_lays_106 : decode cX7_lays 106 = .ok (.getfield 7, 3) := by decide +kernel
theorem dX7_lays_109 : decode cX7_lays 109 = .ok (.aload_n 0, 1) := by decide +kernel
theorem dX7_lays_110 : decode cX7_lays 110 = .ok (.iload_n 1, 1) := by decide +kernel
theorem dX7_lays_111 : decode cX7_lays 111 = .ok (.bipush 7, 2) := by decide +kernel
theorem dX7_lays_113 : decode cX7_lays 113 = .ok (.invokevirtual 45, 3) := by decide +kernel
theorem dX7_lays_116 : decode cX7_lays 116 = .ok (.iconst 0, 1) := by decide +kernel
theorem dX7_lays_117 : decode cX7_lays 117 = .ok (.iastore, 1) := by decide +kernel
theorem dX7_lays_118 : decode cX7_lays 118 = .ok (.aload_n 0, 1) := by decide +kernel
theorem dX7_lays_119 : decode cX7_lays 119 = .ok (.getfield 7, 3) := by decide +kernel
theorem dX7_lays_122 : decode cX7_lays 122 = .ok (.aload_n 0, 1) := by decide +kernel
theorem dX7_lays_123 : decode cX7_lays 123 = .ok (.iload_n 1, 1) := by decide +kernel
theorem dX7_lays_124 : decode cX7_lays 124 = .ok (.bipush 8, 2) := by decide +kernel
theorem dX7_lays_126 : decode cX7_lays 126 = .ok (.invokevirtual 45, 3) := by decide +kernel
theorem dX7_lays_129 : decode cX7_lays 129 = .ok (.bipush (-9), 2) := by decide +kernel
theorem dX7_lays_131 : decode cX7_lays 131 = .ok (.iastore, 1) := by decide +kernel
theorem dX7_lays_132 : decode cX7_lays 132 = .ok (.return_, 1) := by decide +kernel
theorem dX7_isPlace_0 : decode cX7_isPlace 0 = .ok (.iload_n 0, 1) := by decide +kernel
theorem dX7_isPlace_1 : decode cX7_isPlace 1 = .ok (.iconst 0, 1) := by decide +kernel
theorem dX7_isPlace_2 : decode cX7_isPlace 2 = .ok (.sipush 200, 3) := by decide +kernel
theorem dX7_isPlace_5 : decode cX7_isPlace 5 = .ok (.invokestatic 53, 3) := by decide +kernel
theorem dX7_isPlace_8 : decode cX7_isPlace 8 = .ok (.ireturn, 1) := by decide +kernel
theorem dX7_isLamp_0 : decode cX7_isLamp 0 = .ok (.iload_n 0, 1) := by decide +kernel
theorem dX7_isLamp_1 : decode cX7_isLamp 1 = .ok (.iconst 0, 1) := by decide +kernel
theorem dX7_isLamp_2 : decode cX7_isLamp 2 = .ok (.iconst 2, 1) := by decide +kernel
theorem dX7_isLamp_3 : decode cX7_isLamp 3 = .ok (.invokestatic 53, 3) := by decide +kernel
theorem dX7_isLamp_6 : decode cX7_isLamp 6 = .ok (.ireturn, 1) := by decide +kernel
theorem dX7_add_0 : decode cX7_add 0 = .ok (.iload_n 1, 1) := by decide +kernel
theorem dX7_add_1 : decode cX7_add 1 = .ok (.invokestatic 80, 3) := by decide +kernel
theorem dX7_add_4 : decode cX7_add 4 = .ok (.ifCond .eq 29, 3) := by decide +kernel
theorem dX7_add_7 : decode cX7_add 7 = .ok (.iload_n 2, 1) := by decide +kernel
theorem dX7_add_8 : decode cX7_add 8 = .ok (.iconst 0, 1) := by decide +kernel
theorem dX7_add_9 : decode cX7_add 9 = .ok (.iconst 3, 1) := by decide +kernel
theorem dX7_add_10 : decode cX7_add 10 = .ok (.invokestatic 53, 3) := by decide +kernel
theorem dX7_add_13 : decode cX7_add 13 = .ok (.ifCond .eq 20, 3) := by decide +kernel
theorem dX7_add_16 : decode cX7_add 16 = .ok (.iload_n 3, 1) := by decide +kernel
theorem dX7_add_17 : decode cX7_add 17 = .ok (.iconst 0, 1) := by decide +kernel
theorem dX7_add_18 : decode cX7_add 18 = .ok (.iconst 3, 1) := by decide +kernel
theorem dX7_add_19 : decode cX7_add 19 = .ok (.invokestatic 53, 3) := by decide +kernel
theorem dX7_add_22 : decode cX7_add 22 = .ok (.ifCond .eq 11, 3) := by decide +kernel
theorem dX7_add_25 : decode cX7_add 25 = .ok (.iload 4, 2) := by decide +kernel
theorem dX7_add_27 : decode cX7_add 27 = .ok (.invokestatic 84, 3) := by decide +kernel
theorem dX7_add_30 : decode cX7_add 30 = .ok (.ifCond .ne 5, 3) := by decide +kernel
theorem dX7_add_33 : decode cX7_add 33 = .ok (.iconst (-1), 1) := by decide +kernel
theorem dX7_add_34 : decode cX7_add 34 = .ok (.ireturn, 1) := by decide +kernel
theorem dX7_add_35 : decode cX7_add 35 = .ok (.aload_n 0, 1) := by decide +kernel
theorem dX7_add_36 : decode cX7_add 36 = .ok (.invokevirtual 49, 3) := by decide +kernel
theorem dX7_add_39 : decode cX7_add 39 = .ok (.bipush 10, 2) := by decide +kernel
theorem dX7_add_41 : decode cX7_add 41 = .ok (.if_icmp .ne 6, 3) := by decide +kernel
theorem dX7_add_44 : decode cX7_add 44 = .ok (.bipush (-3), 2) := by decide +kernel
theorem dX7_add_46 : decode cX7_add 46 = .ok (.ireturn, 1) := by decide +kernel
theorem dX7_add_47 : decode cX7_add 47 = .ok (.aload_n 0, 1) := by decide +kernel
theorem dX7_add_48 : decode cX7_add 48 = .ok (.invokevirtual 87, 3) := by decide +kernel
theorem dX7_add_51 : decode cX7_add 51 = .ok (.aload_n 0, 1) := by decide +kernel
theorem dX7_add_52 : decode cX7_add 52 = .ok (.aload_n 0, 1) := by decide +kernel
theorem dX7_add_53 : decode cX7_add 53 = .ok (.invokevirtual 49, 3) := by decide +kernel
theorem dX7_add_56 : decode cX7_add 56 = .ok (.iload_n 1, 1) := by decide +kernel
theorem dX7_add_57 : decode cX7_add 57 = .ok (.iload_n 2, 1) := by decide +kernel
theorem dX7_add_58 : decode cX7_add 58 = .ok (.iload_n 3, 1) := by decide +kernel
theorem dX7_add_59 : decode cX7_add 59 = .ok (.iload 4, 2) := by decide +kernel
theorem dX7_add_61 : decode cX7_add 61 = .ok (.iconst 0, 1) := by decide +kernel
theorem dX7_add_62 : decode cX7_add 62 = .ok (.invokevirtual 90, 3) := by decide +kernel
theorem dX7_add_65 : decode cX7_add 65 = .ok (.aload_n 0, 1) := by decide +kernel
theorem dX7_add_66 : decode cX7_add 66 = .ok (.getfield 7, 3) := by decide +kernel
theorem dX7_add_69 : decode cX7_add 69 = .ok (.iconst 0, 1) := by decide +kernel
theorem dX7_add_70 : decode cX7_add 70 = .ok (.dup2, 1) := by decide +kernel
theorem dX7_add_71 : decode cX7_add 71 = .ok (.iaload, 1) := by decide +kernel
theorem dX7_add_72 : decode cX7_add 72 = .ok (.iconst 1, 1) := by decide +kernel
theorem dX7_add_73 : decode cX7_add 73 = .ok (.iadd, 1) := by decide +kernel
theorem dX7_add_74 : decode cX7_add 74 = .ok (.iastore, 1) := by decide +kernel
theorem dX7_add_75 : decode cX7_add 75 = .ok (.aload_n 0, 1) := by decide +kernel
theorem dX7_add_76 : decode cX7_add 76 = .ok (.invokevirtual 49, 3) := by decide +kernel
theorem dX7_add_79 : decode cX7_add 79 = .ok (.iconst 1, 1) := by decide +kernel
theorem dX7_add_80 : decode cX7_add 80 = .ok (.isub, 1) := by decide +kernel
theorem dX7_add_81 : decode cX7_add 81 = .ok (.ireturn, 1) := by decide +kernel
theorem dX7_drop_0 : decode cX7_drop 0 = .ok (.aload_n 0, 1) := by decide +kernel
theorem dX7_drop_1 : decode cX7_drop 1 = .ok (.iload_n 1, 1) := by decide +kernel
theorem dX7_drop_2 : decode cX7_drop 2 = .ok (.invokevirtual 94, 3) := by decide +kernel
theorem dX7_drop_5 : decode cX7_drop 5 = .ok (.ifCond .ne 5, 3) := by decide +kernel
theorem dX7_drop_8 : decode cX7_drop 8 = .ok (.iconst (-1), 1) := by decide +kernel
theorem dX7_drop_9 : decode cX7_drop 9 = .ok (.ireturn, 1) := by decide +kernel
theorem dX7_drop_10 : decode cX7_drop 10 = .ok (.aload_n 0, 1) := by decide +kernel
theorem dX7_drop_11 : decode cX7_drop 11 = .ok (.invokevirtual 87, 3) := by decide +kernel
theorem dX7_drop_14 : decode cX7_drop 14 = .ok (.aload_n 0, 1) := by decide +kernel
theorem dX7_drop_15 : decode cX7_drop 15 = .ok (.getfield 7, 3) := by decide +kernel
theorem dX7_drop_18 : decode cX7_drop 18 = .ok (.iconst 0, 1) := by decide +kernel
theorem dX7_drop_19 : decode cX7_drop 19 = .ok (.dup2, 1) := by decide +kernel
theorem dX7_drop_20 : decode cX7_drop 20 = .ok (.iaload, 1) := by decide +kernel
theorem dX7_drop_21 : decode cX7_drop 21 = .ok (.iconst 1, 1) := by decide +kernel
theorem dX7_drop_22 : decode cX7_drop 22 = .ok (.isub, 1) := by decide +kernel
theorem dX7_drop_23 : decode cX7_drop 23 = .ok (.iastore, 1) := by decide +kernel
theorem dX7_drop_24 : decode cX7_drop 24 = .ok (.aload_n 0, 1) := by decide +kernel
theorem dX7_drop_25 : decode cX7_drop 25 = .ok (.iload_n 1, 1) := by decide +kernel
theorem dX7_drop_26 : decode cX7_drop 26 = .ok (.iconst 0, 1) := by decide +kernel
theorem dX7_drop_27 : decode cX7_drop 27 = .ok (.invokevirtual 45, 3) := by decide +kernel
theorem dX7_drop_30 : decode cX7_drop 30 = .ok (.istore_n 2, 1) := by decide +kernel
theorem dX7_drop_31 : decode cX7_drop 31 = .ok (.iload_n 2, 1) := by decide +kernel
theorem dX7_drop_32 : decode cX7_drop 32 = .ok (.aload_n 0, 1) := by decide +kernel
theorem dX7_drop_33 : decode cX7_drop 33 = .ok (.aload_n 0, 1) := by decide +kernel
theorem dX7_drop_34 : decode cX7_drop 34 = .ok (.invokevirtual 49, 3) := by decide +kernel
theorem dX7_drop_37 : decode cX7_drop 37 = .ok (.iconst 0, 1) := by decide +kernel
theorem dX7_drop_38 : decode cX7_drop 38 = .ok (.invokevirtual 45, 3) := by decide +kernel
theorem dX7_drop_41 : decode cX7_drop 41 = .ok (.if_icmp .ge 24, 3) := by decide +kernel
theorem dX7_drop_44 : decode cX7_drop 44 = .ok (.aload_n 0, 1) := by decide +kernel
theorem dX7_drop_45 : decode cX7_drop 45 = .ok (.getfield 7, 3) := by decide +kernel
theorem dX7_drop_48 : decode cX7_drop 48 = .ok (.iload_n 2, 1) := by decide +kernel
theorem dX7_drop_49 : decode cX7_drop 49 = .ok (.aload_n 0, 1) := by decide +kernel
theorem dX7_drop_50 : decode cX7_drop 50 = .ok (.getfield 7, 3) := by decide +kernel
theorem dX7_drop_53 : decode cX7_drop 53 = .ok (.iload_n 2, 1) := by decide +kernel
theorem dX7_drop_54 : decode cX7_drop 54 = .ok (.bipush 9, 2) := by decide +kernel
theorem dX7_drop_56 : decode cX7_drop 56 = .ok (.iadd, 1) := by decide +kernel
theorem dX7_drop_57 : decode cX7_drop 57 = .ok (.iaload, 1) := by decide +kernel
theorem dX7_drop_58 : decode cX7_drop 58 = .ok (.iastore, 1) := by decide +kernel
theorem dX7_drop_59 : decode cX7_drop 59 = .ok (.iinc 2 1, 3) := by decide +kernel
theorem dX7_drop_62 : decode cX7_drop 62 = .ok (.goto (-31), 3) := by decide +kernel
theorem dX7_drop_65 : decode cX7_drop 65 = .ok (.aload_n 0, 1) := by decide +kernel
theorem dX7_drop_66 : decode cX7_drop 66 = .ok (.invokevirtual 49, 3) := by decide +kernel
theorem dX7_drop_69 : decode cX7_drop 69 = .ok (.ireturn, 1) := by decide +kernel
theorem dX7_maintain_0 : decode cX7_maintain 0 = .ok (.aload_n 0, 1) := by decide +kernel
theorem dX7_maintain_1 : decode cX7_maintain 1 = .ok (.iload_n 1, 1) := by decide +kernel
theorem dX7_maintain_2 : decode cX7_maintain 2 = .ok (.invokevirtual 94, 3) := by decide +kernel
theorem dX7_maintain_5 : decode cX7_maintain 5 = .ok (.ifCond .ne 5, 3) := by decide +kernel
theorem dX7_maintain_8 : decode cX7_maintain 8 = .ok (.iconst (-1), 1) := by decide +kernel
theorem dX7_maintain_9 : decode cX7_maintain 9 = .ok (.ireturn, 1) := by decide +kernel
theorem dX7_maintain_10 : decode cX7_maintain 10 = .ok (.aload_n 0, 1) := by decide +kernel
theorem dX7_maintain_11 : decode cX7_maintain 11 = .ok (.invokevirtual 87, 3) := by decide +kernel
theorem dX7_maintain_14 : decode cX7_maintain 14 = .ok (.aload_n 0, 1) := by decide +kernel
theorem dX7_maintain_15 : decode cX7_maintain 15 = .ok (.iload_n 1, 1) := by decide +kernel
theorem dX7_maintain_16 : decode cX7_maintain 16 = .ok (.iconst 4, 1) := by decide +kernel
theorem dX7_maintain_17 : decode cX7_maintain 17 = .ok (.invokevirtual 57, 3) := by decide +kernel
theorem dX7_maintain_20 : decode cX7_maintain 20 = .ok (.istore_n 3, 1) := by decide +kernel
theorem dX7_maintain_21 : decode cX7_maintain 21 = .ok (.aload_n 0, 1) := by decide +kernel
theorem dX7_maintain_22 : decode cX7_maintain 22 = .ok (.getfield 7, 3) := by decide +kernel
theorem dX7_maintain_25 : decode cX7_maintain 25 = .ok (.aload_n 0, 1) := by decide +kernel
theorem dX7_maintain_26 : decode cX7_maintain 26 = .ok (.iload_n 1, 1) := by decide +kernel
theorem dX7_maintain_27 : decode cX7_maintain 27 = .ok (.iconst 4, 1) := by decide +kernel
theorem dX7_maintain_28 : decode cX7_maintain 28 = .ok (.invokevirtual 45, 3) := by decide +kernel
theorem dX7_maintain_31 : decode cX7_maintain 31 = .ok (.iload_n 2, 1) := by decide +kernel
theorem dX7_maintain_32 : decode cX7_maintain 32 = .ok (.ifCond .eq 7, 3) := by decide +kernel
theorem dX7_maintain_35 : decode cX7_maintain 35 = .ok (.iconst 1, 1) := by decide +kernel
theorem dX7_maintain_36 : decode cX7_maintain 36 = .ok (.goto 4, 3) := by decide +kernel
theorem dX7_maintain_39 : decode cX7_maintain 39 = .ok (.iconst 0, 1) := by decide +kernel
theorem dX7_maintain_40 : decode cX7_maintain 40 = .ok (.iastore, 1) := by decide +kernel
theorem dX7_maintain_41 : decode cX7_maintain 41 = .ok (.iload_n 3, 1) := by decide +kernel
theorem dX7_maintain_42 : decode cX7_maintain 42 = .ok (.ireturn, 1) := by decide +kernel
theorem dX7_route_0 : decode cX7_route 0 = .ok (.iload_n 1, 1) := by decide +kernel
theorem dX7_route_1 : decode cX7_route 1 = .ok (.invokestatic 80, 3) := by decide +kernel
theorem dX7_route_4 : decode cX7_route 4 = .ok (.ifCond .eq 14, 3) := by decide +kernel
theorem dX7_route_7 : decode cX7_route 7 = .ok (.iload_n 2, 1) := by decide +kernel
theorem dX7_route_8 : decode cX7_route 8 = .ok (.iload_n 1, 1) := by decide +kernel
theorem dX7_route_9 : decode cX7_route 9 = .ok (.sipush 200, 3) := by decide +kernel
theorem dX7_route_12 : decode cX7_route 12 = .ok (.invokestatic 53, 3) := by decide +kernel
theorem dX7_route_15 : decode cX7_route 15 = .ok (.ifCond .ne 5, 3) := by decide +kernel
theorem dX7_route_18 : decode cX7_route 18 = .ok (.iconst (-1), 1) := by decide +kernel
theorem dX7_route_19 : decode cX7_route 19 = .ok (.ireturn, 1) := by decide +kernel
theorem dX7_route_20 : decode cX7_route 20 = .ok (.aload_n 0, 1) := by decide +kernel
theorem dX7_route_21 : decode cX7_route 21 = .ok (.getfield 7, 3) := by decide +kernel
theorem dX7_route_24 : decode cX7_route 24 = .ok (.bipush 91, 2) := by decide +kernel
theorem dX7_route_26 : decode cX7_route 26 = .ok (.iaload, 1) := by decide +kernel
theorem dX7_route_27 : decode cX7_route 27 = .ok (.bipush 6, 2) := by decide +kernel
theorem dX7_route_29 : decode cX7_route 29 = .ok (.if_icmp .ne 6, 3) := by decide +kernel
theorem dX7_route_32 : decode cX7_route 32 = .ok (.bipush (-3), 2) := by decide +kernel
theorem dX7_route_34 : decode cX7_route 34 = .ok (.ireturn, 1) := by decide +kernel
theorem dX7_route_35 : decode cX7_route 35 = .ok (.aload_n 0, 1) := by decide +kernel
theorem dX7_route_36 : decode cX7_route 36 = .ok (.invokevirtual 87, 3) := by decide +kernel
theorem dX7_route_39 : decode cX7_route 39 = .ok (.aload_n 0, 1) := by decide +kernel
theorem dX7_route_40 : decode cX7_route 40 = .ok (.getfield 7, 3) := by decide +kernel
theorem dX7_route_43 : decode cX7_route 43 = .ok (.bipush 92, 2) := by decide +kernel
theorem dX7_route_45 : decode cX7_route 45 = .ok (.iconst 2, 1) := by decide +kernel
theorem dX7_route_46 : decode cX7_route 46 = .ok (.aload_n 0, 1) := by decide +kernel
theorem dX7_route_47 : decode cX7_route 47 = .ok (.getfield 7, 3) := by decide +kernel
theorem dX7_route_50 : decode cX7_route 50 = .ok (.bipush 91, 2) := by decide +kernel
theorem dX7_route_52 : decode cX7_route 52 = .ok (.iaload, 1) := by decide +kernel
theorem dX7_route_53 : decode cX7_route 53 = .ok (.imul, 1) := by decide +kernel
theorem dX7_route_54 : decode cX7_route 54 = .ok (.iadd, 1) := by decide +kernel
theorem dX7_route_55 : decode cX7_route 55 = .ok (.iload_n 1, 1) := by decide +kernel
theorem dX7_route_56 : decode cX7_route 56 = .ok (.iastore, 1) := by decide +kernel
theorem dX7_route_57 : decode cX7_route 57 = .ok (.aload_n 0, 1) := by decide +kernel
theorem dX7_route_58 : decode cX7_route 58 = .ok (.getfield 7, 3) := by decide +kernel
theorem dX7_route_61 : decode cX7_route 61 = .ok (.bipush 92, 2) := by decide +kernel
theorem dX7_route_63 : decode cX7_route 63 = .ok (.iconst 2, 1) := by decide +kernel
theorem dX7_route_64 : decode cX7_route 64 = .ok (.aload_n 0, 1) := by decide +kernel
theorem dX7_route_65 : decode cX7_route 65 = .ok (.getfield 7, 3) := by decide +kernel
theorem dX7_route_68 : decode cX7_route 68 = .ok (.bipush 91, 2) := by decide +kernel
theorem dX7_route_70 : decode cX7_route 70 = .ok (.iaload, 1) := by decide +kernel
theorem dX7_route_71 : decode cX7_route 71 = .ok (.imul, 1) := by decide +kernel
theorem dX7_route_72 : decode cX7_route 72 = .ok (.iadd, 1) := by decide +kernel
theorem dX7_route_73 : decode cX7_route 73 = .ok (.iconst 1, 1) := by decide +kernel
theorem dX7_route_74 : decode cX7_route 74 = .ok (.iadd, 1) := by decide +kernel
theorem dX7_route_75 : decode cX7_route 75 = .ok (.iload_n 2, 1) := by decide +kernel
theorem dX7_route_76 : decode cX7_route 76 = .ok (.iastore, 1) := by decide +kernel
theorem dX7_route_77 : decode cX7_route 77 = .ok (.aload_n 0, 1) := by decide +kernel
theorem dX7_route_78 : decode cX7_route 78 = .ok (.getfield 7, 3) := by decide +kernel
theorem dX7_route_81 : decode cX7_route 81 = .ok (.bipush 91, 2) := by decide +kernel
theorem dX7_route_83 : decode cX7_route 83 = .ok (.dup2, 1) := by decide +kernel
theorem dX7_route_84 : decode cX7_route 84 = .ok (.iaload, 1) := by decide +kernel
theorem dX7_route_85 : decode cX7_route 85 = .ok (.iconst 1, 1) := by decide +kernel
theorem dX7_route_86 : decode cX7_route 86 = .ok (.iadd, 1) := by decide +kernel
theorem dX7_route_87 : decode cX7_route 87 = .ok (.iastore, 1) := by decide +kernel
theorem dX7_route_88 : decode cX7_route 88 = .ok (.aload_n 0, 1) := by decide +kernel
theorem dX7_route_89 : decode cX7_route 89 = .ok (.getfield 7, 3) := by decide +kernel
theorem dX7_route_92 : decode cX7_route 92 = .ok (.bipush 91, 2) := by decide +kernel
theorem dX7_route_94 : decode cX7_route 94 = .ok (.iaload, 1) := by decide +kernel
theorem dX7_route_95 : decode cX7_route 95 = .ok (.iconst 1, 1) := by decide +kernel
theorem dX7_route_96 : decode cX7_route 96 = .ok (.isub, 1) := by decide +kernel
theorem dX7_route_97 : decode cX7_route 97 = .ok (.ireturn, 1) := by decide +kernel
theorem dX7_dropRoute_0 : decode cX7_dropRoute 0 = .ok (.aload_n 0, 1) := by decide +kernel
theorem dX7_dropRoute_1 : decode cX7_dropRoute 1 = .ok (.iload_n 1, 1) := by decide +kernel
theorem dX7_dropRoute_2 : decode cX7_dropRoute 2 = .ok (.invokevirtual 97, 3) := by decide +kernel
theorem dX7_dropRoute_5 : decode cX7_dropRoute 5 = .ok (.ifCond .ne 5, 3) := by decide +kernel
theorem dX7_dropRoute_8 : decode cX7_dropRoute 8 = .ok (.iconst (-1), 1) := by decide +kernel
theorem dX7_dropRoute_9 : decode cX7_dropRoute 9 = .ok (.ireturn, 1) := by decide +kernel
theorem dX7_dropRoute_10 : decode cX7_dropRoute 10 = .ok (.aload_n 0, 1) := by decide +kernel
theorem dX7_dropRoute_11 : decode cX7_dropRoute 11 = .ok (.invokevirtual 87, 3) := by decide +kernel
theorem dX7_dropRoute_14 : decode cX7_dropRoute 14 = .ok (.aload_n 0, 1) := by decide +kernel
theorem dX7_dropRoute_15 : decode cX7_dropRoute 15 = .ok (.getfield 7, 3) := by decide +kernel
theorem dX7_dropRoute_18 : decode cX7_dropRoute 18 = .ok (.bipush 91, 2) := by decide +kernel
theorem dX7_dropRoute_20 : decode cX7_dropRoute 20 = .ok (.dup2, 1) := by decide +kernel
theorem dX7_dropRoute_21 : decode cX7_dropRoute 21 = .ok (.iaload, 1) := by decide +kernel
theorem dX7_dropRoute_22 : decode cX7_dropRoute 22 = .ok (.iconst 1, 1) := by decide +kernel
theorem dX7_dropRoute_23 : decode cX7_dropRoute 23 = .ok (.isub, 1) := by decide +kernel
theorem dX7_dropRoute_24 : decode cX7_dropRoute 24 = .ok (.iastore, 1) := by decide +kernel
theorem dX7_dropRoute_25 : decode cX7_dropRoute 25 = .ok (.bipush 92, 2) := by decide +kernel
theorem dX7_dropRoute_27 : decode cX7_dropRoute 27 = .ok (.iconst 2, 1) := by decide +kernel
theorem dX7_dropRoute_28 : decode cX7_dropRoute 28 = .ok (.iload_n 1, 1) := by decide +kernel
theorem dX7_dropRoute_29 : decode cX7_dropRoute 29 = .ok (.imul, 1) := by decide +kernel
theorem dX7_dropRoute_30 : decode cX7_dropRoute 30 = .ok (.iadd, 1) := by decide +kernel
theorem dX7_dropRoute_31 : decode cX7_dropRoute 31 = .ok (.istore_n 2, 1) := by decide +kernel
theorem dX7_dropRoute_32 : decode cX7_dropRoute 32 = .ok (.iload_n 2, 1) := by decide +kernel
theorem dX7_dropRoute_33 : decode cX7_dropRoute 33 = .ok (.bipush 92, 2) := by decide +kernel
theorem dX7_dropRoute_35 : decode cX7_dropRoute 35 = .ok (.iconst 2, 1) := by decide +kernel
theorem dX7_dropRoute_36 : decode cX7_dropRoute 36 = .ok (.aload_n 0, 1) := by decide +kernel
theorem dX7_dropRoute_37 : decode cX7_dropRoute 37 = .ok (.getfield 7, 3) := by decide +kernel
theorem dX7_dropRoute_40 : decode cX7_dropRoute 40 = .ok (.bipush 91, 2) := by decide +kernel
theorem dX7_dropRoute_42 : decode cX7_dropRoute 42 = .ok (.iaload, 1) := by decide +kernel
theorem dX7_dropRoute_43 : decode cX7_dropRoute 43 = .ok (.imul, 1) := by decide +kernel
theorem dX7_dropRoute_44 : decode cX7_dropRoute 44 = .ok (.iadd, 1) := by decide +kernel
theorem dX7_dropRoute_45 : decode cX7_dropRoute 45 = .ok (.if_icmp .ge 23, 3) := by decide +kernel
theorem dX7_dropRoute_48 : decode cX7_dropRoute 48 = .ok (.aload_n 0, 1) := by decide +kernel
theorem dX7_dropRoute_49 : decode cX7_dropRoute 49 = .ok (.getfield 7, 3) := by decide +kernel
theorem dX7_dropRoute_52 : decode cX7_dropRoute 52 = .ok (.iload_n 2, 1) := by decide +kernel
theorem dX7_dropRoute_53 : decode cX7_dropRoute 53 = .ok (.aload_n 0, 1) := by decide +kernel
theorem dX7_dropRoute_54 : decode cX7_dropRoute 54 = .ok (.getfield 7, 3) := by decide +kernel
theorem dX7_dropRoute_57 : decode cX7_dropRoute 57 = .ok (.iload_n 2, 1) := by decide +kernel
theorem dX7_dropRoute_58 : decode cX7_dropRoute 58 = .ok (.iconst 2, 1) := by decide +kernel
theorem dX7_dropRoute_59 : decode cX7_dropRoute 59 = .ok (.iadd, 1) := by decide +kernel
theorem dX7_dropRoute_60 : decode cX7_dropRoute 60 = .ok (.iaload, 1) := by decide +kernel
theorem dX7_dropRoute_61 : decode cX7_dropRoute 61 = .ok (.iastore, 1) := by decide +kernel
theorem dX7_dropRoute_62 : decode cX7_dropRoute 62 = .ok (.iinc 2 1, 3) := by decide +kernel
theorem dX7_dropRoute_65 : decode cX7_dropRoute 65 = .ok (.goto (-33), 3) := by decide +kernel
theorem dX7_dropRoute_68 : decode cX7_dropRoute 68 = .ok (.aload_n 0, 1) := by decide +kernel
theorem dX7_dropRoute_69 : decode cX7_dropRoute 69 = .ok (.getfield 7, 3) := by decide +kernel
theorem dX7_dropRoute_72 : decode cX7_dropRoute 72 = .ok (.bipush 91, 2) := by decide +kernel
theorem dX7_dropRoute_74 : decode cX7_dropRoute 74 = .ok (.iaload, 1) := by decide +kernel
theorem dX7_dropRoute_75 : decode cX7_dropRoute 75 = .ok (.ireturn, 1) := by decide +kernel
theorem dX7_setNeed_0 : decode cX7_setNeed 0 = .ok (.iload_n 1, 1) := by decide +kernel
theorem dX7_setNeed_1 : decode cX7_setNeed 1 = .ok (.iconst 1, 1) := by decide +kernel
theorem dX7_setNeed_2 : decode cX7_setNeed 2 = .ok (.sipush 180, 3) := by decide +kernel
theorem dX7_setNeed_5 : decode cX7_setNeed 5 = .ok (.invokestatic 53, 3) := by decide +kernel
theorem dX7_setNeed_8 : decode cX7_setNeed 8 = .ok (.ifCond .ne 5, 3) := by decide +kernel
theorem dX7_setNeed_11 : decode cX7_setNeed 11 = .ok (.iconst (-1), 1) := by decide +kernel
theorem dX7_setNeed_12 : decode cX7_setNeed 12 = .ok (.ireturn, 1) := by decide +kernel
theorem dX7_setNeed_13 : decode cX7_setNeed 13 = .ok (.aload_n 0, 1) := by decide +kernel
theorem dX7_setNeed_14 : decode cX7_setNeed 14 = .ok (.invokevirtual 87, 3) := by decide +kernel
theorem dX7_setNeed_17 : decode cX7_setNeed 17 = .ok (.aload_n 0, 1) := by decide +kernel
theorem dX7_setNeed_18 : decode cX7_setNeed 18 = .ok (.getfield 7, 3) := by decide +kernel
theorem dX7_setNeed_21 : decode cX7_setNeed 21 = .ok (.bipush 104, 2) := by decide +kernel
theorem dX7_setNeed_23 : decode cX7_setNeed 23 = .ok (.iaload, 1) := by decide +kernel
theorem dX7_setNeed_24 : decode cX7_setNeed 24 = .ok (.istore_n 2, 1) := by decide +kernel
theorem dX7_setNeed_25 : decode cX7_setNeed 25 = .ok (.aload_n 0, 1) := by decide +kernel
theorem dX7_setNeed_26 : decode cX7_setNeed 26 = .ok (.getfield 7, 3) := by decide +kernel
theorem dX7_setNeed_29 : decode cX7_setNeed 29 = .ok (.bipush 104, 2) := by decide +kernel
theorem dX7_setNeed_31 : decode cX7_setNeed 31 = .ok (.iload_n 1, 1) := by decide +kernel
theorem dX7_setNeed_32 : decode cX7_setNeed 32 = .ok (.iastore, 1) := by decide +kernel
theorem dX7_setNeed_33 : decode cX7_setNeed 33 = .ok (.iload_n 2, 1) := by decide +kernel
theorem dX7_setNeed_34 : decode cX7_setNeed 34 = .ok (.ireturn, 1) := by decide +kernel
theorem dX7_setStock_0 : decode cX7_setStock 0 = .ok (.iload_n 1, 1) := by decide +kernel
theorem dX7_setStock_1 : decode cX7_setStock 1 = .ok (.invokestatic 84, 3) := by decide +kernel
theorem dX7_setStock_4 : decode cX7_setStock 4 = .ok (.ifCond .eq 13, 3) := by decide +kernel
theorem dX7_setStock_7 : decode cX7_setStock 7 = .ok (.iload_n 2, 1) := by decide +kernel
theorem dX7_setStock_8 : decode cX7_setStock 8 = .ok (.iconst 0, 1) := by decide +kernel
theorem dX7_setStock_9 : decode cX7_setStock 9 = .ok (.bipush 99, 2) := by decide +kernel
theorem dX7_setStock_11 : decode cX7_setStock 11 = .ok (.invokestatic 53, 3) := by decide +kernel
theorem dX7_setStock_14 : decode cX7_setStock 14 = .ok (.ifCond .ne 5, 3) := by decide +kernel
theorem dX7_setStock_17 : decode cX7_setStock 17 = .ok (.iconst (-1), 1) := by decide +kernel
theorem dX7_setStock_18 : decode cX7_setStock 18 = .ok (.ireturn, 1) := by decide +kernel
theorem dX7_setStock_19 : decode cX7_setStock 19 = .ok (.aload_n 0, 1) := by decide +kernel
theorem dX7_setStock_20 : decode cX7_setStock 20 = .ok (.invokevirtual 87, 3) := by decide +kernel
theorem dX7_setStock_23 : decode cX7_setStock 23 = .ok (.aload_n 0, 1) := by decide +kernel
theorem dX7_setStock_24 : decode cX7_setStock 24 = .ok (.getfield 7, 3) := by decide +kernel
theorem dX7_setStock_27 : decode cX7_setStock 27 = .ok (.bipush 106, 2) := by decide +kernel
theorem dX7_setStock_29 : decode cX7_setStock 29 = .ok (.iload_n 1, 1) := by decide +kernel
theorem dX7_setStock_30 : decode cX7_setStock 30 = .ok (.iadd, 1) := by decide +kernel
theorem dX7_setStock_31 : decode cX7_setStock 31 = .ok (.iaload, 1) := by decide +kernel
theorem dX7_setStock_32 : decode cX7_setStock 32 = .ok (.istore_n 3, 1) := by decide +kernel
theorem dX7_setStock_33 : decode cX7_setStock 33 = .ok (.aload_n 0, 1) := by decide +kernel
theorem dX7_setStock_34 : decode cX7_setStock 34 = .ok (.getfield 7, 3) := by decide +kernel
theorem dX7_setStock_37 : decode cX7_setStock 37 = .ok (.bipush 106, 2) := by decide +kernel
theorem dX7_setStock_39 : decode cX7_setStock 39 = .ok (.iload_n 1, 1) := by decide +kernel
theorem dX7_setStock_40 : decode cX7_setStock 40 = .ok (.iadd, 1) := by decide +kernel
theorem dX7_setStock_41 : decode cX7_setStock 41 = .ok (.iload_n 2, 1) := by decide +kernel
theorem dX7_setStock_42 : decode cX7_setStock 42 = .ok (.iastore, 1) := by decide +kernel
theorem dX7_setStock_43 : decode cX7_setStock 43 = .ok (.iload_n 3, 1) := by decide +kernel
theorem dX7_setStock_44 : decode cX7_setStock 44 = .ok (.ireturn, 1) := by decide +kernel
theorem dX7_type_0 : decode cX7_type 0 = .ok (.iload_n 1, 1) := by decide +kernel
theorem dX7_type_1 : decode cX7_type 1 = .ok (.bipush 33, 2) := by decide +kernel
theorem dX7_type_3 : decode cX7_type 3 = .ok (.bipush 126, 2) := by decide +kernel
theorem dX7_type_5 : decode cX7_type 5 = .ok (.invokestatic 53, 3) := by decide +kernel
theorem dX7_type_8 : decode cX7_type 8 = .ok (.ifCond .ne 5, 3) := by decide +kernel
theorem dX7_type_11 : decode cX7_type 11 = .ok (.iconst (-1), 1) := by decide +kernel
theorem dX7_type_12 : decode cX7_type 12 = .ok (.ireturn, 1) := by decide +kernel
theorem dX7_type_13 : decode cX7_type 13 = .ok (.aload_n 0, 1) := by decide +kernel
theorem dX7_type_14 : decode cX7_type 14 = .ok (.getfield 100, 3) := by decide +kernel
theorem dX7_type_17 : decode cX7_type 17 = .ok (.bipush 80, 2) := by decide +kernel
theorem dX7_type_19 : decode cX7_type 19 = .ok (.if_icmp .ne 6, 3) := by decide +kernel
theorem dX7_type_22 : decode cX7_type 22 = .ok (.bipush (-3), 2) := by decide +kernel
theorem dX7_type_24 : decode cX7_type 24 = .ok (.ireturn, 1) := by decide +kernel
theorem dX7_type_25 : decode cX7_type 25 = .ok (.aload_n 0, 1) := by decide +kernel
theorem dX7_type_26 : decode cX7_type 26 = .ok (.getfield 13, 3) := by decide +kernel
theorem dX7_type_29 : decode cX7_type 29 = .ok (.aload_n 0, 1) := by decide +kernel
theorem dX7_type_30 : decode cX7_type 30 = .ok (.getfield 100, 3) := by decide +kernel
theorem dX7_type_33 : decode cX7_type 33 = .ok (.iload_n 1, 1) := by decide +kernel
theorem dX7_type_34 : decode cX7_type 34 = .ok (.iastore, 1) := by decide +kernel
theorem dX7_type_35 : decode cX7_type 35 = .ok (.aload_n 0, 1) := by decide +kernel
theorem dX7_type_36 : decode cX7_type 36 = .ok (.dup, 1) := by decide +kernel
theorem dX7_type_37 : decode cX7_type 37 = .ok (.getfield 100, 3) := by decide +kernel
theorem dX7_type_40 : decode cX7_type 40 = .ok (.iconst 1, 1) := by decide +kernel
theorem dX7_type_41 : decode cX7_type 41 = .ok (.iadd, 1) := by decide +kernel
theorem dX7_type_42 : decode cX7_type 42 = .ok (.putfield 100, 3) := by decide +kernel
theorem dX7_type_45 : decode cX7_type 45 = .ok (.aload_n 0, 1) := by decide +kernel
theorem dX7_type_46 : decode cX7_type 46 = .ok (.getfield 100, 3) := by decide +kernel
theorem dX7_type_49 : decode cX7_type 49 = .ok (.ireturn, 1) := by decide +kernel
theorem dX7_clear_0 : decode cX7_clear 0 = .ok (.aload_n 0, 1) := by decide +kernel
theorem dX7_clear_1 : decode cX7_clear 1 = .ok (.getfield 100, 3) := by decide +kernel
theorem dX7_clear_4 : decode cX7_clear 4 = .ok (.istore_n 1, 1) := by decide +kernel
theorem dX7_clear_5 : decode cX7_clear 5 = .ok (.aload_n 0, 1) := by decide +kernel
theorem dX7_clear_6 : decode cX7_clear 6 = .ok (.iconst 0, 1) := by decide +kernel
theorem dX7_clear_7 : decode cX7_clear 7 = .ok (.putfield 100, 3) := by decide +kernel
theorem dX7_clear_10 : decode cX7_clear 10 = .ok (.iload_n 1, 1) := by decide +kernel
theorem dX7_clear_11 : decode cX7_clear 11 = .ok (.ireturn, 1) := by decide +kernel
theorem dX7_here_0 : decode cX7_here 0 = .ok (.aload_n 0, 1) := by decide +kernel
theorem dX7_here_1 : decode cX7_here 1 = .ok (.getfield 103, 3) := by decide +kernel
theorem dX7_here_4 : decode cX7_here 4 = .ok (.aload_n 0, 1) := by decide +kernel
theorem dX7_here_5 : decode cX7_here 5 = .ok (.getfield 100, 3) := by decide +kernel
theorem dX7_here_8 : decode cX7_here 8 = .ok (.if_icmp .ge 15, 3) := by decide +kernel
theorem dX7_here_11 : decode cX7_here 11 = .ok (.aload_n 0, 1) := by decide +kernel
theorem dX7_here_12 : decode cX7_here 12 = .ok (.getfield 13, 3) := by decide +kernel
theorem dX7_here_15 : decode cX7_here 15 = .ok (.aload_n 0, 1) := by decide +kernel
theorem dX7_here_16 : decode cX7_here 16 = .ok (.getfield 103, 3) := by decide +kernel
theorem dX7_here_19 : decode cX7_here 19 = .ok (.iaload, 1) := by decide +kernel
theorem dX7_here_20 : decode cX7_here 20 = .ok (.goto 5, 3) := by decide +kernel
theorem dX7_here_23 : decode cX7_here 23 = .ok (.bipush (-9), 2) := by decide +kernel
theorem dX7_here_25 : decode cX7_here 25 = .ok (.ireturn, 1) := by decide +kernel
theorem dX7_takes_0 : decode cX7_takes 0 = .ok (.aload_n 0, 1) := by decide +kernel
theorem dX7_takes_1 : decode cX7_takes 1 = .ok (.invokevirtual 106, 3) := by decide +kernel
theorem dX7_takes_4 : decode cX7_takes 4 = .ok (.iload_n 1, 1) := by decide +kernel
theorem dX7_takes_5 : decode cX7_takes 5 = .ok (.if_icmp .ne 7, 3) := by decide +kernel
theorem dX7_takes_8 : decode cX7_takes 8 = .ok (.iconst 1, 1) := by decide +kernel
theorem dX7_takes_9 : decode cX7_takes 9 = .ok (.goto 4, 3) := by decide +kernel
theorem dX7_takes_12 : decode cX7_takes 12 = .ok (.iconst 0, 1) := by decide +kernel
theorem dX7_takes_13 : decode cX7_takes 13 = .ok (.istore_n 2, 1) := by decide +kernel
theorem dX7_takes_14 : decode cX7_takes 14 = .ok (.aload_n 0, 1) := by decide +kernel
theorem dX7_takes_15 : decode cX7_takes 15 = .ok (.dup, 1) := by decide +kernel
theorem dX7_takes_16 : decode cX7_takes 16 = .ok (.getfield 103, 3) := by decide +kernel
theorem dX7_takes_19 : decode cX7_takes 19 = .ok (.iload_n 2, 1) := by decide +kernel
theorem dX7_takes_20 : decode cX7_takes 20 = .ok (.ifCond .eq 7, 3) := by decide +kernel
theorem dX7_takes_23 : decode cX7_takes 23 = .ok (.iconst 1, 1) := by decide +kernel
theorem dX7_takes_24 : decode cX7_takes 24 = .ok (.goto 4, 3) := by decide +kernel
theorem dX7_takes_27 : decode cX7_takes 27 = .ok (.iconst 0, 1) := by decide +kernel
theorem dX7_takes_28 : decode cX7_takes 28 = .ok (.iadd, 1) := by decide +kernel
theorem dX7_takes_29 : decode cX7_takes 29 = .ok (.putfield 103, 3) := by decide +kernel
theorem dX7_takes_32 : decode cX7_takes 32 = .ok (.iload_n 2, 1) := by decide +kernel
theorem dX7_takes_33 : decode cX7_takes 33 = .ok (.ireturn, 1) := by decide +kernel
theorem dX7_isFigure_0 : decode cX7_isFigure 0 = .ok (.aload_n 0, 1) := by decide +kernel
theorem dX7_isFigure_1 : decode cX7_isFigure 1 = .ok (.invokevirtual 106, 3) := by decide +kernel
theorem dX7_isFigure_4 : decode cX7_isFigure 4 = .ok (.bipush 48, 2) := by decide +kernel
theorem dX7_isFigure_6 : decode cX7_isFigure 6 = .ok (.bipush 57, 2) := by decide +kernel
theorem dX7_isFigure_8 : decode cX7_isFigure 8 = .ok (.invokestatic 53, 3) := by decide +kernel
theorem dX7_isFigure_11 : decode cX7_isFigure 11 = .ok (.ireturn, 1) := by decide +kernel
theorem dX7_readsNumber_0 : decode cX7_readsNumber 0 = .ok (.iconst 0, 1) := by decide +kernel
theorem dX7_readsNumber_1 : decode cX7_readsNumber 1 = .ok (.istore 4, 2) := by decide +kernel
theorem dX7_readsNumber_3 : decode cX7_readsNumber 3 = .ok (.aload_n 0, 1) := by decide +kernel
theorem dX7_readsNumber_4 : decode cX7_readsNumber 4 = .ok (.iconst 0, 1) := by decide +kernel
theorem dX7_readsNumber_5 : decode cX7_readsNumber 5 = .ok (.putfield 109, 3) := by decide +kernel
theorem dX7_readsNumber_8 : decode cX7_readsNumber 8 = .ok (.aload_n 0, 1) := by decide +kernel
theorem dX7_readsNumber_9 : decode cX7_readsNumber 9 = .ok (.invokevirtual 112, 3) := by decide +kernel
theorem dX7_readsNumber_12 : decode cX7_readsNumber 12 = .ok (.ifCond .eq 44, 3) := by decide +kernel
theorem dX7_readsNumber_15 : decode cX7_readsNumber 15 = .ok (.iload 4, 2) := by decide +kernel
theorem dX7_readsNumber_17 : decode cX7_readsNumber 17 = .ok (.iload_n 1, 1) := by decide +kernel
theorem dX7_readsNumber_18 : decode cX7_readsNumber 18 = .ok (.if_icmp .ge 38, 3) := by decide +kernel
theorem dX7_readsNumber_21 : decode cX7_readsNumber 21 = .ok (.aload_n 0, 1) := by decide +kernel
theorem dX7_readsNumber_22 : decode cX7_readsNumber 22 = .ok (.bipush 10, 2) := by decide +kernel
theorem dX7_readsNumber_24 : decode cX7_readsNumber 24 = .ok (.aload_n 0, 1) := by decide +kernel
theorem dX7_readsNumber_25 : decode cX7_readsNumber 25 = .ok (.getfield 109, 3) := by decide +kernel
theorem dX7_readsNumber_28 : decode cX7_readsNumber 28 = .ok (.imul, 1) := by decide +kernel
theorem dX7_readsNumber_29 : decode cX7_readsNumber 29 = .ok (.aload_n 0, 1) := by decide +kernel
theorem dX7_readsNumber_30 : decode cX7_readsNumber 30 = .ok (.invokevirtual 106, 3) := by decide +kernel
theorem dX7_readsNumber_33 : decode cX7_readsNumber 33 = .ok (.iadd, 1) := by decide +kernel
theorem dX7_readsNumber_34 : decode cX7_readsNumber 34 = .ok (.bipush 48, 2) := by decide +kernel
theorem dX7_readsNumber_36 : decode cX7_readsNumber 36 = .ok (.isub, 1) := by decide +kernel
theorem dX7_readsNumber_37 : decode cX7_readsNumber 37 = .ok (.putfield 109, 3) := by decide +kernel
theorem dX7_readsNumber_40 : decode cX7_readsNumber 40 = .ok (.aload_n 0, 1) := by decide +kernel
theorem dX7_readsNumber_41 : decode cX7_readsNumber 41 = .ok (.dup, 1) := by decide +kernel
theorem dX7_readsNumber_42 : decode cX7_readsNumber 42 = .ok (.getfield 103, 3) := by decide +kernel
theorem dX7_readsNumber_45 : decode cX7_readsNumber 45 = .ok (.iconst 1, 1) := by decide +kernel
theorem dX7_readsNumber_46 : decode cX7_readsNumber 46 = .ok (.iadd, 1) := by decide +kernel
theorem dX7_readsNumber_47 : decode cX7_readsNumber 47 = .ok (.putfield 103, 3) := by decide +kernel
theorem dX7_readsNumber_50 : decode cX7_readsNumber 50 = .ok (.iinc 4 1, 3) := by decide +kernel
theorem dX7_readsNumber_53 : decode cX7_readsNumber 53 = .ok (.goto (-45), 3) := by decide +kernel
theorem dX7_readsNumber_56 : decode cX7_readsNumber 56 = .ok (.iload 4, 2) := by decide +kernel
theorem dX7_readsNumber_58 : decode cX7_readsNumber 58 = .ok (.ifCond .eq 10, 3) := by decide +kernel
theorem dX7_readsNumber_61 : decode cX7_readsNumber 61 = .ok (.aload_n 0, 1) := by decide +kernel
theorem dX7_readsNumber_62 : decode cX7_readsNumber 62 = .ok (.invokevirtual 112, 3) := by decide +kernel
theorem dX7_readsNumber_65 : decode cX7_readsNumber 65 = .ok (.ifCond .eq 5, 3) := by decide +kernel
theorem dX7_readsNumber_68 : decode cX7_readsNumber 68 = .ok (.iconst 0, 1) := by decide +kernel
theorem dX7_readsNumber_69 : decode cX7_readsNumber 69 = .ok (.ireturn, 1) := by decide +kernel
theorem dX7_readsNumber_70 : decode cX7_readsNumber 70 = .ok (.aload_n 0, 1) := by decide +kernel
theorem dX7_readsNumber_71 : decode cX7_readsNumber 71 = .ok (.getfield 109, 3) := by decide +kernel
theorem dX7_readsNumber_74 : decode cX7_readsNumber 74 = .ok (.iload_n 2, 1) := by decide +kernel
theorem dX7_readsNumber_75 : decode cX7_readsNumber 75 = .ok (.iload_n 3, 1) := by decide +kernel
theorem dX7_readsNumber_76 : decode cX7_readsNumber 76 = .ok (.invokestatic 53, 3) := by decide +kernel
theorem dX7_readsNumber_79 : decode cX7_readsNumber 79 = .ok (.istore 5, 2) := by decide +kernel
theorem dX7_readsNumber_81 : decode cX7_readsNumber 81 = .ok (.aload_n 0, 1) := by decide +kernel
theorem dX7_readsNumber_82 : decode cX7_readsNumber 82 = .ok (.dup, 1) := by decide +kernel
theorem dX7_readsNumber_83 : decode cX7_readsNumber 83 = .ok (.getfield 103, 3) := by decide +kernel
theorem dX7_readsNumber_86 : decode cX7_readsNumber 86 = .ok (.iload 5, 2) := by decide +kernel
theorem dX7_readsNumber_88 : decode cX7_readsNumber 88 = .ok (.ifCond .eq 7, 3) := by decide +kernel
theorem dX7_readsNumber_91 : decode cX7_readsNumber 91 = .ok (.iconst 0, 1) := by decide +kernel
theorem dX7_readsNumber_92 : decode cX7_readsNumber 92 = .ok (.goto 4, 3) := by decide +kernel
theorem dX7_readsNumber_95 : decode cX7_readsNumber 95 = .ok (.iconst 1, 1) := by decide +kernel
theorem dX7_readsNumber_96 : decode cX7_readsNumber 96 = .ok (.isub, 1) := by decide +kernel
theorem dX7_readsNumber_97 : decode cX7_readsNumber 97 = .ok (.putfield 103, 3) := by decide +kernel
theorem dX7_readsNumber_100 : decode cX7_readsNumber 100 = .ok (.iload 5, 2) := by decide +kernel
theorem dX7_readsNumber_102 : decode cX7_readsNumber 102 = .ok (.ireturn, 1) := by decide +kernel
theorem dX7_readsLight_0 : decode cX7_readsLight 0 = .ok (.aload_n 0, 1) := by decide +kernel
theorem dX7_readsLight_1 : decode cX7_readsLight 1 = .ok (.getfield 116, 3) := by decide +kernel
theorem dX7_readsLight_4 : decode cX7_readsLight 4 = .ok (.bipush 10, 2) := by decide +kernel
theorem dX7_readsLight_6 : decode cX7_readsLight 6 = .ok (.if_icmp .ne 5, 3) := by decide +kernel
theorem dX7_readsLight_9 : decode cX7_readsLight 9 = .ok (.iconst 0, 1) := by decide +kernel
theorem dX7_readsLight_10 : decode cX7_readsLight 10 = .ok (.ireturn, 1) := by decide +kernel
theorem dX7_readsLight_11 : decode cX7_readsLight 11 = .ok (.aload_n 0, 1) := by decide +kernel
theorem dX7_readsLight_12 : decode cX7_readsLight 12 = .ok (.dup, 1) := by decide +kernel
theorem dX7_readsLight_13 : decode cX7_readsLight 13 = .ok (.getfield 103, 3) := by decide +kernel
theorem dX7_readsLight_16 : decode cX7_readsLight 16 = .ok (.iconst 1, 1) := by decide +kernel
theorem dX7_readsLight_17 : decode cX7_readsLight 17 = .ok (.iadd, 1) := by decide +kernel
theorem dX7_readsLight_18 : decode cX7_readsLight 18 = .ok (.putfield 103, 3) := by decide +kernel
theorem dX7_readsLight_21 : decode cX7_readsLight 21 = .ok (.iconst 5, 1) := by decide +kernel
theorem dX7_readsLight_22 : decode cX7_readsLight 22 = .ok (.aload_n 0, 1) := by decide +kernel
theorem dX7_readsLight_23 : decode cX7_readsLight 23 = .ok (.getfield 116, 3) := by decide +kernel
theorem dX7_readsLight_26 : decode cX7_readsLight 26 = .ok (.imul, 1) := by decide +kernel
theorem dX7_readsLight_27 : decode cX7_readsLight 27 = .ok (.istore_n 1, 1) := by decide +kernel
theorem dX7_readsLight_28 : decode cX7_readsLight 28 = .ok (.aload_n 0, 1) := by decide +kernel
theorem dX7_readsLight_29 : decode cX7_readsLight 29 = .ok (.iconst 3, 1) := by decide +kernel
theorem dX7_readsLight_30 : decode cX7_readsLight 30 = .ok (.iconst 0, 1) := by decide +kernel
theorem dX7_readsLight_31 : decode cX7_readsLight 31 = .ok (.sipush 200, 3) := by decide +kernel
theorem dX7_readsLight_34 : decode cX7_readsLight 34 = .ok (.invokevirtual 119, 3) := by decide +kernel
theorem dX7_readsLight_37 : decode cX7_readsLight 37 = .ok (.ifCond .ne 5, 3) := by decide +kernel
theorem dX7_readsLight_40 : decode cX7_readsLight 40 = .ok (.iconst 0, 1) := by decide +kernel
theorem dX7_readsLight_41 : decode cX7_readsLight 41 = .ok (.ireturn, 1) := by decide +kernel
theorem dX7_readsLight_42 : decode cX7_readsLight 42 = .ok (.aload_n 0, 1) := by decide +kernel
theorem dX7_readsLight_43 : decode cX7_readsLight 43 = .ok (.getfield 16, 3) := by decide +kernel
theorem dX7_readsLight_46 : decode cX7_readsLight 46 = .ok (.iload_n 1, 1) := by decide +kernel
theorem dX7_readsLight_47 : decode cX7_readsLight 47 = .ok (.aload_n 0, 1) := by decide +kernel
theorem dX7_readsLight_48 : decode cX7_readsLight 48 = .ok (.getfield 109, 3) := by decide +kernel
theorem dX7_readsLight_51 : decode cX7_readsLight 51 = .ok (.iastore, 1) := by decide +kernel
theorem dX7_readsLight_52 : decode cX7_readsLight 52 = .ok (.aload_n 0, 1) := by decide +kernel
theorem dX7_readsLight_53 : decode cX7_readsLight 53 = .ok (.bipush 99, 2) := by decide +kernel
theorem dX7_readsLight_55 : decode cX7_readsLight 55 = .ok (.invokevirtual 122, 3) := by decide +kernel
theorem dX7_readsLight_58 : decode cX7_readsLight 58 = .ok (.ifCond .eq 13, 3) := by decide +kernel
theorem dX7_readsLight_61 : decode cX7_readsLight 61 = .ok (.aload_n 0, 1) := by decide +kernel
theorem dX7_readsLight_62 : decode cX7_readsLight 62 = .ok (.iconst 1, 1) := by decide +kernel
theorem dX7_readsLight_63 : decode cX7_readsLight 63 = .ok (.iconst 0, 1) := by decide +kernel
theorem dX7_readsLight_64 : decode cX7_readsLight 64 = .ok (.iconst 3, 1) := by decide +kernel
theorem dX7_readsLight_65 : decode cX7_readsLight 65 = .ok (.invokevirtual 119, 3) := by decide +kernel
theorem dX7_readsLight_68 : decode cX7_readsLight 68 = .ok (.ifCond .ne 5, 3) := by decide +kernel
theorem dX7_readsLight_71 : decode cX7_readsLight 71 = .ok (.iconst 0, 1) := by decide +kernel
theorem dX7_readsLight_72 : decode cX7_readsLight 72 = .ok (.ireturn, 1) := by decide +kernel
theorem dX7_readsLight_73 : decode cX7_readsLight 73 = .ok (.aload_n 0, 1) := by decide +kernel
theorem dX7_readsLight_74 : decode cX7_readsLight 74 = .ok (.getfield 16, 3) := by decide +kernel
theorem dX7_readsLight_77 : decode cX7_readsLight 77 = .ok (.iload_n 1, 1) := by decide +kernel
theorem dX7_readsLight_78 : decode cX7_readsLight 78 = .ok (.iconst 1, 1) := by decide +kernel
theorem dX7_readsLight_79 : decode cX7_readsLight 79 = .ok (.iadd, 1) := by decide +kernel
theorem dX7_readsLight_80 : decode cX7_readsLight 80 = .ok (.aload_n 0, 1) := by decide +kernel
theorem dX7_readsLight_81 : decode cX7_readsLight 81 = .ok (.getfield 109, 3) := by decide +kernel
theorem dX7_readsLight_84 : decode cX7_readsLight 84 = .ok (.iastore, 1) := by decide +kernel
theorem dX7_readsLight_85 : decode cX7_readsLight 85 = .ok (.aload_n 0, 1) := by decide +kernel
theorem dX7_readsLight_86 : decode cX7_readsLight 86 = .ok (.bipush 98, 2) := by decide +kernel
theorem dX7_readsLight_88 : decode cX7_readsLight 88 = .ok (.invokevirtual 122, 3) := by decide +kernel
theorem dX7_readsLight_91 : decode cX7_readsLight 91 = .ok (.ifCond .eq 13, 3) := by decide +kernel
theorem dX7_readsLight_94 : decode cX7_readsLight 94 = .ok (.aload_n 0, 1) := by decide +kernel
theorem dX7_readsLight_95 : decode cX7_readsLight 95 = .ok (.iconst 1, 1) := by decide +kernel
theorem dX7_readsLight_96 : decode cX7_readsLight 96 = .ok (.iconst 0, 1) := by decide +kernel
theorem dX7_readsLight_97 : decode cX7_readsLight 97 = .ok (.iconst 3, 1) := by decide +kernel
theorem dX7_readsLight_98 : decode cX7_readsLight 98 = .ok (.invokevirtual 119, 3) := by decide +kernel
theorem dX7_readsLight_101 : decode cX7_readsLight 101 = .ok (.ifCond .ne 5, 3) := by decide +kernel
theorem dX7_readsLight_104 : decode cX7_readsLight 104 = .ok (.iconst 0, 1) := by decide +kernel
theorem dX7_readsLight_105 : decode cX7_readsLight 105 = .ok (.ireturn, 1) := by decide +kernel
theorem dX7_readsLight_106 : decode cX7_readsLight 106 = .ok (.aload_n 0, 1) := by decide +kernel
theorem dX7_readsLight_107 : decode cX7_readsLight 107 = .ok (.getfield 16, 3) := by decide +kernel
theorem dX7_readsLight_110 : decode cX7_readsLight 110 = .ok (.iload_n 1, 1) := by decide +kernel
theorem dX7_readsLight_111 : decode cX7_readsLight 111 = .ok (.iconst 2, 1) := by decide +kernel
theorem dX7_readsLight_112 : decode cX7_readsLight 112 = .ok (.iadd, 1) := by decide +kernel
theorem dX7_readsLight_113 : decode cX7_readsLight 113 = .ok (.aload_n 0, 1) := by decide +kernel
theorem dX7_readsLight_114 : decode cX7_readsLight 114 = .ok (.getfield 109, 3) := by decide +kernel
theorem dX7_readsLight_117 : decode cX7_readsLight 117 = .ok (.iastore, 1) := by decide +kernel
theorem dX7_readsLight_118 : decode cX7_readsLight 118 = .ok (.aload_n 0, 1) := by decide +kernel
theorem dX7_readsLight_119 : decode cX7_readsLight 119 = .ok (.bipush 108, 2) := by decide +kernel
theorem dX7_readsLight_121 : decode cX7_readsLight 121 = .ok (.invokevirtual 122, 3) := by decide +kernel
theorem dX7_readsLight_124 : decode cX7_readsLight 124 = .ok (.ifCond .eq 13, 3) := by decide +kernel
theorem dX7_readsLight_127 : decode cX7_readsLight 127 = .ok (.aload_n 0, 1) := by decide +kernel
theorem dX7_readsLight_128 : decode cX7_readsLight 128 = .ok (.iconst 1, 1) := by decide +kernel
theorem dX7_readsLight_129 : decode cX7_readsLight 129 = .ok (.iconst 0, 1) := by decide +kernel
theorem dX7_readsLight_130 : decode cX7_readsLight 130 = .ok (.iconst 2, 1) := by decide +kernel
theorem dX7_readsLight_131 : decode cX7_readsLight 131 = .ok (.invokevirtual 119, 3) := by decide +kernel
theorem dX7_readsLight_134 : decode cX7_readsLight 134 = .ok (.ifCond .ne 5, 3) := by decide +kernel
theorem dX7_readsLight_137 : decode cX7_readsLight 137 = .ok (.iconst 0, 1) := by decide +kernel
theorem dX7_readsLight_138 : decode cX7_readsLight 138 = .ok (.ireturn, 1) := by decide +kernel
theorem dX7_readsLight_139 : decode cX7_readsLight 139 = .ok (.aload_n 0, 1) := by decide +kernel
theorem dX7_readsLight_140 : decode cX7_readsLight 140 = .ok (.getfield 16, 3) := by decide +kernel
theorem dX7_readsLight_143 : decode cX7_readsLight 143 = .ok (.iload_n 1, 1) := by decide +kernel
theorem dX7_readsLight_144 : decode cX7_readsLight 144 = .ok (.iconst 3, 1) := by decide +kernel
theorem dX7_readsLight_145 : decode cX7_readsLight 145 = .ok (.iadd, 1) := by decide +kernel
theorem dX7_readsLight_146 : decode cX7_readsLight 146 = .ok (.aload_n 0, 1) := by decide +kernel
theorem dX7_readsLight_147 : decode cX7_readsLight 147 = .ok (.getfield 109, 3) := by decide +kernel
theorem dX7_readsLight_150 : decode cX7_readsLight 150 = .ok (.iastore, 1) := by decide +kernel
theorem dX7_readsLight_151 : decode cX7_readsLight 151 = .ok (.aload_n 0, 1) := by decide +kernel
theorem dX7_readsLight_152 : decode cX7_readsLight 152 = .ok (.getfield 16, 3) := by decide +kernel
theorem dX7_readsLight_155 : decode cX7_readsLight 155 = .ok (.iload_n 1, 1) := by decide +kernel
theorem dX7_readsLight_156 : decode cX7_readsLight 156 = .ok (.iconst 4, 1) := by decide +kernel
theorem dX7_readsLight_157 : decode cX7_readsLight 157 = .ok (.iadd, 1) := by decide +kernel
theorem dX7_readsLight_158 : decode cX7_readsLight 158 = .ok (.aload_n 0, 1) := by decide +kernel
theorem dX7_readsLight_159 : decode cX7_readsLight 159 = .ok (.bipush 109, 2) := by decide +kernel
theorem dX7_readsLight_161 : decode cX7_readsLight 161 = .ok (.invokevirtual 122, 3) := by decide +kernel
theorem dX7_readsLight_164 : decode cX7_readsLight 164 = .ok (.ifCond .eq 7, 3) := by decide +kernel
theorem dX7_readsLight_167 : decode cX7_readsLight 167 = .ok (.iconst 1, 1) := by decide +kernel
theorem dX7_readsLight_168 : decode cX7_readsLight 168 = .ok (.goto 4, 3) := by decide +kernel
theorem dX7_readsLight_171 : decode cX7_readsLight 171 = .ok (.iconst 0, 1) := by decide +kernel
theorem dX7_readsLight_172 : decode cX7_readsLight 172 = .ok (.iastore, 1) := by decide +kernel
theorem dX7_readsLight_173 : decode cX7_readsLight 173 = .ok (.aload_n 0, 1) := by decide +kernel
theorem dX7_readsLight_174 : decode cX7_readsLight 174 = .ok (.dup, 1) := by decide +kernel
theorem dX7_readsLight_175 : decode cX7_readsLight 175 = .ok (.getfield 116, 3) := by decide +kernel
theorem dX7_readsLight_178 : decode cX7_readsLight 178 = .ok (.iconst 1, 1) := by decide +kernel
theorem dX7_readsLight_179 : decode cX7_readsLight 179 = .ok (.iadd, 1) := by decide +kernel
theorem dX7_readsLight_180 : decode cX7_readsLight 180 = .ok (.putfield 116, 3) := by decide +kernel
theorem dX7_readsLight_183 : decode cX7_readsLight 183 = .ok (.aload_n 0, 1) := by decide +kernel
theorem dX7_readsLight_184 : decode cX7_readsLight 184 = .ok (.bipush 59, 2) := by decide +kernel
theorem dX7_readsLight_186 : decode cX7_readsLight 186 = .ok (.invokevirtual 122, 3) := by decide +kernel
theorem dX7_readsLight_189 : decode cX7_readsLight 189 = .ok (.ireturn, 1) := by decide +kernel
theorem dX7_readsRoute_0 : decode cX7_readsRoute 0 = .ok (.aload_n 0, 1) := by decide +kernel
theorem dX7_readsRoute_1 : decode cX7_readsRoute 1 = .ok (.getfield 125, 3) := by decide +kernel
theorem dX7_readsRoute_4 : decode cX7_readsRoute 4 = .ok (.bipush 6, 2) := by decide +kernel
theorem dX7_readsRoute_6 : decode cX7_readsRoute 6 = .ok (.if_icmp .ne 5, 3) := by decide +kernel
theorem dX7_readsRoute_9 : decode cX7_readsRoute 9 = .ok (.iconst 0, 1) := by decide +kernel
theorem dX7_readsRoute_10 : decode cX7_readsRoute 10 = .ok (.ireturn, 1) := by decide +kernel
theorem dX7_readsRoute_11 : decode cX7_readsRoute 11 = .ok (.aload_n 0, 1) := by decide +kernel
theorem dX7_readsRoute_12 : decode cX7_readsRoute 12 = .ok (.dup, 1) := by decide +kernel
theorem dX7_readsRoute_13 : decode cX7_readsRoute 13 = .ok (.getfield 103, 3) := by decide +kernel
theorem dX7_readsRoute_16 : decode cX7_readsRoute 16 = .ok (.iconst 1, 1) := by decide +kernel
theorem dX7_readsRoute_17 : decode cX7_readsRoute 17 = .ok (.iadd, 1) := by decide +kernel
theorem dX7_readsRoute_18 : decode cX7_readsRoute 18 = .ok (.putfield 103, 3) := by decide +kernel
theorem dX7_readsRoute_21 : decode cX7_readsRoute 21 = .ok (.iconst 2, 1) := by decide +kernel
theorem dX7_readsRoute_22 : decode cX7_readsRoute 22 = .ok (.aload_n 0, 1) := by decide +kernel
theorem dX7_readsRoute_23 : decode cX7_readsRoute 23 = .ok (.getfield 125, 3) := by decide +kernel
theorem dX7_readsRoute_26 : decode cX7_readsRoute 26 = .ok (.imul, 1) := by decide +kernel
theorem dX7_readsRoute_27 : decode cX7_readsRoute 27 = .ok (.istore_n 1, 1) := by decide +kernel
theorem dX7_readsRoute_28 : decode cX7_readsRoute 28 = .ok (.aload_n 0, 1) := by decide +kernel
theorem dX7_readsRoute_29 : decode cX7_readsRoute 29 = .ok (.iconst 3, 1) := by decide +kernel
theorem dX7_readsRoute_30 : decode cX7_readsRoute 30 = .ok (.iconst 0, 1) := by decide +kernel
theorem dX7_readsRoute_31 : decode cX7_readsRoute 31 = .ok (.sipush 200, 3) := by decide +kernel
theorem dX7_readsRoute_34 : decode cX7_readsRoute 34 = .ok (.invokevirtual 119, 3) := by decide +kernel
theorem dX7_readsRoute_37 : decode cX7_readsRoute 37 = .ok (.ifCond .ne 5, 3) := by decide +kernel
theorem dX7_readsRoute_40 : decode cX7_readsRoute 40 = .ok (.iconst 0, 1) := by decide +kernel
theorem dX7_readsRoute_41 : decode cX7_readsRoute 41 = .ok (.ireturn, 1) := by decide +kernel
theorem dX7_readsRoute_42 : decode cX7_readsRoute 42 = .ok (.aload_n 0, 1) := by decide +kernel
theorem dX7_readsRoute_43 : decode cX7_readsRoute 43 = .ok (.getfield 19, 3) := by decide +kernel
theorem dX7_readsRoute_46 : decode cX7_readsRoute 46 = .ok (.iload_n 1, 1) := by decide +kernel
theorem dX7_readsRoute_47 : decode cX7_readsRoute 47 = .ok (.aload_n 0, 1) := by decide +kernel
theorem dX7_readsRoute_48 : decode cX7_readsRoute 48 = .ok (.getfield 109, 3) := by decide +kernel
theorem dX7_readsRoute_51 : decode cX7_readsRoute 51 = .ok (.iastore, 1) := by decide +kernel
theorem dX7_readsRoute_52 : decode cX7_readsRoute 52 = .ok (.aload_n 0, 1) := by decide +kernel
theorem dX7_readsRoute_53 : decode cX7_readsRoute 53 = .ok (.bipush 45, 2) := by decide +kernel
theorem dX7_readsRoute_55 : decode cX7_readsRoute 55 = .ok (.invokevirtual 122, 3) := by decide +kernel
theorem dX7_readsRoute_58 : decode cX7_readsRoute 58 = .ok (.ifCond .eq 20, 3) := by decide +kernel
theorem dX7_readsRoute_61 : decode cX7_readsRoute 61 = .ok (.aload_n 0, 1) := by decide +kernel
theorem dX7_readsRoute_62 : decode cX7_readsRoute 62 = .ok (.iconst 3, 1) := by decide +kernel
theorem dX7_readsRoute_63 : decode cX7_readsRoute 63 = .ok (.aload_n 0, 1) := by decide +kernel
theorem dX7_readsRoute_64 : decode cX7_readsRoute 64 = .ok (.getfield 19, 3) := by decide +kernel
theorem dX7_readsRoute_67 : decode cX7_readsRoute 67 = .ok (.iload_n 1, 1) := by decide +kernel
theorem dX7_readsRoute_68 : decode cX7_readsRoute 68 = .ok (.iaload, 1) := by decide +kernel
theorem dX7_readsRoute_69 : decode cX7_readsRoute 69 = .ok (.sipush 200, 3) := by decide +kernel
theorem dX7_readsRoute_72 : decode cX7_readsRoute 72 = .ok (.invokevirtual 119, 3) := by decide +kernel
theorem dX7_readsRoute_75 : decode cX7_readsRoute 75 = .ok (.ifCond .ne 5, 3) := by decide +kernel
theorem dX7_readsRoute_78 : decode cX7_readsRoute 78 = .ok (.iconst 0, 1) := by decide +kernel
theorem dX7_readsRoute_79 : decode cX7_readsRoute 79 = .ok (.ireturn, 1) := by decide +kernel
theorem dX7_readsRoute_80 : decode cX7_readsRoute 80 = .ok (.aload_n 0, 1) := by decide +kernel
theorem dX7_readsRoute_81 : decode cX7_readsRoute 81 = .ok (.getfield 19, 3) := by decide +kernel
theorem dX7_readsRoute_84 : decode cX7_readsRoute 84 = .ok (.iload_n 1, 1) := by decide +kernel
theorem dX7_readsRoute_85 : decode cX7_readsRoute 85 = .ok (.iconst 1, 1) := by decide +kernel
theorem dX7_readsRoute_86 : decode cX7_readsRoute 86 = .ok (.iadd, 1) := by decide +kernel
theorem dX7_readsRoute_87 : decode cX7_readsRoute 87 = .ok (.aload_n 0, 1) := by decide +kernel
theorem dX7_readsRoute_88 : decode cX7_readsRoute 88 = .ok (.getfield 109, 3) := by decide +kernel
theorem dX7_readsRoute_91 : decode cX7_readsRoute 91 = .ok (.iastore, 1) := by decide +kernel
theorem dX7_readsRoute_92 : decode cX7_readsRoute 92 = .ok (.aload_n 0, 1) := by decide +kernel
theorem dX7_readsRoute_93 : decode cX7_readsRoute 93 = .ok (.dup, 1) := by decide +kernel
theorem dX7_readsRoute_94 : decode cX7_readsRoute 94 = .ok (.getfield 125, 3) := by decide +kernel
theorem dX7_readsRoute_97 : decode cX7_readsRoute 97 = .ok (.iconst 1, 1) := by decide +kernel
theorem dX7_readsRoute_98 : decode cX7_readsRoute 98 = .ok (.iadd, 1) := by decide +kernel
theorem dX7_readsRoute_99 : decode cX7_readsRoute 99 = .ok (.putfield 125, 3) := by decide +kernel
theorem dX7_readsRoute_102 : decode cX7_readsRoute 102 = .ok (.aload_n 0, 1) := by decide +kernel
theorem dX7_readsRoute_103 : decode cX7_readsRoute 103 = .ok (.bipush 59, 2) := by decide +kernel
theorem dX7_readsRoute_105 : decode cX7_readsRoute 105 = .ok (.invokevirtual 122, 3) := by decide +kernel
theorem dX7_readsRoute_108 : decode cX7_readsRoute 108 = .ok (.ireturn, 1) := by decide +kernel
theorem dX7_load_0 : decode cX7_load 0 = .ok (.aload_n 0, 1) := by decide +kernel
theorem dX7_load_1 : decode cX7_load 1 = .ok (.iconst 0, 1) := by decide +kernel
theorem dX7_load_2 : decode cX7_load 2 = .ok (.putfield 103, 3) := by decide +kernel
theorem dX7_load_5 : decode cX7_load 5 = .ok (.aload_n 0, 1) := by decide +kernel
theorem dX7_load_6 : decode cX7_load 6 = .ok (.iconst 0, 1) := by decide +kernel
theorem dX7_load_7 : decode cX7_load 7 = .ok (.putfield 116, 3) := by decide +kernel
theorem dX7_load_10 : decode cX7_load 10 = .ok (.aload_n 0, 1) := by decide +kernel
theorem dX7_load_11 : decode cX7_load 11 = .ok (.iconst 0, 1) := by decide +kernel
theorem dX7_load_12 : decode cX7_load 12 = .ok (.putfield 125, 3) := by decide +kernel
theorem dX7_load_15 : decode cX7_load 15 = .ok (.iconst 1, 1) := by decide +kernel
theorem dX7_load_16 : decode cX7_load 16 = .ok (.istore_n 1, 1) := by decide +kernel
theorem dX7_load_17 : decode cX7_load 17 = .ok (.iload_n 1, 1) := by decide +kernel
theorem dX7_load_18 : decode cX7_load 18 = .ok (.ifCond .eq 55, 3) := by decide +kernel
theorem dX7_load_21 : decode cX7_load 21 = .ok (.aload_n 0, 1) := by decide +kernel
theorem dX7_load_22 : decode cX7_load 22 = .ok (.getfield 103, 3) := by decide +kernel
theorem dX7_load_25 : decode cX7_load 25 = .ok (.aload_n 0, 1) := by decide +kernel
theorem dX7_load_26 : decode cX7_load 26 = .ok (.getfield 100, 3) := by decide +kernel
theorem dX7_load_29 : decode cX7_load 29 = .ok (.if_icmp .ge 44, 3) := by decide +kernel
theorem dX7_load_32 : decode cX7_load 32 = .ok (.aload_n 0, 1) := by decide +kernel
theorem dX7_load_33 : decode cX7_load 33 = .ok (.invokevirtual 106, 3) := by decide +kernel
theorem dX7_load_36 : decode cX7_load 36 = .ok (.bipush 112, 2) := by decide +kernel
theorem dX7_load_38 : decode cX7_load 38 = .ok (.if_icmp .ne 10, 3) := by decide +kernel
theorem dX7_load_41 : decode cX7_load 41 = .ok (.aload_n 0, 1) := by decide +kernel
theorem dX7_load_42 : decode cX7_load 42 = .ok (.invokevirtual 128, 3) := by decide +kernel
theorem dX7_load_45 : decode cX7_load 45 = .ok (.goto 24, 3) := by decide +kernel
theorem dX7_load_48 : decode cX7_load 48 = .ok (.aload_n 0, 1) := by decide +kernel
theorem dX7_load_49 : decode cX7_load 49 = .ok (.invokevirtual 106, 3) := by decide +kernel
theorem dX7_load_52 : decode cX7_load 52 = .ok (.bipush 114, 2) := by decide +kernel
theorem dX7_load_54 : decode cX7_load 54 = .ok (.if_icmp .ne 14, 3) := by decide +kernel
theorem dX7_load_57 : decode cX7_load 57 = .ok (.aload_n 0, 1) := by decide +kernel
theorem dX7_load_58 : decode cX7_load 58 = .ok (.invokevirtual 131, 3) := by decide +kernel
theorem dX7_load_61 : decode cX7_load 61 = .ok (.ifCond .eq 7, 3) := by decide +kernel
theorem dX7_load_64 : decode cX7_load 64 = .ok (.iconst 1, 1) := by decide +kernel
theorem dX7_load_65 : decode cX7_load 65 = .ok (.goto 4, 3) := by decide +kernel
theorem dX7_load_68 : decode cX7_load 68 = .ok (.iconst 0, 1) := by decide +kernel
theorem dX7_load_69 : decode cX7_load 69 = .ok (.istore_n 1, 1) := by decide +kernel
theorem dX7_load_70 : decode cX7_load 70 = .ok (.goto (-53), 3) := by decide +kernel
theorem dX7_load_73 : decode cX7_load 73 = .ok (.iload_n 1, 1) := by decide +kernel
theorem dX7_load_74 : decode cX7_load 74 = .ok (.ifCond .ne 11, 3) := by decide +kernel
theorem dX7_load_77 : decode cX7_load 77 = .ok (.bipush (-10), 2) := by decide +kernel
theorem dX7_load_79 : decode cX7_load 79 = .ok (.aload_n 0, 1) := by decide +kernel
theorem dX7_load_80 : decode cX7_load 80 = .ok (.getfield 103, 3) := by decide +kernel
theorem dX7_load_83 : decode cX7_load 83 = .ok (.isub, 1) := by decide +kernel
theorem dX7_load_84 : decode cX7_load 84 = .ok (.ireturn, 1) := by decide +kernel
theorem dX7_load_85 : decode cX7_load 85 = .ok (.aload_n 0, 1) := by decide +kernel
theorem dX7_load_86 : decode cX7_load 86 = .ok (.invokevirtual 87, 3) := by decide +kernel
theorem dX7_load_89 : decode cX7_load 89 = .ok (.aload_n 0, 1) := by decide +kernel
theorem dX7_load_90 : decode cX7_load 90 = .ok (.getfield 7, 3) := by decide +kernel
theorem dX7_load_93 : decode cX7_load 93 = .ok (.iconst 0, 1) := by decide +kernel
theorem dX7_load_94 : decode cX7_load 94 = .ok (.aload_n 0, 1) := by decide +kernel
theorem dX7_load_95 : decode cX7_load 95 = .ok (.getfield 116, 3) := by decide +kernel
theorem dX7_load_98 : decode cX7_load 98 = .ok (.iastore, 1) := by decide +kernel
theorem dX7_load_99 : decode cX7_load 99 = .ok (.iconst 0, 1) := by decide +kernel
theorem dX7_load_100 : decode cX7_load 100 = .ok (.istore_n 2, 1) := by decide +kernel
theorem dX7_load_101 : decode cX7_load 101 = .ok (.iload_n 2, 1) := by decide +kernel
theorem dX7_load_102 : decode cX7_load 102 = .ok (.aload_n 0, 1) := by decide +kernel
theorem dX7_load_103 : decode cX7_load 103 = .ok (.getfield 116, 3) := by decide +kernel
theorem dX7_load_106 : decode cX7_load 106 = .ok (.if_icmp .ge 71, 3) := by decide +kernel
theorem dX7_load_109 : decode cX7_load 109 = .ok (.aload_n 0, 1) := by decide +kernel
theorem dX7_load_110 : decode cX7_load 110 = .ok (.iload_n 2, 1) := by decide +kernel
theorem dX7_load_111 : decode cX7_load 111 = .ok (.aload_n 0, 1) := by decide +kernel
theorem dX7_load_112 : decode cX7_load 112 = .ok (.getfield 16, 3) := by decide +kernel
theorem dX7_load_115 : decode cX7_load 115 = .ok (.iconst 5, 1) := by decide +kernel
theorem dX7_load_116 : decode cX7_load 116 = .ok (.iload_n 2, 1) := by decide +kernel
theorem dX7_load_117 : decode cX7_load 117 = .ok (.imul, 1) := by decide +kernel
theorem dX7_load_118 : decode cX7_load 118 = .ok (.iaload, 1) := by decide +kernel
theorem dX7_load_119 : decode cX7_load 119 = .ok (.aload_n 0, 1) := by decide +kernel
theorem dX7_load_120 : decode cX7_load 120 = .ok (.getfield 16, 3) := by decide +kernel
theorem dX7_load_123 : decode cX7_load 123 = .ok (.iconst 5, 1) := by decide +kernel
theorem dX7_load_124 : decode cX7_load 124 = .ok (.iload_n 2, 1) := by decide +kernel
theorem dX7_load_125 : decode cX7_load 125 = .ok (.imul, 1) := by decide +kernel
theorem dX7_load_126 : decode cX7_load 126 = .ok (.iconst 1, 1) := by decide +kernel
theorem dX7_load_127 : decode cX7_load 127 = .ok (.iadd, 1) := by decide +kernel
theorem dX7_load_128 : decode cX7_load 128 = .ok (.iaload, 1) := by decide +kernel
theorem dX7_load_129 : decode cX7_load 129 = .ok (.aload_n 0, 1) := by decide +kernel
theorem dX7_load_130 : decode cX7_load 130 = .ok (.getfield 16, 3) := by decide +kernel
theorem dX7_load_133 : decode cX7_load 133 = .ok (.iconst 5, 1) := by decide +kernel
theorem dX7_load_134 : decode cX7_load 134 = .ok (.iload_n 2, 1) := by decide +kernel
theorem dX7_load_135 : decode cX7_load 135 = .ok (.imul, 1) := by decide +kernel
theorem dX7_load_136 : decode cX7_load 136 = .ok (.iconst 2, 1) := by decide +kernel
theorem dX7_load_137 : decode cX7_load 137 = .ok (.iadd, 1) := by decide +kernel
theorem dX7_load_138 : decode cX7_load 138 = .ok (.iaload, 1) := by decide +kernel
theorem dX7_load_139 : decode cX7_load 139 = .ok (.aload_n 0, 1) := by decide +kernel
theorem dX7_load_140 : decode cX7_load 140 = .ok (.getfield 16, 3) := by decide +kernel
theorem dX7_load_143 : decode cX7_load 143 = .ok (.iconst 5, 1) := by decide +kernel
theorem dX7_load_144 : decode cX7_load 144 = .ok (.iload_n 2, 1) := by decide +kernel
theorem dX7_load_145 : decode cX7_load 145 = .ok (.imul, 1) := by decide +kernel
theorem dX7_load_146 : decode cX7_load 146 = .ok (.iconst 3, 1) := by decide +kernel
theorem dX7_load_147 : decode cX7_load 147 = .ok (.iadd, 1) := by decide +kernel
theorem dX7_load_148 : decode cX7_load 148 = .ok (.iaload, 1) := by decide +kernel
theorem dX7_load_149 : decode cX7_load 149 = .ok (.aload_n 0, 1) := by decide +kernel
theorem dX7_load_150 : decode cX7_load 150 = .ok (.getfield 16, 3) := by decide +kernel
theorem dX7_load_153 : decode cX7_load 153 = .ok (.iconst 5, 1) := by decide +kernel
theorem dX7_load_154 : decode cX7_load 154 = .ok (.iload_n 2, 1) := by decide +kernel
theorem dX7_load_155 : decode cX7_load 155 = .ok (.imul, 1) := by decide +kernel
theorem dX7_load_156 : decode cX7_load 156 = .ok (.iconst 4, 1) := by decide +kernel
theorem dX7_load_157 : decode cX7_load 157 = .ok (.iadd, 1) := by decide +kernel
theorem dX7_load_158 : decode cX7_load 158 = .ok (.iaload, 1) := by decide +kernel
theorem dX7_load_159 : decode cX7_load 159 = .ok (.iconst 1, 1) := by decide +kernel
theorem dX7_load_160 : decode cX7_load 160 = .ok (.if_icmp .ne 7, 3) := by decide +kernel
theorem dX7_load_163 : decode cX7_load 163 = .ok (.iconst 1, 1) := by decide +kernel
theorem dX7_load_164 : decode cX7_load 164 = .ok (.goto 4, 3) := by decide +kernel
theorem dX7_load_167 : decode cX7_load 167 = .ok (.iconst 0, 1) := by decide +kernel
theorem dX7_load_168 : decode cX7_load 168 = .ok (.invokevirtual 90, 3) := by decide +kernel
theorem dX7_load_171 : decode cX7_load 171 = .ok (.iinc 2 1, 3) := by decide +kernel
theorem dX7_load_174 : decode cX7_load 174 = .ok (.goto (-73), 3) := by decide +kernel
theorem dX7_load_177 : decode cX7_load 177 = .ok (.aload_n 0, 1) := by decide +kernel
theorem dX7_load_178 : decode cX7_load 178 = .ok (.getfield 7, 3) := by decide +kernel
theorem dX7_load_181 : decode cX7_load 181 = .ok (.bipush 91, 2) := by decide +kernel
theorem dX7_load_183 : decode cX7_load 183 = .ok (.aload_n 0, 1) := by decide +kernel
theorem dX7_load_184 : decode cX7_load 184 = .ok (.getfield 125, 3) := by decide +kernel
theorem dX7_load_187 : decode cX7_load 187 = .ok (.iastore, 1) := by decide +kernel
theorem dX7_load_188 : decode cX7_load 188 = .ok (.iconst 0, 1) := by decide +kernel
theorem dX7_load_189 : decode cX7_load 189 = .ok (.istore_n 2, 1) := by decide +kernel
theorem dX7_load_190 : decode cX7_load 190 = .ok (.iload_n 2, 1) := by decide +kernel
theorem dX7_load_191 : decode cX7_load 191 = .ok (.iconst 2, 1) := by decide +kernel
theorem dX7_load_192 : decode cX7_load 192 = .ok (.aload_n 0, 1) := by decide +kernel
theorem dX7_load_193 : decode cX7_load 193 = .ok (.getfield 125, 3) := by decide +kernel
theorem dX7_load_196 : decode cX7_load 196 = .ok (.imul, 1) := by decide +kernel
theorem dX7_load_197 : decode cX7_load 197 = .ok (.if_icmp .ge 24, 3) := by decide +kernel
theorem dX7_load_200 : decode cX7_load 200 = .ok (.aload_n 0, 1) := by decide +kernel
theorem dX7_load_201 : decode cX7_load 201 = .ok (.getfield 7, 3) := by decide +kernel
theorem dX7_load_204 : decode cX7_load 204 = .ok (.bipush 92, 2) := by decide +kernel
theorem dX7_load_206 : decode cX7_load 206 = .ok (.iload_n 2, 1) := by decide +kernel
theorem dX7_load_207 : decode cX7_load 207 = .ok (.iadd, 1) := by decide +kernel
theorem dX7_load_208 : decode cX7_load 208 = .ok (.aload_n 0, 1) := by decide +kernel
theorem dX7_load_209 : decode cX7_load 209 = .ok (.getfield 19, 3) := by decide +kernel
theorem dX7_load_212 : decode cX7_load 212 = .ok (.iload_n 2, 1) := by decide +kernel
theorem dX7_load_213 : decode cX7_load 213 = .ok (.iaload, 1) := by decide +kernel
theorem dX7_load_214 : decode cX7_load 214 = .ok (.iastore, 1) := by decide +kernel
theorem dX7_load_215 : decode cX7_load 215 = .ok (.iinc 2 1, 3) := by decide +kernel
theorem dX7_load_218 : decode cX7_load 218 = .ok (.goto (-28), 3) := by decide +kernel
theorem dX7_load_221 : decode cX7_load 221 = .ok (.aload_n 0, 1) := by decide +kernel
theorem dX7_load_222 : decode cX7_load 222 = .ok (.getfield 116, 3) := by decide +kernel
theorem dX7_load_225 : decode cX7_load 225 = .ok (.bipush 100, 2) := by decide +kernel
theorem dX7_load_227 : decode cX7_load 227 = .ok (.aload_n 0, 1) := by decide +kernel
theorem dX7_load_228 : decode cX7_load 228 = .ok (.getfield 125, 3) := by decide +kernel
theorem dX7_load_231 : decode cX7_load 231 = .ok (.imul, 1) := by decide +kernel
theorem dX7_load_232 : decode cX7_load 232 = .ok (.iadd, 1) := by decide +kernel
theorem dX7_load_233 : decode cX7_load 233 = .ok (.ireturn, 1) := by decide +kernel
theorem dX7_puts_0 : decode cX7_puts 0 = .ok (.aload_n 0, 1) := by decide +kernel
theorem dX7_puts_1 : decode cX7_puts 1 = .ok (.getfield 7, 3) := by decide +kernel
theorem dX7_puts_4 : decode cX7_puts 4 = .ok (.aload_n 0, 1) := by decide +kernel
theorem dX7_puts_5 : decode cX7_puts 5 = .ok (.iload_n 1, 1) := by decide +kernel
theorem dX7_puts_6 : decode cX7_puts 6 = .ok (.iconst 3, 1) := by decide +kernel
theorem dX7_puts_7 : decode cX7_puts 7 = .ok (.invokevirtual 45, 3) := by decide +kernel
theorem dX7_puts_10 : decode cX7_puts 10 = .ok (.iload_n 2, 1) := by decide +kernel
theorem dX7_puts_11 : decode cX7_puts 11 = .ok (.iastore, 1) := by decide +kernel
theorem dX7_puts_12 : decode cX7_puts 12 = .ok (.aload_n 0, 1) := by decide +kernel
theorem dX7_puts_13 : decode cX7_puts 13 = .ok (.getfield 7, 3) := by decide +kernel
theorem dX7_puts_16 : decode cX7_puts 16 = .ok (.aload_n 0, 1) := by decide +kernel
theorem dX7_puts_17 : decode cX7_puts 17 = .ok (.iload_n 1, 1) := by decide +kernel
theorem dX7_puts_18 : decode cX7_puts 18 = .ok (.bipush 7, 2) := by decide +kernel
theorem dX7_puts_20 : decode cX7_puts 20 = .ok (.invokevirtual 45, 3) := by decide +kernel
theorem dX7_puts_23 : decode cX7_puts 23 = .ok (.iconst 0, 1) := by decide +kernel
theorem dX7_puts_24 : decode cX7_puts 24 = .ok (.iastore, 1) := by decide +kernel
theorem dX7_puts_25 : decode cX7_puts 25 = .ok (.aload_n 0, 1) := by decide +kernel
theorem dX7_puts_26 : decode cX7_puts 26 = .ok (.getfield 7, 3) := by decide +kernel
theorem dX7_puts_29 : decode cX7_puts 29 = .ok (.bipush 106, 2) := by decide +kernel
theorem dX7_puts_31 : decode cX7_puts 31 = .ok (.iload_n 2, 1) := by decide +kernel
theorem dX7_puts_32 : decode cX7_puts 32 = .ok (.iadd, 1) := by decide +kernel
theorem dX7_puts_33 : decode cX7_puts 33 = .ok (.dup2, 1) := by decide +kernel
theorem dX7_puts_34 : decode cX7_puts 34 = .ok (.iaload, 1) := by decide +kernel
theorem dX7_puts_35 : decode cX7_puts 35 = .ok (.iconst 1, 1) := by decide +kernel
theorem dX7_puts_36 : decode cX7_puts 36 = .ok (.isub, 1) := by decide +kernel
theorem dX7_puts_37 : decode cX7_puts 37 = .ok (.iastore, 1) := by decide +kernel
theorem dX7_puts_38 : decode cX7_puts 38 = .ok (.return_, 1) := by decide +kernel
theorem dX7_swap_0 : decode cX7_swap 0 = .ok (.aload_n 0, 1) := by decide +kernel
theorem dX7_swap_1 : decode cX7_swap 1 = .ok (.iload_n 1, 1) := by decide +kernel
theorem dX7_swap_2 : decode cX7_swap 2 = .ok (.invokevirtual 94, 3) := by decide +kernel
theorem dX7_swap_5 : decode cX7_swap 5 = .ok (.ifCond .eq 10, 3) := by decide +kernel
theorem dX7_swap_8 : decode cX7_swap 8 = .ok (.iload_n 2, 1) := by decide +kernel
theorem dX7_swap_9 : decode cX7_swap 9 = .ok (.invokestatic 84, 3) := by decide +kernel
theorem dX7_swap_12 : decode cX7_swap 12 = .ok (.ifCond .ne 5, 3) := by decide +kernel
theorem dX7_swap_15 : decode cX7_swap 15 = .ok (.iconst (-1), 1) := by decide +kernel
theorem dX7_swap_16 : decode cX7_swap 16 = .ok (.ireturn, 1) := by decide +kernel
theorem dX7_swap_17 : decode cX7_swap 17 = .ok (.aload_n 0, 1) := by decide +kernel
theorem dX7_swap_18 : decode cX7_swap 18 = .ok (.getfield 7, 3) := by decide +kernel
theorem dX7_swap_21 : decode cX7_swap 21 = .ok (.bipush 106, 2) := by decide +kernel
theorem dX7_swap_23 : decode cX7_swap 23 = .ok (.iload_n 2, 1) := by decide +kernel
theorem dX7_swap_24 : decode cX7_swap 24 = .ok (.iadd, 1) := by decide +kernel
theorem dX7_swap_25 : decode cX7_swap 25 = .ok (.iaload, 1) := by decide +kernel
theorem dX7_swap_26 : decode cX7_swap 26 = .ok (.ifCond .ne 6, 3) := by decide +kernel
theorem dX7_swap_29 : decode cX7_swap 29 = .ok (.bipush (-2), 2) := by decide +kernel
theorem dX7_swap_31 : decode cX7_swap 31 = .ok (.ireturn, 1) := by decide +kernel
theorem dX7_swap_32 : decode cX7_swap 32 = .ok (.aload_n 0, 1) := by decide +kernel
theorem dX7_swap_33 : decode cX7_swap 33 = .ok (.invokevirtual 87, 3) := by decide +kernel
theorem dX7_swap_36 : decode cX7_swap 36 = .ok (.aload_n 0, 1) := by decide +kernel
theorem dX7_swap_37 : decode cX7_swap 37 = .ok (.iload_n 1, 1) := by decide +kernel
theorem dX7_swap_38 : decode cX7_swap 38 = .ok (.iload_n 2, 1) := by decide +kernel
theorem dX7_swap_39 : decode cX7_swap 39 = .ok (.invokevirtual 134, 3) := by decide +kernel
theorem dX7_swap_42 : decode cX7_swap 42 = .ok (.aload_n 0, 1) := by decide +kernel
theorem dX7_swap_43 : decode cX7_swap 43 = .ok (.getfield 7, 3) := by decide +kernel
theorem dX7_swap_46 : decode cX7_swap 46 = .ok (.bipush 106, 2) := by decide +kernel
theorem dX7_swap_48 : decode cX7_swap 48 = .ok (.iload_n 2, 1) := by decide +kernel
theorem dX7_swap_49 : decode cX7_swap 49 = .ok (.iadd, 1) := by decide +kernel
theorem dX7_swap_50 : decode cX7_swap 50 = .ok (.iaload, 1) := by decide +kernel
theorem dX7_swap_51 : decode cX7_swap 51 = .ok (.ireturn, 1) := by decide +kernel
theorem dX7_instead_0 : decode cX7_instead 0 = .ok (.aload_n 0, 1) := by decide +kernel
theorem dX7_instead_1 : decode cX7_instead 1 = .ok (.getfield 7, 3) := by decide +kernel
theorem dX7_instead_4 : decode cX7_instead 4 = .ok (.bipush 106, 2) := by decide +kernel
theorem dX7_instead_6 : decode cX7_instead 6 = .ok (.iload_n 1, 1) := by decide +kernel
theorem dX7_instead_7 : decode cX7_instead 7 = .ok (.iadd, 1) := by decide +kernel
theorem dX7_instead_8 : decode cX7_instead 8 = .ok (.iaload, 1) := by decide +kernel
theorem dX7_instead_9 : decode cX7_instead 9 = .ok (.ifCond .le 5, 3) := by decide +kernel
theorem dX7_instead_12 : decode cX7_instead 12 = .ok (.iload_n 1, 1) := by decide +kernel
theorem dX7_instead_13 : decode cX7_instead 13 = .ok (.ireturn, 1) := by decide +kernel
theorem dX7_instead_14 : decode cX7_instead 14 = .ok (.iconst 2, 1) := by decide +kernel
theorem dX7_instead_15 : decode cX7_instead 15 = .ok (.istore_n 2, 1) := by decide +kernel
theorem dX7_instead_16 : decode cX7_instead 16 = .ok (.iload_n 2, 1) := by decide +kernel
theorem dX7_instead_17 : decode cX7_instead 17 = .ok (.ifCond .lt 21, 3) := by decide +kernel
theorem dX7_instead_20 : decode cX7_instead 20 = .ok (.aload_n 0, 1) := by decide +kernel
theorem dX7_instead_21 : decode cX7_instead 21 = .ok (.getfield 7, 3) := by decide +kernel
theorem dX7_instead_24 : decode cX7_instead 24 = .ok (.bipush 106, 2) := by decide +kernel
theorem dX7_instead_26 : decode cX7_instead 26 = .ok (.iload_n 2, 1) := by decide +kernel
theorem dX7_instead_27 : decode cX7_instead 27 = .ok (.iadd, 1) := by decide +kernel
theorem dX7_instead_28 : decode cX7_instead 28 = .ok (.iaload, 1) := by decide +kernel
theorem dX7_instead_29 : decode cX7_instead 29 = .ok (.ifCond .ne 9, 3) := by decide +kernel
theorem dX7_instead_32 : decode cX7_instead 32 = .ok (.iinc 2 (-1), 3) := by decide +kernel
theorem dX7_instead_35 : decode cX7_instead 35 = .ok (.goto (-19), 3) := by decide +kernel
theorem dX7_instead_38 : decode cX7_instead 38 = .ok (.iload_n 2, 1) := by decide +kernel
theorem dX7_instead_39 : decode cX7_instead 39 = .ok (.ifCond .lt 18, 3) := by decide +kernel
theorem dX7_instead_42 : decode cX7_instead 42 = .ok (.iload_n 2, 1) := by decide +kernel
theorem dX7_instead_43 : decode cX7_instead 43 = .ok (.invokestatic 70, 3) := by decide +kernel
theorem dX7_instead_46 : decode cX7_instead 46 = .ok (.iload_n 1, 1) := by decide +kernel
theorem dX7_instead_47 : decode cX7_instead 47 = .ok (.invokestatic 70, 3) := by decide +kernel
theorem dX7_instead_50 : decode cX7_instead 50 = .ok (.if_icmp .lt 7, 3) := by decide +kernel
theorem dX7_instead_53 : decode cX7_instead 53 = .ok (.iload_n 2, 1) := by decide +kernel
theorem dX7_instead_54 : decode cX7_instead 54 = .ok (.goto 5, 3) := by decide +kernel
theorem dX7_instead_57 : decode cX7_instead 57 = .ok (.bipush (-9), 2) := by decide +kernel
theorem dX7_instead_59 : decode cX7_instead 59 = .ok (.ireturn, 1) := by decide +kernel
theorem dX7_swapAll_0 : decode cX7_swapAll 0 = .ok (.iload_n 1, 1) := by decide +kernel
theorem dX7_swapAll_1 : decode cX7_swapAll 1 = .ok (.iconst 1, 1) := by decide +kernel
theorem dX7_swapAll_2 : decode cX7_swapAll 2 = .ok (.sipush 9000, 3) := by decide +kernel
theorem dX7_swapAll_5 : decode cX7_swapAll 5 = .ok (.invokestatic 53, 3) := by decide +kernel
theorem dX7_swapAll_8 : decode cX7_swapAll 8 = .ok (.ifCond .ne 5, 3) := by decide +kernel
theorem dX7_swapAll_11 : decode cX7_swapAll 11 = .ok (.iconst (-1), 1) := by decide +kernel
theorem dX7_swapAll_12 : decode cX7_swapAll 12 = .ok (.ireturn, 1) := by decide +kernel
theorem dX7_swapAll_13 : decode cX7_swapAll 13 = .ok (.aload_n 0, 1) := by decide +kernel
theorem dX7_swapAll_14 : decode cX7_swapAll 14 = .ok (.invokevirtual 87, 3) := by decide +kernel
theorem dX7_swapAll_17 : decode cX7_swapAll 17 = .ok (.iconst 0, 1) := by decide +kernel
theorem dX7_swapAll_18 : decode cX7_swapAll 18 = .ok (.istore_n 2, 1) := by decide +kernel
theorem dX7_swapAll_19 : decode cX7_swapAll 19 = .ok (.iconst 0, 1) := by decide +kernel
theorem dX7_swapAll_20 : decode cX7_swapAll 20 = .ok (.istore_n 3, 1) := by decide +kernel
theorem dX7_swapAll_21 : decode cX7_swapAll 21 = .ok (.iload_n 3, 1) := by decide +kernel
theorem dX7_swapAll_22 : decode cX7_swapAll 22 = .ok (.aload_n 0, 1) := by decide +kernel
theorem dX7_swapAll_23 : decode cX7_swapAll 23 = .ok (.invokevirtual 49, 3) := by decide +kernel
theorem dX7_swapAll_26 : decode cX7_swapAll 26 = .ok (.if_icmp .ge 52, 3) := by decide +kernel
theorem dX7_swapAll_29 : decode cX7_swapAll 29 = .ok (.aload_n 0, 1) := by decide +kernel
theorem dX7_swapAll_30 : decode cX7_swapAll 30 = .ok (.iload_n 3, 1) := by decide +kernel
theorem dX7_swapAll_31 : decode cX7_swapAll 31 = .ok (.invokevirtual 64, 3) := by decide +kernel
theorem dX7_swapAll_34 : decode cX7_swapAll 34 = .ok (.iload_n 1, 1) := by decide +kernel
theorem dX7_swapAll_35 : decode cX7_swapAll 35 = .ok (.if_icmp .ge 16, 3) := by decide +kernel
theorem dX7_swapAll_38 : decode cX7_swapAll 38 = .ok (.aload_n 0, 1) := by decide +kernel
theorem dX7_swapAll_39 : decode cX7_swapAll 39 = .ok (.aload_n 0, 1) := by decide +kernel
theorem dX7_swapAll_40 : decode cX7_swapAll 40 = .ok (.iload_n 3, 1) := by decide +kernel
theorem dX7_swapAll_41 : decode cX7_swapAll 41 = .ok (.iconst 3, 1) := by decide +kernel
theorem dX7_swapAll_42 : decode cX7_swapAll 42 = .ok (.invokevirtual 57, 3) := by decide +kernel
theorem dX7_swapAll_45 : decode cX7_swapAll 45 = .ok (.invokevirtual 138, 3) := by decide +kernel
theorem dX7_swapAll_48 : decode cX7_swapAll 48 = .ok (.goto 5, 3) := by decide +kernel
theorem dX7_swapAll_51 : decode cX7_swapAll 51 = .ok (.bipush (-9), 2) := by decide +kernel
theorem dX7_swapAll_53 : decode cX7_swapAll 53 = .ok (.istore 4, 2) := by decide +kernel
theorem dX7_swapAll_55 : decode cX7_swapAll 55 = .ok (.iload 4, 2) := by decide +kernel
theorem dX7_swapAll_57 : decode cX7_swapAll 57 = .ok (.bipush (-9), 2) := by decide +kernel
theorem dX7_swapAll_59 : decode cX7_swapAll 59 = .ok (.if_icmp .eq 13, 3) := by decide +kernel
theorem dX7_swapAll_62 : decode cX7_swapAll 62 = .ok (.aload_n 0, 1) := by decide +kernel
theorem dX7_swapAll_63 : decode cX7_swapAll 63 = .ok (.iload_n 3, 1) := by decide +kernel
theorem dX7_swapAll_64 : decode cX7_swapAll 64 = .ok (.iload 4, 2) := by decide +kernel
theorem dX7_swapAll_66 : decode cX7_swapAll 66 = .ok (.invokevirtual 134, 3) := by decide +kernel
theorem dX7_swapAll_69 : decode cX7_swapAll 69 = .ok (.iinc 2 1, 3) := by decide +kernel
theorem dX7_swapAll_72 : decode cX7_swapAll 72 = .ok (.iinc 3 1, 3) := by decide +kernel
theorem dX7_swapAll_75 : decode cX7_swapAll 75 = .ok (.goto (-54), 3) := by decide +kernel
theorem dX7_swapAll_78 : decode cX7_swapAll 78 = .ok (.iload_n 2, 1) := by decide +kernel
theorem dX7_swapAll_79 : decode cX7_swapAll 79 = .ok (.ireturn, 1) := by decide +kernel
theorem dX7_renew_0 : decode cX7_renew 0 = .ok (.aload_n 0, 1) := by decide +kernel
theorem dX7_renew_1 : decode cX7_renew 1 = .ok (.iload_n 1, 1) := by decide +kernel
theorem dX7_renew_2 : decode cX7_renew 2 = .ok (.invokevirtual 94, 3) := by decide +kernel
theorem dX7_renew_5 : decode cX7_renew 5 = .ok (.ifCond .ne 5, 3) := by decide +kernel
theorem dX7_renew_8 : decode cX7_renew 8 = .ok (.iconst (-1), 1) := by decide +kernel
theorem dX7_renew_9 : decode cX7_renew 9 = .ok (.ireturn, 1) := by decide +kernel
theorem dX7_renew_10 : decode cX7_renew 10 = .ok (.aload_n 0, 1) := by decide +kernel
theorem dX7_renew_11 : decode cX7_renew 11 = .ok (.invokevirtual 87, 3) := by decide +kernel
theorem dX7_renew_14 : decode cX7_renew 14 = .ok (.aload_n 0, 1) := by decide +kernel
theorem dX7_renew_15 : decode cX7_renew 15 = .ok (.iload_n 1, 1) := by decide +kernel
theorem dX7_renew_16 : decode cX7_renew 16 = .ok (.iconst 5, 1) := by decide +kernel
theorem dX7_renew_17 : decode cX7_renew 17 = .ok (.invokevirtual 57, 3) := by decide +kernel
theorem dX7_renew_20 : decode cX7_renew 20 = .ok (.istore_n 2, 1) := by decide +kernel
theorem dX7_renew_21 : decode cX7_renew 21 = .ok (.aload_n 0, 1) := by decide +kernel
theorem dX7_renew_22 : decode cX7_renew 22 = .ok (.getfield 7, 3) := by decide +kernel
theorem dX7_renew_25 : decode cX7_renew 25 = .ok (.aload_n 0, 1) := by decide +kernel
theorem dX7_renew_26 : decode cX7_renew 26 = .ok (.iload_n 1, 1) := by decide +kernel
theorem dX7_renew_27 : decode cX7_renew 27 = .ok (.iconst 5, 1) := by decide +kernel
theorem dX7_renew_28 : decode cX7_renew 28 = .ok (.invokevirtual 45, 3) := by decide +kernel
theorem dX7_renew_31 : decode cX7_renew 31 = .ok (.sipush 1000, 3) := by decide +kernel
theorem dX7_renew_34 : decode cX7_renew 34 = .ok (.iastore, 1) := by decide +kernel
theorem dX7_renew_35 : decode cX7_renew 35 = .ok (.aload_n 0, 1) := by decide +kernel
theorem dX7_renew_36 : decode cX7_renew 36 = .ok (.getfield 7, 3) := by decide +kernel
theorem dX7_renew_39 : decode cX7_renew 39 = .ok (.aload_n 0, 1) := by decide +kernel
theorem dX7_renew_40 : decode cX7_renew 40 = .ok (.iload_n 1, 1) := by decide +kernel
theorem dX7_renew_41 : decode cX7_renew 41 = .ok (.bipush 6, 2) := by decide +kernel
theorem dX7_renew_43 : decode cX7_renew 43 = .ok (.invokevirtual 45, 3) := by decide +kernel
theorem dX7_renew_46 : decode cX7_renew 46 = .ok (.iconst 0, 1) := by decide +kernel
theorem dX7_renew_47 : decode cX7_renew 47 = .ok (.iastore, 1) := by decide +kernel
theorem dX7_renew_48 : decode cX7_renew 48 = .ok (.iload_n 2, 1) := by decide +kernel
theorem dX7_renew_49 : decode cX7_renew 49 = .ok (.ireturn, 1) := by decide +kernel
theorem dX7_hour_0 : decode cX7_hour 0 = .ok (.iconst 0, 1) := by decide +kernel
theorem dX7_hour_1 : decode cX7_hour 1 = .ok (.istore_n 1, 1) := by decide +kernel
theorem dX7_hour_2 : decode cX7_hour 2 = .ok (.iload_n 1, 1) := by decide +kernel
theorem dX7_hour_3 : decode cX7_hour 3 = .ok (.aload_n 0, 1) := by decide +kernel
theorem dX7_hour_4 : decode cX7_hour 4 = .ok (.invokevirtual 49, 3) := by decide +kernel
theorem dX7_hour_7 : decode cX7_hour 7 = .ok (.if_icmp .ge 73, 3) := by decide +kernel
theorem dX7_hour_10 : decode cX7_hour 10 = .ok (.aload_n 0, 1) := by decide +kernel
theorem dX7_hour_11 : decode cX7_hour 11 = .ok (.getfield 7, 3) := by decide +kernel
theorem dX7_hour_14 : decode cX7_hour 14 = .ok (.aload_n 0, 1) := by decide +kernel
theorem dX7_hour_15 : decode cX7_hour 15 = .ok (.iload_n 1, 1) := by decide +kernel
theorem dX7_hour_16 : decode cX7_hour 16 = .ok (.bipush 7, 2) := by decide +kernel
theorem dX7_hour_18 : decode cX7_hour 18 = .ok (.invokevirtual 45, 3) := by decide +kernel
theorem dX7_hour_21 : decode cX7_hour 21 = .ok (.dup2, 1) := by decide +kernel
theorem dX7_hour_22 : decode cX7_hour 22 = .ok (.iaload, 1) := by decide +kernel
theorem dX7_hour_23 : decode cX7_hour 23 = .ok (.aload_n 0, 1) := by decide +kernel
theorem dX7_hour_24 : decode cX7_hour 24 = .ok (.iload_n 1, 1) := by decide +kernel
theorem dX7_hour_25 : decode cX7_hour 25 = .ok (.iconst 4, 1) := by decide +kernel
theorem dX7_hour_26 : decode cX7_hour 26 = .ok (.invokevirtual 57, 3) := by decide +kernel
theorem dX7_hour_29 : decode cX7_hour 29 = .ok (.iconst 1, 1) := by decide +kernel
theorem dX7_hour_30 : decode cX7_hour 30 = .ok (.if_icmp .ne 16, 3) := by decide +kernel
theorem dX7_hour_33 : decode cX7_hour 33 = .ok (.aload_n 0, 1) := by decide +kernel
theorem dX7_hour_34 : decode cX7_hour 34 = .ok (.iload_n 1, 1) := by decide +kernel
theorem dX7_hour_35 : decode cX7_hour 35 = .ok (.invokevirtual 64, 3) := by decide +kernel
theorem dX7_hour_38 : decode cX7_hour 38 = .ok (.ifCond .le 8, 3) := by decide +kernel
theorem dX7_hour_41 : decode cX7_hour 41 = .ok (.bipush 60, 2) := by decide +kernel
theorem dX7_hour_43 : decode cX7_hour 43 = .ok (.goto 4, 3) := by decide +kernel
theorem dX7_hour_46 : decode cX7_hour 46 = .ok (.iconst 0, 1) := by decide +kernel
theorem dX7_hour_47 : decode cX7_hour 47 = .ok (.iadd, 1) := by decide +kernel
theorem dX7_hour_48 : decode cX7_hour 48 = .ok (.iastore, 1) := by decide +kernel
theorem dX7_hour_49 : decode cX7_hour 49 = .ok (.aload_n 0, 1) := by decide +kernel
theorem dX7_hour_50 : decode cX7_hour 50 = .ok (.getfield 7, 3) := by decide +kernel
theorem dX7_hour_53 : decode cX7_hour 53 = .ok (.aload_n 0, 1) := by decide +kernel
theorem dX7_hour_54 : decode cX7_hour 54 = .ok (.iload_n 1, 1) := by decide +kernel
theorem dX7_hour_55 : decode cX7_hour 55 = .ok (.bipush 6, 2) := by decide +kernel
theorem dX7_hour_57 : decode cX7_hour 57 = .ok (.invokevirtual 45, 3) := by decide +kernel
theorem dX7_hour_60 : decode cX7_hour 60 = .ok (.dup2, 1) := by decide +kernel
theorem dX7_hour_61 : decode cX7_hour 61 = .ok (.iaload, 1) := by decide +kernel
theorem dX7_hour_62 : decode cX7_hour 62 = .ok (.aload_n 0, 1) := by decide +kernel
theorem dX7_hour_63 : decode cX7_hour 63 = .ok (.iload_n 1, 1) := by decide +kernel
theorem dX7_hour_64 : decode cX7_hour 64 = .ok (.invokevirtual 73, 3) := by decide +kernel
theorem dX7_hour_67 : decode cX7_hour 67 = .ok (.iadd, 1) := by decide +kernel
theorem dX7_hour_68 : decode cX7_hour 68 = .ok (.iastore, 1) := by decide +kernel
theorem dX7_hour_69 : decode cX7_hour 69 = .ok (.aload_n 0, 1) := by decide +kernel
theorem dX7_hour_70 : decode cX7_hour 70 = .ok (.iload_n 1, 1) := by decide +kernel
theorem dX7_hour_71 : decode cX7_hour 71 = .ok (.invokevirtual 76, 3) := by decide +kernel
theorem dX7_hour_74 : decode cX7_hour 74 = .ok (.iinc 1 1, 3) := by decide +kernel
theorem dX7_hour_77 : decode cX7_hour 77 = .ok (.goto (-75), 3) := by decide +kernel
theorem dX7_hour_80 : decode cX7_hour 80 = .ok (.aload_n 0, 1) := by decide +kernel
theorem dX7_hour_81 : decode cX7_hour 81 = .ok (.getfield 7, 3) := by decide +kernel
theorem dX7_hour_84 : decode cX7_hour 84 = .ok (.bipush 105, 2) := by decide +kernel
theorem dX7_hour_86 : decode cX7_hour 86 = .ok (.dup2, 1) := by decide +kernel
theorem dX7_hour_87 : decode cX7_hour 87 = .ok (.iaload, 1) := by decide +kernel
theorem dX7_hour_88 : decode cX7_hour 88 = .ok (.iconst 1, 1) := by decide +kernel
theorem dX7_hour_89 : decode cX7_hour 89 = .ok (.iadd, 1) := by decide +kernel
theorem dX7_hour_90 : decode cX7_hour 90 = .ok (.iastore, 1) := by decide +kernel
theorem dX7_hour_91 : decode cX7_hour 91 = .ok (.iconst 0, 1) := by decide +kernel
theorem dX7_hour_92 : decode cX7_hour 92 = .ok (.istore_n 1, 1) := by decide +kernel
theorem dX7_hour_93 : decode cX7_hour 93 = .ok (.iload_n 1, 1) := by decide +kernel
theorem dX7_hour_94 : decode cX7_hour 94 = .ok (.aload_n 0, 1) := by decide +kernel
theorem dX7_hour_95 : decode cX7_hour 95 = .ok (.invokevirtual 49, 3) := by decide +kernel
theorem dX7_hour_98 : decode cX7_hour 98 = .ok (.if_icmp .ge 29, 3) := by decide +kernel
theorem dX7_hour_101 : decode cX7_hour 101 = .ok (.aload_n 0, 1) := by decide +kernel
theorem dX7_hour_102 : decode cX7_hour 102 = .ok (.getfield 7, 3) := by decide +kernel
theorem dX7_hour_105 : decode cX7_hour 105 = .ok (.bipush 105, 2) := by decide +kernel
theorem dX7_hour_107 : decode cX7_hour 107 = .ok (.iaload, 1) := by decide +kernel
theorem dX7_hour_108 : decode cX7_hour 108 = .ok (.sipush 1000, 3) := by decide +kernel
theorem dX7_hour_111 : decode cX7_hour 111 = .ok (.irem, 1) := by decide +kernel
theorem dX7_hour_112 : decode cX7_hour 112 = .ok (.ifCond .ne 15, 3) := by decide +kernel
theorem dX7_hour_115 : decode cX7_hour 115 = .ok (.aload_n 0, 1) := by decide +kernel
theorem dX7_hour_116 : decode cX7_hour 116 = .ok (.iload_n 1, 1) := by decide +kernel
theorem dX7_hour_117 : decode cX7_hour 117 = .ok (.iconst 1, 1) := by decide +kernel
theorem dX7_hour_118 : decode cX7_hour 118 = .ok (.invokevirtual 141, 3) := by decide +kernel
theorem dX7_hour_121 : decode cX7_hour 121 = .ok (.iinc 1 1, 3) := by decide +kernel
theorem dX7_hour_124 : decode cX7_hour 124 = .ok (.goto (-31), 3) := by decide +kernel
theorem dX7_hour_127 : decode cX7_hour 127 = .ok (.return_, 1) := by decide +kernel
theorem dX7_ready_0 : decode cX7_ready 0 = .ok (.iconst 0, 1) := by decide +kernel
theorem dX7_ready_1 : decode cX7_ready 1 = .ok (.istore_n 1, 1) := by decide +kernel
theorem dX7_ready_2 : decode cX7_ready 2 = .ok (.iconst 0, 1) := by decide +kernel
theorem dX7_ready_3 : decode cX7_ready 3 = .ok (.istore_n 2, 1) := by decide +kernel
theorem dX7_ready_4 : decode cX7_ready 4 = .ok (.iload_n 2, 1) := by decide +kernel
theorem dX7_ready_5 : decode cX7_ready 5 = .ok (.aload_n 0, 1) := by decide +kernel
theorem dX7_ready_6 : decode cX7_ready 6 = .ok (.invokevirtual 49, 3) := by decide +kernel
theorem dX7_ready_9 : decode cX7_ready 9 = .ok (.if_icmp .ge 25, 3) := by decide +kernel
theorem dX7_ready_12 : decode cX7_ready 12 = .ok (.iload_n 1, 1) := by decide +kernel
theorem dX7_ready_13 : decode cX7_ready 13 = .ok (.aload_n 0, 1) := by decide +kernel
theorem dX7_ready_14 : decode cX7_ready 14 = .ok (.iload_n 2, 1) := by decide +kernel
theorem dX7_ready_15 : decode cX7_ready 15 = .ok (.invokevirtual 144, 3) := by decide +kernel
theorem dX7_ready_18 : decode cX7_ready 18 = .ok (.ifCond .eq 7, 3) := by decide +kernel
theorem dX7_ready_21 : decode cX7_ready 21 = .ok (.iconst 1, 1) := by decide +kernel
theorem dX7_ready_22 : decode cX7_ready 22 = .ok (.goto 4, 3) := by decide +kernel
theorem dX7_ready_25 : decode cX7_ready 25 = .ok (.iconst 0, 1) := by decide +kernel
theorem dX7_ready_26 : decode cX7_ready 26 = .ok (.iadd, 1) := by decide +kernel
theorem dX7_ready_27 : decode cX7_ready 27 = .ok (.istore_n 1, 1) := by decide +kernel
theorem dX7_ready_28 : decode cX7_ready 28 = .ok (.iinc 2 1, 3) := by decide +kernel
theorem dX7_ready_31 : decode cX7_ready 31 = .ok (.goto (-27), 3) := by decide +kernel
theorem dX7_ready_34 : decode cX7_ready 34 = .ok (.iload_n 1, 1) := by decide +kernel
theorem dX7_ready_35 : decode cX7_ready 35 = .ok (.ireturn, 1) := by decide +kernel
theorem dX7_pass_0 : decode cX7_pass 0 = .ok (.iload_n 1, 1) := by decide +kernel
theorem dX7_pass_1 : decode cX7_pass 1 = .ok (.iconst 1, 1) := by decide +kernel
theorem dX7_pass_2 : decode cX7_pass 2 = .ok (.sipush 2000, 3) := by decide +kernel
theorem dX7_pass_5 : decode cX7_pass 5 = .ok (.invokestatic 53, 3) := by decide +kernel
theorem dX7_pass_8 : decode cX7_pass 8 = .ok (.ifCond .ne 5, 3) := by decide +kernel
theorem dX7_pass_11 : decode cX7_pass 11 = .ok (.iconst (-1), 1) := by decide +kernel
theorem dX7_pass_12 : decode cX7_pass 12 = .ok (.ireturn, 1) := by decide +kernel
theorem dX7_pass_13 : decode cX7_pass 13 = .ok (.aload_n 0, 1) := by decide +kernel
theorem dX7_pass_14 : decode cX7_pass 14 = .ok (.getfield 7, 3) := by decide +kernel
theorem dX7_pass_17 : decode cX7_pass 17 = .ok (.bipush 105, 2) := by decide +kernel
theorem dX7_pass_19 : decode cX7_pass 19 = .ok (.iaload, 1) := by decide +kernel
theorem dX7_pass_20 : decode cX7_pass 20 = .ok (.iload_n 1, 1) := by decide +kernel
theorem dX7_pass_21 : decode cX7_pass 21 = .ok (.iadd, 1) := by decide +kernel
theorem dX7_pass_22 : decode cX7_pass 22 = .ok (.ldc 147, 2) := by decide +kernel
theorem dX7_pass_24 : decode cX7_pass 24 = .ok (.if_icmp .le 6, 3) := by decide +kernel
theorem dX7_pass_27 : decode cX7_pass 27 = .ok (.bipush (-3), 2) := by decide +kernel
theorem dX7_pass_29 : decode cX7_pass 29 = .ok (.ireturn, 1) := by decide +kernel
theorem dX7_pass_30 : decode cX7_pass 30 = .ok (.aload_n 0, 1) := by decide +kernel
theorem dX7_pass_31 : decode cX7_pass 31 = .ok (.invokevirtual 87, 3) := by decide +kernel
theorem dX7_pass_34 : decode cX7_pass 34 = .ok (.iconst 0, 1) := by decide +kernel
theorem dX7_pass_35 : decode cX7_pass 35 = .ok (.istore_n 2, 1) := by decide +kernel
theorem dX7_pass_36 : decode cX7_pass 36 = .ok (.iload_n 2, 1) := by decide +kernel
theorem dX7_pass_37 : decode cX7_pass 37 = .ok (.iload_n 1, 1) := by decide +kernel
theorem dX7_pass_38 : decode cX7_pass 38 = .ok (.if_icmp .ge 13, 3) := by decide +kernel
theorem dX7_pass_41 : decode cX7_pass 41 = .ok (.aload_n 0, 1) := by decide +kernel
theorem dX7_pass_42 : decode cX7_pass 42 = .ok (.invokevirtual 148, 3) := by decide +kernel
theorem dX7_pass_45 : decode cX7_pass 45 = .ok (.iinc 2 1, 3) := by decide +kernel
theorem dX7_pass_48 : decode cX7_pass 48 = .ok (.goto (-12), 3) := by decide +kernel
theorem dX7_pass_51 : decode cX7_pass 51 = .ok (.aload_n 0, 1) := by decide +kernel
theorem dX7_pass_52 : decode cX7_pass 52 = .ok (.invokevirtual 151, 3) := by decide +kernel
theorem dX7_pass_55 : decode cX7_pass 55 = .ok (.ireturn, 1) := by decide +kernel
theorem dX7_tests_0 : decode cX7_tests 0 = .ok (.iconst 0, 1) := by decide +kernel
theorem dX7_tests_1 : decode cX7_tests 1 = .ok (.istore_n 2, 1) := by decide +kernel
theorem dX7_tests_2 : decode cX7_tests 2 = .ok (.iconst 0, 1) := by decide +kernel
theorem dX7_tests_3 : decode cX7_tests 3 = .ok (.istore_n 3, 1) := by decide +kernel
theorem dX7_tests_4 : decode cX7_tests 4 = .ok (.iload_n 3, 1) := by decide +kernel
theorem dX7_tests_5 : decode cX7_tests 5 = .ok (.aload_n 0, 1) := by decide +kernel
theorem dX7_tests_6 : decode cX7_tests 6 = .ok (.invokevirtual 49, 3) := by decide +kernel
theorem dX7_tests_9 : decode cX7_tests 9 = .ok (.if_icmp .ge 149, 3) := by decide +kernel
theorem dX7_tests_12 : decode cX7_tests 12 = .ok (.iload_n 1, 1) := by decide +kernel
theorem dX7_tests_13 : decode cX7_tests 13 = .ok (.iload_n 3, 1) := by decide +kernel
theorem dX7_tests_14 : decode cX7_tests 14 = .ok (.ishr, 1) := by decide +kernel
theorem dX7_tests_15 : decode cX7_tests 15 = .ok (.iconst 1, 1) := by decide +kernel
theorem dX7_tests_16 : decode cX7_tests 16 = .ok (.iand, 1) := by decide +kernel
theorem dX7_tests_17 : decode cX7_tests 17 = .ok (.iconst 1, 1) := by decide +kernel
theorem dX7_tests_18 : decode cX7_tests 18 = .ok (.if_icmp .ne 134, 3) := by decide +kernel
theorem dX7_tests_21 : decode cX7_tests 21 = .ok (.aload_n 0, 1) := by decide +kernel
theorem dX7_tests_22 : decode cX7_tests 22 = .ok (.iload_n 3, 1) := by decide +kernel
theorem dX7_tests_23 : decode cX7_tests 23 = .ok (.invokevirtual 60, 3) := by decide +kernel
theorem dX7_tests_26 : decode cX7_tests 26 = .ok (.istore 4, 2) := by decide +kernel
theorem dX7_tests_28 : decode cX7_tests 28 = .ok (.aload_n 0, 1) := by decide +kernel
theorem dX7_tests_29 : decode cX7_tests 29 = .ok (.iload_n 3, 1) := by decide +kernel
theorem dX7_tests_30 : decode cX7_tests 30 = .ok (.invokevirtual 67, 3) := by decide +kernel
theorem dX7_tests_33 : decode cX7_tests 33 = .ok (.iload 4, 2) := by decide +kernel
theorem dX7_tests_35 : decode cX7_tests 35 = .ok (.if_icmp .ge 11, 3) := by decide +kernel
theorem dX7_tests_38 : decode cX7_tests 38 = .ok (.aload_n 0, 1) := by decide +kernel
theorem dX7_tests_39 : decode cX7_tests 39 = .ok (.iload_n 3, 1) := by decide +kernel
theorem dX7_tests_40 : decode cX7_tests 40 = .ok (.invokevirtual 67, 3) := by decide +kernel
theorem dX7_tests_43 : decode cX7_tests 43 = .ok (.goto 5, 3) := by decide +kernel
theorem dX7_tests_46 : decode cX7_tests 46 = .ok (.iload 4, 2) := by decide +kernel
theorem dX7_tests_48 : decode cX7_tests 48 = .ok (.istore 5, 2) := by decide +kernel
theorem dX7_tests_50 : decode cX7_tests 50 = .ok (.aload_n 0, 1) := by decide +kernel
theorem dX7_tests_51 : decode cX7_tests 51 = .ok (.getfield 7, 3) := by decide +kernel
theorem dX7_tests_54 : decode cX7_tests 54 = .ok (.aload_n 0, 1) := by decide +kernel
theorem dX7_tests_55 : decode cX7_tests 55 = .ok (.iload_n 3, 1) := by decide +kernel
theorem dX7_tests_56 : decode cX7_tests 56 = .ok (.bipush 7, 2) := by decide +kernel
theorem dX7_tests_58 : decode cX7_tests 58 = .ok (.invokevirtual 45, 3) := by decide +kernel
theorem dX7_tests_61 : decode cX7_tests 61 = .ok (.dup2, 1) := by decide +kernel
theorem dX7_tests_62 : decode cX7_tests 62 = .ok (.iaload, 1) := by decide +kernel
theorem dX7_tests_63 : decode cX7_tests 63 = .ok (.iload 5, 2) := by decide +kernel
theorem dX7_tests_65 : decode cX7_tests 65 = .ok (.iadd, 1) := by decide +kernel
theorem dX7_tests_66 : decode cX7_tests 66 = .ok (.iastore, 1) := by decide +kernel
theorem dX7_tests_67 : decode cX7_tests 67 = .ok (.aload_n 0, 1) := by decide +kernel
theorem dX7_tests_68 : decode cX7_tests 68 = .ok (.getfield 7, 3) := by decide +kernel
theorem dX7_tests_71 : decode cX7_tests 71 = .ok (.aload_n 0, 1) := by decide +kernel
theorem dX7_tests_72 : decode cX7_tests 72 = .ok (.iload_n 3, 1) := by decide +kernel
theorem dX7_tests_73 : decode cX7_tests 73 = .ok (.bipush 6, 2) := by decide +kernel
theorem dX7_tests_75 : decode cX7_tests 75 = .ok (.invokevirtual 45, 3) := by decide +kernel
theorem dX7_tests_78 : decode cX7_tests 78 = .ok (.dup2, 1) := by decide +kernel
theorem dX7_tests_79 : decode cX7_tests 79 = .ok (.iaload, 1) := by decide +kernel
theorem dX7_tests_80 : decode cX7_tests 80 = .ok (.bipush 24, 2) := by decide +kernel
theorem dX7_tests_82 : decode cX7_tests 82 = .ok (.iload 5, 2) := by decide +kernel
theorem dX7_tests_84 : decode cX7_tests 84 = .ok (.imul, 1) := by decide +kernel
theorem dX7_tests_85 : decode cX7_tests 85 = .ok (.isub, 1) := by decide +kernel
theorem dX7_tests_86 : decode cX7_tests 86 = .ok (.iastore, 1) := by decide +kernel
theorem dX7_tests_87 : decode cX7_tests 87 = .ok (.aload_n 0, 1) := by decide +kernel
theorem dX7_tests_88 : decode cX7_tests 88 = .ok (.getfield 7, 3) := by decide +kernel
theorem dX7_tests_91 : decode cX7_tests 91 = .ok (.aload_n 0, 1) := by decide +kernel
theorem dX7_tests_92 : decode cX7_tests 92 = .ok (.iload_n 3, 1) := by decide +kernel
theorem dX7_tests_93 : decode cX7_tests 93 = .ok (.bipush 8, 2) := by decide +kernel
theorem dX7_tests_95 : decode cX7_tests 95 = .ok (.invokevirtual 45, 3) := by decide +kernel
theorem dX7_tests_98 : decode cX7_tests 98 = .ok (.iload 5, 2) := by decide +kernel
theorem dX7_tests_100 : decode cX7_tests 100 = .ok (.iastore, 1) := by decide +kernel
theorem dX7_tests_101 : decode cX7_tests 101 = .ok (.aload_n 0, 1) := by decide +kernel
theorem dX7_tests_102 : decode cX7_tests 102 = .ok (.iload_n 3, 1) := by decide +kernel
theorem dX7_tests_103 : decode cX7_tests 103 = .ok (.iconst 5, 1) := by decide +kernel
theorem dX7_tests_104 : decode cX7_tests 104 = .ok (.aload_n 0, 1) := by decide +kernel
theorem dX7_tests_105 : decode cX7_tests 105 = .ok (.iload_n 3, 1) := by decide +kernel
theorem dX7_tests_106 : decode cX7_tests 106 = .ok (.iconst 2, 1) := by decide +kernel
theorem dX7_tests_107 : decode cX7_tests 107 = .ok (.invokevirtual 57, 3) := by decide +kernel
theorem dX7_tests_110 : decode cX7_tests 110 = .ok (.isub, 1) := by decide +kernel
theorem dX7_tests_111 : decode cX7_tests 111 = .ok (.invokevirtual 141, 3) := by decide +kernel
theorem dX7_tests_114 : decode cX7_tests 114 = .ok (.iload_n 2, 1) := by decide +kernel
theorem dX7_tests_115 : decode cX7_tests 115 = .ok (.iload 5, 2) := by decide +kernel
theorem dX7_tests_117 : decode cX7_tests 117 = .ok (.iload 4, 2) := by decide +kernel
theorem dX7_tests_119 : decode cX7_tests 119 = .ok (.if_icmp .ne 7, 3) := by decide +kernel
theorem dX7_tests_122 : decode cX7_tests 122 = .ok (.iconst 1, 1) := by decide +kernel
theorem dX7_tests_123 : decode cX7_tests 123 = .ok (.goto 4, 3) := by decide +kernel
theorem dX7_tests_126 : decode cX7_tests 126 = .ok (.iconst 0, 1) := by decide +kernel
theorem dX7_tests_127 : decode cX7_tests 127 = .ok (.iadd, 1) := by decide +kernel
theorem dX7_tests_128 : decode cX7_tests 128 = .ok (.istore_n 2, 1) := by decide +kernel
theorem dX7_tests_129 : decode cX7_tests 129 = .ok (.aload_n 0, 1) := by decide +kernel
theorem dX7_tests_130 : decode cX7_tests 130 = .ok (.getfield 7, 3) := by decide +kernel
theorem dX7_tests_133 : decode cX7_tests 133 = .ok (.iload 5, 2) := by decide +kernel
theorem dX7_tests_135 : decode cX7_tests 135 = .ok (.iload 4, 2) := by decide +kernel
theorem dX7_tests_137 : decode cX7_tests 137 = .ok (.if_icmp .ne 8, 3) := by decide +kernel
theorem dX7_tests_140 : decode cX7_tests 140 = .ok (.bipush 109, 2) := by decide +kernel
theorem dX7_tests_142 : decode cX7_tests 142 = .ok (.goto 5, 3) := by decide +kernel
theorem dX7_tests_145 : decode cX7_tests 145 = .ok (.bipush 110, 2) := by decide +kernel
theorem dX7_tests_147 : decode cX7_tests 147 = .ok (.dup2, 1) := by decide +kernel
theorem dX7_tests_148 : decode cX7_tests 148 = .ok (.iaload, 1) := by decide +kernel
theorem dX7_tests_149 : decode cX7_tests 149 = .ok (.iconst 1, 1) := by decide +kernel
theorem dX7_tests_150 : decode cX7_tests 150 = .ok (.iadd, 1) := by decide +kernel
theorem dX7_tests_151 : decode cX7_tests 151 = .ok (.iastore, 1) := by decide +kernel
theorem dX7_tests_152 : decode cX7_tests 152 = .ok (.iinc 3 1, 3) := by decide +kernel
theorem dX7_tests_155 : decode cX7_tests 155 = .ok (.goto (-151), 3) := by decide +kernel
theorem dX7_tests_158 : decode cX7_tests 158 = .ok (.iload_n 2, 1) := by decide +kernel
theorem dX7_tests_159 : decode cX7_tests 159 = .ok (.ireturn, 1) := by decide +kernel
theorem dX7_isSet_0 : decode cX7_isSet 0 = .ok (.iload_n 1, 1) := by decide +kernel
theorem dX7_isSet_1 : decode cX7_isSet 1 = .ok (.iconst 0, 1) := by decide +kernel
theorem dX7_isSet_2 : decode cX7_isSet 2 = .ok (.iconst 1, 1) := by decide +kernel
theorem dX7_isSet_3 : decode cX7_isSet 3 = .ok (.aload_n 0, 1) := by decide +kernel
theorem dX7_isSet_4 : decode cX7_isSet 4 = .ok (.invokevirtual 49, 3) := by decide +kernel
theorem dX7_isSet_7 : decode cX7_isSet 7 = .ok (.ishl, 1) := by decide +kernel
theorem dX7_isSet_8 : decode cX7_isSet 8 = .ok (.iconst 1, 1) := by decide +kernel
theorem dX7_isSet_9 : decode cX7_isSet 9 = .ok (.isub, 1) := by decide +kernel
theorem dX7_isSet_10 : decode cX7_isSet 10 = .ok (.invokestatic 53, 3) := by decide +kernel
theorem dX7_isSet_13 : decode cX7_isSet 13 = .ok (.ireturn, 1) := by decide +kernel
theorem dX7_laysPlaces_0 : decode cX7_laysPlaces 0 = .ok (.iconst 0, 1) := by decide +kernel
theorem dX7_laysPlaces_1 : decode cX7_laysPlaces 1 = .ok (.istore_n 1, 1) := by decide +kernel
theorem dX7_laysPlaces_2 : decode cX7_laysPlaces 2 = .ok (.iload_n 1, 1) := by decide +kernel
theorem dX7_laysPlaces_3 : decode cX7_laysPlaces 3 = .ok (.sipush 200, 3) := by decide +kernel
theorem dX7_laysPlaces_6 : decode cX7_laysPlaces 6 = .ok (.if_icmp .gt 72, 3) := by decide +kernel
theorem dX7_laysPlaces_9 : decode cX7_laysPlaces 9 = .ok (.aload_n 0, 1) := by decide +kernel
theorem dX7_laysPlaces_10 : decode cX7_laysPlaces 10 = .ok (.getfield 22, 3) := by decide +kernel
theorem dX7_laysPlaces_13 : decode cX7_laysPlaces 13 = .ok (.iload_n 1, 1) := by decide +kernel
theorem dX7_laysPlaces_14 : decode cX7_laysPlaces 14 = .ok (.iconst 0, 1) := by decide +kernel
theorem dX7_laysPlaces_15 : decode cX7_laysPlaces 15 = .ok (.iastore, 1) := by decide +kernel
theorem dX7_laysPlaces_16 : decode cX7_laysPlaces 16 = .ok (.aload_n 0, 1) := by decide +kernel
theorem dX7_laysPlaces_17 : decode cX7_laysPlaces 17 = .ok (.getfield 25, 3) := by decide +kernel
theorem dX7_laysPlaces_20 : decode cX7_laysPlaces 20 = .ok (.iload_n 1, 1) := by decide +kernel
theorem dX7_laysPlaces_21 : decode cX7_laysPlaces 21 = .ok (.iconst 0, 1) := by decide +kernel
theorem dX7_laysPlaces_22 : decode cX7_laysPlaces 22 = .ok (.bastore, 1) := by decide +kernel
theorem dX7_laysPlaces_23 : decode cX7_laysPlaces 23 = .ok (.iconst 0, 1) := by decide +kernel
theorem dX7_laysPlaces_24 : decode cX7_laysPlaces 24 = .ok (.istore_n 2, 1) := by decide +kernel
theorem dX7_laysPlaces_25 : decode cX7_laysPlaces 25 = .ok (.iload_n 2, 1) := by decide +kernel
theorem dX7_laysPlaces_26 : decode cX7_laysPlaces 26 = .ok (.aload_n 0, 1) := by decide +kernel
theorem dX7_laysPlaces_27 : decode cX7_laysPlaces 27 = .ok (.invokevirtual 49, 3) := by decide +kernel
theorem dX7_laysPlaces_30 : decode cX7_laysPlaces 30 = .ok (.if_icmp .ge 42, 3) := by decide +kernel
theorem dX7_laysPlaces_33 : decode cX7_laysPlaces 33 = .ok (.aload_n 0, 1) := by decide +kernel
theorem dX7_laysPlaces_34 : decode cX7_laysPlaces 34 = .ok (.getfield 22, 3) := by decide +kernel
theorem dX7_laysPlaces_37 : decode cX7_laysPlaces 37 = .ok (.iload_n 1, 1) := by decide +kernel
theorem dX7_laysPlaces_38 : decode cX7_laysPlaces 38 = .ok (.dup2, 1) := by decide +kernel
theorem dX7_laysPlaces_39 : decode cX7_laysPlaces 39 = .ok (.iaload, 1) := by decide +kernel
theorem dX7_laysPlaces_40 : decode cX7_laysPlaces 40 = .ok (.aload_n 0, 1) := by decide +kernel
theorem dX7_laysPlaces_41 : decode cX7_laysPlaces 41 = .ok (.iload_n 2, 1) := by decide +kernel
theorem dX7_laysPlaces_42 : decode cX7_laysPlaces 42 = .ok (.invokevirtual 144, 3) := by decide +kernel
theorem dX7_laysPlaces_45 : decode cX7_laysPlaces 45 = .ok (.ifCond .eq 18, 3) := by decide +kernel
theorem dX7_laysPlaces_48 : decode cX7_laysPlaces 48 = .ok (.aload_n 0, 1) := by decide +kernel
theorem dX7_laysPlaces_49 : decode cX7_laysPlaces 49 = .ok (.iload_n 2, 1) := by decide +kernel
theorem dX7_laysPlaces_50 : decode cX7_laysPlaces 50 = .ok (.iload_n 1, 1) := by decide +kernel
theorem dX7_laysPlaces_51 : decode cX7_laysPlaces 51 = .ok (.invokevirtual 154, 3) := by decide +kernel
theorem dX7_laysPlaces_54 : decode cX7_laysPlaces 54 = .ok (.ifCond .eq 9, 3) := by decide +kernel
theorem dX7_laysPlaces_57 : decode cX7_laysPlaces 57 = .ok (.iconst 1, 1) := by decide +kernel
theorem dX7_laysPlaces_58 : decode cX7_laysPlaces 58 = .ok (.iload_n 2, 1) := by decide +kernel
theorem dX7_laysPlaces_59 : decode cX7_laysPlaces 59 = .ok (.ishl, 1) := by decide +kernel
theorem dX7_laysPlaces_60 : decode cX7_laysPlaces 60 = .ok (.goto 4, 3) := by decide +kernel
theorem dX7_laysPlaces_63 : decode cX7_laysPlaces 63 = .ok (.iconst 0, 1) := by decide +kernel
theorem dX7_laysPlaces_64 : decode cX7_laysPlaces 64 = .ok (.ior, 1) := by decide +kernel
theorem dX7_laysPlaces_65 : decode cX7_laysPlaces 65 = .ok (.iastore, 1) := by decide +kernel
theorem dX7_laysPlaces_66 : decode cX7_laysPlaces 66 = .ok (.iinc 2 1, 3) := by decide +kernel
theorem dX7_laysPlaces_69 : decode cX7_laysPlaces 69 = .ok (.goto (-44), 3) := by decide +kernel
theorem dX7_laysPlaces_72 : decode cX7_laysPlaces 72 = .ok (.iinc 1 1, 3) := by decide +kernel
theorem dX7_laysPlaces_75 : decode cX7_laysPlaces 75 = .ok (.goto (-73), 3) := by decide +kernel
theorem dX7_laysPlaces_78 : decode cX7_laysPlaces 78 = .ok (.iconst 0, 1) := by decide +kernel
theorem dX7_laysPlaces_79 : decode cX7_laysPlaces 79 = .ok (.istore_n 1, 1) := by decide +kernel
theorem dX7_laysPlaces_80 : decode cX7_laysPlaces 80 = .ok (.iload_n 1, 1) := by decide +kernel
theorem dX7_laysPlaces_81 : decode cX7_laysPlaces 81 = .ok (.aload_n 0, 1) := by decide +kernel
theorem dX7_laysPlaces_82 : decode cX7_laysPlaces 82 = .ok (.getfield 7, 3) := by decide +kernel
theorem dX7_laysPlaces_85 : decode cX7_laysPlaces 85 = .ok (.bipush 91, 2) := by decide +kernel
theorem dX7_laysPlaces_87 : decode cX7_laysPlaces 87 = .ok (.iaload, 1) := by decide +kernel
theorem dX7_laysPlaces_88 : decode cX7_laysPlaces 88 = .ok (.if_icmp .ge 82, 3) := by decide +kernel
theorem dX7_laysPlaces_91 : decode cX7_laysPlaces 91 = .ok (.aload_n 0, 1) := by decide +kernel
theorem dX7_laysPlaces_92 : decode cX7_laysPlaces 92 = .ok (.iload_n 1, 1) := by decide +kernel
theorem dX7_laysPlaces_93 : decode cX7_laysPlaces 93 = .ok (.invokevirtual 158, 3) := by decide +kernel
theorem dX7_laysPlaces_96 : decode cX7_laysPlaces 96 = .ok (.ifCond .ne 7, 3) := by decide +kernel
theorem dX7_laysPlaces_99 : decode cX7_laysPlaces 99 = .ok (.iconst 1, 1) := by decide +kernel
theorem dX7_laysPlaces_100 : decode cX7_laysPlaces 100 = .ok (.goto 4, 3) := by decide +kernel
theorem dX7_laysPlaces_103 : decode cX7_laysPlaces 103 = .ok (.iconst 0, 1) := by decide +kernel
theorem dX7_laysPlaces_104 : decode cX7_laysPlaces 104 = .ok (.istore_n 2, 1) := by decide +kernel
theorem dX7_laysPlaces_105 : decode cX7_laysPlaces 105 = .ok (.aload_n 0, 1) := by decide +kernel
theorem dX7_laysPlaces_106 : decode cX7_laysPlaces 106 = .ok (.getfield 7, 3) := by decide +kernel
theorem dX7_laysPlaces_109 : decode cX7_laysPlaces 109 = .ok (.bipush 92, 2) := by decide +kernel
theorem dX7_laysPlaces_111 : decode cX7_laysPlaces 111 = .ok (.iconst 2, 1) := by decide +kernel
theorem dX7_laysPlaces_112 : decode cX7_laysPlaces 112 = .ok (.iload_n 1, 1) := by decide +kernel
theorem dX7_laysPlaces_113 : decode cX7_laysPlaces 113 = .ok (.imul, 1) := by decide +kernel
theorem dX7_laysPlaces_114 : decode cX7_laysPlaces 114 = .ok (.iadd, 1) := by decide +kernel
theorem dX7_laysPlaces_115 : decode cX7_laysPlaces 115 = .ok (.iaload, 1) := by decide +kernel
theorem dX7_laysPlaces_116 : decode cX7_laysPlaces 116 = .ok (.istore_n 3, 1) := by decide +kernel
theorem dX7_laysPlaces_117 : decode cX7_laysPlaces 117 = .ok (.iload_n 3, 1) := by decide +kernel
theorem dX7_laysPlaces_118 : decode cX7_laysPlaces 118 = .ok (.aload_n 0, 1) := by decide +kernel
theorem dX7_laysPlaces_119 : decode cX7_laysPlaces 119 = .ok (.getfield 7, 3) := by decide +kernel
theorem dX7_laysPlaces_122 : decode cX7_laysPlaces 122 = .ok (.bipush 92, 2) := by decide +kernel
theorem dX7_laysPlaces_124 : decode cX7_laysPlaces 124 = .ok (.iconst 2, 1) := by decide +kernel
theorem dX7_laysPlaces_125 : decode cX7_laysPlaces 125 = .ok (.iload_n 1, 1) := by decide +kernel
theorem dX7_laysPlaces_126 : decode cX7_laysPlaces 126 = .ok (.imul, 1) := by decide +kernel
theorem dX7_laysPlaces_127 : decode cX7_laysPlaces 127 = .ok (.iadd, 1) := by decide +kernel
theorem dX7_laysPlaces_128 : decode cX7_laysPlaces 128 = .ok (.iconst 1, 1) := by decide +kernel
theorem dX7_laysPlaces_129 : decode cX7_laysPlaces 129 = .ok (.iadd, 1) := by decide +kernel
theorem dX7_laysPlaces_130 : decode cX7_laysPlaces 130 = .ok (.iaload, 1) := by decide +kernel
theorem dX7_laysPlaces_131 : decode cX7_laysPlaces 131 = .ok (.if_icmp .gt 33, 3) := by decide +kernel
theorem dX7_laysPlaces_134 : decode cX7_laysPlaces 134 = .ok (.aload_n 0, 1) := by decide +kernel
theorem dX7_laysPlaces_135 : decode cX7_laysPlaces 135 = .ok (.getfield 25, 3) := by decide +kernel
theorem dX7_laysPlaces_138 : decode cX7_laysPlaces 138 = .ok (.iload_n 3, 1) := by decide +kernel
theorem dX7_laysPlaces_139 : decode cX7_laysPlaces 139 = .ok (.aload_n 0, 1) := by decide +kernel
theorem dX7_laysPlaces_140 : decode cX7_laysPlaces 140 = .ok (.getfield 25, 3) := by decide +kernel
theorem dX7_laysPlaces_143 : decode cX7_laysPlaces 143 = .ok (.iload_n 3, 1) := by decide +kernel
theorem dX7_laysPlaces_144 : decode cX7_laysPlaces 144 = .ok (.baload, 1) := by decide +kernel
theorem dX7_laysPlaces_145 : decode cX7_laysPlaces 145 = .ok (.ifCond .ne 7, 3) := by decide +kernel
theorem dX7_laysPlaces_148 : decode cX7_laysPlaces 148 = .ok (.iload_n 2, 1) := by decide +kernel
theorem dX7_laysPlaces_149 : decode cX7_laysPlaces 149 = .ok (.ifCond .eq 7, 3) := by decide +kernel
theorem dX7_laysPlaces_152 : decode cX7_laysPlaces 152 = .ok (.iconst 1, 1) := by decide +kernel
theorem dX7_laysPlaces_153 : decode cX7_laysPlaces 153 = .ok (.goto 4, 3) := by decide +kernel
theorem dX7_laysPlaces_156 : decode cX7_laysPlaces 156 = .ok (.iconst 0, 1) := by decide +kernel
theorem dX7_laysPlaces_157 : decode cX7_laysPlaces 157 = .ok (.bastore, 1) := by decide +kernel
theorem dX7_laysPlaces_158 : decode cX7_laysPlaces 158 = .ok (.iinc 3 1, 3) := by decide +kernel
theorem dX7_laysPlaces_161 : decode cX7_laysPlaces 161 = .ok (.goto (-44), 3) := by decide +kernel
theorem dX7_laysPlaces_164 : decode cX7_laysPlaces 164 = .ok (.iinc 1 1, 3) := by decide +kernel
theorem dX7_laysPlaces_167 : decode cX7_laysPlaces 167 = .ok (.goto (-87), 3) := by decide +kernel
theorem dX7_laysPlaces_170 : decode cX7_laysPlaces 170 = .ok (.return_, 1) := by decide +kernel
theorem dX7_unlit_0 : decode cX7_unlit 0 = .ok (.iconst 0, 1) := by decide +kernel
theorem dX7_unlit_1 : decode cX7_unlit 1 = .ok (.istore_n 2, 1) := by decide +kernel
theorem dX7_unlit_2 : decode cX7_unlit 2 = .ok (.aload_n 0, 1) := by decide +kernel
theorem dX7_unlit_3 : decode cX7_unlit 3 = .ok (.getfield 7, 3) := by decide +kernel
theorem dX7_unlit_6 : decode cX7_unlit 6 = .ok (.bipush 92, 2) := by decide +kernel
theorem dX7_unlit_8 : decode cX7_unlit 8 = .ok (.iconst 2, 1) := by decide +kernel
theorem dX7_unlit_9 : decode cX7_unlit 9 = .ok (.iload_n 1, 1) := by decide +kernel
theorem dX7_unlit_10 : decode cX7_unlit 10 = .ok (.imul, 1) := by decide +kernel
theorem dX7_unlit_11 : decode cX7_unlit 11 = .ok (.iadd, 1) := by decide +kernel
theorem dX7_unlit_12 : decode cX7_unlit 12 = .ok (.iaload, 1) := by decide +kernel
theorem dX7_unlit_13 : decode cX7_unlit 13 = .ok (.istore_n 3, 1) := by decide +kernel
theorem dX7_unlit_14 : decode cX7_unlit 14 = .ok (.iload_n 3, 1) := by decide +kernel
theorem dX7_unlit_15 : decode cX7_unlit 15 = .ok (.aload_n 0, 1) := by decide +kernel
theorem dX7_unlit_16 : decode cX7_unlit 16 = .ok (.getfield 7, 3) := by decide +kernel
theorem dX7_unlit_19 : decode cX7_unlit 19 = .ok (.bipush 92, 2) := by decide +kernel
theorem dX7_unlit_21 : decode cX7_unlit 21 = .ok (.iconst 2, 1) := by decide +kernel
theorem dX7_unlit_22 : decode cX7_unlit 22 = .ok (.iload_n 1, 1) := by decide +kernel
theorem dX7_unlit_23 : decode cX7_unlit 23 = .ok (.imul, 1) := by decide +kernel
theorem dX7_unlit_24 : decode cX7_unlit 24 = .ok (.iadd, 1) := by decide +kernel
theorem dX7_unlit_25 : decode cX7_unlit 25 = .ok (.iconst 1, 1) := by decide +kernel
theorem dX7_unlit_26 : decode cX7_unlit 26 = .ok (.iadd, 1) := by decide +kernel
theorem dX7_unlit_27 : decode cX7_unlit 27 = .ok (.iaload, 1) := by decide +kernel
theorem dX7_unlit_28 : decode cX7_unlit 28 = .ok (.if_icmp .gt 26, 3) := by decide +kernel
theorem dX7_unlit_31 : decode cX7_unlit 31 = .ok (.iload_n 2, 1) := by decide +kernel
theorem dX7_unlit_32 : decode cX7_unlit 32 = .ok (.aload_n 0, 1) := by decide +kernel
theorem dX7_unlit_33 : decode cX7_unlit 33 = .ok (.getfield 22, 3) := by decide +kernel
theorem dX7_unlit_36 : decode cX7_unlit 36 = .ok (.iload_n 3, 1) := by decide +kernel
theorem dX7_unlit_37 : decode cX7_unlit 37 = .ok (.iaload, 1) := by decide +kernel
theorem dX7_unlit_38 : decode cX7_unlit 38 = .ok (.ifCond .ne 7, 3) := by decide +kernel
theorem dX7_unlit_41 : decode cX7_unlit 41 = .ok (.iconst 1, 1) := by decide +kernel
theorem dX7_unlit_42 : decode cX7_unlit 42 = .ok (.goto 4, 3) := by decide +kernel
theorem dX7_unlit_45 : decode cX7_unlit 45 = .ok (.iconst 0, 1) := by decide +kernel
theorem dX7_unlit_46 : decode cX7_unlit 46 = .ok (.iadd, 1) := by decide +kernel
theorem dX7_unlit_47 : decode cX7_unlit 47 = .ok (.istore_n 2, 1) := by decide +kernel
theorem dX7_unlit_48 : decode cX7_unlit 48 = .ok (.iinc 3 1, 3) := by decide +kernel
theorem dX7_unlit_51 : decode cX7_unlit 51 = .ok (.goto (-37), 3) := by decide +kernel
theorem dX7_unlit_54 : decode cX7_unlit 54 = .ok (.iload_n 2, 1) := by decide +kernel
theorem dX7_unlit_55 : decode cX7_unlit 55 = .ok (.ireturn, 1) := by decide +kernel
theorem dX7_isAllowed_0 : decode cX7_isAllowed 0 = .ok (.iconst 1, 1) := by decide +kernel
theorem dX7_isAllowed_1 : decode cX7_isAllowed 1 = .ok (.istore_n 2, 1) := by decide +kernel
theorem dX7_isAllowed_2 : decode cX7_isAllowed 2 = .ok (.iconst 0, 1) := by decide +kernel
theorem dX7_isAllowed_3 : decode cX7_isAllowed 3 = .ok (.istore_n 3, 1) := by decide +kernel
theorem dX7_isAllowed_4 : decode cX7_isAllowed 4 = .ok (.iload_n 3, 1) := by decide +kernel
theorem dX7_isAllowed_5 : decode cX7_isAllowed 5 = .ok (.sipush 200, 3) := by decide +kernel
theorem dX7_isAllowed_8 : decode cX7_isAllowed 8 = .ok (.if_icmp .gt 41, 3) := by decide +kernel
theorem dX7_isAllowed_11 : decode cX7_isAllowed 11 = .ok (.iload_n 2, 1) := by decide +kernel
theorem dX7_isAllowed_12 : decode cX7_isAllowed 12 = .ok (.ifCond .eq 37, 3) := by decide +kernel
theorem dX7_isAllowed_15 : decode cX7_isAllowed 15 = .ok (.aload_n 0, 1) := by decide +kernel
theorem dX7_isAllowed_16 : decode cX7_isAllowed 16 = .ok (.getfield 25, 3) := by decide +kernel
theorem dX7_isAllowed_19 : decode cX7_isAllowed 19 = .ok (.iload_n 3, 1) := by decide +kernel
theorem dX7_isAllowed_20 : decode cX7_isAllowed 20 = .ok (.baload, 1) := by decide +kernel
theorem dX7_isAllowed_21 : decode cX7_isAllowed 21 = .ok (.ifCond .eq 16, 3) := by decide +kernel
theorem dX7_isAllowed_24 : decode cX7_isAllowed 24 = .ok (.aload_n 0, 1) := by decide +kernel
theorem dX7_isAllowed_25 : decode cX7_isAllowed 25 = .ok (.getfield 22, 3) := by decide +kernel
theorem dX7_isAllowed_28 : decode cX7_isAllowed 28 = .ok (.iload_n 3, 1) := by decide +kernel
theorem dX7_isAllowed_29 : decode cX7_isAllowed 29 = .ok (.iaload, 1) := by decide +kernel
theorem dX7_isAllowed_30 : decode cX7_isAllowed 30 = .ok (.iload_n 1, 1) := by decide +kernel
theorem dX7_isAllowed_31 : decode cX7_isAllowed 31 = .ok (.iconst (-1), 1) := by decide +kernel
theorem dX7_isAllowed_32 : decode cX7_isAllowed 32 = .ok (.ixor, 1) := by decide +kernel
theorem dX7_isAllowed_33 : decode cX7_isAllowed 33 = .ok (.iand, 1) := by decide +kernel
theorem dX7_isAllowed_34 : decode cX7_isAllowed 34 = .ok (.ifCond .eq 7, 3) := by decide +kernel
theorem dX7_isAllowed_37 : decode cX7_isAllowed 37 = .ok (.iconst 1, 1) := by decide +kernel
theorem dX7_isAllowed_38 : decode cX7_isAllowed 38 = .ok (.goto 4, 3) := by decide +kernel
theorem dX7_isAllowed_41 : decode cX7_isAllowed 41 = .ok (.iconst 0, 1) := by decide +kernel
theorem dX7_isAllowed_42 : decode cX7_isAllowed 42 = .ok (.istore_n 2, 1) := by decide +kernel
theorem dX7_isAllowed_43 : decode cX7_isAllowed 43 = .ok (.iinc 3 1, 3) := by decide +kernel
theorem dX7_isAllowed_46 : decode cX7_isAllowed 46 = .ok (.goto (-42), 3) := by decide +kernel
theorem dX7_isAllowed_49 : decode cX7_isAllowed 49 = .ok (.iload_n 2, 1) := by decide +kernel
theorem dX7_isAllowed_50 : decode cX7_isAllowed 50 = .ok (.ireturn, 1) := by decide +kernel
theorem dX7_allowed_0 : decode cX7_allowed 0 = .ok (.aload_n 0, 1) := by decide +kernel
theorem dX7_allowed_1 : decode cX7_allowed 1 = .ok (.iload_n 1, 1) := by decide +kernel
theorem dX7_allowed_2 : decode cX7_allowed 2 = .ok (.invokevirtual 161, 3) := by decide +kernel
theorem dX7_allowed_5 : decode cX7_allowed 5 = .ok (.ifCond .ne 5, 3) := by decide +kernel
theorem dX7_allowed_8 : decode cX7_allowed 8 = .ok (.iconst (-1), 1) := by decide +kernel
theorem dX7_allowed_9 : decode cX7_allowed 9 = .ok (.ireturn, 1) := by decide +kernel
theorem dX7_allowed_10 : decode cX7_allowed 10 = .ok (.aload_n 0, 1) := by decide +kernel
theorem dX7_allowed_11 : decode cX7_allowed 11 = .ok (.invokevirtual 164, 3) := by decide +kernel
theorem dX7_allowed_14 : decode cX7_allowed 14 = .ok (.aload_n 0, 1) := by decide +kernel
theorem dX7_allowed_15 : decode cX7_allowed 15 = .ok (.iload_n 1, 1) := by decide +kernel
theorem dX7_allowed_16 : decode cX7_allowed 16 = .ok (.invokevirtual 167, 3) := by decide +kernel
theorem dX7_allowed_19 : decode cX7_allowed 19 = .ok (.ifCond .eq 7, 3) := by decide +kernel
theorem dX7_allowed_22 : decode cX7_allowed 22 = .ok (.iconst 1, 1) := by decide +kernel
theorem dX7_allowed_23 : decode cX7_allowed 23 = .ok (.goto 4, 3) := by decide +kernel
theorem dX7_allowed_26 : decode cX7_allowed 26 = .ok (.iconst 0, 1) := by decide +kernel
theorem dX7_allowed_27 : decode cX7_allowed 27 = .ok (.ireturn, 1) := by decide +kernel
theorem dX7_test_0 : decode cX7_test 0 = .ok (.aload_n 0, 1) := by decide +kernel
theorem dX7_test_1 : decode cX7_test 1 = .ok (.iload_n 1, 1) := by decide +kernel
theorem dX7_test_2 : decode cX7_test 2 = .ok (.invokevirtual 161, 3) := by decide +kernel
theorem dX7_test_5 : decode cX7_test 5 = .ok (.ifCond .eq 7, 3) := by decide +kernel
theorem dX7_test_8 : decode cX7_test 8 = .ok (.iload_n 1, 1) := by decide +kernel
theorem dX7_test_9 : decode cX7_test 9 = .ok (.ifCond .ne 5, 3) := by decide +kernel
theorem dX7_test_12 : decode cX7_test 12 = .ok (.iconst (-1), 1) := by decide +kernel
theorem dX7_test_13 : decode cX7_test 13 = .ok (.ireturn, 1) := by decide +kernel
theorem dX7_test_14 : decode cX7_test 14 = .ok (.aload_n 0, 1) := by decide +kernel
theorem dX7_test_15 : decode cX7_test 15 = .ok (.invokevirtual 164, 3) := by decide +kernel
theorem dX7_test_18 : decode cX7_test 18 = .ok (.iload_n 2, 1) := by decide +kernel
theorem dX7_test_19 : decode cX7_test 19 = .ok (.ifCond .ne 14, 3) := by decide +kernel
theorem dX7_test_22 : decode cX7_test 22 = .ok (.aload_n 0, 1) := by decide +kernel
theorem dX7_test_23 : decode cX7_test 23 = .ok (.iload_n 1, 1) := by decide +kernel
theorem dX7_test_24 : decode cX7_test 24 = .ok (.invokevirtual 167, 3) := by decide +kernel
theorem dX7_test_27 : decode cX7_test 27 = .ok (.ifCond .ne 6, 3) := by decide +kernel
theorem dX7_test_30 : decode cX7_test 30 = .ok (.bipush (-2), 2) := by decide +kernel
theorem dX7_test_32 : decode cX7_test 32 = .ok (.ireturn, 1) := by decide +kernel
theorem dX7_test_33 : decode cX7_test 33 = .ok (.aload_n 0, 1) := by decide +kernel
theorem dX7_test_34 : decode cX7_test 34 = .ok (.invokevirtual 87, 3) := by decide +kernel
theorem dX7_test_37 : decode cX7_test 37 = .ok (.aload_n 0, 1) := by decide +kernel
theorem dX7_test_38 : decode cX7_test 38 = .ok (.iload_n 1, 1) := by decide +kernel
theorem dX7_test_39 : decode cX7_test 39 = .ok (.invokevirtual 170, 3) := by decide +kernel
theorem dX7_test_42 : decode cX7_test 42 = .ok (.ireturn, 1) := by decide +kernel
theorem dX7_laysPlan_0 : decode cX7_laysPlan 0 = .ok (.aload_n 0, 1) := by decide +kernel
theorem dX7_laysPlan_1 : decode cX7_laysPlan 1 = .ok (.invokevirtual 164, 3) := by decide +kernel
theorem dX7_laysPlan_4 : decode cX7_laysPlan 4 = .ok (.iconst 1, 1) := by decide +kernel
theorem dX7_laysPlan_5 : decode cX7_laysPlan 5 = .ok (.aload_n 0, 1) := by decide +kernel
theorem dX7_laysPlan_6 : decode cX7_laysPlan 6 = .ok (.invokevirtual 49, 3) := by decide +kernel
theorem dX7_laysPlan_9 : decode cX7_laysPlan 9 = .ok (.ishl, 1) := by decide +kernel
theorem dX7_laysPlan_10 : decode cX7_laysPlan 10 = .ok (.istore_n 1, 1) := by decide +kernel
theorem dX7_laysPlan_11 : decode cX7_laysPlan 11 = .ok (.iconst 0, 1) := by decide +kernel
theorem dX7_laysPlan_12 : decode cX7_laysPlan 12 = .ok (.istore_n 2, 1) := by decide +kernel
theorem dX7_laysPlan_13 : decode cX7_laysPlan 13 = .ok (.iload_n 2, 1) := by decide +kernel
theorem dX7_laysPlan_14 : decode cX7_laysPlan 14 = .ok (.iload_n 1, 1) := by decide +kernel
theorem dX7_laysPlan_15 : decode cX7_laysPlan 15 = .ok (.if_icmp .ge 20, 3) := by decide +kernel
theorem dX7_laysPlan_18 : decode cX7_laysPlan 18 = .ok (.aload_n 0, 1) := by decide +kernel
theorem dX7_laysPlan_19 : decode cX7_laysPlan 19 = .ok (.getfield 35, 3) := by decide +kernel
theorem dX7_laysPlan_22 : decode cX7_laysPlan 22 = .ok (.iload_n 2, 1) := by decide +kernel
theorem dX7_laysPlan_23 : decode cX7_laysPlan 23 = .ok (.aload_n 0, 1) := by decide +kernel
theorem dX7_laysPlan_24 : decode cX7_laysPlan 24 = .ok (.iload_n 2, 1) := by decide +kernel
theorem dX7_laysPlan_25 : decode cX7_laysPlan 25 = .ok (.invokevirtual 167, 3) := by decide +kernel
theorem dX7_laysPlan_28 : decode cX7_laysPlan 28 = .ok (.bastore, 1) := by decide +kernel
theorem dX7_laysPlan_29 : decode cX7_laysPlan 29 = .ok (.iinc 2 1, 3) := by decide +kernel
theorem dX7_laysPlan_32 : decode cX7_laysPlan 32 = .ok (.goto (-19), 3) := by decide +kernel
theorem dX7_laysPlan_35 : decode cX7_laysPlan 35 = .ok (.aload_n 0, 1) := by decide +kernel
theorem dX7_laysPlan_36 : decode cX7_laysPlan 36 = .ok (.getfield 29, 3) := by decide +kernel
theorem dX7_laysPlan_39 : decode cX7_laysPlan 39 = .ok (.iconst 0, 1) := by decide +kernel
theorem dX7_laysPlan_40 : decode cX7_laysPlan 40 = .ok (.iconst 0, 1) := by decide +kernel
theorem dX7_laysPlan_41 : decode cX7_laysPlan 41 = .ok (.iastore, 1) := by decide +kernel
theorem dX7_laysPlan_42 : decode cX7_laysPlan 42 = .ok (.iconst 1, 1) := by decide +kernel
theorem dX7_laysPlan_43 : decode cX7_laysPlan 43 = .ok (.istore_n 2, 1) := by decide +kernel
theorem dX7_laysPlan_44 : decode cX7_laysPlan 44 = .ok (.iload_n 2, 1) := by decide +kernel
theorem dX7_laysPlan_45 : decode cX7_laysPlan 45 = .ok (.iload_n 1, 1) := by decide +kernel
theorem dX7_laysPlan_46 : decode cX7_laysPlan 46 = .ok (.if_icmp .ge 131, 3) := by decide +kernel
theorem dX7_laysPlan_49 : decode cX7_laysPlan 49 = .ok (.aload_n 0, 1) := by decide +kernel
theorem dX7_laysPlan_50 : decode cX7_laysPlan 50 = .ok (.getfield 29, 3) := by decide +kernel
theorem dX7_laysPlan_53 : decode cX7_laysPlan 53 = .ok (.iload_n 2, 1) := by decide +kernel
theorem dX7_laysPlan_54 : decode cX7_laysPlan 54 = .ok (.bipush 99, 2) := by decide +kernel
theorem dX7_laysPlan_56 : decode cX7_laysPlan 56 = .ok (.iastore, 1) := by decide +kernel
theorem dX7_laysPlan_57 : decode cX7_laysPlan 57 = .ok (.aload_n 0, 1) := by decide +kernel
theorem dX7_laysPlan_58 : decode cX7_laysPlan 58 = .ok (.getfield 32, 3) := by decide +kernel
theorem dX7_laysPlan_61 : decode cX7_laysPlan 61 = .ok (.iload_n 2, 1) := by decide +kernel
theorem dX7_laysPlan_62 : decode cX7_laysPlan 62 = .ok (.iconst 0, 1) := by decide +kernel
theorem dX7_laysPlan_63 : decode cX7_laysPlan 63 = .ok (.iastore, 1) := by decide +kernel
theorem dX7_laysPlan_64 : decode cX7_laysPlan 64 = .ok (.iload_n 2, 1) := by decide +kernel
theorem dX7_laysPlan_65 : decode cX7_laysPlan 65 = .ok (.iload_n 2, 1) := by decide +kernel
theorem dX7_laysPlan_66 : decode cX7_laysPlan 66 = .ok (.ineg, 1) := by decide +kernel
theorem dX7_laysPlan_67 : decode cX7_laysPlan 67 = .ok (.iand, 1) := by decide +kernel
theorem dX7_laysPlan_68 : decode cX7_laysPlan 68 = .ok (.istore_n 3, 1) := by decide +kernel
theorem dX7_laysPlan_69 : decode cX7_laysPlan 69 = .ok (.iload_n 3, 1) := by decide +kernel
theorem dX7_laysPlan_70 : decode cX7_laysPlan 70 = .ok (.istore 4, 2) := by decide +kernel
theorem dX7_laysPlan_72 : decode cX7_laysPlan 72 = .ok (.iload 4, 2) := by decide +kernel
theorem dX7_laysPlan_74 : decode cX7_laysPlan 74 = .ok (.iload_n 2, 1) := by decide +kernel
theorem dX7_laysPlan_75 : decode cX7_laysPlan 75 = .ok (.if_icmp .gt 96, 3) := by decide +kernel
theorem dX7_laysPlan_78 : decode cX7_laysPlan 78 = .ok (.iload 4, 2) := by decide +kernel
theorem dX7_laysPlan_80 : decode cX7_laysPlan 80 = .ok (.iload_n 2, 1) := by decide +kernel
theorem dX7_laysPlan_81 : decode cX7_laysPlan 81 = .ok (.iconst (-1), 1) := by decide +kernel
theorem dX7_laysPlan_82 : decode cX7_laysPlan 82 = .ok (.ixor, 1) := by decide +kernel
theorem dX7_laysPlan_83 : decode cX7_laysPlan 83 = .ok (.iand, 1) := by decide +kernel
theorem dX7_laysPlan_84 : decode cX7_laysPlan 84 = .ok (.ifCond .ne 24, 3) := by decide +kernel
theorem dX7_laysPlan_87 : decode cX7_laysPlan 87 = .ok (.iload 4, 2) := by decide +kernel
theorem dX7_laysPlan_89 : decode cX7_laysPlan 89 = .ok (.iload_n 3, 1) := by decide +kernel
theorem dX7_laysPlan_90 : decode cX7_laysPlan 90 = .ok (.iand, 1) := by decide +kernel
theorem dX7_laysPlan_91 : decode cX7_laysPlan 91 = .ok (.ifCond .eq 17, 3) := by decide +kernel
theorem dX7_laysPlan_94 : decode cX7_laysPlan 94 = .ok (.aload_n 0, 1) := by decide +kernel
theorem dX7_laysPlan_95 : decode cX7_laysPlan 95 = .ok (.getfield 35, 3) := by decide +kernel
theorem dX7_laysPlan_98 : decode cX7_laysPlan 98 = .ok (.iload 4, 2) := by decide +kernel
theorem dX7_laysPlan_100 : decode cX7_laysPlan 100 = .ok (.baload, 1) := by decide +kernel
theorem dX7_laysPlan_101 : decode cX7_laysPlan 101 = .ok (.ifCond .eq 7, 3) := by decide +kernel
theorem dX7_laysPlan_104 : decode cX7_laysPlan 104 = .ok (.iconst 1, 1) := by decide +kernel
theorem dX7_laysPlan_105 : decode cX7_laysPlan 105 = .ok (.goto 4, 3) := by decide +kernel
theorem dX7_laysPlan_108 : decode cX7_laysPlan 108 = .ok (.iconst 0, 1) := by decide +kernel
theorem dX7_laysPlan_109 : decode cX7_laysPlan 109 = .ok (.istore 5, 2) := by decide +kernel
theorem dX7_laysPlan_111 : decode cX7_laysPlan 111 = .ok (.iload 5, 2) := by decide +kernel
theorem dX7_laysPlan_113 : decode cX7_laysPlan 113 = .ok (.ifCond .eq 52, 3) := by decide +kernel
theorem dX7_laysPlan_116 : decode cX7_laysPlan 116 = .ok (.aload_n 0, 1) := by decide +kernel
theorem dX7_laysPlan_117 : decode cX7_laysPlan 117 = .ok (.getfield 29, 3) := by decide +kernel
theorem dX7_laysPlan_120 : decode cX7_laysPlan 120 = .ok (.iload_n 2, 1) := by decide +kernel
theorem dX7_laysPlan_121 : decode cX7_laysPlan 121 = .ok (.iload 4, 2) := by decide +kernel
theorem dX7_laysPlan_123 : decode cX7_laysPlan 123 = .ok (.iconst (-1), 1) := by decide +kernel
theorem dX7_laysPlan_124 : decode cX7_laysPlan 124 = .ok (.ixor, 1) := by decide +kernel
theorem dX7_laysPlan_125 : decode cX7_laysPlan 125 = .ok (.iand, 1) := by decide +kernel
theorem dX7_laysPlan_126 : decode cX7_laysPlan 126 = .ok (.iaload, 1) := by decide +kernel
theorem dX7_laysPlan_127 : decode cX7_laysPlan 127 = .ok (.iconst 1, 1) := by decide +kernel
theorem dX7_laysPlan_128 : decode cX7_laysPlan 128 = .ok (.iadd, 1) := by decide +kernel
theorem dX7_laysPlan_129 : decode cX7_laysPlan 129 = .ok (.aload_n 0, 1) := by decide +kernel
theorem dX7_laysPlan_130 : decode cX7_laysPlan 130 = .ok (.getfield 29, 3) := by decide +kernel
theorem dX7_laysPlan_133 : decode cX7_laysPlan 133 = .ok (.iload_n 2, 1) := by decide +kernel
theorem dX7_laysPlan_134 : decode cX7_laysPlan 134 = .ok (.iaload, 1) := by decide +kernel
theorem dX7_laysPlan_135 : decode cX7_laysPlan 135 = .ok (.if_icmp .ge 30, 3) := by decide +kernel
theorem dX7_laysPlan_138 : decode cX7_laysPlan 138 = .ok (.aload_n 0, 1) := by decide +kernel
theorem dX7_laysPlan_139 : decode cX7_laysPlan 139 = .ok (.getfield 29, 3) := by decide +kernel
theorem dX7_laysPlan_142 : decode cX7_laysPlan 142 = .ok (.iload_n 2, 1) := by decide +kernel
theorem dX7_laysPlan_143 : decode cX7_laysPlan 143 = .ok (.aload_n 0, 1) := by decide +kernel
theorem dX7_laysPlan_144 : decode cX7_laysPlan 144 = .ok (.getfield 29, 3) := by decide +kernel
theorem dX7_laysPlan_147 : decode cX7_laysPlan 147 = .ok (.iload_n 2, 1) := by decide +kernel
theorem dX7_laysPlan_148 : decode cX7_laysPlan 148 = .ok (.iload 4, 2) := by decide +kernel
theorem dX7_laysPlan_150 : decode cX7_laysPlan 150 = .ok (.iconst (-1), 1) := by decide +kernel
theorem dX7_laysPlan_151 : decode cX7_laysPlan 151 = .ok (.ixor, 1) := by decide +kernel
theorem dX7_laysPlan_152 : decode cX7_laysPlan 152 = .ok (.iand, 1) := by decide +kernel
theorem dX7_laysPlan_153 : decode cX7_laysPlan 153 = .ok (.iaload, 1) := by decide +kernel
theorem dX7_laysPlan_154 : decode cX7_laysPlan 154 = .ok (.iconst 1, 1) := by decide +kernel
theorem dX7_laysPlan_155 : decode cX7_laysPlan 155 = .ok (.iadd, 1) := by decide +kernel
theorem dX7_laysPlan_156 : decode cX7_laysPlan 156 = .ok (.iastore, 1) := by decide +kernel
theorem dX7_laysPlan_157 : decode cX7_laysPlan 157 = .ok (.aload_n 0, 1) := by decide +kernel
theorem dX7_laysPlan_158 : decode cX7_laysPlan 158 = .ok (.getfield 32, 3) := by decide +kernel
theorem dX7_laysPlan_161 : decode cX7_laysPlan 161 = .ok (.iload_n 2, 1) := by decide +kernel
theorem dX7_laysPlan_162 : decode cX7_laysPlan 162 = .ok (.iload 4, 2) := by decide +kernel
theorem dX7_laysPlan_164 : decode cX7_laysPlan 164 = .ok (.iastore, 1) := by decide +kernel
theorem dX7_laysPlan_165 : decode cX7_laysPlan 165 = .ok (.iinc 4 1, 3) := by decide +kernel
theorem dX7_laysPlan_168 : decode cX7_laysPlan 168 = .ok (.goto (-96), 3) := by decide +kernel
theorem dX7_laysPlan_171 : decode cX7_laysPlan 171 = .ok (.iinc 2 1, 3) := by decide +kernel
theorem dX7_laysPlan_174 : decode cX7_laysPlan 174 = .ok (.goto (-130), 3) := by decide +kernel
theorem dX7_laysPlan_177 : decode cX7_laysPlan 177 = .ok (.return_, 1) := by decide +kernel
theorem dX7_hasPlan_0 : decode cX7_hasPlan 0 = .ok (.aload_n 0, 1) := by decide +kernel
theorem dX7_hasPlan_1 : decode cX7_hasPlan 1 = .ok (.getfield 29, 3) := by decide +kernel
theorem dX7_hasPlan_4 : decode cX7_hasPlan 4 = .ok (.iconst 1, 1) := by decide +kernel
theorem dX7_hasPlan_5 : decode cX7_hasPlan 5 = .ok (.aload_n 0, 1) := by decide +kernel
theorem dX7_hasPlan_6 : decode cX7_hasPlan 6 = .ok (.invokevirtual 49, 3) := by decide +kernel
theorem dX7_hasPlan_9 : decode cX7_hasPlan 9 = .ok (.ishl, 1) := by decide +kernel
theorem dX7_hasPlan_10 : decode cX7_hasPlan 10 = .ok (.iconst 1, 1) := by decide +kernel
theorem dX7_hasPlan_11 : decode cX7_hasPlan 11 = .ok (.isub, 1) := by decide +kernel
theorem dX7_hasPlan_12 : decode cX7_hasPlan 12 = .ok (.iaload, 1) := by decide +kernel
theorem dX7_hasPlan_13 : decode cX7_hasPlan 13 = .ok (.bipush 99, 2) := by decide +kernel
theorem dX7_hasPlan_15 : decode cX7_hasPlan 15 = .ok (.if_icmp .ge 7, 3) := by decide +kernel
theorem dX7_hasPlan_18 : decode cX7_hasPlan 18 = .ok (.iconst 1, 1) := by decide +kernel
theorem dX7_hasPlan_19 : decode cX7_hasPlan 19 = .ok (.goto 4, 3) := by decide +kernel
theorem dX7_hasPlan_22 : decode cX7_hasPlan 22 = .ok (.iconst 0, 1) := by decide +kernel
theorem dX7_hasPlan_23 : decode cX7_hasPlan 23 = .ok (.ireturn, 1) := by decide +kernel
theorem dX7_setOf_0 : decode cX7_setOf 0 = .ok (.iconst 1, 1) := by decide +kernel
theorem dX7_setOf_1 : decode cX7_setOf 1 = .ok (.aload_n 0, 1) := by decide +kernel
theorem dX7_setOf_2 : decode cX7_setOf 2 = .ok (.invokevirtual 49, 3) := by decide +kernel
theorem dX7_setOf_5 : decode cX7_setOf 5 = .ok (.ishl, 1) := by decide +kernel
theorem dX7_setOf_6 : decode cX7_setOf 6 = .ok (.iconst 1, 1) := by decide +kernel
theorem dX7_setOf_7 : decode cX7_setOf 7 = .ok (.isub, 1) := by decide +kernel
theorem dX7_setOf_8 : decode cX7_setOf 8 = .ok (.istore_n 2, 1) := by decide +kernel
theorem dX7_setOf_9 : decode cX7_setOf 9 = .ok (.iconst 0, 1) := by decide +kernel
theorem dX7_setOf_10 : decode cX7_setOf 10 = .ok (.istore_n 3, 1) := by decide +kernel
theorem dX7_setOf_11 : decode cX7_setOf 11 = .ok (.iload_n 3, 1) := by decide +kernel
theorem dX7_setOf_12 : decode cX7_setOf 12 = .ok (.iload_n 1, 1) := by decide +kernel
theorem dX7_setOf_13 : decode cX7_setOf 13 = .ok (.if_icmp .ge 24, 3) := by decide +kernel
theorem dX7_setOf_16 : decode cX7_setOf 16 = .ok (.iload_n 2, 1) := by decide +kernel
theorem dX7_setOf_17 : decode cX7_setOf 17 = .ok (.ifCond .eq 20, 3) := by decide +kernel
theorem dX7_setOf_20 : decode cX7_setOf 20 = .ok (.iload_n 2, 1) := by decide +kernel
theorem dX7_setOf_21 : decode cX7_setOf 21 = .ok (.aload_n 0, 1) := by decide +kernel
theorem dX7_setOf_22 : decode cX7_setOf 22 = .ok (.getfield 32, 3) := by decide +kernel
theorem dX7_setOf_25 : decode cX7_setOf 25 = .ok (.iload_n 2, 1) := by decide +kernel
theorem dX7_setOf_26 : decode cX7_setOf 26 = .ok (.iaload, 1) := by decide +kernel
theorem dX7_setOf_27 : decode cX7_setOf 27 = .ok (.iconst (-1), 1) := by decide +kernel
theorem dX7_setOf_28 : decode cX7_setOf 28 = .ok (.ixor, 1) := by decide +kernel
theorem dX7_setOf_29 : decode cX7_setOf 29 = .ok (.iand, 1) := by decide +kernel
theorem dX7_setOf_30 : decode cX7_setOf 30 = .ok (.istore_n 2, 1) := by decide +kernel
theorem dX7_setOf_31 : decode cX7_setOf 31 = .ok (.iinc 3 1, 3) := by decide +kernel
theorem dX7_setOf_34 : decode cX7_setOf 34 = .ok (.goto (-23), 3) := by decide +kernel
theorem dX7_setOf_37 : decode cX7_setOf 37 = .ok (.iload_n 2, 1) := by decide +kernel
theorem dX7_setOf_38 : decode cX7_setOf 38 = .ok (.ifCond .ne 8, 3) := by decide +kernel
theorem dX7_setOf_41 : decode cX7_setOf 41 = .ok (.bipush (-9), 2) := by decide +kernel
theorem dX7_setOf_43 : decode cX7_setOf 43 = .ok (.goto 9, 3) := by decide +kernel
theorem dX7_setOf_46 : decode cX7_setOf 46 = .ok (.aload_n 0, 1) := by decide +kernel
theorem dX7_setOf_47 : decode cX7_setOf 47 = .ok (.getfield 32, 3) := by decide +kernel
theorem dX7_setOf_50 : decode cX7_setOf 50 = .ok (.iload_n 2, 1) := by decide +kernel
theorem dX7_setOf_51 : decode cX7_setOf 51 = .ok (.iaload, 1) := by decide +kernel
theorem dX7_setOf_52 : decode cX7_setOf 52 = .ok (.ireturn, 1) := by decide +kernel
theorem dX7_daysNow_0 : decode cX7_daysNow 0 = .ok (.aload_n 0, 1) := by decide +kernel
theorem dX7_daysNow_1 : decode cX7_daysNow 1 = .ok (.invokevirtual 173, 3) := by decide +kernel
theorem dX7_daysNow_4 : decode cX7_daysNow 4 = .ok (.ifCond .eq 19, 3) := by decide +kernel
theorem dX7_daysNow_7 : decode cX7_daysNow 7 = .ok (.aload_n 0, 1) := by decide +kernel
theorem dX7_daysNow_8 : decode cX7_daysNow 8 = .ok (.getfield 29, 3) := by decide +kernel
theorem dX7_daysNow_11 : decode cX7_daysNow 11 = .ok (.iconst 1, 1) := by decide +kernel
theorem dX7_daysNow_12 : decode cX7_daysNow 12 = .ok (.aload_n 0, 1) := by decide +kernel
theorem dX7_daysNow_13 : decode cX7_daysNow 13 = .ok (.invokevirtual 49, 3) := by decide +kernel
theorem dX7_daysNow_16 : decode cX7_daysNow 16 = .ok (.ishl, 1) := by decide +kernel
theorem dX7_daysNow_17 : decode cX7_daysNow 17 = .ok (.iconst 1, 1) := by decide +kernel
theorem dX7_daysNow_18 : decode cX7_daysNow 18 = .ok (.isub, 1) := by decide +kernel
theorem dX7_daysNow_19 : decode cX7_daysNow 19 = .ok (.iaload, 1) := by decide +kernel
theorem dX7_daysNow_20 : decode cX7_daysNow 20 = .ok (.goto 5, 3) := by decide +kernel
theorem dX7_daysNow_23 : decode cX7_daysNow 23 = .ok (.bipush (-9), 2) := by decide +kernel
theorem dX7_daysNow_25 : decode cX7_daysNow 25 = .ok (.ireturn, 1) := by decide +kernel
theorem dX7_days_0 : decode cX7_days 0 = .ok (.aload_n 0, 1) := by decide +kernel
theorem dX7_days_1 : decode cX7_days 1 = .ok (.invokevirtual 176, 3) := by decide +kernel
theorem dX7_days_4 : decode cX7_days 4 = .ok (.aload_n 0, 1) := by decide +kernel
theorem dX7_days_5 : decode cX7_days 5 = .ok (.invokevirtual 179, 3) := by decide +kernel
theorem dX7_days_8 : decode cX7_days 8 = .ok (.ireturn, 1) := by decide +kernel
theorem dX7_day_0 : decode cX7_day 0 = .ok (.iload_n 1, 1) := by decide +kernel
theorem dX7_day_1 : decode cX7_day 1 = .ok (.ifCond .ge 5, 3) := by decide +kernel
theorem dX7_day_4 : decode cX7_day 4 = .ok (.iconst (-1), 1) := by decide +kernel
theorem dX7_day_5 : decode cX7_day 5 = .ok (.ireturn, 1) := by decide +kernel
theorem dX7_day_6 : decode cX7_day 6 = .ok (.aload_n 0, 1) := by decide +kernel
theorem dX7_day_7 : decode cX7_day 7 = .ok (.invokevirtual 176, 3) := by decide +kernel
theorem dX7_day_10 : decode cX7_day 10 = .ok (.aload_n 0, 1) := by decide +kernel
theorem dX7_day_11 : decode cX7_day 11 = .ok (.invokevirtual 173, 3) := by decide +kernel
theorem dX7_day_14 : decode cX7_day 14 = .ok (.ifCond .eq 19, 3) := by decide +kernel
theorem dX7_day_17 : decode cX7_day 17 = .ok (.iload_n 1, 1) := by decide +kernel
theorem dX7_day_18 : decode cX7_day 18 = .ok (.aload_n 0, 1) := by decide +kernel
theorem dX7_day_19 : decode cX7_day 19 = .ok (.invokevirtual 179, 3) := by decide +kernel
theorem dX7_day_22 : decode cX7_day 22 = .ok (.if_icmp .ge 11, 3) := by decide +kernel
theorem dX7_day_25 : decode cX7_day 25 = .ok (.aload_n 0, 1) := by decide +kernel
theorem dX7_day_26 : decode cX7_day 26 = .ok (.iload_n 1, 1) := by decide +kernel
theorem dX7_day_27 : decode cX7_day 27 = .ok (.invokevirtual 182, 3) := by decide +kernel
theorem dX7_day_30 : decode cX7_day 30 = .ok (.goto 5, 3) := by decide +kernel
theorem dX7_day_33 : decode cX7_day 33 = .ok (.bipush (-9), 2) := by decide +kernel
theorem dX7_day_35 : decode cX7_day 35 = .ok (.ireturn, 1) := by decide +kernel
theorem dX7_dayOf_0 : decode cX7_dayOf 0 = .ok (.aload_n 0, 1) := by decide +kernel
theorem dX7_dayOf_1 : decode cX7_dayOf 1 = .ok (.invokevirtual 176, 3) := by decide +kernel
theorem dX7_dayOf_4 : decode cX7_dayOf 4 = .ok (.iconst 0, 1) := by decide +kernel
theorem dX7_dayOf_5 : decode cX7_dayOf 5 = .ok (.istore_n 2, 1) := by decide +kernel
theorem dX7_dayOf_6 : decode cX7_dayOf 6 = .ok (.iload_n 2, 1) := by decide +kernel
theorem dX7_dayOf_7 : decode cX7_dayOf 7 = .ok (.aload_n 0, 1) := by decide +kernel
theorem dX7_dayOf_8 : decode cX7_dayOf 8 = .ok (.invokevirtual 179, 3) := by decide +kernel
theorem dX7_dayOf_11 : decode cX7_dayOf 11 = .ok (.if_icmp .ge 24, 3) := by decide +kernel
theorem dX7_dayOf_14 : decode cX7_dayOf 14 = .ok (.aload_n 0, 1) := by decide +kernel
theorem dX7_dayOf_15 : decode cX7_dayOf 15 = .ok (.iload_n 2, 1) := by decide +kernel
theorem dX7_dayOf_16 : decode cX7_dayOf 16 = .ok (.invokevirtual 182, 3) := by decide +kernel
theorem dX7_dayOf_19 : decode cX7_dayOf 19 = .ok (.iload_n 1, 1) := by decide +kernel
theorem dX7_dayOf_20 : decode cX7_dayOf 20 = .ok (.ishr, 1) := by decide +kernel
theorem dX7_dayOf_21 : decode cX7_dayOf 21 = .ok (.iconst 1, 1) := by decide +kernel
theorem dX7_dayOf_22 : decode cX7_dayOf 22 = .ok (.iand, 1) := by decide +kernel
theorem dX7_dayOf_23 : decode cX7_dayOf 23 = .ok (.iconst 1, 1) := by decide +kernel
theorem dX7_dayOf_24 : decode cX7_dayOf 24 = .ok (.if_icmp .ne 5, 3) := by decide +kernel
theorem dX7_dayOf_27 : decode cX7_dayOf 27 = .ok (.iload_n 2, 1) := by decide +kernel
theorem dX7_dayOf_28 : decode cX7_dayOf 28 = .ok (.ireturn, 1) := by decide +kernel
theorem dX7_dayOf_29 : decode cX7_dayOf 29 = .ok (.iinc 2 1, 3) := by decide +kernel
theorem dX7_dayOf_32 : decode cX7_dayOf 32 = .ok (.goto (-26), 3) := by decide +kernel
theorem dX7_dayOf_35 : decode cX7_dayOf 35 = .ok (.bipush (-9), 2) := by decide +kernel
theorem dX7_dayOf_37 : decode cX7_dayOf 37 = .ok (.ireturn, 1) := by decide +kernel
theorem dX7_carryOut_0 : decode cX7_carryOut 0 = .ok (.aload_n 0, 1) := by decide +kernel
theorem dX7_carryOut_1 : decode cX7_carryOut 1 = .ok (.invokevirtual 49, 3) := by decide +kernel
theorem dX7_carryOut_4 : decode cX7_carryOut 4 = .ok (.ifCond .ne 5, 3) := by decide +kernel
theorem dX7_carryOut_7 : decode cX7_carryOut 7 = .ok (.iconst (-1), 1) := by decide +kernel
theorem dX7_carryOut_8 : decode cX7_carryOut 8 = .ok (.ireturn, 1) := by decide +kernel
theorem dX7_carryOut_9 : decode cX7_carryOut 9 = .ok (.aload_n 0, 1) := by decide +kernel
theorem dX7_carryOut_10 : decode cX7_carryOut 10 = .ok (.invokevirtual 176, 3) := by decide +kernel
theorem dX7_carryOut_13 : decode cX7_carryOut 13 = .ok (.aload_n 0, 1) := by decide +kernel
theorem dX7_carryOut_14 : decode cX7_carryOut 14 = .ok (.invokevirtual 173, 3) := by decide +kernel
theorem dX7_carryOut_17 : decode cX7_carryOut 17 = .ok (.ifCond .ne 6, 3) := by decide +kernel
theorem dX7_carryOut_20 : decode cX7_carryOut 20 = .ok (.bipush (-2), 2) := by decide +kernel
theorem dX7_carryOut_22 : decode cX7_carryOut 22 = .ok (.ireturn, 1) := by decide +kernel
theorem dX7_carryOut_23 : decode cX7_carryOut 23 = .ok (.aload_n 0, 1) := by decide +kernel
theorem dX7_carryOut_24 : decode cX7_carryOut 24 = .ok (.invokevirtual 179, 3) := by decide +kernel
theorem dX7_carryOut_27 : decode cX7_carryOut 27 = .ok (.istore_n 1, 1) := by decide +kernel
theorem dX7_carryOut_28 : decode cX7_carryOut 28 = .ok (.aload_n 0, 1) := by decide +kernel
theorem dX7_carryOut_29 : decode cX7_carryOut 29 = .ok (.getfield 7, 3) := by decide +kernel
theorem dX7_carryOut_32 : decode cX7_carryOut 32 = .ok (.bipush 105, 2) := by decide +kernel
theorem dX7_carryOut_34 : decode cX7_carryOut 34 = .ok (.iaload, 1) := by decide +kernel
theorem dX7_carryOut_35 : decode cX7_carryOut 35 = .ok (.bipush 24, 2) := by decide +kernel
theorem dX7_carryOut_37 : decode cX7_carryOut 37 = .ok (.iload_n 1, 1) := by decide +kernel
theorem dX7_carryOut_38 : decode cX7_carryOut 38 = .ok (.imul, 1) := by decide +kernel
theorem dX7_carryOut_39 : decode cX7_carryOut 39 = .ok (.iadd, 1) := by decide +kernel
theorem dX7_carryOut_40 : decode cX7_carryOut 40 = .ok (.ldc 147, 2) := by decide +kernel
theorem dX7_carryOut_42 : decode cX7_carryOut 42 = .ok (.if_icmp .le 6, 3) := by decide +kernel
theorem dX7_carryOut_45 : decode cX7_carryOut 45 = .ok (.bipush (-3), 2) := by decide +kernel
theorem dX7_carryOut_47 : decode cX7_carryOut 47 = .ok (.ireturn, 1) := by decide +kernel
theorem dX7_carryOut_48 : decode cX7_carryOut 48 = .ok (.aload_n 0, 1) := by decide +kernel
theorem dX7_carryOut_49 : decode cX7_carryOut 49 = .ok (.invokevirtual 87, 3) := by decide +kernel
theorem dX7_carryOut_52 : decode cX7_carryOut 52 = .ok (.aload_n 0, 1) := by decide +kernel
theorem dX7_carryOut_53 : decode cX7_carryOut 53 = .ok (.getfield 7, 3) := by decide +kernel
theorem dX7_carryOut_56 : decode cX7_carryOut 56 = .ok (.bipush 110, 2) := by decide +kernel
theorem dX7_carryOut_58 : decode cX7_carryOut 58 = .ok (.iaload, 1) := by decide +kernel
theorem dX7_carryOut_59 : decode cX7_carryOut 59 = .ok (.istore_n 2, 1) := by decide +kernel
theorem dX7_carryOut_60 : decode cX7_carryOut 60 = .ok (.iconst 0, 1) := by decide +kernel
theorem dX7_carryOut_61 : decode cX7_carryOut 61 = .ok (.istore_n 3, 1) := by decide +kernel
theorem dX7_carryOut_62 : decode cX7_carryOut 62 = .ok (.iload_n 3, 1) := by decide +kernel
theorem dX7_carryOut_63 : decode cX7_carryOut 63 = .ok (.iload_n 1, 1) := by decide +kernel
theorem dX7_carryOut_64 : decode cX7_carryOut 64 = .ok (.if_icmp .ge 20, 3) := by decide +kernel
theorem dX7_carryOut_67 : decode cX7_carryOut 67 = .ok (.aload_n 0, 1) := by decide +kernel
theorem dX7_carryOut_68 : decode cX7_carryOut 68 = .ok (.getfield 38, 3) := by decide +kernel
theorem dX7_carryOut_71 : decode cX7_carryOut 71 = .ok (.iload_n 3, 1) := by decide +kernel
theorem dX7_carryOut_72 : decode cX7_carryOut 72 = .ok (.aload_n 0, 1) := by decide +kernel
theorem dX7_carryOut_73 : decode cX7_carryOut 73 = .ok (.iload_n 3, 1) := by decide +kernel
theorem dX7_carryOut_74 : decode cX7_carryOut 74 = .ok (.invokevirtual 182, 3) := by decide +kernel
theorem dX7_carryOut_77 : decode cX7_carryOut 77 = .ok (.iastore, 1) := by decide +kernel
theorem dX7_carryOut_78 : decode cX7_carryOut 78 = .ok (.iinc 3 1, 3) := by decide +kernel
theorem dX7_carryOut_81 : decode cX7_carryOut 81 = .ok (.goto (-19), 3) := by decide +kernel
theorem dX7_carryOut_84 : decode cX7_carryOut 84 = .ok (.iconst 0, 1) := by decide +kernel
theorem dX7_carryOut_85 : decode cX7_carryOut 85 = .ok (.istore_n 3, 1) := by decide +kernel
theorem dX7_carryOut_86 : decode cX7_carryOut 86 = .ok (.iload_n 3, 1) := by decide +kernel
theorem dX7_carryOut_87 : decode cX7_carryOut 87 = .ok (.iload_n 1, 1) := by decide +kernel
theorem dX7_carryOut_88 : decode cX7_carryOut 88 = .ok (.if_icmp .ge 40, 3) := by decide +kernel
theorem dX7_carryOut_91 : decode cX7_carryOut 91 = .ok (.aload_n 0, 1) := by decide +kernel
theorem dX7_carryOut_92 : decode cX7_carryOut 92 = .ok (.aload_n 0, 1) := by decide +kernel
theorem dX7_carryOut_93 : decode cX7_carryOut 93 = .ok (.getfield 38, 3) := by decide +kernel
theorem dX7_carryOut_96 : decode cX7_carryOut 96 = .ok (.iload_n 3, 1) := by decide +kernel
theorem dX7_carryOut_97 : decode cX7_carryOut 97 = .ok (.iaload, 1) := by decide +kernel
theorem dX7_carryOut_98 : decode cX7_carryOut 98 = .ok (.invokevirtual 170, 3) := by decide +kernel
theorem dX7_carryOut_101 : decode cX7_carryOut 101 = .ok (.pop, 1) := by decide +kernel
theorem dX7_carryOut_102 : decode cX7_carryOut 102 = .ok (.iconst 0, 1) := by decide +kernel
theorem dX7_carryOut_103 : decode cX7_carryOut 103 = .ok (.istore 4, 2) := by decide +kernel
theorem dX7_carryOut_105 : decode cX7_carryOut 105 = .ok (.iload 4, 2) := by decide +kernel
theorem dX7_carryOut_107 : decode cX7_carryOut 107 = .ok (.bipush 24, 2) := by decide +kernel
theorem dX7_carryOut_109 : decode cX7_carryOut 109 = .ok (.if_icmp .ge 13, 3) := by decide +kernel
theorem dX7_carryOut_112 : decode cX7_carryOut 112 = .ok (.aload_n 0, 1) := by decide +kernel
theorem dX7_carryOut_113 : decode cX7_carryOut 113 = .ok (.invokevirtual 148, 3) := by decide +kernel
theorem dX7_carryOut_116 : decode cX7_carryOut 116 = .ok (.iinc 4 1, 3) := by decide +kernel
theorem dX7_carryOut_119 : decode cX7_carryOut 119 = .ok (.goto (-14), 3) := by decide +kernel
theorem dX7_carryOut_122 : decode cX7_carryOut 122 = .ok (.iinc 3 1, 3) := by decide +kernel
theorem dX7_carryOut_125 : decode cX7_carryOut 125 = .ok (.goto (-39), 3) := by decide +kernel
theorem dX7_carryOut_128 : decode cX7_carryOut 128 = .ok (.aload_n 0, 1) := by decide +kernel
theorem dX7_carryOut_129 : decode cX7_carryOut 129 = .ok (.getfield 7, 3) := by decide +kernel
theorem dX7_carryOut_132 : decode cX7_carryOut 132 = .ok (.bipush 110, 2) := by decide +kernel
theorem dX7_carryOut_134 : decode cX7_carryOut 134 = .ok (.iaload, 1) := by decide +kernel
theorem dX7_carryOut_135 : decode cX7_carryOut 135 = .ok (.iload_n 2, 1) := by decide +kernel
theorem dX7_carryOut_136 : decode cX7_carryOut 136 = .ok (.isub, 1) := by decide +kernel
theorem dX7_carryOut_137 : decode cX7_carryOut 137 = .ok (.ireturn, 1) := by decide +kernel
theorem dX7_daysWith_0 : decode cX7_daysWith 0 = .ok (.aload_n 0, 1) := by decide +kernel
theorem dX7_daysWith_1 : decode cX7_daysWith 1 = .ok (.iload_n 1, 1) := by decide +kernel
theorem dX7_daysWith_2 : decode cX7_daysWith 2 = .ok (.iconst 3, 1) := by decide +kernel
theorem dX7_daysWith_3 : decode cX7_daysWith 3 = .ok (.invokevirtual 57, 3) := by decide +kernel
theorem dX7_daysWith_6 : decode cX7_daysWith 6 = .ok (.istore_n 3, 1) := by decide +kernel
theorem dX7_daysWith_7 : decode cX7_daysWith 7 = .ok (.aload_n 0, 1) := by decide +kernel
theorem dX7_daysWith_8 : decode cX7_daysWith 8 = .ok (.iload_n 1, 1) := by decide +kernel
theorem dX7_daysWith_9 : decode cX7_daysWith 9 = .ok (.bipush 7, 2) := by decide +kernel
theorem dX7_daysWith_11 : decode cX7_daysWith 11 = .ok (.invokevirtual 57, 3) := by decide +kernel
theorem dX7_daysWith_14 : decode cX7_daysWith 14 = .ok (.istore 4, 2) := by decide +kernel
theorem dX7_daysWith_16 : decode cX7_daysWith 16 = .ok (.aload_n 0, 1) := by decide +kernel
theorem dX7_daysWith_17 : decode cX7_daysWith 17 = .ok (.getfield 7, 3) := by decide +kernel
theorem dX7_daysWith_20 : decode cX7_daysWith 20 = .ok (.aload_n 0, 1) := by decide +kernel
theorem dX7_daysWith_21 : decode cX7_daysWith 21 = .ok (.iload_n 1, 1) := by decide +kernel
theorem dX7_daysWith_22 : decode cX7_daysWith 22 = .ok (.iconst 3, 1) := by decide +kernel
theorem dX7_daysWith_23 : decode cX7_daysWith 23 = .ok (.invokevirtual 45, 3) := by decide +kernel
theorem dX7_daysWith_26 : decode cX7_daysWith 26 = .ok (.iload_n 2, 1) := by decide +kernel
theorem dX7_daysWith_27 : decode cX7_daysWith 27 = .ok (.iastore, 1) := by decide +kernel
theorem dX7_daysWith_28 : decode cX7_daysWith 28 = .ok (.aload_n 0, 1) := by decide +kernel
theorem dX7_daysWith_29 : decode cX7_daysWith 29 = .ok (.getfield 7, 3) := by decide +kernel
theorem dX7_daysWith_32 : decode cX7_daysWith 32 = .ok (.aload_n 0, 1) := by decide +kernel
theorem dX7_daysWith_33 : decode cX7_daysWith 33 = .ok (.iload_n 1, 1) := by decide +kernel
theorem dX7_daysWith_34 : decode cX7_daysWith 34 = .ok (.bipush 7, 2) := by decide +kernel
theorem dX7_daysWith_36 : decode cX7_daysWith 36 = .ok (.invokevirtual 45, 3) := by decide +kernel
theorem dX7_daysWith_39 : decode cX7_daysWith 39 = .ok (.iconst 0, 1) := by decide +kernel
theorem dX7_daysWith_40 : decode cX7_daysWith 40 = .ok (.iastore, 1) := by decide +kernel
theorem dX7_daysWith_41 : decode cX7_daysWith 41 = .ok (.aload_n 0, 1) := by decide +kernel
theorem dX7_daysWith_42 : decode cX7_daysWith 42 = .ok (.invokevirtual 176, 3) := by decide +kernel
theorem dX7_daysWith_45 : decode cX7_daysWith 45 = .ok (.aload_n 0, 1) := by decide +kernel
theorem dX7_daysWith_46 : decode cX7_daysWith 46 = .ok (.getfield 7, 3) := by decide +kernel
theorem dX7_daysWith_49 : decode cX7_daysWith 49 = .ok (.aload_n 0, 1) := by decide +kernel
theorem dX7_daysWith_50 : decode cX7_daysWith 50 = .ok (.iload_n 1, 1) := by decide +kernel
theorem dX7_daysWith_51 : decode cX7_daysWith 51 = .ok (.iconst 3, 1) := by decide +kernel
theorem dX7_daysWith_52 : decode cX7_daysWith 52 = .ok (.invokevirtual 45, 3) := by decide +kernel
theorem dX7_daysWith_55 : decode cX7_daysWith 55 = .ok (.iload_n 3, 1) := by decide +kernel
theorem dX7_daysWith_56 : decode cX7_daysWith 56 = .ok (.iastore, 1) := by decide +kernel
theorem dX7_daysWith_57 : decode cX7_daysWith 57 = .ok (.aload_n 0, 1) := by decide +kernel
theorem dX7_daysWith_58 : decode cX7_daysWith 58 = .ok (.getfield 7, 3) := by decide +kernel
theorem dX7_daysWith_61 : decode cX7_daysWith 61 = .ok (.aload_n 0, 1) := by decide +kernel
theorem dX7_daysWith_62 : decode cX7_daysWith 62 = .ok (.iload_n 1, 1) := by decide +kernel
theorem dX7_daysWith_63 : decode cX7_daysWith 63 = .ok (.bipush 7, 2) := by decide +kernel
theorem dX7_daysWith_65 : decode cX7_daysWith 65 = .ok (.invokevirtual 45, 3) := by decide +kernel
theorem dX7_daysWith_68 : decode cX7_daysWith 68 = .ok (.iload 4, 2) := by decide +kernel
theorem dX7_daysWith_70 : decode cX7_daysWith 70 = .ok (.iastore, 1) := by decide +kernel
theorem dX7_daysWith_71 : decode cX7_daysWith 71 = .ok (.aload_n 0, 1) := by decide +kernel
theorem dX7_daysWith_72 : decode cX7_daysWith 72 = .ok (.getfield 29, 3) := by decide +kernel
theorem dX7_daysWith_75 : decode cX7_daysWith 75 = .ok (.iconst 1, 1) := by decide +kernel
theorem dX7_daysWith_76 : decode cX7_daysWith 76 = .ok (.aload_n 0, 1) := by decide +kernel
theorem dX7_daysWith_77 : decode cX7_daysWith 77 = .ok (.invokevirtual 49, 3) := by decide +kernel
theorem dX7_daysWith_80 : decode cX7_daysWith 80 = .ok (.ishl, 1) := by decide +kernel
theorem dX7_daysWith_81 : decode cX7_daysWith 81 = .ok (.iconst 1, 1) := by decide +kernel
theorem dX7_daysWith_82 : decode cX7_daysWith 82 = .ok (.isub, 1) := by decide +kernel
theorem dX7_daysWith_83 : decode cX7_daysWith 83 = .ok (.iaload, 1) := by decide +kernel
theorem dX7_daysWith_84 : decode cX7_daysWith 84 = .ok (.ireturn, 1) := by decide +kernel
theorem dX7_ifLamp_0 : decode cX7_ifLamp 0 = .ok (.aload_n 0, 1) := by decide +kernel
theorem dX7_ifLamp_1 : decode cX7_ifLamp 1 = .ok (.iload_n 1, 1) := by decide +kernel
theorem dX7_ifLamp_2 : decode cX7_ifLamp 2 = .ok (.invokevirtual 94, 3) := by decide +kernel
theorem dX7_ifLamp_5 : decode cX7_ifLamp 5 = .ok (.ifCond .eq 10, 3) := by decide +kernel
theorem dX7_ifLamp_8 : decode cX7_ifLamp 8 = .ok (.iload_n 2, 1) := by decide +kernel
theorem dX7_ifLamp_9 : decode cX7_ifLamp 9 = .ok (.invokestatic 84, 3) := by decide +kernel
theorem dX7_ifLamp_12 : decode cX7_ifLamp 12 = .ok (.ifCond .ne 5, 3) := by decide +kernel
theorem dX7_ifLamp_15 : decode cX7_ifLamp 15 = .ok (.iconst (-1), 1) := by decide +kernel
theorem dX7_ifLamp_16 : decode cX7_ifLamp 16 = .ok (.ireturn, 1) := by decide +kernel
theorem dX7_ifLamp_17 : decode cX7_ifLamp 17 = .ok (.aload_n 0, 1) := by decide +kernel
theorem dX7_ifLamp_18 : decode cX7_ifLamp 18 = .ok (.iload_n 1, 1) := by decide +kernel
theorem dX7_ifLamp_19 : decode cX7_ifLamp 19 = .ok (.iload_n 2, 1) := by decide +kernel
theorem dX7_ifLamp_20 : decode cX7_ifLamp 20 = .ok (.invokevirtual 185, 3) := by decide +kernel
theorem dX7_ifLamp_23 : decode cX7_ifLamp 23 = .ok (.istore_n 3, 1) := by decide +kernel
theorem dX7_ifLamp_24 : decode cX7_ifLamp 24 = .ok (.iload_n 3, 1) := by decide +kernel
theorem dX7_ifLamp_25 : decode cX7_ifLamp 25 = .ok (.bipush 99, 2) := by decide +kernel
theorem dX7_ifLamp_27 : decode cX7_ifLamp 27 = .ok (.if_icmp .ge 7, 3) := by decide +kernel
theorem dX7_ifLamp_30 : decode cX7_ifLamp 30 = .ok (.iload_n 3, 1) := by decide +kernel
theorem dX7_ifLamp_31 : decode cX7_ifLamp 31 = .ok (.goto 5, 3) := by decide +kernel
theorem dX7_ifLamp_34 : decode cX7_ifLamp 34 = .ok (.bipush (-9), 2) := by decide +kernel
theorem dX7_ifLamp_36 : decode cX7_ifLamp 36 = .ok (.ireturn, 1) := by decide +kernel
theorem dX7_bestSwap_0 : decode cX7_bestSwap 0 = .ok (.iload_n 1, 1) := by decide +kernel
theorem dX7_bestSwap_1 : decode cX7_bestSwap 1 = .ok (.invokestatic 84, 3) := by decide +kernel
theorem dX7_bestSwap_4 : decode cX7_bestSwap 4 = .ok (.ifCond .ne 5, 3) := by decide +kernel
theorem dX7_bestSwap_7 : decode cX7_bestSwap 7 = .ok (.iconst (-1), 1) := by decide +kernel
theorem dX7_bestSwap_8 : decode cX7_bestSwap 8 = .ok (.ireturn, 1) := by decide +kernel
theorem dX7_bestSwap_9 : decode cX7_bestSwap 9 = .ok (.bipush (-9), 2) := by decide +kernel
theorem dX7_bestSwap_11 : decode cX7_bestSwap 11 = .ok (.istore_n 2, 1) := by decide +kernel
theorem dX7_bestSwap_12 : decode cX7_bestSwap 12 = .ok (.iconst 0, 1) := by decide +kernel
theorem dX7_bestSwap_13 : decode cX7_bestSwap 13 = .ok (.istore_n 3, 1) := by decide +kernel
theorem dX7_bestSwap_14 : decode cX7_bestSwap 14 = .ok (.iconst 0, 1) := by decide +kernel
theorem dX7_bestSwap_15 : decode cX7_bestSwap 15 = .ok (.istore 4, 2) := by decide +kernel
theorem dX7_bestSwap_17 : decode cX7_bestSwap 17 = .ok (.iload 4, 2) := by decide +kernel
theorem dX7_bestSwap_19 : decode cX7_bestSwap 19 = .ok (.aload_n 0, 1) := by decide +kernel
theorem dX7_bestSwap_20 : decode cX7_bestSwap 20 = .ok (.invokevirtual 49, 3) := by decide +kernel
theorem dX7_bestSwap_23 : decode cX7_bestSwap 23 = .ok (.if_icmp .ge 66, 3) := by decide +kernel
theorem dX7_bestSwap_26 : decode cX7_bestSwap 26 = .ok (.aload_n 0, 1) := by decide +kernel
theorem dX7_bestSwap_27 : decode cX7_bestSwap 27 = .ok (.iload 4, 2) := by decide +kernel
theorem dX7_bestSwap_29 : decode cX7_bestSwap 29 = .ok (.iload_n 1, 1) := by decide +kernel
theorem dX7_bestSwap_30 : decode cX7_bestSwap 30 = .ok (.invokevirtual 185, 3) := by decide +kernel
theorem dX7_bestSwap_33 : decode cX7_bestSwap 33 = .ok (.istore 5, 2) := by decide +kernel
theorem dX7_bestSwap_35 : decode cX7_bestSwap 35 = .ok (.iload 5, 2) := by decide +kernel
theorem dX7_bestSwap_37 : decode cX7_bestSwap 37 = .ok (.bipush 99, 2) := by decide +kernel
theorem dX7_bestSwap_39 : decode cX7_bestSwap 39 = .ok (.if_icmp .ge 8, 3) := by decide +kernel
theorem dX7_bestSwap_42 : decode cX7_bestSwap 42 = .ok (.iload 5, 2) := by decide +kernel
theorem dX7_bestSwap_44 : decode cX7_bestSwap 44 = .ok (.goto 5, 3) := by decide +kernel
theorem dX7_bestSwap_47 : decode cX7_bestSwap 47 = .ok (.bipush 99, 2) := by decide +kernel
theorem dX7_bestSwap_49 : decode cX7_bestSwap 49 = .ok (.istore 5, 2) := by decide +kernel
theorem dX7_bestSwap_51 : decode cX7_bestSwap 51 = .ok (.iload_n 2, 1) := by decide +kernel
theorem dX7_bestSwap_52 : decode cX7_bestSwap 52 = .ok (.bipush (-9), 2) := by decide +kernel
theorem dX7_bestSwap_54 : decode cX7_bestSwap 54 = .ok (.if_icmp .eq 9, 3) := by decide +kernel
theorem dX7_bestSwap_57 : decode cX7_bestSwap 57 = .ok (.iload 5, 2) := by decide +kernel
theorem dX7_bestSwap_59 : decode cX7_bestSwap 59 = .ok (.iload_n 3, 1) := by decide +kernel
theorem dX7_bestSwap_60 : decode cX7_bestSwap 60 = .ok (.if_icmp .ge 8, 3) := by decide +kernel
theorem dX7_bestSwap_63 : decode cX7_bestSwap 63 = .ok (.iload 4, 2) := by decide +kernel
theorem dX7_bestSwap_65 : decode cX7_bestSwap 65 = .ok (.goto 4, 3) := by decide +kernel
theorem dX7_bestSwap_68 : decode cX7_bestSwap 68 = .ok (.iload_n 2, 1) := by decide +kernel
theorem dX7_bestSwap_69 : decode cX7_bestSwap 69 = .ok (.istore_n 2, 1) := by decide +kernel
theorem dX7_bestSwap_70 : decode cX7_bestSwap 70 = .ok (.iload_n 2, 1) := by decide +kernel
theorem dX7_bestSwap_71 : decode cX7_bestSwap 71 = .ok (.iload 4, 2) := by decide +kernel
theorem dX7_bestSwap_73 : decode cX7_bestSwap 73 = .ok (.if_icmp .ne 8, 3) := by decide +kernel
theorem dX7_bestSwap_76 : decode cX7_bestSwap 76 = .ok (.iload 5, 2) := by decide +kernel
theorem dX7_bestSwap_78 : decode cX7_bestSwap 78 = .ok (.goto 4, 3) := by decide +kernel
theorem dX7_bestSwap_81 : decode cX7_bestSwap 81 = .ok (.iload_n 3, 1) := by decide +kernel
theorem dX7_bestSwap_82 : decode cX7_bestSwap 82 = .ok (.istore_n 3, 1) := by decide +kernel
theorem dX7_bestSwap_83 : decode cX7_bestSwap 83 = .ok (.iinc 4 1, 3) := by decide +kernel
theorem dX7_bestSwap_86 : decode cX7_bestSwap 86 = .ok (.goto (-69), 3) := by decide +kernel
theorem dX7_bestSwap_89 : decode cX7_bestSwap 89 = .ok (.iload_n 2, 1) := by decide +kernel
theorem dX7_bestSwap_90 : decode cX7_bestSwap 90 = .ok (.ireturn, 1) := by decide +kernel
theorem dX7_lastsNow_0 : decode cX7_lastsNow 0 = .ok (.bipush (-9), 2) := by decide +kernel
theorem dX7_lastsNow_2 : decode cX7_lastsNow 2 = .ok (.istore_n 3, 1) := by decide +kernel
theorem dX7_lastsNow_3 : decode cX7_lastsNow 3 = .ok (.aload_n 0, 1) := by decide +kernel
theorem dX7_lastsNow_4 : decode cX7_lastsNow 4 = .ok (.getfield 7, 3) := by decide +kernel
theorem dX7_lastsNow_7 : decode cX7_lastsNow 7 = .ok (.bipush 92, 2) := by decide +kernel
theorem dX7_lastsNow_9 : decode cX7_lastsNow 9 = .ok (.iconst 2, 1) := by decide +kernel
theorem dX7_lastsNow_10 : decode cX7_lastsNow 10 = .ok (.iload_n 1, 1) := by decide +kernel
theorem dX7_lastsNow_11 : decode cX7_lastsNow 11 = .ok (.imul, 1) := by decide +kernel
theorem dX7_lastsNow_12 : decode cX7_lastsNow 12 = .ok (.iadd, 1) := by decide +kernel
theorem dX7_lastsNow_13 : decode cX7_lastsNow 13 = .ok (.iaload, 1) := by decide +kernel
theorem dX7_lastsNow_14 : decode cX7_lastsNow 14 = .ok (.istore 4, 2) := by decide +kernel
theorem dX7_lastsNow_16 : decode cX7_lastsNow 16 = .ok (.iload 4, 2) := by decide +kernel
theorem dX7_lastsNow_18 : decode cX7_lastsNow 18 = .ok (.aload_n 0, 1) := by decide +kernel
theorem dX7_lastsNow_19 : decode cX7_lastsNow 19 = .ok (.getfield 7, 3) := by decide +kernel
theorem dX7_lastsNow_22 : decode cX7_lastsNow 22 = .ok (.bipush 92, 2) := by decide +kernel
theorem dX7_lastsNow_24 : decode cX7_lastsNow 24 = .ok (.iconst 2, 1) := by decide +kernel
theorem dX7_lastsNow_25 : decode cX7_lastsNow 25 = .ok (.iload_n 1, 1) := by decide +kernel
theorem dX7_lastsNow_26 : decode cX7_lastsNow 26 = .ok (.imul, 1) := by decide +kernel
theorem dX7_lastsNow_27 : decode cX7_lastsNow 27 = .ok (.iadd, 1) := by decide +kernel
theorem dX7_lastsNow_28 : decode cX7_lastsNow 28 = .ok (.iconst 1, 1) := by decide +kernel
theorem dX7_lastsNow_29 : decode cX7_lastsNow 29 = .ok (.iadd, 1) := by decide +kernel
theorem dX7_lastsNow_30 : decode cX7_lastsNow 30 = .ok (.iaload, 1) := by decide +kernel
theorem dX7_lastsNow_31 : decode cX7_lastsNow 31 = .ok (.if_icmp .gt 106, 3) := by decide +kernel
theorem dX7_lastsNow_34 : decode cX7_lastsNow 34 = .ok (.iconst 0, 1) := by decide +kernel
theorem dX7_lastsNow_35 : decode cX7_lastsNow 35 = .ok (.istore 5, 2) := by decide +kernel
theorem dX7_lastsNow_37 : decode cX7_lastsNow 37 = .ok (.iconst 0, 1) := by decide +kernel
theorem dX7_lastsNow_38 : decode cX7_lastsNow 38 = .ok (.istore 6, 2) := by decide +kernel
theorem dX7_lastsNow_40 : decode cX7_lastsNow 40 = .ok (.iload 6, 2) := by decide +kernel
theorem dX7_lastsNow_42 : decode cX7_lastsNow 42 = .ok (.aload_n 0, 1) := by decide +kernel
theorem dX7_lastsNow_43 : decode cX7_lastsNow 43 = .ok (.invokevirtual 49, 3) := by decide +kernel
theorem dX7_lastsNow_46 : decode cX7_lastsNow 46 = .ok (.if_icmp .ge 66, 3) := by decide +kernel
theorem dX7_lastsNow_49 : decode cX7_lastsNow 49 = .ok (.iload_n 2, 1) := by decide +kernel
theorem dX7_lastsNow_50 : decode cX7_lastsNow 50 = .ok (.iload 6, 2) := by decide +kernel
theorem dX7_lastsNow_52 : decode cX7_lastsNow 52 = .ok (.ishr, 1) := by decide +kernel
theorem dX7_lastsNow_53 : decode cX7_lastsNow 53 = .ok (.iconst 1, 1) := by decide +kernel
theorem dX7_lastsNow_54 : decode cX7_lastsNow 54 = .ok (.iand, 1) := by decide +kernel
theorem dX7_lastsNow_55 : decode cX7_lastsNow 55 = .ok (.iconst 1, 1) := by decide +kernel
theorem dX7_lastsNow_56 : decode cX7_lastsNow 56 = .ok (.if_icmp .ne 18, 3) := by decide +kernel
theorem dX7_lastsNow_59 : decode cX7_lastsNow 59 = .ok (.aload_n 0, 1) := by decide +kernel
theorem dX7_lastsNow_60 : decode cX7_lastsNow 60 = .ok (.iload 6, 2) := by decide +kernel
theorem dX7_lastsNow_62 : decode cX7_lastsNow 62 = .ok (.iload 4, 2) := by decide +kernel
theorem dX7_lastsNow_64 : decode cX7_lastsNow 64 = .ok (.invokevirtual 154, 3) := by decide +kernel
theorem dX7_lastsNow_67 : decode cX7_lastsNow 67 = .ok (.ifCond .eq 7, 3) := by decide +kernel
theorem dX7_lastsNow_70 : decode cX7_lastsNow 70 = .ok (.iconst 1, 1) := by decide +kernel
theorem dX7_lastsNow_71 : decode cX7_lastsNow 71 = .ok (.goto 4, 3) := by decide +kernel
theorem dX7_lastsNow_74 : decode cX7_lastsNow 74 = .ok (.iconst 0, 1) := by decide +kernel
theorem dX7_lastsNow_75 : decode cX7_lastsNow 75 = .ok (.istore 7, 2) := by decide +kernel
theorem dX7_lastsNow_77 : decode cX7_lastsNow 77 = .ok (.iload 7, 2) := by decide +kernel
theorem dX7_lastsNow_79 : decode cX7_lastsNow 79 = .ok (.ifCond .eq 23, 3) := by decide +kernel
theorem dX7_lastsNow_82 : decode cX7_lastsNow 82 = .ok (.aload_n 0, 1) := by decide +kernel
theorem dX7_lastsNow_83 : decode cX7_lastsNow 83 = .ok (.iload 6, 2) := by decide +kernel
theorem dX7_lastsNow_85 : decode cX7_lastsNow 85 = .ok (.invokevirtual 67, 3) := by decide +kernel
theorem dX7_lastsNow_88 : decode cX7_lastsNow 88 = .ok (.iload 5, 2) := by decide +kernel
theorem dX7_lastsNow_90 : decode cX7_lastsNow 90 = .ok (.if_icmp .le 12, 3) := by decide +kernel
theorem dX7_lastsNow_93 : decode cX7_lastsNow 93 = .ok (.aload_n 0, 1) := by decide +kernel
theorem dX7_lastsNow_94 : decode cX7_lastsNow 94 = .ok (.iload 6, 2) := by decide +kernel
theorem dX7_lastsNow_96 : decode cX7_lastsNow 96 = .ok (.invokevirtual 67, 3) := by decide +kernel
theorem dX7_lastsNow_99 : decode cX7_lastsNow 99 = .ok (.goto 5, 3) := by decide +kernel
theorem dX7_lastsNow_102 : decode cX7_lastsNow 102 = .ok (.iload 5, 2) := by decide +kernel
theorem dX7_lastsNow_104 : decode cX7_lastsNow 104 = .ok (.istore 5, 2) := by decide +kernel
theorem dX7_lastsNow_106 : decode cX7_lastsNow 106 = .ok (.iinc 6 1, 3) := by decide +kernel
theorem dX7_lastsNow_109 : decode cX7_lastsNow 109 = .ok (.goto (-69), 3) := by decide +kernel
theorem dX7_lastsNow_112 : decode cX7_lastsNow 112 = .ok (.iload_n 3, 1) := by decide +kernel
theorem dX7_lastsNow_113 : decode cX7_lastsNow 113 = .ok (.bipush (-9), 2) := by decide +kernel
theorem dX7_lastsNow_115 : decode cX7_lastsNow 115 = .ok (.if_icmp .eq 9, 3) := by decide +kernel
theorem dX7_lastsNow_118 : decode cX7_lastsNow 118 = .ok (.iload 5, 2) := by decide +kernel
theorem dX7_lastsNow_120 : decode cX7_lastsNow 120 = .ok (.iload_n 3, 1) := by decide +kernel
theorem dX7_lastsNow_121 : decode cX7_lastsNow 121 = .ok (.if_icmp .ge 8, 3) := by decide +kernel
theorem dX7_lastsNow_124 : decode cX7_lastsNow 124 = .ok (.iload 5, 2) := by decide +kernel
theorem dX7_lastsNow_126 : decode cX7_lastsNow 126 = .ok (.goto 4, 3) := by decide +kernel
theorem dX7_lastsNow_129 : decode cX7_lastsNow 129 = .ok (.iload_n 3, 1) := by decide +kernel
theorem dX7_lastsNow_130 : decode cX7_lastsNow 130 = .ok (.istore_n 3, 1) := by decide +kernel
theorem dX7_lastsNow_131 : decode cX7_lastsNow 131 = .ok (.iinc 4 1, 3) := by decide +kernel
theorem dX7_lastsNow_134 : decode cX7_lastsNow 134 = .ok (.goto (-118), 3) := by decide +kernel
theorem dX7_lastsNow_137 : decode cX7_lastsNow 137 = .ok (.iload_n 3, 1) := by decide +kernel
theorem dX7_lastsNow_138 : decode cX7_lastsNow 138 = .ok (.ireturn, 1) := by decide +kernel
theorem dX7_lasts_0 : decode cX7_lasts 0 = .ok (.aload_n 0, 1) := by decide +kernel
theorem dX7_lasts_1 : decode cX7_lasts 1 = .ok (.iload_n 1, 1) := by decide +kernel
theorem dX7_lasts_2 : decode cX7_lasts 2 = .ok (.invokevirtual 97, 3) := by decide +kernel
theorem dX7_lasts_5 : decode cX7_lasts 5 = .ok (.ifCond .eq 20, 3) := by decide +kernel
theorem dX7_lasts_8 : decode cX7_lasts 8 = .ok (.aload_n 0, 1) := by decide +kernel
theorem dX7_lasts_9 : decode cX7_lasts 9 = .ok (.iload_n 2, 1) := by decide +kernel
theorem dX7_lasts_10 : decode cX7_lasts 10 = .ok (.invokevirtual 161, 3) := by decide +kernel
theorem dX7_lasts_13 : decode cX7_lasts 13 = .ok (.ifCond .eq 12, 3) := by decide +kernel
theorem dX7_lasts_16 : decode cX7_lasts 16 = .ok (.aload_n 0, 1) := by decide +kernel
theorem dX7_lasts_17 : decode cX7_lasts 17 = .ok (.iload_n 1, 1) := by decide +kernel
theorem dX7_lasts_18 : decode cX7_lasts 18 = .ok (.iload_n 2, 1) := by decide +kernel
theorem dX7_lasts_19 : decode cX7_lasts 19 = .ok (.invokevirtual 188, 3) := by decide +kernel
theorem dX7_lasts_22 : decode cX7_lasts 22 = .ok (.goto 4, 3) := by decide +kernel
theorem dX7_lasts_25 : decode cX7_lasts 25 = .ok (.iconst (-1), 1) := by decide +kernel
theorem dX7_lasts_26 : decode cX7_lasts 26 = .ok (.ireturn, 1) := by decide +kernel
theorem dX7_without_0 : decode cX7_without 0 = .ok (.iconst 0, 1) := by decide +kernel
theorem dX7_without_1 : decode cX7_without 1 = .ok (.istore_n 2, 1) := by decide +kernel
theorem dX7_without_2 : decode cX7_without 2 = .ok (.iconst 0, 1) := by decide +kernel
theorem dX7_without_3 : decode cX7_without 3 = .ok (.istore_n 3, 1) := by decide +kernel
theorem dX7_without_4 : decode cX7_without 4 = .ok (.iload_n 3, 1) := by decide +kernel
theorem dX7_without_5 : decode cX7_without 5 = .ok (.aload_n 0, 1) := by decide +kernel
theorem dX7_without_6 : decode cX7_without 6 = .ok (.invokevirtual 49, 3) := by decide +kernel
theorem dX7_without_9 : decode cX7_without 9 = .ok (.if_icmp .ge 29, 3) := by decide +kernel
theorem dX7_without_12 : decode cX7_without 12 = .ok (.iload_n 2, 1) := by decide +kernel
theorem dX7_without_13 : decode cX7_without 13 = .ok (.aload_n 0, 1) := by decide +kernel
theorem dX7_without_14 : decode cX7_without 14 = .ok (.iload_n 3, 1) := by decide +kernel
theorem dX7_without_15 : decode cX7_without 15 = .ok (.iconst 1, 1) := by decide +kernel
theorem dX7_without_16 : decode cX7_without 16 = .ok (.invokevirtual 57, 3) := by decide +kernel
theorem dX7_without_19 : decode cX7_without 19 = .ok (.iload_n 1, 1) := by decide +kernel
theorem dX7_without_20 : decode cX7_without 20 = .ok (.if_icmp .ne 7, 3) := by decide +kernel
theorem dX7_without_23 : decode cX7_without 23 = .ok (.iconst 0, 1) := by decide +kernel
theorem dX7_without_24 : decode cX7_without 24 = .ok (.goto 6, 3) := by decide +kernel
theorem dX7_without_27 : decode cX7_without 27 = .ok (.iconst 1, 1) := by decide +kernel
theorem dX7_without_28 : decode cX7_without 28 = .ok (.iload_n 3, 1) := by decide +kernel
theorem dX7_without_29 : decode cX7_without 29 = .ok (.ishl, 1) := by decide +kernel
theorem dX7_without_30 : decode cX7_without 30 = .ok (.ior, 1) := by decide +kernel
theorem dX7_without_31 : decode cX7_without 31 = .ok (.istore_n 2, 1) := by decide +kernel
theorem dX7_without_32 : decode cX7_without 32 = .ok (.iinc 3 1, 3) := by decide +kernel
theorem dX7_without_35 : decode cX7_without 35 = .ok (.goto (-31), 3) := by decide +kernel
theorem dX7_without_38 : decode cX7_without 38 = .ok (.iload_n 2, 1) := by decide +kernel
theorem dX7_without_39 : decode cX7_without 39 = .ok (.ireturn, 1) := by decide +kernel
theorem dX7_weakest_0 : decode cX7_weakest 0 = .ok (.iconst 0, 1) := by decide +kernel
theorem dX7_weakest_1 : decode cX7_weakest 1 = .ok (.istore_n 3, 1) := by decide +kernel
theorem dX7_weakest_2 : decode cX7_weakest 2 = .ok (.aload_n 0, 1) := by decide +kernel
theorem dX7_weakest_3 : decode cX7_weakest 3 = .ok (.iload_n 1, 1) := by decide +kernel
theorem dX7_weakest_4 : decode cX7_weakest 4 = .ok (.aload_n 0, 1) := by decide +kernel
theorem dX7_weakest_5 : decode cX7_weakest 5 = .ok (.iconst 0, 1) := by decide +kernel
theorem dX7_weakest_6 : decode cX7_weakest 6 = .ok (.invokevirtual 191, 3) := by decide +kernel
theorem dX7_weakest_9 : decode cX7_weakest 9 = .ok (.invokevirtual 188, 3) := by decide +kernel
theorem dX7_weakest_12 : decode cX7_weakest 12 = .ok (.istore 4, 2) := by decide +kernel
theorem dX7_weakest_14 : decode cX7_weakest 14 = .ok (.iconst 1, 1) := by decide +kernel
theorem dX7_weakest_15 : decode cX7_weakest 15 = .ok (.istore 5, 2) := by decide +kernel
theorem dX7_weakest_17 : decode cX7_weakest 17 = .ok (.iload 5, 2) := by decide +kernel
theorem dX7_weakest_19 : decode cX7_weakest 19 = .ok (.iconst 4, 1) := by decide +kernel
theorem dX7_weakest_20 : decode cX7_weakest 20 = .ok (.if_icmp .ge 52, 3) := by decide +kernel
theorem dX7_weakest_23 : decode cX7_weakest 23 = .ok (.aload_n 0, 1) := by decide +kernel
theorem dX7_weakest_24 : decode cX7_weakest 24 = .ok (.iload_n 1, 1) := by decide +kernel
theorem dX7_weakest_25 : decode cX7_weakest 25 = .ok (.aload_n 0, 1) := by decide +kernel
theorem dX7_weakest_26 : decode cX7_weakest 26 = .ok (.iload 5, 2) := by decide +kernel
theorem dX7_weakest_28 : decode cX7_weakest 28 = .ok (.invokevirtual 191, 3) := by decide +kernel
theorem dX7_weakest_31 : decode cX7_weakest 31 = .ok (.invokevirtual 188, 3) := by decide +kernel
theorem dX7_weakest_34 : decode cX7_weakest 34 = .ok (.istore 6, 2) := by decide +kernel
theorem dX7_weakest_36 : decode cX7_weakest 36 = .ok (.iload 6, 2) := by decide +kernel
theorem dX7_weakest_38 : decode cX7_weakest 38 = .ok (.iload 4, 2) := by decide +kernel
theorem dX7_weakest_40 : decode cX7_weakest 40 = .ok (.if_icmp .ge 8, 3) := by decide +kernel
theorem dX7_weakest_43 : decode cX7_weakest 43 = .ok (.iload 5, 2) := by decide +kernel
theorem dX7_weakest_45 : decode cX7_weakest 45 = .ok (.goto 4, 3) := by decide +kernel
theorem dX7_weakest_48 : decode cX7_weakest 48 = .ok (.iload_n 3, 1) := by decide +kernel
theorem dX7_weakest_49 : decode cX7_weakest 49 = .ok (.istore_n 3, 1) := by decide +kernel
theorem dX7_weakest_50 : decode cX7_weakest 50 = .ok (.iload 6, 2) := by decide +kernel
theorem dX7_weakest_52 : decode cX7_weakest 52 = .ok (.iload 4, 2) := by decide +kernel
theorem dX7_weakest_54 : decode cX7_weakest 54 = .ok (.if_icmp .ge 8, 3) := by decide +kernel
theorem dX7_weakest_57 : decode cX7_weakest 57 = .ok (.iload 6, 2) := by decide +kernel
theorem dX7_weakest_59 : decode cX7_weakest 59 = .ok (.goto 5, 3) := by decide +kernel
theorem dX7_weakest_62 : decode cX7_weakest 62 = .ok (.iload 4, 2) := by decide +kernel
theorem dX7_weakest_64 : decode cX7_weakest 64 = .ok (.istore 4, 2) := by decide +kernel
theorem dX7_weakest_66 : decode cX7_weakest 66 = .ok (.iinc 5 1, 3) := by decide +kernel
theorem dX7_weakest_69 : decode cX7_weakest 69 = .ok (.goto (-52), 3) := by decide +kernel
theorem dX7_weakest_72 : decode cX7_weakest 72 = .ok (.iload_n 2, 1) := by decide +kernel
theorem dX7_weakest_73 : decode cX7_weakest 73 = .ok (.ifCond .eq 7, 3) := by decide +kernel
theorem dX7_weakest_76 : decode cX7_weakest 76 = .ok (.iload_n 3, 1) := by decide +kernel
theorem dX7_weakest_77 : decode cX7_weakest 77 = .ok (.goto 5, 3) := by decide +kernel
theorem dX7_weakest_80 : decode cX7_weakest 80 = .ok (.iload 4, 2) := by decide +kernel
theorem dX7_weakest_82 : decode cX7_weakest 82 = .ok (.ireturn, 1) := by decide +kernel
theorem dX7_routeAt_0 : decode cX7_routeAt 0 = .ok (.aload_n 0, 1) := by decide +kernel
theorem dX7_routeAt_1 : decode cX7_routeAt 1 = .ok (.iload_n 1, 1) := by decide +kernel
theorem dX7_routeAt_2 : decode cX7_routeAt 2 = .ok (.invokevirtual 97, 3) := by decide +kernel
theorem dX7_routeAt_5 : decode cX7_routeAt 5 = .ok (.ifCond .eq 13, 3) := by decide +kernel
theorem dX7_routeAt_8 : decode cX7_routeAt 8 = .ok (.iload_n 2, 1) := by decide +kernel
theorem dX7_routeAt_9 : decode cX7_routeAt 9 = .ok (.iconst 0, 1) := by decide +kernel
theorem dX7_routeAt_10 : decode cX7_routeAt 10 = .ok (.bipush 6, 2) := by decide +kernel
theorem dX7_routeAt_12 : decode cX7_routeAt 12 = .ok (.invokestatic 53, 3) := by decide +kernel
theorem dX7_routeAt_15 : decode cX7_routeAt 15 = .ok (.ifCond .ne 5, 3) := by decide +kernel
theorem dX7_routeAt_18 : decode cX7_routeAt 18 = .ok (.iconst (-1), 1) := by decide +kernel
theorem dX7_routeAt_19 : decode cX7_routeAt 19 = .ok (.ireturn, 1) := by decide +kernel
theorem dX7_routeAt_20 : decode cX7_routeAt 20 = .ok (.aload_n 0, 1) := by decide +kernel
theorem dX7_routeAt_21 : decode cX7_routeAt 21 = .ok (.invokevirtual 164, 3) := by decide +kernel
theorem dX7_routeAt_24 : decode cX7_routeAt 24 = .ok (.iload_n 2, 1) := by decide +kernel
theorem dX7_routeAt_25 : decode cX7_routeAt 25 = .ok (.tableswitch 83 0 4 #[35, 35, 49, 55, 69], 35) := by decide +kernel
theorem dX7_routeAt_60 : decode cX7_routeAt 60 = .ok (.aload_n 0, 1) := by decide +kernel
theorem dX7_routeAt_61 : decode cX7_routeAt 61 = .ok (.getfield 7, 3) := by decide +kernel
theorem dX7_routeAt_64 : decode cX7_routeAt 64 = .ok (.bipush 92, 2) := by decide +kernel
theorem dX7_routeAt_66 : decode cX7_routeAt 66 = .ok (.iconst 2, 1) := by decide +kernel
theorem dX7_routeAt_67 : decode cX7_routeAt 67 = .ok (.iload_n 1, 1) := by decide +kernel
theorem dX7_routeAt_68 : decode cX7_routeAt 68 = .ok (.imul, 1) := by decide +kernel
theorem dX7_routeAt_69 : decode cX7_routeAt 69 = .ok (.iadd, 1) := by decide +kernel
theorem dX7_routeAt_70 : decode cX7_routeAt 70 = .ok (.iload_n 2, 1) := by decide +kernel
theorem dX7_routeAt_71 : decode cX7_routeAt 71 = .ok (.iadd, 1) := by decide +kernel
theorem dX7_routeAt_72 : decode cX7_routeAt 72 = .ok (.iaload, 1) := by decide +kernel
theorem dX7_routeAt_73 : decode cX7_routeAt 73 = .ok (.ireturn, 1) := by decide +kernel
theorem dX7_routeAt_74 : decode cX7_routeAt 74 = .ok (.aload_n 0, 1) := by decide +kernel
theorem dX7_routeAt_75 : decode cX7_routeAt 75 = .ok (.iload_n 1, 1) := by decide +kernel
theorem dX7_routeAt_76 : decode cX7_routeAt 76 = .ok (.invokevirtual 158, 3) := by decide +kernel
theorem dX7_routeAt_79 : decode cX7_routeAt 79 = .ok (.ireturn, 1) := by decide +kernel
theorem dX7_routeAt_80 : decode cX7_routeAt 80 = .ok (.aload_n 0, 1) := by decide +kernel
theorem dX7_routeAt_81 : decode cX7_routeAt 81 = .ok (.iload_n 1, 1) := by decide +kernel
theorem dX7_routeAt_82 : decode cX7_routeAt 82 = .ok (.invokevirtual 158, 3) := by decide +kernel
theorem dX7_routeAt_85 : decode cX7_routeAt 85 = .ok (.ifCond .ne 7, 3) := by decide +kernel
theorem dX7_routeAt_88 : decode cX7_routeAt 88 = .ok (.iconst 1, 1) := by decide +kernel
theorem dX7_routeAt_89 : decode cX7_routeAt 89 = .ok (.goto 4, 3) := by decide +kernel
theorem dX7_routeAt_92 : decode cX7_routeAt 92 = .ok (.iconst 0, 1) := by decide +kernel
theorem dX7_routeAt_93 : decode cX7_routeAt 93 = .ok (.ireturn, 1) := by decide +kernel
theorem dX7_routeAt_94 : decode cX7_routeAt 94 = .ok (.aload_n 0, 1) := by decide +kernel
theorem dX7_routeAt_95 : decode cX7_routeAt 95 = .ok (.iload_n 1, 1) := by decide +kernel
theorem dX7_routeAt_96 : decode cX7_routeAt 96 = .ok (.iconst 1, 1) := by decide +kernel
theorem dX7_routeAt_97 : decode cX7_routeAt 97 = .ok (.aload_n 0, 1) := by decide +kernel
theorem dX7_routeAt_98 : decode cX7_routeAt 98 = .ok (.invokevirtual 49, 3) := by decide +kernel
theorem dX7_routeAt_101 : decode cX7_routeAt 101 = .ok (.ishl, 1) := by decide +kernel
theorem dX7_routeAt_102 : decode cX7_routeAt 102 = .ok (.iconst 1, 1) := by decide +kernel
theorem dX7_routeAt_103 : decode cX7_routeAt 103 = .ok (.isub, 1) := by decide +kernel
theorem dX7_routeAt_104 : decode cX7_routeAt 104 = .ok (.invokevirtual 188, 3) := by decide +kernel
theorem dX7_routeAt_107 : decode cX7_routeAt 107 = .ok (.ireturn, 1) := by decide +kernel
theorem dX7_routeAt_108 : decode cX7_routeAt 108 = .ok (.aload_n 0, 1) := by decide +kernel
theorem dX7_routeAt_109 : decode cX7_routeAt 109 = .ok (.iload_n 1, 1) := by decide +kernel
theorem dX7_routeAt_110 : decode cX7_routeAt 110 = .ok (.iload_n 2, 1) := by decide +kernel
theorem dX7_routeAt_111 : decode cX7_routeAt 111 = .ok (.bipush 6, 2) := by decide +kernel
theorem dX7_routeAt_113 : decode cX7_routeAt 113 = .ok (.if_icmp .ne 7, 3) := by decide +kernel
theorem dX7_routeAt_116 : decode cX7_routeAt 116 = .ok (.iconst 1, 1) := by decide +kernel
theorem dX7_routeAt_117 : decode cX7_routeAt 117 = .ok (.goto 4, 3) := by decide +kernel
theorem dX7_routeAt_120 : decode cX7_routeAt 120 = .ok (.iconst 0, 1) := by decide +kernel
theorem dX7_routeAt_121 : decode cX7_routeAt 121 = .ok (.invokevirtual 194, 3) := by decide +kernel
theorem dX7_routeAt_124 : decode cX7_routeAt 124 = .ok (.ireturn, 1) := by decide +kernel
theorem dX7_reaching_0 : decode cX7_reaching 0 = .ok (.iload_n 1, 1) := by decide +kernel
theorem dX7_reaching_1 : decode cX7_reaching 1 = .ok (.invokestatic 80, 3) := by decide +kernel
theorem dX7_reaching_4 : decode cX7_reaching 4 = .ok (.ifCond .ne 5, 3) := by decide +kernel
theorem dX7_reaching_7 : decode cX7_reaching 7 = .ok (.iconst (-1), 1) := by decide +kernel
theorem dX7_reaching_8 : decode cX7_reaching 8 = .ok (.ireturn, 1) := by decide +kernel
theorem dX7_reaching_9 : decode cX7_reaching 9 = .ok (.iconst 0, 1) := by decide +kernel
theorem dX7_reaching_10 : decode cX7_reaching 10 = .ok (.istore_n 3, 1) := by decide +kernel
theorem dX7_reaching_11 : decode cX7_reaching 11 = .ok (.iconst 0, 1) := by decide +kernel
theorem dX7_reaching_12 : decode cX7_reaching 12 = .ok (.istore 4, 2) := by decide +kernel
theorem dX7_reaching_14 : decode cX7_reaching 14 = .ok (.iload 4, 2) := by decide +kernel
theorem dX7_reaching_16 : decode cX7_reaching 16 = .ok (.aload_n 0, 1) := by decide +kernel
theorem dX7_reaching_17 : decode cX7_reaching 17 = .ok (.invokevirtual 49, 3) := by decide +kernel
theorem dX7_reaching_20 : decode cX7_reaching 20 = .ok (.if_icmp .ge 40, 3) := by decide +kernel
theorem dX7_reaching_23 : decode cX7_reaching 23 = .ok (.iload_n 3, 1) := by decide +kernel
theorem dX7_reaching_24 : decode cX7_reaching 24 = .ok (.aload_n 0, 1) := by decide +kernel
theorem dX7_reaching_25 : decode cX7_reaching 25 = .ok (.iload 4, 2) := by decide +kernel
theorem dX7_reaching_27 : decode cX7_reaching 27 = .ok (.iload_n 1, 1) := by decide +kernel
theorem dX7_reaching_28 : decode cX7_reaching 28 = .ok (.invokevirtual 154, 3) := by decide +kernel
theorem dX7_reaching_31 : decode cX7_reaching 31 = .ok (.ifCond .eq 20, 3) := by decide +kernel
theorem dX7_reaching_34 : decode cX7_reaching 34 = .ok (.iload_n 2, 1) := by decide +kernel
theorem dX7_reaching_35 : decode cX7_reaching 35 = .ok (.ifCond .eq 12, 3) := by decide +kernel
theorem dX7_reaching_38 : decode cX7_reaching 38 = .ok (.aload_n 0, 1) := by decide +kernel
theorem dX7_reaching_39 : decode cX7_reaching 39 = .ok (.iload 4, 2) := by decide +kernel
theorem dX7_reaching_41 : decode cX7_reaching 41 = .ok (.invokevirtual 144, 3) := by decide +kernel
theorem dX7_reaching_44 : decode cX7_reaching 44 = .ok (.ifCond .eq 7, 3) := by decide +kernel
theorem dX7_reaching_47 : decode cX7_reaching 47 = .ok (.iconst 1, 1) := by decide +kernel
theorem dX7_reaching_48 : decode cX7_reaching 48 = .ok (.goto 4, 3) := by decide +kernel
theorem dX7_reaching_51 : decode cX7_reaching 51 = .ok (.iconst 0, 1) := by decide +kernel
theorem dX7_reaching_52 : decode cX7_reaching 52 = .ok (.iadd, 1) := by decide +kernel
theorem dX7_reaching_53 : decode cX7_reaching 53 = .ok (.istore_n 3, 1) := by decide +kernel
theorem dX7_reaching_54 : decode cX7_reaching 54 = .ok (.iinc 4 1, 3) := by decide +kernel
theorem dX7_reaching_57 : decode cX7_reaching 57 = .ok (.goto (-43), 3) := by decide +kernel
theorem dX7_reaching_60 : decode cX7_reaching 60 = .ok (.iload_n 3, 1) := by decide +kernel
theorem dX7_reaching_61 : decode cX7_reaching 61 = .ok (.ireturn, 1) := by decide +kernel
theorem dX7_light_0 : decode cX7_light 0 = .ok (.aload_n 0, 1) := by decide +kernel
theorem dX7_light_1 : decode cX7_light 1 = .ok (.iload_n 1, 1) := by decide +kernel
theorem dX7_light_2 : decode cX7_light 2 = .ok (.invokevirtual 94, 3) := by decide +kernel
theorem dX7_light_5 : decode cX7_light 5 = .ok (.ifCond .eq 13, 3) := by decide +kernel
theorem dX7_light_8 : decode cX7_light 8 = .ok (.iload_n 2, 1) := by decide +kernel
theorem dX7_light_9 : decode cX7_light 9 = .ok (.iconst 0, 1) := by decide +kernel
theorem dX7_light_10 : decode cX7_light 10 = .ok (.bipush 12, 2) := by decide +kernel
theorem dX7_light_12 : decode cX7_light 12 = .ok (.invokestatic 53, 3) := by decide +kernel
theorem dX7_light_15 : decode cX7_light 15 = .ok (.ifCond .ne 5, 3) := by decide +kernel
theorem dX7_light_18 : decode cX7_light 18 = .ok (.iconst (-1), 1) := by decide +kernel
theorem dX7_light_19 : decode cX7_light 19 = .ok (.ireturn, 1) := by decide +kernel
theorem dX7_light_20 : decode cX7_light 20 = .ok (.iload_n 2, 1) := by decide +kernel
theorem dX7_light_21 : decode cX7_light 21 = .ok (.tableswitch 97 6 12 #[43, 49, 57, 63, 69, 83, 91], 43) := by decide +kernel
theorem dX7_light_64 : decode cX7_light 64 = .ok (.aload_n 0, 1) := by decide +kernel
theorem dX7_light_65 : decode cX7_light 65 = .ok (.iload_n 1, 1) := by decide +kernel
theorem dX7_light_66 : decode cX7_light 66 = .ok (.invokevirtual 73, 3) := by decide +kernel
theorem dX7_light_69 : decode cX7_light 69 = .ok (.ireturn, 1) := by decide +kernel
theorem dX7_light_70 : decode cX7_light 70 = .ok (.aload_n 0, 1) := by decide +kernel
theorem dX7_light_71 : decode cX7_light 71 = .ok (.iload_n 1, 1) := by decide +kernel
theorem dX7_light_72 : decode cX7_light 72 = .ok (.bipush 6, 2) := by decide +kernel
theorem dX7_light_74 : decode cX7_light 74 = .ok (.invokevirtual 57, 3) := by decide +kernel
theorem dX7_light_77 : decode cX7_light 77 = .ok (.ireturn, 1) := by decide +kernel
theorem dX7_light_78 : decode cX7_light 78 = .ok (.aload_n 0, 1) := by decide +kernel
theorem dX7_light_79 : decode cX7_light 79 = .ok (.iload_n 1, 1) := by decide +kernel
theorem dX7_light_80 : decode cX7_light 80 = .ok (.invokevirtual 64, 3) := by decide +kernel
theorem dX7_light_83 : decode cX7_light 83 = .ok (.ireturn, 1) := by decide +kernel
theorem dX7_light_84 : decode cX7_light 84 = .ok (.aload_n 0, 1) := by decide +kernel
theorem dX7_light_85 : decode cX7_light 85 = .ok (.iload_n 1, 1) := by decide +kernel
theorem dX7_light_86 : decode cX7_light 86 = .ok (.invokevirtual 67, 3) := by decide +kernel
theorem dX7_light_89 : decode cX7_light 89 = .ok (.ireturn, 1) := by decide +kernel
theorem dX7_light_90 : decode cX7_light 90 = .ok (.aload_n 0, 1) := by decide +kernel
theorem dX7_light_91 : decode cX7_light 91 = .ok (.iload_n 1, 1) := by decide +kernel
theorem dX7_light_92 : decode cX7_light 92 = .ok (.invokevirtual 144, 3) := by decide +kernel
theorem dX7_light_95 : decode cX7_light 95 = .ok (.ifCond .eq 7, 3) := by decide +kernel
theorem dX7_light_98 : decode cX7_light 98 = .ok (.iconst 1, 1) := by decide +kernel
theorem dX7_light_99 : decode cX7_light 99 = .ok (.goto 4, 3) := by decide +kernel
theorem dX7_light_102 : decode cX7_light 102 = .ok (.iconst 0, 1) := by decide +kernel
theorem dX7_light_103 : decode cX7_light 103 = .ok (.ireturn, 1) := by decide +kernel
theorem dX7_light_104 : decode cX7_light 104 = .ok (.aload_n 0, 1) := by decide +kernel
theorem dX7_light_105 : decode cX7_light 105 = .ok (.iload_n 1, 1) := by decide +kernel
theorem dX7_light_106 : decode cX7_light 106 = .ok (.bipush 8, 2) := by decide +kernel
theorem dX7_light_108 : decode cX7_light 108 = .ok (.invokevirtual 57, 3) := by decide +kernel
theorem dX7_light_111 : decode cX7_light 111 = .ok (.ireturn, 1) := by decide +kernel
theorem dX7_light_112 : decode cX7_light 112 = .ok (.aload_n 0, 1) := by decide +kernel
theorem dX7_light_113 : decode cX7_light 113 = .ok (.iload_n 1, 1) := by decide +kernel
theorem dX7_light_114 : decode cX7_light 114 = .ok (.invokevirtual 198, 3) := by decide +kernel
theorem dX7_light_117 : decode cX7_light 117 = .ok (.ireturn, 1) := by decide +kernel
theorem dX7_light_118 : decode cX7_light 118 = .ok (.aload_n 0, 1) := by decide +kernel
theorem dX7_light_119 : decode cX7_light 119 = .ok (.iload_n 1, 1) := by decide +kernel
theorem dX7_light_120 : decode cX7_light 120 = .ok (.iload_n 2, 1) := by decide +kernel
theorem dX7_light_121 : decode cX7_light 121 = .ok (.invokevirtual 57, 3) := by decide +kernel
theorem dX7_light_124 : decode cX7_light 124 = .ok (.ireturn, 1) := by decide +kernel
theorem dX7_burntOut_0 : decode cX7_burntOut 0 = .ok (.iconst 0, 1) := by decide +kernel
theorem dX7_burntOut_1 : decode cX7_burntOut 1 = .ok (.istore_n 1, 1) := by decide +kernel
theorem dX7_burntOut_2 : decode cX7_burntOut 2 = .ok (.iconst 0, 1) := by decide +kernel
theorem dX7_burntOut_3 : decode cX7_burntOut 3 = .ok (.istore_n 2, 1) := by decide +kernel
theorem dX7_burntOut_4 : decode cX7_burntOut 4 = .ok (.iload_n 2, 1) := by decide +kernel
theorem dX7_burntOut_5 : decode cX7_burntOut 5 = .ok (.aload_n 0, 1) := by decide +kernel
theorem dX7_burntOut_6 : decode cX7_burntOut 6 = .ok (.invokevirtual 49, 3) := by decide +kernel
theorem dX7_burntOut_9 : decode cX7_burntOut 9 = .ok (.if_icmp .ge 25, 3) := by decide +kernel
theorem dX7_burntOut_12 : decode cX7_burntOut 12 = .ok (.iload_n 1, 1) := by decide +kernel
theorem dX7_burntOut_13 : decode cX7_burntOut 13 = .ok (.aload_n 0, 1) := by decide +kernel
theorem dX7_burntOut_14 : decode cX7_burntOut 14 = .ok (.iload_n 2, 1) := by decide +kernel
theorem dX7_burntOut_15 : decode cX7_burntOut 15 = .ok (.invokevirtual 64, 3) := by decide +kernel
theorem dX7_burntOut_18 : decode cX7_burntOut 18 = .ok (.ifCond .ne 7, 3) := by decide +kernel
theorem dX7_burntOut_21 : decode cX7_burntOut 21 = .ok (.iconst 1, 1) := by decide +kernel
theorem dX7_burntOut_22 : decode cX7_burntOut 22 = .ok (.goto 4, 3) := by decide +kernel
theorem dX7_burntOut_25 : decode cX7_burntOut 25 = .ok (.iconst 0, 1) := by decide +kernel
theorem dX7_burntOut_26 : decode cX7_burntOut 26 = .ok (.iadd, 1) := by decide +kernel
theorem dX7_burntOut_27 : decode cX7_burntOut 27 = .ok (.istore_n 1, 1) := by decide +kernel
theorem dX7_burntOut_28 : decode cX7_burntOut 28 = .ok (.iinc 2 1, 3) := by decide +kernel
theorem dX7_burntOut_31 : decode cX7_burntOut 31 = .ok (.goto (-27), 3) := by decide +kernel
theorem dX7_burntOut_34 : decode cX7_burntOut 34 = .ok (.iload_n 1, 1) := by decide +kernel
theorem dX7_burntOut_35 : decode cX7_burntOut 35 = .ok (.ireturn, 1) := by decide +kernel
theorem dX7_safe_0 : decode cX7_safe 0 = .ok (.aload_n 0, 1) := by decide +kernel
theorem dX7_safe_1 : decode cX7_safe 1 = .ok (.invokevirtual 164, 3) := by decide +kernel
theorem dX7_safe_4 : decode cX7_safe 4 = .ok (.iconst 0, 1) := by decide +kernel
theorem dX7_safe_5 : decode cX7_safe 5 = .ok (.istore_n 1, 1) := by decide +kernel
theorem dX7_safe_6 : decode cX7_safe 6 = .ok (.iconst 0, 1) := by decide +kernel
theorem dX7_safe_7 : decode cX7_safe 7 = .ok (.istore_n 2, 1) := by decide +kernel
theorem dX7_safe_8 : decode cX7_safe 8 = .ok (.iload_n 2, 1) := by decide +kernel
theorem dX7_safe_9 : decode cX7_safe 9 = .ok (.aload_n 0, 1) := by decide +kernel
theorem dX7_safe_10 : decode cX7_safe 10 = .ok (.getfield 7, 3) := by decide +kernel
theorem dX7_safe_13 : decode cX7_safe 13 = .ok (.bipush 91, 2) := by decide +kernel
theorem dX7_safe_15 : decode cX7_safe 15 = .ok (.iaload, 1) := by decide +kernel
theorem dX7_safe_16 : decode cX7_safe 16 = .ok (.if_icmp .ge 25, 3) := by decide +kernel
theorem dX7_safe_19 : decode cX7_safe 19 = .ok (.iload_n 1, 1) := by decide +kernel
theorem dX7_safe_20 : decode cX7_safe 20 = .ok (.aload_n 0, 1) := by decide +kernel
theorem dX7_safe_21 : decode cX7_safe 21 = .ok (.iload_n 2, 1) := by decide +kernel
theorem dX7_safe_22 : decode cX7_safe 22 = .ok (.invokevirtual 158, 3) := by decide +kernel
theorem dX7_safe_25 : decode cX7_safe 25 = .ok (.ifCond .ne 7, 3) := by decide +kernel
theorem dX7_safe_28 : decode cX7_safe 28 = .ok (.iconst 1, 1) := by decide +kernel
theorem dX7_safe_29 : decode cX7_safe 29 = .ok (.goto 4, 3) := by decide +kernel
theorem dX7_safe_32 : decode cX7_safe 32 = .ok (.iconst 0, 1) := by decide +kernel
theorem dX7_safe_33 : decode cX7_safe 33 = .ok (.iadd, 1) := by decide +kernel
theorem dX7_safe_34 : decode cX7_safe 34 = .ok (.istore_n 1, 1) := by decide +kernel
theorem dX7_safe_35 : decode cX7_safe 35 = .ok (.iinc 2 1, 3) := by decide +kernel
theorem dX7_safe_38 : decode cX7_safe 38 = .ok (.goto (-30), 3) := by decide +kernel
theorem dX7_safe_41 : decode cX7_safe 41 = .ok (.iload_n 1, 1) := by decide +kernel
theorem dX7_safe_42 : decode cX7_safe 42 = .ok (.ireturn, 1) := by decide +kernel
theorem dX7_told_0 : decode cX7_told 0 = .ok (.iload_n 1, 1) := by decide +kernel
theorem dX7_told_1 : decode cX7_told 1 = .ok (.tableswitch 154 0 13 #[71, 76, 81, 89, 94, 102, 110, 110, 110, 123, 128, 136, 144, 149], 71) := by decide +kernel
theorem dX7_told_72 : decode cX7_told 72 = .ok (.aload_n 0, 1) := by decide +kernel
theorem dX7_told_73 : decode cX7_told 73 = .ok (.invokevirtual 49, 3) := by decide +kernel
theorem dX7_told_76 : decode cX7_told 76 = .ok (.ireturn, 1) := by decide +kernel
theorem dX7_told_77 : decode cX7_told 77 = .ok (.aload_n 0, 1) := by decide +kernel
theorem dX7_told_78 : decode cX7_told 78 = .ok (.invokevirtual 151, 3) := by decide +kernel
theorem dX7_told_81 : decode cX7_told 81 = .ok (.ireturn, 1) := by decide +kernel
theorem dX7_told_82 : decode cX7_told 82 = .ok (.aload_n 0, 1) := by decide +kernel
theorem dX7_told_83 : decode cX7_told 83 = .ok (.getfield 7, 3) := by decide +kernel
theorem dX7_told_86 : decode cX7_told 86 = .ok (.bipush 91, 2) := by decide +kernel
theorem dX7_told_88 : decode cX7_told 88 = .ok (.iaload, 1) := by decide +kernel
theorem dX7_told_89 : decode cX7_told 89 = .ok (.ireturn, 1) := by decide +kernel
theorem dX7_told_90 : decode cX7_told 90 = .ok (.aload_n 0, 1) := by decide +kernel
theorem dX7_told_91 : decode cX7_told 91 = .ok (.invokevirtual 201, 3) := by decide +kernel
theorem dX7_told_94 : decode cX7_told 94 = .ok (.ireturn, 1) := by decide +kernel
theorem dX7_told_95 : decode cX7_told 95 = .ok (.aload_n 0, 1) := by decide +kernel
theorem dX7_told_96 : decode cX7_told 96 = .ok (.getfield 7, 3) := by decide +kernel
theorem dX7_told_99 : decode cX7_told 99 = .ok (.bipush 104, 2) := by decide +kernel
theorem dX7_told_101 : decode cX7_told 101 = .ok (.iaload, 1) := by decide +kernel
theorem dX7_told_102 : decode cX7_told 102 = .ok (.ireturn, 1) := by decide +kernel
theorem dX7_told_103 : decode cX7_told 103 = .ok (.aload_n 0, 1) := by decide +kernel
theorem dX7_told_104 : decode cX7_told 104 = .ok (.getfield 7, 3) := by decide +kernel
theorem dX7_told_107 : decode cX7_told 107 = .ok (.bipush 105, 2) := by decide +kernel
theorem dX7_told_109 : decode cX7_told 109 = .ok (.iaload, 1) := by decide +kernel
theorem dX7_told_110 : decode cX7_told 110 = .ok (.ireturn, 1) := by decide +kernel
theorem dX7_told_111 : decode cX7_told 111 = .ok (.aload_n 0, 1) := by decide +kernel
theorem dX7_told_112 : decode cX7_told 112 = .ok (.getfield 7, 3) := by decide +kernel
theorem dX7_told_115 : decode cX7_told 115 = .ok (.bipush 106, 2) := by decide +kernel
theorem dX7_told_117 : decode cX7_told 117 = .ok (.iload_n 1, 1) := by decide +kernel
theorem dX7_told_118 : decode cX7_told 118 = .ok (.iadd, 1) := by decide +kernel
theorem dX7_told_119 : decode cX7_told 119 = .ok (.bipush 6, 2) := by decide +kernel
theorem dX7_told_121 : decode cX7_told 121 = .ok (.isub, 1) := by decide +kernel
theorem dX7_told_122 : decode cX7_told 122 = .ok (.iaload, 1) := by decide +kernel
theorem dX7_told_123 : decode cX7_told 123 = .ok (.ireturn, 1) := by decide +kernel
theorem dX7_told_124 : decode cX7_told 124 = .ok (.aload_n 0, 1) := by decide +kernel
theorem dX7_told_125 : decode cX7_told 125 = .ok (.invokevirtual 204, 3) := by decide +kernel
theorem dX7_told_128 : decode cX7_told 128 = .ok (.ireturn, 1) := by decide +kernel
theorem dX7_told_129 : decode cX7_told 129 = .ok (.aload_n 0, 1) := by decide +kernel
theorem dX7_told_130 : decode cX7_told 130 = .ok (.getfield 7, 3) := by decide +kernel
theorem dX7_told_133 : decode cX7_told 133 = .ok (.bipush 109, 2) := by decide +kernel
theorem dX7_told_135 : decode cX7_told 135 = .ok (.iaload, 1) := by decide +kernel
theorem dX7_told_136 : decode cX7_told 136 = .ok (.ireturn, 1) := by decide +kernel
theorem dX7_told_137 : decode cX7_told 137 = .ok (.aload_n 0, 1) := by decide +kernel
theorem dX7_told_138 : decode cX7_told 138 = .ok (.getfield 7, 3) := by decide +kernel
theorem dX7_told_141 : decode cX7_told 141 = .ok (.bipush 110, 2) := by decide +kernel
theorem dX7_told_143 : decode cX7_told 143 = .ok (.iaload, 1) := by decide +kernel
theorem dX7_told_144 : decode cX7_told 144 = .ok (.ireturn, 1) := by decide +kernel
theorem dX7_told_145 : decode cX7_told 145 = .ok (.aload_n 0, 1) := by decide +kernel
theorem dX7_told_146 : decode cX7_told 146 = .ok (.getfield 100, 3) := by decide +kernel
theorem dX7_told_149 : decode cX7_told 149 = .ok (.ireturn, 1) := by decide +kernel
theorem dX7_told_150 : decode cX7_told 150 = .ok (.aload_n 0, 1) := by decide +kernel
theorem dX7_told_151 : decode cX7_told 151 = .ok (.getfield 41, 3) := by decide +kernel
theorem dX7_told_154 : decode cX7_told 154 = .ok (.ireturn, 1) := by decide +kernel
theorem dX7_told_155 : decode cX7_told 155 = .ok (.iconst (-1), 1) := by decide +kernel
theorem dX7_told_156 : decode cX7_told 156 = .ok (.ireturn, 1) := by decide +kernel
theorem dX7_undo_0 : decode cX7_undo 0 = .ok (.aload_n 0, 1) := by decide +kernel
theorem dX7_undo_1 : decode cX7_undo 1 = .ok (.getfield 41, 3) := by decide +kernel
theorem dX7_undo_4 : decode cX7_undo 4 = .ok (.ifCond .ne 6, 3) := by decide +kernel
theorem dX7_undo_7 : decode cX7_undo 7 = .ok (.bipush (-2), 2) := by decide +kernel
theorem dX7_undo_9 : decode cX7_undo 9 = .ok (.ireturn, 1) := by decide +kernel
theorem dX7_undo_10 : decode cX7_undo 10 = .ok (.iconst 0, 1) := by decide +kernel
theorem dX7_undo_11 : decode cX7_undo 11 = .ok (.istore_n 1, 1) := by decide +kernel
theorem dX7_undo_12 : decode cX7_undo 12 = .ok (.iload_n 1, 1) := by decide +kernel
theorem dX7_undo_13 : decode cX7_undo 13 = .ok (.bipush 111, 2) := by decide +kernel
theorem dX7_undo_15 : decode cX7_undo 15 = .ok (.if_icmp .ge 29, 3) := by decide +kernel
theorem dX7_undo_18 : decode cX7_undo 18 = .ok (.aload_n 0, 1) := by decide +kernel
theorem dX7_undo_19 : decode cX7_undo 19 = .ok (.getfield 7, 3) := by decide +kernel
theorem dX7_undo_22 : decode cX7_undo 22 = .ok (.iload_n 1, 1) := by decide +kernel
theorem dX7_undo_23 : decode cX7_undo 23 = .ok (.aload_n 0, 1) := by decide +kernel
theorem dX7_undo_24 : decode cX7_undo 24 = .ok (.getfield 7, 3) := by decide +kernel
theorem dX7_undo_27 : decode cX7_undo 27 = .ok (.bipush 111, 2) := by decide +kernel
theorem dX7_undo_29 : decode cX7_undo 29 = .ok (.aload_n 0, 1) := by decide +kernel
theorem dX7_undo_30 : decode cX7_undo 30 = .ok (.getfield 41, 3) := by decide +kernel
theorem dX7_undo_33 : decode cX7_undo 33 = .ok (.imul, 1) := by decide +kernel
theorem dX7_undo_34 : decode cX7_undo 34 = .ok (.iload_n 1, 1) := by decide +kernel
theorem dX7_undo_35 : decode cX7_undo 35 = .ok (.iadd, 1) := by decide +kernel
theorem dX7_undo_36 : decode cX7_undo 36 = .ok (.iaload, 1) := by decide +kernel
theorem dX7_undo_37 : decode cX7_undo 37 = .ok (.iastore, 1) := by decide +kernel
theorem dX7_undo_38 : decode cX7_undo 38 = .ok (.iinc 1 1, 3) := by decide +kernel
theorem dX7_undo_41 : decode cX7_undo 41 = .ok (.goto (-29), 3) := by decide +kernel
theorem dX7_undo_44 : decode cX7_undo 44 = .ok (.aload_n 0, 1) := by decide +kernel
theorem dX7_undo_45 : decode cX7_undo 45 = .ok (.dup, 1) := by decide +kernel
theorem dX7_undo_46 : decode cX7_undo 46 = .ok (.getfield 41, 3) := by decide +kernel
theorem dX7_undo_49 : decode cX7_undo 49 = .ok (.iconst 1, 1) := by decide +kernel
theorem dX7_undo_50 : decode cX7_undo 50 = .ok (.isub, 1) := by decide +kernel
theorem dX7_undo_51 : decode cX7_undo 51 = .ok (.putfield 41, 3) := by decide +kernel
theorem dX7_undo_54 : decode cX7_undo 54 = .ok (.aload_n 0, 1) := by decide +kernel
theorem dX7_undo_55 : decode cX7_undo 55 = .ok (.getfield 41, 3) := by decide +kernel
theorem dX7_undo_58 : decode cX7_undo 58 = .ok (.ireturn, 1) := by decide +kernel
theorem dX7_mixedPlan_0 : decode cX7_mixedPlan 0 = .ok (.aload_n 0, 1) := by decide +kernel
theorem dX7_mixedPlan_1 : decode cX7_mixedPlan 1 = .ok (.invokevirtual 176, 3) := by decide +kernel
theorem dX7_mixedPlan_4 : decode cX7_mixedPlan 4 = .ok (.ldc2_w 207, 3) := by decide +kernel
theorem dX7_mixedPlan_7 : decode cX7_mixedPlan 7 = .ok (.lload_n 1, 1) := by decide +kernel
theorem dX7_mixedPlan_8 : decode cX7_mixedPlan 8 = .ok (.lmul, 1) := by decide +kernel
theorem dX7_mixedPlan_9 : decode cX7_mixedPlan 9 = .ok (.aload_n 0, 1) := by decide +kernel
theorem dX7_mixedPlan_10 : decode cX7_mixedPlan 10 = .ok (.invokevirtual 179, 3) := by decide +kernel
theorem dX7_mixedPlan_13 : decode cX7_mixedPlan 13 = .ok (.i2l, 1) := by decide +kernel
theorem dX7_mixedPlan_14 : decode cX7_mixedPlan 14 = .ok (.ladd, 1) := by decide +kernel
theorem dX7_mixedPlan_15 : decode cX7_mixedPlan 15 = .ok (.lstore_n 3, 1) := by decide +kernel
theorem dX7_mixedPlan_16 : decode cX7_mixedPlan 16 = .ok (.iconst 0, 1) := by decide +kernel
theorem dX7_mixedPlan_17 : decode cX7_mixedPlan 17 = .ok (.istore 5, 2) := by decide +kernel
theorem dX7_mixedPlan_19 : decode cX7_mixedPlan 19 = .ok (.iload 5, 2) := by decide +kernel
theorem dX7_mixedPlan_21 : decode cX7_mixedPlan 21 = .ok (.aload_n 0, 1) := by decide +kernel
theorem dX7_mixedPlan_22 : decode cX7_mixedPlan 22 = .ok (.invokevirtual 179, 3) := by decide +kernel
theorem dX7_mixedPlan_25 : decode cX7_mixedPlan 25 = .ok (.if_icmp .ge 23, 3) := by decide +kernel
theorem dX7_mixedPlan_28 : decode cX7_mixedPlan 28 = .ok (.ldc2_w 207, 3) := by decide +kernel
theorem dX7_mixedPlan_31 : decode cX7_mixedPlan 31 = .ok (.lload_n 3, 1) := by decide +kernel
theorem dX7_mixedPlan_32 : decode cX7_mixedPlan 32 = .ok (.lmul, 1) := by decide +kernel
theorem dX7_mixedPlan_33 : decode cX7_mixedPlan 33 = .ok (.aload_n 0, 1) := by decide +kernel
theorem dX7_mixedPlan_34 : decode cX7_mixedPlan 34 = .ok (.iload 5, 2) := by decide +kernel
theorem dX7_mixedPlan_36 : decode cX7_mixedPlan 36 = .ok (.invokevirtual 182, 3) := by decide +kernel
theorem dX7_mixedPlan_39 : decode cX7_mixedPlan 39 = .ok (.i2l, 1) := by decide +kernel
theorem dX7_mixedPlan_40 : decode cX7_mixedPlan 40 = .ok (.ladd, 1) := by decide +kernel
theorem dX7_mixedPlan_41 : decode cX7_mixedPlan 41 = .ok (.lstore_n 3, 1) := by decide +kernel
theorem dX7_mixedPlan_42 : decode cX7_mixedPlan 42 = .ok (.iinc 5 1, 3) := by decide +kernel
theorem dX7_mixedPlan_45 : decode cX7_mixedPlan 45 = .ok (.goto (-26), 3) := by decide +kernel
theorem dX7_mixedPlan_48 : decode cX7_mixedPlan 48 = .ok (.lload_n 3, 1) := by decide +kernel
theorem dX7_mixedPlan_49 : decode cX7_mixedPlan 49 = .ok (.lreturn, 1) := by decide +kernel
theorem dX7_digest_0 : decode cX7_digest 0 = .ok (.ldc2_w 209, 3) := by decide +kernel
theorem dX7_digest_3 : decode cX7_digest 3 = .ok (.lstore_n 1, 1) := by decide +kernel
theorem dX7_digest_4 : decode cX7_digest 4 = .ok (.iconst 0, 1) := by decide +kernel
theorem dX7_digest_5 : decode cX7_digest 5 = .ok (.istore_n 3, 1) := by decide +kernel
theorem dX7_digest_6 : decode cX7_digest 6 = .ok (.iload_n 3, 1) := by decide +kernel
theorem dX7_digest_7 : decode cX7_digest 7 = .ok (.bipush 13, 2) := by decide +kernel
theorem dX7_digest_9 : decode cX7_digest 9 = .ok (.if_icmp .gt 22, 3) := by decide +kernel
theorem dX7_digest_12 : decode cX7_digest 12 = .ok (.ldc2_w 207, 3) := by decide +kernel
theorem dX7_digest_15 : decode cX7_digest 15 = .ok (.lload_n 1, 1) := by decide +kernel
theorem dX7_digest_16 : decode cX7_digest 16 = .ok (.lmul, 1) := by decide +kernel
theorem dX7_digest_17 : decode cX7_digest 17 = .ok (.aload_n 0, 1) := by decide +kernel
theorem dX7_digest_18 : decode cX7_digest 18 = .ok (.iload_n 3, 1) := by decide +kernel
theorem dX7_digest_19 : decode cX7_digest 19 = .ok (.invokevirtual 211, 3) := by decide +kernel
theorem dX7_digest_22 : decode cX7_digest 22 = .ok (.i2l, 1) := by decide +kernel
theorem dX7_digest_23 : decode cX7_digest 23 = .ok (.ladd, 1) := by decide +kernel
theorem dX7_digest_24 : decode cX7_digest 24 = .ok (.lstore_n 1, 1) := by decide +kernel
theorem dX7_digest_25 : decode cX7_digest 25 = .ok (.iinc 3 1, 3) := by decide +kernel
theorem dX7_digest_28 : decode cX7_digest 28 = .ok (.goto (-22), 3) := by decide +kernel
theorem dX7_digest_31 : decode cX7_digest 31 = .ok (.iconst 0, 1) := by decide +kernel
theorem dX7_digest_32 : decode cX7_digest 32 = .ok (.istore_n 3, 1) := by decide +kernel
theorem dX7_digest_33 : decode cX7_digest 33 = .ok (.iload_n 3, 1) := by decide +kernel
theorem dX7_digest_34 : decode cX7_digest 34 = .ok (.aload_n 0, 1) := by decide +kernel
theorem dX7_digest_35 : decode cX7_digest 35 = .ok (.invokevirtual 49, 3) := by decide +kernel
theorem dX7_digest_38 : decode cX7_digest 38 = .ok (.if_icmp .ge 40, 3) := by decide +kernel
theorem dX7_digest_41 : decode cX7_digest 41 = .ok (.iconst 0, 1) := by decide +kernel
theorem dX7_digest_42 : decode cX7_digest 42 = .ok (.istore 4, 2) := by decide +kernel
theorem dX7_digest_44 : decode cX7_digest 44 = .ok (.iload 4, 2) := by decide +kernel
theorem dX7_digest_46 : decode cX7_digest 46 = .ok (.bipush 12, 2) := by decide +kernel
theorem dX7_digest_48 : decode cX7_digest 48 = .ok (.if_icmp .gt 24, 3) := by decide +kernel
theorem dX7_digest_51 : decode cX7_digest 51 = .ok (.ldc2_w 207, 3) := by decide +kernel
theorem dX7_digest_54 : decode cX7_digest 54 = .ok (.lload_n 1, 1) := by decide +kernel
theorem dX7_digest_55 : decode cX7_digest 55 = .ok (.lmul, 1) := by decide +kernel
theorem dX7_digest_56 : decode cX7_digest 56 = .ok (.aload_n 0, 1) := by decide +kernel
theorem dX7_digest_57 : decode cX7_digest 57 = .ok (.iload_n 3, 1) := by decide +kernel
theorem dX7_digest_58 : decode cX7_digest 58 = .ok (.iload 4, 2) := by decide +kernel
theorem dX7_digest_60 : decode cX7_digest 60 = .ok (.invokevirtual 214, 3) := by decide +kernel
theorem dX7_digest_63 : decode cX7_digest 63 = .ok (.i2l, 1) := by decide +kernel
theorem dX7_digest_64 : decode cX7_digest 64 = .ok (.ladd, 1) := by decide +kernel
theorem dX7_digest_65 : decode cX7_digest 65 = .ok (.lstore_n 1, 1) := by decide +kernel
theorem dX7_digest_66 : decode cX7_digest 66 = .ok (.iinc 4 1, 3) := by decide +kernel
theorem dX7_digest_69 : decode cX7_digest 69 = .ok (.goto (-25), 3) := by decide +kernel
theorem dX7_digest_72 : decode cX7_digest 72 = .ok (.iinc 3 1, 3) := by decide +kernel
theorem dX7_digest_75 : decode cX7_digest 75 = .ok (.goto (-42), 3) := by decide +kernel
theorem dX7_digest_78 : decode cX7_digest 78 = .ok (.iconst 0, 1) := by decide +kernel
theorem dX7_digest_79 : decode cX7_digest 79 = .ok (.istore_n 3, 1) := by decide +kernel
theorem dX7_digest_80 : decode cX7_digest 80 = .ok (.iload_n 3, 1) := by decide +kernel
theorem dX7_digest_81 : decode cX7_digest 81 = .ok (.aload_n 0, 1) := by decide +kernel
theorem dX7_digest_82 : decode cX7_digest 82 = .ok (.getfield 7, 3) := by decide +kernel
theorem dX7_digest_85 : decode cX7_digest 85 = .ok (.bipush 91, 2) := by decide +kernel
theorem dX7_digest_87 : decode cX7_digest 87 = .ok (.iaload, 1) := by decide +kernel
theorem dX7_digest_88 : decode cX7_digest 88 = .ok (.if_icmp .ge 40, 3) := by decide +kernel
theorem dX7_digest_91 : decode cX7_digest 91 = .ok (.iconst 0, 1) := by decide +kernel
theorem dX7_digest_92 : decode cX7_digest 92 = .ok (.istore 4, 2) := by decide +kernel
theorem dX7_digest_94 : decode cX7_digest 94 = .ok (.iload 4, 2) := by decide +kernel
theorem dX7_digest_96 : decode cX7_digest 96 = .ok (.bipush 6, 2) := by decide +kernel
theorem dX7_digest_98 : decode cX7_digest 98 = .ok (.if_icmp .gt 24, 3) := by decide +kernel
theorem dX7_digest_101 : decode cX7_digest 101 = .ok (.ldc2_w 207, 3) := by decide +kernel
theorem dX7_digest_104 : decode cX7_digest 104 = .ok (.lload_n 1, 1) := by decide +kernel
theorem dX7_digest_105 : decode cX7_digest 105 = .ok (.lmul, 1) := by decide +kernel
theorem dX7_digest_106 : decode cX7_digest 106 = .ok (.aload_n 0, 1) := by decide +kernel
theorem dX7_digest_107 : decode cX7_digest 107 = .ok (.iload_n 3, 1) := by decide +kernel
theorem dX7_digest_108 : decode cX7_digest 108 = .ok (.iload 4, 2) := by decide +kernel
theorem dX7_digest_110 : decode cX7_digest 110 = .ok (.invokevirtual 217, 3) := by decide +kernel
theorem dX7_digest_113 : decode cX7_digest 113 = .ok (.i2l, 1) := by decide +kernel
theorem dX7_digest_114 : decode cX7_digest 114 = .ok (.ladd, 1) := by decide +kernel
theorem dX7_digest_115 : decode cX7_digest 115 = .ok (.lstore_n 1, 1) := by decide +kernel
theorem dX7_digest_116 : decode cX7_digest 116 = .ok (.iinc 4 1, 3) := by decide +kernel
theorem dX7_digest_119 : decode cX7_digest 119 = .ok (.goto (-25), 3) := by decide +kernel
theorem dX7_digest_122 : decode cX7_digest 122 = .ok (.iinc 3 1, 3) := by decide +kernel
theorem dX7_digest_125 : decode cX7_digest 125 = .ok (.goto (-45), 3) := by decide +kernel
theorem dX7_digest_128 : decode cX7_digest 128 = .ok (.aload_n 0, 1) := by decide +kernel
theorem dX7_digest_129 : decode cX7_digest 129 = .ok (.lload_n 1, 1) := by decide +kernel
theorem dX7_digest_130 : decode cX7_digest 130 = .ok (.invokevirtual 220, 3) := by decide +kernel
theorem dX7_digest_133 : decode cX7_digest 133 = .ok (.lstore_n 1, 1) := by decide +kernel
theorem dX7_digest_134 : decode cX7_digest 134 = .ok (.iconst 0, 1) := by decide +kernel
theorem dX7_digest_135 : decode cX7_digest 135 = .ok (.istore_n 3, 1) := by decide +kernel
theorem dX7_digest_136 : decode cX7_digest 136 = .ok (.iload_n 3, 1) := by decide +kernel
theorem dX7_digest_137 : decode cX7_digest 137 = .ok (.sipush 200, 3) := by decide +kernel
theorem dX7_digest_140 : decode cX7_digest 140 = .ok (.if_icmp .gt 37, 3) := by decide +kernel
theorem dX7_digest_143 : decode cX7_digest 143 = .ok (.ldc2_w 207, 3) := by decide +kernel
theorem dX7_digest_146 : decode cX7_digest 146 = .ok (.lload_n 1, 1) := by decide +kernel
theorem dX7_digest_147 : decode cX7_digest 147 = .ok (.lmul, 1) := by decide +kernel
theorem dX7_digest_148 : decode cX7_digest 148 = .ok (.aload_n 0, 1) := by decide +kernel
theorem dX7_digest_149 : decode cX7_digest 149 = .ok (.iload_n 3, 1) := by decide +kernel
theorem dX7_digest_150 : decode cX7_digest 150 = .ok (.iconst 0, 1) := by decide +kernel
theorem dX7_digest_151 : decode cX7_digest 151 = .ok (.invokevirtual 224, 3) := by decide +kernel
theorem dX7_digest_154 : decode cX7_digest 154 = .ok (.i2l, 1) := by decide +kernel
theorem dX7_digest_155 : decode cX7_digest 155 = .ok (.ladd, 1) := by decide +kernel
theorem dX7_digest_156 : decode cX7_digest 156 = .ok (.lstore_n 1, 1) := by decide +kernel
theorem dX7_digest_157 : decode cX7_digest 157 = .ok (.ldc2_w 207, 3) := by decide +kernel
theorem dX7_digest_160 : decode cX7_digest 160 = .ok (.lload_n 1, 1) := by decide +kernel
theorem dX7_digest_161 : decode cX7_digest 161 = .ok (.lmul, 1) := by decide +kernel
theorem dX7_digest_162 : decode cX7_digest 162 = .ok (.aload_n 0, 1) := by decide +kernel
theorem dX7_digest_163 : decode cX7_digest 163 = .ok (.iload_n 3, 1) := by decide +kernel
theorem dX7_digest_164 : decode cX7_digest 164 = .ok (.iconst 1, 1) := by decide +kernel
theorem dX7_digest_165 : decode cX7_digest 165 = .ok (.invokevirtual 224, 3) := by decide +kernel
theorem dX7_digest_168 : decode cX7_digest 168 = .ok (.i2l, 1) := by decide +kernel
theorem dX7_digest_169 : decode cX7_digest 169 = .ok (.ladd, 1) := by decide +kernel
theorem dX7_digest_170 : decode cX7_digest 170 = .ok (.lstore_n 1, 1) := by decide +kernel
theorem dX7_digest_171 : decode cX7_digest 171 = .ok (.iinc 3 5, 3) := by decide +kernel
theorem dX7_digest_174 : decode cX7_digest 174 = .ok (.goto (-38), 3) := by decide +kernel
theorem dX7_digest_177 : decode cX7_digest 177 = .ok (.lload_n 1, 1) := by decide +kernel
theorem dX7_digest_178 : decode cX7_digest 178 = .ok (.lreturn, 1) := by decide +kernel
theorem dL_law_0 : decode cL_law 0 = .ok (.new 7, 3) := by decide +kernel
theorem dL_law_3 : decode cL_law 3 = .ok (.dup, 1) := by decide +kernel
theorem dL_law_4 : decode cL_law 4 = .ok (.invokespecial 9, 3) := by decide +kernel
theorem dL_law_7 : decode cL_law 7 = .ok (.astore_n 1, 1) := by decide +kernel
theorem dL_law_8 : decode cL_law 8 = .ok (.new 10, 3) := by decide +kernel
theorem dL_law_11 : decode cL_law 11 = .ok (.dup, 1) := by decide +kernel
theorem dL_law_12 : decode cL_law 12 = .ok (.invokespecial 12, 3) := by decide +kernel
theorem dL_law_15 : decode cL_law 15 = .ok (.astore_n 2, 1) := by decide +kernel
theorem dL_law_16 : decode cL_law 16 = .ok (.iconst 0, 1) := by decide +kernel
theorem dL_law_17 : decode cL_law 17 = .ok (.istore_n 3, 1) := by decide +kernel
theorem dL_law_18 : decode cL_law 18 = .ok (.iload_n 3, 1) := by decide +kernel
theorem dL_law_19 : decode cL_law 19 = .ok (.aload_n 0, 1) := by decide +kernel
theorem dL_law_20 : decode cL_law 20 = .ok (.arraylength, 1) := by decide +kernel
theorem dL_law_21 : decode cL_law 21 = .ok (.iconst 5, 1) := by decide +kernel
theorem dL_law_22 : decode cL_law 22 = .ok (.isub, 1) := by decide +kernel
theorem dL_law_23 : decode cL_law 23 = .ok (.if_icmp .gt 906, 3) := by decide +kernel
theorem dL_law_26 : decode cL_law 26 = .ok (.aload_n 0, 1) := by decide +kernel
theorem dL_law_27 : decode cL_law 27 = .ok (.iload_n 3, 1) := by decide +kernel
theorem dL_law_28 : decode cL_law 28 = .ok (.iaload, 1) := by decide +kernel
theorem dL_law_29 : decode cL_law 29 = .ok (.bipush 31, 2) := by decide +kernel
theorem dL_law_31 : decode cL_law 31 = .ok (.iand, 1) := by decide +kernel
theorem dL_law_32 : decode cL_law 32 = .ok (.tableswitch 891 0 27 #[128, 151, 164, 177, 230, 253, 302, 335, 358, 381, 414, 447, 480, 503, 526, 549, 598, 611, 644, 677, 726, 749, 762, 785, 818, 841, 864, 877], 128) := by decide +kernel
theorem dL_law_160 : decode cL_law 160 = .ok (.aload_n 1, 1) := by decide +kernel
theorem dL_law_161 : decode cL_law 161 = .ok (.aload_n 0, 1) := by decide +kernel
theorem dL_law_162 : decode cL_law 162 = .ok (.iload_n 3, 1) := by decide +kernel
theorem dL_law_163 : decode cL_law 163 = .ok (.iconst 1, 1) := by decide +kernel
theorem dL_law_164 : decode cL_law 164 = .ok (.iadd, 1) := by decide +kernel
theorem dL_law_165 : decode cL_law 165 = .ok (.iaload, 1) := by decide +kernel
theorem dL_law_166 : decode cL_law 166 = .ok (.invokevirtual 13, 3) := by decide +kernel
theorem dL_law_169 : decode cL_law 169 = .ok (.aload_n 2, 1) := by decide +kernel
theorem dL_law_170 : decode cL_law 170 = .ok (.aload_n 0, 1) := by decide +kernel
theorem dL_law_171 : decode cL_law 171 = .ok (.iload_n 3, 1) := by decide +kernel
theorem dL_law_172 : decode cL_law 172 = .ok (.iconst 1, 1) := by decide +kernel
theorem dL_law_173 : decode cL_law 173 = .ok (.iadd, 1) := by decide +kernel
theorem dL_law_174 : decode cL_law 174 = .ok (.iaload, 1) := by decide +kernel
theorem dL_law_175 : decode cL_law 175 = .ok (.invokevirtual 17, 3) := by decide +kernel
theorem dL_law_178 : decode cL_law 178 = .ok (.if_icmp .eq 745, 3) := by decide +kernel
theorem dL_law_181 : decode cL_law 181 = .ok (.iconst 0, 1) := by decide +kernel
theorem dL_law_182 : decode cL_law 182 = .ok (.ireturn, 1) := by decide +kernel
theorem dL_law_183 : decode cL_law 183 = .ok (.aload_n 1, 1) := by decide +kernel
theorem dL_law_184 : decode cL_law 184 = .ok (.invokevirtual 18, 3) := by decide +kernel
theorem dL_law_187 : decode cL_law 187 = .ok (.aload_n 2, 1) := by decide +kernel
theorem dL_law_188 : decode cL_law 188 = .ok (.invokevirtual 22, 3) := by decide +kernel
theorem dL_law_191 : decode cL_law 191 = .ok (.if_icmp .eq 732, 3) := by decide +kernel
theorem dL_law_194 : decode cL_law 194 = .ok (.iconst 0, 1) := by decide +kernel
theorem dL_law_195 : decode cL_law 195 = .ok (.ireturn, 1) := by decide +kernel
theorem dL_law_196 : decode cL_law 196 = .ok (.aload_n 1, 1) := by decide +kernel
theorem dL_law_197 : decode cL_law 197 = .ok (.invokevirtual 23, 3) := by decide +kernel
theorem dL_law_200 : decode cL_law 200 = .ok (.aload_n 2, 1) := by decide +kernel
theorem dL_law_201 : decode cL_law 201 = .ok (.invokevirtual 26, 3) := by decide +kernel
theorem dL_law_204 : decode cL_law 204 = .ok (.if_icmp .eq 719, 3) := by decide +kernel
theorem dL_law_207 : decode cL_law 207 = .ok (.iconst 0, 1) := by decide +kernel
theorem dL_law_208 : decode cL_law 208 = .ok (.ireturn, 1) := by decide +kernel
theorem dL_law_209 : decode cL_law 209 = .ok (.aload_n 1, 1) := by decide +kernel
theorem dL_law_210 : decode cL_law 210 = .ok (.aload_n 0, 1) := by decide +kernel
theorem dL_law_211 : decode cL_law 211 = .ok (.iload_n 3, 1) := by decide +kernel
theorem dL_law_212 : decode cL_law 212 = .ok (.iconst 1, 1) := by decide +kernel
theorem dL_law_213 : decode cL_law 213 = .ok (.iadd, 1) := by decide +kernel
theorem dL_law_214 : decode cL_law 214 = .ok (.iaload, 1) := by decide +kernel
theorem dL_law_215 : decode cL_law 215 = .ok (.aload_n 0, 1) := by decide +kernel
theorem dL_law_216 : decode cL_law 216 = .ok (.iload_n 3, 1) := by decide +kernel
theorem dL_law_217 : decode cL_law 217 = .ok (.iconst 2, 1) := by decide +kernel
theorem dL_law_218 : decode cL_law 218 = .ok (.iadd, 1) := by decide +kernel
theorem dL_law_219 : decode cL_law 219 = .ok (.iaload, 1) := by decide +kernel
theorem dL_law_220 : decode cL_law 220 = .ok (.aload_n 0, 1) := by decide +kernel
theorem dL_law_221 : decode cL_law 221 = .ok (.iload_n 3, 1) := by decide +kernel
theorem dL_law_222 : decode cL_law 222 = .ok (.iconst 3, 1) := by decide +kernel
theorem dL_law_223 : decode cL_law 223 = .ok (.iadd, 1) := by decide +kernel
theorem dL_law_224 : decode cL_law 224 = .ok (.iaload, 1) := by decide +kernel
theorem dL_law_225 : decode cL_law 225 = .ok (.aload_n 0, 1) := by decide +kernel
theorem dL_law_226 : decode cL_law 226 = .ok (.iload_n 3, 1) := by decide +kernel
theorem dL_law_227 : decode cL_law 227 = .ok (.iconst 4, 1) := by decide +kernel
theorem dL_law_228 : decode cL_law 228 = .ok (.iadd, 1) := by decide +kernel
theorem dL_law_229 : decode cL_law 229 = .ok (.iaload, 1) := by decide +kernel
theorem dL_law_230 : decode cL_law 230 = .ok (.invokevirtual 27, 3) := by decide +kernel
theorem dL_law_233 : decode cL_law 233 = .ok (.aload_n 2, 1) := by decide +kernel
theorem dL_law_234 : decode cL_law 234 = .ok (.aload_n 0, 1) := by decide +kernel
theorem dL_law_235 : decode cL_law 235 = .ok (.iload_n 3, 1) := by decide +kernel
theorem dL_law_236 : decode cL_law 236 = .ok (.iconst 1, 1) := by decide +kernel
theorem dL_law_237 : decode cL_law 237 = .ok (.iadd, 1) := by decide +kernel
theorem dL_law_238 : decode cL_law 238 = .ok (.iaload, 1) := by decide +kernel
theorem dL_law_239 : decode cL_law 239 = .ok (.aload_n 0, 1) := by decide +kernel
theorem dL_law_240 : decode cL_law 240 = .ok (.iload_n 3, 1) := by decide +kernel
theorem dL_law_241 : decode cL_law 241 = .ok (.iconst 2, 1) := by decide +kernel
theorem dL_law_242 : decode cL_law 242 = .ok (.iadd, 1) := by decide +kernel
theorem dL_law_243 : decode cL_law 243 = .ok (.iaload, 1) := by decide +kernel
theorem dL_law_244 : decode cL_law 244 = .ok (.aload_n 0, 1) := by decide +kernel
theorem dL_law_245 : decode cL_law 245 = .ok (.iload_n 3, 1) := by decide +kernel
theorem dL_law_246 : decode cL_law 246 = .ok (.iconst 3, 1) := by decide +kernel
theorem dL_law_247 : decode cL_law 247 = .ok (.iadd, 1) := by decide +kernel
theorem dL_law_248 : decode cL_law 248 = .ok (.iaload, 1) := by decide +kernel
theorem dL_law_249 : decode cL_law 249 = .ok (.aload_n 0, 1) := by decide +kernel
theorem dL_law_250 : decode cL_law 250 = .ok (.iload_n 3, 1) := by decide +kernel
theorem dL_law_251 : decode cL_law 251 = .ok (.iconst 4, 1) := by decide +kernel
theorem dL_law_252 : decode cL_law 252 = .ok (.iadd, 1) := by decide +kernel
theorem dL_law_253 : decode cL_law 253 = .ok (.iaload, 1) := by decide +kernel
theorem dL_law_254 : decode cL_law 254 = .ok (.invokevirtual 31, 3) := by decide +kernel
theorem dL_law_257 : decode cL_law 257 = .ok (.if_icmp .eq 666, 3) := by decide +kernel
theorem dL_law_260 : decode cL_law 260 = .ok (.iconst 0, 1) := by decide +kernel
theorem dL_law_261 : decode cL_law 261 = .ok (.ireturn, 1) := by decide +kernel
theorem dL_law_262 : decode cL_law 262 = .ok (.aload_n 1, 1) := by decide +kernel
theorem dL_law_263 : decode cL_law 263 = .ok (.aload_n 0, 1) := by decide +kernel
theorem dL_law_264 : decode cL_law 264 = .ok (.iload_n 3, 1) := by decide +kernel
theorem dL_law_265 : decode cL_law 265 = .ok (.iconst 1, 1) := by decide +kernel
theorem dL_law_266 : decode cL_law 266 = .ok (.iadd, 1) := by decide +kernel
theorem dL_law_267 : decode cL_law 267 = .ok (.iaload, 1) := by decide +kernel
theorem dL_law_268 : decode cL_law 268 = .ok (.invokevirtual 32, 3) := by decide +kernel
theorem dL_law_271 : decode cL_law 271 = .ok (.aload_n 2, 1) := by decide +kernel
theorem dL_law_272 : decode cL_law 272 = .ok (.aload_n 0, 1) := by decide +kernel
theorem dL_law_273 : decode cL_law 273 = .ok (.iload_n 3, 1) := by decide +kernel
theorem dL_law_274 : decode cL_law 274 = .ok (.iconst 1, 1) := by decide +kernel
theorem dL_law_275 : decode cL_law 275 = .ok (.iadd, 1) := by decide +kernel
theorem dL_law_276 : decode cL_law 276 = .ok (.iaload, 1) := by decide +kernel
theorem dL_law_277 : decode cL_law 277 = .ok (.invokevirtual 35, 3) := by decide +kernel
theorem dL_law_280 : decode cL_law 280 = .ok (.if_icmp .eq 643, 3) := by decide +kernel
theorem dL_law_283 : decode cL_law 283 = .ok (.iconst 0, 1) := by decide +kernel
theorem dL_law_284 : decode cL_law 284 = .ok (.ireturn, 1) := by decide +kernel
theorem dL_law_285 : decode cL_law 285 = .ok (.aload_n 1, 1) := by decide +kernel
theorem dL_law_286 : decode cL_law 286 = .ok (.aload_n 0, 1) := by decide +kernel
theorem dL_law_287 : decode cL_law 287 = .ok (.iload_n 3, 1) := by decide +kernel
theorem dL_law_288 : decode cL_law 288 = .ok (.iconst 1, 1) := by decide +kernel
theorem dL_law_289 : decode cL_law 289 = .ok (.iadd, 1) := by decide +kernel
theorem dL_law_290 : decode cL_law 290 = .ok (.iaload, 1) := by decide +kernel
theorem dL_law_291 : decode cL_law 291 = .ok (.aload_n 0, 1) := by decide +kernel
theorem dL_law_292 : decode cL_law 292 = .ok (.iload_n 3, 1) := by decide +kernel
theorem dL_law_293 : decode cL_law 293 = .ok (.iconst 2, 1) := by decide +kernel
theorem dL_law_294 : decode cL_law 294 = .ok (.iadd, 1) := by decide +kernel
theorem dL_law_295 : decode cL_law 295 = .ok (.iaload, 1) := by decide +kernel
theorem dL_law_296 : decode cL_law 296 = .ok (.ifCond .eq 7, 3) := by decide +kernel
theorem dL_law_299 : decode cL_law 299 = .ok (.iconst 1, 1) := by decide +kernel
theorem dL_law_300 : decode cL_law 300 = .ok (.goto 4, 3) := by decide +kernel
theorem dL_law_303 : decode cL_law 303 = .ok (.iconst 0, 1) := by decide +kernel
theorem dL_law_304 : decode cL_law 304 = .ok (.invokevirtual 36, 3) := by decide +kernel
theorem dL_law_307 : decode cL_law 307 = .ok (.aload_n 2, 1) := by decide +kernel
theorem dL_law_308 : decode cL_law 308 = .ok (.aload_n 0, 1) := by decide +kernel
theorem dL_law_309 : decode cL_law 309 = .ok (.iload_n 3, 1) := by decide +kernel
theorem dL_law_310 : decode cL_law 310 = .ok (.iconst 1, 1) := by decide +kernel
theorem dL_law_311 : decode cL_law 311 = .ok (.iadd, 1) := by decide +kernel
theorem dL_law_312 : decode cL_law 312 = .ok (.iaload, 1) := by decide +kernel
theorem dL_law_313 : decode cL_law 313 = .ok (.aload_n 0, 1) := by decide +kernel
theorem dL_law_314 : decode cL_law 314 = .ok (.iload_n 3, 1) := by decide +kernel
theorem dL_law_315 : decode cL_law 315 = .ok (.iconst 2, 1) := by decide +kernel
theorem dL_law_316 : decode cL_law 316 = .ok (.iadd, 1) := by decide +kernel
theorem dL_law_317 : decode cL_law 317 = .ok (.iaload, 1) := by decide +kernel
theorem dL_law_318 : decode cL_law 318 = .ok (.ifCond .eq 7, 3) := by decide +kernel
theorem dL_law_321 : decode cL_law 321 = .ok (.iconst 1, 1) := by decide +kernel
theorem dL_law_322 : decode cL_law 322 = .ok (.goto 4, 3) := by decide +kernel
theorem dL_law_325 : decode cL_law 325 = .ok (.iconst 0, 1) := by decide +kernel
theorem dL_law_326 : decode cL_law 326 = .ok (.invokevirtual 40, 3) := by decide +kernel
theorem dL_law_329 : decode cL_law 329 = .ok (.if_icmp .eq 594, 3) := by decide +kernel
theorem dL_law_332 : decode cL_law 332 = .ok (.iconst 0, 1) := by decide +kernel
theorem dL_law_333 : decode cL_law 333 = .ok (.ireturn, 1) := by decide +kernel
theorem dL_law_334 : decode cL_law 334 = .ok (.aload_n 1, 1) := by decide +kernel
theorem dL_law_335 : decode cL_law 335 = .ok (.aload_n 0, 1) := by decide +kernel
theorem dL_law_336 : decode cL_law 336 = .ok (.iload_n 3, 1) := by decide +kernel
theorem dL_law_337 : decode cL_law 337 = .ok (.iconst 1, 1) := by decide +kernel
theorem dL_law_338 : decode cL_law 338 = .ok (.iadd, 1) := by decide +kernel
theorem dL_law_339 : decode cL_law 339 = .ok (.iaload, 1) := by decide +kernel
theorem dL_law_340 : decode cL_law 340 = .ok (.aload_n 0, 1) := by decide +kernel
theorem dL_law_341 : decode cL_law 341 = .ok (.iload_n 3, 1) := by decide +kernel
theorem dL_law_342 : decode cL_law 342 = .ok (.iconst 2, 1) := by decide +kernel
theorem dL_law_343 : decode cL_law 343 = .ok (.iadd, 1) := by decide +kernel
theorem dL_law_344 : decode cL_law 344 = .ok (.iaload, 1) := by decide +kernel
theorem dL_law_345 : decode cL_law 345 = .ok (.invokevirtual 41, 3) := by decide +kernel
theorem dL_law_348 : decode cL_law 348 = .ok (.aload_n 2, 1) := by decide +kernel
theorem dL_law_349 : decode cL_law 349 = .ok (.aload_n 0, 1) := by decide +kernel
theorem dL_law_350 : decode cL_law 350 = .ok (.iload_n 3, 1) := by decide +kernel
theorem dL_law_351 : decode cL_law 351 = .ok (.iconst 1, 1) := by decide +kernel
theorem dL_law_352 : decode cL_law 352 = .ok (.iadd, 1) := by decide +kernel
theorem dL_law_353 : decode cL_law 353 = .ok (.iaload, 1) := by decide +kernel
theorem dL_law_354 : decode cL_law 354 = .ok (.aload_n 0, 1) := by decide +kernel
theorem dL_law_355 : decode cL_law 355 = .ok (.iload_n 3, 1) := by decide +kernel
theorem dL_law_356 : decode cL_law 356 = .ok (.iconst 2, 1) := by decide +kernel
theorem dL_law_357 : decode cL_law 357 = .ok (.iadd, 1) := by decide +kernel
theorem dL_law_358 : decode cL_law 358 = .ok (.iaload, 1) := by decide +kernel
theorem dL_law_359 : decode cL_law 359 = .ok (.invokevirtual 45, 3) := by decide +kernel
theorem dL_law_362 : decode cL_law 362 = .ok (.if_icmp .eq 561, 3) := by decide +kernel
theorem dL_law_365 : decode cL_law 365 = .ok (.iconst 0, 1) := by decide +kernel
theorem dL_law_366 : decode cL_law 366 = .ok (.ireturn, 1) := by decide +kernel
theorem dL_law_367 : decode cL_law 367 = .ok (.aload_n 1, 1) := by decide +kernel
theorem dL_law_368 : decode cL_law 368 = .ok (.aload_n 0, 1) := by decide +kernel
theorem dL_law_369 : decode cL_law 369 = .ok (.iload_n 3, 1) := by decide +kernel
theorem dL_law_370 : decode cL_law 370 = .ok (.iconst 1, 1) := by decide +kernel
theorem dL_law_371 : decode cL_law 371 = .ok (.iadd, 1) := by decide +kernel
theorem dL_law_372 : decode cL_law 372 = .ok (.iaload, 1) := by decide +kernel
theorem dL_law_373 : decode cL_law 373 = .ok (.invokevirtual 46, 3) := by decide +kernel
theorem dL_law_376 : decode cL_law 376 = .ok (.aload_n 2, 1) := by decide +kernel
theorem dL_law_377 : decode cL_law 377 = .ok (.aload_n 0, 1) := by decide +kernel
theorem dL_law_378 : decode cL_law 378 = .ok (.iload_n 3, 1) := by decide +kernel
theorem dL_law_379 : decode cL_law 379 = .ok (.iconst 1, 1) := by decide +kernel
theorem dL_law_380 : decode cL_law 380 = .ok (.iadd, 1) := by decide +kernel
theorem dL_law_381 : decode cL_law 381 = .ok (.iaload, 1) := by decide +kernel
theorem dL_law_382 : decode cL_law 382 = .ok (.invokevirtual 49, 3) := by decide +kernel
theorem dL_law_385 : decode cL_law 385 = .ok (.if_icmp .eq 538, 3) := by decide +kernel
theorem dL_law_388 : decode cL_law 388 = .ok (.iconst 0, 1) := by decide +kernel
theorem dL_law_389 : decode cL_law 389 = .ok (.ireturn, 1) := by decide +kernel
theorem dL_law_390 : decode cL_law 390 = .ok (.aload_n 1, 1) := by decide +kernel
theorem dL_law_391 : decode cL_law 391 = .ok (.aload_n 0, 1) := by decide +kernel
theorem dL_law_392 : decode cL_law 392 = .ok (.iload_n 3, 1) := by decide +kernel
theorem dL_law_393 : decode cL_law 393 = .ok (.iconst 1, 1) := by decide +kernel
theorem dL_law_394 : decode cL_law 394 = .ok (.iadd, 1) := by decide +kernel
theorem dL_law_395 : decode cL_law 395 = .ok (.iaload, 1) := by decide +kernel
theorem dL_law_396 : decode cL_law 396 = .ok (.invokevirtual 50, 3) := by decide +kernel
theorem dL_law_399 : decode cL_law 399 = .ok (.aload_n 2, 1) := by decide +kernel
theorem dL_law_400 : decode cL_law 400 = .ok (.aload_n 0, 1) := by decide +kernel
theorem dL_law_401 : decode cL_law 401 = .ok (.iload_n 3, 1) := by decide +kernel
theorem dL_law_402 : decode cL_law 402 = .ok (.iconst 1, 1) := by decide +kernel
theorem dL_law_403 : decode cL_law 403 = .ok (.iadd, 1) := by decide +kernel
theorem dL_law_404 : decode cL_law 404 = .ok (.iaload, 1) := by decide +kernel
theorem dL_law_405 : decode cL_law 405 = .ok (.invokevirtual 53, 3) := by decide +kernel
theorem dL_law_408 : decode cL_law 408 = .ok (.if_icmp .eq 515, 3) := by decide +kernel
theorem dL_law_411 : decode cL_law 411 = .ok (.iconst 0, 1) := by decide +kernel
theorem dL_law_412 : decode cL_law 412 = .ok (.ireturn, 1) := by decide +kernel
theorem dL_law_413 : decode cL_law 413 = .ok (.aload_n 1, 1) := by decide +kernel
theorem dL_law_414 : decode cL_law 414 = .ok (.aload_n 0, 1) := by decide +kernel
theorem dL_law_415 : decode cL_law 415 = .ok (.iload_n 3, 1) := by decide +kernel
theorem dL_law_416 : decode cL_law 416 = .ok (.iconst 1, 1) := by decide +kernel
theorem dL_law_417 : decode cL_law 417 = .ok (.iadd, 1) := by decide +kernel
theorem dL_law_418 : decode cL_law 418 = .ok (.iaload, 1) := by decide +kernel
theorem dL_law_419 : decode cL_law 419 = .ok (.aload_n 0, 1) := by decide +kernel
theorem dL_law_420 : decode cL_law 420 = .ok (.iload_n 3, 1) := by decide +kernel
theorem dL_law_421 : decode cL_law 421 = .ok (.iconst 2, 1) := by decide +kernel
theorem dL_law_422 : decode cL_law 422 = .ok (.iadd, 1) := by decide +kernel
theorem dL_law_423 : decode cL_law 423 = .ok (.iaload, 1) := by decide +kernel
theorem dL_law_424 : decode cL_law 424 = .ok (.invokevirtual 54, 3) := by decide +kernel
theorem dL_law_427 : decode cL_law 427 = .ok (.aload_n 2, 1) := by decide +kernel
theorem dL_law_428 : decode cL_law 428 = .ok (.aload_n 0, 1) := by decide +kernel
theorem dL_law_429 : decode cL_law 429 = .ok (.iload_n 3, 1) := by decide +kernel
theorem dL_law_430 : decode cL_law 430 = .ok (.iconst 1, 1) := by decide +kernel
theorem dL_law_431 : decode cL_law 431 = .ok (.iadd, 1) := by decide +kernel
theorem dL_law_432 : decode cL_law 432 = .ok (.iaload, 1) := by decide +kernel
theorem dL_law_433 : decode cL_law 433 = .ok (.aload_n 0, 1) := by decide +kernel
theorem dL_law_434 : decode cL_law 434 = .ok (.iload_n 3, 1) := by decide +kernel
theorem dL_law_435 : decode cL_law 435 = .ok (.iconst 2, 1) := by decide +kernel
theorem dL_law_436 : decode cL_law 436 = .ok (.iadd, 1) := by decide +kernel
theorem dL_law_437 : decode cL_law 437 = .ok (.iaload, 1) := by decide +kernel
theorem dL_law_438 : decode cL_law 438 = .ok (.invokevirtual 57, 3) := by decide +kernel
theorem dL_law_441 : decode cL_law 441 = .ok (.if_icmp .eq 482, 3) := by decide +kernel
theorem dL_law_444 : decode cL_law 444 = .ok (.iconst 0, 1) := by decide +kernel
theorem dL_law_445 : decode cL_law 445 = .ok (.ireturn, 1) := by decide +kernel
theorem dL_law_446 : decode cL_law 446 = .ok (.aload_n 1, 1) := by decide +kernel
theorem dL_law_447 : decode cL_law 447 = .ok (.aload_n 0, 1) := by decide +kernel
theorem dL_law_448 : decode cL_law 448 = .ok (.iload_n 3, 1) := by decide +kernel
theorem dL_law_449 : decode cL_law 449 = .ok (.iconst 1, 1) := by decide +kernel
theorem dL_law_450 : decode cL_law 450 = .ok (.iadd, 1) := by decide +kernel
theorem dL_law_451 : decode cL_law 451 = .ok (.iaload, 1) := by decide +kernel
theorem dL_law_452 : decode cL_law 452 = .ok (.aload_n 0, 1) := by decide +kernel
theorem dL_law_453 : decode cL_law 453 = .ok (.iload_n 3, 1) := by decide +kernel
theorem dL_law_454 : decode cL_law 454 = .ok (.iconst 2, 1) := by decide +kernel
theorem dL_law_455 : decode cL_law 455 = .ok (.iadd, 1) := by decide +kernel
theorem dL_law_456 : decode cL_law 456 = .ok (.iaload, 1) := by decide +kernel
theorem dL_law_457 : decode cL_law 457 = .ok (.invokevirtual 58, 3) := by decide +kernel
theorem dL_law_460 : decode cL_law 460 = .ok (.aload_n 2, 1) := by decide +kernel
theorem dL_law_461 : decode cL_law 461 = .ok (.aload_n 0, 1) := by decide +kernel
theorem dL_law_462 : decode cL_law 462 = .ok (.iload_n 3, 1) := by decide +kernel
theorem dL_law_463 : decode cL_law 463 = .ok (.iconst 1, 1) := by decide +kernel
theorem dL_law_464 : decode cL_law 464 = .ok (.iadd, 1) := by decide +kernel
theorem dL_law_465 : decode cL_law 465 = .ok (.iaload, 1) := by decide +kernel
theorem dL_law_466 : decode cL_law 466 = .ok (.aload_n 0, 1) := by decide +kernel
theorem dL_law_467 : decode cL_law 467 = .ok (.iload_n 3, 1) := by decide +kernel
theorem dL_law_468 : decode cL_law 468 = .ok (.iconst 2, 1) := by decide +kernel
theorem dL_law_469 : decode cL_law 469 = .ok (.iadd, 1) := by decide +kernel
theorem dL_law_470 : decode cL_law 470 = .ok (.iaload, 1) := by decide +kernel
theorem dL_law_471 : decode cL_law 471 = .ok (.invokevirtual 61, 3) := by decide +kernel
theorem dL_law_474 : decode cL_law 474 = .ok (.if_icmp .eq 449, 3) := by decide +kernel
theorem dL_law_477 : decode cL_law 477 = .ok (.iconst 0, 1) := by decide +kernel
theorem dL_law_478 : decode cL_law 478 = .ok (.ireturn, 1) := by decide +kernel
theorem dL_law_479 : decode cL_law 479 = .ok (.aload_n 1, 1) := by decide +kernel
theorem dL_law_480 : decode cL_law 480 = .ok (.aload_n 0, 1) := by decide +kernel
theorem dL_law_481 : decode cL_law 481 = .ok (.iload_n 3, 1) := by decide +kernel
theorem dL_law_482 : decode cL_law 482 = .ok (.iconst 1, 1) := by decide +kernel
theorem dL_law_483 : decode cL_law 483 = .ok (.iadd, 1) := by decide +kernel
theorem dL_law_484 : decode cL_law 484 = .ok (.iaload, 1) := by decide +kernel
theorem dL_law_485 : decode cL_law 485 = .ok (.aload_n 0, 1) := by decide +kernel
theorem dL_law_486 : decode cL_law 486 = .ok (.iload_n 3, 1) := by decide +kernel
theorem dL_law_487 : decode cL_law 487 = .ok (.iconst 2, 1) := by decide +kernel
theorem dL_law_488 : decode cL_law 488 = .ok (.iadd, 1) := by decide +kernel
theorem dL_law_489 : decode cL_law 489 = .ok (.iaload, 1) := by decide +kernel
theorem dL_law_490 : decode cL_law 490 = .ok (.invokevirtual 62, 3) := by decide +kernel
theorem dL_law_493 : decode cL_law 493 = .ok (.aload_n 2, 1) := by decide +kernel
theorem dL_law_494 : decode cL_law 494 = .ok (.aload_n 0, 1) := by decide +kernel
theorem dL_law_495 : decode cL_law 495 = .ok (.iload_n 3, 1) := by decide +kernel
theorem dL_law_496 : decode cL_law 496 = .ok (.iconst 1, 1) := by decide +kernel
theorem dL_law_497 : decode cL_law 497 = .ok (.iadd, 1) := by decide +kernel
theorem dL_law_498 : decode cL_law 498 = .ok (.iaload, 1) := by decide +kernel
theorem dL_law_499 : decode cL_law 499 = .ok (.aload_n 0, 1) := by decide +kernel
theorem dL_law_500 : decode cL_law 500 = .ok (.iload_n 3, 1) := by decide +kernel
theorem dL_law_501 : decode cL_law 501 = .ok (.iconst 2, 1) := by decide +kernel
theorem dL_law_502 : decode cL_law 502 = .ok (.iadd, 1) := by decide +kernel
theorem dL_law_503 : decode cL_law 503 = .ok (.iaload, 1) := by decide +kernel
theorem dL_law_504 : decode cL_law 504 = .ok (.invokevirtual 65, 3) := by decide +kernel
theorem dL_law_507 : decode cL_law 507 = .ok (.if_icmp .eq 416, 3) := by decide +kernel
theorem dL_law_510 : decode cL_law 510 = .ok (.iconst 0, 1) := by decide +kernel
theorem dL_law_511 : decode cL_law 511 = .ok (.ireturn, 1) := by decide +kernel
theorem dL_law_512 : decode cL_law 512 = .ok (.aload_n 1, 1) := by decide +kernel
theorem dL_law_513 : decode cL_law 513 = .ok (.aload_n 0, 1) := by decide +kernel
theorem dL_law_514 : decode cL_law 514 = .ok (.iload_n 3, 1) := by decide +kernel
theorem dL_law_515 : decode cL_law 515 = .ok (.iconst 1, 1) := by decide +kernel
theorem dL_law_516 : decode cL_law 516 = .ok (.iadd, 1) := by decide +kernel
theorem dL_law_517 : decode cL_law 517 = .ok (.iaload, 1) := by decide +kernel
theorem dL_law_518 : decode cL_law 518 = .ok (.invokevirtual 66, 3) := by decide +kernel
theorem dL_law_521 : decode cL_law 521 = .ok (.aload_n 2, 1) := by decide +kernel
theorem dL_law_522 : decode cL_law 522 = .ok (.aload_n 0, 1) := by decide +kernel
theorem dL_law_523 : decode cL_law 523 = .ok (.iload_n 3, 1) := by decide +kernel
theorem dL_law_524 : decode cL_law 524 = .ok (.iconst 1, 1) := by decide +kernel
theorem dL_law_525 : decode cL_law 525 = .ok (.iadd, 1) := by decide +kernel
theorem dL_law_526 : decode cL_law 526 = .ok (.iaload, 1) := by decide +kernel
theorem dL_law_527 : decode cL_law 527 = .ok (.invokevirtual 69, 3) := by decide +kernel
theorem dL_law_530 : decode cL_law 530 = .ok (.if_icmp .eq 393, 3) := by decide +kernel
theorem dL_law_533 : decode cL_law 533 = .ok (.iconst 0, 1) := by decide +kernel
theorem dL_law_534 : decode cL_law 534 = .ok (.ireturn, 1) := by decide +kernel
theorem dL_law_535 : decode cL_law 535 = .ok (.aload_n 1, 1) := by decide +kernel
theorem dL_law_536 : decode cL_law 536 = .ok (.aload_n 0, 1) := by decide +kernel
theorem dL_law_537 : decode cL_law 537 = .ok (.iload_n 3, 1) := by decide +kernel
theorem dL_law_538 : decode cL_law 538 = .ok (.iconst 1, 1) := by decide +kernel
theorem dL_law_539 : decode cL_law 539 = .ok (.iadd, 1) := by decide +kernel
theorem dL_law_540 : decode cL_law 540 = .ok (.iaload, 1) := by decide +kernel
theorem dL_law_541 : decode cL_law 541 = .ok (.invokevirtual 70, 3) := by decide +kernel
theorem dL_law_544 : decode cL_law 544 = .ok (.aload_n 2, 1) := by decide +kernel
theorem dL_law_545 : decode cL_law 545 = .ok (.aload_n 0, 1) := by decide +kernel
theorem dL_law_546 : decode cL_law 546 = .ok (.iload_n 3, 1) := by decide +kernel
theorem dL_law_547 : decode cL_law 547 = .ok (.iconst 1, 1) := by decide +kernel
theorem dL_law_548 : decode cL_law 548 = .ok (.iadd, 1) := by decide +kernel
theorem dL_law_549 : decode cL_law 549 = .ok (.iaload, 1) := by decide +kernel
theorem dL_law_550 : decode cL_law 550 = .ok (.invokevirtual 73, 3) := by decide +kernel
theorem dL_law_553 : decode cL_law 553 = .ok (.if_icmp .eq 370, 3) := by decide +kernel
theorem dL_law_556 : decode cL_law 556 = .ok (.iconst 0, 1) := by decide +kernel
theorem dL_law_557 : decode cL_law 557 = .ok (.ireturn, 1) := by decide +kernel
theorem dL_law_558 : decode cL_law 558 = .ok (.aload_n 1, 1) := by decide +kernel
theorem dL_law_559 : decode cL_law 559 = .ok (.aload_n 0, 1) := by decide +kernel
theorem dL_law_560 : decode cL_law 560 = .ok (.iload_n 3, 1) := by decide +kernel
theorem dL_law_561 : decode cL_law 561 = .ok (.iconst 1, 1) := by decide +kernel
theorem dL_law_562 : decode cL_law 562 = .ok (.iadd, 1) := by decide +kernel
theorem dL_law_563 : decode cL_law 563 = .ok (.iaload, 1) := by decide +kernel
theorem dL_law_564 : decode cL_law 564 = .ok (.invokevirtual 74, 3) := by decide +kernel
theorem dL_law_567 : decode cL_law 567 = .ok (.aload_n 2, 1) := by decide +kernel
theorem dL_law_568 : decode cL_law 568 = .ok (.aload_n 0, 1) := by decide +kernel
theorem dL_law_569 : decode cL_law 569 = .ok (.iload_n 3, 1) := by decide +kernel
theorem dL_law_570 : decode cL_law 570 = .ok (.iconst 1, 1) := by decide +kernel
theorem dL_law_571 : decode cL_law 571 = .ok (.iadd, 1) := by decide +kernel
theorem dL_law_572 : decode cL_law 572 = .ok (.iaload, 1) := by decide +kernel
theorem dL_law_573 : decode cL_law 573 = .ok (.invokevirtual 77, 3) := by decide +kernel
theorem dL_law_576 : decode cL_law 576 = .ok (.if_icmp .eq 347, 3) := by decide +kernel
theorem dL_law_579 : decode cL_law 579 = .ok (.iconst 0, 1) := by decide +kernel
theorem dL_law_580 : decode cL_law 580 = .ok (.ireturn, 1) := by decide +kernel
theorem dL_law_581 : decode cL_law 581 = .ok (.aload_n 1, 1) := by decide +kernel
theorem dL_law_582 : decode cL_law 582 = .ok (.aload_n 0, 1) := by decide +kernel
theorem dL_law_583 : decode cL_law 583 = .ok (.iload_n 3, 1) := by decide +kernel
theorem dL_law_584 : decode cL_law 584 = .ok (.iconst 1, 1) := by decide +kernel
theorem dL_law_585 : decode cL_law 585 = .ok (.iadd, 1) := by decide +kernel
theorem dL_law_586 : decode cL_law 586 = .ok (.iaload, 1) := by decide +kernel
theorem dL_law_587 : decode cL_law 587 = .ok (.aload_n 0, 1) := by decide +kernel
theorem dL_law_588 : decode cL_law 588 = .ok (.iload_n 3, 1) := by decide +kernel
theorem dL_law_589 : decode cL_law 589 = .ok (.iconst 2, 1) := by decide +kernel
theorem dL_law_590 : decode cL_law 590 = .ok (.iadd, 1) := by decide +kernel
theorem dL_law_591 : decode cL_law 591 = .ok (.iaload, 1) := by decide +kernel
theorem dL_law_592 : decode cL_law 592 = .ok (.ifCond .eq 7, 3) := by decide +kernel
theorem dL_law_595 : decode cL_law 595 = .ok (.iconst 1, 1) := by decide +kernel
theorem dL_law_596 : decode cL_law 596 = .ok (.goto 4, 3) := by decide +kernel
theorem dL_law_599 : decode cL_law 599 = .ok (.iconst 0, 1) := by decide +kernel
theorem dL_law_600 : decode cL_law 600 = .ok (.invokevirtual 78, 3) := by decide +kernel
theorem dL_law_603 : decode cL_law 603 = .ok (.aload_n 2, 1) := by decide +kernel
theorem dL_law_604 : decode cL_law 604 = .ok (.aload_n 0, 1) := by decide +kernel
theorem dL_law_605 : decode cL_law 605 = .ok (.iload_n 3, 1) := by decide +kernel
theorem dL_law_606 : decode cL_law 606 = .ok (.iconst 1, 1) := by decide +kernel
theorem dL_law_607 : decode cL_law 607 = .ok (.iadd, 1) := by decide +kernel
theorem dL_law_608 : decode cL_law 608 = .ok (.iaload, 1) := by decide +kernel
theorem dL_law_609 : decode cL_law 609 = .ok (.aload_n 0, 1) := by decide +kernel
theorem dL_law_610 : decode cL_law 610 = .ok (.iload_n 3, 1) := by decide +kernel
theorem dL_law_611 : decode cL_law 611 = .ok (.iconst 2, 1) := by decide +kernel
theorem dL_law_612 : decode cL_law 612 = .ok (.iadd, 1) := by decide +kernel
theorem dL_law_613 : decode cL_law 613 = .ok (.iaload, 1) := by decide +kernel
theorem dL_law_614 : decode cL_law 614 = .ok (.ifCond .eq 7, 3) := by decide +kernel
theorem dL_law_617 : decode cL_law 617 = .ok (.iconst 1, 1) := by decide +kernel
theorem dL_law_618 : decode cL_law 618 = .ok (.goto 4, 3) := by decide +kernel
theorem dL_law_621 : decode cL_law 621 = .ok (.iconst 0, 1) := by decide +kernel
theorem dL_law_622 : decode cL_law 622 = .ok (.invokevirtual 81, 3) := by decide +kernel
theorem dL_law_625 : decode cL_law 625 = .ok (.if_icmp .eq 298, 3) := by decide +kernel
theorem dL_law_628 : decode cL_law 628 = .ok (.iconst 0, 1) := by decide +kernel
theorem dL_law_629 : decode cL_law 629 = .ok (.ireturn, 1) := by decide +kernel
theorem dL_law_630 : decode cL_law 630 = .ok (.aload_n 1, 1) := by decide +kernel
theorem dL_law_631 : decode cL_law 631 = .ok (.invokevirtual 82, 3) := by decide +kernel
theorem dL_law_634 : decode cL_law 634 = .ok (.aload_n 2, 1) := by decide +kernel
theorem dL_law_635 : decode cL_law 635 = .ok (.invokevirtual 85, 3) := by decide +kernel
theorem dL_law_638 : decode cL_law 638 = .ok (.if_icmp .eq 285, 3) := by decide +kernel
theorem dL_law_641 : decode cL_law 641 = .ok (.iconst 0, 1) := by decide +kernel
theorem dL_law_642 : decode cL_law 642 = .ok (.ireturn, 1) := by decide +kernel
theorem dL_law_643 : decode cL_law 643 = .ok (.aload_n 1, 1) := by decide +kernel
theorem dL_law_644 : decode cL_law 644 = .ok (.aload_n 0, 1) := by decide +kernel
theorem dL_law_645 : decode cL_law 645 = .ok (.iload_n 3, 1) := by decide +kernel
theorem dL_law_646 : decode cL_law 646 = .ok (.iconst 1, 1) := by decide +kernel
theorem dL_law_647 : decode cL_law 647 = .ok (.iadd, 1) := by decide +kernel
theorem dL_law_648 : decode cL_law 648 = .ok (.iaload, 1) := by decide +kernel
theorem dL_law_649 : decode cL_law 649 = .ok (.aload_n 0, 1) := by decide +kernel
theorem dL_law_650 : decode cL_law 650 = .ok (.iload_n 3, 1) := by decide +kernel
theorem dL_law_651 : decode cL_law 651 = .ok (.iconst 2, 1) := by decide +kernel
theorem dL_law_652 : decode cL_law 652 = .ok (.iadd, 1) := by decide +kernel
theorem dL_law_653 : decode cL_law 653 = .ok (.iaload, 1) := by decide +kernel
theorem dL_law_654 : decode cL_law 654 = .ok (.invokevirtual 86, 3) := by decide +kernel
theorem dL_law_657 : decode cL_law 657 = .ok (.aload_n 2, 1) := by decide +kernel
theorem dL_law_658 : decode cL_law 658 = .ok (.aload_n 0, 1) := by decide +kernel
theorem dL_law_659 : decode cL_law 659 = .ok (.iload_n 3, 1) := by decide +kernel
theorem dL_law_660 : decode cL_law 660 = .ok (.iconst 1, 1) := by decide +kernel
theorem dL_law_661 : decode cL_law 661 = .ok (.iadd, 1) := by decide +kernel
theorem dL_law_662 : decode cL_law 662 = .ok (.iaload, 1) := by decide +kernel
theorem dL_law_663 : decode cL_law 663 = .ok (.aload_n 0, 1) := by decide +kernel
theorem dL_law_664 : decode cL_law 664 = .ok (.iload_n 3, 1) := by decide +kernel
theorem dL_law_665 : decode cL_law 665 = .ok (.iconst 2, 1) := by decide +kernel
theorem dL_law_666 : decode cL_law 666 = .ok (.iadd, 1) := by decide +kernel
theorem dL_law_667 : decode cL_law 667 = .ok (.iaload, 1) := by decide +kernel
theorem dL_law_668 : decode cL_law 668 = .ok (.invokevirtual 89, 3) := by decide +kernel
theorem dL_law_671 : decode cL_law 671 = .ok (.if_icmp .eq 252, 3) := by decide +kernel
theorem dL_law_674 : decode cL_law 674 = .ok (.iconst 0, 1) := by decide +kernel
theorem dL_law_675 : decode cL_law 675 = .ok (.ireturn, 1) := by decide +kernel
theorem dL_law_676 : decode cL_law 676 = .ok (.aload_n 1, 1) := by decide +kernel
theorem dL_law_677 : decode cL_law 677 = .ok (.aload_n 0, 1) := by decide +kernel
theorem dL_law_678 : decode cL_law 678 = .ok (.iload_n 3, 1) := by decide +kernel
theorem dL_law_679 : decode cL_law 679 = .ok (.iconst 1, 1) := by decide +kernel
theorem dL_law_680 : decode cL_law 680 = .ok (.iadd, 1) := by decide +kernel
theorem dL_law_681 : decode cL_law 681 = .ok (.iaload, 1) := by decide +kernel
theorem dL_law_682 : decode cL_law 682 = .ok (.aload_n 0, 1) := by decide +kernel
theorem dL_law_683 : decode cL_law 683 = .ok (.iload_n 3, 1) := by decide +kernel
theorem dL_law_684 : decode cL_law 684 = .ok (.iconst 2, 1) := by decide +kernel
theorem dL_law_685 : decode cL_law 685 = .ok (.iadd, 1) := by decide +kernel
theorem dL_law_686 : decode cL_law 686 = .ok (.iaload, 1) := by decide +kernel
theorem dL_law_687 : decode cL_law 687 = .ok (.invokevirtual 90, 3) := by decide +kernel
theorem dL_law_690 : decode cL_law 690 = .ok (.aload_n 2, 1) := by decide +kernel
theorem dL_law_691 : decode cL_law 691 = .ok (.aload_n 0, 1) := by decide +kernel
theorem dL_law_692 : decode cL_law 692 = .ok (.iload_n 3, 1) := by decide +kernel
theorem dL_law_693 : decode cL_law 693 = .ok (.iconst 1, 1) := by decide +kernel
theorem dL_law_694 : decode cL_law 694 = .ok (.iadd, 1) := by decide +kernel
theorem dL_law_695 : decode cL_law 695 = .ok (.iaload, 1) := by decide +kernel
theorem dL_law_696 : decode cL_law 696 = .ok (.aload_n 0, 1) := by decide +kernel
theorem dL_law_697 : decode cL_law 697 = .ok (.iload_n 3, 1) := by decide +kernel
theorem dL_law_698 : decode cL_law 698 = .ok (.iconst 2, 1) := by decide +kernel
theorem dL_law_699 : decode cL_law 699 = .ok (.iadd, 1) := by decide +kernel
theorem dL_law_700 : decode cL_law 700 = .ok (.iaload, 1) := by decide +kernel
theorem dL_law_701 : decode cL_law 701 = .ok (.invokevirtual 93, 3) := by decide +kernel
theorem dL_law_704 : decode cL_law 704 = .ok (.if_icmp .eq 219, 3) := by decide +kernel
theorem dL_law_707 : decode cL_law 707 = .ok (.iconst 0, 1) := by decide +kernel
theorem dL_law_708 : decode cL_law 708 = .ok (.ireturn, 1) := by decide +kernel
theorem dL_law_709 : decode cL_law 709 = .ok (.aload_n 1, 1) := by decide +kernel
theorem dL_law_710 : decode cL_law 710 = .ok (.aload_n 0, 1) := by decide +kernel
theorem dL_law_711 : decode cL_law 711 = .ok (.iload_n 3, 1) := by decide +kernel
theorem dL_law_712 : decode cL_law 712 = .ok (.iconst 1, 1) := by decide +kernel
theorem dL_law_713 : decode cL_law 713 = .ok (.iadd, 1) := by decide +kernel
theorem dL_law_714 : decode cL_law 714 = .ok (.iaload, 1) := by decide +kernel
theorem dL_law_715 : decode cL_law 715 = .ok (.aload_n 0, 1) := by decide +kernel
theorem dL_law_716 : decode cL_law 716 = .ok (.iload_n 3, 1) := by decide +kernel
theorem dL_law_717 : decode cL_law 717 = .ok (.iconst 2, 1) := by decide +kernel
theorem dL_law_718 : decode cL_law 718 = .ok (.iadd, 1) := by decide +kernel
theorem dL_law_719 : decode cL_law 719 = .ok (.iaload, 1) := by decide +kernel
theorem dL_law_720 : decode cL_law 720 = .ok (.ifCond .eq 7, 3) := by decide +kernel
theorem dL_law_723 : decode cL_law 723 = .ok (.iconst 1, 1) := by decide +kernel
theorem dL_law_724 : decode cL_law 724 = .ok (.goto 4, 3) := by decide +kernel
theorem dL_law_727 : decode cL_law 727 = .ok (.iconst 0, 1) := by decide +kernel
theorem dL_law_728 : decode cL_law 728 = .ok (.invokevirtual 94, 3) := by decide +kernel
theorem dL_law_731 : decode cL_law 731 = .ok (.aload_n 2, 1) := by decide +kernel
theorem dL_law_732 : decode cL_law 732 = .ok (.aload_n 0, 1) := by decide +kernel
theorem dL_law_733 : decode cL_law 733 = .ok (.iload_n 3, 1) := by decide +kernel
theorem dL_law_734 : decode cL_law 734 = .ok (.iconst 1, 1) := by decide +kernel
theorem dL_law_735 : decode cL_law 735 = .ok (.iadd, 1) := by decide +kernel
theorem dL_law_736 : decode cL_law 736 = .ok (.iaload, 1) := by decide +kernel
theorem dL_law_737 : decode cL_law 737 = .ok (.aload_n 0, 1) := by decide +kernel
theorem dL_law_738 : decode cL_law 738 = .ok (.iload_n 3, 1) := by decide +kernel
theorem dL_law_739 : decode cL_law 739 = .ok (.iconst 2, 1) := by decide +kernel
theorem dL_law_740 : decode cL_law 740 = .ok (.iadd, 1) := by decide +kernel
theorem dL_law_741 : decode cL_law 741 = .ok (.iaload, 1) := by decide +kernel
theorem dL_law_742 : decode cL_law 742 = .ok (.ifCond .eq 7, 3) := by decide +kernel
theorem dL_law_745 : decode cL_law 745 = .ok (.iconst 1, 1) := by decide +kernel
theorem dL_law_746 : decode cL_law 746 = .ok (.goto 4, 3) := by decide +kernel
theorem dL_law_749 : decode cL_law 749 = .ok (.iconst 0, 1) := by decide +kernel
theorem dL_law_750 : decode cL_law 750 = .ok (.invokevirtual 97, 3) := by decide +kernel
theorem dL_law_753 : decode cL_law 753 = .ok (.if_icmp .eq 170, 3) := by decide +kernel
theorem dL_law_756 : decode cL_law 756 = .ok (.iconst 0, 1) := by decide +kernel
theorem dL_law_757 : decode cL_law 757 = .ok (.ireturn, 1) := by decide +kernel
theorem dL_law_758 : decode cL_law 758 = .ok (.aload_n 1, 1) := by decide +kernel
theorem dL_law_759 : decode cL_law 759 = .ok (.aload_n 0, 1) := by decide +kernel
theorem dL_law_760 : decode cL_law 760 = .ok (.iload_n 3, 1) := by decide +kernel
theorem dL_law_761 : decode cL_law 761 = .ok (.iconst 1, 1) := by decide +kernel
theorem dL_law_762 : decode cL_law 762 = .ok (.iadd, 1) := by decide +kernel
theorem dL_law_763 : decode cL_law 763 = .ok (.iaload, 1) := by decide +kernel
theorem dL_law_764 : decode cL_law 764 = .ok (.invokevirtual 98, 3) := by decide +kernel
theorem dL_law_767 : decode cL_law 767 = .ok (.aload_n 2, 1) := by decide +kernel
theorem dL_law_768 : decode cL_law 768 = .ok (.aload_n 0, 1) := by decide +kernel
theorem dL_law_769 : decode cL_law 769 = .ok (.iload_n 3, 1) := by decide +kernel
theorem dL_law_770 : decode cL_law 770 = .ok (.iconst 1, 1) := by decide +kernel
theorem dL_law_771 : decode cL_law 771 = .ok (.iadd, 1) := by decide +kernel
theorem dL_law_772 : decode cL_law 772 = .ok (.iaload, 1) := by decide +kernel
theorem dL_law_773 : decode cL_law 773 = .ok (.invokevirtual 101, 3) := by decide +kernel
theorem dL_law_776 : decode cL_law 776 = .ok (.if_icmp .eq 147, 3) := by decide +kernel
theorem dL_law_779 : decode cL_law 779 = .ok (.iconst 0, 1) := by decide +kernel
theorem dL_law_780 : decode cL_law 780 = .ok (.ireturn, 1) := by decide +kernel
theorem dL_law_781 : decode cL_law 781 = .ok (.aload_n 1, 1) := by decide +kernel
theorem dL_law_782 : decode cL_law 782 = .ok (.invokevirtual 102, 3) := by decide +kernel
theorem dL_law_785 : decode cL_law 785 = .ok (.aload_n 2, 1) := by decide +kernel
theorem dL_law_786 : decode cL_law 786 = .ok (.invokevirtual 105, 3) := by decide +kernel
theorem dL_law_789 : decode cL_law 789 = .ok (.if_icmp .eq 134, 3) := by decide +kernel
theorem dL_law_792 : decode cL_law 792 = .ok (.iconst 0, 1) := by decide +kernel
theorem dL_law_793 : decode cL_law 793 = .ok (.ireturn, 1) := by decide +kernel
theorem dL_law_794 : decode cL_law 794 = .ok (.aload_n 1, 1) := by decide +kernel
theorem dL_law_795 : decode cL_law 795 = .ok (.aload_n 0, 1) := by decide +kernel
theorem dL_law_796 : decode cL_law 796 = .ok (.iload_n 3, 1) := by decide +kernel
theorem dL_law_797 : decode cL_law 797 = .ok (.iconst 1, 1) := by decide +kernel
theorem dL_law_798 : decode cL_law 798 = .ok (.iadd, 1) := by decide +kernel
theorem dL_law_799 : decode cL_law 799 = .ok (.iaload, 1) := by decide +kernel
theorem dL_law_800 : decode cL_law 800 = .ok (.invokevirtual 106, 3) := by decide +kernel
theorem dL_law_803 : decode cL_law 803 = .ok (.aload_n 2, 1) := by decide +kernel
theorem dL_law_804 : decode cL_law 804 = .ok (.aload_n 0, 1) := by decide +kernel
theorem dL_law_805 : decode cL_law 805 = .ok (.iload_n 3, 1) := by decide +kernel
theorem dL_law_806 : decode cL_law 806 = .ok (.iconst 1, 1) := by decide +kernel
theorem dL_law_807 : decode cL_law 807 = .ok (.iadd, 1) := by decide +kernel
theorem dL_law_808 : decode cL_law 808 = .ok (.iaload, 1) := by decide +kernel
theorem dL_law_809 : decode cL_law 809 = .ok (.invokevirtual 109, 3) := by decide +kernel
theorem dL_law_812 : decode cL_law 812 = .ok (.if_icmp .eq 111, 3) := by decide +kernel
theorem dL_law_815 : decode cL_law 815 = .ok (.iconst 0, 1) := by decide +kernel
theorem dL_law_816 : decode cL_law 816 = .ok (.ireturn, 1) := by decide +kernel
theorem dL_law_817 : decode cL_law 817 = .ok (.aload_n 1, 1) := by decide +kernel
theorem dL_law_818 : decode cL_law 818 = .ok (.aload_n 0, 1) := by decide +kernel
theorem dL_law_819 : decode cL_law 819 = .ok (.iload_n 3, 1) := by decide +kernel
theorem dL_law_820 : decode cL_law 820 = .ok (.iconst 1, 1) := by decide +kernel
theorem dL_law_821 : decode cL_law 821 = .ok (.iadd, 1) := by decide +kernel
theorem dL_law_822 : decode cL_law 822 = .ok (.iaload, 1) := by decide +kernel
theorem dL_law_823 : decode cL_law 823 = .ok (.aload_n 0, 1) := by decide +kernel
theorem dL_law_824 : decode cL_law 824 = .ok (.iload_n 3, 1) := by decide +kernel
theorem dL_law_825 : decode cL_law 825 = .ok (.iconst 2, 1) := by decide +kernel
theorem dL_law_826 : decode cL_law 826 = .ok (.iadd, 1) := by decide +kernel
theorem dL_law_827 : decode cL_law 827 = .ok (.iaload, 1) := by decide +kernel
theorem dL_law_828 : decode cL_law 828 = .ok (.invokevirtual 110, 3) := by decide +kernel
theorem dL_law_831 : decode cL_law 831 = .ok (.aload_n 2, 1) := by decide +kernel
theorem dL_law_832 : decode cL_law 832 = .ok (.aload_n 0, 1) := by decide +kernel
theorem dL_law_833 : decode cL_law 833 = .ok (.iload_n 3, 1) := by decide +kernel
theorem dL_law_834 : decode cL_law 834 = .ok (.iconst 1, 1) := by decide +kernel
theorem dL_law_835 : decode cL_law 835 = .ok (.iadd, 1) := by decide +kernel
theorem dL_law_836 : decode cL_law 836 = .ok (.iaload, 1) := by decide +kernel
theorem dL_law_837 : decode cL_law 837 = .ok (.aload_n 0, 1) := by decide +kernel
theorem dL_law_838 : decode cL_law 838 = .ok (.iload_n 3, 1) := by decide +kernel
theorem dL_law_839 : decode cL_law 839 = .ok (.iconst 2, 1) := by decide +kernel
theorem dL_law_840 : decode cL_law 840 = .ok (.iadd, 1) := by decide +kernel
theorem dL_law_841 : decode cL_law 841 = .ok (.iaload, 1) := by decide +kernel
theorem dL_law_842 : decode cL_law 842 = .ok (.invokevirtual 113, 3) := by decide +kernel
theorem dL_law_845 : decode cL_law 845 = .ok (.if_icmp .eq 78, 3) := by decide +kernel
theorem dL_law_848 : decode cL_law 848 = .ok (.iconst 0, 1) := by decide +kernel
theorem dL_law_849 : decode cL_law 849 = .ok (.ireturn, 1) := by decide +kernel
theorem dL_law_850 : decode cL_law 850 = .ok (.aload_n 1, 1) := by decide +kernel
theorem dL_law_851 : decode cL_law 851 = .ok (.aload_n 0, 1) := by decide +kernel
theorem dL_law_852 : decode cL_law 852 = .ok (.iload_n 3, 1) := by decide +kernel
theorem dL_law_853 : decode cL_law 853 = .ok (.iconst 1, 1) := by decide +kernel
theorem dL_law_854 : decode cL_law 854 = .ok (.iadd, 1) := by decide +kernel
theorem dL_law_855 : decode cL_law 855 = .ok (.iaload, 1) := by decide +kernel
theorem dL_law_856 : decode cL_law 856 = .ok (.invokevirtual 114, 3) := by decide +kernel
theorem dL_law_859 : decode cL_law 859 = .ok (.aload_n 2, 1) := by decide +kernel
theorem dL_law_860 : decode cL_law 860 = .ok (.aload_n 0, 1) := by decide +kernel
theorem dL_law_861 : decode cL_law 861 = .ok (.iload_n 3, 1) := by decide +kernel
theorem dL_law_862 : decode cL_law 862 = .ok (.iconst 1, 1) := by decide +kernel
theorem dL_law_863 : decode cL_law 863 = .ok (.iadd, 1) := by decide +kernel
theorem dL_law_864 : decode cL_law 864 = .ok (.iaload, 1) := by decide +kernel
theorem dL_law_865 : decode cL_law 865 = .ok (.invokevirtual 117, 3) := by decide +kernel
theorem dL_law_868 : decode cL_law 868 = .ok (.if_icmp .eq 55, 3) := by decide +kernel
theorem dL_law_871 : decode cL_law 871 = .ok (.iconst 0, 1) := by decide +kernel
theorem dL_law_872 : decode cL_law 872 = .ok (.ireturn, 1) := by decide +kernel
theorem dL_law_873 : decode cL_law 873 = .ok (.aload_n 1, 1) := by decide +kernel
theorem dL_law_874 : decode cL_law 874 = .ok (.aload_n 0, 1) := by decide +kernel
theorem dL_law_875 : decode cL_law 875 = .ok (.iload_n 3, 1) := by decide +kernel
theorem dL_law_876 : decode cL_law 876 = .ok (.iconst 1, 1) := by decide +kernel
theorem dL_law_877 : decode cL_law 877 = .ok (.iadd, 1) := by decide +kernel
theorem dL_law_878 : decode cL_law 878 = .ok (.iaload, 1) := by decide +kernel
theorem dL_law_879 : decode cL_law 879 = .ok (.invokevirtual 118, 3) := by decide +kernel
theorem dL_law_882 : decode cL_law 882 = .ok (.aload_n 2, 1) := by decide +kernel
theorem dL_law_883 : decode cL_law 883 = .ok (.aload_n 0, 1) := by decide +kernel
theorem dL_law_884 : decode cL_law 884 = .ok (.iload_n 3, 1) := by decide +kernel
theorem dL_law_885 : decode cL_law 885 = .ok (.iconst 1, 1) := by decide +kernel
theorem dL_law_886 : decode cL_law 886 = .ok (.iadd, 1) := by decide +kernel
theorem dL_law_887 : decode cL_law 887 = .ok (.iaload, 1) := by decide +kernel
theorem dL_law_888 : decode cL_law 888 = .ok (.invokevirtual 121, 3) := by decide +kernel
theorem dL_law_891 : decode cL_law 891 = .ok (.if_icmp .eq 32, 3) := by decide +kernel
theorem dL_law_894 : decode cL_law 894 = .ok (.iconst 0, 1) := by decide +kernel
theorem dL_law_895 : decode cL_law 895 = .ok (.ireturn, 1) := by decide +kernel
theorem dL_law_896 : decode cL_law 896 = .ok (.aload_n 1, 1) := by decide +kernel
theorem dL_law_897 : decode cL_law 897 = .ok (.invokevirtual 122, 3) := by decide +kernel
theorem dL_law_900 : decode cL_law 900 = .ok (.aload_n 2, 1) := by decide +kernel
theorem dL_law_901 : decode cL_law 901 = .ok (.invokevirtual 125, 3) := by decide +kernel
theorem dL_law_904 : decode cL_law 904 = .ok (.if_icmp .eq 19, 3) := by decide +kernel
theorem dL_law_907 : decode cL_law 907 = .ok (.iconst 0, 1) := by decide +kernel
theorem dL_law_908 : decode cL_law 908 = .ok (.ireturn, 1) := by decide +kernel
theorem dL_law_909 : decode cL_law 909 = .ok (.aload_n 1, 1) := by decide +kernel
theorem dL_law_910 : decode cL_law 910 = .ok (.invokevirtual 126, 3) := by decide +kernel
theorem dL_law_913 : decode cL_law 913 = .ok (.aload_n 2, 1) := by decide +kernel
theorem dL_law_914 : decode cL_law 914 = .ok (.invokevirtual 130, 3) := by decide +kernel
theorem dL_law_917 : decode cL_law 917 = .ok (.lcmp, 1) := by decide +kernel
theorem dL_law_918 : decode cL_law 918 = .ok (.ifCond .eq 5, 3) := by decide +kernel
theorem dL_law_921 : decode cL_law 921 = .ok (.iconst 0, 1) := by decide +kernel
theorem dL_law_922 : decode cL_law 922 = .ok (.ireturn, 1) := by decide +kernel
theorem dL_law_923 : decode cL_law 923 = .ok (.iinc 3 5, 3) := by decide +kernel
theorem dL_law_926 : decode cL_law 926 = .ok (.goto (-908), 3) := by decide +kernel
theorem dL_law_929 : decode cL_law 929 = .ok (.iconst 1, 1) := by decide +kernel
theorem dL_law_930 : decode cL_law 930 = .ok (.ireturn, 1) := by decide +kernel
end
section
/-! the judgement J: the walk of one method over BLOCKS of cells; contracts Con; the frame rule is in the call rows -/
abbrev jG : Type := Launch × va_G × (Nat → ClassId)
abbrev jE : Type := Program × Env × State × MethodId × Array Value × List Frame × Method × Code × (Nat → Prop) × (State → Prop)
abbrev jEp (E : jE) : Program := E.1
abbrev jEe (E : jE) : Env := E.2.1
abbrev jEs (E : jE) : State := E.2.2.1
abbrev jEm (E : jE) : MethodId := E.2.2.2.1
abbrev jEa (E : jE) : Array Value := E.2.2.2.2.1
abbrev jEb (E : jE) : List Frame := E.2.2.2.2.2.1
abbrev jEh (E : jE) : Method := E.2.2.2.2.2.2.1
abbrev jEc (E : jE) : Code := E.2.2.2.2.2.2.2.1
abbrev jEA (E : jE) : Nat → Prop := E.2.2.2.2.2.2.2.2.1
abbrev jEQ (E : jE) : State → Prop := E.2.2.2.2.2.2.2.2.2
def jT : List Cond := lw_tbl.filter goodWord
def jWs (y : MethodName) (cc : ByteArray) (nL : Nat) (ret : Option FieldType) : List Cond := .code y cc nL ret :: jT
def jTys (g : jG) : List (ClassId × FieldType) := [(g.2.2 0, .byte), (g.2.2 1, .int), (g.2.2 2, .boolean), (g.2.2 3, .object "EscapeLights$Building"), (g.2.2 4, .object "EscapeLights$Light")]
def jIsNest : Cond → Bool
  | .methodLinkNest _ _ _ _ => true
  | _ => false
def jNw : List Cond := lw_tbl.filter jIsNest
def jK (g : jG) (U : State) : Prop := va_K g.2.1 vwCl (jTys g) U ∧ (∀ w ∈ jNw, va_Nw w U) ∧ va_AO "EscapeLights$Building" U ∧ va_AO "EscapeLights$Light" U
theorem jK.moved {g : jG} {s U : State} (hW : s.WarmedH U.vm) (h : jK g s) : jK g U := by
  obtain ⟨h1, h2, h3, h4⟩ := h
  refine ⟨va_K.moved hW.alike h1, fun w hw => ?_, va_AO.moved hW.alike h3, va_AO.moved hW.alike h4⟩
  have h5 := (List.mem_filter.mp hw).2
  cases w with
  | methodLinkNest a i x h => exact va_Nw.warmM hW (h2 _ hw)
  | _ => cases h5
theorem jK.calling {g : jG} {U : State} {f : JFrame} {mk : MethodId} {a : Array Value} (h : jK g U) : jK g (U.calling f mk a) := by
  obtain ⟨h1, h2, h3, h4⟩ := h
  refine ⟨va_K.moved (u := U) (U := U.calling f mk a) (Vm.Alike.refl U.vm) h1, fun w hw => ?_, va_AO.moved (u := U) (U := U.calling f mk a) (Vm.Alike.refl U.vm) h3, va_AO.moved (u := U) (U := U.calling f mk a) (Vm.Alike.refl U.vm) h4⟩
  have h5 := (List.mem_filter.mp hw).2
  cases w with
  | methodLinkNest a i x h => exact va_Nw.same rfl (u := U) rfl (h2 _ hw)
  | _ => cases h5
/-- what holds of the cells: they are there, apart, and of a kind -/
def jP (g : jG) (A : Nat → Prop) (ws : va_W) (H : Heap) : Prop := va_P g.2.1 vwCl ws H ∧ va_D A ws
def jPre (g : jG) (av : List Value) (sz : Nat) (bl : List va_W) : Array Value → State → Prop := va_Pc av (fun U => U.heap.size = sz ∧ jP g (fun _ => True) bl.flatten U.heap ∧ jK g U)
def jPost (g : jG) (sz : Nat) (bl : List va_W) (Post : Option Value → List va_W → Prop) : Array Value → State → Outcome → State → Prop := fun _ st oc t =>
  (∃ (r : Option Value) (b1 : List va_W), oc = .returned r ∧ Post r b1 ∧ b1.length = bl.length ∧ jP g (va_A bl.flatten sz) b1.flatten t.heap) ∧ va_F (va_A bl.flatten sz) st t
def jRm (fr lo mc ms : Nat) : Room := { frames := fr, cells := mc, slots := ms, locals := lo }
/-- a method's contract on given arguments and blocks -/
def Con (g : jG) (y : MethodName) (cc : ByteArray) (nL : Nat) (ret : Option FieldType) (fr lo mc ms : Nat) (av : List Value) (bl : List va_W) (Post : Option Value → List va_W → Prop) : Prop :=
  ∀ sz : Nat, Met g.1 y (jWs y cc nL ret) (jRm fr lo mc ms) (jPre g av sz bl) (jPost g sz bl Post) mc ms (va_A bl.flatten sz)
def J (g : jG) (R : Room) (E : jE) (nL pc : Nat) (lv : List (Nat × Value)) (st : List Value) (bl : List va_W) (k n : Nat) : Prop :=
  ∀ (H : Heap) (locs : List Loc) (ls : Array Slot), jP g (jEA E) bl.flatten H → va_S (jEA E) (jEs E).heap H locs → lv_has ls nL lv →
    W (jEp E) g.1 (jEe E) R (jEs E) (jEm E) (jEa E) (jEb E) (jEh E) (jEc E) H locs k n (jEQ E) (F0 (jEm E) pc ls st)
/-- what stays through a method's walk -/
def jC (g : jG) (R : Room) (E : jE) (cc : ByteArray) (own : String) (nL : Nat) : Prop :=
  (jEp E).tables.exec = Jvm.exec ∧ (jEc E).code = cc ∧ (jEc E).maxLocals = nL ∧ (jEs E).vm.findClass own = some (jEm E).cls ∧ (∀ w ∈ jT, w.before (jEa E) (jEs E) = true) ∧ jK g (jEs E) ∧ (∀ q, (jEs E).heap.size ≤ q → jEA E q) ∧ (jEh E).locks = false
def jQ (g : jG) (E : jE) (ret : Option FieldType) (mc ms : Nat) (bl : List va_W) (Post : Option Value → List va_W → Prop) : Prop :=
  (jEh E).sig.returnType = ret ∧ jEA E = va_A bl.flatten (jEs E).heap.size ∧ jEQ E = MQ (jEb E) (jPost g (jEs E).heap.size bl Post) (jEa E) (jEs E) mc ms (va_A bl.flatten (jEs E).heap.size)
theorem jT_sub : ∀ w ∈ jT, w ∈ lw_tbl := fun _ h => (List.mem_filter.mp h).1
theorem jT_mem {w : Cond} (i : Nat) (h : lw_tbl[i]? = some w) (hg : goodWord w = true) : w ∈ jT :=
  List.mem_filter.mpr ⟨List.mem_of_getElem? (i := i) h, hg⟩
theorem jWs_good {y : MethodName} {cc : ByteArray} {nL : Nat} {ret : Option FieldType} (h : Cond.code y cc nL ret ∈ jT) : GoodIn jT (jWs y cc nL ret) := by
  intro w hw
  rcases List.mem_cons.mp hw with rfl | hw
  · exact ⟨h, good_of_word (List.mem_filter.mp h).2⟩
  · exact ⟨hw, good_of_word (List.mem_filter.mp hw).2⟩
theorem jP.self {g : jG} {A : Nat → Prop} {ws : va_W} {H : Heap} {sz : Nat} (h : jP g A ws H) : jP g (va_A ws sz) ws H := ⟨h.1, h.2.self⟩
theorem Con.of {g : jG} {y : MethodName} {cc : ByteArray} {nL : Nat} {ret : Option FieldType} {fr lo mc ms : Nat} {av : List Value} {bl : List va_W} {Post : Option Value → List va_W → Prop} {lv : List (Nat × Value)} {own : String}
    (hy : plainName y.cls = true) (hown : y.cls = own) (hlen : (lg_sl av).length ≤ nL) (hlv : lv_args 0 av = lv)
    (body : ∀ E : jE, jC g (jRm fr lo mc ms) E cc own nL → jQ g E ret mc ms bl Post → (jEh E).name = y.name → J g (jRm fr lo mc ms) E nL 0 lv [] bl 0 0) : Con g y cc nL ret fr lo mc ms av bl Post := by
  intro sz
  refine Met.ofW (cc := cc) (maxL := nL) (ret := ret) hy rfl ?_
  intro p e s m args below meth c s₁ B hml hv
  obtain ⟨rfl, hsz, hP, hK⟩ := hv
  subst hsz
  subst hown
  subst hlv
  have hts := atoms_spec (ws := jWs y cc nL ret) B.pre
  have h1 := body (p, e, s, m, av.toArray, below, meth, c, va_A bl.flatten s.heap.size, MQ below (jPost g s.heap.size bl Post) av.toArray s mc ms (va_A bl.flatten s.heap.size))
    ⟨B.exec, B.bytes, hml, findClass_of_methodNamed B.named, fun w h => hts w (List.mem_cons_of_mem _ h), hK, fun q h => Or.inr h, B.notSynchronized⟩ ⟨B.returns, rfl, rfl⟩ (name_of_methodNamed B.named B.method).1
  have hl := lv_entry av (n := nL) hlen
  rw [lg_entry_eq]
  exact h1 s.heap [] _ hP.self va_S.rf hl
section JROWS
variable {g : jG} {R : Room} {E : jE} {cc : ByteArray} {own : String} {nL pc : Nat} {lv : List (Nat × Value)} {st : List Value} {bl : List va_W} {k n : Nat}
def lset : List (Nat × Value) → Nat → Value → List (Nat × Value)
  | [], i, v => [(i, v)]
  | (j, w) :: t, i, v => bif Nat.blt j i then (j, w) :: lset t i v else bif Nat.beq j i then (i, v) :: t else (i, v) :: (j, w) :: t
def lget : List (Nat × Value) → Nat → Option Value
  | [], _ => none
  | (j, w) :: t, i => bif Nat.beq j i then some w else lget t i
def lpick (lv : List (Nat × Value)) (ks : List Nat) : List (Nat × Value) := ks.filterMap (fun i => (lget lv i).map (fun v => (i, v)))
/-- no long value lies just below -/
def lfree : List (Nat × Value) → Nat → Bool
  | [], _ => true
  | (j, w) :: t, i => (bif Nat.beq (j + 1) i then !(w.category == 2) else true) && lfree t i
theorem lget_mem {i : Nat} {v : Value} : ∀ {lv : List (Nat × Value)}, lget lv i = some v → (i, v) ∈ lv
  | [], h => by cases h
  | (j, w) :: t, h => by
    unfold lget at h
    cases hj : Nat.beq j i with
    | true =>
      rw [hj] at h
      have e := Nat.eq_of_beq_eq_true hj
      cases h
      subst e
      exact List.mem_cons_self
    | false =>
      rw [hj] at h
      exact List.mem_cons_of_mem _ (lget_mem h)
theorem lset_mem {i : Nat} {v : Value} {q : Nat × Value} : ∀ {lv : List (Nat × Value)}, q ∈ lset lv i v → q = (i, v) ∨ (q ∈ lv ∧ q.1 ≠ i) ∨ q ∈ lv
  | [], h => by
    rcases List.mem_cons.mp h with h | h
    · exact Or.inl h
    · cases h
  | (j, w) :: t, h => by
    unfold lset at h
    cases hj : Nat.blt j i with
    | true =>
      rw [hj] at h
      rcases List.mem_cons.mp h with h | h
      · exact Or.inr (Or.inr (by rw [h]; exact List.mem_cons_self))
      · rcases lset_mem h with h | h | h
        · exact Or.inl h
        · exact Or.inr (Or.inr (List.mem_cons_of_mem _ h.1))
        · exact Or.inr (Or.inr (List.mem_cons_of_mem _ h))
    | false =>
      rw [hj] at h
      cases hj2 : Nat.beq j i with
      | true =>
        rw [hj2] at h
        rcases List.mem_cons.mp h with h | h
        · exact Or.inl h
        · exact Or.inr (Or.inr (List.mem_cons_of_mem _ h))
      | false =>
        rw [hj2] at h
        rcases List.mem_cons.mp h with h | h
        · exact Or.inl h
        · exact Or.inr (Or.inr h)
/-- the places of a list of locals are in ascending order -/
def lord : List (Nat × Value) → Bool
  | [] => true
  | (_, _) :: [] => true
  | (j, _) :: (j2, w2) :: t => Nat.blt j j2 && lord ((j2, w2) :: t)
theorem lord_tail {q : Nat × Value} {t : List (Nat × Value)} (h : lord (q :: t) = true) : lord t = true ∧ ∀ r ∈ t, q.1 < r.1 := by
  induction t generalizing q with
  | nil => exact ⟨rfl, fun r hr => by cases hr⟩
  | cons a t ih =>
    obtain ⟨j, w⟩ := q
    obtain ⟨j2, w2⟩ := a
    have h : (Nat.blt j j2 && lord ((j2, w2) :: t)) = true := h
    rw [Bool.and_eq_true] at h
    have h1 : j < j2 := Nat.le_of_ble_eq_true h.1
    refine ⟨h.2, fun r hr => ?_⟩
    rcases List.mem_cons.mp hr with rfl | hr
    · exact h1
    · exact Nat.lt_trans h1 ((ih h.2).2 r hr)
theorem lset_ne {i : Nat} {v : Value} {q : Nat × Value} : ∀ {lv : List (Nat × Value)}, lord lv = true → q ∈ lset lv i v → q = (i, v) ∨ (q ∈ lv ∧ q.1 ≠ i)
  | [], _, h => by
    rcases List.mem_cons.mp h with h | h
    · exact Or.inl h
    · cases h
  | (j, w) :: t, ho, h => by
    obtain ⟨ho1, ho2⟩ := lord_tail ho
    unfold lset at h
    cases hj : Nat.blt j i with
    | true =>
      rw [hj] at h
      have hj' : j < i := Nat.le_of_ble_eq_true hj
      rcases List.mem_cons.mp h with h | h
      · refine Or.inr ⟨by rw [h]; exact List.mem_cons_self, ?_⟩
        rw [h]; exact Nat.ne_of_lt hj'
      · rcases lset_ne ho1 h with h | h
        · exact Or.inl h
        · exact Or.inr ⟨List.mem_cons_of_mem _ h.1, h.2⟩
    | false =>
      rw [hj] at h
      have hj' : i ≤ j := by
        rcases Nat.lt_or_ge j i with q | q
        · have : Nat.blt j i = true := Nat.ble_eq_true_of_le q
          rw [hj] at this; cases this
        · exact q
      cases hj2 : Nat.beq j i with
      | true =>
        rw [hj2] at h
        have e := Nat.eq_of_beq_eq_true hj2
        rcases List.mem_cons.mp h with h | h
        · exact Or.inl h
        · exact Or.inr ⟨List.mem_cons_of_mem _ h, by have := ho2 q h; show q.1 ≠ i; simp only at this; omega⟩
      | false =>
        rw [hj2] at h
        have hne : j ≠ i := fun e => by
          subst e
          have : Nat.beq j j = true := Nat.beq_refl j
          rw [hj2] at this; cases this
        rcases List.mem_cons.mp h with h | h
        · exact Or.inl h
        · refine Or.inr ⟨h, ?_⟩
          rcases List.mem_cons.mp h with h | h
          · rw [h]; exact hne
          · have := ho2 q h; simp only at this; omega
theorem lfree_mem {i : Nat} : ∀ {lv : List (Nat × Value)}, lfree lv i = true → ∀ q ∈ lv, q.1 + 1 = i → ¬ q.2.category = 2
  | [], _, _, h, _ => by cases h
  | (j, w) :: t, hf, q, h, e => by
    unfold lfree at hf
    rw [Bool.and_eq_true] at hf
    rcases List.mem_cons.mp h with h | h
    · subst h
      have e2 : Nat.beq (j + 1) i = true := by rw [show i = j + 1 from e.symm]; exact Nat.beq_refl _
      rw [e2] at hf
      intro hc
      have h1 : w.category = 2 := hc
      simp [h1] at hf
    · exact lfree_mem hf.2 q h e
theorem lv_has.weak {ls : Array Slot} {l l' : List (Nat × Value)} (h : lv_has ls nL l) (hs : ∀ q ∈ l', q ∈ l) : lv_has ls nL l' := ⟨h.1, h.2.1, fun q hq => h.2.2 q (hs q hq)⟩
theorem lpick_mem {ks : List Nat} {q : Nat × Value} (h : q ∈ lpick lv ks) : q ∈ lv := by
  obtain ⟨i, -, hi⟩ := List.mem_filterMap.mp h
  cases hg : lget lv i with
  | none => rw [hg] at hi; cases hi
  | some v =>
    rw [hg] at hi
    cases hi
    exact lget_mem hg
theorem j_pick (ks : List Nat) (kk : J g R E nL pc (lpick lv ks) st bl k n) : J g R E nL pc lv st bl k n :=
  fun H locs ls hP hS hl => kk H locs ls hP hS (hl.weak fun _ h => lpick_mem h)
theorem j_widen {k' n' : Nat} (h1 : k ≤ k') (h2 : n ≤ n') (kk : J g R E nL pc lv st bl k' n') : J g R E nL pc lv st bl k n :=
  fun H locs ls hP hS hl => W.widen h1 h2 (kk H locs ls hP hS hl)
theorem lget_at {ls : Array Slot} {i : Nat} {v : Value} (h : lv_has ls nL lv) (hg : lget lv i = some v) : ls[i]? = some (.val v) := h.2.2 (i, v) (lget_mem hg)
theorem j_iload_n (hC : jC g R E cc own nL) {q : Fin 4} {i : Nat} {x : Int32} (hd : decode cc pc = .ok (.iload_n q, 1)) (hi : (q : Nat) = i) (hg : lget lv i = some (.int x)) (kk : J g R E nL (pc + 1) lv (.int x :: st) bl k n) : J g R E nL pc lv st bl k n :=
  fun H locs ls hP hS hl => lv_iload_n hC.1 hC.2.1 hd hi (lget_at hl hg) (kk H locs ls hP hS hl)
theorem j_iload (hC : jC g R E cc own nL) {i : Nat} {x : Int32} (hd : decode cc pc = .ok (.iload i, 2)) (hg : lget lv i = some (.int x)) (kk : J g R E nL (pc + 2) lv (.int x :: st) bl k n) : J g R E nL pc lv st bl k n :=
  fun H locs ls hP hS hl => lv_iload hC.1 hC.2.1 hd (lget_at hl hg) (kk H locs ls hP hS hl)
theorem j_lload_n (hC : jC g R E cc own nL) {q : Fin 4} {i : Nat} {x : Int64} (hd : decode cc pc = .ok (.lload_n q, 1)) (hi : (q : Nat) = i) (hg : lget lv i = some (.long x)) (kk : J g R E nL (pc + 1) lv (.long x :: st) bl k n) : J g R E nL pc lv st bl k n :=
  fun H locs ls hP hS hl => lv_lload_n hC.1 hC.2.1 hd hi (lget_at hl hg) (kk H locs ls hP hS hl)
theorem j_aload_n (hC : jC g R E cc own nL) {q : Fin 4} {i x : Nat} (hd : decode cc pc = .ok (.aload_n q, 1)) (hi : (q : Nat) = i) (hg : lget lv i = some (.ref x)) (kk : J g R E nL (pc + 1) lv (.ref x :: st) bl k n) : J g R E nL pc lv st bl k n :=
  fun H locs ls hP hS hl => lv_aload_n hC.1 hC.2.1 hd hi (lget_at hl hg) (kk H locs ls hP hS hl)
theorem j_aload (hC : jC g R E cc own nL) {i x : Nat} (hd : decode cc pc = .ok (.aload i, 2)) (hg : lget lv i = some (.ref x)) (kk : J g R E nL (pc + 2) lv (.ref x :: st) bl k n) : J g R E nL pc lv st bl k n :=
  fun H locs ls hP hS hl => lv_aload hC.1 hC.2.1 hd (lget_at hl hg) (kk H locs ls hP hS hl)
theorem j_aload_nN (hC : jC g R E cc own nL) {q : Fin 4} {i : Nat} (hd : decode cc pc = .ok (.aload_n q, 1)) (hi : (q : Nat) = i) (hg : lget lv i = some .null) (kk : J g R E nL (pc + 1) lv (.null :: st) bl k n) : J g R E nL pc lv st bl k n :=
  fun H locs ls hP hS hl => lv_aload_nN hC.1 hC.2.1 hd hi (lget_at hl hg) (kk H locs ls hP hS hl)
theorem j_aloadN (hC : jC g R E cc own nL) {i : Nat} (hd : decode cc pc = .ok (.aload i, 2)) (hg : lget lv i = some .null) (kk : J g R E nL (pc + 2) lv (.null :: st) bl k n) : J g R E nL pc lv st bl k n :=
  fun H locs ls hP hS hl => lv_aloadN hC.1 hC.2.1 hd (lget_at hl hg) (kk H locs ls hP hS hl)
theorem lset_has {ls : Array Slot} {i : Nat} {v : Value} {lv' : List (Nat × Value)} (ho : lord lv = true) (hf : lfree lv i = true) (hl : (i, v) :: lv.filter (fun q => !(q.1 == i) && !(q.1 + 1 == i && q.2.category == 2)) = lv') (h : lv_has ls nL lv') : lv_has ls nL (lset lv i v) := by
  refine h.weak fun q hq => ?_
  subst hl
  rcases lset_ne ho hq with rfl | ⟨h1, h2⟩
  · exact List.mem_cons_self
  · refine List.mem_cons_of_mem _ (List.mem_filter.mpr ⟨h1, ?_⟩)
    have h3 := lfree_mem hf q h1
    simp only [Bool.and_eq_true, Bool.not_eq_true', beq_eq_false_iff_ne, ne_eq, Bool.and_eq_false_iff]
    refine ⟨h2, ?_⟩
    by_cases h4 : q.1 + 1 = i
    · exact Or.inr (h3 h4)
    · exact Or.inl h4
theorem j_istore_n (hC : jC g R E cc own nL) {q : Fin 4} {i : Nat} {x : Int32} (hd : decode cc pc = .ok (.istore_n q, 1)) (hi : (q : Nat) = i) (hn : Nat.blt i nL = true) (ho : lord lv = true) (hf : lfree lv i = true) (kk : ∀ y : Int32, y = x → J g R E nL (pc + 1) (lset lv i (.int y)) st bl k n) : J g R E nL pc lv (.int x :: st) bl k n :=
  fun H locs ls hP hS hl => lv_istore_n hC.1 hC.2.1 hd hi hl (Nat.le_of_ble_eq_true hn) rfl (fun ls' hl' => kk x rfl H locs ls' hP hS (lset_has ho hf rfl hl'))
theorem j_istore (hC : jC g R E cc own nL) {i : Nat} {x : Int32} (hd : decode cc pc = .ok (.istore i, 2)) (hn : Nat.blt i nL = true) (ho : lord lv = true) (hf : lfree lv i = true) (kk : ∀ y : Int32, y = x → J g R E nL (pc + 2) (lset lv i (.int y)) st bl k n) : J g R E nL pc lv (.int x :: st) bl k n :=
  fun H locs ls hP hS hl => lv_istore hC.1 hC.2.1 hd hl (Nat.le_of_ble_eq_true hn) rfl (fun ls' hl' => kk x rfl H locs ls' hP hS (lset_has ho hf rfl hl'))
theorem j_astore_n (hC : jC g R E cc own nL) {q : Fin 4} {i x : Nat} (hd : decode cc pc = .ok (.astore_n q, 1)) (hi : (q : Nat) = i) (hn : Nat.blt i nL = true) (ho : lord lv = true) (hf : lfree lv i = true) (kk : J g R E nL (pc + 1) (lset lv i (.ref x)) st bl k n) : J g R E nL pc lv (.ref x :: st) bl k n :=
  fun H locs ls hP hS hl => lv_astore_n hC.1 hC.2.1 hd hi hl (Nat.le_of_ble_eq_true hn) rfl (fun ls' hl' => kk H locs ls' hP hS (lset_has ho hf rfl hl'))
theorem j_astore (hC : jC g R E cc own nL) {i x : Nat} (hd : decode cc pc = .ok (.astore i, 2)) (hn : Nat.blt i nL = true) (ho : lord lv = true) (hf : lfree lv i = true) (kk : J g R E nL (pc + 2) (lset lv i (.ref x)) st bl k n) : J g R E nL pc lv (.ref x :: st) bl k n :=
  fun H locs ls hP hS hl => lv_astore hC.1 hC.2.1 hd hl (Nat.le_of_ble_eq_true hn) rfl (fun ls' hl' => kk H locs ls' hP hS (lset_has ho hf rfl hl'))
theorem j_astore_nN (hC : jC g R E cc own nL) {q : Fin 4} {i : Nat} (hd : decode cc pc = .ok (.astore_n q, 1)) (hi : (q : Nat) = i) (hn : Nat.blt i nL = true) (ho : lord lv = true) (hf : lfree lv i = true) (kk : J g R E nL (pc + 1) (lset lv i .null) st bl k n) : J g R E nL pc lv (.null :: st) bl k n :=
  fun H locs ls hP hS hl => lv_astore_nN hC.1 hC.2.1 hd hi hl (Nat.le_of_ble_eq_true hn) rfl (fun ls' hl' => kk H locs ls' hP hS (lset_has ho hf rfl hl'))
theorem j_astoreN (hC : jC g R E cc own nL) {i : Nat} (hd : decode cc pc = .ok (.astore i, 2)) (hn : Nat.blt i nL = true) (ho : lord lv = true) (hf : lfree lv i = true) (kk : J g R E nL (pc + 2) (lset lv i .null) st bl k n) : J g R E nL pc lv (.null :: st) bl k n :=
  fun H locs ls hP hS hl => lv_astoreN hC.1 hC.2.1 hd hl (Nat.le_of_ble_eq_true hn) rfl (fun ls' hl' => kk H locs ls' hP hS (lset_has ho hf rfl hl'))
/-- the place above a long is given up -/
def ldel (lv : List (Nat × Value)) (i : Nat) : List (Nat × Value) := lv.filter (fun q => !(Nat.beq q.1 i))
theorem j_lstore_n (hC : jC g R E cc own nL) {q : Fin 4} {i : Nat} {x : Int64} (hd : decode cc pc = .ok (.lstore_n q, 1)) (hi : (q : Nat) = i) (hn : Nat.blt (i + 1) nL = true) (ho : lord lv = true) (hf : lfree lv i = true) (hl2 : lget lv (i + 1) = none) (kk : ∀ y : Int64, y = x → J g R E nL (pc + 1) (lset lv i (.long y)) st bl k n) : J g R E nL pc lv (.long x :: st) bl k n := by
  intro H locs ls hP hS hl
  refine lv_lstore_n hC.1 hC.2.1 hd hi hl (Nat.le_of_ble_eq_true hn) rfl (fun ls' hl' => kk x rfl H locs ls' hP hS (hl'.weak fun q hq => ?_))
  rcases lset_ne ho hq with rfl | ⟨h1, h2⟩
  · exact List.mem_cons_self
  · refine List.mem_cons_of_mem _ (List.mem_filter.mpr ⟨h1, ?_⟩)
    have h3 := lfree_mem hf q h1
    have h5 : q.1 ≠ i + 1 := by
      intro e
      have : ∀ {l : List (Nat × Value)}, lget l (i + 1) = none → ∀ r ∈ l, r.1 ≠ i + 1 := by
        intro l
        induction l with
        | nil => intro _ r hr; cases hr
        | cons a t ih =>
          obtain ⟨j, w⟩ := a
          intro hg r hr
          unfold lget at hg
          cases hj : Nat.beq j (i + 1) with
          | true => rw [hj] at hg; cases hg
          | false =>
            rw [hj] at hg
            rcases List.mem_cons.mp hr with rfl | hr
            · intro e2
              have e3 : j = i + 1 := e2
              rw [e3, Nat.beq_refl] at hj
              cases hj
            · exact ih hg r hr
      exact this hl2 q h1 e
    simp only [Bool.and_eq_true, Bool.not_eq_true', beq_eq_false_iff_ne, ne_eq, Bool.and_eq_false_iff]
    refine ⟨h2, h5, ?_⟩
    by_cases h4 : q.1 + 1 = i
    · exact Or.inr (h3 h4)
    · exact Or.inl h4
theorem lget_pos {i : Nat} {v : Value} (h : lget lv i = some v) : ∃ q : Nat, lv[q]? = some (i, v) := List.getElem?_of_mem (lget_mem h)
theorem j_iinc (hC : jC g R E cc own nL) {i : Nat} {z : Int} {x : Int32} (v : Int32) (hd : decode cc pc = .ok (.iinc i z, 3)) (hg : lget lv i = some (.int x)) (hz : Int32.ofInt z = v) (hn : Nat.blt i nL = true) (ho : lord lv = true) (hf : lfree lv i = true) (kk : ∀ y : Int32, y = x + v → J g R E nL (pc + 3) (lset lv i (.int y)) st bl k n) : J g R E nL pc lv st bl k n := by
  intro H locs ls hP hS hl
  obtain ⟨q, hq⟩ := lget_pos hg
  exact lv_iinc hC.1 hC.2.1 hd hl hq (by rw [hz]) (Nat.le_of_ble_eq_true hn) rfl (fun ls' hl' => kk _ rfl H locs ls' hP hS (lset_has ho hf rfl hl'))
theorem j_iadd (hC : jC g R E cc own nL) {x y : Int32} (hd : decode cc pc = .ok (.iadd, 1)) (kk : J g R E nL (pc + 1) lv (.int (x + y) :: st) bl k n) : J g R E nL pc lv (.int y :: .int x :: st) bl k n :=
  fun H locs ls hP hS hl => lv_iadd hC.1 hC.2.1 hd (kk H locs ls hP hS hl)
theorem j_isub (hC : jC g R E cc own nL) {x y : Int32} (hd : decode cc pc = .ok (.isub, 1)) (kk : J g R E nL (pc + 1) lv (.int (x - y) :: st) bl k n) : J g R E nL pc lv (.int y :: .int x :: st) bl k n :=
  fun H locs ls hP hS hl => lv_isub hC.1 hC.2.1 hd (kk H locs ls hP hS hl)
theorem j_imul (hC : jC g R E cc own nL) {x y : Int32} (hd : decode cc pc = .ok (.imul, 1)) (kk : J g R E nL (pc + 1) lv (.int (x * y) :: st) bl k n) : J g R E nL pc lv (.int y :: .int x :: st) bl k n :=
  fun H locs ls hP hS hl => lv_imul hC.1 hC.2.1 hd (kk H locs ls hP hS hl)
theorem j_iand (hC : jC g R E cc own nL) {x y : Int32} (hd : decode cc pc = .ok (.iand, 1)) (kk : J g R E nL (pc + 1) lv (.int (x &&& y) :: st) bl k n) : J g R E nL pc lv (.int y :: .int x :: st) bl k n :=
  fun H locs ls hP hS hl => lv_iand hC.1 hC.2.1 hd (kk H locs ls hP hS hl)
theorem j_ior (hC : jC g R E cc own nL) {x y : Int32} (hd : decode cc pc = .ok (.ior, 1)) (kk : J g R E nL (pc + 1) lv (.int (x ||| y) :: st) bl k n) : J g R E nL pc lv (.int y :: .int x :: st) bl k n :=
  fun H locs ls hP hS hl => lv_ior hC.1 hC.2.1 hd (kk H locs ls hP hS hl)
theorem j_ixor (hC : jC g R E cc own nL) {x y : Int32} (hd : decode cc pc = .ok (.ixor, 1)) (kk : J g R E nL (pc + 1) lv (.int (x ^^^ y) :: st) bl k n) : J g R E nL pc lv (.int y :: .int x :: st) bl k n :=
  fun H locs ls hP hS hl => lv_ixor hC.1 hC.2.1 hd (kk H locs ls hP hS hl)
theorem j_idiv (hC : jC g R E cc own nL) {x y : Int32} (hd : decode cc pc = .ok (.idiv, 1)) (hne : ¬ y = 0) (kk : J g R E nL (pc + 1) lv (.int (x / y) :: st) bl k n) : J g R E nL pc lv (.int y :: .int x :: st) bl k n :=
  fun H locs ls hP hS hl => lv_idiv hC.1 hC.2.1 hd hne (kk H locs ls hP hS hl)
theorem j_irem (hC : jC g R E cc own nL) {x y : Int32} (hd : decode cc pc = .ok (.irem, 1)) (hne : ¬ y = 0) (kk : J g R E nL (pc + 1) lv (.int (x - x / y * y) :: st) bl k n) : J g R E nL pc lv (.int y :: .int x :: st) bl k n :=
  fun H locs ls hP hS hl => lv_irem hC.1 hC.2.1 hd hne (kk H locs ls hP hS hl)
theorem j_ishl (hC : jC g R E cc own nL) {x y : Int32} (hd : decode cc pc = .ok (.ishl, 1)) (kk : J g R E nL (pc + 1) lv (.int (x <<< (y &&& 31)) :: st) bl k n) : J g R E nL pc lv (.int y :: .int x :: st) bl k n :=
  fun H locs ls hP hS hl => lv_ishl hC.1 hC.2.1 hd (kk H locs ls hP hS hl)
theorem j_ishr (hC : jC g R E cc own nL) {x y : Int32} (hd : decode cc pc = .ok (.ishr, 1)) (kk : J g R E nL (pc + 1) lv (.int (x >>> (y &&& 31)) :: st) bl k n) : J g R E nL pc lv (.int y :: .int x :: st) bl k n :=
  fun H locs ls hP hS hl => lv_ishr hC.1 hC.2.1 hd (kk H locs ls hP hS hl)
theorem j_ineg (hC : jC g R E cc own nL) {x : Int32} (hd : decode cc pc = .ok (.ineg, 1)) (kk : J g R E nL (pc + 1) lv (.int (-x) :: st) bl k n) : J g R E nL pc lv (.int x :: st) bl k n :=
  fun H locs ls hP hS hl => lv_ineg hC.1 hC.2.1 hd (kk H locs ls hP hS hl)
theorem j_ladd (hC : jC g R E cc own nL) {x y : Int64} (hd : decode cc pc = .ok (.ladd, 1)) (kk : J g R E nL (pc + 1) lv (.long (x + y) :: st) bl k n) : J g R E nL pc lv (.long y :: .long x :: st) bl k n :=
  fun H locs ls hP hS hl => lv_ladd hC.1 hC.2.1 hd (kk H locs ls hP hS hl)
theorem j_lmul (hC : jC g R E cc own nL) {x y : Int64} (hd : decode cc pc = .ok (.lmul, 1)) (kk : J g R E nL (pc + 1) lv (.long (x * y) :: st) bl k n) : J g R E nL pc lv (.long y :: .long x :: st) bl k n :=
  fun H locs ls hP hS hl => lv_lmul hC.1 hC.2.1 hd (kk H locs ls hP hS hl)
theorem j_i2l (hC : jC g R E cc own nL) {x : Int32} (hd : decode cc pc = .ok (.i2l, 1)) (kk : J g R E nL (pc + 1) lv (.long x.toInt64 :: st) bl k n) : J g R E nL pc lv (.int x :: st) bl k n :=
  fun H locs ls hP hS hl => lv_i2l hC.1 hC.2.1 hd rfl (kk H locs ls hP hS hl)
theorem j_i2b (hC : jC g R E cc own nL) {x : Int32} (hd : decode cc pc = .ok (.i2b, 1)) (kk : J g R E nL (pc + 1) lv (.int x.toInt8.toInt32 :: st) bl k n) : J g R E nL pc lv (.int x :: st) bl k n :=
  fun H locs ls hP hS hl => lv_i2b hC.1 hC.2.1 hd rfl (kk H locs ls hP hS hl)
theorem j_dup (hC : jC g R E cc own nL) {v : Value} (hd : decode cc pc = .ok (.dup, 1)) (hv : v.category = 1) (kk : J g R E nL (pc + 1) lv (v :: v :: st) bl k n) : J g R E nL pc lv (v :: st) bl k n :=
  fun H locs ls hP hS hl => lv_dup hC.1 hC.2.1 hd hv (kk H locs ls hP hS hl)
theorem j_dup2 (hC : jC g R E cc own nL) {v w : Value} (hd : decode cc pc = .ok (.dup2, 1)) (hv : v.category = 1) (hw : w.category = 1) (kk : J g R E nL (pc + 1) lv (v :: w :: v :: w :: st) bl k n) : J g R E nL pc lv (v :: w :: st) bl k n :=
  fun H locs ls hP hS hl => lv_dup2_11 hC.1 hC.2.1 hd hv hw (kk H locs ls hP hS hl)
theorem j_pop (hC : jC g R E cc own nL) {v : Value} (hd : decode cc pc = .ok (.pop, 1)) (hv : v.category = 1) (kk : J g R E nL (pc + 1) lv (st) bl k n) : J g R E nL pc lv (v :: st) bl k n :=
  fun H locs ls hP hS hl => lv_pop hC.1 hC.2.1 hd hv (kk H locs ls hP hS hl)
theorem j_iconst (hC : jC g R E cc own nL) {z : Int} (v : Int32) (hd : decode cc pc = .ok (.iconst z, 1)) (hv : Int32.ofInt z = v) (kk : J g R E nL (pc + 1) lv (.int v :: st) bl k n) : J g R E nL pc lv (st) bl k n :=
  fun H locs ls hP hS hl => lv_iconst hC.1 hC.2.1 hd hv (kk H locs ls hP hS hl)
theorem j_bipush (hC : jC g R E cc own nL) {z : Int} (v : Int32) (hd : decode cc pc = .ok (.bipush z, 2)) (hv : (Int8.ofInt z).toInt32 = v) (kk : J g R E nL (pc + 2) lv (.int v :: st) bl k n) : J g R E nL pc lv (st) bl k n :=
  fun H locs ls hP hS hl => lv_bipush hC.1 hC.2.1 hd hv (kk H locs ls hP hS hl)
theorem j_sipush (hC : jC g R E cc own nL) {z : Int} (v : Int32) (hd : decode cc pc = .ok (.sipush z, 3)) (hv : (Int16.ofInt z).toInt32 = v) (kk : J g R E nL (pc + 3) lv (.int v :: st) bl k n) : J g R E nL pc lv (st) bl k n :=
  fun H locs ls hP hS hl => lv_sipush hC.1 hC.2.1 hd hv (kk H locs ls hP hS hl)
theorem j_null (hC : jC g R E cc own nL) (hd : decode cc pc = .ok (.aconst_null, 1)) (kk : J g R E nL (pc + 1) lv (.null :: st) bl k n) : J g R E nL pc lv (st) bl k n :=
  fun H locs ls hP hS hl => lv_null hC.1 hC.2.1 hd (kk H locs ls hP hS hl)
theorem j_ldc (hC : jC g R E cc own nL) {index : Nat} (v : Int32) (hw : Cond.constant own index v ∈ jT) (hd : decode cc pc = .ok (.ldc index, 2)) (kk : J g R E nL (pc + 2) lv (.int v :: st) bl k n) : J g R E nL pc lv (st) bl k n :=
  fun H locs ls hP hS hl => lv_ldc hC.1 hC.2.1 hC.2.2.2.1 (hC.2.2.2.2.1 _ hw) hd (kk H locs ls hP hS hl)
theorem j_ldc2 (hC : jC g R E cc own nL) {index : Nat} (v : Int64) (hw : Cond.constantLong own index v ∈ jT) (hd : decode cc pc = .ok (.ldc2_w index, 3)) (kk : J g R E nL (pc + 3) lv (.long v :: st) bl k n) : J g R E nL pc lv (st) bl k n :=
  fun H locs ls hP hS hl => lv_ldc2 hC.1 hC.2.1 hC.2.2.2.1 (hC.2.2.2.2.1 _ hw) hd (kk H locs ls hP hS hl)
theorem j_if_eq (hC : jC g R E cc own nL) {x : Int32} {off : Int} {tgt : Nat} (hd : decode cc pc = .ok (.ifCond .eq off, 3)) (ht : (pc : Int) + off = (tgt : Int)) (kt : (x = 0) → J g R E nL tgt lv st bl k n) (kf : ¬ (x = 0) → J g R E nL (pc + 3) lv st bl k n) : J g R E nL pc lv (.int x :: st) bl k n :=
  fun H locs ls hP hS hl => lv_if_eq hC.1 hC.2.1 hd ht (fun q => kt q H locs ls hP hS hl) (fun q => kf q H locs ls hP hS hl)
theorem j_icmp_eq (hC : jC g R E cc own nL) {x y : Int32} {off : Int} {tgt : Nat} (hd : decode cc pc = .ok (.if_icmp .eq off, 3)) (ht : (pc : Int) + off = (tgt : Int)) (kt : (x = y) → J g R E nL tgt lv st bl k n) (kf : ¬ (x = y) → J g R E nL (pc + 3) lv st bl k n) : J g R E nL pc lv (.int y :: .int x :: st) bl k n :=
  fun H locs ls hP hS hl => lv_icmp_eq hC.1 hC.2.1 hd ht (fun q => kt q H locs ls hP hS hl) (fun q => kf q H locs ls hP hS hl)
theorem j_if_ne (hC : jC g R E cc own nL) {x : Int32} {off : Int} {tgt : Nat} (hd : decode cc pc = .ok (.ifCond .ne off, 3)) (ht : (pc : Int) + off = (tgt : Int)) (kt : (¬ x = 0) → J g R E nL tgt lv st bl k n) (kf : x = 0 → J g R E nL (pc + 3) lv st bl k n) : J g R E nL pc lv (.int x :: st) bl k n :=
  fun H locs ls hP hS hl => lv_if_ne hC.1 hC.2.1 hd ht (fun q => kt q H locs ls hP hS hl) (fun q => kf q H locs ls hP hS hl)
theorem j_icmp_ne (hC : jC g R E cc own nL) {x y : Int32} {off : Int} {tgt : Nat} (hd : decode cc pc = .ok (.if_icmp .ne off, 3)) (ht : (pc : Int) + off = (tgt : Int)) (kt : (¬ x = y) → J g R E nL tgt lv st bl k n) (kf : x = y → J g R E nL (pc + 3) lv st bl k n) : J g R E nL pc lv (.int y :: .int x :: st) bl k n :=
  fun H locs ls hP hS hl => lv_icmp_ne hC.1 hC.2.1 hd ht (fun q => kt q H locs ls hP hS hl) (fun q => kf q H locs ls hP hS hl)
theorem j_if_lt (hC : jC g R E cc own nL) {x : Int32} {off : Int} {tgt : Nat} (hd : decode cc pc = .ok (.ifCond .lt off, 3)) (ht : (pc : Int) + off = (tgt : Int)) (kt : (x < 0) → J g R E nL tgt lv st bl k n) (kf : ¬ (x < 0) → J g R E nL (pc + 3) lv st bl k n) : J g R E nL pc lv (.int x :: st) bl k n :=
  fun H locs ls hP hS hl => lv_if_lt hC.1 hC.2.1 hd ht (fun q => kt q H locs ls hP hS hl) (fun q => kf q H locs ls hP hS hl)
theorem j_icmp_lt (hC : jC g R E cc own nL) {x y : Int32} {off : Int} {tgt : Nat} (hd : decode cc pc = .ok (.if_icmp .lt off, 3)) (ht : (pc : Int) + off = (tgt : Int)) (kt : (x < y) → J g R E nL tgt lv st bl k n) (kf : ¬ (x < y) → J g R E nL (pc + 3) lv st bl k n) : J g R E nL pc lv (.int y :: .int x :: st) bl k n :=
  fun H locs ls hP hS hl => lv_icmp_lt hC.1 hC.2.1 hd ht (fun q => kt q H locs ls hP hS hl) (fun q => kf q H locs ls hP hS hl)
theorem j_if_ge (hC : jC g R E cc own nL) {x : Int32} {off : Int} {tgt : Nat} (hd : decode cc pc = .ok (.ifCond .ge off, 3)) (ht : (pc : Int) + off = (tgt : Int)) (kt : (0 ≤ x) → J g R E nL tgt lv st bl k n) (kf : ¬ (0 ≤ x) → J g R E nL (pc + 3) lv st bl k n) : J g R E nL pc lv (.int x :: st) bl k n :=
  fun H locs ls hP hS hl => lv_if_ge hC.1 hC.2.1 hd ht (fun q => kt q H locs ls hP hS hl) (fun q => kf q H locs ls hP hS hl)
theorem j_icmp_ge (hC : jC g R E cc own nL) {x y : Int32} {off : Int} {tgt : Nat} (hd : decode cc pc = .ok (.if_icmp .ge off, 3)) (ht : (pc : Int) + off = (tgt : Int)) (kt : (y ≤ x) → J g R E nL tgt lv st bl k n) (kf : ¬ (y ≤ x) → J g R E nL (pc + 3) lv st bl k n) : J g R E nL pc lv (.int y :: .int x :: st) bl k n :=
  fun H locs ls hP hS hl => lv_icmp_ge hC.1 hC.2.1 hd ht (fun q => kt q H locs ls hP hS hl) (fun q => kf q H locs ls hP hS hl)
theorem j_if_gt (hC : jC g R E cc own nL) {x : Int32} {off : Int} {tgt : Nat} (hd : decode cc pc = .ok (.ifCond .gt off, 3)) (ht : (pc : Int) + off = (tgt : Int)) (kt : (0 < x) → J g R E nL tgt lv st bl k n) (kf : ¬ (0 < x) → J g R E nL (pc + 3) lv st bl k n) : J g R E nL pc lv (.int x :: st) bl k n :=
  fun H locs ls hP hS hl => lv_if_gt hC.1 hC.2.1 hd ht (fun q => kt q H locs ls hP hS hl) (fun q => kf q H locs ls hP hS hl)
theorem j_icmp_gt (hC : jC g R E cc own nL) {x y : Int32} {off : Int} {tgt : Nat} (hd : decode cc pc = .ok (.if_icmp .gt off, 3)) (ht : (pc : Int) + off = (tgt : Int)) (kt : (y < x) → J g R E nL tgt lv st bl k n) (kf : ¬ (y < x) → J g R E nL (pc + 3) lv st bl k n) : J g R E nL pc lv (.int y :: .int x :: st) bl k n :=
  fun H locs ls hP hS hl => lv_icmp_gt hC.1 hC.2.1 hd ht (fun q => kt q H locs ls hP hS hl) (fun q => kf q H locs ls hP hS hl)
theorem j_if_le (hC : jC g R E cc own nL) {x : Int32} {off : Int} {tgt : Nat} (hd : decode cc pc = .ok (.ifCond .le off, 3)) (ht : (pc : Int) + off = (tgt : Int)) (kt : (x ≤ 0) → J g R E nL tgt lv st bl k n) (kf : ¬ (x ≤ 0) → J g R E nL (pc + 3) lv st bl k n) : J g R E nL pc lv (.int x :: st) bl k n :=
  fun H locs ls hP hS hl => lv_if_le hC.1 hC.2.1 hd ht (fun q => kt q H locs ls hP hS hl) (fun q => kf q H locs ls hP hS hl)
theorem j_icmp_le (hC : jC g R E cc own nL) {x y : Int32} {off : Int} {tgt : Nat} (hd : decode cc pc = .ok (.if_icmp .le off, 3)) (ht : (pc : Int) + off = (tgt : Int)) (kt : (x ≤ y) → J g R E nL tgt lv st bl k n) (kf : ¬ (x ≤ y) → J g R E nL (pc + 3) lv st bl k n) : J g R E nL pc lv (.int y :: .int x :: st) bl k n :=
  fun H locs ls hP hS hl => lv_icmp_le hC.1 hC.2.1 hd ht (fun q => kt q H locs ls hP hS hl) (fun q => kf q H locs ls hP hS hl)
theorem j_goto (hC : jC g R E cc own nL) {off : Int} {tgt : Nat} (hd : decode cc pc = .ok (.goto off, 3)) (ht : (pc : Int) + off = (tgt : Int)) (kk : J g R E nL tgt lv st bl k n) : J g R E nL pc lv st bl k n :=
  fun H locs ls hP hS hl => lv_goto hC.1 hC.2.1 hd ht (kk H locs ls hP hS hl)
theorem j_ifnull (hC : jC g R E cc own nL) {x : Nat} {off : Int} (hd : decode cc pc = .ok (.ifnull off, 3)) (kk : J g R E nL (pc + 3) lv st bl k n) : J g R E nL pc lv (.ref x :: st) bl k n :=
  fun H locs ls hP hS hl => lv_ifnull hC.1 hC.2.1 hd (kk H locs ls hP hS hl)
theorem j_ifnullN (hC : jC g R E cc own nL) {off : Int} {tgt : Nat} (hd : decode cc pc = .ok (.ifnull off, 3)) (ht : (pc : Int) + off = (tgt : Int)) (kk : J g R E nL tgt lv st bl k n) : J g R E nL pc lv (.null :: st) bl k n :=
  fun H locs ls hP hS hl => lv_ifnullN hC.1 hC.2.1 hd ht (kk H locs ls hP hS hl)
theorem j_ifnonnull (hC : jC g R E cc own nL) {x : Nat} {off : Int} {tgt : Nat} (hd : decode cc pc = .ok (.ifnonnull off, 3)) (ht : (pc : Int) + off = (tgt : Int)) (kk : J g R E nL tgt lv st bl k n) : J g R E nL pc lv (.ref x :: st) bl k n :=
  fun H locs ls hP hS hl => lv_ifnonnull hC.1 hC.2.1 hd ht (kk H locs ls hP hS hl)
theorem j_ifnonnullN (hC : jC g R E cc own nL) {off : Int} (hd : decode cc pc = .ok (.ifnonnull off, 3)) (kk : J g R E nL (pc + 3) lv st bl k n) : J g R E nL pc lv (.null :: st) bl k n :=
  fun H locs ls hP hS hl => lv_ifnonnullN hC.1 hC.2.1 hd (kk H locs ls hP hS hl)
theorem j_tableOut (hC : jC g R E cc own nL) {dflt lo hi : Int} {offs : Array Int} {len : Nat} {x : Int32} {tgt : Nat} (hd : decode cc pc = .ok (.tableswitch dflt lo hi offs, len)) (h : x.toInt < lo ∨ hi < x.toInt) (ht : (pc : Int) + dflt = (tgt : Int)) (kk : J g R E nL tgt lv st bl k n) : J g R E nL pc lv (.int x :: st) bl k n :=
  fun H locs ls hP hS hl => lv_tableOut hC.1 hC.2.1 hd h ht (kk H locs ls hP hS hl)
theorem j_tableIn (hC : jC g R E cc own nL) {dflt lo hi : Int} {offs : Array Int} {len : Nat} {x : Int32} {off : Int} {tgt : Nat} (hd : decode cc pc = .ok (.tableswitch dflt lo hi offs, len)) (h1 : ¬ x.toInt < lo) (h2 : ¬ hi < x.toInt) (ho : offs[(x.toInt - lo).toNat]? = some off) (ht : (pc : Int) + off = (tgt : Int)) (kk : J g R E nL tgt lv st bl k n) : J g R E nL pc lv (.int x :: st) bl k n :=
  fun H locs ls hP hS hl => lv_tableIn hC.1 hC.2.1 hd h1 h2 ho ht (kk H locs ls hP hS hl)
theorem j_lookup (hC : jC g R E cc own nL) {dflt : Int} {ps : Array (Int × Int)} {len : Nat} {x : Int32} {off : Int} {tgt : Nat} (hd : decode cc pc = .ok (.lookupswitch dflt ps, len)) (hp : (ps.toList.zip (ps.toList.drop 1)).all (fun (a, next) => a.1 < next.1) = true) (ho : Op.lookupswitch.offset ps.toList dflt x.toInt = off) (ht : (pc : Int) + off = (tgt : Int)) (kk : J g R E nL tgt lv st bl k n) : J g R E nL pc lv (.int x :: st) bl k n :=
  fun H locs ls hP hS hl => lv_lookup hC.1 hC.2.1 hd hp ho ht (kk H locs ls hP hS hl)
theorem j_lcmp (hC : jC g R E cc own nL) {x y : Int64} (hd : decode cc pc = .ok (.lcmp, 1)) (kk : J g R E nL (pc + 1) lv (.int (lg_cmp x y) :: st) bl k n) : J g R E nL pc lv (.long y :: .long x :: st) bl k n :=
  fun H locs ls hP hS hl => W.lcmp hC.1 hC.2.1 hd (kk H locs ls hP hS hl)
/-! heap rows: a cell by its block and its place there -/
theorem jflat {x : Nat × va_E} : ∀ {bl : List va_W} {bi bj : Nat} {b : va_W}, bl[bi]? = some b → b[bj]? = some x → ∃ q0 : Nat, bl.flatten[q0]? = some x ∧ ∀ y, bl.flatten.set q0 y = (bl.set bi (b.set bj y)).flatten
  | [], bi, _, _, h, _ => by simp at h
  | a :: t, 0, bj, b, h, hx => by
    have e : a = b := by simpa using h
    subst e
    have hlt : bj < a.length := by
      rcases Nat.lt_or_ge bj a.length with q | q
      · exact q
      · rw [List.getElem?_eq_none q] at hx; cases hx
    refine ⟨bj, ?_, fun y => ?_⟩
    · rw [List.flatten_cons, List.getElem?_append_left hlt]; exact hx
    · rw [List.flatten_cons, List.set_append_left _ _ hlt]; rfl
  | a :: t, bi + 1, bj, b, h, hx => by
    have h : t[bi]? = some b := by simpa using h
    obtain ⟨q0, h1, h2⟩ := jflat h hx
    refine ⟨a.length + q0, ?_, fun y => ?_⟩
    · rw [List.flatten_cons, List.getElem?_append_right (Nat.le_add_right _ _), Nat.add_sub_cancel_left]; exact h1
    · rw [List.flatten_cons, List.set_append_right _ _ (Nat.le_add_right _ _), Nat.add_sub_cancel_left, h2]
      rfl
def jat (bl : List va_W) (bi bj : Nat) : Option (Nat × va_E) := match bl[bi]? with
  | some b => b[bj]?
  | none => none
theorem jat_flat {bl : List va_W} {bi bj : Nat} {x : Nat × va_E} (h : jat bl bi bj = some x) : ∃ q0 : Nat, bl.flatten[q0]? = some x := by
  unfold jat at h
  cases hb : bl[bi]? with
  | none => rw [hb] at h; cases h
  | some b =>
    rw [hb] at h
    obtain ⟨q0, h1, -⟩ := jflat hb h
    exact ⟨q0, h1⟩
/-- the words of a class's fields, and its place among the classes -/
def jU (ci : Nat) (C : String) (T : u_T) (N : Nat) (ty : Nat → FieldType) : Prop := (∀ w ∈ u_ws C T N, w ∈ jT) ∧ vwCl[ci]? = some (C, T, N) ∧ (∀ k, k < N → parseFieldDescriptor (T k).2.2.1 = some (ty k)) ∧ (∀ a, a < N → ∀ b, b < N → a ≠ b → (T a).2.1 ≠ (T b).2.1)
theorem j_get (hC : jC g R E cc own nL) {ci index a : Nat} {C : String} {T : u_T} {N : Nat} {ty : Nat → FieldType} (hU : jU ci C T N ty) (bi bj kf : Nat) {fs : List Value} {v : Value} (hat : jat bl bi bj = some (a, .inr (ci, fs))) (hk : Nat.blt kf N = true) (hlink : Cond.fieldLink own index (T kf).1 (T kf).2.1 (T kf).2.2.1 ∈ jT) (hv : fs[kf]? = some v) (hd : decode cc pc = .ok (.getfield index, 3))
    (kk : J g R E nL (pc + 3) lv (v :: st) bl k n) : J g R E nL pc lv (.ref a :: st) bl k n := by
  intro H locs ls hP hS hl
  obtain ⟨q0, h0⟩ := jat_flat hat
  exact va_get (D := g.2.1) hC.1 hC.2.1 hC.2.2.2.2.1 hU.1 hC.2.2.2.1 hC.2.2.2.2.2.1.1 hP.1 q0 h0 hU.2.1 kf (Nat.le_of_ble_eq_true hk) (hC.2.2.2.2.1 _ hlink) (fun _ h => h) hv hd (kk H locs ls hP hS hl)
theorem j_put (hC : jC g R E cc own nL) {ci index a : Nat} {C : String} {T : u_T} {N : Nat} {ty : Nat → FieldType} (hU : jU ci C T N ty) {bi bj kf : Nat} {b : va_W} {fs : List Value} {v : Value} (hb : bl[bi]? = some b) (hj : b[bj]? = some (a, .inr (ci, fs))) (hk : kf < N) (hlink : Cond.fieldLink own index (T kf).1 (T kf).2.1 (T kf).2.2.1 ∈ jT) (hfin : (T kf).2.2.2 = false) (hn : narrow (ty kf) v = v) (hfit : fits (ty kf) v = true) (hl0 : kf < fs.length) (hd : decode cc pc = .ok (.putfield index, 3))
    (kk : J g R E nL (pc + 3) lv st (bl.set bi (b.set bj (a, .inr (ci, fs.set kf v)))) k n) : J g R E nL pc lv (v :: .ref a :: st) bl k n := by
  intro H locs ls hP hS hl
  obtain ⟨q0, h0, h1⟩ := jflat hb hj
  refine va_put (D := g.2.1) hC.1 hC.2.1 hC.2.2.2.2.1 hU.1 ty hU.2.2.1 hU.2.2.2 hC.2.2.2.1 hC.2.2.2.2.2.1.1 hP.1 hP.2 hS q0 h0 hU.2.1 kf hk (hC.2.2.2.2.1 _ hlink) (fun _ h => h) hfin (hU.2.2.1 kf hk) hn hfit hl0 hd (fun H1 locs1 hP1 hD1 hS1 => ?_)
  rw [h1] at hP1 hD1
  exact kk H1 locs1 ls ⟨hP1, hD1⟩ hS1 hl
theorem j_putF (hC : jC g R E cc own nL) (hin : (jEh E).name = "<init>") {ci index a : Nat} {C : String} {T : u_T} {N : Nat} {ty : Nat → FieldType} (hU : jU ci C T N ty) {bi bj kf : Nat} {b : va_W} {fs : List Value} {v : Value} (hb : bl[bi]? = some b) (hj : b[bj]? = some (a, .inr (ci, fs))) (hk : kf < N) (hlink : Cond.fieldLink own index (T kf).1 (T kf).2.1 (T kf).2.2.1 ∈ jT) (hfin : (T kf).2.2.2 = true) (hdecl : (T kf).1 = own) (hn : narrow (ty kf) v = v) (hfit : fits (ty kf) v = true) (hl0 : kf < fs.length) (hd : decode cc pc = .ok (.putfield index, 3))
    (kk : J g R E nL (pc + 3) lv st (bl.set bi (b.set bj (a, .inr (ci, fs.set kf v)))) k n) : J g R E nL pc lv (v :: .ref a :: st) bl k n := by
  intro H locs ls hP hS hl
  obtain ⟨q0, h0, h1⟩ := jflat hb hj
  refine va_putF (D := g.2.1) hC.1 hC.2.1 hC.2.2.2.2.1 hU.1 ty hU.2.2.1 hU.2.2.2 hC.2.2.2.1 hC.2.2.2.2.2.1.1 hP.1 hP.2 hS q0 h0 hU.2.1 kf hk (hC.2.2.2.2.1 _ hlink) (fun _ h => h) hfin hin hdecl (hU.2.2.1 kf hk) hn hfit hl0 hd (fun H1 locs1 hP1 hD1 hS1 => ?_)
  rw [h1] at hP1 hD1
  exact kk H1 locs1 ls ⟨hP1, hD1⟩ hS1 hl
theorem j_iald (hC : jC g R E cc own nL) {a N : Nat} {f : Nat → Int32} {i : Int32} (bi bj : Nat) (hat : jat bl bi bj = some (a, .inl (g.2.2 1, N, .inl f))) (hin : vp_in i N) (hd : decode cc pc = .ok (.iaload, 1)) (kk : J g R E nL (pc + 1) lv (.int (f i.toNatClampNeg) :: st) bl k n) : J g R E nL pc lv (.int i :: .ref a :: st) bl k n := by
  intro H locs ls hP hS hl
  obtain ⟨q0, h0⟩ := jat_flat hat
  exact va_iald (D := g.2.1) hC.1 hC.2.1 hC.2.2.2.2.2.1.1 hP.1 q0 1 h0 rfl hin hd (kk H locs ls hP hS hl)
theorem j_bald (hC : jC g R E cc own nL) {a N : Nat} {f : Nat → Int32} {i : Int32} (bi bj : Nat) (hat : jat bl bi bj = some (a, .inl (g.2.2 0, N, .inl f))) (hin : vp_in i N) (hd : decode cc pc = .ok (.baload, 1)) (kk : J g R E nL (pc + 1) lv (.int (f i.toNatClampNeg) :: st) bl k n) : J g R E nL pc lv (.int i :: .ref a :: st) bl k n := by
  intro H locs ls hP hS hl
  obtain ⟨q0, h0⟩ := jat_flat hat
  exact va_bald (D := g.2.1) hC.1 hC.2.1 hC.2.2.2.2.2.1.1 hP.1 q0 0 h0 rfl hin hd (kk H locs ls hP hS hl)
theorem j_zald (hC : jC g R E cc own nL) {a N : Nat} {f : Nat → Int32} {i : Int32} (bi bj : Nat) (hat : jat bl bi bj = some (a, .inl (g.2.2 2, N, .inl f))) (hin : vp_in i N) (hd : decode cc pc = .ok (.baload, 1)) (kk : J g R E nL (pc + 1) lv (.int (f i.toNatClampNeg) :: st) bl k n) : J g R E nL pc lv (.int i :: .ref a :: st) bl k n := by
  intro H locs ls hP hS hl
  obtain ⟨q0, h0⟩ := jat_flat hat
  exact va_zald (D := g.2.1) hC.1 hC.2.1 hC.2.2.2.2.2.1.1 hP.1 q0 2 h0 rfl hin hd (kk H locs ls hP hS hl)
theorem j_aald (hC : jC g R E cc own nL) {a N : Nat} {f : Nat → Option Nat} {i : Int32} (t0 bi bj : Nat) {cA : ClassId} {C : String} (ht : (jTys g)[t0]? = some (cA, .object C)) (hat : jat bl bi bj = some (a, .inl (cA, N, .inr (.inr (.inr (.inr f)))))) (hin : vp_in i N) (hd : decode cc pc = .ok (.aaload, 1)) (kk : J g R E nL (pc + 1) lv (va_rf (f i.toNatClampNeg) :: st) bl k n) : J g R E nL pc lv (.int i :: .ref a :: st) bl k n := by
  intro H locs ls hP hS hl
  obtain ⟨q0, h0⟩ := jat_flat hat
  exact va_aldq (D := g.2.1) hC.1 hC.2.1 hC.2.2.2.2.2.1.1 hP.1 q0 t0 h0 ht hin hd (kk H locs ls hP hS hl)
theorem j_alen (hC : jC g R E cc own nL) {a : Nat} {x : vp_A} {v : Int32} {cA : ClassId} {ty : FieldType} (t0 bi bj : Nat) (ht : (jTys g)[t0]? = some (cA, ty)) (hat : jat bl bi bj = some (a, .inl (cA, x))) (hv : Int32.ofNat x.1 = v) (hd : decode cc pc = .ok (.arraylength, 1)) (kk : J g R E nL (pc + 1) lv (.int v :: st) bl k n) : J g R E nL pc lv (.ref a :: st) bl k n := by
  intro H locs ls hP hS hl
  obtain ⟨q0, h0⟩ := jat_flat hat
  exact va_alen (D := g.2.1) hC.1 hC.2.1 hC.2.2.2.2.2.1.1 hP.1 q0 t0 h0 ht hv hd (kk H locs ls hP hS hl)
theorem j_iast (hC : jC g R E cc own nL) {a N : Nat} {f : Nat → Int32} {i x : Int32} {bi bj : Nat} {b : va_W} (hb : bl[bi]? = some b) (hj : b[bj]? = some (a, .inl (g.2.2 1, N, .inl f))) (hin : vp_in i N) (hd : decode cc pc = .ok (.iastore, 1))
    (kk : J g R E nL (pc + 1) lv st (bl.set bi (b.set bj (a, .inl (g.2.2 1, N, .inl (upd f i.toNatClampNeg x))))) k n) : J g R E nL pc lv (.int x :: .int i :: .ref a :: st) bl k n := by
  intro H locs ls hP hS hl
  obtain ⟨q0, h0, h1⟩ := jflat hb hj
  refine va_iast (D := g.2.1) hC.1 hC.2.1 hC.2.2.2.2.2.1.1 hP.1 hP.2 hS q0 1 h0 rfl hin hd (fun H1 locs1 hP1 hD1 hS1 => ?_)
  rw [h1] at hP1 hD1
  exact kk H1 locs1 ls ⟨hP1, hD1⟩ hS1 hl
theorem j_bast (hC : jC g R E cc own nL) {a N : Nat} {f : Nat → Int32} {i x : Int32} {bi bj : Nat} {b : va_W} (hb : bl[bi]? = some b) (hj : b[bj]? = some (a, .inl (g.2.2 0, N, .inl f))) (hin : vp_in i N) (hd : decode cc pc = .ok (.bastore, 1))
    (kk : J g R E nL (pc + 1) lv st (bl.set bi (b.set bj (a, .inl (g.2.2 0, N, .inl (upd f i.toNatClampNeg (vp_nar .byte x)))))) k n) : J g R E nL pc lv (.int x :: .int i :: .ref a :: st) bl k n := by
  intro H locs ls hP hS hl
  obtain ⟨q0, h0, h1⟩ := jflat hb hj
  refine va_bast (D := g.2.1) hC.1 hC.2.1 hC.2.2.2.2.2.1.1 hP.1 hP.2 hS q0 0 h0 rfl hin hd (fun H1 locs1 hP1 hD1 hS1 => ?_)
  rw [h1] at hP1 hD1
  exact kk H1 locs1 ls ⟨hP1, hD1⟩ hS1 hl
theorem j_zast (hC : jC g R E cc own nL) {a N : Nat} {f : Nat → Int32} {i x : Int32} {bi bj : Nat} {b : va_W} (hb : bl[bi]? = some b) (hj : b[bj]? = some (a, .inl (g.2.2 2, N, .inl f))) (hin : vp_in i N) (hd : decode cc pc = .ok (.bastore, 1))
    (kk : J g R E nL (pc + 1) lv st (bl.set bi (b.set bj (a, .inl (g.2.2 2, N, .inl (upd f i.toNatClampNeg (vp_nar .boolean x)))))) k n) : J g R E nL pc lv (.int x :: .int i :: .ref a :: st) bl k n := by
  intro H locs ls hP hS hl
  obtain ⟨q0, h0, h1⟩ := jflat hb hj
  refine va_zast (D := g.2.1) hC.1 hC.2.1 hC.2.2.2.2.2.1.1 hP.1 hP.2 hS q0 2 h0 rfl hin hd (fun H1 locs1 hP1 hD1 hS1 => ?_)
  rw [h1] at hP1 hD1
  exact kk H1 locs1 ls ⟨hP1, hD1⟩ hS1 hl
theorem j_aast (hC : jC g R E cc own nL) {a v N t0 ci : Nat} {f : Nat → Option Nat} {i : Int32} {bi bj bi2 bj2 : Nat} {b : va_W} {vs : List Value} {cA : ClassId} {r : vw_C} (hb : bl[bi]? = some b) (hj : b[bj]? = some (a, .inl (cA, N, .inr (.inr (.inr (.inr f)))))) (ht : (jTys g)[t0]? = some (cA, .object r.1)) (hv : ∃ q : Nat, bl.flatten[q]? = some ((v, .inr (ci, vs)) : Nat × va_E)) (hc : vwCl[ci]? = some r) (hin : vp_in i N) (hd : decode cc pc = .ok (.aastore, 1))
    (kk : J g R E nL (pc + 1) lv st (bl.set bi (b.set bj (a, .inl (cA, N, .inr (.inr (.inr (.inr (va_up f i.toNatClampNeg (some v))))))))) k n) : J g R E nL pc lv (.ref v :: .int i :: .ref a :: st) bl k n := by
  intro H locs ls hP hS hl
  obtain ⟨q0, h0, h1⟩ := jflat hb hj
  obtain ⟨q1, h2⟩ := hv
  refine va_astq (D := g.2.1) hC.1 hC.2.1 hC.2.2.2.2.2.1.1 hP.1 hP.2 hS q0 t0 q1 ci h0 ht h2 hc hin hd (fun H1 locs1 hP1 hD1 hS1 => ?_)
  rw [h1] at hP1 hD1
  exact kk H1 locs1 ls ⟨hP1, hD1⟩ hS1 hl
/-! making cells: a new block at the end -/
theorem j_new (hC : jC g R E cc own nL) {ci index : Nat} {C : String} {T : u_T} {N : Nat} {ty : Nat → FieldType} (hU : jU ci C T N ty) {fs : List Value} (hfs : ∀ j, j < N → defaultValue (ty j) = vp_V fs j) (hcl : Cond.classLink own index C ∈ jT) (hinst : Cond.instantiable C N ∈ jT) (hini : Cond.initialized C ∈ jT) (hk : k + 1 ≤ R.cells) (hn : n + N ≤ R.slots) (hd : decode cc pc = .ok (.new index, 3))
    (kk : ∀ q : Nat, J g R E nL (pc + 3) lv (.ref q :: st) (bl ++ [[(q, .inr (ci, fs))]]) (k + 1) (n + N)) : J g R E nL pc lv st bl k n := by
  intro H locs ls hP hS hl
  refine va_new (D := g.2.1) hC.1 hC.2.1 hC.2.2.2.2.1 hU.1 ty hU.2.2.1 hC.2.2.2.1 (hC.2.2.2.2.1 _ hcl) (hC.2.2.2.2.1 _ hinst) (hC.2.2.2.2.1 _ hini) hC.2.2.2.2.2.1.1 hP.1 hP.2 hS hC.2.2.2.2.2.2.1 hU.2.1 hfs hk hn hd (fun q H1 hP1 hD1 hS1 => ?_)
  have e : (bl ++ [[(q, Sum.inr (ci, fs))]] : List va_W).flatten = bl.flatten ++ [(q, Sum.inr (ci, fs))] := by simp
  exact kk q H1 locs ls (by rw [e]; exact ⟨hP1, hD1⟩) hS1 hl
theorem jArr {g : jG} {U : State} {cA c2 : ClassId} {ty : FieldType} {i : Nat} {l2 : List (ClassId × FieldType)} (h : va_K g.2.1 vwCl (l2 ++ [(cA, ty)]) U) (h2 : va_K g.2.1 vwCl (jTys g) U) (hi : (jTys g)[i]? = some (c2, ty)) : cA = c2 := by
  have h3 := (h.2 l2.length (cA, ty) (by simp)).2
  have h4 := (h2.2 i (c2, ty) hi).2
  have key : ∀ t : FieldType, va_RA U cA t → U.vm.findClass ("[" ++ t.toString) = some cA := by
    intro t ht
    cases t with
    | object C => obtain ⟨kA, comp, -, -, -, q⟩ := ht; exact q
    | _ => exact ht
  have key2 : ∀ t : FieldType, va_RA U c2 t → U.vm.findClass ("[" ++ t.toString) = some c2 := by
    intro t ht
    cases t with
    | object C => obtain ⟨kA, comp, -, -, -, q⟩ := ht; exact q
    | _ => exact ht
  exact Option.some.inj ((key ty h3).symm.trans (key2 ty h4))
theorem j_newa (hC : jC g R E cc own nL) {atype : ArrayType} {ty : FieldType} {c2 : ClassId} (t0 N : Nat) {v : Int32} (ht : (jTys g)[t0]? = some (c2, ty)) (hty : newarray.typeOf atype = ty) (harr : Cond.arrayClass ty ∈ jT) (ha : ∀ cA : ClassId, vp_cell cA (N, .inl (fun _ => 0)) = arrV cA N (fun _ => defaultValue ty)) (h0 : ¬ v < 0) (hN : v.toNatClampNeg = N) (hby : N * componentBytes ty ≤ 536870912) (hk : k + 1 ≤ R.cells) (hn : n + N ≤ R.slots) (hd : decode cc pc = .ok (.newarray atype, 2))
    (kk : ∀ q : Nat, J g R E nL (pc + 2) lv (.ref q :: st) (bl ++ [[(q, .inl (c2, N, .inl (fun _ => 0)))]]) (k + 1) (n + N)) : J g R E nL pc lv (.int v :: st) bl k n := by
  intro H locs ls hP hS hl
  subst hty
  refine va_newa (D := g.2.1) hC.1 hC.2.1 (hC.2.2.2.2.1 _ harr) rfl hC.2.2.2.2.2.1.1 hP.1 hP.2 hS hC.2.2.2.2.2.2.1 ha h0 hN hby hk hn hd (fun q cA H1 hK1 hP1 hD1 hS1 => ?_)
  have e2 := jArr hK1 hC.2.2.2.2.2.1.1 ht
  subst e2
  have e : (bl ++ [[(q, Sum.inl (cA, N, .inl (fun _ => 0)))]] : List va_W).flatten = bl.flatten ++ [(q, Sum.inl (cA, N, .inl (fun _ => 0)))] := by simp
  exact kk q H1 locs ls (by rw [e]; exact ⟨hP1, hD1⟩) hS1 hl
theorem j_newq (hC : jC g R E cc own nL) {index : Nat} {C : String} {c2 : ClassId} (t0 N : Nat) {v : Int32} (ht : (jTys g)[t0]? = some (c2, .object C)) (hover : va_AO C (jEs E)) (hcl : Cond.classLink own index C ∈ jT) (h0 : ¬ v < 0) (hN : v.toNatClampNeg = N) (hby : N * 4 ≤ 536870912) (hk : k + 1 ≤ R.cells) (hn : n + N ≤ R.slots) (hd : decode cc pc = .ok (.anewarray index, 3))
    (kk : ∀ q : Nat, J g R E nL (pc + 3) lv (.ref q :: st) (bl ++ [[(q, .inl (c2, N, .inr (.inr (.inr (.inr (fun _ => none))))))]]) (k + 1) (n + N)) : J g R E nL pc lv (.int v :: st) bl k n := by
  intro H locs ls hP hS hl
  refine va_newq (D := g.2.1) hC.1 hC.2.1 hC.2.2.2.1 (hC.2.2.2.2.1 _ hcl) hover hC.2.2.2.2.2.1.1 hP.1 hP.2 hS hC.2.2.2.2.2.2.1 h0 hN hby hk hn hd (fun q cA H1 hK1 hP1 hD1 hS1 => ?_)
  have e2 := jArr hK1 hC.2.2.2.2.2.1.1 ht
  subst e2
  have e : (bl ++ [[(q, Sum.inl (cA, N, .inr (.inr (.inr (.inr (fun _ => none))))))]] : List va_W).flatten = bl.flatten ++ [(q, Sum.inl (cA, N, .inr (.inr (.inr (.inr (fun _ => none))))))] := by simp
  exact kk q H1 locs ls (by rw [e]; exact ⟨hP1, hD1⟩) hS1 hl
theorem j_objInit (hC : jC g R E cc own nL) {index a : Nat} (hlink : Cond.methodLink own index Lib.objectInit ∈ jT) (hinst : Cond.instanceMethod Lib.objectInit ∈ jT) (hcode : Cond.code Lib.objectInit ⟨#[0xb1]⟩ 1 none ∈ jT) (hfr : 1 ≤ R.frames) (hlo : (st.map fun v => v.category).sum + 12 ≤ R.locals) (hd : decode cc pc = .ok (.invokespecial index, 3))
    (kk : J g R E nL (pc + 3) lv st bl k n) : J g R E nL pc lv (.ref a :: st) bl k n := by
  intro H locs ls hP hS hl
  refine W.objInit hC.1 hC.2.1 hC.2.2.2.1 (hC.2.2.2.2.1 _ hlink) (hC.2.2.2.2.1 _ hinst) (hC.2.2.2.2.1 _ hcode) rfl (by rw [hC.2.2.1]; exact hl.1) rfl hd hfr (by show 2 * 0 + _ + 12 ≤ _; omega) (W.eq rfl (kk H locs ls hP hS hl))
/-! Math -/
theorem j_max (hC : jC g R E cc own nL) {index : Nat} {x y : Int32} (hlink : Cond.methodLink own index Lib.Math.max.name ∈ jT) (hstat : Cond.static Lib.Math.max.name ∈ jT) (hini : Cond.initialized "java/lang/Math" ∈ jT) (hcode : Cond.code Lib.Math.max.name Lib.Math.max.code 2 (some .int) ∈ jT) (hfr : 1 ≤ R.frames) (hlo : (st.map fun v => v.category).sum + 13 ≤ R.locals) (hk : k ≤ R.cells) (hn : n ≤ R.slots) (hd : decode cc pc = .ok (.invokestatic index, 3))
    (kk : J g R E nL (pc + 3) lv (.int (if x < y then y else x) :: st) bl k n) : J g R E nL pc lv (.int y :: .int x :: st) bl k n :=
  fun H locs ls hP hS hl => va_mmax hC.1 hC.2.1 (by rw [hC.2.2.1]; exact hl.1.symm) hC.2.2.2.1 (hC.2.2.2.2.1 _ hlink) (hC.2.2.2.2.1 _ hstat) (hC.2.2.2.2.1 _ hini) (hC.2.2.2.2.1 _ hcode) hfr hlo hk hn hd (kk H locs ls hP hS hl)
theorem j_min (hC : jC g R E cc own nL) {index : Nat} {x y : Int32} (hlink : Cond.methodLink own index Lib.Math.min.name ∈ jT) (hstat : Cond.static Lib.Math.min.name ∈ jT) (hini : Cond.initialized "java/lang/Math" ∈ jT) (hcode : Cond.code Lib.Math.min.name Lib.Math.min.code 2 (some .int) ∈ jT) (hfr : 1 ≤ R.frames) (hlo : (st.map fun v => v.category).sum + 13 ≤ R.locals) (hk : k ≤ R.cells) (hn : n ≤ R.slots) (hd : decode cc pc = .ok (.invokestatic index, 3))
    (kk : J g R E nL (pc + 3) lv (.int (if y < x then y else x) :: st) bl k n) : J g R E nL pc lv (.int y :: .int x :: st) bl k n :=
  fun H locs ls hP hS hl => va_mmin hC.1 hC.2.1 (by rw [hC.2.2.1]; exact hl.1.symm) hC.2.2.2.1 (hC.2.2.2.2.1 _ hlink) (hC.2.2.2.2.1 _ hstat) (hC.2.2.2.2.1 _ hini) (hC.2.2.2.2.1 _ hcode) hfr hlo hk hn hd (kk H locs ls hP hS hl)
theorem j_abs (hC : jC g R E cc own nL) {index : Nat} {x : Int32} (hlink : Cond.methodLink own index Lib.Math.abs.name ∈ jT) (hstat : Cond.static Lib.Math.abs.name ∈ jT) (hini : Cond.initialized "java/lang/Math" ∈ jT) (hcode : Cond.code Lib.Math.abs.name Lib.Math.abs.code 1 (some .int) ∈ jT) (hfr : 1 ≤ R.frames) (hlo : (st.map fun v => v.category).sum + 13 ≤ R.locals) (hk : k ≤ R.cells) (hn : n ≤ R.slots) (hd : decode cc pc = .ok (.invokestatic index, 3))
    (kk : J g R E nL (pc + 3) lv (.int (if 0 ≤ x then x else 0 - x) :: st) bl k n) : J g R E nL pc lv (.int x :: st) bl k n :=
  fun H locs ls hP hS hl => va_mabs hC.1 hC.2.1 (by rw [hC.2.2.1]; exact hl.1.symm) hC.2.2.2.1 (hC.2.2.2.2.1 _ hlink) (hC.2.2.2.2.1 _ hstat) (hC.2.2.2.2.1 _ hini) (hC.2.2.2.2.1 _ hcode) hfr hlo hk hn hd (kk H locs ls hP hS hl)
/-! the frame rule -/
theorem jP_iff {g : jG} {A : Nat → Prop} {ws : va_W} {H : Heap} : jP g A ws H ↔ (∀ x ∈ ws, va_at g.2.1 vwCl x H ∧ A x.1) ∧ (ws.map Prod.fst).Nodup := by
  constructor
  · rintro ⟨h1, h2, h3⟩
    refine ⟨fun x hx => ?_, ?_⟩
    · obtain ⟨i, hi⟩ := List.getElem?_of_mem hx
      exact ⟨h1 i x hi, h3 i x hi⟩
    · unfold List.Nodup
      rw [List.pairwise_iff_getElem]
      intro i j hi hj hij he
      rw [List.length_map] at hi hj
      rw [List.getElem_map, List.getElem_map] at he
      have := h2 i j _ _ (List.getElem?_eq_getElem hi) (List.getElem?_eq_getElem hj) he
      omega
  · rintro ⟨h1, h2⟩
    refine ⟨fun i x hi => (h1 x (List.mem_of_getElem? hi)).1, fun i j p q hp hq he => ?_, fun i x hi => (h1 x (List.mem_of_getElem? hi)).2⟩
    unfold List.Nodup at h2
    rw [List.pairwise_iff_getElem] at h2
    obtain ⟨hil, ep⟩ := List.getElem?_eq_some_iff.mp hp
    obtain ⟨hjl, eq⟩ := List.getElem?_eq_some_iff.mp hq
    have e2 : (ws.map Prod.fst)[i]'(by rw [List.length_map]; exact hil) = (ws.map Prod.fst)[j]'(by rw [List.length_map]; exact hjl) := by
      rw [List.getElem_map, List.getElem_map, ep, eq]; exact he
    rcases Nat.lt_trichotomy i j with h | h | h
    · exact absurd e2 (h2 i j _ _ h)
    · exact h
    · exact absurd e2.symm (h2 j i _ _ h)
theorem jP.perm {g : jG} {A : Nat → Prop} {ws ws' : va_W} {H : Heap} (hp : ws.Perm ws') (h : jP g A ws H) : jP g A ws' H := by
  rw [jP_iff] at h ⊢
  exact ⟨fun x hx => h.1 x (hp.mem_iff.mpr hx), (hp.map _).nodup_iff.mp h.2⟩
theorem j_perm {bl' : List va_W} (hp : bl.flatten.Perm bl'.flatten) (kk : J g R E nL pc lv st bl' k n) : J g R E nL pc lv st bl k n :=
  fun H locs ls hP hS hl => kk H locs ls (hP.perm hp) hS hl
def jrepl : List va_W → List Nat → List va_W → List va_W
  | bl, i :: is, b :: bs => jrepl (bl.set i b) is bs
  | bl, _, _ => bl
theorem jset_flat {c : va_W} : ∀ {X : List va_W} {i : Nat}, i < X.length → (X.set i c).flatten.Perm (c ++ (X.set i []).flatten)
  | [], i, h => by cases h
  | a :: t, 0, _ => by simp
  | a :: t, i + 1, h => by
    have h1 := jset_flat (c := c) (X := t) (i := i) (by simpa using h)
    rw [List.set_cons_succ, List.set_cons_succ, List.flatten_cons, List.flatten_cons]
    exact (h1.append_left a).trans (List.perm_append_comm_assoc a c _)
theorem jrepl_set {b : va_W} {i : Nat} : ∀ {is : List Nat} {bs : List va_W} {X : List va_W}, i ∉ is → jrepl (X.set i b) is bs = (jrepl X is bs).set i b
  | [], _, _, _ => by simp [jrepl]
  | _ :: _, [], _, _ => by simp [jrepl]
  | j :: is, c :: bs, X, h => by
    have h1 : i ≠ j := fun e => h (by rw [e]; exact List.mem_cons_self)
    have h2 : i ∉ is := fun e => h (List.mem_cons_of_mem _ e)
    show jrepl ((X.set i b).set j c) is bs = (jrepl (X.set j c) is bs).set i b
    rw [List.set_comm _ _ h1, jrepl_set h2]
theorem jrepl_len : ∀ {is : List Nat} {bs : List va_W} {X : List va_W}, (jrepl X is bs).length = X.length
  | [], _, _ => by simp [jrepl]
  | _ :: _, [], _ => by simp [jrepl]
  | j :: is, c :: bs, X => by
    show (jrepl (X.set j c) is bs).length = X.length
    rw [jrepl_len, List.length_set]
theorem jset_self {X : List va_W} {i : Nat} {b : va_W} (h : X[i]? = some b) : X.set i b = X := by
  apply List.ext_getElem?
  intro j
  by_cases hj : i = j
  · subst hj
    rw [List.getElem?_set_self (List.getElem?_eq_some_iff.mp h).1, h]
  · rw [List.getElem?_set_ne hj]
theorem jsplit : ∀ (ic : List Nat) (bl blc : List va_W), va_nd ic = true → ic.map (fun i => bl[i]?) = blc.map some → ∃ rest : va_W, bl.flatten.Perm (blc.flatten ++ rest) ∧ ∀ b1 : List va_W, b1.length = blc.length → (jrepl bl ic b1).flatten.Perm (b1.flatten ++ rest)
  | [], bl, blc, _, h => by
    have e : blc = [] := by simpa using h.symm
    subst e
    refine ⟨bl.flatten, by simp, fun b1 hb => ?_⟩
    have e : b1 = [] := by simpa using hb
    subst e
    simp [jrepl]
  | i :: is, bl, blc, hn, h => by
    cases blc with
    | nil => simp at h
    | cons b bs =>
      have h1 : bl[i]? = some b := by simpa using (List.cons.inj h).1
      have h2 : is.map (fun i => bl[i]?) = bs.map some := (List.cons.inj h).2
      have hnd : i ∉ is ∧ va_nd is = true := by
        unfold va_nd at hn
        simpa using hn
      have hlt : i < bl.length := (List.getElem?_eq_some_iff.mp h1).1
      have h3 : is.map (fun j => (bl.set i [])[j]?) = bs.map some := by
        rw [← h2]
        apply List.map_congr_left
        intro j hj
        exact List.getElem?_set_ne (fun e => hnd.1 (by rw [e]; exact hj))
      obtain ⟨rest, p1, p2⟩ := jsplit is (bl.set i []) bs hnd.2 h3
      refine ⟨rest, ?_, fun b1 hb => ?_⟩
      · have q1 := jset_flat (c := b) hlt
        rw [jset_self h1] at q1
        rw [List.flatten_cons, List.append_assoc]
        exact q1.trans (p1.append_left b)
      · cases b1 with
        | nil => simp at hb
        | cons c b1 =>
          have hb : b1.length = bs.length := by simpa using hb
          show (jrepl (bl.set i c) is b1).flatten.Perm _
          rw [jrepl_set hnd.1]
          have hl2 : i < (jrepl bl is b1).length := by rw [jrepl_len]; exact hlt
          refine (jset_flat hl2).trans ?_
          rw [← jrepl_set hnd.1, List.flatten_cons, List.append_assoc]
          exact (p2 b1 hb).append_left c
theorem jframe {g : jG} {A : Nat → Prop} {wc wr w1 : va_W} {H H1 : Heap} (hP : jP g A (wc ++ wr) H) (hA : ∀ q, va_A wc H.size q → A q) (hk : ∀ q : Nat, q < H.size → ¬ va_A wc H.size q → H1[q]? = H[q]?) (h1 : jP g (va_A wc H.size) w1 H1) : jP g A (w1 ++ wr) H1 := by
  rw [jP_iff] at hP h1 ⊢
  obtain ⟨a1, a2⟩ := hP
  obtain ⟨b1, b2⟩ := h1
  rw [List.map_append, List.nodup_append] at a2
  have off : ∀ x ∈ wr, x.1 < H.size ∧ ¬ va_A wc H.size x.1 := by
    intro x hx
    have hl := (a1 x (List.mem_append_right _ hx)).1.lt
    refine ⟨hl, fun h => ?_⟩
    rcases h with ⟨i, e, h⟩ | h
    · exact a2.2.2 x.1 (List.mem_map.mpr ⟨(x.1, e), List.mem_of_getElem? h, rfl⟩) x.1 (List.mem_map.mpr ⟨x, hx, rfl⟩) rfl
    · omega
  refine ⟨fun x hx => ?_, ?_⟩
  · rcases List.mem_append.mp hx with hx | hx
    · exact ⟨(b1 x hx).1, hA _ (b1 x hx).2⟩
    · obtain ⟨c1, c2⟩ := off x hx
      exact ⟨(a1 x (List.mem_append_right _ hx)).1.kept (hk x.1 c1 c2), (a1 x (List.mem_append_right _ hx)).2⟩
  · rw [List.map_append, List.nodup_append]
    refine ⟨b2, a2.2.1, fun u hu v hv e => ?_⟩
    obtain ⟨x, hx, rfl⟩ := List.mem_map.mp hu
    obtain ⟨y, hy, rfl⟩ := List.mem_map.mp hv
    exact (off y hy).2 (by rw [← e]; exact (b1 x hx).2)
def jM (y : MethodName) (cc : ByteArray) (nL : Nat) (ret : Option FieldType) (n : Nat) : Prop := Cond.instanceMethod y ∈ jT ∧ Cond.selects y.cls y y ∈ jT ∧ Cond.initialized y.cls ∈ jT ∧ Cond.code y cc nL ret ∈ jT ∧ (y.cls ≠ "java/lang/invoke/MethodHandle" ∧ y.cls ≠ "java/lang/invoke/VarHandle" ∧ (parseMethodDescriptor y.desc).map (fun d => d.parameters.length) = some n)
def jMs (y : MethodName) (cc : ByteArray) (nL : Nat) (ret : Option FieldType) (n : Nat) : Prop := Cond.static y ∈ jT ∧ Cond.initialized y.cls ∈ jT ∧ Cond.code y cc nL ret ∈ jT ∧ (y.cls ≠ "java/lang/invoke/MethodHandle" ∧ y.cls ≠ "java/lang/invoke/VarHandle" ∧ (parseMethodDescriptor y.desc).map (fun d => d.parameters.length) = some n)
def jMi (y : MethodName) (cc : ByteArray) (nL : Nat) (n : Nat) : Prop := Cond.instanceMethod y ∈ jT ∧ Cond.initialized y.cls ∈ jT ∧ Cond.code y cc nL none ∈ jT ∧ y.name = "<init>" ∧ (y.cls ≠ "java/lang/invoke/MethodHandle" ∧ y.cls ≠ "java/lang/invoke/VarHandle" ∧ (parseMethodDescriptor y.desc).map (fun d => d.parameters.length) = some n)
/-! ends -/
theorem j_end {ret : Option FieldType} {mc ms : Nat} {bl0 : List va_W} {Post : Option Value → List va_W → Prop} {r : Option Value} {H : Heap} {locs : List Loc} (hQ : jQ g E ret mc ms bl0 Post) (hlen : bl.length = bl0.length) (hp : Post r bl) (hP : jP g (jEA E) bl.flatten H) (hS : va_S (jEA E) (jEs E).heap H locs) : ∀ t : State, t.heap = H → (jEs E).WarmedH t.vm → jPost g (jEs E).heap.size bl0 Post (jEa E) (jEs E) (.returned r) t := by
  intro t ht _
  obtain ⟨-, hA, -⟩ := hQ
  rw [hA] at hP hS
  exact ⟨⟨r, bl, rfl, hp, hlen, by rw [ht]; exact hP⟩, hS.F ht⟩
theorem j_iret (hC : jC g R E cc own nL) {ret : Option FieldType} {mc ms : Nat} {bl0 : List va_W} {Post : Option Value → List va_W → Prop} (hQ : jQ g E ret mc ms bl0 Post) {ty : FieldType} {v : Int32} (hr : ret = some ty) (hn : narrow ty (.int v) = .int v) (hk : k ≤ mc) (hs : n ≤ ms) (hd : decode cc pc = .ok (.ireturn, 1)) (hlen : bl.length = bl0.length) (hp : Post (some (.int v)) bl) : J g R E nL pc lv [.int v] bl k n := by
  intro H locs ls hP hS hl
  refine W.widen hk hs ?_
  rw [hQ.2.2]
  exact W.zret hC.1 hC.2.1 (hQ.1.trans hr) hn (j_end hQ hlen hp hP hS) (fun q hq => by have := hS.2.2 q hq; rw [hQ.2.1] at this; exact this) hd hC.2.2.2.2.2.2.2
theorem j_lret (hC : jC g R E cc own nL) {ret : Option FieldType} {mc ms : Nat} {bl0 : List va_W} {Post : Option Value → List va_W → Prop} (hQ : jQ g E ret mc ms bl0 Post) {v : Int64} (hr : ret = some .long) (hk : k ≤ mc) (hs : n ≤ ms) (hd : decode cc pc = .ok (.lreturn, 1)) (hlen : bl.length = bl0.length) (hp : Post (some (.long v)) bl) : J g R E nL pc lv [.long v] bl k n := by
  intro H locs ls hP hS hl
  refine W.widen hk hs ?_
  rw [hQ.2.2]
  exact W.lret hC.1 hC.2.1 (hQ.1.trans hr) (j_end hQ hlen hp hP hS) (fun q hq => by have := hS.2.2 q hq; rw [hQ.2.1] at this; exact this) hd hC.2.2.2.2.2.2.2
theorem j_vret (hC : jC g R E cc own nL) {ret : Option FieldType} {mc ms : Nat} {bl0 : List va_W} {Post : Option Value → List va_W → Prop} (hQ : jQ g E ret mc ms bl0 Post) (hr : ret = none) (hk : k ≤ mc) (hs : n ≤ ms) (hd : decode cc pc = .ok (.return_, 1)) (hlen : bl.length = bl0.length) (hp : Post none bl) : J g R E nL pc lv [] bl k n := by
  intro H locs ls hP hS hl
  refine W.widen hk hs ?_
  rw [hQ.2.2]
  exact W.vret hC.1 hC.2.1 (hQ.1.trans hr) (j_end hQ hlen hp hP hS) (fun q hq => by have := hS.2.2 q hq; rw [hQ.2.1] at this; exact this) hd hC.2.2.2.2.2.2.2
theorem j_aret (hC : jC g R E cc own nL) {ret : Option FieldType} {mc ms : Nat} {bl0 : List va_W} {Post : Option Value → List va_W → Prop} (hQ : jQ g E ret mc ms bl0 Post) {C : String} {v : Value} (hr : ret = some (.object C)) (hv : v = .null ∨ ∃ a, v = .ref a) (hk : k ≤ mc) (hs : n ≤ ms) (hd : decode cc pc = .ok (.areturn, 1)) (hlen : bl.length = bl0.length) (hp : Post (some v) bl) : J g R E nL pc lv [v] bl k n := by
  intro H locs ls hP hS hl
  refine W.widen hk hs ?_
  rw [hQ.2.2]
  exact W.aret hC.1 hC.2.1 (hQ.1.trans hr) (Or.inl ⟨C, rfl⟩) hv (j_end hQ hlen hp hP hS) (fun q hq => by have := hS.2.2 q hq; rw [hQ.2.1] at this; exact this) hd hC.2.2.2.2.2.2.2
/-! calls -/
def jstk : Option Value → List Value → List Value
  | some v, r => v :: r
  | none, r => r
theorem jstk_eq (r : Option Value) (rest : List Value) : r.toList ++ rest = jstk r rest := by cases r <;> rfl
theorem jblind {g : jG} {av : List Value} {sz : Nat} {bl : List va_W} : FrameBlind (jPre g av sz bl) := by
  intro a U f mk h
  obtain ⟨h1, h2, h3, h4⟩ := h
  exact ⟨h1, h2, h3, jK.calling h4⟩
theorem j_run {blc : List va_W} {Post : Option Value → List va_W → Prop} {rest : List Value} {aa : Array Value} {mc ms : Nat} (ic : List Nat) (hbl : ic.map (fun i => bl[i]?) = blc.map some) (hnd : va_nd ic = true) (hC : jC g R E cc own nL)
    (hr : ∀ (H : Heap) (locs : List Loc) (ls : Array Slot), jP g (fun _ => True) blc.flatten H → ls.size = nL → va_Run (jEp E) g.1 (jEe E) R (jEs E) (jEm E) (jEa E) (jEb E) (jEh E) (jEc E) H locs k n mc ms (F0 (jEm E) pc ls st) rest (jPost g H.size blc Post aa) (va_A blc.flatten H.size))
    (kk : ∀ (r : Option Value) (b1 : List va_W), Post r b1 → b1.length = blc.length → J g R E nL (pc + 3) lv (jstk r rest) (jrepl bl ic b1) (k + mc) (n + ms)) : J g R E nL pc lv st bl k n := by
  intro H locs ls hP hS hl
  obtain ⟨wr, p1, p2⟩ := jsplit ic bl blc hnd hbl
  have hP1 := hP.perm p1
  have hPc : jP g (jEA E) blc.flatten H := by
    rw [jP_iff] at hP1 ⊢
    rw [List.map_append, List.nodup_append] at hP1
    exact ⟨fun x hx => hP1.1 x (List.mem_append_left _ hx), hP1.2.1⟩
  have hA : ∀ q, va_A blc.flatten H.size q → jEA E q := by
    intro q hq
    rcases hq with ⟨i, e, h⟩ | h
    · exact ((jP_iff.mp hPc).1 (q, e) (List.mem_of_getElem? h)).2
    · exact hC.2.2.2.2.2.2.1 q (Nat.le_trans hS.1 h)
  have hPt : jP g (fun _ => True) blc.flatten H := ⟨hPc.1, hPc.2.weaken (fun _ _ _ _ => trivial)⟩
  intro T hT X
  obtain ⟨v, st₀, t, T', L, h0, X', hL, e1, e2, ⟨⟨r, b1, hv, hp, hlen, hw⟩, hz, hk⟩, stp⟩ := hr H locs ls hPt hl.1 T hT X
  cases hv
  rw [h0] at hz hk
  have h5 : jP g (jEA E) (b1.flatten ++ wr) T'.heap := jframe (H := H) hP1 hA (fun q h1 h2 => by rw [e1]; exact hk q h1 h2) (by rw [e1]; exact hw)
  obtain ⟨t2, a1, a2⟩ := kk v b1 hp hlen T'.heap (locs ++ L) ls (h5.perm (p2 b1 hlen).symm)
    ⟨Nat.le_trans hS.1 (by rw [e1]; exact hz), fun q h1 h2 => by rw [e1, hk q (Nat.lt_of_lt_of_le h1 hS.1) (fun z => h2 (hA q z))]; exact hS.2.1 q h1 h2, fun q hq => by
      rcases List.mem_append.mp hq with h | h
      · exact hS.2.2 q h
      · exact hA _ (hL q h)⟩ hl T' rfl X'
  refine ⟨t2, stp t2 ?_, a2⟩
  have e3 : ({ (F0 (jEm E) pc ls st) with pc := (F0 (jEm E) pc ls st).pc + 3, stack := v.toList ++ rest } : JFrame) = F0 (jEm E) (pc + 3) ls (jstk v rest) := by rw [jstk_eq]
  rw [e3]
  exact a1
theorem jFix (hC : jC g R E cc own nL) : CallFix (jEp E) (jEm E) (jEc E) cc nL (jEs E) (jEa E) jT own := ⟨hC.1, hC.2.1, hC.2.2.1, hC.2.2.2.1, hC.2.2.2.2.1⟩
theorem jpre_of {av : List Value} {blc : List va_W} {H : Heap} (hC : jC g R E cc own nL) (hP : jP g (fun _ => True) blc.flatten H) : ∀ U : State, U.heap = H → (jEs E).WarmedH U.vm → jPre g av H.size blc av.toArray U :=
  fun U hU hW => ⟨rfl, by rw [hU], by rw [hU]; exact hP, jK.moved hW hC.2.2.2.2.2.1⟩
theorem j_callV (hC : jC g R E cc own nL) {y : MethodName} {cy : ByteArray} {nLy fr lo mc ms index a ci : Nat} {ret : Option FieldType} {As rest : List Value} {blc : List va_W} {Post : Option Value → List va_W → Prop} {fs : List Value} (ic : List Nat) (hcon : Con g y cy nLy ret fr lo mc ms (.ref a :: As) blc Post) (hM : jM y cy nLy ret As.length) (hlink : Cond.methodLink own index y ∈ jT) (hst : st = As.reverse ++ .ref a :: rest) (hbl : ic.map (fun i => bl[i]?) = blc.map some) (hnd : va_nd ic = true) (hrv : jat blc 0 0 = some (a, .inr (ci, fs))) (hcl : (vwCl[ci]?).map (fun q => q.1) = some y.cls)
    (hR : fr + 1 ≤ R.frames ∧ 8 + (nLy + 11) + lo ≤ R.locals) (hcat : (rest.map fun v => v.category).sum ≤ 8) (hkn : k + mc ≤ R.cells ∧ n + ms ≤ R.slots) (hd : decode cc pc = .ok (.invokevirtual index, 3))
    (kk : ∀ (r : Option Value) (b1 : List va_W), Post r b1 → b1.length = blc.length → J g R E nL (pc + 3) lv (jstk r rest) (jrepl bl ic b1) (k + mc) (n + ms)) : J g R E nL pc lv st bl k n := by
  refine j_run (aa := (Value.ref a :: As).toArray) (mc := mc) (ms := ms) (rest := rest) ic hbl hnd hC (fun H locs ls hP hsz => ?_) kk
  obtain ⟨q0, h0⟩ := jat_flat hrv
  have hts := hC.2.2.2.2.1
  refine va_runV (C := y.cls) (As := As) (rest := rest) (jFix hC) (hcon H.size) ⟨callB_of As.length hts (jWs_good hM.2.2.2.1) rfl rfl rfl (hts _ hM.2.2.1) (hts _ hlink) hM.2.2.2.2 hR, hts _ hM.1, hts _ hM.2.1⟩ ⟨jblind, ?_, jpre_of hC hP⟩ rfl rfl hsz hst (lv_room hcat) hd hkn
  cases hc : vwCl[ci]? with
  | none => rw [hc] at hcl; cases hcl
  | some q =>
    rw [hc] at hcl
    have e : q.1 = y.cls := Option.some.inj hcl
    have := va_recv hC.2.2.2.2.2.1.1 hP.1 hc h0
    rw [e] at this
    exact this
theorem j_callS (hC : jC g R E cc own nL) {y : MethodName} {cy : ByteArray} {nLy fr lo mc ms index : Nat} {ret : Option FieldType} {As rest : List Value} {blc : List va_W} {Post : Option Value → List va_W → Prop} (ic : List Nat) (hcon : Con g y cy nLy ret fr lo mc ms As blc Post) (hM : jMs y cy nLy ret As.length) (hlink : Cond.methodLink own index y ∈ jT) (hst : st = As.reverse ++ rest) (hbl : ic.map (fun i => bl[i]?) = blc.map some) (hnd : va_nd ic = true)
    (hR : fr + 1 ≤ R.frames ∧ 8 + (nLy + 11) + lo ≤ R.locals) (hcat : (rest.map fun v => v.category).sum ≤ 8) (hkn : k + mc ≤ R.cells ∧ n + ms ≤ R.slots) (hd : decode cc pc = .ok (.invokestatic index, 3))
    (kk : ∀ (r : Option Value) (b1 : List va_W), Post r b1 → b1.length = blc.length → J g R E nL (pc + 3) lv (jstk r rest) (jrepl bl ic b1) (k + mc) (n + ms)) : J g R E nL pc lv st bl k n := by
  refine j_run (aa := As.toArray) (mc := mc) (ms := ms) (rest := rest) ic hbl hnd hC (fun H locs ls hP hsz => ?_) kk
  have hts := hC.2.2.2.2.1
  exact va_runS (As := As) (rest := rest) (jFix hC) (hcon H.size) ⟨callB_of As.length hts (jWs_good hM.2.2.1) rfl rfl rfl (hts _ hM.2.1) (hts _ hlink) hM.2.2.2 hR, hts _ hM.1⟩ ⟨jblind, jpre_of hC hP⟩ rfl rfl hsz hst (lv_room hcat) hd hkn
theorem j_callSN (hC : jC g R E cc own nL) {y : MethodName} {cy : ByteArray} {nLy fr lo mc ms index : Nat} {host : String} {ret : Option FieldType} {As rest : List Value} {blc : List va_W} {Post : Option Value → List va_W → Prop} (ic : List Nat) (hcon : Con g y cy nLy ret fr lo mc ms As blc Post) (hM : jMs y cy nLy ret As.length) (hlink : Cond.methodLinkNest own index y host ∈ jNw) (hst : st = As.reverse ++ rest) (hbl : ic.map (fun i => bl[i]?) = blc.map some) (hnd : va_nd ic = true)
    (hR : fr + 1 ≤ R.frames ∧ 8 + (nLy + 11) + lo ≤ R.locals) (hcat : (rest.map fun v => v.category).sum ≤ 8) (hkn : k + mc ≤ R.cells ∧ n + ms ≤ R.slots) (hd : decode cc pc = .ok (.invokestatic index, 3))
    (kk : ∀ (r : Option Value) (b1 : List va_W), Post r b1 → b1.length = blc.length → J g R E nL (pc + 3) lv (jstk r rest) (jrepl bl ic b1) (k + mc) (n + ms)) : J g R E nL pc lv st bl k n := by
  refine j_run (aa := As.toArray) (mc := mc) (ms := ms) (rest := rest) ic hbl hnd hC (fun H locs ls hP hsz => ?_) kk
  have hts := hC.2.2.2.2.1
  exact va_runSN (As := As) (rest := rest) (jFix hC) (hcon H.size) ⟨va_cnB As.length hts (jWs_good hM.2.2.1) rfl rfl rfl (hC.2.2.2.2.2.1.2.1 _ hlink) (hts _ hM.2.1) hM.2.2.2 hR, hts _ hM.1, trivial⟩ ⟨jblind, jpre_of hC hP⟩ rfl rfl hsz hst (lv_room hcat) hd hkn
theorem j_callI (hC : jC g R E cc own nL) {y : MethodName} {cy : ByteArray} {nLy fr lo mc ms index a : Nat} {As rest : List Value} {blc : List va_W} {Post : Option Value → List va_W → Prop} (ic : List Nat) (hcon : Con g y cy nLy none fr lo mc ms (.ref a :: As) blc Post) (hM : jMi y cy nLy As.length) (hlink : Cond.methodLink own index y ∈ jT) (hst : st = As.reverse ++ .ref a :: rest) (hbl : ic.map (fun i => bl[i]?) = blc.map some) (hnd : va_nd ic = true)
    (hR : fr + 1 ≤ R.frames ∧ 8 + (nLy + 11) + lo ≤ R.locals) (hcat : (rest.map fun v => v.category).sum ≤ 8) (hkn : k + mc ≤ R.cells ∧ n + ms ≤ R.slots) (hd : decode cc pc = .ok (.invokespecial index, 3))
    (kk : ∀ (r : Option Value) (b1 : List va_W), Post r b1 → b1.length = blc.length → J g R E nL (pc + 3) lv (jstk r rest) (jrepl bl ic b1) (k + mc) (n + ms)) : J g R E nL pc lv st bl k n := by
  refine j_run (aa := (Value.ref a :: As).toArray) (mc := mc) (ms := ms) (rest := rest) ic hbl hnd hC (fun H locs ls hP hsz => ?_) kk
  have hts := hC.2.2.2.2.1
  exact va_runI (As := As) (rest := rest) (jFix hC) (hcon H.size) ⟨callB_of As.length hts (jWs_good hM.2.2.1) rfl rfl rfl (hts _ hM.2.1) (hts _ hlink) hM.2.2.2.2 hR, hM.2.2.2.1, hts _ hM.1⟩ ⟨jblind, jpre_of hC hP⟩ rfl rfl hsz hst (lv_room hcat) hd hkn
theorem j_callIN (hC : jC g R E cc own nL) {y : MethodName} {cy : ByteArray} {nLy fr lo mc ms index a : Nat} {host : String} {As rest : List Value} {blc : List va_W} {Post : Option Value → List va_W → Prop} (ic : List Nat) (hcon : Con g y cy nLy none fr lo mc ms (.ref a :: As) blc Post) (hM : jMi y cy nLy As.length) (hlink : Cond.methodLinkNest own index y host ∈ jNw) (hst : st = As.reverse ++ .ref a :: rest) (hbl : ic.map (fun i => bl[i]?) = blc.map some) (hnd : va_nd ic = true)
    (hR : fr + 1 ≤ R.frames ∧ 8 + (nLy + 11) + lo ≤ R.locals) (hcat : (rest.map fun v => v.category).sum ≤ 8) (hkn : k + mc ≤ R.cells ∧ n + ms ≤ R.slots) (hd : decode cc pc = .ok (.invokespecial index, 3))
    (kk : ∀ (r : Option Value) (b1 : List va_W), Post r b1 → b1.length = blc.length → J g R E nL (pc + 3) lv (jstk r rest) (jrepl bl ic b1) (k + mc) (n + ms)) : J g R E nL pc lv st bl k n := by
  refine j_run (aa := (Value.ref a :: As).toArray) (mc := mc) (ms := ms) (rest := rest) ic hbl hnd hC (fun H locs ls hP hsz => ?_) kk
  have hts := hC.2.2.2.2.1
  exact va_runIN (As := As) (rest := rest) (jFix hC) (hcon H.size) ⟨va_cnB As.length hts (jWs_good hM.2.2.1) rfl rfl rfl (hC.2.2.2.2.2.1.2.1 _ hlink) (hts _ hM.2.1) hM.2.2.2.2 hR, hM.2.2.2.1, hts _ hM.1⟩ ⟨jblind, jpre_of hC hP⟩ rfl rfl hsz hst (lv_room hcat) hd hkn
end JROWS
end
section
theorem jIn {ws : List Cond} (is : List Nat) (h : is.map (fun i => lw_tbl[i]?) = ws.map some) (hg : ws.all goodWord = true) : ∀ w ∈ ws, w ∈ jT := by
  intro w hw
  have h1 : some w ∈ ws.map some := List.mem_map.mpr ⟨w, hw, rfl⟩
  rw [← h] at h1
  obtain ⟨i, -, hi⟩ := List.mem_map.mp h1
  exact List.mem_filter.mpr ⟨List.mem_of_getElem? hi, List.all_eq_true.mp hg w hw⟩
theorem k0 : Cond.selects RX6 yX6_remember yX6_remember ∈ jT := jT_mem 0 (by decide +kernel) rfl
theorem k1 : Cond.selects RX6 yX6_darkPlaces yX6_darkPlaces ∈ jT := jT_mem 1 (by decide +kernel) rfl
theorem k2 : Cond.selects RX6 yX6_worstCircuit yX6_worstCircuit ∈ jT := jT_mem 2 (by decide +kernel) rfl
theorem k3 : Cond.selects RX6 yX6_daysWithLamp yX6_daysWithLamp ∈ jT := jT_mem 3 (by decide +kernel) rfl
theorem k4 : Cond.selects RX6 yX6_countSafe yX6_countSafe ∈ jT := jT_mem 4 (by decide +kernel) rfl
theorem k5 : Cond.selects RX7 yX7_lights yX7_lights ∈ jT := jT_mem 5 (by decide +kernel) rfl
theorem k6 : Cond.selects RX7 yX7_records yX7_records ∈ jT := jT_mem 6 (by decide +kernel) rfl
theorem k7 : Cond.selects RX7 yX7_lays yX7_lays ∈ jT := jT_mem 7 (by decide +kernel) rfl
theorem k8 : Cond.selects RX7 yX7_at yX7_at ∈ jT := jT_mem 8 (by decide +kernel) rfl
theorem k9 : Cond.selects RX7 yX7_capacityOf yX7_capacityOf ∈ jT := jT_mem 9 (by decide +kernel) rfl
theorem k10 : Cond.selects RX7 yX7_ratedOf yX7_ratedOf ∈ jT := jT_mem 10 (by decide +kernel) rfl
theorem k11 : Cond.selects RX7 yX7_of yX7_of ∈ jT := jT_mem 11 (by decide +kernel) rfl
theorem k12 : Cond.selects RX7 yX7_isLight yX7_isLight ∈ jT := jT_mem 12 (by decide +kernel) rfl
theorem k13 : Cond.selects RX7 yX7_isRoute yX7_isRoute ∈ jT := jT_mem 13 (by decide +kernel) rfl
theorem k14 : Cond.selects RX7 yX7_here yX7_here ∈ jT := jT_mem 14 (by decide +kernel) rfl
theorem k15 : Cond.selects RX7 yX7_readsLight yX7_readsLight ∈ jT := jT_mem 15 (by decide +kernel) rfl
theorem k16 : Cond.selects RX7 yX7_readsNumber yX7_readsNumber ∈ jT := jT_mem 16 (by decide +kernel) rfl
theorem k17 : Cond.selects RX7 yX7_isFigure yX7_isFigure ∈ jT := jT_mem 17 (by decide +kernel) rfl
theorem k18 : Cond.selects RX7 yX7_takes yX7_takes ∈ jT := jT_mem 18 (by decide +kernel) rfl
theorem k19 : Cond.selects RX7 yX7_readsRoute yX7_readsRoute ∈ jT := jT_mem 19 (by decide +kernel) rfl
theorem k20 : Cond.selects RX7 yX7_puts yX7_puts ∈ jT := jT_mem 20 (by decide +kernel) rfl
theorem k21 : Cond.selects RX7 yX7_restOf yX7_restOf ∈ jT := jT_mem 21 (by decide +kernel) rfl
theorem k22 : Cond.selects RX7 yX7_instead yX7_instead ∈ jT := jT_mem 22 (by decide +kernel) rfl
theorem k23 : Cond.selects RX7 yX7_hour yX7_hour ∈ jT := jT_mem 23 (by decide +kernel) rfl
theorem k24 : Cond.selects RX7 yX7_clips yX7_clips ∈ jT := jT_mem 24 (by decide +kernel) rfl
theorem k25 : Cond.selects RX7 yX7_wears yX7_wears ∈ jT := jT_mem 25 (by decide +kernel) rfl
theorem k26 : Cond.selects RX7 yX7_ready yX7_ready ∈ jT := jT_mem 26 (by decide +kernel) rfl
theorem k27 : Cond.selects RX7 yX7_isReady yX7_isReady ∈ jT := jT_mem 27 (by decide +kernel) rfl
theorem k28 : Cond.selects RX7 yX7_enduranceOf yX7_enduranceOf ∈ jT := jT_mem 28 (by decide +kernel) rfl
theorem k29 : Cond.selects RX7 yX7_isSet yX7_isSet ∈ jT := jT_mem 29 (by decide +kernel) rfl
theorem k30 : Cond.selects RX7 yX7_laysPlaces yX7_laysPlaces ∈ jT := jT_mem 30 (by decide +kernel) rfl
theorem k31 : Cond.selects RX7 yX7_reaches yX7_reaches ∈ jT := jT_mem 31 (by decide +kernel) rfl
theorem k32 : Cond.selects RX7 yX7_unlit yX7_unlit ∈ jT := jT_mem 32 (by decide +kernel) rfl
theorem k33 : Cond.selects RX7 yX7_isAllowed yX7_isAllowed ∈ jT := jT_mem 33 (by decide +kernel) rfl
theorem k34 : Cond.selects RX7 yX7_tests yX7_tests ∈ jT := jT_mem 34 (by decide +kernel) rfl
theorem k35 : Cond.selects RX7 yX7_laysPlan yX7_laysPlan ∈ jT := jT_mem 35 (by decide +kernel) rfl
theorem k36 : Cond.selects RX7 yX7_daysNow yX7_daysNow ∈ jT := jT_mem 36 (by decide +kernel) rfl
theorem k37 : Cond.selects RX7 yX7_hasPlan yX7_hasPlan ∈ jT := jT_mem 37 (by decide +kernel) rfl
theorem k38 : Cond.selects RX7 yX7_setOf yX7_setOf ∈ jT := jT_mem 38 (by decide +kernel) rfl
theorem k39 : Cond.selects RX7 yX7_daysWith yX7_daysWith ∈ jT := jT_mem 39 (by decide +kernel) rfl
theorem k40 : Cond.selects RX7 yX7_lastsNow yX7_lastsNow ∈ jT := jT_mem 40 (by decide +kernel) rfl
theorem k41 : Cond.selects RX7 yX7_weakest yX7_weakest ∈ jT := jT_mem 41 (by decide +kernel) rfl
theorem k42 : Cond.selects RX7 yX7_without yX7_without ∈ jT := jT_mem 42 (by decide +kernel) rfl
theorem k43 : Cond.selects RX7 yX7_dayOf yX7_dayOf ∈ jT := jT_mem 43 (by decide +kernel) rfl
theorem k44 : Cond.selects RX7 yX7_safe yX7_safe ∈ jT := jT_mem 44 (by decide +kernel) rfl
theorem k45 : Cond.selects RX7 yX7_burntOut yX7_burntOut ∈ jT := jT_mem 45 (by decide +kernel) rfl
theorem k46 : Cond.selects RX7 yX7_mixedPlan yX7_mixedPlan ∈ jT := jT_mem 46 (by decide +kernel) rfl
theorem k47 : Cond.initialized RL ∈ jT := jT_mem 47 (by decide +kernel) rfl
theorem k48 : Cond.initialized RX6 ∈ jT := jT_mem 48 (by decide +kernel) rfl
theorem k49 : Cond.initialized RX5 ∈ jT := jT_mem 49 (by decide +kernel) rfl
theorem k50 : Cond.initialized RX0 ∈ jT := jT_mem 50 (by decide +kernel) rfl
theorem k51 : Cond.initialized RX1 ∈ jT := jT_mem 51 (by decide +kernel) rfl
theorem k52 : Cond.initialized RX4 ∈ jT := jT_mem 52 (by decide +kernel) rfl
theorem k53 : Cond.initialized RX3 ∈ jT := jT_mem 53 (by decide +kernel) rfl
theorem k54 : Cond.initialized RX7 ∈ jT := jT_mem 54 (by decide +kernel) rfl
theorem k55 : Cond.initialized RX2 ∈ jT := jT_mem 55 (by decide +kernel) rfl
theorem k56 : Cond.initialized RJ9 ∈ jT := jT_mem 56 (by decide +kernel) rfl
theorem k57 : Cond.classLink RL 7 RX6 ∈ jT := jT_mem 57 (by decide +kernel) rfl
theorem k58 : Cond.instantiable RX6 6 ∈ jT := jT_mem 58 (by decide +kernel) rfl
theorem k59 : Cond.methodLink RL 9 yX6_init ∈ jT := jT_mem 59 (by decide +kernel) rfl
theorem k60 : Cond.instanceMethod yX6_init ∈ jT := jT_mem 60 (by decide +kernel) rfl
theorem k61 : Cond.code yX6_init cX6_init 1 none ∈ jT := jT_mem 61 (by decide +kernel) rfl
theorem k62 : Cond.methodLink RX6 3 Lib.objectInit ∈ jT := jT_mem 62 (by decide +kernel) rfl
theorem k63 : Cond.instanceMethod Lib.objectInit ∈ jT := jT_mem 63 (by decide +kernel) rfl
theorem k64 : Cond.code Lib.objectInit ⟨#[0xb1]⟩ 1 none ∈ jT := jT_mem 64 (by decide +kernel) rfl
theorem k65 : Cond.classLink RX6 9 RX5 ∈ jT := jT_mem 65 (by decide +kernel) rfl
theorem k66 : Cond.instantiable RX5 4 ∈ jT := jT_mem 66 (by decide +kernel) rfl
theorem k67 : Cond.methodLinkNest RX6 11 yX5_init RX6 ∈ jNw := List.mem_filter.mpr ⟨List.mem_of_getElem? (i := 67) (by decide +kernel), rfl⟩
theorem k68 : Cond.instanceMethod yX5_init ∈ jT := jT_mem 68 (by decide +kernel) rfl
theorem k69 : Cond.code yX5_init cX5_init 1 none ∈ jT := jT_mem 69 (by decide +kernel) rfl
theorem k70 : Cond.methodLink RX5 3 Lib.objectInit ∈ jT := jT_mem 70 (by decide +kernel) rfl
theorem k71 : Cond.fieldLink RX5 9 (TX5 0).1 (TX5 0).2.1 (TX5 0).2.2.1 ∈ jT := jT_mem 71 (by decide +kernel) rfl
theorem k72 : Cond.fieldLink RX5 15 (TX5 1).1 (TX5 1).2.1 (TX5 1).2.2.1 ∈ jT := jT_mem 72 (by decide +kernel) rfl
theorem k73 : Cond.fieldLink RX6 51 (TX5 1).1 (TX5 1).2.1 (TX5 1).2.2.1 ∈ jT := jT_mem 73 (by decide +kernel) rfl
theorem k74 : Cond.fieldLink RX5 27 (TX5 2).1 (TX5 2).2.1 (TX5 2).2.2.1 ∈ jT := jT_mem 74 (by decide +kernel) rfl
theorem k75 : Cond.fieldLink RX5 30 (TX5 3).1 (TX5 3).2.1 (TX5 3).2.2.1 ∈ jT := jT_mem 75 (by decide +kernel) rfl
theorem k85 : Cond.arrayClass .byte ∈ jT := jT_mem 85 (by decide +kernel) rfl
theorem k86 : Cond.classLink RX6 16 RX0 ∈ jT := jT_mem 86 (by decide +kernel) rfl
theorem k87 : Cond.instantiable RX0 10 ∈ jT := jT_mem 87 (by decide +kernel) rfl
theorem k88 : Cond.methodLinkNest RX6 18 yX0_init RX6 ∈ jNw := List.mem_filter.mpr ⟨List.mem_of_getElem? (i := 88) (by decide +kernel), rfl⟩
theorem k89 : Cond.instanceMethod yX0_init ∈ jT := jT_mem 89 (by decide +kernel) rfl
theorem k90 : Cond.code yX0_init cX0_init 1 none ∈ jT := jT_mem 90 (by decide +kernel) rfl
theorem k91 : Cond.methodLink RX0 3 Lib.objectInit ∈ jT := jT_mem 91 (by decide +kernel) rfl
theorem k92 : Cond.classLink RX0 9 RX2 ∈ jT := jT_mem 92 (by decide +kernel) rfl
theorem k93 : Cond.arrayOver (.object "EscapeLights$Light") ∈ lw_tbl := List.mem_of_getElem? (i := 93) (by decide +kernel)
theorem k94 : Cond.fieldLink RX0 11 (TX0 0).1 (TX0 0).2.1 (TX0 0).2.2.1 ∈ jT := jT_mem 94 (by decide +kernel) rfl
theorem k95 : Cond.fieldLink RX0 31 (TX0 1).1 (TX0 1).2.1 (TX0 1).2.2.1 ∈ jT := jT_mem 95 (by decide +kernel) rfl
theorem k96 : Cond.fieldLink RX4 18 (TX0 1).1 (TX0 1).2.1 (TX0 1).2.2.1 ∈ jT := jT_mem 96 (by decide +kernel) rfl
theorem k97 : Cond.fieldLink RX5 19 (TX0 1).1 (TX0 1).2.1 (TX0 1).2.2.1 ∈ jT := jT_mem 97 (by decide +kernel) rfl
theorem k98 : Cond.fieldLink RX6 66 (TX0 1).1 (TX0 1).2.1 (TX0 1).2.2.1 ∈ jT := jT_mem 98 (by decide +kernel) rfl
theorem k99 : Cond.fieldLink RX3 35 (TX0 1).1 (TX0 1).2.1 (TX0 1).2.2.1 ∈ jT := jT_mem 99 (by decide +kernel) rfl
theorem k100 : Cond.fieldLink RX0 17 (TX0 2).1 (TX0 2).2.1 (TX0 2).2.2.1 ∈ jT := jT_mem 100 (by decide +kernel) rfl
theorem k101 : Cond.fieldLink RX0 21 (TX0 3).1 (TX0 3).2.1 (TX0 3).2.2.1 ∈ jT := jT_mem 101 (by decide +kernel) rfl
theorem k102 : Cond.fieldLink RX5 24 (TX0 4).1 (TX0 4).2.1 (TX0 4).2.2.1 ∈ jT := jT_mem 102 (by decide +kernel) rfl
theorem k103 : Cond.fieldLink RX6 69 (TX0 4).1 (TX0 4).2.1 (TX0 4).2.2.1 ∈ jT := jT_mem 103 (by decide +kernel) rfl
theorem k104 : Cond.fieldLink RX0 39 (TX0 4).1 (TX0 4).2.1 (TX0 4).2.2.1 ∈ jT := jT_mem 104 (by decide +kernel) rfl
theorem k105 : Cond.fieldLink RX3 69 (TX0 4).1 (TX0 4).2.1 (TX0 4).2.2.1 ∈ jT := jT_mem 105 (by decide +kernel) rfl
theorem k106 : Cond.fieldLink RX0 24 (TX0 5).1 (TX0 5).2.1 (TX0 5).2.2.1 ∈ jT := jT_mem 106 (by decide +kernel) rfl
theorem k107 : Cond.fieldLink RX4 34 (TX0 5).1 (TX0 5).2.1 (TX0 5).2.2.1 ∈ jT := jT_mem 107 (by decide +kernel) rfl
theorem k108 : Cond.fieldLink RX6 110 (TX0 5).1 (TX0 5).2.1 (TX0 5).2.2.1 ∈ jT := jT_mem 108 (by decide +kernel) rfl
theorem k109 : Cond.fieldLink RX0 50 (TX0 6).1 (TX0 6).2.1 (TX0 6).2.2.1 ∈ jT := jT_mem 109 (by decide +kernel) rfl
theorem k110 : Cond.fieldLink RX6 143 (TX0 6).1 (TX0 6).2.1 (TX0 6).2.2.1 ∈ jT := jT_mem 110 (by decide +kernel) rfl
theorem k111 : Cond.fieldLink RX0 28 (TX0 7).1 (TX0 7).2.1 (TX0 7).2.2.1 ∈ jT := jT_mem 111 (by decide +kernel) rfl
theorem k112 : Cond.fieldLink RX0 53 (TX0 8).1 (TX0 8).2.1 (TX0 8).2.2.1 ∈ jT := jT_mem 112 (by decide +kernel) rfl
theorem k113 : Cond.fieldLink RX6 160 (TX0 8).1 (TX0 8).2.1 (TX0 8).2.2.1 ∈ jT := jT_mem 113 (by decide +kernel) rfl
theorem k114 : Cond.fieldLink RX0 56 (TX0 9).1 (TX0 9).2.1 (TX0 9).2.2.1 ∈ jT := jT_mem 114 (by decide +kernel) rfl
theorem k115 : Cond.fieldLink RX6 169 (TX0 9).1 (TX0 9).2.1 (TX0 9).2.2.1 ∈ jT := jT_mem 115 (by decide +kernel) rfl
theorem k137 : Cond.arrayClass .int ∈ jT := jT_mem 137 (by decide +kernel) rfl
theorem k138 : Cond.classLink RX6 26 RX1 ∈ jT := jT_mem 138 (by decide +kernel) rfl
theorem k139 : Cond.instantiable RX1 3 ∈ jT := jT_mem 139 (by decide +kernel) rfl
theorem k140 : Cond.methodLinkNest RX6 28 yX1_init RX6 ∈ jNw := List.mem_filter.mpr ⟨List.mem_of_getElem? (i := 140) (by decide +kernel), rfl⟩
theorem k141 : Cond.instanceMethod yX1_init ∈ jT := jT_mem 141 (by decide +kernel) rfl
theorem k142 : Cond.code yX1_init cX1_init 1 none ∈ jT := jT_mem 142 (by decide +kernel) rfl
theorem k143 : Cond.methodLink RX1 3 Lib.objectInit ∈ jT := jT_mem 143 (by decide +kernel) rfl
theorem k144 : Cond.classLink RX1 9 RX0 ∈ jT := jT_mem 144 (by decide +kernel) rfl
theorem k145 : Cond.arrayOver (.object "EscapeLights$Building") ∈ lw_tbl := List.mem_of_getElem? (i := 145) (by decide +kernel)
theorem k146 : Cond.fieldLink RX1 11 (TX1 0).1 (TX1 0).2.1 (TX1 0).2.2.1 ∈ jT := jT_mem 146 (by decide +kernel) rfl
theorem k147 : Cond.fieldLink RX1 17 (TX1 1).1 (TX1 1).2.1 (TX1 1).2.2.1 ∈ jT := jT_mem 147 (by decide +kernel) rfl
theorem k148 : Cond.fieldLink RX1 29 (TX1 2).1 (TX1 2).2.1 (TX1 2).2.2.1 ∈ jT := jT_mem 148 (by decide +kernel) rfl
theorem k149 : Cond.fieldLink RX6 214 (TX1 2).1 (TX1 2).2.1 (TX1 2).2.2.1 ∈ jT := jT_mem 149 (by decide +kernel) rfl
theorem k157 : Cond.classLink RX6 33 RX4 ∈ jT := jT_mem 157 (by decide +kernel) rfl
theorem k158 : Cond.instantiable RX4 2 ∈ jT := jT_mem 158 (by decide +kernel) rfl
theorem k159 : Cond.methodLinkNest RX6 35 yX4_init RX6 ∈ jNw := List.mem_filter.mpr ⟨List.mem_of_getElem? (i := 159) (by decide +kernel), rfl⟩
theorem k160 : Cond.instanceMethod yX4_init ∈ jT := jT_mem 160 (by decide +kernel) rfl
theorem k161 : Cond.code yX4_init cX4_init 1 none ∈ jT := jT_mem 161 (by decide +kernel) rfl
theorem k162 : Cond.methodLink RX4 3 Lib.objectInit ∈ jT := jT_mem 162 (by decide +kernel) rfl
theorem k163 : Cond.fieldLink RX4 9 (TX4 0).1 (TX4 0).2.1 (TX4 0).2.2.1 ∈ jT := jT_mem 163 (by decide +kernel) rfl
theorem k164 : Cond.fieldLink RX4 15 (TX4 1).1 (TX4 1).2.1 (TX4 1).2.2.1 ∈ jT := jT_mem 164 (by decide +kernel) rfl
theorem k170 : Cond.classLink RX6 40 RX3 ∈ jT := jT_mem 170 (by decide +kernel) rfl
theorem k171 : Cond.instantiable RX3 4 ∈ jT := jT_mem 171 (by decide +kernel) rfl
theorem k172 : Cond.methodLinkNest RX6 42 yX3_init RX6 ∈ jNw := List.mem_filter.mpr ⟨List.mem_of_getElem? (i := 172) (by decide +kernel), rfl⟩
theorem k173 : Cond.instanceMethod yX3_init ∈ jT := jT_mem 173 (by decide +kernel) rfl
theorem k174 : Cond.code yX3_init cX3_init 1 none ∈ jT := jT_mem 174 (by decide +kernel) rfl
theorem k175 : Cond.methodLink RX3 3 Lib.objectInit ∈ jT := jT_mem 175 (by decide +kernel) rfl
theorem k176 : Cond.fieldLink RX3 9 (TX3 0).1 (TX3 0).2.1 (TX3 0).2.2.1 ∈ jT := jT_mem 176 (by decide +kernel) rfl
theorem k177 : Cond.fieldLink RX3 15 (TX3 1).1 (TX3 1).2.1 (TX3 1).2.2.1 ∈ jT := jT_mem 177 (by decide +kernel) rfl
theorem k178 : Cond.fieldLink RX3 23 (TX3 2).1 (TX3 2).2.1 (TX3 2).2.2.1 ∈ jT := jT_mem 178 (by decide +kernel) rfl
theorem k179 : Cond.fieldLink RX6 166 (TX3 2).1 (TX3 2).2.1 (TX3 2).2.2.1 ∈ jT := jT_mem 179 (by decide +kernel) rfl
theorem k180 : Cond.fieldLink RX3 19 (TX3 3).1 (TX3 3).2.1 (TX3 3).2.2.1 ∈ jT := jT_mem 180 (by decide +kernel) rfl
theorem k190 : Cond.fieldLink RX6 12 (TX6 0).1 (TX6 0).2.1 (TX6 0).2.2.1 ∈ jT := jT_mem 190 (by decide +kernel) rfl
theorem k191 : Cond.fieldLink RX6 19 (TX6 1).1 (TX6 1).2.1 (TX6 1).2.2.1 ∈ jT := jT_mem 191 (by decide +kernel) rfl
theorem k192 : Cond.fieldLink RX6 23 (TX6 2).1 (TX6 2).2.1 (TX6 2).2.2.1 ∈ jT := jT_mem 192 (by decide +kernel) rfl
theorem k193 : Cond.fieldLink RX6 29 (TX6 3).1 (TX6 3).2.1 (TX6 3).2.2.1 ∈ jT := jT_mem 193 (by decide +kernel) rfl
theorem k194 : Cond.fieldLink RX6 36 (TX6 4).1 (TX6 4).2.1 (TX6 4).2.2.1 ∈ jT := jT_mem 194 (by decide +kernel) rfl
theorem k195 : Cond.fieldLink RX6 43 (TX6 5).1 (TX6 5).2.1 (TX6 5).2.2.1 ∈ jT := jT_mem 195 (by decide +kernel) rfl
theorem k209 : Cond.methodLink RL 13 yX6_type ∈ jT := jT_mem 209 (by decide +kernel) rfl
theorem k210 : Cond.instanceMethod yX6_type ∈ jT := jT_mem 210 (by decide +kernel) rfl
theorem k211 : Cond.selects RX6 yX6_type yX6_type ∈ jT := jT_mem 211 (by decide +kernel) rfl
theorem k212 : Cond.code yX6_type cX6_type 2 ((some .int)) ∈ jT := jT_mem 212 (by decide +kernel) rfl
theorem k213 : Cond.methodLink RX6 47 yX5_append ∈ jT := jT_mem 213 (by decide +kernel) rfl
theorem k214 : Cond.instanceMethod yX5_append ∈ jT := jT_mem 214 (by decide +kernel) rfl
theorem k215 : Cond.selects RX5 yX5_append yX5_append ∈ jT := jT_mem 215 (by decide +kernel) rfl
theorem k216 : Cond.code yX5_append cX5_append 2 ((some .boolean)) ∈ jT := jT_mem 216 (by decide +kernel) rfl
theorem k217 : Cond.methodLink RL 18 yX6_clear ∈ jT := jT_mem 217 (by decide +kernel) rfl
theorem k218 : Cond.instanceMethod yX6_clear ∈ jT := jT_mem 218 (by decide +kernel) rfl
theorem k219 : Cond.selects RX6 yX6_clear yX6_clear ∈ jT := jT_mem 219 (by decide +kernel) rfl
theorem k220 : Cond.code yX6_clear cX6_clear 2 ((some .int)) ∈ jT := jT_mem 220 (by decide +kernel) rfl
theorem k221 : Cond.methodLink RL 23 yX6_load ∈ jT := jT_mem 221 (by decide +kernel) rfl
theorem k222 : Cond.instanceMethod yX6_load ∈ jT := jT_mem 222 (by decide +kernel) rfl
theorem k223 : Cond.selects RX6 yX6_load yX6_load ∈ jT := jT_mem 223 (by decide +kernel) rfl
theorem k224 : Cond.code yX6_load cX6_load 2 ((some .int)) ∈ jT := jT_mem 224 (by decide +kernel) rfl
theorem k225 : Cond.methodLink RX6 55 yX5_readInto ∈ jT := jT_mem 225 (by decide +kernel) rfl
theorem k226 : Cond.instanceMethod yX5_readInto ∈ jT := jT_mem 226 (by decide +kernel) rfl
theorem k227 : Cond.selects RX5 yX5_readInto yX5_readInto ∈ jT := jT_mem 227 (by decide +kernel) rfl
theorem k228 : Cond.code yX5_readInto cX5_readInto 3 ((some .int)) ∈ jT := jT_mem 228 (by decide +kernel) rfl
theorem k229 : Cond.methodLink RX5 33 yX5_peek ∈ jT := jT_mem 229 (by decide +kernel) rfl
theorem k230 : Cond.instanceMethod yX5_peek ∈ jT := jT_mem 230 (by decide +kernel) rfl
theorem k231 : Cond.selects RX5 yX5_peek yX5_peek ∈ jT := jT_mem 231 (by decide +kernel) rfl
theorem k232 : Cond.code yX5_peek cX5_peek 1 ((some .int)) ∈ jT := jT_mem 232 (by decide +kernel) rfl
theorem k233 : Cond.methodLink RX5 37 yX5_readLight ∈ jT := jT_mem 233 (by decide +kernel) rfl
theorem k234 : Cond.instanceMethod yX5_readLight ∈ jT := jT_mem 234 (by decide +kernel) rfl
theorem k235 : Cond.selects RX5 yX5_readLight yX5_readLight ∈ jT := jT_mem 235 (by decide +kernel) rfl
theorem k236 : Cond.code yX5_readLight cX5_readLight 8 none ∈ jT := jT_mem 236 (by decide +kernel) rfl
theorem k237 : Cond.methodLink RX5 48 yX5_expect ∈ jT := jT_mem 237 (by decide +kernel) rfl
theorem k238 : Cond.instanceMethod yX5_expect ∈ jT := jT_mem 238 (by decide +kernel) rfl
theorem k239 : Cond.selects RX5 yX5_expect yX5_expect ∈ jT := jT_mem 239 (by decide +kernel) rfl
theorem k240 : Cond.code yX5_expect cX5_expect 2 none ∈ jT := jT_mem 240 (by decide +kernel) rfl
theorem k241 : Cond.methodLink RX5 44 yX5_fail ∈ jT := jT_mem 241 (by decide +kernel) rfl
theorem k242 : Cond.instanceMethod yX5_fail ∈ jT := jT_mem 242 (by decide +kernel) rfl
theorem k243 : Cond.selects RX5 yX5_fail yX5_fail ∈ jT := jT_mem 243 (by decide +kernel) rfl
theorem k244 : Cond.code yX5_fail cX5_fail 2 none ∈ jT := jT_mem 244 (by decide +kernel) rfl
theorem k245 : Cond.methodLink RX5 51 yX5_readNumber ∈ jT := jT_mem 245 (by decide +kernel) rfl
theorem k246 : Cond.instanceMethod yX5_readNumber ∈ jT := jT_mem 246 (by decide +kernel) rfl
theorem k247 : Cond.selects RX5 yX5_readNumber yX5_readNumber ∈ jT := jT_mem 247 (by decide +kernel) rfl
theorem k248 : Cond.code yX5_readNumber cX5_readNumber 7 ((some .int)) ∈ jT := jT_mem 248 (by decide +kernel) rfl
theorem k249 : Cond.methodLink RX5 69 yX5_isAtDigit ∈ jT := jT_mem 249 (by decide +kernel) rfl
theorem k250 : Cond.instanceMethod yX5_isAtDigit ∈ jT := jT_mem 250 (by decide +kernel) rfl
theorem k251 : Cond.selects RX5 yX5_isAtDigit yX5_isAtDigit ∈ jT := jT_mem 251 (by decide +kernel) rfl
theorem k252 : Cond.code yX5_isAtDigit cX5_isAtDigit 1 ((some .boolean)) ∈ jT := jT_mem 252 (by decide +kernel) rfl
theorem k253 : Cond.methodLink RX5 55 yX0_grow ∈ jT := jT_mem 253 (by decide +kernel) rfl
theorem k254 : Cond.instanceMethod yX0_grow ∈ jT := jT_mem 254 (by decide +kernel) rfl
theorem k255 : Cond.selects RX0 yX0_grow yX0_grow ∈ jT := jT_mem 255 (by decide +kernel) rfl
theorem k256 : Cond.code yX0_grow cX0_grow 2 ((some (.object "EscapeLights$Light"))) ∈ jT := jT_mem 256 (by decide +kernel) rfl
theorem k257 : Cond.instantiable RX2 9 ∈ jT := jT_mem 257 (by decide +kernel) rfl
theorem k258 : Cond.methodLinkNest RX0 34 yX2_init RX6 ∈ jNw := List.mem_filter.mpr ⟨List.mem_of_getElem? (i := 258) (by decide +kernel), rfl⟩
theorem k259 : Cond.instanceMethod yX2_init ∈ jT := jT_mem 259 (by decide +kernel) rfl
theorem k260 : Cond.code yX2_init cX2_init 1 none ∈ jT := jT_mem 260 (by decide +kernel) rfl
theorem k261 : Cond.methodLink RX2 3 Lib.objectInit ∈ jT := jT_mem 261 (by decide +kernel) rfl
theorem k262 : Cond.fieldLink RX2 9 (TX2 0).1 (TX2 0).2.1 (TX2 0).2.2.1 ∈ jT := jT_mem 262 (by decide +kernel) rfl
theorem k263 : Cond.fieldLink RX4 37 (TX2 0).1 (TX2 0).2.1 (TX2 0).2.2.1 ∈ jT := jT_mem 263 (by decide +kernel) rfl
theorem k264 : Cond.fieldLink RX2 15 (TX2 1).1 (TX2 1).2.1 (TX2 1).2.2.1 ∈ jT := jT_mem 264 (by decide +kernel) rfl
theorem k265 : Cond.fieldLink RX0 81 (TX2 1).1 (TX2 1).2.1 (TX2 1).2.2.1 ∈ jT := jT_mem 265 (by decide +kernel) rfl
theorem k266 : Cond.fieldLink RX2 18 (TX2 2).1 (TX2 2).2.1 (TX2 2).2.2.1 ∈ jT := jT_mem 266 (by decide +kernel) rfl
theorem k267 : Cond.fieldLink RX2 42 (TX2 3).1 (TX2 3).2.1 (TX2 3).2.2.1 ∈ jT := jT_mem 267 (by decide +kernel) rfl
theorem k268 : Cond.fieldLink RX0 93 (TX2 3).1 (TX2 3).2.1 (TX2 3).2.2.1 ∈ jT := jT_mem 268 (by decide +kernel) rfl
theorem k269 : Cond.fieldLink RX2 21 (TX2 4).1 (TX2 4).2.1 (TX2 4).2.2.1 ∈ jT := jT_mem 269 (by decide +kernel) rfl
theorem k270 : Cond.fieldLink RX6 96 (TX2 4).1 (TX2 4).2.1 (TX2 4).2.2.1 ∈ jT := jT_mem 270 (by decide +kernel) rfl
theorem k271 : Cond.fieldLink RX2 25 (TX2 5).1 (TX2 5).2.1 (TX2 5).2.2.1 ∈ jT := jT_mem 271 (by decide +kernel) rfl
theorem k272 : Cond.fieldLink RX6 137 (TX2 5).1 (TX2 5).2.1 (TX2 5).2.2.1 ∈ jT := jT_mem 272 (by decide +kernel) rfl
theorem k273 : Cond.fieldLink RX2 32 (TX2 6).1 (TX2 6).2.1 (TX2 6).2.2.1 ∈ jT := jT_mem 273 (by decide +kernel) rfl
theorem k274 : Cond.fieldLink RX6 140 (TX2 6).1 (TX2 6).2.1 (TX2 6).2.2.1 ∈ jT := jT_mem 274 (by decide +kernel) rfl
theorem k275 : Cond.fieldLink RX2 45 (TX2 7).1 (TX2 7).2.1 (TX2 7).2.2.1 ∈ jT := jT_mem 275 (by decide +kernel) rfl
theorem k276 : Cond.fieldLink RX0 87 (TX2 7).1 (TX2 7).2.1 (TX2 7).2.2.1 ∈ jT := jT_mem 276 (by decide +kernel) rfl
theorem k277 : Cond.fieldLink RX2 35 (TX2 8).1 (TX2 8).2.1 (TX2 8).2.2.1 ∈ jT := jT_mem 277 (by decide +kernel) rfl
theorem k297 : Cond.methodLink RX5 59 yX2_begin ∈ jT := jT_mem 297 (by decide +kernel) rfl
theorem k298 : Cond.instanceMethod yX2_begin ∈ jT := jT_mem 298 (by decide +kernel) rfl
theorem k299 : Cond.selects RX2 yX2_begin yX2_begin ∈ jT := jT_mem 299 (by decide +kernel) rfl
theorem k300 : Cond.code yX2_begin cX2_begin 6 none ∈ jT := jT_mem 300 (by decide +kernel) rfl
theorem k301 : Cond.methodLink RX2 28 yX2_fullCharge ∈ jT := jT_mem 301 (by decide +kernel) rfl
theorem k302 : Cond.instanceMethod yX2_fullCharge ∈ jT := jT_mem 302 (by decide +kernel) rfl
theorem k303 : Cond.selects RX2 yX2_fullCharge yX2_fullCharge ∈ jT := jT_mem 303 (by decide +kernel) rfl
theorem k304 : Cond.code yX2_fullCharge cX2_fullCharge 1 ((some .int)) ∈ jT := jT_mem 304 (by decide +kernel) rfl
theorem k305 : Cond.methodLink RX2 58 yX2_capacity ∈ jT := jT_mem 305 (by decide +kernel) rfl
theorem k306 : Cond.instanceMethod yX2_capacity ∈ jT := jT_mem 306 (by decide +kernel) rfl
theorem k307 : Cond.selects RX2 yX2_capacity yX2_capacity ∈ jT := jT_mem 307 (by decide +kernel) rfl
theorem k308 : Cond.code yX2_capacity cX2_capacity 1 ((some .int)) ∈ jT := jT_mem 308 (by decide +kernel) rfl
theorem k309 : Cond.methodLink RX2 55 yX2_ratedTime ∈ jT := jT_mem 309 (by decide +kernel) rfl
theorem k310 : Cond.instanceMethod yX2_ratedTime ∈ jT := jT_mem 310 (by decide +kernel) rfl
theorem k311 : Cond.selects RX2 yX2_ratedTime yX2_ratedTime ∈ jT := jT_mem 311 (by decide +kernel) rfl
theorem k312 : Cond.code yX2_ratedTime cX2_ratedTime 1 ((some .int)) ∈ jT := jT_mem 312 (by decide +kernel) rfl
theorem k313 : Cond.methodLink RX2 38 yX2_putLamp ∈ jT := jT_mem 313 (by decide +kernel) rfl
theorem k314 : Cond.instanceMethod yX2_putLamp ∈ jT := jT_mem 314 (by decide +kernel) rfl
theorem k315 : Cond.selects RX2 yX2_putLamp yX2_putLamp ∈ jT := jT_mem 315 (by decide +kernel) rfl
theorem k316 : Cond.code yX2_putLamp cX2_putLamp 2 none ∈ jT := jT_mem 316 (by decide +kernel) rfl
theorem k317 : Cond.methodLink RX2 48 yX2_life ∈ jT := jT_mem 317 (by decide +kernel) rfl
theorem k318 : Cond.instanceMethod yX2_life ∈ jT := jT_mem 318 (by decide +kernel) rfl
theorem k319 : Cond.selects RX2 yX2_life yX2_life ∈ jT := jT_mem 319 (by decide +kernel) rfl
theorem k320 : Cond.code yX2_life cX2_life 1 ((some .int)) ∈ jT := jT_mem 320 (by decide +kernel) rfl
theorem k321 : Cond.methodLink RX5 41 yX5_readRoute ∈ jT := jT_mem 321 (by decide +kernel) rfl
theorem k322 : Cond.instanceMethod yX5_readRoute ∈ jT := jT_mem 322 (by decide +kernel) rfl
theorem k323 : Cond.selects RX5 yX5_readRoute yX5_readRoute ∈ jT := jT_mem 323 (by decide +kernel) rfl
theorem k324 : Cond.code yX5_readRoute cX5_readRoute 4 none ∈ jT := jT_mem 324 (by decide +kernel) rfl
theorem k325 : Cond.methodLink RX5 65 yX0_appendRoute ∈ jT := jT_mem 325 (by decide +kernel) rfl
theorem k326 : Cond.instanceMethod yX0_appendRoute ∈ jT := jT_mem 326 (by decide +kernel) rfl
theorem k327 : Cond.selects RX0 yX0_appendRoute yX0_appendRoute ∈ jT := jT_mem 327 (by decide +kernel) rfl
theorem k328 : Cond.code yX0_appendRoute cX0_appendRoute 3 none ∈ jT := jT_mem 328 (by decide +kernel) rfl
theorem k329 : Cond.methodLink RX6 59 yX6_remember ∈ jT := jT_mem 329 (by decide +kernel) rfl
theorem k331 : Cond.instanceMethod yX6_remember ∈ jT := jT_mem 331 (by decide +kernel) rfl
theorem k332 : Cond.code yX6_remember cX6_remember 1 none ∈ jT := jT_mem 332 (by decide +kernel) rfl
theorem k333 : Cond.methodLink RX6 245 yX1_keep ∈ jT := jT_mem 333 (by decide +kernel) rfl
theorem k334 : Cond.instanceMethod yX1_keep ∈ jT := jT_mem 334 (by decide +kernel) rfl
theorem k335 : Cond.selects RX1 yX1_keep yX1_keep ∈ jT := jT_mem 335 (by decide +kernel) rfl
theorem k336 : Cond.code yX1_keep cX1_keep 2 none ∈ jT := jT_mem 336 (by decide +kernel) rfl
theorem k337 : Cond.methodLink RX1 21 yX1_slot ∈ jT := jT_mem 337 (by decide +kernel) rfl
theorem k338 : Cond.instanceMethod yX1_slot ∈ jT := jT_mem 338 (by decide +kernel) rfl
theorem k339 : Cond.selects RX1 yX1_slot yX1_slot ∈ jT := jT_mem 339 (by decide +kernel) rfl
theorem k340 : Cond.code yX1_slot cX1_slot 4 ((some (.object "EscapeLights$Building"))) ∈ jT := jT_mem 340 (by decide +kernel) rfl
theorem k341 : Cond.methodLink RX1 38 yJ9_floorMod_7cf53 ∈ jT := jT_mem 341 (by decide +kernel) rfl
theorem k342 : Cond.static yJ9_floorMod_7cf53 ∈ jT := jT_mem 342 (by decide +kernel) rfl
theorem k343 : Cond.code yJ9_floorMod_7cf53 cJ9_floorMod_7cf53 3 ((some .int)) ∈ jT := jT_mem 343 (by decide +kernel) rfl
theorem k344 : Cond.methodLinkNest RX1 41 yX0_init RX6 ∈ jNw := List.mem_filter.mpr ⟨List.mem_of_getElem? (i := 344) (by decide +kernel), rfl⟩
theorem k345 : Cond.methodLink RX1 25 yX0_copyFrom ∈ jT := jT_mem 345 (by decide +kernel) rfl
theorem k346 : Cond.instanceMethod yX0_copyFrom ∈ jT := jT_mem 346 (by decide +kernel) rfl
theorem k347 : Cond.selects RX0 yX0_copyFrom yX0_copyFrom ∈ jT := jT_mem 347 (by decide +kernel) rfl
theorem k348 : Cond.code yX0_copyFrom cX0_copyFrom 3 none ∈ jT := jT_mem 348 (by decide +kernel) rfl
theorem k349 : Cond.methodLink RX0 46 yX0_copyLayout ∈ jT := jT_mem 349 (by decide +kernel) rfl
theorem k350 : Cond.instanceMethod yX0_copyLayout ∈ jT := jT_mem 350 (by decide +kernel) rfl
theorem k351 : Cond.selects RX0 yX0_copyLayout yX0_copyLayout ∈ jT := jT_mem 351 (by decide +kernel) rfl
theorem k352 : Cond.code yX0_copyLayout cX0_copyLayout 5 none ∈ jT := jT_mem 352 (by decide +kernel) rfl
theorem k353 : Cond.methodLink RX0 35 yX0_find ∈ jT := jT_mem 353 (by decide +kernel) rfl
theorem k354 : Cond.instanceMethod yX0_find ∈ jT := jT_mem 354 (by decide +kernel) rfl
theorem k355 : Cond.selects RX0 yX0_find yX0_find ∈ jT := jT_mem 355 (by decide +kernel) rfl
theorem k356 : Cond.code yX0_find cX0_find 2 ((some (.object "EscapeLights$Light"))) ∈ jT := jT_mem 356 (by decide +kernel) rfl
theorem k357 : Cond.methodLink RX0 59 yX0_grow ∈ jT := jT_mem 357 (by decide +kernel) rfl
theorem k358 : Cond.methodLink RX0 63 yX2_copyFrom ∈ jT := jT_mem 358 (by decide +kernel) rfl
theorem k359 : Cond.instanceMethod yX2_copyFrom ∈ jT := jT_mem 359 (by decide +kernel) rfl
theorem k360 : Cond.selects RX2 yX2_copyFrom yX2_copyFrom ∈ jT := jT_mem 360 (by decide +kernel) rfl
theorem k361 : Cond.code yX2_copyFrom cX2_copyFrom 2 none ∈ jT := jT_mem 361 (by decide +kernel) rfl
theorem k362 : Cond.methodLink RX0 67 yX0_firstPlace ∈ jT := jT_mem 362 (by decide +kernel) rfl
theorem k363 : Cond.instanceMethod yX0_firstPlace ∈ jT := jT_mem 363 (by decide +kernel) rfl
theorem k364 : Cond.selects RX0 yX0_firstPlace yX0_firstPlace ∈ jT := jT_mem 364 (by decide +kernel) rfl
theorem k365 : Cond.code yX0_firstPlace cX0_firstPlace 2 ((some .int)) ∈ jT := jT_mem 365 (by decide +kernel) rfl
theorem k366 : Cond.methodLink RX0 42 yX0_hasRoute ∈ jT := jT_mem 366 (by decide +kernel) rfl
theorem k367 : Cond.instanceMethod yX0_hasRoute ∈ jT := jT_mem 367 (by decide +kernel) rfl
theorem k368 : Cond.selects RX0 yX0_hasRoute yX0_hasRoute ∈ jT := jT_mem 368 (by decide +kernel) rfl
theorem k369 : Cond.code yX0_hasRoute cX0_hasRoute 2 ((some .boolean)) ∈ jT := jT_mem 369 (by decide +kernel) rfl
theorem k370 : Cond.methodLink RX0 71 yX0_lastPlace ∈ jT := jT_mem 370 (by decide +kernel) rfl
theorem k371 : Cond.instanceMethod yX0_lastPlace ∈ jT := jT_mem 371 (by decide +kernel) rfl
theorem k372 : Cond.selects RX0 yX0_lastPlace yX0_lastPlace ∈ jT := jT_mem 372 (by decide +kernel) rfl
theorem k373 : Cond.code yX0_lastPlace cX0_lastPlace 2 ((some .int)) ∈ jT := jT_mem 373 (by decide +kernel) rfl
theorem k374 : Cond.methodLink RX0 74 yX0_appendRoute ∈ jT := jT_mem 374 (by decide +kernel) rfl
theorem k375 : Cond.methodLink RX1 32 Lib.Math.min.name ∈ jT := jT_mem 375 (by decide +kernel) rfl
theorem k376 : Cond.static Lib.Math.min.name ∈ jT := jT_mem 376 (by decide +kernel) rfl
theorem k377 : Cond.code Lib.Math.min.name Lib.Math.min.code 2 ((some .int)) ∈ jT := jT_mem 377 (by decide +kernel) rfl
theorem k378 : Cond.methodLink RX6 220 yX3_forget ∈ jT := jT_mem 378 (by decide +kernel) rfl
theorem k379 : Cond.instanceMethod yX3_forget ∈ jT := jT_mem 379 (by decide +kernel) rfl
theorem k380 : Cond.selects RX3 yX3_forget yX3_forget ∈ jT := jT_mem 380 (by decide +kernel) rfl
theorem k381 : Cond.code yX3_forget cX3_forget 1 none ∈ jT := jT_mem 381 (by decide +kernel) rfl
theorem k382 : Cond.methodLink RX6 62 yX0_copyLayout ∈ jT := jT_mem 382 (by decide +kernel) rfl
theorem k383 : Cond.methodLink RL 27 yX6_add ∈ jT := jT_mem 383 (by decide +kernel) rfl
theorem k384 : Cond.instanceMethod yX6_add ∈ jT := jT_mem 384 (by decide +kernel) rfl
theorem k385 : Cond.selects RX6 yX6_add yX6_add ∈ jT := jT_mem 385 (by decide +kernel) rfl
theorem k386 : Cond.code yX6_add cX6_add 6 ((some .int)) ∈ jT := jT_mem 386 (by decide +kernel) rfl
theorem k387 : Cond.methodLink RX6 72 yX6_isPlace ∈ jT := jT_mem 387 (by decide +kernel) rfl
theorem k388 : Cond.static yX6_isPlace ∈ jT := jT_mem 388 (by decide +kernel) rfl
theorem k389 : Cond.code yX6_isPlace cX6_isPlace 1 ((some .boolean)) ∈ jT := jT_mem 389 (by decide +kernel) rfl
theorem k390 : Cond.methodLink RX6 75 yX6_isLamp ∈ jT := jT_mem 390 (by decide +kernel) rfl
theorem k391 : Cond.static yX6_isLamp ∈ jT := jT_mem 391 (by decide +kernel) rfl
theorem k392 : Cond.code yX6_isLamp cX6_isLamp 1 ((some .boolean)) ∈ jT := jT_mem 392 (by decide +kernel) rfl
theorem k393 : Cond.methodLink RX6 78 yX0_grow ∈ jT := jT_mem 393 (by decide +kernel) rfl
theorem k394 : Cond.methodLink RX6 82 yX2_begin ∈ jT := jT_mem 394 (by decide +kernel) rfl
theorem k395 : Cond.methodLink RL 32 yX6_drop ∈ jT := jT_mem 395 (by decide +kernel) rfl
theorem k396 : Cond.instanceMethod yX6_drop ∈ jT := jT_mem 396 (by decide +kernel) rfl
theorem k397 : Cond.selects RX6 yX6_drop yX6_drop ∈ jT := jT_mem 397 (by decide +kernel) rfl
theorem k398 : Cond.code yX6_drop cX6_drop 2 ((some .int)) ∈ jT := jT_mem 398 (by decide +kernel) rfl
theorem k399 : Cond.methodLink RX6 88 yX0_find ∈ jT := jT_mem 399 (by decide +kernel) rfl
theorem k400 : Cond.methodLink RX6 92 yX0_removeLight ∈ jT := jT_mem 400 (by decide +kernel) rfl
theorem k401 : Cond.instanceMethod yX0_removeLight ∈ jT := jT_mem 401 (by decide +kernel) rfl
theorem k402 : Cond.selects RX0 yX0_removeLight yX0_removeLight ∈ jT := jT_mem 402 (by decide +kernel) rfl
theorem k403 : Cond.code yX0_removeLight cX0_removeLight 5 none ∈ jT := jT_mem 403 (by decide +kernel) rfl
theorem k404 : Cond.methodLink RL 36 yX6_maintain ∈ jT := jT_mem 404 (by decide +kernel) rfl
theorem k405 : Cond.instanceMethod yX6_maintain ∈ jT := jT_mem 405 (by decide +kernel) rfl
theorem k406 : Cond.selects RX6 yX6_maintain yX6_maintain ∈ jT := jT_mem 406 (by decide +kernel) rfl
theorem k407 : Cond.code yX6_maintain cX6_maintain 5 ((some .int)) ∈ jT := jT_mem 407 (by decide +kernel) rfl
theorem k408 : Cond.methodLink RL 41 yX6_route ∈ jT := jT_mem 408 (by decide +kernel) rfl
theorem k409 : Cond.instanceMethod yX6_route ∈ jT := jT_mem 409 (by decide +kernel) rfl
theorem k410 : Cond.selects RX6 yX6_route yX6_route ∈ jT := jT_mem 410 (by decide +kernel) rfl
theorem k411 : Cond.code yX6_route cX6_route 3 ((some .int)) ∈ jT := jT_mem 411 (by decide +kernel) rfl
theorem k412 : Cond.methodLink RX6 100 yX0_appendRoute ∈ jT := jT_mem 412 (by decide +kernel) rfl
theorem k413 : Cond.methodLink RL 46 yX6_dropRoute ∈ jT := jT_mem 413 (by decide +kernel) rfl
theorem k414 : Cond.instanceMethod yX6_dropRoute ∈ jT := jT_mem 414 (by decide +kernel) rfl
theorem k415 : Cond.selects RX6 yX6_dropRoute yX6_dropRoute ∈ jT := jT_mem 415 (by decide +kernel) rfl
theorem k416 : Cond.code yX6_dropRoute cX6_dropRoute 2 ((some .int)) ∈ jT := jT_mem 416 (by decide +kernel) rfl
theorem k417 : Cond.methodLink RX6 104 yX0_hasRoute ∈ jT := jT_mem 417 (by decide +kernel) rfl
theorem k418 : Cond.methodLink RX6 107 yX0_removeRoute ∈ jT := jT_mem 418 (by decide +kernel) rfl
theorem k419 : Cond.instanceMethod yX0_removeRoute ∈ jT := jT_mem 419 (by decide +kernel) rfl
theorem k420 : Cond.selects RX0 yX0_removeRoute yX0_removeRoute ∈ jT := jT_mem 420 (by decide +kernel) rfl
theorem k421 : Cond.code yX0_removeRoute cX0_removeRoute 3 none ∈ jT := jT_mem 421 (by decide +kernel) rfl
theorem k422 : Cond.methodLink RL 50 yX6_setNeed ∈ jT := jT_mem 422 (by decide +kernel) rfl
theorem k423 : Cond.instanceMethod yX6_setNeed ∈ jT := jT_mem 423 (by decide +kernel) rfl
theorem k424 : Cond.selects RX6 yX6_setNeed yX6_setNeed ∈ jT := jT_mem 424 (by decide +kernel) rfl
theorem k425 : Cond.code yX6_setNeed cX6_setNeed 3 ((some .int)) ∈ jT := jT_mem 425 (by decide +kernel) rfl
theorem k426 : Cond.methodLink RL 54 yX6_setStock ∈ jT := jT_mem 426 (by decide +kernel) rfl
theorem k427 : Cond.instanceMethod yX6_setStock ∈ jT := jT_mem 427 (by decide +kernel) rfl
theorem k428 : Cond.selects RX6 yX6_setStock yX6_setStock ∈ jT := jT_mem 428 (by decide +kernel) rfl
theorem k429 : Cond.code yX6_setStock cX6_setStock 4 ((some .int)) ∈ jT := jT_mem 429 (by decide +kernel) rfl
theorem k430 : Cond.methodLink RX6 113 yX0_stockOf ∈ jT := jT_mem 430 (by decide +kernel) rfl
theorem k431 : Cond.instanceMethod yX0_stockOf ∈ jT := jT_mem 431 (by decide +kernel) rfl
theorem k432 : Cond.selects RX0 yX0_stockOf yX0_stockOf ∈ jT := jT_mem 432 (by decide +kernel) rfl
theorem k433 : Cond.code yX0_stockOf cX0_stockOf 2 ((some .int)) ∈ jT := jT_mem 433 (by decide +kernel) rfl
theorem k434 : Cond.methodLinkNest RX0 78 yX6_isLamp RX6 ∈ jNw := List.mem_filter.mpr ⟨List.mem_of_getElem? (i := 434) (by decide +kernel), rfl⟩
theorem k435 : Cond.methodLink RX6 117 yX0_changeStock ∈ jT := jT_mem 435 (by decide +kernel) rfl
theorem k436 : Cond.instanceMethod yX0_changeStock ∈ jT := jT_mem 436 (by decide +kernel) rfl
theorem k437 : Cond.selects RX0 yX0_changeStock yX0_changeStock ∈ jT := jT_mem 437 (by decide +kernel) rfl
theorem k438 : Cond.code yX0_changeStock cX0_changeStock 3 none ∈ jT := jT_mem 438 (by decide +kernel) rfl
theorem k439 : Cond.methodLink RL 58 yX6_light ∈ jT := jT_mem 439 (by decide +kernel) rfl
theorem k440 : Cond.instanceMethod yX6_light ∈ jT := jT_mem 440 (by decide +kernel) rfl
theorem k441 : Cond.selects RX6 yX6_light yX6_light ∈ jT := jT_mem 441 (by decide +kernel) rfl
theorem k442 : Cond.code yX6_light cX6_light 4 ((some .int)) ∈ jT := jT_mem 442 (by decide +kernel) rfl
theorem k443 : Cond.methodLink RX6 120 yX3_follow ∈ jT := jT_mem 443 (by decide +kernel) rfl
theorem k444 : Cond.instanceMethod yX3_follow ∈ jT := jT_mem 444 (by decide +kernel) rfl
theorem k445 : Cond.selects RX3 yX3_follow yX3_follow ∈ jT := jT_mem 445 (by decide +kernel) rfl
theorem k446 : Cond.code yX3_follow cX3_follow 5 none ∈ jT := jT_mem 446 (by decide +kernel) rfl
theorem k447 : Cond.methodLink RX3 31 yX3_fewestDays ∈ jT := jT_mem 447 (by decide +kernel) rfl
theorem k448 : Cond.instanceMethod yX3_fewestDays ∈ jT := jT_mem 448 (by decide +kernel) rfl
theorem k449 : Cond.selects RX3 yX3_fewestDays yX3_fewestDays ∈ jT := jT_mem 449 (by decide +kernel) rfl
theorem k450 : Cond.code yX3_fewestDays cX3_fewestDays 5 ((some .int)) ∈ jT := jT_mem 450 (by decide +kernel) rfl
theorem k451 : Cond.methodLink RX3 43 Lib.Math.min.name ∈ jT := jT_mem 451 (by decide +kernel) rfl
theorem k452 : Cond.methodLink RX3 49 yX4_look ∈ jT := jT_mem 452 (by decide +kernel) rfl
theorem k453 : Cond.instanceMethod yX4_look ∈ jT := jT_mem 453 (by decide +kernel) rfl
theorem k454 : Cond.selects RX4 yX4_look yX4_look ∈ jT := jT_mem 454 (by decide +kernel) rfl
theorem k455 : Cond.code yX4_look cX4_look 7 none ∈ jT := jT_mem 455 (by decide +kernel) rfl
theorem k456 : Cond.methodLink RX4 24 yX0_find ∈ jT := jT_mem 456 (by decide +kernel) rfl
theorem k457 : Cond.methodLink RX4 28 yX2_endurance ∈ jT := jT_mem 457 (by decide +kernel) rfl
theorem k458 : Cond.instanceMethod yX2_endurance ∈ jT := jT_mem 458 (by decide +kernel) rfl
theorem k459 : Cond.selects RX2 yX2_endurance yX2_endurance ∈ jT := jT_mem 459 (by decide +kernel) rfl
theorem k460 : Cond.code yX2_endurance cX2_endurance 1 ((some .int)) ∈ jT := jT_mem 460 (by decide +kernel) rfl
theorem k461 : Cond.methodLink RX2 61 Lib.Math.min.name ∈ jT := jT_mem 461 (by decide +kernel) rfl
theorem k462 : Cond.methodLink RX4 40 yX2_width ∈ jT := jT_mem 462 (by decide +kernel) rfl
theorem k463 : Cond.instanceMethod yX2_width ∈ jT := jT_mem 463 (by decide +kernel) rfl
theorem k464 : Cond.selects RX2 yX2_width yX2_width ∈ jT := jT_mem 464 (by decide +kernel) rfl
theorem k465 : Cond.code yX2_width cX2_width 1 ((some .int)) ∈ jT := jT_mem 465 (by decide +kernel) rfl
theorem k466 : Cond.methodLink RX2 51 yX2_widthOf ∈ jT := jT_mem 466 (by decide +kernel) rfl
theorem k467 : Cond.static yX2_widthOf ∈ jT := jT_mem 467 (by decide +kernel) rfl
theorem k468 : Cond.code yX2_widthOf cX2_widthOf 1 ((some .int)) ∈ jT := jT_mem 468 (by decide +kernel) rfl
theorem k469 : Cond.methodLink RX4 43 Lib.Math.max.name ∈ jT := jT_mem 469 (by decide +kernel) rfl
theorem k470 : Cond.static Lib.Math.max.name ∈ jT := jT_mem 470 (by decide +kernel) rfl
theorem k471 : Cond.code Lib.Math.max.name Lib.Math.max.code 2 ((some .int)) ∈ jT := jT_mem 471 (by decide +kernel) rfl
theorem k472 : Cond.methodLink RX4 49 Lib.Math.min.name ∈ jT := jT_mem 472 (by decide +kernel) rfl
theorem k473 : Cond.methodLink RX3 55 yX3_markForbidden ∈ jT := jT_mem 473 (by decide +kernel) rfl
theorem k474 : Cond.instanceMethod yX3_markForbidden ∈ jT := jT_mem 474 (by decide +kernel) rfl
theorem k475 : Cond.selects RX3 yX3_markForbidden yX3_markForbidden ∈ jT := jT_mem 475 (by decide +kernel) rfl
theorem k476 : Cond.code yX3_markForbidden cX3_markForbidden 8 none ∈ jT := jT_mem 476 (by decide +kernel) rfl
theorem k477 : Cond.methodLink RX3 72 yX0_firstPlace ∈ jT := jT_mem 477 (by decide +kernel) rfl
theorem k478 : Cond.methodLink RX3 75 yX0_lastPlace ∈ jT := jT_mem 478 (by decide +kernel) rfl
theorem k479 : Cond.methodLink RX3 78 yX4_dark ∈ jT := jT_mem 479 (by decide +kernel) rfl
theorem k480 : Cond.instanceMethod yX4_dark ∈ jT := jT_mem 480 (by decide +kernel) rfl
theorem k481 : Cond.selects RX4 yX4_dark yX4_dark ∈ jT := jT_mem 481 (by decide +kernel) rfl
theorem k482 : Cond.code yX4_dark cX4_dark 6 ((some .int)) ∈ jT := jT_mem 482 (by decide +kernel) rfl
theorem k483 : Cond.methodLink RX4 52 yX4_nearTo ∈ jT := jT_mem 483 (by decide +kernel) rfl
theorem k484 : Cond.instanceMethod yX4_nearTo ∈ jT := jT_mem 484 (by decide +kernel) rfl
theorem k485 : Cond.selects RX4 yX4_nearTo yX4_nearTo ∈ jT := jT_mem 485 (by decide +kernel) rfl
theorem k486 : Cond.code yX4_nearTo cX4_nearTo 2 ((some .int)) ∈ jT := jT_mem 486 (by decide +kernel) rfl
theorem k487 : Cond.methodLink RX3 82 yX4_nearTo ∈ jT := jT_mem 487 (by decide +kernel) rfl
theorem k488 : Cond.methodLink RX3 85 yX3_forbid ∈ jT := jT_mem 488 (by decide +kernel) rfl
theorem k489 : Cond.instanceMethod yX3_forbid ∈ jT := jT_mem 489 (by decide +kernel) rfl
theorem k490 : Cond.selects RX3 yX3_forbid yX3_forbid ∈ jT := jT_mem 490 (by decide +kernel) rfl
theorem k491 : Cond.code yX3_forbid cX3_forbid 2 none ∈ jT := jT_mem 491 (by decide +kernel) rfl
theorem k492 : Cond.methodLink RX3 59 yX3_daysFor ∈ jT := jT_mem 492 (by decide +kernel) rfl
theorem k493 : Cond.instanceMethod yX3_daysFor ∈ jT := jT_mem 493 (by decide +kernel) rfl
theorem k494 : Cond.selects RX3 yX3_daysFor yX3_daysFor ∈ jT := jT_mem 494 (by decide +kernel) rfl
theorem k495 : Cond.code yX3_daysFor cX3_daysFor 2 ((some .int)) ∈ jT := jT_mem 495 (by decide +kernel) rfl
theorem k496 : Cond.methodLink RX3 62 yX3_holdsForbidden ∈ jT := jT_mem 496 (by decide +kernel) rfl
theorem k497 : Cond.instanceMethod yX3_holdsForbidden ∈ jT := jT_mem 497 (by decide +kernel) rfl
theorem k498 : Cond.selects RX3 yX3_holdsForbidden yX3_holdsForbidden ∈ jT := jT_mem 498 (by decide +kernel) rfl
theorem k499 : Cond.code yX3_holdsForbidden cX3_holdsForbidden 3 ((some .boolean)) ∈ jT := jT_mem 499 (by decide +kernel) rfl
theorem k500 : Cond.methodLink RX3 66 yX3_fewestApart ∈ jT := jT_mem 500 (by decide +kernel) rfl
theorem k501 : Cond.instanceMethod yX3_fewestApart ∈ jT := jT_mem 501 (by decide +kernel) rfl
theorem k502 : Cond.selects RX3 yX3_fewestApart yX3_fewestApart ∈ jT := jT_mem 502 (by decide +kernel) rfl
theorem k503 : Cond.code yX3_fewestApart cX3_fewestApart 6 ((some .int)) ∈ jT := jT_mem 503 (by decide +kernel) rfl
theorem k504 : Cond.methodLink RX3 40 yX3_firstSet ∈ jT := jT_mem 504 (by decide +kernel) rfl
theorem k505 : Cond.instanceMethod yX3_firstSet ∈ jT := jT_mem 505 (by decide +kernel) rfl
theorem k506 : Cond.selects RX3 yX3_firstSet yX3_firstSet ∈ jT := jT_mem 506 (by decide +kernel) rfl
theorem k507 : Cond.code yX3_firstSet cX3_firstSet 6 ((some .int)) ∈ jT := jT_mem 507 (by decide +kernel) rfl
theorem k508 : Cond.methodLink RX3 89 yX3_begins ∈ jT := jT_mem 508 (by decide +kernel) rfl
theorem k509 : Cond.instanceMethod yX3_begins ∈ jT := jT_mem 509 (by decide +kernel) rfl
theorem k510 : Cond.selects RX3 yX3_begins yX3_begins ∈ jT := jT_mem 510 (by decide +kernel) rfl
theorem k511 : Cond.code yX3_begins cX3_begins 3 ((some .boolean)) ∈ jT := jT_mem 511 (by decide +kernel) rfl
theorem k512 : Cond.methodLink RX6 124 yX3_dayOf ∈ jT := jT_mem 512 (by decide +kernel) rfl
theorem k513 : Cond.instanceMethod yX3_dayOf ∈ jT := jT_mem 513 (by decide +kernel) rfl
theorem k514 : Cond.selects RX3 yX3_dayOf yX3_dayOf ∈ jT := jT_mem 514 (by decide +kernel) rfl
theorem k515 : Cond.code yX3_dayOf cX3_dayOf 3 ((some .int)) ∈ jT := jT_mem 515 (by decide +kernel) rfl
theorem k516 : Cond.methodLink RX3 27 yX3_setOn ∈ jT := jT_mem 516 (by decide +kernel) rfl
theorem k517 : Cond.instanceMethod yX3_setOn ∈ jT := jT_mem 517 (by decide +kernel) rfl
theorem k518 : Cond.selects RX3 yX3_setOn yX3_setOn ∈ jT := jT_mem 518 (by decide +kernel) rfl
theorem k519 : Cond.code yX3_setOn cX3_setOn 2 ((some .int)) ∈ jT := jT_mem 519 (by decide +kernel) rfl
theorem k520 : Cond.methodLink RX6 127 yX2_property ∈ jT := jT_mem 520 (by decide +kernel) rfl
theorem k521 : Cond.instanceMethod yX2_property ∈ jT := jT_mem 521 (by decide +kernel) rfl
theorem k522 : Cond.selects RX2 yX2_property yX2_property ∈ jT := jT_mem 522 (by decide +kernel) rfl
theorem k523 : Cond.code yX2_property cX2_property 3 ((some .int)) ∈ jT := jT_mem 523 (by decide +kernel) rfl
theorem k524 : Cond.methodLink RX2 67 yX2_endurance ∈ jT := jT_mem 524 (by decide +kernel) rfl
theorem k525 : Cond.methodLink RX2 85 yX2_isReady ∈ jT := jT_mem 525 (by decide +kernel) rfl
theorem k526 : Cond.instanceMethod yX2_isReady ∈ jT := jT_mem 526 (by decide +kernel) rfl
theorem k527 : Cond.selects RX2 yX2_isReady yX2_isReady ∈ jT := jT_mem 527 (by decide +kernel) rfl
theorem k528 : Cond.code yX2_isReady cX2_isReady 2 ((some .boolean)) ∈ jT := jT_mem 528 (by decide +kernel) rfl
theorem k529 : Cond.methodLink RL 62 yX6_swap ∈ jT := jT_mem 529 (by decide +kernel) rfl
theorem k530 : Cond.instanceMethod yX6_swap ∈ jT := jT_mem 530 (by decide +kernel) rfl
theorem k531 : Cond.selects RX6 yX6_swap yX6_swap ∈ jT := jT_mem 531 (by decide +kernel) rfl
theorem k532 : Cond.code yX6_swap cX6_swap 4 ((some .int)) ∈ jT := jT_mem 532 (by decide +kernel) rfl
theorem k533 : Cond.methodLink RX6 131 yX2_putLamp ∈ jT := jT_mem 533 (by decide +kernel) rfl
theorem k534 : Cond.methodLink RL 66 yX6_swapAll ∈ jT := jT_mem 534 (by decide +kernel) rfl
theorem k535 : Cond.instanceMethod yX6_swapAll ∈ jT := jT_mem 535 (by decide +kernel) rfl
theorem k536 : Cond.selects RX6 yX6_swapAll yX6_swapAll ∈ jT := jT_mem 536 (by decide +kernel) rfl
theorem k537 : Cond.code yX6_swapAll cX6_swapAll 2 ((some .int)) ∈ jT := jT_mem 537 (by decide +kernel) rfl
theorem k538 : Cond.methodLink RX6 134 yX0_putLamps ∈ jT := jT_mem 538 (by decide +kernel) rfl
theorem k539 : Cond.instanceMethod yX0_putLamps ∈ jT := jT_mem 539 (by decide +kernel) rfl
theorem k540 : Cond.selects RX0 yX0_putLamps yX0_putLamps ∈ jT := jT_mem 540 (by decide +kernel) rfl
theorem k541 : Cond.code yX0_putLamps cX0_putLamps 6 ((some .int)) ∈ jT := jT_mem 541 (by decide +kernel) rfl
theorem k542 : Cond.methodLink RX0 96 yX0_lampInPlaceOf ∈ jT := jT_mem 542 (by decide +kernel) rfl
theorem k543 : Cond.instanceMethod yX0_lampInPlaceOf ∈ jT := jT_mem 543 (by decide +kernel) rfl
theorem k544 : Cond.selects RX0 yX0_lampInPlaceOf yX0_lampInPlaceOf ∈ jT := jT_mem 544 (by decide +kernel) rfl
theorem k545 : Cond.code yX0_lampInPlaceOf cX0_lampInPlaceOf 3 ((some .int)) ∈ jT := jT_mem 545 (by decide +kernel) rfl
theorem k546 : Cond.methodLink RX0 106 yX0_stockOf ∈ jT := jT_mem 546 (by decide +kernel) rfl
theorem k547 : Cond.methodLink RX0 109 yX2_widthOf ∈ jT := jT_mem 547 (by decide +kernel) rfl
theorem k548 : Cond.methodLink RX0 99 yX2_putLamp ∈ jT := jT_mem 548 (by decide +kernel) rfl
theorem k549 : Cond.methodLink RX0 103 yX0_changeStock ∈ jT := jT_mem 549 (by decide +kernel) rfl
theorem k550 : Cond.methodLink RL 70 yX6_renew ∈ jT := jT_mem 550 (by decide +kernel) rfl
theorem k551 : Cond.instanceMethod yX6_renew ∈ jT := jT_mem 551 (by decide +kernel) rfl
theorem k552 : Cond.selects RX6 yX6_renew yX6_renew ∈ jT := jT_mem 552 (by decide +kernel) rfl
theorem k553 : Cond.code yX6_renew cX6_renew 4 ((some .int)) ∈ jT := jT_mem 553 (by decide +kernel) rfl
theorem k554 : Cond.methodLink RL 74 yX6_pass ∈ jT := jT_mem 554 (by decide +kernel) rfl
theorem k555 : Cond.instanceMethod yX6_pass ∈ jT := jT_mem 555 (by decide +kernel) rfl
theorem k556 : Cond.selects RX6 yX6_pass yX6_pass ∈ jT := jT_mem 556 (by decide +kernel) rfl
theorem k557 : Cond.code yX6_pass cX6_pass 2 ((some .int)) ∈ jT := jT_mem 557 (by decide +kernel) rfl
theorem k558 : Cond.constant RX6 146 (100000 : Int32) ∈ jT := jT_mem 558 (by decide +kernel) rfl
theorem k559 : Cond.methodLink RX6 147 yX0_letHoursPass ∈ jT := jT_mem 559 (by decide +kernel) rfl
theorem k560 : Cond.instanceMethod yX0_letHoursPass ∈ jT := jT_mem 560 (by decide +kernel) rfl
theorem k561 : Cond.selects RX0 yX0_letHoursPass yX0_letHoursPass ∈ jT := jT_mem 561 (by decide +kernel) rfl
theorem k562 : Cond.code yX0_letHoursPass cX0_letHoursPass 4 none ∈ jT := jT_mem 562 (by decide +kernel) rfl
theorem k563 : Cond.methodLink RX0 116 Lib.Math.min.name ∈ jT := jT_mem 563 (by decide +kernel) rfl
theorem k564 : Cond.methodLink RX0 122 yX0_letStretchPass ∈ jT := jT_mem 564 (by decide +kernel) rfl
theorem k565 : Cond.instanceMethod yX0_letStretchPass ∈ jT := jT_mem 565 (by decide +kernel) rfl
theorem k566 : Cond.selects RX0 yX0_letStretchPass yX0_letStretchPass ∈ jT := jT_mem 566 (by decide +kernel) rfl
theorem k567 : Cond.code yX0_letStretchPass cX0_letStretchPass 4 none ∈ jT := jT_mem 567 (by decide +kernel) rfl
theorem k568 : Cond.methodLink RX0 125 yX2_letHoursPass ∈ jT := jT_mem 568 (by decide +kernel) rfl
theorem k569 : Cond.instanceMethod yX2_letHoursPass ∈ jT := jT_mem 569 (by decide +kernel) rfl
theorem k570 : Cond.selects RX2 yX2_letHoursPass yX2_letHoursPass ∈ jT := jT_mem 570 (by decide +kernel) rfl
theorem k571 : Cond.code yX2_letHoursPass cX2_letHoursPass 2 none ∈ jT := jT_mem 571 (by decide +kernel) rfl
theorem k572 : Cond.methodLink RX2 76 Lib.Math.max.name ∈ jT := jT_mem 572 (by decide +kernel) rfl
theorem k573 : Cond.methodLink RX0 128 yX2_age ∈ jT := jT_mem 573 (by decide +kernel) rfl
theorem k574 : Cond.instanceMethod yX2_age ∈ jT := jT_mem 574 (by decide +kernel) rfl
theorem k575 : Cond.selects RX2 yX2_age yX2_age ∈ jT := jT_mem 575 (by decide +kernel) rfl
theorem k576 : Cond.code yX2_age cX2_age 2 none ∈ jT := jT_mem 576 (by decide +kernel) rfl
theorem k577 : Cond.methodLink RX6 150 yX0_countReady ∈ jT := jT_mem 577 (by decide +kernel) rfl
theorem k578 : Cond.instanceMethod yX0_countReady ∈ jT := jT_mem 578 (by decide +kernel) rfl
theorem k579 : Cond.selects RX0 yX0_countReady yX0_countReady ∈ jT := jT_mem 579 (by decide +kernel) rfl
theorem k580 : Cond.code yX0_countReady cX0_countReady 4 ((some .int)) ∈ jT := jT_mem 580 (by decide +kernel) rfl
theorem k581 : Cond.methodLink RX0 84 yX2_isReady ∈ jT := jT_mem 581 (by decide +kernel) rfl
theorem k582 : Cond.methodLink RL 78 yX6_test ∈ jT := jT_mem 582 (by decide +kernel) rfl
theorem k583 : Cond.instanceMethod yX6_test ∈ jT := jT_mem 583 (by decide +kernel) rfl
theorem k584 : Cond.selects RX6 yX6_test yX6_test ∈ jT := jT_mem 584 (by decide +kernel) rfl
theorem k585 : Cond.code yX6_test cX6_test 4 ((some .int)) ∈ jT := jT_mem 585 (by decide +kernel) rfl
theorem k586 : Cond.methodLink RX6 154 yX0_holds ∈ jT := jT_mem 586 (by decide +kernel) rfl
theorem k587 : Cond.instanceMethod yX0_holds ∈ jT := jT_mem 587 (by decide +kernel) rfl
theorem k588 : Cond.selects RX0 yX0_holds yX0_holds ∈ jT := jT_mem 588 (by decide +kernel) rfl
theorem k589 : Cond.code yX0_holds cX0_holds 2 ((some .boolean)) ∈ jT := jT_mem 589 (by decide +kernel) rfl
theorem k590 : Cond.methodLink RX6 157 yX6_allowed ∈ jT := jT_mem 590 (by decide +kernel) rfl
theorem k591 : Cond.instanceMethod yX6_allowed ∈ jT := jT_mem 591 (by decide +kernel) rfl
theorem k592 : Cond.selects RX6 yX6_allowed yX6_allowed ∈ jT := jT_mem 592 (by decide +kernel) rfl
theorem k593 : Cond.code yX6_allowed cX6_allowed 5 ((some .int)) ∈ jT := jT_mem 593 (by decide +kernel) rfl
theorem k594 : Cond.methodLink RX6 198 yX4_look ∈ jT := jT_mem 594 (by decide +kernel) rfl
theorem k595 : Cond.methodLink RX6 175 yX0_firstPlace ∈ jT := jT_mem 595 (by decide +kernel) rfl
theorem k596 : Cond.methodLink RX6 178 yX0_lastPlace ∈ jT := jT_mem 596 (by decide +kernel) rfl
theorem k597 : Cond.methodLink RX6 201 yX4_dark ∈ jT := jT_mem 597 (by decide +kernel) rfl
theorem k598 : Cond.methodLink RX6 163 yX0_burn ∈ jT := jT_mem 598 (by decide +kernel) rfl
theorem k599 : Cond.instanceMethod yX0_burn ∈ jT := jT_mem 599 (by decide +kernel) rfl
theorem k600 : Cond.selects RX0 yX0_burn yX0_burn ∈ jT := jT_mem 600 (by decide +kernel) rfl
theorem k601 : Cond.code yX0_burn cX0_burn 4 none ∈ jT := jT_mem 601 (by decide +kernel) rfl
theorem k602 : Cond.methodLink RX0 112 yX2_burn ∈ jT := jT_mem 602 (by decide +kernel) rfl
theorem k603 : Cond.instanceMethod yX2_burn ∈ jT := jT_mem 603 (by decide +kernel) rfl
theorem k604 : Cond.selects RX2 yX2_burn yX2_burn ∈ jT := jT_mem 604 (by decide +kernel) rfl
theorem k605 : Cond.code yX2_burn cX2_burn 2 ((some .boolean)) ∈ jT := jT_mem 605 (by decide +kernel) rfl
theorem k606 : Cond.methodLink RX2 79 yX2_wear ∈ jT := jT_mem 606 (by decide +kernel) rfl
theorem k607 : Cond.instanceMethod yX2_wear ∈ jT := jT_mem 607 (by decide +kernel) rfl
theorem k608 : Cond.selects RX2 yX2_wear yX2_wear ∈ jT := jT_mem 608 (by decide +kernel) rfl
theorem k609 : Cond.code yX2_wear cX2_wear 1 ((some .int)) ∈ jT := jT_mem 609 (by decide +kernel) rfl
theorem k610 : Cond.methodLink RX2 82 yX2_age ∈ jT := jT_mem 610 (by decide +kernel) rfl
theorem k611 : Cond.methodLink RL 82 yX6_carryOut ∈ jT := jT_mem 611 (by decide +kernel) rfl
theorem k612 : Cond.instanceMethod yX6_carryOut ∈ jT := jT_mem 612 (by decide +kernel) rfl
theorem k613 : Cond.selects RX6 yX6_carryOut yX6_carryOut ∈ jT := jT_mem 613 (by decide +kernel) rfl
theorem k614 : Cond.code yX6_carryOut cX6_carryOut 4 ((some .int)) ∈ jT := jT_mem 614 (by decide +kernel) rfl
theorem k615 : Cond.methodLink RX6 172 yX3_setOn ∈ jT := jT_mem 615 (by decide +kernel) rfl
theorem k616 : Cond.methodLink RL 86 yX6_routeAt ∈ jT := jT_mem 616 (by decide +kernel) rfl
theorem k617 : Cond.instanceMethod yX6_routeAt ∈ jT := jT_mem 617 (by decide +kernel) rfl
theorem k618 : Cond.selects RX6 yX6_routeAt yX6_routeAt ∈ jT := jT_mem 618 (by decide +kernel) rfl
theorem k619 : Cond.code yX6_routeAt cX6_routeAt 3 ((some .int)) ∈ jT := jT_mem 619 (by decide +kernel) rfl
theorem k620 : Cond.methodLink RX6 181 yX6_darkPlaces ∈ jT := jT_mem 620 (by decide +kernel) rfl
theorem k622 : Cond.instanceMethod yX6_darkPlaces ∈ jT := jT_mem 622 (by decide +kernel) rfl
theorem k623 : Cond.code yX6_darkPlaces cX6_darkPlaces 2 ((some .int)) ∈ jT := jT_mem 623 (by decide +kernel) rfl
theorem k624 : Cond.methodLink RX6 184 yX4_minutes ∈ jT := jT_mem 624 (by decide +kernel) rfl
theorem k625 : Cond.instanceMethod yX4_minutes ∈ jT := jT_mem 625 (by decide +kernel) rfl
theorem k626 : Cond.selects RX4 yX4_minutes yX4_minutes ∈ jT := jT_mem 626 (by decide +kernel) rfl
theorem k627 : Cond.code yX4_minutes cX4_minutes 8 ((some .int)) ∈ jT := jT_mem 627 (by decide +kernel) rfl
theorem k628 : Cond.methodLink RX4 56 yX0_firstPlace ∈ jT := jT_mem 628 (by decide +kernel) rfl
theorem k629 : Cond.methodLink RX4 59 yX0_lastPlace ∈ jT := jT_mem 629 (by decide +kernel) rfl
theorem k630 : Cond.methodLink RX4 62 yX4_lengthen ∈ jT := jT_mem 630 (by decide +kernel) rfl
theorem k631 : Cond.instanceMethod yX4_lengthen ∈ jT := jT_mem 631 (by decide +kernel) rfl
theorem k632 : Cond.selects RX4 yX4_lengthen yX4_lengthen ∈ jT := jT_mem 632 (by decide +kernel) rfl
theorem k633 : Cond.code yX4_lengthen cX4_lengthen 8 none ∈ jT := jT_mem 633 (by decide +kernel) rfl
theorem k634 : Cond.methodLinkNest RX4 66 yX6_isPlace RX6 ∈ jNw := List.mem_filter.mpr ⟨List.mem_of_getElem? (i := 634) (by decide +kernel), rfl⟩
theorem k635 : Cond.methodLink RX6 188 yX6_worstCircuit ∈ jT := jT_mem 635 (by decide +kernel) rfl
theorem k637 : Cond.instanceMethod yX6_worstCircuit ∈ jT := jT_mem 637 (by decide +kernel) rfl
theorem k638 : Cond.code yX6_worstCircuit cX6_worstCircuit 6 ((some .int)) ∈ jT := jT_mem 638 (by decide +kernel) rfl
theorem k639 : Cond.methodLink RX6 191 yX0_withoutCircuit ∈ jT := jT_mem 639 (by decide +kernel) rfl
theorem k640 : Cond.instanceMethod yX0_withoutCircuit ∈ jT := jT_mem 640 (by decide +kernel) rfl
theorem k641 : Cond.selects RX0 yX0_withoutCircuit yX0_withoutCircuit ∈ jT := jT_mem 641 (by decide +kernel) rfl
theorem k642 : Cond.code yX0_withoutCircuit cX0_withoutCircuit 5 ((some .int)) ∈ jT := jT_mem 642 (by decide +kernel) rfl
theorem k643 : Cond.methodLink RL 90 yX6_lasts ∈ jT := jT_mem 643 (by decide +kernel) rfl
theorem k644 : Cond.instanceMethod yX6_lasts ∈ jT := jT_mem 644 (by decide +kernel) rfl
theorem k645 : Cond.selects RX6 yX6_lasts yX6_lasts ∈ jT := jT_mem 645 (by decide +kernel) rfl
theorem k646 : Cond.code yX6_lasts cX6_lasts 3 ((some .int)) ∈ jT := jT_mem 646 (by decide +kernel) rfl
theorem k647 : Cond.methodLink RL 94 yX6_reaching ∈ jT := jT_mem 647 (by decide +kernel) rfl
theorem k648 : Cond.instanceMethod yX6_reaching ∈ jT := jT_mem 648 (by decide +kernel) rfl
theorem k649 : Cond.selects RX6 yX6_reaching yX6_reaching ∈ jT := jT_mem 649 (by decide +kernel) rfl
theorem k650 : Cond.code yX6_reaching cX6_reaching 3 ((some .int)) ∈ jT := jT_mem 650 (by decide +kernel) rfl
theorem k651 : Cond.methodLink RX6 194 yX0_countReaching ∈ jT := jT_mem 651 (by decide +kernel) rfl
theorem k652 : Cond.instanceMethod yX0_countReaching ∈ jT := jT_mem 652 (by decide +kernel) rfl
theorem k653 : Cond.selects RX0 yX0_countReaching yX0_countReaching ∈ jT := jT_mem 653 (by decide +kernel) rfl
theorem k654 : Cond.code yX0_countReaching cX0_countReaching 6 ((some .int)) ∈ jT := jT_mem 654 (by decide +kernel) rfl
theorem k655 : Cond.methodLink RX0 90 yX2_reaches ∈ jT := jT_mem 655 (by decide +kernel) rfl
theorem k656 : Cond.instanceMethod yX2_reaches ∈ jT := jT_mem 656 (by decide +kernel) rfl
theorem k657 : Cond.selects RX2 yX2_reaches yX2_reaches ∈ jT := jT_mem 657 (by decide +kernel) rfl
theorem k658 : Cond.code yX2_reaches cX2_reaches 2 ((some .boolean)) ∈ jT := jT_mem 658 (by decide +kernel) rfl
theorem k659 : Cond.methodLink RX2 70 Lib.Math.abs.name ∈ jT := jT_mem 659 (by decide +kernel) rfl
theorem k660 : Cond.static Lib.Math.abs.name ∈ jT := jT_mem 660 (by decide +kernel) rfl
theorem k661 : Cond.code Lib.Math.abs.name Lib.Math.abs.code 1 ((some .int)) ∈ jT := jT_mem 661 (by decide +kernel) rfl
theorem k662 : Cond.methodLink RX2 73 yX2_width ∈ jT := jT_mem 662 (by decide +kernel) rfl
theorem k663 : Cond.methodLink RL 98 yX6_allowed ∈ jT := jT_mem 663 (by decide +kernel) rfl
theorem k664 : Cond.methodLink RL 102 yX6_days ∈ jT := jT_mem 664 (by decide +kernel) rfl
theorem k665 : Cond.instanceMethod yX6_days ∈ jT := jT_mem 665 (by decide +kernel) rfl
theorem k666 : Cond.selects RX6 yX6_days yX6_days ∈ jT := jT_mem 666 (by decide +kernel) rfl
theorem k667 : Cond.code yX6_days cX6_days 1 ((some .int)) ∈ jT := jT_mem 667 (by decide +kernel) rfl
theorem k668 : Cond.methodLink RL 106 yX6_day ∈ jT := jT_mem 668 (by decide +kernel) rfl
theorem k669 : Cond.instanceMethod yX6_day ∈ jT := jT_mem 669 (by decide +kernel) rfl
theorem k670 : Cond.selects RX6 yX6_day yX6_day ∈ jT := jT_mem 670 (by decide +kernel) rfl
theorem k671 : Cond.code yX6_day cX6_day 2 ((some .int)) ∈ jT := jT_mem 671 (by decide +kernel) rfl
theorem k672 : Cond.methodLink RL 110 yX6_ifLamp ∈ jT := jT_mem 672 (by decide +kernel) rfl
theorem k673 : Cond.instanceMethod yX6_ifLamp ∈ jT := jT_mem 673 (by decide +kernel) rfl
theorem k674 : Cond.selects RX6 yX6_ifLamp yX6_ifLamp ∈ jT := jT_mem 674 (by decide +kernel) rfl
theorem k675 : Cond.code yX6_ifLamp cX6_ifLamp 3 ((some .int)) ∈ jT := jT_mem 675 (by decide +kernel) rfl
theorem k676 : Cond.methodLink RX6 205 yX6_daysWithLamp ∈ jT := jT_mem 676 (by decide +kernel) rfl
theorem k678 : Cond.instanceMethod yX6_daysWithLamp ∈ jT := jT_mem 678 (by decide +kernel) rfl
theorem k679 : Cond.code yX6_daysWithLamp cX6_daysWithLamp 4 ((some .int)) ∈ jT := jT_mem 679 (by decide +kernel) rfl
theorem k680 : Cond.methodLink RX6 248 yX0_copyFrom ∈ jT := jT_mem 680 (by decide +kernel) rfl
theorem k681 : Cond.methodLink RX6 251 yX3_fewestDays ∈ jT := jT_mem 681 (by decide +kernel) rfl
theorem k682 : Cond.methodLink RL 114 yX6_bestSwap ∈ jT := jT_mem 682 (by decide +kernel) rfl
theorem k683 : Cond.instanceMethod yX6_bestSwap ∈ jT := jT_mem 683 (by decide +kernel) rfl
theorem k684 : Cond.selects RX6 yX6_bestSwap yX6_bestSwap ∈ jT := jT_mem 684 (by decide +kernel) rfl
theorem k685 : Cond.code yX6_bestSwap cX6_bestSwap 7 ((some .int)) ∈ jT := jT_mem 685 (by decide +kernel) rfl
theorem k686 : Cond.methodLink RL 118 yX6_told ∈ jT := jT_mem 686 (by decide +kernel) rfl
theorem k687 : Cond.instanceMethod yX6_told ∈ jT := jT_mem 687 (by decide +kernel) rfl
theorem k688 : Cond.selects RX6 yX6_told yX6_told ∈ jT := jT_mem 688 (by decide +kernel) rfl
theorem k689 : Cond.code yX6_told cX6_told 2 ((some .int)) ∈ jT := jT_mem 689 (by decide +kernel) rfl
theorem k690 : Cond.methodLink RX6 208 yX6_countSafe ∈ jT := jT_mem 690 (by decide +kernel) rfl
theorem k692 : Cond.instanceMethod yX6_countSafe ∈ jT := jT_mem 692 (by decide +kernel) rfl
theorem k693 : Cond.code yX6_countSafe cX6_countSafe 3 ((some .int)) ∈ jT := jT_mem 693 (by decide +kernel) rfl
theorem k694 : Cond.methodLink RX6 211 yX0_countBurntOut ∈ jT := jT_mem 694 (by decide +kernel) rfl
theorem k695 : Cond.instanceMethod yX0_countBurntOut ∈ jT := jT_mem 695 (by decide +kernel) rfl
theorem k696 : Cond.selects RX0 yX0_countBurntOut yX0_countBurntOut ∈ jT := jT_mem 696 (by decide +kernel) rfl
theorem k697 : Cond.code yX0_countBurntOut cX0_countBurntOut 4 ((some .int)) ∈ jT := jT_mem 697 (by decide +kernel) rfl
theorem k698 : Cond.methodLink RL 122 yX6_undo ∈ jT := jT_mem 698 (by decide +kernel) rfl
theorem k699 : Cond.instanceMethod yX6_undo ∈ jT := jT_mem 699 (by decide +kernel) rfl
theorem k700 : Cond.selects RX6 yX6_undo yX6_undo ∈ jT := jT_mem 700 (by decide +kernel) rfl
theorem k701 : Cond.code yX6_undo cX6_undo 1 ((some .int)) ∈ jT := jT_mem 701 (by decide +kernel) rfl
theorem k702 : Cond.methodLink RX6 217 yX1_restore ∈ jT := jT_mem 702 (by decide +kernel) rfl
theorem k703 : Cond.instanceMethod yX1_restore ∈ jT := jT_mem 703 (by decide +kernel) rfl
theorem k704 : Cond.selects RX1 yX1_restore yX1_restore ∈ jT := jT_mem 704 (by decide +kernel) rfl
theorem k705 : Cond.code yX1_restore cX1_restore 2 none ∈ jT := jT_mem 705 (by decide +kernel) rfl
theorem k706 : Cond.methodLink RL 126 yX6_digest ∈ jT := jT_mem 706 (by decide +kernel) rfl
theorem k707 : Cond.instanceMethod yX6_digest ∈ jT := jT_mem 707 (by decide +kernel) rfl
theorem k708 : Cond.selects RX6 yX6_digest yX6_digest ∈ jT := jT_mem 708 (by decide +kernel) rfl
theorem k709 : Cond.code yX6_digest cX6_digest 5 ((some .long)) ∈ jT := jT_mem 709 (by decide +kernel) rfl
theorem k710 : Cond.constantLong RX6 223 (18752 : Int64) ∈ jT := jT_mem 710 (by decide +kernel) rfl
theorem k711 : Cond.constantLong RX6 225 (31 : Int64) ∈ jT := jT_mem 711 (by decide +kernel) rfl
theorem k712 : Cond.methodLink RX6 227 yX6_told ∈ jT := jT_mem 712 (by decide +kernel) rfl
theorem k713 : Cond.methodLink RX6 230 yX6_light ∈ jT := jT_mem 713 (by decide +kernel) rfl
theorem k714 : Cond.methodLink RX6 233 yX6_routeAt ∈ jT := jT_mem 714 (by decide +kernel) rfl
theorem k715 : Cond.methodLink RX6 236 yX6_days ∈ jT := jT_mem 715 (by decide +kernel) rfl
theorem k716 : Cond.methodLink RX6 239 yX6_day ∈ jT := jT_mem 716 (by decide +kernel) rfl
theorem k717 : Cond.methodLink RX6 242 yX6_reaching ∈ jT := jT_mem 717 (by decide +kernel) rfl
theorem k718 : Cond.classLink RL 10 RX7 ∈ jT := jT_mem 718 (by decide +kernel) rfl
theorem k719 : Cond.instantiable RX7 16 ∈ jT := jT_mem 719 (by decide +kernel) rfl
theorem k720 : Cond.methodLink RL 12 yX7_init ∈ jT := jT_mem 720 (by decide +kernel) rfl
theorem k721 : Cond.instanceMethod yX7_init ∈ jT := jT_mem 721 (by decide +kernel) rfl
theorem k722 : Cond.code yX7_init cX7_init 1 none ∈ jT := jT_mem 722 (by decide +kernel) rfl
theorem k723 : Cond.methodLink RX7 1 Lib.objectInit ∈ jT := jT_mem 723 (by decide +kernel) rfl
theorem k724 : Cond.fieldLink RX7 7 (TX7 0).1 (TX7 0).2.1 (TX7 0).2.2.1 ∈ jT := jT_mem 724 (by decide +kernel) rfl
theorem k725 : Cond.fieldLink RX7 41 (TX7 1).1 (TX7 1).2.1 (TX7 1).2.2.1 ∈ jT := jT_mem 725 (by decide +kernel) rfl
theorem k726 : Cond.fieldLink RX7 13 (TX7 2).1 (TX7 2).2.1 (TX7 2).2.2.1 ∈ jT := jT_mem 726 (by decide +kernel) rfl
theorem k727 : Cond.fieldLink RX7 100 (TX7 3).1 (TX7 3).2.1 (TX7 3).2.2.1 ∈ jT := jT_mem 727 (by decide +kernel) rfl
theorem k728 : Cond.fieldLink RX7 103 (TX7 4).1 (TX7 4).2.1 (TX7 4).2.2.1 ∈ jT := jT_mem 728 (by decide +kernel) rfl
theorem k729 : Cond.fieldLink RX7 109 (TX7 5).1 (TX7 5).2.1 (TX7 5).2.2.1 ∈ jT := jT_mem 729 (by decide +kernel) rfl
theorem k730 : Cond.fieldLink RX7 16 (TX7 6).1 (TX7 6).2.1 (TX7 6).2.2.1 ∈ jT := jT_mem 730 (by decide +kernel) rfl
theorem k731 : Cond.fieldLink RX7 19 (TX7 7).1 (TX7 7).2.1 (TX7 7).2.2.1 ∈ jT := jT_mem 731 (by decide +kernel) rfl
theorem k732 : Cond.fieldLink RX7 116 (TX7 8).1 (TX7 8).2.1 (TX7 8).2.2.1 ∈ jT := jT_mem 732 (by decide +kernel) rfl
theorem k733 : Cond.fieldLink RX7 125 (TX7 9).1 (TX7 9).2.1 (TX7 9).2.2.1 ∈ jT := jT_mem 733 (by decide +kernel) rfl
theorem k734 : Cond.fieldLink RX7 22 (TX7 10).1 (TX7 10).2.1 (TX7 10).2.2.1 ∈ jT := jT_mem 734 (by decide +kernel) rfl
theorem k735 : Cond.fieldLink RX7 25 (TX7 11).1 (TX7 11).2.1 (TX7 11).2.2.1 ∈ jT := jT_mem 735 (by decide +kernel) rfl
theorem k736 : Cond.fieldLink RX7 29 (TX7 12).1 (TX7 12).2.1 (TX7 12).2.2.1 ∈ jT := jT_mem 736 (by decide +kernel) rfl
theorem k737 : Cond.fieldLink RX7 32 (TX7 13).1 (TX7 13).2.1 (TX7 13).2.2.1 ∈ jT := jT_mem 737 (by decide +kernel) rfl
theorem k738 : Cond.fieldLink RX7 35 (TX7 14).1 (TX7 14).2.1 (TX7 14).2.2.1 ∈ jT := jT_mem 738 (by decide +kernel) rfl
theorem k739 : Cond.fieldLink RX7 38 (TX7 15).1 (TX7 15).2.1 (TX7 15).2.2.1 ∈ jT := jT_mem 739 (by decide +kernel) rfl
theorem k773 : Cond.arrayClass .boolean ∈ jT := jT_mem 773 (by decide +kernel) rfl
theorem k774 : Cond.methodLink RL 31 yX7_add ∈ jT := jT_mem 774 (by decide +kernel) rfl
theorem k775 : Cond.instanceMethod yX7_add ∈ jT := jT_mem 775 (by decide +kernel) rfl
theorem k776 : Cond.selects RX7 yX7_add yX7_add ∈ jT := jT_mem 776 (by decide +kernel) rfl
theorem k777 : Cond.code yX7_add cX7_add 5 ((some .int)) ∈ jT := jT_mem 777 (by decide +kernel) rfl
theorem k778 : Cond.methodLink RX7 80 yX7_isPlace ∈ jT := jT_mem 778 (by decide +kernel) rfl
theorem k779 : Cond.static yX7_isPlace ∈ jT := jT_mem 779 (by decide +kernel) rfl
theorem k780 : Cond.code yX7_isPlace cX7_isPlace 1 ((some .boolean)) ∈ jT := jT_mem 780 (by decide +kernel) rfl
theorem k781 : Cond.methodLink RX7 53 yX7_in ∈ jT := jT_mem 781 (by decide +kernel) rfl
theorem k782 : Cond.static yX7_in ∈ jT := jT_mem 782 (by decide +kernel) rfl
theorem k783 : Cond.code yX7_in cX7_in 3 ((some .boolean)) ∈ jT := jT_mem 783 (by decide +kernel) rfl
theorem k784 : Cond.methodLink RX7 84 yX7_isLamp ∈ jT := jT_mem 784 (by decide +kernel) rfl
theorem k785 : Cond.static yX7_isLamp ∈ jT := jT_mem 785 (by decide +kernel) rfl
theorem k786 : Cond.code yX7_isLamp cX7_isLamp 1 ((some .boolean)) ∈ jT := jT_mem 786 (by decide +kernel) rfl
theorem k787 : Cond.methodLink RX7 49 yX7_lights ∈ jT := jT_mem 787 (by decide +kernel) rfl
theorem k789 : Cond.instanceMethod yX7_lights ∈ jT := jT_mem 789 (by decide +kernel) rfl
theorem k790 : Cond.code yX7_lights cX7_lights 1 ((some .int)) ∈ jT := jT_mem 790 (by decide +kernel) rfl
theorem k791 : Cond.methodLink RX7 87 yX7_records ∈ jT := jT_mem 791 (by decide +kernel) rfl
theorem k793 : Cond.instanceMethod yX7_records ∈ jT := jT_mem 793 (by decide +kernel) rfl
theorem k794 : Cond.code yX7_records cX7_records 2 none ∈ jT := jT_mem 794 (by decide +kernel) rfl
theorem k795 : Cond.methodLink RX7 90 yX7_lays ∈ jT := jT_mem 795 (by decide +kernel) rfl
theorem k797 : Cond.instanceMethod yX7_lays ∈ jT := jT_mem 797 (by decide +kernel) rfl
theorem k798 : Cond.code yX7_lays cX7_lays 7 none ∈ jT := jT_mem 798 (by decide +kernel) rfl
theorem k799 : Cond.methodLink RX7 45 yX7_at ∈ jT := jT_mem 799 (by decide +kernel) rfl
theorem k801 : Cond.instanceMethod yX7_at ∈ jT := jT_mem 801 (by decide +kernel) rfl
theorem k802 : Cond.code yX7_at cX7_at 3 ((some .int)) ∈ jT := jT_mem 802 (by decide +kernel) rfl
theorem k803 : Cond.methodLink RX7 73 yX7_capacityOf ∈ jT := jT_mem 803 (by decide +kernel) rfl
theorem k805 : Cond.instanceMethod yX7_capacityOf ∈ jT := jT_mem 805 (by decide +kernel) rfl
theorem k806 : Cond.code yX7_capacityOf cX7_capacityOf 2 ((some .int)) ∈ jT := jT_mem 806 (by decide +kernel) rfl
theorem k807 : Cond.methodLink RX7 60 yX7_ratedOf ∈ jT := jT_mem 807 (by decide +kernel) rfl
theorem k809 : Cond.instanceMethod yX7_ratedOf ∈ jT := jT_mem 809 (by decide +kernel) rfl
theorem k810 : Cond.code yX7_ratedOf cX7_ratedOf 3 ((some .int)) ∈ jT := jT_mem 810 (by decide +kernel) rfl
theorem k811 : Cond.methodLink RX7 57 yX7_of ∈ jT := jT_mem 811 (by decide +kernel) rfl
theorem k813 : Cond.instanceMethod yX7_of ∈ jT := jT_mem 813 (by decide +kernel) rfl
theorem k814 : Cond.code yX7_of cX7_of 3 ((some .int)) ∈ jT := jT_mem 814 (by decide +kernel) rfl
theorem k815 : Cond.methodLink RL 35 yX7_drop ∈ jT := jT_mem 815 (by decide +kernel) rfl
theorem k816 : Cond.instanceMethod yX7_drop ∈ jT := jT_mem 816 (by decide +kernel) rfl
theorem k817 : Cond.selects RX7 yX7_drop yX7_drop ∈ jT := jT_mem 817 (by decide +kernel) rfl
theorem k818 : Cond.code yX7_drop cX7_drop 3 ((some .int)) ∈ jT := jT_mem 818 (by decide +kernel) rfl
theorem k819 : Cond.methodLink RX7 94 yX7_isLight ∈ jT := jT_mem 819 (by decide +kernel) rfl
theorem k821 : Cond.instanceMethod yX7_isLight ∈ jT := jT_mem 821 (by decide +kernel) rfl
theorem k822 : Cond.code yX7_isLight cX7_isLight 2 ((some .boolean)) ∈ jT := jT_mem 822 (by decide +kernel) rfl
theorem k823 : Cond.methodLink RL 40 yX7_maintain ∈ jT := jT_mem 823 (by decide +kernel) rfl
theorem k824 : Cond.instanceMethod yX7_maintain ∈ jT := jT_mem 824 (by decide +kernel) rfl
theorem k825 : Cond.selects RX7 yX7_maintain yX7_maintain ∈ jT := jT_mem 825 (by decide +kernel) rfl
theorem k826 : Cond.code yX7_maintain cX7_maintain 4 ((some .int)) ∈ jT := jT_mem 826 (by decide +kernel) rfl
theorem k827 : Cond.methodLink RL 45 yX7_route ∈ jT := jT_mem 827 (by decide +kernel) rfl
theorem k828 : Cond.instanceMethod yX7_route ∈ jT := jT_mem 828 (by decide +kernel) rfl
theorem k829 : Cond.selects RX7 yX7_route yX7_route ∈ jT := jT_mem 829 (by decide +kernel) rfl
theorem k830 : Cond.code yX7_route cX7_route 3 ((some .int)) ∈ jT := jT_mem 830 (by decide +kernel) rfl
theorem k831 : Cond.methodLink RL 49 yX7_dropRoute ∈ jT := jT_mem 831 (by decide +kernel) rfl
theorem k832 : Cond.instanceMethod yX7_dropRoute ∈ jT := jT_mem 832 (by decide +kernel) rfl
theorem k833 : Cond.selects RX7 yX7_dropRoute yX7_dropRoute ∈ jT := jT_mem 833 (by decide +kernel) rfl
theorem k834 : Cond.code yX7_dropRoute cX7_dropRoute 3 ((some .int)) ∈ jT := jT_mem 834 (by decide +kernel) rfl
theorem k835 : Cond.methodLink RX7 97 yX7_isRoute ∈ jT := jT_mem 835 (by decide +kernel) rfl
theorem k837 : Cond.instanceMethod yX7_isRoute ∈ jT := jT_mem 837 (by decide +kernel) rfl
theorem k838 : Cond.code yX7_isRoute cX7_isRoute 2 ((some .boolean)) ∈ jT := jT_mem 838 (by decide +kernel) rfl
theorem k839 : Cond.methodLink RL 53 yX7_setNeed ∈ jT := jT_mem 839 (by decide +kernel) rfl
theorem k840 : Cond.instanceMethod yX7_setNeed ∈ jT := jT_mem 840 (by decide +kernel) rfl
theorem k841 : Cond.selects RX7 yX7_setNeed yX7_setNeed ∈ jT := jT_mem 841 (by decide +kernel) rfl
theorem k842 : Cond.code yX7_setNeed cX7_setNeed 3 ((some .int)) ∈ jT := jT_mem 842 (by decide +kernel) rfl
theorem k843 : Cond.methodLink RL 57 yX7_setStock ∈ jT := jT_mem 843 (by decide +kernel) rfl
theorem k844 : Cond.instanceMethod yX7_setStock ∈ jT := jT_mem 844 (by decide +kernel) rfl
theorem k845 : Cond.selects RX7 yX7_setStock yX7_setStock ∈ jT := jT_mem 845 (by decide +kernel) rfl
theorem k846 : Cond.code yX7_setStock cX7_setStock 4 ((some .int)) ∈ jT := jT_mem 846 (by decide +kernel) rfl
theorem k847 : Cond.methodLink RL 17 yX7_type ∈ jT := jT_mem 847 (by decide +kernel) rfl
theorem k848 : Cond.instanceMethod yX7_type ∈ jT := jT_mem 848 (by decide +kernel) rfl
theorem k849 : Cond.selects RX7 yX7_type yX7_type ∈ jT := jT_mem 849 (by decide +kernel) rfl
theorem k850 : Cond.code yX7_type cX7_type 2 ((some .int)) ∈ jT := jT_mem 850 (by decide +kernel) rfl
theorem k851 : Cond.methodLink RL 22 yX7_clear ∈ jT := jT_mem 851 (by decide +kernel) rfl
theorem k852 : Cond.instanceMethod yX7_clear ∈ jT := jT_mem 852 (by decide +kernel) rfl
theorem k853 : Cond.selects RX7 yX7_clear yX7_clear ∈ jT := jT_mem 853 (by decide +kernel) rfl
theorem k854 : Cond.code yX7_clear cX7_clear 2 ((some .int)) ∈ jT := jT_mem 854 (by decide +kernel) rfl
theorem k855 : Cond.methodLink RL 26 yX7_load ∈ jT := jT_mem 855 (by decide +kernel) rfl
theorem k856 : Cond.instanceMethod yX7_load ∈ jT := jT_mem 856 (by decide +kernel) rfl
theorem k857 : Cond.selects RX7 yX7_load yX7_load ∈ jT := jT_mem 857 (by decide +kernel) rfl
theorem k858 : Cond.code yX7_load cX7_load 3 ((some .int)) ∈ jT := jT_mem 858 (by decide +kernel) rfl
theorem k859 : Cond.methodLink RX7 106 yX7_here ∈ jT := jT_mem 859 (by decide +kernel) rfl
theorem k861 : Cond.instanceMethod yX7_here ∈ jT := jT_mem 861 (by decide +kernel) rfl
theorem k862 : Cond.code yX7_here cX7_here 1 ((some .int)) ∈ jT := jT_mem 862 (by decide +kernel) rfl
theorem k863 : Cond.methodLink RX7 128 yX7_readsLight ∈ jT := jT_mem 863 (by decide +kernel) rfl
theorem k865 : Cond.instanceMethod yX7_readsLight ∈ jT := jT_mem 865 (by decide +kernel) rfl
theorem k866 : Cond.code yX7_readsLight cX7_readsLight 2 ((some .boolean)) ∈ jT := jT_mem 866 (by decide +kernel) rfl
theorem k867 : Cond.methodLink RX7 119 yX7_readsNumber ∈ jT := jT_mem 867 (by decide +kernel) rfl
theorem k869 : Cond.instanceMethod yX7_readsNumber ∈ jT := jT_mem 869 (by decide +kernel) rfl
theorem k870 : Cond.code yX7_readsNumber cX7_readsNumber 6 ((some .boolean)) ∈ jT := jT_mem 870 (by decide +kernel) rfl
theorem k871 : Cond.methodLink RX7 112 yX7_isFigure ∈ jT := jT_mem 871 (by decide +kernel) rfl
theorem k873 : Cond.instanceMethod yX7_isFigure ∈ jT := jT_mem 873 (by decide +kernel) rfl
theorem k874 : Cond.code yX7_isFigure cX7_isFigure 1 ((some .boolean)) ∈ jT := jT_mem 874 (by decide +kernel) rfl
theorem k875 : Cond.methodLink RX7 122 yX7_takes ∈ jT := jT_mem 875 (by decide +kernel) rfl
theorem k877 : Cond.instanceMethod yX7_takes ∈ jT := jT_mem 877 (by decide +kernel) rfl
theorem k878 : Cond.code yX7_takes cX7_takes 3 ((some .boolean)) ∈ jT := jT_mem 878 (by decide +kernel) rfl
theorem k879 : Cond.methodLink RX7 131 yX7_readsRoute ∈ jT := jT_mem 879 (by decide +kernel) rfl
theorem k881 : Cond.instanceMethod yX7_readsRoute ∈ jT := jT_mem 881 (by decide +kernel) rfl
theorem k882 : Cond.code yX7_readsRoute cX7_readsRoute 2 ((some .boolean)) ∈ jT := jT_mem 882 (by decide +kernel) rfl
theorem k883 : Cond.methodLink RL 65 yX7_swap ∈ jT := jT_mem 883 (by decide +kernel) rfl
theorem k884 : Cond.instanceMethod yX7_swap ∈ jT := jT_mem 884 (by decide +kernel) rfl
theorem k885 : Cond.selects RX7 yX7_swap yX7_swap ∈ jT := jT_mem 885 (by decide +kernel) rfl
theorem k886 : Cond.code yX7_swap cX7_swap 3 ((some .int)) ∈ jT := jT_mem 886 (by decide +kernel) rfl
theorem k887 : Cond.methodLink RX7 134 yX7_puts ∈ jT := jT_mem 887 (by decide +kernel) rfl
theorem k889 : Cond.instanceMethod yX7_puts ∈ jT := jT_mem 889 (by decide +kernel) rfl
theorem k890 : Cond.code yX7_puts cX7_puts 3 none ∈ jT := jT_mem 890 (by decide +kernel) rfl
theorem k891 : Cond.methodLink RL 69 yX7_swapAll ∈ jT := jT_mem 891 (by decide +kernel) rfl
theorem k892 : Cond.instanceMethod yX7_swapAll ∈ jT := jT_mem 892 (by decide +kernel) rfl
theorem k893 : Cond.selects RX7 yX7_swapAll yX7_swapAll ∈ jT := jT_mem 893 (by decide +kernel) rfl
theorem k894 : Cond.code yX7_swapAll cX7_swapAll 5 ((some .int)) ∈ jT := jT_mem 894 (by decide +kernel) rfl
theorem k895 : Cond.methodLink RX7 64 yX7_restOf ∈ jT := jT_mem 895 (by decide +kernel) rfl
theorem k897 : Cond.instanceMethod yX7_restOf ∈ jT := jT_mem 897 (by decide +kernel) rfl
theorem k898 : Cond.code yX7_restOf cX7_restOf 3 ((some .int)) ∈ jT := jT_mem 898 (by decide +kernel) rfl
theorem k899 : Cond.methodLink RX7 138 yX7_instead ∈ jT := jT_mem 899 (by decide +kernel) rfl
theorem k901 : Cond.instanceMethod yX7_instead ∈ jT := jT_mem 901 (by decide +kernel) rfl
theorem k902 : Cond.code yX7_instead cX7_instead 3 ((some .int)) ∈ jT := jT_mem 902 (by decide +kernel) rfl
theorem k903 : Cond.methodLink RX7 70 yX7_reachOf ∈ jT := jT_mem 903 (by decide +kernel) rfl
theorem k904 : Cond.static yX7_reachOf ∈ jT := jT_mem 904 (by decide +kernel) rfl
theorem k905 : Cond.code yX7_reachOf cX7_reachOf 1 ((some .int)) ∈ jT := jT_mem 905 (by decide +kernel) rfl
theorem k906 : Cond.methodLink RL 73 yX7_renew ∈ jT := jT_mem 906 (by decide +kernel) rfl
theorem k907 : Cond.instanceMethod yX7_renew ∈ jT := jT_mem 907 (by decide +kernel) rfl
theorem k908 : Cond.selects RX7 yX7_renew yX7_renew ∈ jT := jT_mem 908 (by decide +kernel) rfl
theorem k909 : Cond.code yX7_renew cX7_renew 3 ((some .int)) ∈ jT := jT_mem 909 (by decide +kernel) rfl
theorem k910 : Cond.methodLink RL 77 yX7_pass ∈ jT := jT_mem 910 (by decide +kernel) rfl
theorem k911 : Cond.instanceMethod yX7_pass ∈ jT := jT_mem 911 (by decide +kernel) rfl
theorem k912 : Cond.selects RX7 yX7_pass yX7_pass ∈ jT := jT_mem 912 (by decide +kernel) rfl
theorem k913 : Cond.code yX7_pass cX7_pass 3 ((some .int)) ∈ jT := jT_mem 913 (by decide +kernel) rfl
theorem k914 : Cond.constant RX7 147 (100000 : Int32) ∈ jT := jT_mem 914 (by decide +kernel) rfl
theorem k915 : Cond.methodLink RX7 148 yX7_hour ∈ jT := jT_mem 915 (by decide +kernel) rfl
theorem k917 : Cond.instanceMethod yX7_hour ∈ jT := jT_mem 917 (by decide +kernel) rfl
theorem k918 : Cond.code yX7_hour cX7_hour 2 none ∈ jT := jT_mem 918 (by decide +kernel) rfl
theorem k919 : Cond.methodLink RX7 76 yX7_clips ∈ jT := jT_mem 919 (by decide +kernel) rfl
theorem k921 : Cond.instanceMethod yX7_clips ∈ jT := jT_mem 921 (by decide +kernel) rfl
theorem k922 : Cond.code yX7_clips cX7_clips 3 none ∈ jT := jT_mem 922 (by decide +kernel) rfl
theorem k923 : Cond.methodLink RX7 141 yX7_wears ∈ jT := jT_mem 923 (by decide +kernel) rfl
theorem k925 : Cond.instanceMethod yX7_wears ∈ jT := jT_mem 925 (by decide +kernel) rfl
theorem k926 : Cond.code yX7_wears cX7_wears 3 none ∈ jT := jT_mem 926 (by decide +kernel) rfl
theorem k927 : Cond.methodLink RX7 151 yX7_ready ∈ jT := jT_mem 927 (by decide +kernel) rfl
theorem k929 : Cond.instanceMethod yX7_ready ∈ jT := jT_mem 929 (by decide +kernel) rfl
theorem k930 : Cond.code yX7_ready cX7_ready 3 ((some .int)) ∈ jT := jT_mem 930 (by decide +kernel) rfl
theorem k931 : Cond.methodLink RX7 144 yX7_isReady ∈ jT := jT_mem 931 (by decide +kernel) rfl
theorem k933 : Cond.instanceMethod yX7_isReady ∈ jT := jT_mem 933 (by decide +kernel) rfl
theorem k934 : Cond.code yX7_isReady cX7_isReady 2 ((some .boolean)) ∈ jT := jT_mem 934 (by decide +kernel) rfl
theorem k935 : Cond.methodLink RX7 67 yX7_enduranceOf ∈ jT := jT_mem 935 (by decide +kernel) rfl
theorem k937 : Cond.instanceMethod yX7_enduranceOf ∈ jT := jT_mem 937 (by decide +kernel) rfl
theorem k938 : Cond.code yX7_enduranceOf cX7_enduranceOf 3 ((some .int)) ∈ jT := jT_mem 938 (by decide +kernel) rfl
theorem k939 : Cond.methodLink RL 101 yX7_allowed ∈ jT := jT_mem 939 (by decide +kernel) rfl
theorem k940 : Cond.instanceMethod yX7_allowed ∈ jT := jT_mem 940 (by decide +kernel) rfl
theorem k941 : Cond.selects RX7 yX7_allowed yX7_allowed ∈ jT := jT_mem 941 (by decide +kernel) rfl
theorem k942 : Cond.code yX7_allowed cX7_allowed 2 ((some .int)) ∈ jT := jT_mem 942 (by decide +kernel) rfl
theorem k943 : Cond.methodLink RX7 161 yX7_isSet ∈ jT := jT_mem 943 (by decide +kernel) rfl
theorem k945 : Cond.instanceMethod yX7_isSet ∈ jT := jT_mem 945 (by decide +kernel) rfl
theorem k946 : Cond.code yX7_isSet cX7_isSet 2 ((some .boolean)) ∈ jT := jT_mem 946 (by decide +kernel) rfl
theorem k947 : Cond.methodLink RX7 164 yX7_laysPlaces ∈ jT := jT_mem 947 (by decide +kernel) rfl
theorem k949 : Cond.instanceMethod yX7_laysPlaces ∈ jT := jT_mem 949 (by decide +kernel) rfl
theorem k950 : Cond.code yX7_laysPlaces cX7_laysPlaces 4 none ∈ jT := jT_mem 950 (by decide +kernel) rfl
theorem k951 : Cond.methodLink RX7 154 yX7_reaches ∈ jT := jT_mem 951 (by decide +kernel) rfl
theorem k953 : Cond.instanceMethod yX7_reaches ∈ jT := jT_mem 953 (by decide +kernel) rfl
theorem k954 : Cond.code yX7_reaches cX7_reaches 4 ((some .boolean)) ∈ jT := jT_mem 954 (by decide +kernel) rfl
theorem k955 : Cond.methodLink RX7 158 yX7_unlit ∈ jT := jT_mem 955 (by decide +kernel) rfl
theorem k957 : Cond.instanceMethod yX7_unlit ∈ jT := jT_mem 957 (by decide +kernel) rfl
theorem k958 : Cond.code yX7_unlit cX7_unlit 4 ((some .int)) ∈ jT := jT_mem 958 (by decide +kernel) rfl
theorem k959 : Cond.methodLink RX7 167 yX7_isAllowed ∈ jT := jT_mem 959 (by decide +kernel) rfl
theorem k961 : Cond.instanceMethod yX7_isAllowed ∈ jT := jT_mem 961 (by decide +kernel) rfl
theorem k962 : Cond.code yX7_isAllowed cX7_isAllowed 4 ((some .boolean)) ∈ jT := jT_mem 962 (by decide +kernel) rfl
theorem k963 : Cond.methodLink RL 81 yX7_test ∈ jT := jT_mem 963 (by decide +kernel) rfl
theorem k964 : Cond.instanceMethod yX7_test ∈ jT := jT_mem 964 (by decide +kernel) rfl
theorem k965 : Cond.selects RX7 yX7_test yX7_test ∈ jT := jT_mem 965 (by decide +kernel) rfl
theorem k966 : Cond.code yX7_test cX7_test 3 ((some .int)) ∈ jT := jT_mem 966 (by decide +kernel) rfl
theorem k967 : Cond.methodLink RX7 170 yX7_tests ∈ jT := jT_mem 967 (by decide +kernel) rfl
theorem k969 : Cond.instanceMethod yX7_tests ∈ jT := jT_mem 969 (by decide +kernel) rfl
theorem k970 : Cond.code yX7_tests cX7_tests 6 ((some .int)) ∈ jT := jT_mem 970 (by decide +kernel) rfl
theorem k971 : Cond.methodLink RL 105 yX7_days ∈ jT := jT_mem 971 (by decide +kernel) rfl
theorem k972 : Cond.instanceMethod yX7_days ∈ jT := jT_mem 972 (by decide +kernel) rfl
theorem k973 : Cond.selects RX7 yX7_days yX7_days ∈ jT := jT_mem 973 (by decide +kernel) rfl
theorem k974 : Cond.code yX7_days cX7_days 1 ((some .int)) ∈ jT := jT_mem 974 (by decide +kernel) rfl
theorem k975 : Cond.methodLink RX7 176 yX7_laysPlan ∈ jT := jT_mem 975 (by decide +kernel) rfl
theorem k977 : Cond.instanceMethod yX7_laysPlan ∈ jT := jT_mem 977 (by decide +kernel) rfl
theorem k978 : Cond.code yX7_laysPlan cX7_laysPlan 6 none ∈ jT := jT_mem 978 (by decide +kernel) rfl
theorem k979 : Cond.methodLink RX7 179 yX7_daysNow ∈ jT := jT_mem 979 (by decide +kernel) rfl
theorem k981 : Cond.instanceMethod yX7_daysNow ∈ jT := jT_mem 981 (by decide +kernel) rfl
theorem k982 : Cond.code yX7_daysNow cX7_daysNow 1 ((some .int)) ∈ jT := jT_mem 982 (by decide +kernel) rfl
theorem k983 : Cond.methodLink RX7 173 yX7_hasPlan ∈ jT := jT_mem 983 (by decide +kernel) rfl
theorem k985 : Cond.instanceMethod yX7_hasPlan ∈ jT := jT_mem 985 (by decide +kernel) rfl
theorem k986 : Cond.code yX7_hasPlan cX7_hasPlan 1 ((some .boolean)) ∈ jT := jT_mem 986 (by decide +kernel) rfl
theorem k987 : Cond.methodLink RL 109 yX7_day ∈ jT := jT_mem 987 (by decide +kernel) rfl
theorem k988 : Cond.instanceMethod yX7_day ∈ jT := jT_mem 988 (by decide +kernel) rfl
theorem k989 : Cond.selects RX7 yX7_day yX7_day ∈ jT := jT_mem 989 (by decide +kernel) rfl
theorem k990 : Cond.code yX7_day cX7_day 2 ((some .int)) ∈ jT := jT_mem 990 (by decide +kernel) rfl
theorem k991 : Cond.methodLink RX7 182 yX7_setOf ∈ jT := jT_mem 991 (by decide +kernel) rfl
theorem k993 : Cond.instanceMethod yX7_setOf ∈ jT := jT_mem 993 (by decide +kernel) rfl
theorem k994 : Cond.code yX7_setOf cX7_setOf 4 ((some .int)) ∈ jT := jT_mem 994 (by decide +kernel) rfl
theorem k995 : Cond.methodLink RL 85 yX7_carryOut ∈ jT := jT_mem 995 (by decide +kernel) rfl
theorem k996 : Cond.instanceMethod yX7_carryOut ∈ jT := jT_mem 996 (by decide +kernel) rfl
theorem k997 : Cond.selects RX7 yX7_carryOut yX7_carryOut ∈ jT := jT_mem 997 (by decide +kernel) rfl
theorem k998 : Cond.code yX7_carryOut cX7_carryOut 5 ((some .int)) ∈ jT := jT_mem 998 (by decide +kernel) rfl
theorem k999 : Cond.methodLink RL 113 yX7_ifLamp ∈ jT := jT_mem 999 (by decide +kernel) rfl
theorem k1000 : Cond.instanceMethod yX7_ifLamp ∈ jT := jT_mem 1000 (by decide +kernel) rfl
theorem k1001 : Cond.selects RX7 yX7_ifLamp yX7_ifLamp ∈ jT := jT_mem 1001 (by decide +kernel) rfl
theorem k1002 : Cond.code yX7_ifLamp cX7_ifLamp 4 ((some .int)) ∈ jT := jT_mem 1002 (by decide +kernel) rfl
theorem k1003 : Cond.methodLink RX7 185 yX7_daysWith ∈ jT := jT_mem 1003 (by decide +kernel) rfl
theorem k1005 : Cond.instanceMethod yX7_daysWith ∈ jT := jT_mem 1005 (by decide +kernel) rfl
theorem k1006 : Cond.code yX7_daysWith cX7_daysWith 5 ((some .int)) ∈ jT := jT_mem 1006 (by decide +kernel) rfl
theorem k1007 : Cond.methodLink RL 117 yX7_bestSwap ∈ jT := jT_mem 1007 (by decide +kernel) rfl
theorem k1008 : Cond.instanceMethod yX7_bestSwap ∈ jT := jT_mem 1008 (by decide +kernel) rfl
theorem k1009 : Cond.selects RX7 yX7_bestSwap yX7_bestSwap ∈ jT := jT_mem 1009 (by decide +kernel) rfl
theorem k1010 : Cond.code yX7_bestSwap cX7_bestSwap 6 ((some .int)) ∈ jT := jT_mem 1010 (by decide +kernel) rfl
theorem k1011 : Cond.methodLink RL 93 yX7_lasts ∈ jT := jT_mem 1011 (by decide +kernel) rfl
theorem k1012 : Cond.instanceMethod yX7_lasts ∈ jT := jT_mem 1012 (by decide +kernel) rfl
theorem k1013 : Cond.selects RX7 yX7_lasts yX7_lasts ∈ jT := jT_mem 1013 (by decide +kernel) rfl
theorem k1014 : Cond.code yX7_lasts cX7_lasts 3 ((some .int)) ∈ jT := jT_mem 1014 (by decide +kernel) rfl
theorem k1015 : Cond.methodLink RX7 188 yX7_lastsNow ∈ jT := jT_mem 1015 (by decide +kernel) rfl
theorem k1017 : Cond.instanceMethod yX7_lastsNow ∈ jT := jT_mem 1017 (by decide +kernel) rfl
theorem k1018 : Cond.code yX7_lastsNow cX7_lastsNow 8 ((some .int)) ∈ jT := jT_mem 1018 (by decide +kernel) rfl
theorem k1019 : Cond.methodLink RL 89 yX7_routeAt ∈ jT := jT_mem 1019 (by decide +kernel) rfl
theorem k1020 : Cond.instanceMethod yX7_routeAt ∈ jT := jT_mem 1020 (by decide +kernel) rfl
theorem k1021 : Cond.selects RX7 yX7_routeAt yX7_routeAt ∈ jT := jT_mem 1021 (by decide +kernel) rfl
theorem k1022 : Cond.code yX7_routeAt cX7_routeAt 3 ((some .int)) ∈ jT := jT_mem 1022 (by decide +kernel) rfl
theorem k1023 : Cond.methodLink RX7 194 yX7_weakest ∈ jT := jT_mem 1023 (by decide +kernel) rfl
theorem k1025 : Cond.instanceMethod yX7_weakest ∈ jT := jT_mem 1025 (by decide +kernel) rfl
theorem k1026 : Cond.code yX7_weakest cX7_weakest 7 ((some .int)) ∈ jT := jT_mem 1026 (by decide +kernel) rfl
theorem k1027 : Cond.methodLink RX7 191 yX7_without ∈ jT := jT_mem 1027 (by decide +kernel) rfl
theorem k1029 : Cond.instanceMethod yX7_without ∈ jT := jT_mem 1029 (by decide +kernel) rfl
theorem k1030 : Cond.code yX7_without cX7_without 4 ((some .int)) ∈ jT := jT_mem 1030 (by decide +kernel) rfl
theorem k1031 : Cond.methodLink RL 97 yX7_reaching ∈ jT := jT_mem 1031 (by decide +kernel) rfl
theorem k1032 : Cond.instanceMethod yX7_reaching ∈ jT := jT_mem 1032 (by decide +kernel) rfl
theorem k1033 : Cond.selects RX7 yX7_reaching yX7_reaching ∈ jT := jT_mem 1033 (by decide +kernel) rfl
theorem k1034 : Cond.code yX7_reaching cX7_reaching 5 ((some .int)) ∈ jT := jT_mem 1034 (by decide +kernel) rfl
theorem k1035 : Cond.methodLink RL 61 yX7_light ∈ jT := jT_mem 1035 (by decide +kernel) rfl
theorem k1036 : Cond.instanceMethod yX7_light ∈ jT := jT_mem 1036 (by decide +kernel) rfl
theorem k1037 : Cond.selects RX7 yX7_light yX7_light ∈ jT := jT_mem 1037 (by decide +kernel) rfl
theorem k1038 : Cond.code yX7_light cX7_light 3 ((some .int)) ∈ jT := jT_mem 1038 (by decide +kernel) rfl
theorem k1039 : Cond.methodLink RX7 198 yX7_dayOf ∈ jT := jT_mem 1039 (by decide +kernel) rfl
theorem k1041 : Cond.instanceMethod yX7_dayOf ∈ jT := jT_mem 1041 (by decide +kernel) rfl
theorem k1042 : Cond.code yX7_dayOf cX7_dayOf 3 ((some .int)) ∈ jT := jT_mem 1042 (by decide +kernel) rfl
theorem k1043 : Cond.methodLink RL 121 yX7_told ∈ jT := jT_mem 1043 (by decide +kernel) rfl
theorem k1044 : Cond.instanceMethod yX7_told ∈ jT := jT_mem 1044 (by decide +kernel) rfl
theorem k1045 : Cond.selects RX7 yX7_told yX7_told ∈ jT := jT_mem 1045 (by decide +kernel) rfl
theorem k1046 : Cond.code yX7_told cX7_told 2 ((some .int)) ∈ jT := jT_mem 1046 (by decide +kernel) rfl
theorem k1047 : Cond.methodLink RX7 201 yX7_safe ∈ jT := jT_mem 1047 (by decide +kernel) rfl
theorem k1049 : Cond.instanceMethod yX7_safe ∈ jT := jT_mem 1049 (by decide +kernel) rfl
theorem k1050 : Cond.code yX7_safe cX7_safe 3 ((some .int)) ∈ jT := jT_mem 1050 (by decide +kernel) rfl
theorem k1051 : Cond.methodLink RX7 204 yX7_burntOut ∈ jT := jT_mem 1051 (by decide +kernel) rfl
theorem k1053 : Cond.instanceMethod yX7_burntOut ∈ jT := jT_mem 1053 (by decide +kernel) rfl
theorem k1054 : Cond.code yX7_burntOut cX7_burntOut 3 ((some .int)) ∈ jT := jT_mem 1054 (by decide +kernel) rfl
theorem k1055 : Cond.methodLink RL 125 yX7_undo ∈ jT := jT_mem 1055 (by decide +kernel) rfl
theorem k1056 : Cond.instanceMethod yX7_undo ∈ jT := jT_mem 1056 (by decide +kernel) rfl
theorem k1057 : Cond.selects RX7 yX7_undo yX7_undo ∈ jT := jT_mem 1057 (by decide +kernel) rfl
theorem k1058 : Cond.code yX7_undo cX7_undo 2 ((some .int)) ∈ jT := jT_mem 1058 (by decide +kernel) rfl
theorem k1059 : Cond.methodLink RL 130 yX7_digest ∈ jT := jT_mem 1059 (by decide +kernel) rfl
theorem k1060 : Cond.instanceMethod yX7_digest ∈ jT := jT_mem 1060 (by decide +kernel) rfl
theorem k1061 : Cond.selects RX7 yX7_digest yX7_digest ∈ jT := jT_mem 1061 (by decide +kernel) rfl
theorem k1062 : Cond.code yX7_digest cX7_digest 5 ((some .long)) ∈ jT := jT_mem 1062 (by decide +kernel) rfl
theorem k1063 : Cond.constantLong RX7 209 (18752 : Int64) ∈ jT := jT_mem 1063 (by decide +kernel) rfl
theorem k1064 : Cond.constantLong RX7 207 (31 : Int64) ∈ jT := jT_mem 1064 (by decide +kernel) rfl
theorem k1065 : Cond.methodLink RX7 211 yX7_told ∈ jT := jT_mem 1065 (by decide +kernel) rfl
theorem k1066 : Cond.methodLink RX7 214 yX7_light ∈ jT := jT_mem 1066 (by decide +kernel) rfl
theorem k1067 : Cond.methodLink RX7 217 yX7_routeAt ∈ jT := jT_mem 1067 (by decide +kernel) rfl
theorem k1068 : Cond.methodLink RX7 220 yX7_mixedPlan ∈ jT := jT_mem 1068 (by decide +kernel) rfl
theorem k1070 : Cond.instanceMethod yX7_mixedPlan ∈ jT := jT_mem 1070 (by decide +kernel) rfl
theorem k1071 : Cond.code yX7_mixedPlan cX7_mixedPlan 6 ((some .long)) ∈ jT := jT_mem 1071 (by decide +kernel) rfl
theorem k1072 : Cond.methodLink RX7 224 yX7_reaching ∈ jT := jT_mem 1072 (by decide +kernel) rfl
theorem uX0 : jU 0 RX0 TX0 10 tyX0 := ⟨jIn [116, 118, 120, 122, 124, 126, 128, 130, 132, 134] (by decide +kernel) (by decide +kernel), rfl, tyX0_ok, nmX0⟩
theorem uX1 : jU 1 RX1 TX1 3 tyX1 := ⟨jIn [150, 152, 154] (by decide +kernel) (by decide +kernel), rfl, tyX1_ok, nmX1⟩
theorem uX2 : jU 2 RX2 TX2 9 tyX2 := ⟨jIn [278, 280, 282, 284, 286, 288, 290, 292, 294] (by decide +kernel) (by decide +kernel), rfl, tyX2_ok, nmX2⟩
theorem uX3 : jU 3 RX3 TX3 4 tyX3 := ⟨jIn [181, 183, 185, 187] (by decide +kernel) (by decide +kernel), rfl, tyX3_ok, nmX3⟩
theorem uX4 : jU 4 RX4 TX4 2 tyX4 := ⟨jIn [165, 167] (by decide +kernel) (by decide +kernel), rfl, tyX4_ok, nmX4⟩
theorem uX5 : jU 5 RX5 TX5 4 tyX5 := ⟨jIn [76, 78, 80, 82] (by decide +kernel) (by decide +kernel), rfl, tyX5_ok, nmX5⟩
theorem uX6 : jU 6 RX6 TX6 6 tyX6 := ⟨jIn [196, 198, 200, 202, 204, 206] (by decide +kernel) (by decide +kernel), rfl, tyX6_ok, nmX6⟩
theorem uX7 : jU 7 RX7 TX7 16 tyX7 := ⟨jIn [740, 742, 744, 746, 748, 750, 752, 754, 756, 758, 760, 762, 764, 766, 768, 770] (by decide +kernel) (by decide +kernel), rfl, tyX7_ok, nmX7⟩
theorem mX0_init : jMi yX0_init cX0_init 1 0 := ⟨k89, k50, k90, rfl, (by decide +kernel)⟩
theorem mX0_find : jM yX0_find cX0_find 2 (some (.object "EscapeLights$Light")) 1 := ⟨k354, k355, k50, k356, (by decide +kernel)⟩
theorem mX0_grow : jM yX0_grow cX0_grow 2 (some (.object "EscapeLights$Light")) 0 := ⟨k254, k255, k50, k256, (by decide +kernel)⟩
theorem mX0_removeLight : jM yX0_removeLight cX0_removeLight 5 none 1 := ⟨k401, k402, k50, k403, (by decide +kernel)⟩
theorem mX0_hasRoute : jM yX0_hasRoute cX0_hasRoute 2 (some .boolean) 1 := ⟨k367, k368, k50, k369, (by decide +kernel)⟩
theorem mX0_firstPlace : jM yX0_firstPlace cX0_firstPlace 2 (some .int) 1 := ⟨k363, k364, k50, k365, (by decide +kernel)⟩
theorem mX0_lastPlace : jM yX0_lastPlace cX0_lastPlace 2 (some .int) 1 := ⟨k371, k372, k50, k373, (by decide +kernel)⟩
theorem mX0_appendRoute : jM yX0_appendRoute cX0_appendRoute 3 none 2 := ⟨k326, k327, k50, k328, (by decide +kernel)⟩
theorem mX0_removeRoute : jM yX0_removeRoute cX0_removeRoute 3 none 1 := ⟨k419, k420, k50, k421, (by decide +kernel)⟩
theorem mX0_copyFrom : jM yX0_copyFrom cX0_copyFrom 3 none 1 := ⟨k346, k347, k50, k348, (by decide +kernel)⟩
theorem mX0_copyLayout : jM yX0_copyLayout cX0_copyLayout 5 none 1 := ⟨k350, k351, k50, k352, (by decide +kernel)⟩
theorem mX0_stockOf : jM yX0_stockOf cX0_stockOf 2 (some .int) 1 := ⟨k431, k432, k50, k433, (by decide +kernel)⟩
theorem mX0_changeStock : jM yX0_changeStock cX0_changeStock 3 none 2 := ⟨k436, k437, k50, k438, (by decide +kernel)⟩
theorem mX0_holds : jM yX0_holds cX0_holds 2 (some .boolean) 1 := ⟨k587, k588, k50, k589, (by decide +kernel)⟩
theorem mX0_withoutCircuit : jM yX0_withoutCircuit cX0_withoutCircuit 5 (some .int) 1 := ⟨k640, k641, k50, k642, (by decide +kernel)⟩
theorem mX0_countReady : jM yX0_countReady cX0_countReady 4 (some .int) 0 := ⟨k578, k579, k50, k580, (by decide +kernel)⟩
theorem mX0_countBurntOut : jM yX0_countBurntOut cX0_countBurntOut 4 (some .int) 0 := ⟨k695, k696, k50, k697, (by decide +kernel)⟩
theorem mX0_countReaching : jM yX0_countReaching cX0_countReaching 6 (some .int) 2 := ⟨k652, k653, k50, k654, (by decide +kernel)⟩
theorem mX0_putLamps : jM yX0_putLamps cX0_putLamps 6 (some .int) 1 := ⟨k539, k540, k50, k541, (by decide +kernel)⟩
theorem mX0_lampInPlaceOf : jM yX0_lampInPlaceOf cX0_lampInPlaceOf 3 (some .int) 1 := ⟨k543, k544, k50, k545, (by decide +kernel)⟩
theorem mX0_burn : jM yX0_burn cX0_burn 4 none 1 := ⟨k599, k600, k50, k601, (by decide +kernel)⟩
theorem mX0_letHoursPass : jM yX0_letHoursPass cX0_letHoursPass 4 none 1 := ⟨k560, k561, k50, k562, (by decide +kernel)⟩
theorem mX0_letStretchPass : jM yX0_letStretchPass cX0_letStretchPass 4 none 1 := ⟨k565, k566, k50, k567, (by decide +kernel)⟩
theorem mX1_init : jMi yX1_init cX1_init 1 0 := ⟨k141, k51, k142, rfl, (by decide +kernel)⟩
theorem mX1_keep : jM yX1_keep cX1_keep 2 none 1 := ⟨k334, k335, k51, k336, (by decide +kernel)⟩
theorem mX1_restore : jM yX1_restore cX1_restore 2 none 1 := ⟨k703, k704, k51, k705, (by decide +kernel)⟩
theorem mX1_slot : jM yX1_slot cX1_slot 4 (some (.object "EscapeLights$Building")) 1 := ⟨k338, k339, k51, k340, (by decide +kernel)⟩
theorem mX2_init : jMi yX2_init cX2_init 1 0 := ⟨k259, k55, k260, rfl, (by decide +kernel)⟩
theorem mX2_begin : jM yX2_begin cX2_begin 6 none 5 := ⟨k298, k299, k55, k300, (by decide +kernel)⟩
theorem mX2_copyFrom : jM yX2_copyFrom cX2_copyFrom 2 none 1 := ⟨k359, k360, k55, k361, (by decide +kernel)⟩
theorem mX2_putLamp : jM yX2_putLamp cX2_putLamp 2 none 1 := ⟨k314, k315, k55, k316, (by decide +kernel)⟩
theorem mX2_ratedTime : jM yX2_ratedTime cX2_ratedTime 1 (some .int) 0 := ⟨k310, k311, k55, k312, (by decide +kernel)⟩
theorem mX2_wear : jM yX2_wear cX2_wear 1 (some .int) 0 := ⟨k607, k608, k55, k609, (by decide +kernel)⟩
theorem mX2_life : jM yX2_life cX2_life 1 (some .int) 0 := ⟨k318, k319, k55, k320, (by decide +kernel)⟩
theorem mX2_width : jM yX2_width cX2_width 1 (some .int) 0 := ⟨k463, k464, k55, k465, (by decide +kernel)⟩
theorem mX2_widthOf : jMs yX2_widthOf cX2_widthOf 1 (some .int) 1 := ⟨k467, k55, k468, (by decide +kernel)⟩
theorem mX2_capacity : jM yX2_capacity cX2_capacity 1 (some .int) 0 := ⟨k306, k307, k55, k308, (by decide +kernel)⟩
theorem mX2_fullCharge : jM yX2_fullCharge cX2_fullCharge 1 (some .int) 0 := ⟨k302, k303, k55, k304, (by decide +kernel)⟩
theorem mX2_endurance : jM yX2_endurance cX2_endurance 1 (some .int) 0 := ⟨k458, k459, k55, k460, (by decide +kernel)⟩
theorem mX2_isReady : jM yX2_isReady cX2_isReady 2 (some .boolean) 1 := ⟨k526, k527, k55, k528, (by decide +kernel)⟩
theorem mX2_reaches : jM yX2_reaches cX2_reaches 2 (some .boolean) 1 := ⟨k656, k657, k55, k658, (by decide +kernel)⟩
theorem mX2_letHoursPass : jM yX2_letHoursPass cX2_letHoursPass 2 none 1 := ⟨k569, k570, k55, k571, (by decide +kernel)⟩
theorem mX2_age : jM yX2_age cX2_age 2 none 1 := ⟨k574, k575, k55, k576, (by decide +kernel)⟩
theorem mX2_burn : jM yX2_burn cX2_burn 2 (some .boolean) 0 := ⟨k603, k604, k55, k605, (by decide +kernel)⟩
theorem mX2_property : jM yX2_property cX2_property 3 (some .int) 2 := ⟨k521, k522, k55, k523, (by decide +kernel)⟩
theorem mX3_init : jMi yX3_init cX3_init 1 0 := ⟨k173, k53, k174, rfl, (by decide +kernel)⟩
theorem mX3_forget : jM yX3_forget cX3_forget 1 none 0 := ⟨k379, k380, k53, k381, (by decide +kernel)⟩
theorem mX3_setOn : jM yX3_setOn cX3_setOn 2 (some .int) 1 := ⟨k517, k518, k53, k519, (by decide +kernel)⟩
theorem mX3_dayOf : jM yX3_dayOf cX3_dayOf 3 (some .int) 1 := ⟨k513, k514, k53, k515, (by decide +kernel)⟩
theorem mX3_follow : jM yX3_follow cX3_follow 5 none 2 := ⟨k444, k445, k53, k446, (by decide +kernel)⟩
theorem mX3_fewestDays : jM yX3_fewestDays cX3_fewestDays 5 (some .int) 2 := ⟨k448, k449, k53, k450, (by decide +kernel)⟩
theorem mX3_markForbidden : jM yX3_markForbidden cX3_markForbidden 8 none 3 := ⟨k474, k475, k53, k476, (by decide +kernel)⟩
theorem mX3_forbid : jM yX3_forbid cX3_forbid 2 none 1 := ⟨k489, k490, k53, k491, (by decide +kernel)⟩
theorem mX3_daysFor : jM yX3_daysFor cX3_daysFor 2 (some .int) 1 := ⟨k493, k494, k53, k495, (by decide +kernel)⟩
theorem mX3_holdsForbidden : jM yX3_holdsForbidden cX3_holdsForbidden 3 (some .boolean) 1 := ⟨k497, k498, k53, k499, (by decide +kernel)⟩
theorem mX3_fewestApart : jM yX3_fewestApart cX3_fewestApart 6 (some .int) 1 := ⟨k501, k502, k53, k503, (by decide +kernel)⟩
theorem mX3_firstSet : jM yX3_firstSet cX3_firstSet 6 (some .int) 1 := ⟨k505, k506, k53, k507, (by decide +kernel)⟩
theorem mX3_begins : jM yX3_begins cX3_begins 3 (some .boolean) 2 := ⟨k509, k510, k53, k511, (by decide +kernel)⟩
theorem mX4_init : jMi yX4_init cX4_init 1 0 := ⟨k160, k52, k161, rfl, (by decide +kernel)⟩
theorem mX4_look : jM yX4_look cX4_look 7 none 1 := ⟨k453, k454, k52, k455, (by decide +kernel)⟩
theorem mX4_nearTo : jM yX4_nearTo cX4_nearTo 2 (some .int) 1 := ⟨k484, k485, k52, k486, (by decide +kernel)⟩
theorem mX4_dark : jM yX4_dark cX4_dark 6 (some .int) 3 := ⟨k480, k481, k52, k482, (by decide +kernel)⟩
theorem mX4_minutes : jM yX4_minutes cX4_minutes 8 (some .int) 3 := ⟨k625, k626, k52, k627, (by decide +kernel)⟩
theorem mX4_lengthen : jM yX4_lengthen cX4_lengthen 8 none 3 := ⟨k631, k632, k52, k633, (by decide +kernel)⟩
theorem mX5_init : jMi yX5_init cX5_init 1 0 := ⟨k68, k49, k69, rfl, (by decide +kernel)⟩
theorem mX5_append : jM yX5_append cX5_append 2 (some .boolean) 1 := ⟨k214, k215, k49, k216, (by decide +kernel)⟩
theorem mX5_readInto : jM yX5_readInto cX5_readInto 3 (some .int) 1 := ⟨k226, k227, k49, k228, (by decide +kernel)⟩
theorem mX5_readLight : jM yX5_readLight cX5_readLight 8 none 1 := ⟨k234, k235, k49, k236, (by decide +kernel)⟩
theorem mX5_readRoute : jM yX5_readRoute cX5_readRoute 4 none 1 := ⟨k322, k323, k49, k324, (by decide +kernel)⟩
theorem mX5_peek : jM yX5_peek cX5_peek 1 (some .int) 0 := ⟨k230, k231, k49, k232, (by decide +kernel)⟩
theorem mX5_expect : jM yX5_expect cX5_expect 2 none 1 := ⟨k238, k239, k49, k240, (by decide +kernel)⟩
theorem mX5_readNumber : jM yX5_readNumber cX5_readNumber 7 (some .int) 3 := ⟨k246, k247, k49, k248, (by decide +kernel)⟩
theorem mX5_isAtDigit : jM yX5_isAtDigit cX5_isAtDigit 1 (some .boolean) 0 := ⟨k250, k251, k49, k252, (by decide +kernel)⟩
theorem mX5_fail : jM yX5_fail cX5_fail 2 none 1 := ⟨k242, k243, k49, k244, (by decide +kernel)⟩
theorem mX6_init : jMi yX6_init cX6_init 1 0 := ⟨k60, k48, k61, rfl, (by decide +kernel)⟩
theorem mX6_type : jM yX6_type cX6_type 2 (some .int) 1 := ⟨k210, k211, k48, k212, (by decide +kernel)⟩
theorem mX6_clear : jM yX6_clear cX6_clear 2 (some .int) 0 := ⟨k218, k219, k48, k220, (by decide +kernel)⟩
theorem mX6_load : jM yX6_load cX6_load 2 (some .int) 0 := ⟨k222, k223, k48, k224, (by decide +kernel)⟩
theorem mX6_add : jM yX6_add cX6_add 6 (some .int) 4 := ⟨k384, k385, k48, k386, (by decide +kernel)⟩
theorem mX6_drop : jM yX6_drop cX6_drop 2 (some .int) 1 := ⟨k396, k397, k48, k398, (by decide +kernel)⟩
theorem mX6_maintain : jM yX6_maintain cX6_maintain 5 (some .int) 2 := ⟨k405, k406, k48, k407, (by decide +kernel)⟩
theorem mX6_route : jM yX6_route cX6_route 3 (some .int) 2 := ⟨k409, k410, k48, k411, (by decide +kernel)⟩
theorem mX6_dropRoute : jM yX6_dropRoute cX6_dropRoute 2 (some .int) 1 := ⟨k414, k415, k48, k416, (by decide +kernel)⟩
theorem mX6_setNeed : jM yX6_setNeed cX6_setNeed 3 (some .int) 1 := ⟨k423, k424, k48, k425, (by decide +kernel)⟩
theorem mX6_setStock : jM yX6_setStock cX6_setStock 4 (some .int) 2 := ⟨k427, k428, k48, k429, (by decide +kernel)⟩
theorem mX6_light : jM yX6_light cX6_light 4 (some .int) 2 := ⟨k440, k441, k48, k442, (by decide +kernel)⟩
theorem mX6_swap : jM yX6_swap cX6_swap 4 (some .int) 2 := ⟨k530, k531, k48, k532, (by decide +kernel)⟩
theorem mX6_swapAll : jM yX6_swapAll cX6_swapAll 2 (some .int) 1 := ⟨k535, k536, k48, k537, (by decide +kernel)⟩
theorem mX6_renew : jM yX6_renew cX6_renew 4 (some .int) 1 := ⟨k551, k552, k48, k553, (by decide +kernel)⟩
theorem mX6_pass : jM yX6_pass cX6_pass 2 (some .int) 1 := ⟨k555, k556, k48, k557, (by decide +kernel)⟩
theorem mX6_test : jM yX6_test cX6_test 4 (some .int) 2 := ⟨k583, k584, k48, k585, (by decide +kernel)⟩
theorem mX6_carryOut : jM yX6_carryOut cX6_carryOut 4 (some .int) 0 := ⟨k612, k613, k48, k614, (by decide +kernel)⟩
theorem mX6_routeAt : jM yX6_routeAt cX6_routeAt 3 (some .int) 2 := ⟨k617, k618, k48, k619, (by decide +kernel)⟩
theorem mX6_lasts : jM yX6_lasts cX6_lasts 3 (some .int) 2 := ⟨k644, k645, k48, k646, (by decide +kernel)⟩
theorem mX6_reaching : jM yX6_reaching cX6_reaching 3 (some .int) 2 := ⟨k648, k649, k48, k650, (by decide +kernel)⟩
theorem mX6_allowed : jM yX6_allowed cX6_allowed 5 (some .int) 1 := ⟨k591, k592, k48, k593, (by decide +kernel)⟩
theorem mX6_days : jM yX6_days cX6_days 1 (some .int) 0 := ⟨k665, k666, k48, k667, (by decide +kernel)⟩
theorem mX6_day : jM yX6_day cX6_day 2 (some .int) 1 := ⟨k669, k670, k48, k671, (by decide +kernel)⟩
theorem mX6_ifLamp : jM yX6_ifLamp cX6_ifLamp 3 (some .int) 2 := ⟨k673, k674, k48, k675, (by decide +kernel)⟩
theorem mX6_bestSwap : jM yX6_bestSwap cX6_bestSwap 7 (some .int) 1 := ⟨k683, k684, k48, k685, (by decide +kernel)⟩
theorem mX6_told : jM yX6_told cX6_told 2 (some .int) 1 := ⟨k687, k688, k48, k689, (by decide +kernel)⟩
theorem mX6_undo : jM yX6_undo cX6_undo 1 (some .int) 0 := ⟨k699, k700, k48, k701, (by decide +kernel)⟩
theorem mX6_digest : jM yX6_digest cX6_digest 5 (some .long) 0 := ⟨k707, k708, k48, k709, (by decide +kernel)⟩
theorem mX6_isPlace : jMs yX6_isPlace cX6_isPlace 1 (some .boolean) 1 := ⟨k388, k48, k389, (by decide +kernel)⟩
theorem mX6_isLamp : jMs yX6_isLamp cX6_isLamp 1 (some .boolean) 1 := ⟨k391, k48, k392, (by decide +kernel)⟩
theorem mX6_remember : jM yX6_remember cX6_remember 1 none 0 := ⟨k331, k0, k48, k332, (by decide +kernel)⟩
theorem mX6_darkPlaces : jM yX6_darkPlaces cX6_darkPlaces 2 (some .int) 1 := ⟨k622, k1, k48, k623, (by decide +kernel)⟩
theorem mX6_countSafe : jM yX6_countSafe cX6_countSafe 3 (some .int) 0 := ⟨k692, k4, k48, k693, (by decide +kernel)⟩
theorem mX6_worstCircuit : jM yX6_worstCircuit cX6_worstCircuit 6 (some .int) 1 := ⟨k637, k2, k48, k638, (by decide +kernel)⟩
theorem mX6_daysWithLamp : jM yX6_daysWithLamp cX6_daysWithLamp 4 (some .int) 2 := ⟨k678, k3, k48, k679, (by decide +kernel)⟩
theorem mX7_init : jMi yX7_init cX7_init 1 0 := ⟨k721, k54, k722, rfl, (by decide +kernel)⟩
theorem mX7_in : jMs yX7_in cX7_in 3 (some .boolean) 3 := ⟨k782, k54, k783, (by decide +kernel)⟩
theorem mX7_records : jM yX7_records cX7_records 2 none 0 := ⟨k793, k6, k54, k794, (by decide +kernel)⟩
theorem mX7_at : jM yX7_at cX7_at 3 (some .int) 2 := ⟨k801, k8, k54, k802, (by decide +kernel)⟩
theorem mX7_of : jM yX7_of cX7_of 3 (some .int) 2 := ⟨k813, k11, k54, k814, (by decide +kernel)⟩
theorem mX7_lights : jM yX7_lights cX7_lights 1 (some .int) 0 := ⟨k789, k5, k54, k790, (by decide +kernel)⟩
theorem mX7_isLight : jM yX7_isLight cX7_isLight 2 (some .boolean) 1 := ⟨k821, k12, k54, k822, (by decide +kernel)⟩
theorem mX7_isRoute : jM yX7_isRoute cX7_isRoute 2 (some .boolean) 1 := ⟨k837, k13, k54, k838, (by decide +kernel)⟩
theorem mX7_ratedOf : jM yX7_ratedOf cX7_ratedOf 3 (some .int) 1 := ⟨k809, k10, k54, k810, (by decide +kernel)⟩
theorem mX7_reachOf : jMs yX7_reachOf cX7_reachOf 1 (some .int) 1 := ⟨k904, k54, k905, (by decide +kernel)⟩
theorem mX7_capacityOf : jM yX7_capacityOf cX7_capacityOf 2 (some .int) 1 := ⟨k805, k9, k54, k806, (by decide +kernel)⟩
theorem mX7_restOf : jM yX7_restOf cX7_restOf 3 (some .int) 1 := ⟨k897, k21, k54, k898, (by decide +kernel)⟩
theorem mX7_enduranceOf : jM yX7_enduranceOf cX7_enduranceOf 3 (some .int) 1 := ⟨k937, k28, k54, k938, (by decide +kernel)⟩
theorem mX7_isReady : jM yX7_isReady cX7_isReady 2 (some .boolean) 1 := ⟨k933, k27, k54, k934, (by decide +kernel)⟩
theorem mX7_reaches : jM yX7_reaches cX7_reaches 4 (some .boolean) 2 := ⟨k953, k31, k54, k954, (by decide +kernel)⟩
theorem mX7_clips : jM yX7_clips cX7_clips 3 none 1 := ⟨k921, k24, k54, k922, (by decide +kernel)⟩
theorem mX7_wears : jM yX7_wears cX7_wears 3 none 2 := ⟨k925, k25, k54, k926, (by decide +kernel)⟩
theorem mX7_lays : jM yX7_lays cX7_lays 7 none 6 := ⟨k797, k7, k54, k798, (by decide +kernel)⟩
theorem mX7_isPlace : jMs yX7_isPlace cX7_isPlace 1 (some .boolean) 1 := ⟨k779, k54, k780, (by decide +kernel)⟩
theorem mX7_isLamp : jMs yX7_isLamp cX7_isLamp 1 (some .boolean) 1 := ⟨k785, k54, k786, (by decide +kernel)⟩
theorem mX7_add : jM yX7_add cX7_add 5 (some .int) 4 := ⟨k775, k776, k54, k777, (by decide +kernel)⟩
theorem mX7_drop : jM yX7_drop cX7_drop 3 (some .int) 1 := ⟨k816, k817, k54, k818, (by decide +kernel)⟩
theorem mX7_maintain : jM yX7_maintain cX7_maintain 4 (some .int) 2 := ⟨k824, k825, k54, k826, (by decide +kernel)⟩
theorem mX7_route : jM yX7_route cX7_route 3 (some .int) 2 := ⟨k828, k829, k54, k830, (by decide +kernel)⟩
theorem mX7_dropRoute : jM yX7_dropRoute cX7_dropRoute 3 (some .int) 1 := ⟨k832, k833, k54, k834, (by decide +kernel)⟩
theorem mX7_setNeed : jM yX7_setNeed cX7_setNeed 3 (some .int) 1 := ⟨k840, k841, k54, k842, (by decide +kernel)⟩
theorem mX7_setStock : jM yX7_setStock cX7_setStock 4 (some .int) 2 := ⟨k844, k845, k54, k846, (by decide +kernel)⟩
theorem mX7_type : jM yX7_type cX7_type 2 (some .int) 1 := ⟨k848, k849, k54, k850, (by decide +kernel)⟩
theorem mX7_clear : jM yX7_clear cX7_clear 2 (some .int) 0 := ⟨k852, k853, k54, k854, (by decide +kernel)⟩
theorem mX7_here : jM yX7_here cX7_here 1 (some .int) 0 := ⟨k861, k14, k54, k862, (by decide +kernel)⟩
theorem mX7_takes : jM yX7_takes cX7_takes 3 (some .boolean) 1 := ⟨k877, k18, k54, k878, (by decide +kernel)⟩
theorem mX7_isFigure : jM yX7_isFigure cX7_isFigure 1 (some .boolean) 0 := ⟨k873, k17, k54, k874, (by decide +kernel)⟩
theorem mX7_readsNumber : jM yX7_readsNumber cX7_readsNumber 6 (some .boolean) 3 := ⟨k869, k16, k54, k870, (by decide +kernel)⟩
theorem mX7_readsLight : jM yX7_readsLight cX7_readsLight 2 (some .boolean) 0 := ⟨k865, k15, k54, k866, (by decide +kernel)⟩
theorem mX7_readsRoute : jM yX7_readsRoute cX7_readsRoute 2 (some .boolean) 0 := ⟨k881, k19, k54, k882, (by decide +kernel)⟩
theorem mX7_load : jM yX7_load cX7_load 3 (some .int) 0 := ⟨k856, k857, k54, k858, (by decide +kernel)⟩
theorem mX7_puts : jM yX7_puts cX7_puts 3 none 2 := ⟨k889, k20, k54, k890, (by decide +kernel)⟩
theorem mX7_swap : jM yX7_swap cX7_swap 3 (some .int) 2 := ⟨k884, k885, k54, k886, (by decide +kernel)⟩
theorem mX7_instead : jM yX7_instead cX7_instead 3 (some .int) 1 := ⟨k901, k22, k54, k902, (by decide +kernel)⟩
theorem mX7_swapAll : jM yX7_swapAll cX7_swapAll 5 (some .int) 1 := ⟨k892, k893, k54, k894, (by decide +kernel)⟩
theorem mX7_renew : jM yX7_renew cX7_renew 3 (some .int) 1 := ⟨k907, k908, k54, k909, (by decide +kernel)⟩
theorem mX7_hour : jM yX7_hour cX7_hour 2 none 0 := ⟨k917, k23, k54, k918, (by decide +kernel)⟩
theorem mX7_ready : jM yX7_ready cX7_ready 3 (some .int) 0 := ⟨k929, k26, k54, k930, (by decide +kernel)⟩
theorem mX7_pass : jM yX7_pass cX7_pass 3 (some .int) 1 := ⟨k911, k912, k54, k913, (by decide +kernel)⟩
theorem mX7_tests : jM yX7_tests cX7_tests 6 (some .int) 1 := ⟨k969, k34, k54, k970, (by decide +kernel)⟩
theorem mX7_isSet : jM yX7_isSet cX7_isSet 2 (some .boolean) 1 := ⟨k945, k29, k54, k946, (by decide +kernel)⟩
theorem mX7_laysPlaces : jM yX7_laysPlaces cX7_laysPlaces 4 none 0 := ⟨k949, k30, k54, k950, (by decide +kernel)⟩
theorem mX7_unlit : jM yX7_unlit cX7_unlit 4 (some .int) 1 := ⟨k957, k32, k54, k958, (by decide +kernel)⟩
theorem mX7_isAllowed : jM yX7_isAllowed cX7_isAllowed 4 (some .boolean) 1 := ⟨k961, k33, k54, k962, (by decide +kernel)⟩
theorem mX7_allowed : jM yX7_allowed cX7_allowed 2 (some .int) 1 := ⟨k940, k941, k54, k942, (by decide +kernel)⟩
theorem mX7_test : jM yX7_test cX7_test 3 (some .int) 2 := ⟨k964, k965, k54, k966, (by decide +kernel)⟩
theorem mX7_laysPlan : jM yX7_laysPlan cX7_laysPlan 6 none 0 := ⟨k977, k35, k54, k978, (by decide +kernel)⟩
theorem mX7_hasPlan : jM yX7_hasPlan cX7_hasPlan 1 (some .boolean) 0 := ⟨k985, k37, k54, k986, (by decide +kernel)⟩
theorem mX7_setOf : jM yX7_setOf cX7_setOf 4 (some .int) 1 := ⟨k993, k38, k54, k994, (by decide +kernel)⟩
theorem mX7_daysNow : jM yX7_daysNow cX7_daysNow 1 (some .int) 0 := ⟨k981, k36, k54, k982, (by decide +kernel)⟩
theorem mX7_days : jM yX7_days cX7_days 1 (some .int) 0 := ⟨k972, k973, k54, k974, (by decide +kernel)⟩
theorem mX7_day : jM yX7_day cX7_day 2 (some .int) 1 := ⟨k988, k989, k54, k990, (by decide +kernel)⟩
theorem mX7_dayOf : jM yX7_dayOf cX7_dayOf 3 (some .int) 1 := ⟨k1041, k43, k54, k1042, (by decide +kernel)⟩
theorem mX7_carryOut : jM yX7_carryOut cX7_carryOut 5 (some .int) 0 := ⟨k996, k997, k54, k998, (by decide +kernel)⟩
theorem mX7_daysWith : jM yX7_daysWith cX7_daysWith 5 (some .int) 2 := ⟨k1005, k39, k54, k1006, (by decide +kernel)⟩
theorem mX7_ifLamp : jM yX7_ifLamp cX7_ifLamp 4 (some .int) 2 := ⟨k1000, k1001, k54, k1002, (by decide +kernel)⟩
theorem mX7_bestSwap : jM yX7_bestSwap cX7_bestSwap 6 (some .int) 1 := ⟨k1008, k1009, k54, k1010, (by decide +kernel)⟩
theorem mX7_lastsNow : jM yX7_lastsNow cX7_lastsNow 8 (some .int) 2 := ⟨k1017, k40, k54, k1018, (by decide +kernel)⟩
theorem mX7_lasts : jM yX7_lasts cX7_lasts 3 (some .int) 2 := ⟨k1012, k1013, k54, k1014, (by decide +kernel)⟩
theorem mX7_without : jM yX7_without cX7_without 4 (some .int) 1 := ⟨k1029, k42, k54, k1030, (by decide +kernel)⟩
theorem mX7_weakest : jM yX7_weakest cX7_weakest 7 (some .int) 2 := ⟨k1025, k41, k54, k1026, (by decide +kernel)⟩
theorem mX7_routeAt : jM yX7_routeAt cX7_routeAt 3 (some .int) 2 := ⟨k1020, k1021, k54, k1022, (by decide +kernel)⟩
theorem mX7_reaching : jM yX7_reaching cX7_reaching 5 (some .int) 2 := ⟨k1032, k1033, k54, k1034, (by decide +kernel)⟩
theorem mX7_light : jM yX7_light cX7_light 3 (some .int) 2 := ⟨k1036, k1037, k54, k1038, (by decide +kernel)⟩
theorem mX7_burntOut : jM yX7_burntOut cX7_burntOut 3 (some .int) 0 := ⟨k1053, k45, k54, k1054, (by decide +kernel)⟩
theorem mX7_safe : jM yX7_safe cX7_safe 3 (some .int) 0 := ⟨k1049, k44, k54, k1050, (by decide +kernel)⟩
theorem mX7_told : jM yX7_told cX7_told 2 (some .int) 1 := ⟨k1044, k1045, k54, k1046, (by decide +kernel)⟩
theorem mX7_undo : jM yX7_undo cX7_undo 2 (some .int) 0 := ⟨k1056, k1057, k54, k1058, (by decide +kernel)⟩
theorem mX7_mixedPlan : jM yX7_mixedPlan cX7_mixedPlan 6 (some .long) 1 := ⟨k1070, k46, k54, k1071, (by decide +kernel)⟩
theorem mX7_digest : jM yX7_digest cX7_digest 5 (some .long) 0 := ⟨k1060, k1061, k54, k1062, (by decide +kernel)⟩
theorem mJ9_floorMod_7cf53 : jMs yJ9_floorMod_7cf53 cJ9_floorMod_7cf53 3 (some .int) 2 := ⟨k342, k56, k343, (by decide +kernel)⟩
end
section
/-! the pictures: what a block of cells is, of numbers; iteration; calls that answer a function of the start -/
abbrev jF : Type := Nat → Int32
def jR (v : Option Value) (B : List va_W) : Option Value → List va_W → Prop := fun r b => r = v ∧ b = B
def lf (L : jF) : List Value := [.int (L 0), .int (L 1), .int (L 2), .int (L 3), .int (L 4), .int (L 5), .int (L 6), .int (L 7), .int (L 8)]
def lb (a : Nat) (L : jF) : va_W := [(a, .inr (2, lf L))]
def lts (X : List (Nat × jF)) : va_W := X.map (fun q => (q.1, .inr (2, lf q.2)))
def lrf (X : List (Nat × jF)) : Nat → Option Nat := fun i => (X[i]?).map (fun q => q.1)
def bc (g : jG) (d : Nat → Nat) (I : jF) (A : Nat → jF) (r : Nat → Option Nat) : va_W :=
  [(d 0, .inr (0, [.ref (d 1), .int (I 1), .ref (d 2), .ref (d 3), .int (I 4), .int (I 5), .int (I 6), .ref (d 4), .int (I 8), .int (I 9)])),
   (d 1, .inl (g.2.2 4, 10, .inr (.inr (.inr (.inr r))))), (d 2, .inl (g.2.2 1, 6, .inl (A 0))), (d 3, .inl (g.2.2 1, 6, .inl (A 1))), (d 4, .inl (g.2.2 1, 3, .inl (A 2)))]
def hc (g : jG) (d : Nat → Nat) (I : jF) (r : Nat → Option Nat) : va_W := [(d 0, .inr (1, [.ref (d 1), .int (I 1), .int (I 2)])), (d 1, .inl (g.2.2 3, 8, .inr (.inr (.inr (.inr r)))))]
def pcc (g : jG) (d : Nat → Nat) (I : jF) (A : Nat → jF) : va_W := [(d 0, .inr (3, [.ref (d 1), .ref (d 2), .int (I 2), .int (I 3)])), (d 1, .inl (g.2.2 0, 1024, .inl (A 0))), (d 2, .inl (g.2.2 1, 10, .inl (A 1)))]
def rc (g : jG) (d : Nat → Nat) (A : Nat → jF) : va_W := [(d 0, .inr (4, [.ref (d 1), .ref (d 2)])), (d 1, .inl (g.2.2 1, 201, .inl (A 0))), (d 2, .inl (g.2.2 1, 201, .inl (A 1)))]
def tc (g : jG) (d : Nat → Nat) (I : jF) (f : jF) : va_W := [(d 0, .inr (5, [.ref (d 1), .int (I 1), .int (I 2), .int (I 3)])), (d 1, .inl (g.2.2 0, 80, .inl f))]
def xc (d : Nat → Nat) : va_W := [(d 0, .inr (6, [.ref (d 1), .ref (d 2), .ref (d 3), .ref (d 4), .ref (d 5), .ref (d 6)]))]
def mc (g : jG) (d : Nat → Nat) (I : jF) (A : Nat → jF) : va_W :=
  [(d 0, .inr (7, [.ref (d 1), .int (I 1), .ref (d 2), .int (I 3), .int (I 4), .int (I 5), .ref (d 3), .ref (d 4), .int (I 8), .int (I 9), .ref (d 5), .ref (d 6), .ref (d 7), .ref (d 8), .ref (d 9), .ref (d 10)])),
   (d 1, .inl (g.2.2 1, 999, .inl (A 1))), (d 2, .inl (g.2.2 1, 80, .inl (A 2))), (d 3, .inl (g.2.2 1, 50, .inl (A 3))), (d 4, .inl (g.2.2 1, 12, .inl (A 4))), (d 5, .inl (g.2.2 1, 201, .inl (A 5))),
   (d 6, .inl (g.2.2 2, 201, .inl (A 6))), (d 7, .inl (g.2.2 1, 1024, .inl (A 7))), (d 8, .inl (g.2.2 1, 1024, .inl (A 8))), (d 9, .inl (g.2.2 2, 1024, .inl (A 9))), (d 10, .inl (g.2.2 1, 10, .inl (A 10)))]
def jiter {σ : Type} (f : Nat → σ → σ) (s : σ) : Nat → σ
  | 0 => s
  | i + 1 => f i (jiter f s i)
theorem jne {x c : Int32} (h : ¬ x = c) : x.toInt ≠ c.toInt := fun e => h (Int32.toInt_inj.mp e)
theorem jt_all : ∀ k : Nat, k < 32 → (Int32.ofNat k).toInt = k := by decide
theorem jin {x : Int32} {N : Nat} (h1 : ¬ x < 0) (h2 : ¬ nI N ≤ x) (hN : N < 2 ^ 31) : vp_in x N := by
  rw [vp_in_iff]
  simp only [Int32.lt_iff_toInt_lt, Int32.le_iff_toInt_le, Int32.toInt_zero, nI_toInt hN] at h1 h2
  omega
theorem jout2 {x : Int32} (s0 : ¬ x = 0) (s1 : ¬ x = 1) : x.toInt < 0 ∨ 1 < x.toInt := by
  have q0 : x.toInt ≠ 0 := fun e => s0 (Int32.toInt_inj.mp e)
  have q1 : x.toInt ≠ 1 := fun e => s1 (Int32.toInt_inj.mp e)
  omega
theorem jout3 {x : Int32} (s0 : ¬ x = 0) (s1 : ¬ x = 1) (s2 : ¬ x = 2) : x.toInt < 0 ∨ 2 < x.toInt := by
  have q0 : x.toInt ≠ 0 := fun e => s0 (Int32.toInt_inj.mp e)
  have q1 : x.toInt ≠ 1 := fun e => s1 (Int32.toInt_inj.mp e)
  have q2 : x.toInt ≠ 2 := fun e => s2 (Int32.toInt_inj.mp e)
  omega
theorem jout4 {x : Int32} (s0 : ¬ x = 0) (s1 : ¬ x = 1) (s2 : ¬ x = 2) (s3 : ¬ x = 3) : x.toInt < 0 ∨ 3 < x.toInt := by
  have q0 : x.toInt ≠ 0 := fun e => s0 (Int32.toInt_inj.mp e)
  have q1 : x.toInt ≠ 1 := fun e => s1 (Int32.toInt_inj.mp e)
  have q2 : x.toInt ≠ 2 := fun e => s2 (Int32.toInt_inj.mp e)
  have q3 : x.toInt ≠ 3 := fun e => s3 (Int32.toInt_inj.mp e)
  omega
theorem jout5 {x : Int32} (s0 : ¬ x = 0) (s1 : ¬ x = 1) (s2 : ¬ x = 2) (s3 : ¬ x = 3) (s4 : ¬ x = 4) : x.toInt < 0 ∨ 4 < x.toInt := by
  have q0 : x.toInt ≠ 0 := fun e => s0 (Int32.toInt_inj.mp e)
  have q1 : x.toInt ≠ 1 := fun e => s1 (Int32.toInt_inj.mp e)
  have q2 : x.toInt ≠ 2 := fun e => s2 (Int32.toInt_inj.mp e)
  have q3 : x.toInt ≠ 3 := fun e => s3 (Int32.toInt_inj.mp e)
  have q4 : x.toInt ≠ 4 := fun e => s4 (Int32.toInt_inj.mp e)
  omega
theorem jout6 {x : Int32} (s0 : ¬ x = 0) (s1 : ¬ x = 1) (s2 : ¬ x = 2) (s3 : ¬ x = 3) (s4 : ¬ x = 4) (s5 : ¬ x = 5) : x.toInt < 0 ∨ 5 < x.toInt := by
  have q0 : x.toInt ≠ 0 := fun e => s0 (Int32.toInt_inj.mp e)
  have q1 : x.toInt ≠ 1 := fun e => s1 (Int32.toInt_inj.mp e)
  have q2 : x.toInt ≠ 2 := fun e => s2 (Int32.toInt_inj.mp e)
  have q3 : x.toInt ≠ 3 := fun e => s3 (Int32.toInt_inj.mp e)
  have q4 : x.toInt ≠ 4 := fun e => s4 (Int32.toInt_inj.mp e)
  have q5 : x.toInt ≠ 5 := fun e => s5 (Int32.toInt_inj.mp e)
  omega
theorem jout7 {x : Int32} (s0 : ¬ x = 0) (s1 : ¬ x = 1) (s2 : ¬ x = 2) (s3 : ¬ x = 3) (s4 : ¬ x = 4) (s5 : ¬ x = 5) (s6 : ¬ x = 6) : x.toInt < 0 ∨ 6 < x.toInt := by
  have q0 : x.toInt ≠ 0 := fun e => s0 (Int32.toInt_inj.mp e)
  have q1 : x.toInt ≠ 1 := fun e => s1 (Int32.toInt_inj.mp e)
  have q2 : x.toInt ≠ 2 := fun e => s2 (Int32.toInt_inj.mp e)
  have q3 : x.toInt ≠ 3 := fun e => s3 (Int32.toInt_inj.mp e)
  have q4 : x.toInt ≠ 4 := fun e => s4 (Int32.toInt_inj.mp e)
  have q5 : x.toInt ≠ 5 := fun e => s5 (Int32.toInt_inj.mp e)
  have q6 : x.toInt ≠ 6 := fun e => s6 (Int32.toInt_inj.mp e)
  omega
theorem jout11 {x : Int32} (s0 : ¬ x = 0) (s1 : ¬ x = 1) (s2 : ¬ x = 2) (s3 : ¬ x = 3) (s4 : ¬ x = 4) (s5 : ¬ x = 5) (s6 : ¬ x = 6) (s7 : ¬ x = 7) (s8 : ¬ x = 8) (s9 : ¬ x = 9) (s10 : ¬ x = 10) : x.toInt < 0 ∨ 10 < x.toInt := by
  have q0 : x.toInt ≠ 0 := fun e => s0 (Int32.toInt_inj.mp e)
  have q1 : x.toInt ≠ 1 := fun e => s1 (Int32.toInt_inj.mp e)
  have q2 : x.toInt ≠ 2 := fun e => s2 (Int32.toInt_inj.mp e)
  have q3 : x.toInt ≠ 3 := fun e => s3 (Int32.toInt_inj.mp e)
  have q4 : x.toInt ≠ 4 := fun e => s4 (Int32.toInt_inj.mp e)
  have q5 : x.toInt ≠ 5 := fun e => s5 (Int32.toInt_inj.mp e)
  have q6 : x.toInt ≠ 6 := fun e => s6 (Int32.toInt_inj.mp e)
  have q7 : x.toInt ≠ 7 := fun e => s7 (Int32.toInt_inj.mp e)
  have q8 : x.toInt ≠ 8 := fun e => s8 (Int32.toInt_inj.mp e)
  have q9 : x.toInt ≠ 9 := fun e => s9 (Int32.toInt_inj.mp e)
  have q10 : x.toInt ≠ 10 := fun e => s10 (Int32.toInt_inj.mp e)
  omega
theorem jout13 {x : Int32} (s0 : ¬ x = 0) (s1 : ¬ x = 1) (s2 : ¬ x = 2) (s3 : ¬ x = 3) (s4 : ¬ x = 4) (s5 : ¬ x = 5) (s6 : ¬ x = 6) (s7 : ¬ x = 7) (s8 : ¬ x = 8) (s9 : ¬ x = 9) (s10 : ¬ x = 10) (s11 : ¬ x = 11) (s12 : ¬ x = 12) : x.toInt < 0 ∨ 12 < x.toInt := by
  have q0 : x.toInt ≠ 0 := fun e => s0 (Int32.toInt_inj.mp e)
  have q1 : x.toInt ≠ 1 := fun e => s1 (Int32.toInt_inj.mp e)
  have q2 : x.toInt ≠ 2 := fun e => s2 (Int32.toInt_inj.mp e)
  have q3 : x.toInt ≠ 3 := fun e => s3 (Int32.toInt_inj.mp e)
  have q4 : x.toInt ≠ 4 := fun e => s4 (Int32.toInt_inj.mp e)
  have q5 : x.toInt ≠ 5 := fun e => s5 (Int32.toInt_inj.mp e)
  have q6 : x.toInt ≠ 6 := fun e => s6 (Int32.toInt_inj.mp e)
  have q7 : x.toInt ≠ 7 := fun e => s7 (Int32.toInt_inj.mp e)
  have q8 : x.toInt ≠ 8 := fun e => s8 (Int32.toInt_inj.mp e)
  have q9 : x.toInt ≠ 9 := fun e => s9 (Int32.toInt_inj.mp e)
  have q10 : x.toInt ≠ 10 := fun e => s10 (Int32.toInt_inj.mp e)
  have q11 : x.toInt ≠ 11 := fun e => s11 (Int32.toInt_inj.mp e)
  have q12 : x.toInt ≠ 12 := fun e => s12 (Int32.toInt_inj.mp e)
  omega
theorem jout14 {x : Int32} (s0 : ¬ x = 0) (s1 : ¬ x = 1) (s2 : ¬ x = 2) (s3 : ¬ x = 3) (s4 : ¬ x = 4) (s5 : ¬ x = 5) (s6 : ¬ x = 6) (s7 : ¬ x = 7) (s8 : ¬ x = 8) (s9 : ¬ x = 9) (s10 : ¬ x = 10) (s11 : ¬ x = 11) (s12 : ¬ x = 12) (s13 : ¬ x = 13) : x.toInt < 0 ∨ 13 < x.toInt := by
  have q0 : x.toInt ≠ 0 := fun e => s0 (Int32.toInt_inj.mp e)
  have q1 : x.toInt ≠ 1 := fun e => s1 (Int32.toInt_inj.mp e)
  have q2 : x.toInt ≠ 2 := fun e => s2 (Int32.toInt_inj.mp e)
  have q3 : x.toInt ≠ 3 := fun e => s3 (Int32.toInt_inj.mp e)
  have q4 : x.toInt ≠ 4 := fun e => s4 (Int32.toInt_inj.mp e)
  have q5 : x.toInt ≠ 5 := fun e => s5 (Int32.toInt_inj.mp e)
  have q6 : x.toInt ≠ 6 := fun e => s6 (Int32.toInt_inj.mp e)
  have q7 : x.toInt ≠ 7 := fun e => s7 (Int32.toInt_inj.mp e)
  have q8 : x.toInt ≠ 8 := fun e => s8 (Int32.toInt_inj.mp e)
  have q9 : x.toInt ≠ 9 := fun e => s9 (Int32.toInt_inj.mp e)
  have q10 : x.toInt ≠ 10 := fun e => s10 (Int32.toInt_inj.mp e)
  have q11 : x.toInt ≠ 11 := fun e => s11 (Int32.toInt_inj.mp e)
  have q12 : x.toInt ≠ 12 := fun e => s12 (Int32.toInt_inj.mp e)
  have q13 : x.toInt ≠ 13 := fun e => s13 (Int32.toInt_inj.mp e)
  omega
theorem jout28 {x : Int32} (s0 : ¬ x = 0) (s1 : ¬ x = 1) (s2 : ¬ x = 2) (s3 : ¬ x = 3) (s4 : ¬ x = 4) (s5 : ¬ x = 5) (s6 : ¬ x = 6) (s7 : ¬ x = 7) (s8 : ¬ x = 8) (s9 : ¬ x = 9) (s10 : ¬ x = 10) (s11 : ¬ x = 11) (s12 : ¬ x = 12) (s13 : ¬ x = 13) (s14 : ¬ x = 14) (s15 : ¬ x = 15) (s16 : ¬ x = 16) (s17 : ¬ x = 17) (s18 : ¬ x = 18) (s19 : ¬ x = 19) (s20 : ¬ x = 20) (s21 : ¬ x = 21) (s22 : ¬ x = 22) (s23 : ¬ x = 23) (s24 : ¬ x = 24) (s25 : ¬ x = 25) (s26 : ¬ x = 26) (s27 : ¬ x = 27) : x.toInt < 0 ∨ 27 < x.toInt := by
  have q0 : x.toInt ≠ 0 := fun e => s0 (Int32.toInt_inj.mp e)
  have q1 : x.toInt ≠ 1 := fun e => s1 (Int32.toInt_inj.mp e)
  have q2 : x.toInt ≠ 2 := fun e => s2 (Int32.toInt_inj.mp e)
  have q3 : x.toInt ≠ 3 := fun e => s3 (Int32.toInt_inj.mp e)
  have q4 : x.toInt ≠ 4 := fun e => s4 (Int32.toInt_inj.mp e)
  have q5 : x.toInt ≠ 5 := fun e => s5 (Int32.toInt_inj.mp e)
  have q6 : x.toInt ≠ 6 := fun e => s6 (Int32.toInt_inj.mp e)
  have q7 : x.toInt ≠ 7 := fun e => s7 (Int32.toInt_inj.mp e)
  have q8 : x.toInt ≠ 8 := fun e => s8 (Int32.toInt_inj.mp e)
  have q9 : x.toInt ≠ 9 := fun e => s9 (Int32.toInt_inj.mp e)
  have q10 : x.toInt ≠ 10 := fun e => s10 (Int32.toInt_inj.mp e)
  have q11 : x.toInt ≠ 11 := fun e => s11 (Int32.toInt_inj.mp e)
  have q12 : x.toInt ≠ 12 := fun e => s12 (Int32.toInt_inj.mp e)
  have q13 : x.toInt ≠ 13 := fun e => s13 (Int32.toInt_inj.mp e)
  have q14 : x.toInt ≠ 14 := fun e => s14 (Int32.toInt_inj.mp e)
  have q15 : x.toInt ≠ 15 := fun e => s15 (Int32.toInt_inj.mp e)
  have q16 : x.toInt ≠ 16 := fun e => s16 (Int32.toInt_inj.mp e)
  have q17 : x.toInt ≠ 17 := fun e => s17 (Int32.toInt_inj.mp e)
  have q18 : x.toInt ≠ 18 := fun e => s18 (Int32.toInt_inj.mp e)
  have q19 : x.toInt ≠ 19 := fun e => s19 (Int32.toInt_inj.mp e)
  have q20 : x.toInt ≠ 20 := fun e => s20 (Int32.toInt_inj.mp e)
  have q21 : x.toInt ≠ 21 := fun e => s21 (Int32.toInt_inj.mp e)
  have q22 : x.toInt ≠ 22 := fun e => s22 (Int32.toInt_inj.mp e)
  have q23 : x.toInt ≠ 23 := fun e => s23 (Int32.toInt_inj.mp e)
  have q24 : x.toInt ≠ 24 := fun e => s24 (Int32.toInt_inj.mp e)
  have q25 : x.toInt ≠ 25 := fun e => s25 (Int32.toInt_inj.mp e)
  have q26 : x.toInt ≠ 26 := fun e => s26 (Int32.toInt_inj.mp e)
  have q27 : x.toInt ≠ 27 := fun e => s27 (Int32.toInt_inj.mp e)
  omega
theorem joutL6_7 {x : Int32} (s0 : ¬ x = 6) (s1 : ¬ x = 7) (s2 : ¬ x = 8) (s3 : ¬ x = 9) (s4 : ¬ x = 10) (s5 : ¬ x = 11) (s6 : ¬ x = 12) : x.toInt < 6 ∨ 12 < x.toInt := by
  have q0 : x.toInt ≠ 6 := fun e => s0 (Int32.toInt_inj.mp e)
  have q1 : x.toInt ≠ 7 := fun e => s1 (Int32.toInt_inj.mp e)
  have q2 : x.toInt ≠ 8 := fun e => s2 (Int32.toInt_inj.mp e)
  have q3 : x.toInt ≠ 9 := fun e => s3 (Int32.toInt_inj.mp e)
  have q4 : x.toInt ≠ 10 := fun e => s4 (Int32.toInt_inj.mp e)
  have q5 : x.toInt ≠ 11 := fun e => s5 (Int32.toInt_inj.mp e)
  have q6 : x.toInt ≠ 12 := fun e => s6 (Int32.toInt_inj.mp e)
  omega
theorem Con.imp {g : jG} {y : MethodName} {cc : ByteArray} {nL : Nat} {ret : Option FieldType} {fr lo mc ms : Nat} {av : List Value} {bl : List va_W} {Post Post' : Option Value → List va_W → Prop} (h : Con g y cc nL ret fr lo mc ms av bl Post) (hi : ∀ r b, Post r b → Post' r b) : Con g y cc nL ret fr lo mc ms av bl Post' := by
  intro sz
  intro p e ha hc hk s m args below hf happ hP hK
  obtain ⟨n, o, h1, h2, h3, ⟨⟨r, b1, q1, q2, q3, q4⟩, q5⟩, h5⟩ := h sz p e ha hc hk s m args below hf happ hP hK
  exact ⟨n, o, h1, h2, h3, ⟨⟨r, b1, q1, hi _ _ q2, q3, q4⟩, q5⟩, h5⟩
section JR
variable {g : jG} {R : Room} {E : jE} {cc : ByteArray} {own : String} {nL pc : Nat} {lv : List (Nat × Value)} {st : List Value} {bl : List va_W} {k n : Nat}
theorem j_case {x : Int32} (v : Int32) (h1 : x = v → J g R E nL pc lv (.int x :: st) bl k n) (h2 : ¬ x = v → J g R E nL pc lv (.int x :: st) bl k n) : J g R E nL pc lv (.int x :: st) bl k n := by
  by_cases h : x = v
  · exact h1 h
  · exact h2 h
theorem jerase {α : Type} {a : α} : ∀ {l : List α} {i : Nat}, l[i]? = some a → l.Perm (a :: l.eraseIdx i)
  | [], i, h => by simp at h
  | x :: t, 0, h => by
    have e : x = a := by simpa using h
    subst e
    exact List.Perm.refl _
  | x :: t, i + 1, h => by
    have h1 := jerase (l := t) (i := i) (a := a) (by simpa using h)
    rw [List.eraseIdx_cons_succ]
    exact (h1.cons x).trans (List.Perm.swap a x _)
theorem lts_erase {X : List (Nat × jF)} {i a : Nat} {L : jF} (hX : X[i]? = some (a, L)) : (lts X).Perm (lb a L ++ lts (X.eraseIdx i)) :=
  (jerase hX).map (fun q : Nat × jF => ((q.1, .inr (2, lf q.2)) : Nat × va_E))
theorem j_focus (i bi : Nat) {X : List (Nat × jF)} {a : Nat} {L : jF} (hX : X[i]? = some (a, L)) (hb : bl[bi]? = some (lts X)) (kk : J g R E nL pc lv st (bl.set bi (lts (X.eraseIdx i)) ++ [lb a L]) k n) : J g R E nL pc lv st bl k n := by
  refine j_perm ?_ kk
  have hlt := (List.getElem?_eq_some_iff.mp hb).1
  have h1 := jset_flat (c := lts X) hlt
  rw [jset_self hb] at h1
  have h2 := jset_flat (c := lts (X.eraseIdx i)) hlt
  rw [List.flatten_append]
  refine h1.trans ?_
  refine (((lts_erase hX).append_right _)).trans ?_
  rw [List.append_assoc]
  refine (List.perm_append_comm).trans ?_
  rw [show ([lb a L] : List va_W).flatten = lb a L by simp]
  exact h2.symm.append_right _
theorem j_unfocus (i bi : Nat) {X : List (Nat × jF)} {a : Nat} {L0 L : jF} (hX : X[i]? = some (a, L0)) (hb : bl[bi]? = some (lts (X.eraseIdx i))) (hl : bl.getLast? = some (lb a L)) (hn : Nat.blt (bi + 1) bl.length = true) (kk : J g R E nL pc lv st (bl.set bi (lts (X.set i (a, L)))).dropLast k n) : J g R E nL pc lv st bl k n := by
  refine j_perm ?_ kk
  have hn : bi + 1 < bl.length := Nat.le_of_ble_eq_true hn
  obtain ⟨b0, rfl⟩ : ∃ b0, bl = b0 ++ [lb a L] := by
    obtain ⟨ys, hys⟩ := List.getLast?_eq_some_iff.mp hl
    exact ⟨ys, hys⟩
  have hlt : bi < b0.length := by simp at hn; omega
  rw [List.getElem?_append_left hlt] at hb
  rw [List.set_append_left _ _ hlt, List.dropLast_concat]
  have hX2 : (X.set i (a, L))[i]? = some (a, L) := by
    rw [List.getElem?_set_self (List.getElem?_eq_some_iff.mp hX).1]
  have h1 := jset_flat (c := lts (X.eraseIdx i)) hlt
  rw [jset_self hb] at h1
  have h2 := jset_flat (c := lts (X.set i (a, L))) hlt
  have h3 := lts_erase hX2
  rw [List.eraseIdx_set_eq] at h3
  rw [List.flatten_append, show ([lb a L] : List va_W).flatten = lb a L by simp]
  refine (List.perm_append_comm).trans ?_
  refine (h1.append_left _).trans ?_
  rw [← List.append_assoc]
  exact (h3.symm.append_right _).trans h2.symm
theorem lts_same {X : List (Nat × jF)} {i a : Nat} {L : jF} (hX : X[i]? = some (a, L)) : X.set i (a, L) = X := by
  apply List.ext_getElem?
  intro j
  by_cases hj : i = j
  · subst hj
    rw [List.getElem?_set_self (List.getElem?_eq_some_iff.mp hX).1, hX]
  · rw [List.getElem?_set_ne hj]
theorem j_callVR (hC : jC g R E cc own nL) {y : MethodName} {cy : ByteArray} {nLy fr lo mc ms index a ci : Nat} {ret : Option FieldType} {As rest : List Value} {blc B1 : List va_W} {v : Option Value} {fs : List Value} (ic : List Nat) (hcon : Con g y cy nLy ret fr lo mc ms (.ref a :: As) blc (jR v B1)) (hM : jM y cy nLy ret As.length) (hlink : Cond.methodLink own index y ∈ jT) (hst : st = As.reverse ++ .ref a :: rest) (hbl : ic.map (fun i => bl[i]?) = blc.map some) (hnd : va_nd ic = true) (hrv : jat blc 0 0 = some (a, .inr (ci, fs))) (hcl : (vwCl[ci]?).map (fun q => q.1) = some y.cls)
    (hR : fr + 1 ≤ R.frames ∧ 8 + (nLy + 11) + lo ≤ R.locals) (hcat : (rest.map fun v => v.category).sum ≤ 8) (hkn : k + mc ≤ R.cells ∧ n + ms ≤ R.slots) (hd : decode cc pc = .ok (.invokevirtual index, 3))
    (kk : J g R E nL (pc + 3) lv (jstk v rest) (jrepl bl ic B1) (k + mc) (n + ms)) : J g R E nL pc lv st bl k n :=
  j_callV hC ic hcon hM hlink hst hbl hnd hrv hcl hR hcat hkn hd (fun r b1 hp _ => by obtain ⟨rfl, rfl⟩ := hp; exact kk)
theorem j_callSR (hC : jC g R E cc own nL) {y : MethodName} {cy : ByteArray} {nLy fr lo mc ms index : Nat} {ret : Option FieldType} {As rest : List Value} {blc B1 : List va_W} {v : Option Value} (ic : List Nat) (hcon : Con g y cy nLy ret fr lo mc ms As blc (jR v B1)) (hM : jMs y cy nLy ret As.length) (hlink : Cond.methodLink own index y ∈ jT) (hst : st = As.reverse ++ rest) (hbl : ic.map (fun i => bl[i]?) = blc.map some) (hnd : va_nd ic = true)
    (hR : fr + 1 ≤ R.frames ∧ 8 + (nLy + 11) + lo ≤ R.locals) (hcat : (rest.map fun v => v.category).sum ≤ 8) (hkn : k + mc ≤ R.cells ∧ n + ms ≤ R.slots) (hd : decode cc pc = .ok (.invokestatic index, 3))
    (kk : J g R E nL (pc + 3) lv (jstk v rest) (jrepl bl ic B1) (k + mc) (n + ms)) : J g R E nL pc lv st bl k n :=
  j_callS hC ic hcon hM hlink hst hbl hnd hR hcat hkn hd (fun r b1 hp _ => by obtain ⟨rfl, rfl⟩ := hp; exact kk)
theorem j_callSNR (hC : jC g R E cc own nL) {y : MethodName} {cy : ByteArray} {nLy fr lo mc ms index : Nat} {host : String} {ret : Option FieldType} {As rest : List Value} {blc B1 : List va_W} {v : Option Value} (ic : List Nat) (hcon : Con g y cy nLy ret fr lo mc ms As blc (jR v B1)) (hM : jMs y cy nLy ret As.length) (hlink : Cond.methodLinkNest own index y host ∈ jNw) (hst : st = As.reverse ++ rest) (hbl : ic.map (fun i => bl[i]?) = blc.map some) (hnd : va_nd ic = true)
    (hR : fr + 1 ≤ R.frames ∧ 8 + (nLy + 11) + lo ≤ R.locals) (hcat : (rest.map fun v => v.category).sum ≤ 8) (hkn : k + mc ≤ R.cells ∧ n + ms ≤ R.slots) (hd : decode cc pc = .ok (.invokestatic index, 3))
    (kk : J g R E nL (pc + 3) lv (jstk v rest) (jrepl bl ic B1) (k + mc) (n + ms)) : J g R E nL pc lv st bl k n :=
  j_callSN hC ic hcon hM hlink hst hbl hnd hR hcat hkn hd (fun r b1 hp _ => by obtain ⟨rfl, rfl⟩ := hp; exact kk)
theorem j_callIR (hC : jC g R E cc own nL) {y : MethodName} {cy : ByteArray} {nLy fr lo mc ms index a : Nat} {As rest : List Value} {blc B1 : List va_W} {v : Option Value} (ic : List Nat) (hcon : Con g y cy nLy none fr lo mc ms (.ref a :: As) blc (jR v B1)) (hM : jMi y cy nLy As.length) (hlink : Cond.methodLink own index y ∈ jT) (hst : st = As.reverse ++ .ref a :: rest) (hbl : ic.map (fun i => bl[i]?) = blc.map some) (hnd : va_nd ic = true)
    (hR : fr + 1 ≤ R.frames ∧ 8 + (nLy + 11) + lo ≤ R.locals) (hcat : (rest.map fun v => v.category).sum ≤ 8) (hkn : k + mc ≤ R.cells ∧ n + ms ≤ R.slots) (hd : decode cc pc = .ok (.invokespecial index, 3))
    (kk : J g R E nL (pc + 3) lv (jstk v rest) (jrepl bl ic B1) (k + mc) (n + ms)) : J g R E nL pc lv st bl k n :=
  j_callI hC ic hcon hM hlink hst hbl hnd hR hcat hkn hd (fun r b1 hp _ => by obtain ⟨rfl, rfl⟩ := hp; exact kk)
theorem j_callINR (hC : jC g R E cc own nL) {y : MethodName} {cy : ByteArray} {nLy fr lo mc ms index a : Nat} {host : String} {As rest : List Value} {blc B1 : List va_W} {v : Option Value} (ic : List Nat) (hcon : Con g y cy nLy none fr lo mc ms (.ref a :: As) blc (jR v B1)) (hM : jMi y cy nLy As.length) (hlink : Cond.methodLinkNest own index y host ∈ jNw) (hst : st = As.reverse ++ .ref a :: rest) (hbl : ic.map (fun i => bl[i]?) = blc.map some) (hnd : va_nd ic = true)
    (hR : fr + 1 ≤ R.frames ∧ 8 + (nLy + 11) + lo ≤ R.locals) (hcat : (rest.map fun v => v.category).sum ≤ 8) (hkn : k + mc ≤ R.cells ∧ n + ms ≤ R.slots) (hd : decode cc pc = .ok (.invokespecial index, 3))
    (kk : J g R E nL (pc + 3) lv (jstk v rest) (jrepl bl ic B1) (k + mc) (n + ms)) : J g R E nL pc lv st bl k n :=
  j_callIN hC ic hcon hM hlink hst hbl hnd hR hcat hkn hd (fun r b1 hp _ => by obtain ⟨rfl, rfl⟩ := hp; exact kk)
theorem j_put_0_1 (hC : jC g R E cc own nL) {d : Nat → Nat} {I : jF} {A : Nat → jF} {r : Nat → Option Nat} {bi index : Nat} {v : Int32} (hb : bl[bi]? = some (bc g d I A r)) (hlink : Cond.fieldLink own index (TX0 1).1 (TX0 1).2.1 (TX0 1).2.2.1 ∈ jT) (hd : decode cc pc = .ok (.putfield index, 3)) (kk : J g R E nL (pc + 3) lv st (bl.set bi (bc g d (upd I 1 v) A r)) k n) : J g R E nL pc lv (.int v :: .ref (d 0) :: st) bl k n :=
  j_put hC uX0 hb (bj := 0) rfl (kf := 1) (by decide) hlink rfl rfl rfl (Nat.le_of_ble_eq_true rfl) hd kk
theorem j_put_0_4 (hC : jC g R E cc own nL) {d : Nat → Nat} {I : jF} {A : Nat → jF} {r : Nat → Option Nat} {bi index : Nat} {v : Int32} (hb : bl[bi]? = some (bc g d I A r)) (hlink : Cond.fieldLink own index (TX0 4).1 (TX0 4).2.1 (TX0 4).2.2.1 ∈ jT) (hd : decode cc pc = .ok (.putfield index, 3)) (kk : J g R E nL (pc + 3) lv st (bl.set bi (bc g d (upd I 4 v) A r)) k n) : J g R E nL pc lv (.int v :: .ref (d 0) :: st) bl k n :=
  j_put hC uX0 hb (bj := 0) rfl (kf := 4) (by decide) hlink rfl rfl rfl (Nat.le_of_ble_eq_true rfl) hd kk
theorem j_put_0_5 (hC : jC g R E cc own nL) {d : Nat → Nat} {I : jF} {A : Nat → jF} {r : Nat → Option Nat} {bi index : Nat} {v : Int32} (hb : bl[bi]? = some (bc g d I A r)) (hlink : Cond.fieldLink own index (TX0 5).1 (TX0 5).2.1 (TX0 5).2.2.1 ∈ jT) (hd : decode cc pc = .ok (.putfield index, 3)) (kk : J g R E nL (pc + 3) lv st (bl.set bi (bc g d (upd I 5 v) A r)) k n) : J g R E nL pc lv (.int v :: .ref (d 0) :: st) bl k n :=
  j_put hC uX0 hb (bj := 0) rfl (kf := 5) (by decide) hlink rfl rfl rfl (Nat.le_of_ble_eq_true rfl) hd kk
theorem j_put_0_6 (hC : jC g R E cc own nL) {d : Nat → Nat} {I : jF} {A : Nat → jF} {r : Nat → Option Nat} {bi index : Nat} {v : Int32} (hb : bl[bi]? = some (bc g d I A r)) (hlink : Cond.fieldLink own index (TX0 6).1 (TX0 6).2.1 (TX0 6).2.2.1 ∈ jT) (hd : decode cc pc = .ok (.putfield index, 3)) (kk : J g R E nL (pc + 3) lv st (bl.set bi (bc g d (upd I 6 v) A r)) k n) : J g R E nL pc lv (.int v :: .ref (d 0) :: st) bl k n :=
  j_put hC uX0 hb (bj := 0) rfl (kf := 6) (by decide) hlink rfl rfl rfl (Nat.le_of_ble_eq_true rfl) hd kk
theorem j_put_0_8 (hC : jC g R E cc own nL) {d : Nat → Nat} {I : jF} {A : Nat → jF} {r : Nat → Option Nat} {bi index : Nat} {v : Int32} (hb : bl[bi]? = some (bc g d I A r)) (hlink : Cond.fieldLink own index (TX0 8).1 (TX0 8).2.1 (TX0 8).2.2.1 ∈ jT) (hd : decode cc pc = .ok (.putfield index, 3)) (kk : J g R E nL (pc + 3) lv st (bl.set bi (bc g d (upd I 8 v) A r)) k n) : J g R E nL pc lv (.int v :: .ref (d 0) :: st) bl k n :=
  j_put hC uX0 hb (bj := 0) rfl (kf := 8) (by decide) hlink rfl rfl rfl (Nat.le_of_ble_eq_true rfl) hd kk
theorem j_put_0_9 (hC : jC g R E cc own nL) {d : Nat → Nat} {I : jF} {A : Nat → jF} {r : Nat → Option Nat} {bi index : Nat} {v : Int32} (hb : bl[bi]? = some (bc g d I A r)) (hlink : Cond.fieldLink own index (TX0 9).1 (TX0 9).2.1 (TX0 9).2.2.1 ∈ jT) (hd : decode cc pc = .ok (.putfield index, 3)) (kk : J g R E nL (pc + 3) lv st (bl.set bi (bc g d (upd I 9 v) A r)) k n) : J g R E nL pc lv (.int v :: .ref (d 0) :: st) bl k n :=
  j_put hC uX0 hb (bj := 0) rfl (kf := 9) (by decide) hlink rfl rfl rfl (Nat.le_of_ble_eq_true rfl) hd kk
theorem j_put_1_1 (hC : jC g R E cc own nL) {d : Nat → Nat} {I : jF} {r : Nat → Option Nat} {bi index : Nat} {v : Int32} (hb : bl[bi]? = some (hc g d I r)) (hlink : Cond.fieldLink own index (TX1 1).1 (TX1 1).2.1 (TX1 1).2.2.1 ∈ jT) (hd : decode cc pc = .ok (.putfield index, 3)) (kk : J g R E nL (pc + 3) lv st (bl.set bi (hc g d (upd I 1 v) r)) k n) : J g R E nL pc lv (.int v :: .ref (d 0) :: st) bl k n :=
  j_put hC uX1 hb (bj := 0) rfl (kf := 1) (by decide) hlink rfl rfl rfl (Nat.le_of_ble_eq_true rfl) hd kk
theorem j_put_1_2 (hC : jC g R E cc own nL) {d : Nat → Nat} {I : jF} {r : Nat → Option Nat} {bi index : Nat} {v : Int32} (hb : bl[bi]? = some (hc g d I r)) (hlink : Cond.fieldLink own index (TX1 2).1 (TX1 2).2.1 (TX1 2).2.2.1 ∈ jT) (hd : decode cc pc = .ok (.putfield index, 3)) (kk : J g R E nL (pc + 3) lv st (bl.set bi (hc g d (upd I 2 v) r)) k n) : J g R E nL pc lv (.int v :: .ref (d 0) :: st) bl k n :=
  j_put hC uX1 hb (bj := 0) rfl (kf := 2) (by decide) hlink rfl rfl rfl (Nat.le_of_ble_eq_true rfl) hd kk
theorem j_put_2_0 (hC : jC g R E cc own nL) {a : Nat} {L : jF} {bi index : Nat} {v : Int32} (hb : bl[bi]? = some (lb a L)) (hlink : Cond.fieldLink own index (TX2 0).1 (TX2 0).2.1 (TX2 0).2.2.1 ∈ jT) (hd : decode cc pc = .ok (.putfield index, 3)) (kk : J g R E nL (pc + 3) lv st (bl.set bi (lb a (upd L 0 v))) k n) : J g R E nL pc lv (.int v :: .ref (a) :: st) bl k n :=
  j_put hC uX2 hb (bj := 0) rfl (kf := 0) (by decide) hlink rfl rfl rfl (Nat.le_of_ble_eq_true rfl) hd kk
theorem j_put_2_1 (hC : jC g R E cc own nL) {a : Nat} {L : jF} {bi index : Nat} {v : Int32} (hb : bl[bi]? = some (lb a L)) (hlink : Cond.fieldLink own index (TX2 1).1 (TX2 1).2.1 (TX2 1).2.2.1 ∈ jT) (hd : decode cc pc = .ok (.putfield index, 3)) (kk : J g R E nL (pc + 3) lv st (bl.set bi (lb a (upd L 1 v))) k n) : J g R E nL pc lv (.int v :: .ref (a) :: st) bl k n :=
  j_put hC uX2 hb (bj := 0) rfl (kf := 1) (by decide) hlink rfl rfl rfl (Nat.le_of_ble_eq_true rfl) hd kk
theorem j_put_2_2 (hC : jC g R E cc own nL) {a : Nat} {L : jF} {bi index : Nat} {v : Int32} (hb : bl[bi]? = some (lb a L)) (hlink : Cond.fieldLink own index (TX2 2).1 (TX2 2).2.1 (TX2 2).2.2.1 ∈ jT) (hd : decode cc pc = .ok (.putfield index, 3)) (kk : J g R E nL (pc + 3) lv st (bl.set bi (lb a (upd L 2 v))) k n) : J g R E nL pc lv (.int v :: .ref (a) :: st) bl k n :=
  j_put hC uX2 hb (bj := 0) rfl (kf := 2) (by decide) hlink rfl rfl rfl (Nat.le_of_ble_eq_true rfl) hd kk
theorem j_put_2_3 (hC : jC g R E cc own nL) {a : Nat} {L : jF} {bi index : Nat} {v : Int32} (hb : bl[bi]? = some (lb a L)) (hlink : Cond.fieldLink own index (TX2 3).1 (TX2 3).2.1 (TX2 3).2.2.1 ∈ jT) (hd : decode cc pc = .ok (.putfield index, 3)) (kk : J g R E nL (pc + 3) lv st (bl.set bi (lb a (upd L 3 v))) k n) : J g R E nL pc lv (.int v :: .ref (a) :: st) bl k n :=
  j_put hC uX2 hb (bj := 0) rfl (kf := 3) (by decide) hlink rfl rfl rfl (Nat.le_of_ble_eq_true rfl) hd kk
theorem j_put_2_4 (hC : jC g R E cc own nL) {a : Nat} {L : jF} {bi index : Nat} {v : Int32} (hb : bl[bi]? = some (lb a L)) (hlink : Cond.fieldLink own index (TX2 4).1 (TX2 4).2.1 (TX2 4).2.2.1 ∈ jT) (hz : v = 0 ∨ v = 1) (hd : decode cc pc = .ok (.putfield index, 3)) (kk : J g R E nL (pc + 3) lv st (bl.set bi (lb a (upd L 4 v))) k n) : J g R E nL pc lv (.int v :: .ref (a) :: st) bl k n :=
  j_put hC uX2 hb (bj := 0) rfl (kf := 4) (by decide) hlink rfl (by rcases hz with h | h <;> subst h <;> rfl) (by rcases hz with h | h <;> subst h <;> rfl) (Nat.le_of_ble_eq_true rfl) hd kk
theorem j_put_2_5 (hC : jC g R E cc own nL) {a : Nat} {L : jF} {bi index : Nat} {v : Int32} (hb : bl[bi]? = some (lb a L)) (hlink : Cond.fieldLink own index (TX2 5).1 (TX2 5).2.1 (TX2 5).2.2.1 ∈ jT) (hd : decode cc pc = .ok (.putfield index, 3)) (kk : J g R E nL (pc + 3) lv st (bl.set bi (lb a (upd L 5 v))) k n) : J g R E nL pc lv (.int v :: .ref (a) :: st) bl k n :=
  j_put hC uX2 hb (bj := 0) rfl (kf := 5) (by decide) hlink rfl rfl rfl (Nat.le_of_ble_eq_true rfl) hd kk
theorem j_put_2_6 (hC : jC g R E cc own nL) {a : Nat} {L : jF} {bi index : Nat} {v : Int32} (hb : bl[bi]? = some (lb a L)) (hlink : Cond.fieldLink own index (TX2 6).1 (TX2 6).2.1 (TX2 6).2.2.1 ∈ jT) (hd : decode cc pc = .ok (.putfield index, 3)) (kk : J g R E nL (pc + 3) lv st (bl.set bi (lb a (upd L 6 v))) k n) : J g R E nL pc lv (.int v :: .ref (a) :: st) bl k n :=
  j_put hC uX2 hb (bj := 0) rfl (kf := 6) (by decide) hlink rfl rfl rfl (Nat.le_of_ble_eq_true rfl) hd kk
theorem j_put_2_7 (hC : jC g R E cc own nL) {a : Nat} {L : jF} {bi index : Nat} {v : Int32} (hb : bl[bi]? = some (lb a L)) (hlink : Cond.fieldLink own index (TX2 7).1 (TX2 7).2.1 (TX2 7).2.2.1 ∈ jT) (hd : decode cc pc = .ok (.putfield index, 3)) (kk : J g R E nL (pc + 3) lv st (bl.set bi (lb a (upd L 7 v))) k n) : J g R E nL pc lv (.int v :: .ref (a) :: st) bl k n :=
  j_put hC uX2 hb (bj := 0) rfl (kf := 7) (by decide) hlink rfl rfl rfl (Nat.le_of_ble_eq_true rfl) hd kk
theorem j_put_2_8 (hC : jC g R E cc own nL) {a : Nat} {L : jF} {bi index : Nat} {v : Int32} (hb : bl[bi]? = some (lb a L)) (hlink : Cond.fieldLink own index (TX2 8).1 (TX2 8).2.1 (TX2 8).2.2.1 ∈ jT) (hd : decode cc pc = .ok (.putfield index, 3)) (kk : J g R E nL (pc + 3) lv st (bl.set bi (lb a (upd L 8 v))) k n) : J g R E nL pc lv (.int v :: .ref (a) :: st) bl k n :=
  j_put hC uX2 hb (bj := 0) rfl (kf := 8) (by decide) hlink rfl rfl rfl (Nat.le_of_ble_eq_true rfl) hd kk
theorem j_put_3_2 (hC : jC g R E cc own nL) {d : Nat → Nat} {I : jF} {A : Nat → jF} {bi index : Nat} {v : Int32} (hb : bl[bi]? = some (pcc g d I A)) (hlink : Cond.fieldLink own index (TX3 2).1 (TX3 2).2.1 (TX3 2).2.2.1 ∈ jT) (hd : decode cc pc = .ok (.putfield index, 3)) (kk : J g R E nL (pc + 3) lv st (bl.set bi (pcc g d (upd I 2 v) A)) k n) : J g R E nL pc lv (.int v :: .ref (d 0) :: st) bl k n :=
  j_put hC uX3 hb (bj := 0) rfl (kf := 2) (by decide) hlink rfl rfl rfl (Nat.le_of_ble_eq_true rfl) hd kk
theorem j_put_3_3 (hC : jC g R E cc own nL) {d : Nat → Nat} {I : jF} {A : Nat → jF} {bi index : Nat} {v : Int32} (hb : bl[bi]? = some (pcc g d I A)) (hlink : Cond.fieldLink own index (TX3 3).1 (TX3 3).2.1 (TX3 3).2.2.1 ∈ jT) (hz : v = 0 ∨ v = 1) (hd : decode cc pc = .ok (.putfield index, 3)) (kk : J g R E nL (pc + 3) lv st (bl.set bi (pcc g d (upd I 3 v) A)) k n) : J g R E nL pc lv (.int v :: .ref (d 0) :: st) bl k n :=
  j_put hC uX3 hb (bj := 0) rfl (kf := 3) (by decide) hlink rfl (by rcases hz with h | h <;> subst h <;> rfl) (by rcases hz with h | h <;> subst h <;> rfl) (Nat.le_of_ble_eq_true rfl) hd kk
theorem j_put_5_1 (hC : jC g R E cc own nL) {d : Nat → Nat} {I f : jF} {bi index : Nat} {v : Int32} (hb : bl[bi]? = some (tc g d I f)) (hlink : Cond.fieldLink own index (TX5 1).1 (TX5 1).2.1 (TX5 1).2.2.1 ∈ jT) (hd : decode cc pc = .ok (.putfield index, 3)) (kk : J g R E nL (pc + 3) lv st (bl.set bi (tc g d (upd I 1 v) f)) k n) : J g R E nL pc lv (.int v :: .ref (d 0) :: st) bl k n :=
  j_put hC uX5 hb (bj := 0) rfl (kf := 1) (by decide) hlink rfl rfl rfl (Nat.le_of_ble_eq_true rfl) hd kk
theorem j_put_5_2 (hC : jC g R E cc own nL) {d : Nat → Nat} {I f : jF} {bi index : Nat} {v : Int32} (hb : bl[bi]? = some (tc g d I f)) (hlink : Cond.fieldLink own index (TX5 2).1 (TX5 2).2.1 (TX5 2).2.2.1 ∈ jT) (hd : decode cc pc = .ok (.putfield index, 3)) (kk : J g R E nL (pc + 3) lv st (bl.set bi (tc g d (upd I 2 v) f)) k n) : J g R E nL pc lv (.int v :: .ref (d 0) :: st) bl k n :=
  j_put hC uX5 hb (bj := 0) rfl (kf := 2) (by decide) hlink rfl rfl rfl (Nat.le_of_ble_eq_true rfl) hd kk
theorem j_put_5_3 (hC : jC g R E cc own nL) {d : Nat → Nat} {I f : jF} {bi index : Nat} {v : Int32} (hb : bl[bi]? = some (tc g d I f)) (hlink : Cond.fieldLink own index (TX5 3).1 (TX5 3).2.1 (TX5 3).2.2.1 ∈ jT) (hd : decode cc pc = .ok (.putfield index, 3)) (kk : J g R E nL (pc + 3) lv st (bl.set bi (tc g d (upd I 3 v) f)) k n) : J g R E nL pc lv (.int v :: .ref (d 0) :: st) bl k n :=
  j_put hC uX5 hb (bj := 0) rfl (kf := 3) (by decide) hlink rfl rfl rfl (Nat.le_of_ble_eq_true rfl) hd kk
theorem j_put_7_1 (hC : jC g R E cc own nL) {d : Nat → Nat} {I : jF} {A : Nat → jF} {bi index : Nat} {v : Int32} (hb : bl[bi]? = some (mc g d I A)) (hlink : Cond.fieldLink own index (TX7 1).1 (TX7 1).2.1 (TX7 1).2.2.1 ∈ jT) (hd : decode cc pc = .ok (.putfield index, 3)) (kk : J g R E nL (pc + 3) lv st (bl.set bi (mc g d (upd I 1 v) A)) k n) : J g R E nL pc lv (.int v :: .ref (d 0) :: st) bl k n :=
  j_put hC uX7 hb (bj := 0) rfl (kf := 1) (by decide) hlink rfl rfl rfl (Nat.le_of_ble_eq_true rfl) hd kk
theorem j_put_7_3 (hC : jC g R E cc own nL) {d : Nat → Nat} {I : jF} {A : Nat → jF} {bi index : Nat} {v : Int32} (hb : bl[bi]? = some (mc g d I A)) (hlink : Cond.fieldLink own index (TX7 3).1 (TX7 3).2.1 (TX7 3).2.2.1 ∈ jT) (hd : decode cc pc = .ok (.putfield index, 3)) (kk : J g R E nL (pc + 3) lv st (bl.set bi (mc g d (upd I 3 v) A)) k n) : J g R E nL pc lv (.int v :: .ref (d 0) :: st) bl k n :=
  j_put hC uX7 hb (bj := 0) rfl (kf := 3) (by decide) hlink rfl rfl rfl (Nat.le_of_ble_eq_true rfl) hd kk
theorem j_put_7_4 (hC : jC g R E cc own nL) {d : Nat → Nat} {I : jF} {A : Nat → jF} {bi index : Nat} {v : Int32} (hb : bl[bi]? = some (mc g d I A)) (hlink : Cond.fieldLink own index (TX7 4).1 (TX7 4).2.1 (TX7 4).2.2.1 ∈ jT) (hd : decode cc pc = .ok (.putfield index, 3)) (kk : J g R E nL (pc + 3) lv st (bl.set bi (mc g d (upd I 4 v) A)) k n) : J g R E nL pc lv (.int v :: .ref (d 0) :: st) bl k n :=
  j_put hC uX7 hb (bj := 0) rfl (kf := 4) (by decide) hlink rfl rfl rfl (Nat.le_of_ble_eq_true rfl) hd kk
theorem j_put_7_5 (hC : jC g R E cc own nL) {d : Nat → Nat} {I : jF} {A : Nat → jF} {bi index : Nat} {v : Int32} (hb : bl[bi]? = some (mc g d I A)) (hlink : Cond.fieldLink own index (TX7 5).1 (TX7 5).2.1 (TX7 5).2.2.1 ∈ jT) (hd : decode cc pc = .ok (.putfield index, 3)) (kk : J g R E nL (pc + 3) lv st (bl.set bi (mc g d (upd I 5 v) A)) k n) : J g R E nL pc lv (.int v :: .ref (d 0) :: st) bl k n :=
  j_put hC uX7 hb (bj := 0) rfl (kf := 5) (by decide) hlink rfl rfl rfl (Nat.le_of_ble_eq_true rfl) hd kk
theorem j_put_7_8 (hC : jC g R E cc own nL) {d : Nat → Nat} {I : jF} {A : Nat → jF} {bi index : Nat} {v : Int32} (hb : bl[bi]? = some (mc g d I A)) (hlink : Cond.fieldLink own index (TX7 8).1 (TX7 8).2.1 (TX7 8).2.2.1 ∈ jT) (hd : decode cc pc = .ok (.putfield index, 3)) (kk : J g R E nL (pc + 3) lv st (bl.set bi (mc g d (upd I 8 v) A)) k n) : J g R E nL pc lv (.int v :: .ref (d 0) :: st) bl k n :=
  j_put hC uX7 hb (bj := 0) rfl (kf := 8) (by decide) hlink rfl rfl rfl (Nat.le_of_ble_eq_true rfl) hd kk
theorem j_put_7_9 (hC : jC g R E cc own nL) {d : Nat → Nat} {I : jF} {A : Nat → jF} {bi index : Nat} {v : Int32} (hb : bl[bi]? = some (mc g d I A)) (hlink : Cond.fieldLink own index (TX7 9).1 (TX7 9).2.1 (TX7 9).2.2.1 ∈ jT) (hd : decode cc pc = .ok (.putfield index, 3)) (kk : J g R E nL (pc + 3) lv st (bl.set bi (mc g d (upd I 9 v) A)) k n) : J g R E nL pc lv (.int v :: .ref (d 0) :: st) bl k n :=
  j_put hC uX7 hb (bj := 0) rfl (kf := 9) (by decide) hlink rfl rfl rfl (Nat.le_of_ble_eq_true rfl) hd kk
theorem j_ast_0_0 (hC : jC g R E cc own nL) {d : Nat → Nat} {I : jF} {A : Nat → jF} {r : Nat → Option Nat} {bi : Nat} {i x : Int32} (hb : bl[bi]? = some (bc g d I A r)) (hin : vp_in i 6) (hd : decode cc pc = .ok (.iastore, 1)) (kk : J g R E nL (pc + 1) lv st (bl.set bi (bc g d I (va_up A 0 (upd (A 0) i.toNatClampNeg x)) r)) k n) : J g R E nL pc lv (.int x :: .int i :: .ref (d 2) :: st) bl k n :=
  j_iast hC hb (bj := 2) rfl hin hd kk
theorem j_ast_0_1 (hC : jC g R E cc own nL) {d : Nat → Nat} {I : jF} {A : Nat → jF} {r : Nat → Option Nat} {bi : Nat} {i x : Int32} (hb : bl[bi]? = some (bc g d I A r)) (hin : vp_in i 6) (hd : decode cc pc = .ok (.iastore, 1)) (kk : J g R E nL (pc + 1) lv st (bl.set bi (bc g d I (va_up A 1 (upd (A 1) i.toNatClampNeg x)) r)) k n) : J g R E nL pc lv (.int x :: .int i :: .ref (d 3) :: st) bl k n :=
  j_iast hC hb (bj := 3) rfl hin hd kk
theorem j_ast_0_2 (hC : jC g R E cc own nL) {d : Nat → Nat} {I : jF} {A : Nat → jF} {r : Nat → Option Nat} {bi : Nat} {i x : Int32} (hb : bl[bi]? = some (bc g d I A r)) (hin : vp_in i 3) (hd : decode cc pc = .ok (.iastore, 1)) (kk : J g R E nL (pc + 1) lv st (bl.set bi (bc g d I (va_up A 2 (upd (A 2) i.toNatClampNeg x)) r)) k n) : J g R E nL pc lv (.int x :: .int i :: .ref (d 4) :: st) bl k n :=
  j_iast hC hb (bj := 4) rfl hin hd kk
theorem j_ast_3_0 (hC : jC g R E cc own nL) {d : Nat → Nat} {I : jF} {A : Nat → jF} {bi : Nat} {i x : Int32} (hb : bl[bi]? = some (pcc g d I A)) (hin : vp_in i 1024) (hd : decode cc pc = .ok (.bastore, 1)) (kk : J g R E nL (pc + 1) lv st (bl.set bi (pcc g d I (va_up A 0 (upd (A 0) i.toNatClampNeg (vp_nar .byte x))))) k n) : J g R E nL pc lv (.int x :: .int i :: .ref (d 1) :: st) bl k n :=
  j_bast hC hb (bj := 1) rfl hin hd kk
theorem j_ast_3_1 (hC : jC g R E cc own nL) {d : Nat → Nat} {I : jF} {A : Nat → jF} {bi : Nat} {i x : Int32} (hb : bl[bi]? = some (pcc g d I A)) (hin : vp_in i 10) (hd : decode cc pc = .ok (.iastore, 1)) (kk : J g R E nL (pc + 1) lv st (bl.set bi (pcc g d I (va_up A 1 (upd (A 1) i.toNatClampNeg x)))) k n) : J g R E nL pc lv (.int x :: .int i :: .ref (d 2) :: st) bl k n :=
  j_iast hC hb (bj := 2) rfl hin hd kk
theorem j_ast_4_0 (hC : jC g R E cc own nL) {d : Nat → Nat} {A : Nat → jF} {bi : Nat} {i x : Int32} (hb : bl[bi]? = some (rc g d A)) (hin : vp_in i 201) (hd : decode cc pc = .ok (.iastore, 1)) (kk : J g R E nL (pc + 1) lv st (bl.set bi (rc g d (va_up A 0 (upd (A 0) i.toNatClampNeg x)))) k n) : J g R E nL pc lv (.int x :: .int i :: .ref (d 1) :: st) bl k n :=
  j_iast hC hb (bj := 1) rfl hin hd kk
theorem j_ast_4_1 (hC : jC g R E cc own nL) {d : Nat → Nat} {A : Nat → jF} {bi : Nat} {i x : Int32} (hb : bl[bi]? = some (rc g d A)) (hin : vp_in i 201) (hd : decode cc pc = .ok (.iastore, 1)) (kk : J g R E nL (pc + 1) lv st (bl.set bi (rc g d (va_up A 1 (upd (A 1) i.toNatClampNeg x)))) k n) : J g R E nL pc lv (.int x :: .int i :: .ref (d 2) :: st) bl k n :=
  j_iast hC hb (bj := 2) rfl hin hd kk
theorem j_ast_5_0 (hC : jC g R E cc own nL) {d : Nat → Nat} {I f : jF} {bi : Nat} {i x : Int32} (hb : bl[bi]? = some (tc g d I f)) (hin : vp_in i 80) (hd : decode cc pc = .ok (.bastore, 1)) (kk : J g R E nL (pc + 1) lv st (bl.set bi (tc g d I (upd f i.toNatClampNeg (vp_nar .byte x)))) k n) : J g R E nL pc lv (.int x :: .int i :: .ref (d 1) :: st) bl k n :=
  j_bast hC hb (bj := 1) rfl hin hd kk
theorem j_ast_7_1 (hC : jC g R E cc own nL) {d : Nat → Nat} {I : jF} {A : Nat → jF} {bi : Nat} {i x : Int32} (hb : bl[bi]? = some (mc g d I A)) (hin : vp_in i 999) (hd : decode cc pc = .ok (.iastore, 1)) (kk : J g R E nL (pc + 1) lv st (bl.set bi (mc g d I (va_up A 1 (upd (A 1) i.toNatClampNeg x)))) k n) : J g R E nL pc lv (.int x :: .int i :: .ref (d 1) :: st) bl k n :=
  j_iast hC hb (bj := 1) rfl hin hd kk
theorem j_ast_7_2 (hC : jC g R E cc own nL) {d : Nat → Nat} {I : jF} {A : Nat → jF} {bi : Nat} {i x : Int32} (hb : bl[bi]? = some (mc g d I A)) (hin : vp_in i 80) (hd : decode cc pc = .ok (.iastore, 1)) (kk : J g R E nL (pc + 1) lv st (bl.set bi (mc g d I (va_up A 2 (upd (A 2) i.toNatClampNeg x)))) k n) : J g R E nL pc lv (.int x :: .int i :: .ref (d 2) :: st) bl k n :=
  j_iast hC hb (bj := 2) rfl hin hd kk
theorem j_ast_7_3 (hC : jC g R E cc own nL) {d : Nat → Nat} {I : jF} {A : Nat → jF} {bi : Nat} {i x : Int32} (hb : bl[bi]? = some (mc g d I A)) (hin : vp_in i 50) (hd : decode cc pc = .ok (.iastore, 1)) (kk : J g R E nL (pc + 1) lv st (bl.set bi (mc g d I (va_up A 3 (upd (A 3) i.toNatClampNeg x)))) k n) : J g R E nL pc lv (.int x :: .int i :: .ref (d 3) :: st) bl k n :=
  j_iast hC hb (bj := 3) rfl hin hd kk
theorem j_ast_7_4 (hC : jC g R E cc own nL) {d : Nat → Nat} {I : jF} {A : Nat → jF} {bi : Nat} {i x : Int32} (hb : bl[bi]? = some (mc g d I A)) (hin : vp_in i 12) (hd : decode cc pc = .ok (.iastore, 1)) (kk : J g R E nL (pc + 1) lv st (bl.set bi (mc g d I (va_up A 4 (upd (A 4) i.toNatClampNeg x)))) k n) : J g R E nL pc lv (.int x :: .int i :: .ref (d 4) :: st) bl k n :=
  j_iast hC hb (bj := 4) rfl hin hd kk
theorem j_ast_7_5 (hC : jC g R E cc own nL) {d : Nat → Nat} {I : jF} {A : Nat → jF} {bi : Nat} {i x : Int32} (hb : bl[bi]? = some (mc g d I A)) (hin : vp_in i 201) (hd : decode cc pc = .ok (.iastore, 1)) (kk : J g R E nL (pc + 1) lv st (bl.set bi (mc g d I (va_up A 5 (upd (A 5) i.toNatClampNeg x)))) k n) : J g R E nL pc lv (.int x :: .int i :: .ref (d 5) :: st) bl k n :=
  j_iast hC hb (bj := 5) rfl hin hd kk
theorem j_ast_7_7 (hC : jC g R E cc own nL) {d : Nat → Nat} {I : jF} {A : Nat → jF} {bi : Nat} {i x : Int32} (hb : bl[bi]? = some (mc g d I A)) (hin : vp_in i 1024) (hd : decode cc pc = .ok (.iastore, 1)) (kk : J g R E nL (pc + 1) lv st (bl.set bi (mc g d I (va_up A 7 (upd (A 7) i.toNatClampNeg x)))) k n) : J g R E nL pc lv (.int x :: .int i :: .ref (d 7) :: st) bl k n :=
  j_iast hC hb (bj := 7) rfl hin hd kk
theorem j_ast_7_8 (hC : jC g R E cc own nL) {d : Nat → Nat} {I : jF} {A : Nat → jF} {bi : Nat} {i x : Int32} (hb : bl[bi]? = some (mc g d I A)) (hin : vp_in i 1024) (hd : decode cc pc = .ok (.iastore, 1)) (kk : J g R E nL (pc + 1) lv st (bl.set bi (mc g d I (va_up A 8 (upd (A 8) i.toNatClampNeg x)))) k n) : J g R E nL pc lv (.int x :: .int i :: .ref (d 8) :: st) bl k n :=
  j_iast hC hb (bj := 8) rfl hin hd kk
theorem j_ast_7_10 (hC : jC g R E cc own nL) {d : Nat → Nat} {I : jF} {A : Nat → jF} {bi : Nat} {i x : Int32} (hb : bl[bi]? = some (mc g d I A)) (hin : vp_in i 10) (hd : decode cc pc = .ok (.iastore, 1)) (kk : J g R E nL (pc + 1) lv st (bl.set bi (mc g d I (va_up A 10 (upd (A 10) i.toNatClampNeg x)))) k n) : J g R E nL pc lv (.int x :: .int i :: .ref (d 10) :: st) bl k n :=
  j_iast hC hb (bj := 10) rfl hin hd kk
theorem j_ast_7_6 (hC : jC g R E cc own nL) {d : Nat → Nat} {I : jF} {A : Nat → jF} {bi : Nat} {i x : Int32} (hb : bl[bi]? = some (mc g d I A)) (hin : vp_in i 201) (hd : decode cc pc = .ok (.bastore, 1)) (kk : J g R E nL (pc + 1) lv st (bl.set bi (mc g d I (va_up A 6 (upd (A 6) i.toNatClampNeg (vp_nar .boolean x))))) k n) : J g R E nL pc lv (.int x :: .int i :: .ref (d 6) :: st) bl k n :=
  j_zast hC hb (bj := 6) rfl hin hd kk
theorem j_ast_7_9 (hC : jC g R E cc own nL) {d : Nat → Nat} {I : jF} {A : Nat → jF} {bi : Nat} {i x : Int32} (hb : bl[bi]? = some (mc g d I A)) (hin : vp_in i 1024) (hd : decode cc pc = .ok (.bastore, 1)) (kk : J g R E nL (pc + 1) lv st (bl.set bi (mc g d I (va_up A 9 (upd (A 9) i.toNatClampNeg (vp_nar .boolean x))))) k n) : J g R E nL pc lv (.int x :: .int i :: .ref (d 9) :: st) bl k n :=
  j_zast hC hb (bj := 9) rfl hin hd kk
end JR
end
section
section JR2
variable {g : jG} {R : Room} {E : jE} {cc : ByteArray} {own : String} {nL pc : Nat} {lv : List (Nat × Value)} {st : List Value} {bl : List va_W} {k n : Nat}
theorem j_iincW (hC : jC g R E cc own nL) {i : Nat} {z : Int} {x : Int32} (v : Int32) (hd : decode cc pc = .ok (.iinc i z, 6)) (hg : lget lv i = some (.int x)) (hz : Int32.ofInt z = v) (hn : Nat.blt i nL = true) (ho : lord lv = true) (hf : lfree lv i = true) (kk : ∀ y : Int32, y = x + v → J g R E nL (pc + 6) (lset lv i (.int y)) st bl k n) : J g R E nL pc lv st bl k n := by
  intro H locs ls hP hS hl
  obtain ⟨q, hq⟩ := lget_pos hg
  exact lv_iincW hC.1 hC.2.1 hd hl hq (by rw [hz]) (Nat.le_of_ble_eq_true hn) rfl (fun ls' hl' => kk _ rfl H locs ls' hP hS (lset_has ho hf rfl hl'))
theorem j_eqfl (bl' : List va_W) (h : bl.flatten = bl'.flatten) (kk : J g R E nL pc lv st bl' k n) : J g R E nL pc lv st bl k n := j_perm (by rw [h]) kk
theorem lts_at {X : List (Nat × jF)} {i a bi : Nat} {L : jF} (hb : bl[bi]? = some (lts X)) (hX : X[i]? = some (a, L)) : ∃ q0 : Nat, bl.flatten[q0]? = some ((a, .inr (2, lf L)) : Nat × va_E) := by
  have h : (lts X)[i]? = some ((a, .inr (2, lf L)) : Nat × va_E) := by
    unfold lts
    rw [List.getElem?_map, hX]
    rfl
  obtain ⟨q0, h1, -⟩ := jflat hb h
  exact ⟨q0, h1⟩
theorem j_aast_0 (hC : jC g R E cc own nL) {d : Nat → Nat} {I : jF} {A : Nat → jF} {r : Nat → Option Nat} {bi v : Nat} {i : Int32} {vs : List Value} (hb : bl[bi]? = some (bc g d I A r)) (hv : ∃ q : Nat, bl.flatten[q]? = some ((v, .inr (2, vs)) : Nat × va_E)) (hin : vp_in i 10) (hd : decode cc pc = .ok (.aastore, 1)) (kk : J g R E nL (pc + 1) lv st (bl.set bi (bc g d I A (va_up r i.toNatClampNeg (some v)))) k n) : J g R E nL pc lv (.ref v :: .int i :: .ref (d 1) :: st) bl k n :=
  j_aast hC (bi2 := 0) (bj2 := 0) hb (bj := 1) rfl (t0 := 4) (r := (RX2, TX2, 9)) rfl hv rfl hin hd kk
theorem j_aast_1 (hC : jC g R E cc own nL) {d : Nat → Nat} {I : jF} {r : Nat → Option Nat} {bi v : Nat} {i : Int32} {vs : List Value} (hb : bl[bi]? = some (hc g d I r)) (hv : ∃ q : Nat, bl.flatten[q]? = some ((v, .inr (0, vs)) : Nat × va_E)) (hin : vp_in i 8) (hd : decode cc pc = .ok (.aastore, 1)) (kk : J g R E nL (pc + 1) lv st (bl.set bi (hc g d I (va_up r i.toNatClampNeg (some v)))) k n) : J g R E nL pc lv (.ref v :: .int i :: .ref (d 1) :: st) bl k n :=
  j_aast hC (bi2 := 0) (bj2 := 0) hb (bj := 1) rfl (t0 := 3) (r := (RX0, TX0, 10)) rfl hv rfl hin hd kk
theorem dft2 : ∀ j, j < 9 → defaultValue (tyX2 j) = vp_V (lf (fun _ => 0)) j := by
  intro j hj
  match j, hj with
  | 0, _ => rfl
  | 1, _ => rfl
  | 2, _ => rfl
  | 3, _ => rfl
  | 4, _ => rfl
  | 5, _ => rfl
  | 6, _ => rfl
  | 7, _ => rfl
  | 8, _ => rfl
  | n + 9, h => exact absurd h (by omega)
end JR2
end
section
theorem jz0 {x : Int32} (h : ¬ x = 0) : ¬ (0 : Int) = x.toInt := fun e => h (Int32.toInt_inj.mp e.symm)
theorem jz1 {x : Int32} (h : ¬ x = 1) : ¬ (1 : Int) = x.toInt := fun e => h (Int32.toInt_inj.mp e.symm)
/-! the class's lights: what each method answers, of the numbers of the light's cell -/
def rated (b : Int32) : Int32 := if b = 0 then 60 else if b = 1 then 90 else if b = 2 then 120 else 180
def wearOf (b : Int32) : Int32 := if b = 0 then 5 else if b = 1 then 4 else if b = 2 then 3 else 2
def lifeOf (l : Int32) : Int32 := if l = 0 then 3000 else if l = 1 then 6000 else 9000
def widthOf (l : Int32) : Int32 := if l = 0 then 4 else if l = 1 then 6 else 9
def jmin (x y : Int32) : Int32 := if y < x then y else x
def jmax (x y : Int32) : Int32 := if x < y then y else x
def jabs (x : Int32) : Int32 := if 0 ≤ x then x else 0 - x
def capL (L : jF) : Int32 := 5 * rated (L 2) * L 5 / 4000
def fullL (L : jF) : Int32 := 24 * capL L
def endL (L : jF) : Int32 := jmin (L 6 / 24) (L 7)
def restPass (L : jF) (h : Int32) : jF := if L 4 = 0 then L else upd L 7 (jmax 0 (L 7 - 60 * h))
def hoursL (L : jF) (h : Int32) : jF := upd (restPass L h) 6 (jmin (fullL (restPass L h)) (restPass L h 6 + h * capL (restPass L h)))
def ageL (L : jF) (p : Int32) : jF := upd (upd L 5 (jmax 0 (L 5 - p))) 6 (jmin (upd L 5 (jmax 0 (L 5 - p)) 6) (fullL (upd L 5 (jmax 0 (L 5 - p)))))
def burnMin (L : jF) : Int32 := jmin (endL L) (rated (L 2))
def burnL0 (L : jF) : jF := upd (upd L 7 (L 7 - burnMin L)) 6 (L 6 - 24 * burnMin L)
def burnL (L : jF) : jF := upd (ageL (burnL0 L) (wearOf (L 2))) 8 (burnMin L)
def putL (L : jF) (l : Int32) : jF := upd (upd L 3 l) 7 (lifeOf l)
def newL (p c b l m : Int32) : jF := fun i => match i with
  | 0 => p | 1 => c | 2 => b | 3 => l | 4 => m | 5 => 1000 | 6 => 24 * (5 * rated b * 1000 / 4000) | 7 => lifeOf l | _ => -9
def propL (L : jF) (w need : Int32) : Int32 := if w = 0 then L 0 else if w = 1 then L 1 else if w = 2 then L 2 else if w = 3 then L 3 else if w = 4 then (if L 4 = 0 then 0 else 1) else if w = 5 then L 5 else if w = 6 then capL L else if w = 7 then L 6 else if w = 8 then L 7 else if w = 9 then endL L else if w = 10 then (if need ≤ endL L then 1 else 0) else L 8
set_option maxHeartbeats 1000000 in
set_option maxRecDepth 100000 in
theorem c_X2_init (g : jG) (a : Nat) (L : jF) : Con g yX2_init cX2_init 1 none 1 16 0 0 [.ref a] [lb a L] (jR (none) [lb a L]) := by
  refine Con.of (own := RX2) (lv := [(0, .ref a)]) (by decide) rfl (Nat.le_of_ble_eq_true rfl) rfl ?_
  intro E hC hQ hN
  refine j_aload_n hC dX2_init_0 rfl rfl ?_
  refine j_objInit hC k261 k63 k64 (Nat.le_of_ble_eq_true rfl) (Nat.le_of_ble_eq_true rfl) dX2_init_1 ?_
  refine j_vret hC hQ rfl (Nat.le_of_ble_eq_true rfl) (Nat.le_of_ble_eq_true rfl) dX2_init_4 rfl ⟨?_, ?_⟩
  · first | rfl | (subst_vars; simp [jR, *]; done) | (subst_vars; simp_all [jR]; done)
  · rfl
set_option maxHeartbeats 1000000 in
set_option maxRecDepth 100000 in
theorem c_X2_ratedTime (g : jG) (a : Nat) (L : jF) : Con g yX2_ratedTime cX2_ratedTime 1 (some .int) 0 0 0 0 [.ref a] [lb a L] (jR (some (.int (rated (L 2)))) [lb a L]) := by
  refine Con.of (own := RX2) (lv := [(0, .ref a)]) (by decide) rfl (Nat.le_of_ble_eq_true rfl) rfl ?_
  intro E hC hQ hN
  refine j_aload_n hC dX2_ratedTime_0 rfl rfl ?_
  refine j_get hC uX2 0 0 2 rfl rfl k266 rfl dX2_ratedTime_1 ?_
  refine j_case (0) (fun s_4_0 => ?_) (fun s_4_0 => ?_)
  · refine j_tableIn hC dX2_ratedTime_4 (by rw [s_4_0]; decide) (by rw [s_4_0]; decide) (off := 28) (by rw [s_4_0]; rfl) (tgt := 32) (by decide) ?_
    refine j_bipush hC (60) dX2_ratedTime_32 (by decide) ?_
    refine j_iret hC hQ rfl rfl (Nat.le_of_ble_eq_true rfl) (Nat.le_of_ble_eq_true rfl) dX2_ratedTime_34 rfl ⟨?_, ?_⟩
    · first | rfl | (subst_vars; simp [rated, *]; done) | (subst_vars; simp_all [rated]; done)
    · rfl
  refine j_case (1) (fun s_4_1 => ?_) (fun s_4_1 => ?_)
  · refine j_tableIn hC dX2_ratedTime_4 (by rw [s_4_1]; decide) (by rw [s_4_1]; decide) (off := 31) (by rw [s_4_1]; rfl) (tgt := 35) (by decide) ?_
    refine j_bipush hC (90) dX2_ratedTime_35 (by decide) ?_
    refine j_iret hC hQ rfl rfl (Nat.le_of_ble_eq_true rfl) (Nat.le_of_ble_eq_true rfl) dX2_ratedTime_37 rfl ⟨?_, ?_⟩
    · first | rfl | (subst_vars; simp [rated, *]; done) | (subst_vars; simp_all [rated]; done)
    · rfl
  refine j_case (2) (fun s_4_2 => ?_) (fun s_4_2 => ?_)
  · refine j_tableIn hC dX2_ratedTime_4 (by rw [s_4_2]; decide) (by rw [s_4_2]; decide) (off := 34) (by rw [s_4_2]; rfl) (tgt := 38) (by decide) ?_
    refine j_bipush hC (120) dX2_ratedTime_38 (by decide) ?_
    refine j_iret hC hQ rfl rfl (Nat.le_of_ble_eq_true rfl) (Nat.le_of_ble_eq_true rfl) dX2_ratedTime_40 rfl ⟨?_, ?_⟩
    · first | rfl | (subst_vars; simp [rated, *]; done) | (subst_vars; simp_all [rated]; done)
    · rfl
  refine j_tableOut hC dX2_ratedTime_4 (jout3 s_4_0 s_4_1 s_4_2) (tgt := 41) (by decide) ?_
  refine j_sipush hC (180) dX2_ratedTime_41 (by decide) ?_
  refine j_iret hC hQ rfl rfl (Nat.le_of_ble_eq_true rfl) (Nat.le_of_ble_eq_true rfl) dX2_ratedTime_44 rfl ⟨?_, ?_⟩
  · first | rfl | (subst_vars; simp [rated, *]; done) | (subst_vars; simp_all [rated]; done)
  · rfl
set_option maxHeartbeats 1000000 in
set_option maxRecDepth 100000 in
theorem c_X2_wear (g : jG) (a : Nat) (L : jF) : Con g yX2_wear cX2_wear 1 (some .int) 0 0 0 0 [.ref a] [lb a L] (jR (some (.int (wearOf (L 2)))) [lb a L]) := by
  refine Con.of (own := RX2) (lv := [(0, .ref a)]) (by decide) rfl (Nat.le_of_ble_eq_true rfl) rfl ?_
  intro E hC hQ hN
  refine j_aload_n hC dX2_wear_0 rfl rfl ?_
  refine j_get hC uX2 0 0 2 rfl rfl k266 rfl dX2_wear_1 ?_
  refine j_case (0) (fun s_4_0 => ?_) (fun s_4_0 => ?_)
  · refine j_tableIn hC dX2_wear_4 (by rw [s_4_0]; decide) (by rw [s_4_0]; decide) (off := 28) (by rw [s_4_0]; rfl) (tgt := 32) (by decide) ?_
    refine j_iconst hC (5) dX2_wear_32 (by decide) ?_
    refine j_iret hC hQ rfl rfl (Nat.le_of_ble_eq_true rfl) (Nat.le_of_ble_eq_true rfl) dX2_wear_33 rfl ⟨?_, ?_⟩
    · first | rfl | (subst_vars; simp [wearOf, *]; done) | (subst_vars; simp_all [wearOf]; done)
    · rfl
  refine j_case (1) (fun s_4_1 => ?_) (fun s_4_1 => ?_)
  · refine j_tableIn hC dX2_wear_4 (by rw [s_4_1]; decide) (by rw [s_4_1]; decide) (off := 30) (by rw [s_4_1]; rfl) (tgt := 34) (by decide) ?_
    refine j_iconst hC (4) dX2_wear_34 (by decide) ?_
    refine j_iret hC hQ rfl rfl (Nat.le_of_ble_eq_true rfl) (Nat.le_of_ble_eq_true rfl) dX2_wear_35 rfl ⟨?_, ?_⟩
    · first | rfl | (subst_vars; simp [wearOf, *]; done) | (subst_vars; simp_all [wearOf]; done)
    · rfl
  refine j_case (2) (fun s_4_2 => ?_) (fun s_4_2 => ?_)
  · refine j_tableIn hC dX2_wear_4 (by rw [s_4_2]; decide) (by rw [s_4_2]; decide) (off := 32) (by rw [s_4_2]; rfl) (tgt := 36) (by decide) ?_
    refine j_iconst hC (3) dX2_wear_36 (by decide) ?_
    refine j_iret hC hQ rfl rfl (Nat.le_of_ble_eq_true rfl) (Nat.le_of_ble_eq_true rfl) dX2_wear_37 rfl ⟨?_, ?_⟩
    · first | rfl | (subst_vars; simp [wearOf, *]; done) | (subst_vars; simp_all [wearOf]; done)
    · rfl
  refine j_tableOut hC dX2_wear_4 (jout3 s_4_0 s_4_1 s_4_2) (tgt := 38) (by decide) ?_
  refine j_iconst hC (2) dX2_wear_38 (by decide) ?_
  refine j_iret hC hQ rfl rfl (Nat.le_of_ble_eq_true rfl) (Nat.le_of_ble_eq_true rfl) dX2_wear_39 rfl ⟨?_, ?_⟩
  · first | rfl | (subst_vars; simp [wearOf, *]; done) | (subst_vars; simp_all [wearOf]; done)
  · rfl
set_option maxHeartbeats 1000000 in
set_option maxRecDepth 100000 in
theorem c_X2_life (g : jG) (a : Nat) (L : jF) : Con g yX2_life cX2_life 1 (some .int) 0 0 0 0 [.ref a] [lb a L] (jR (some (.int (lifeOf (L 3)))) [lb a L]) := by
  refine Con.of (own := RX2) (lv := [(0, .ref a)]) (by decide) rfl (Nat.le_of_ble_eq_true rfl) rfl ?_
  intro E hC hQ hN
  refine j_aload_n hC dX2_life_0 rfl rfl ?_
  refine j_get hC uX2 0 0 3 rfl rfl k267 rfl dX2_life_1 ?_
  refine j_case (0) (fun s_4_0 => ?_) (fun s_4_0 => ?_)
  · refine j_lookup hC dX2_life_4 (by decide) (off := 28) (by rw [s_4_0]; decide) (tgt := 32) (by decide) ?_
    refine j_sipush hC (3000) dX2_life_32 (by decide) ?_
    refine j_iret hC hQ rfl rfl (Nat.le_of_ble_eq_true rfl) (Nat.le_of_ble_eq_true rfl) dX2_life_35 rfl ⟨?_, ?_⟩
    · first | rfl | (subst_vars; simp [lifeOf, *]; done) | (subst_vars; simp_all [lifeOf]; done)
    · rfl
  refine j_case (1) (fun s_4_1 => ?_) (fun s_4_1 => ?_)
  · refine j_lookup hC dX2_life_4 (by decide) (off := 32) (by rw [s_4_1]; decide) (tgt := 36) (by decide) ?_
    refine j_sipush hC (6000) dX2_life_36 (by decide) ?_
    refine j_iret hC hQ rfl rfl (Nat.le_of_ble_eq_true rfl) (Nat.le_of_ble_eq_true rfl) dX2_life_39 rfl ⟨?_, ?_⟩
    · first | rfl | (subst_vars; simp [lifeOf, *]; done) | (subst_vars; simp_all [lifeOf]; done)
    · rfl
  refine j_lookup hC dX2_life_4 (by decide) (off := 36) (by simp [Op.lookupswitch.offset, jz0 s_4_0, jz1 s_4_1]) (tgt := 40) (by decide) ?_
  refine j_sipush hC (9000) dX2_life_40 (by decide) ?_
  refine j_iret hC hQ rfl rfl (Nat.le_of_ble_eq_true rfl) (Nat.le_of_ble_eq_true rfl) dX2_life_43 rfl ⟨?_, ?_⟩
  · first | rfl | (subst_vars; simp [lifeOf, *]; done) | (subst_vars; simp_all [lifeOf]; done)
  · rfl
set_option maxHeartbeats 1000000 in
set_option maxRecDepth 100000 in
theorem c_X2_widthOf (g : jG) (x : Int32) : Con g yX2_widthOf cX2_widthOf 1 (some .int) 0 0 0 0 [.int x] [] (jR (some (.int (widthOf x))) []) := by
  refine Con.of (own := RX2) (lv := [(0, .int x)]) (by decide) rfl (Nat.le_of_ble_eq_true rfl) rfl ?_
  intro E hC hQ hN
  refine j_iload_n hC dX2_widthOf_0 rfl rfl ?_
  refine j_case (0) (fun s_1_0 => ?_) (fun s_1_0 => ?_)
  · refine j_lookup hC dX2_widthOf_1 (by decide) (off := 27) (by rw [s_1_0]; decide) (tgt := 28) (by decide) ?_
    refine j_iconst hC (4) dX2_widthOf_28 (by decide) ?_
    refine j_iret hC hQ rfl rfl (Nat.le_of_ble_eq_true rfl) (Nat.le_of_ble_eq_true rfl) dX2_widthOf_29 rfl ⟨?_, ?_⟩
    · first | rfl | (subst_vars; simp [widthOf, *]; done) | (subst_vars; simp_all [widthOf]; done)
    · rfl
  refine j_case (1) (fun s_1_1 => ?_) (fun s_1_1 => ?_)
  · refine j_lookup hC dX2_widthOf_1 (by decide) (off := 29) (by rw [s_1_1]; decide) (tgt := 30) (by decide) ?_
    refine j_bipush hC (6) dX2_widthOf_30 (by decide) ?_
    refine j_iret hC hQ rfl rfl (Nat.le_of_ble_eq_true rfl) (Nat.le_of_ble_eq_true rfl) dX2_widthOf_32 rfl ⟨?_, ?_⟩
    · first | rfl | (subst_vars; simp [widthOf, *]; done) | (subst_vars; simp_all [widthOf]; done)
    · rfl
  refine j_lookup hC dX2_widthOf_1 (by decide) (off := 32) (by simp [Op.lookupswitch.offset, jz0 s_1_0, jz1 s_1_1]) (tgt := 33) (by decide) ?_
  refine j_bipush hC (9) dX2_widthOf_33 (by decide) ?_
  refine j_iret hC hQ rfl rfl (Nat.le_of_ble_eq_true rfl) (Nat.le_of_ble_eq_true rfl) dX2_widthOf_35 rfl ⟨?_, ?_⟩
  · first | rfl | (subst_vars; simp [widthOf, *]; done) | (subst_vars; simp_all [widthOf]; done)
  · rfl
set_option maxHeartbeats 1000000 in
set_option maxRecDepth 100000 in
theorem c_X2_width (g : jG) (a : Nat) (L : jF) : Con g yX2_width cX2_width 1 (some .int) 1 20 0 0 [.ref a] [lb a L] (jR (some (.int (widthOf (L 3)))) [lb a L]) := by
  refine Con.of (own := RX2) (lv := [(0, .ref a)]) (by decide) rfl (Nat.le_of_ble_eq_true rfl) rfl ?_
  intro E hC hQ hN
  refine j_aload_n hC dX2_width_0 rfl rfl ?_
  refine j_get hC uX2 0 0 3 rfl rfl k267 rfl dX2_width_1 ?_
  refine j_callSR hC [] (c_X2_widthOf g _) mX2_widthOf k466 rfl rfl rfl ⟨(Nat.le_of_ble_eq_true rfl), (Nat.le_of_ble_eq_true rfl)⟩ (Nat.le_of_ble_eq_true rfl) ⟨(Nat.le_of_ble_eq_true rfl), (Nat.le_of_ble_eq_true rfl)⟩ dX2_width_4 ?_
  dsimp only [jrepl, List.set, jstk]
  refine j_iret hC hQ rfl rfl (Nat.le_of_ble_eq_true rfl) (Nat.le_of_ble_eq_true rfl) dX2_width_7 rfl ⟨?_, ?_⟩
  · first | rfl | (subst_vars; simp [jR, *]; done) | (subst_vars; simp_all [jR]; done)
  · rfl
set_option maxHeartbeats 1000000 in
set_option maxRecDepth 100000 in
theorem c_X2_capacity (g : jG) (a : Nat) (L : jF) : Con g yX2_capacity cX2_capacity 1 (some .int) 1 20 0 0 [.ref a] [lb a L] (jR (some (.int (capL L))) [lb a L]) := by
  refine Con.of (own := RX2) (lv := [(0, .ref a)]) (by decide) rfl (Nat.le_of_ble_eq_true rfl) rfl ?_
  intro E hC hQ hN
  refine j_iconst hC (5) dX2_capacity_0 (by decide) ?_
  refine j_aload_n hC dX2_capacity_1 rfl rfl ?_
  refine j_callVR hC [0] (c_X2_ratedTime g _ _) mX2_ratedTime k309 rfl rfl rfl rfl rfl ⟨(Nat.le_of_ble_eq_true rfl), (Nat.le_of_ble_eq_true rfl)⟩ (Nat.le_of_ble_eq_true rfl) ⟨(Nat.le_of_ble_eq_true rfl), (Nat.le_of_ble_eq_true rfl)⟩ dX2_capacity_2 ?_
  dsimp only [jrepl, List.set, jstk]
  refine j_imul hC dX2_capacity_5 ?_
  refine j_aload_n hC dX2_capacity_6 rfl rfl ?_
  refine j_get hC uX2 0 0 5 rfl rfl k271 rfl dX2_capacity_7 ?_
  refine j_imul hC dX2_capacity_10 ?_
  refine j_sipush hC (4000) dX2_capacity_11 (by decide) ?_
  refine j_idiv hC dX2_capacity_14 (by decide) ?_
  refine j_iret hC hQ rfl rfl (Nat.le_of_ble_eq_true rfl) (Nat.le_of_ble_eq_true rfl) dX2_capacity_15 rfl ⟨?_, ?_⟩
  · rfl
  · rfl
set_option maxHeartbeats 1000000 in
set_option maxRecDepth 100000 in
theorem c_X2_fullCharge (g : jG) (a : Nat) (L : jF) : Con g yX2_fullCharge cX2_fullCharge 1 (some .int) 2 40 0 0 [.ref a] [lb a L] (jR (some (.int (fullL L))) [lb a L]) := by
  refine Con.of (own := RX2) (lv := [(0, .ref a)]) (by decide) rfl (Nat.le_of_ble_eq_true rfl) rfl ?_
  intro E hC hQ hN
  refine j_bipush hC (24) dX2_fullCharge_0 (by decide) ?_
  refine j_aload_n hC dX2_fullCharge_2 rfl rfl ?_
  refine j_callVR hC [0] (c_X2_capacity g _ _) mX2_capacity k305 rfl rfl rfl rfl rfl ⟨(Nat.le_of_ble_eq_true rfl), (Nat.le_of_ble_eq_true rfl)⟩ (Nat.le_of_ble_eq_true rfl) ⟨(Nat.le_of_ble_eq_true rfl), (Nat.le_of_ble_eq_true rfl)⟩ dX2_fullCharge_3 ?_
  dsimp only [jrepl, List.set, jstk]
  refine j_imul hC dX2_fullCharge_6 ?_
  refine j_iret hC hQ rfl rfl (Nat.le_of_ble_eq_true rfl) (Nat.le_of_ble_eq_true rfl) dX2_fullCharge_7 rfl ⟨?_, ?_⟩
  · rfl
  · rfl
set_option maxHeartbeats 1000000 in
set_option maxRecDepth 100000 in
theorem c_X2_endurance (g : jG) (a : Nat) (L : jF) : Con g yX2_endurance cX2_endurance 1 (some .int) 1 18 0 0 [.ref a] [lb a L] (jR (some (.int (endL L))) [lb a L]) := by
  refine Con.of (own := RX2) (lv := [(0, .ref a)]) (by decide) rfl (Nat.le_of_ble_eq_true rfl) rfl ?_
  intro E hC hQ hN
  refine j_aload_n hC dX2_endurance_0 rfl rfl ?_
  refine j_get hC uX2 0 0 6 rfl rfl k273 rfl dX2_endurance_1 ?_
  refine j_bipush hC (24) dX2_endurance_4 (by decide) ?_
  refine j_idiv hC dX2_endurance_6 (by decide) ?_
  refine j_aload_n hC dX2_endurance_7 rfl rfl ?_
  refine j_get hC uX2 0 0 7 rfl rfl k275 rfl dX2_endurance_8 ?_
  refine j_min hC k461 k376 k56 k377 (Nat.le_of_ble_eq_true rfl) (Nat.le_of_ble_eq_true rfl) (Nat.le_of_ble_eq_true rfl) (Nat.le_of_ble_eq_true rfl) dX2_endurance_11 ?_
  refine j_iret hC hQ rfl rfl (Nat.le_of_ble_eq_true rfl) (Nat.le_of_ble_eq_true rfl) dX2_endurance_14 rfl ⟨?_, ?_⟩
  · rfl
  · rfl
set_option maxHeartbeats 1000000 in
set_option maxRecDepth 100000 in
theorem c_X2_isReady (g : jG) (a : Nat) (L : jF) (x : Int32) : Con g yX2_isReady cX2_isReady 2 (some .boolean) 2 38 0 0 [.ref a, .int x] [lb a L] (jR (some (.int (if x ≤ endL L then 1 else 0))) [lb a L]) := by
  refine Con.of (own := RX2) (lv := [(0, .ref a), (1, .int x)]) (by decide) rfl (Nat.le_of_ble_eq_true rfl) rfl ?_
  intro E hC hQ hN
  refine j_aload_n hC dX2_isReady_0 rfl rfl ?_
  refine j_callVR hC [0] (c_X2_endurance g _ _) mX2_endurance k524 rfl rfl rfl rfl rfl ⟨(Nat.le_of_ble_eq_true rfl), (Nat.le_of_ble_eq_true rfl)⟩ (Nat.le_of_ble_eq_true rfl) ⟨(Nat.le_of_ble_eq_true rfl), (Nat.le_of_ble_eq_true rfl)⟩ dX2_isReady_1 ?_
  dsimp only [jrepl, List.set, jstk]
  refine j_iload_n hC dX2_isReady_4 rfl rfl ?_
  refine j_icmp_lt hC dX2_isReady_5 (tgt := 12) (by decide) (fun c_5 => ?_) (fun c_5 => ?_)
  · skip
    refine j_iconst hC (0) dX2_isReady_12 (by decide) ?_
    refine j_iret hC hQ rfl (by first | rfl | (subst_vars; rfl) | (split <;> rfl)) (Nat.le_of_ble_eq_true rfl) (Nat.le_of_ble_eq_true rfl) dX2_isReady_13 rfl ⟨?_, ?_⟩
    · first | rfl | (subst_vars; simp [jR, *]; done) | (subst_vars; simp_all [jR]; done)
    · rfl
  · skip
    refine j_iconst hC (1) dX2_isReady_8 (by decide) ?_
    refine j_goto hC dX2_isReady_9 (tgt := 13) (by decide) ?_
    refine j_iret hC hQ rfl (by first | rfl | (subst_vars; rfl) | (split <;> rfl)) (Nat.le_of_ble_eq_true rfl) (Nat.le_of_ble_eq_true rfl) dX2_isReady_13 rfl ⟨?_, ?_⟩
    · first | rfl | (subst_vars; simp [jR, *]; done) | (subst_vars; simp_all [jR]; done)
    · rfl
set_option maxHeartbeats 1000000 in
set_option maxRecDepth 100000 in
theorem c_X2_reaches (g : jG) (a : Nat) (L : jF) (x : Int32) : Con g yX2_reaches cX2_reaches 2 (some .boolean) 2 40 0 0 [.ref a, .int x] [lb a L] (jR (some (.int (if jabs (x - L 0) ≤ widthOf (L 3) then 1 else 0))) [lb a L]) := by
  refine Con.of (own := RX2) (lv := [(0, .ref a), (1, .int x)]) (by decide) rfl (Nat.le_of_ble_eq_true rfl) rfl ?_
  intro E hC hQ hN
  refine j_iload_n hC dX2_reaches_0 rfl rfl ?_
  refine j_aload_n hC dX2_reaches_1 rfl rfl ?_
  refine j_get hC uX2 0 0 0 rfl rfl k262 rfl dX2_reaches_2 ?_
  refine j_isub hC dX2_reaches_5 ?_
  refine j_abs hC k659 k660 k56 k661 (Nat.le_of_ble_eq_true rfl) (Nat.le_of_ble_eq_true rfl) (Nat.le_of_ble_eq_true rfl) (Nat.le_of_ble_eq_true rfl) dX2_reaches_6 ?_
  refine j_aload_n hC dX2_reaches_9 rfl rfl ?_
  refine j_callVR hC [0] (c_X2_width g _ _) mX2_width k662 rfl rfl rfl rfl rfl ⟨(Nat.le_of_ble_eq_true rfl), (Nat.le_of_ble_eq_true rfl)⟩ (Nat.le_of_ble_eq_true rfl) ⟨(Nat.le_of_ble_eq_true rfl), (Nat.le_of_ble_eq_true rfl)⟩ dX2_reaches_10 ?_
  dsimp only [jrepl, List.set, jstk]
  refine j_icmp_gt hC dX2_reaches_13 (tgt := 20) (by decide) (fun c_13 => ?_) (fun c_13 => ?_)
  · skip
    refine j_iconst hC (0) dX2_reaches_20 (by decide) ?_
    refine j_iret hC hQ rfl (by first | rfl | (subst_vars; rfl) | (split <;> rfl)) (Nat.le_of_ble_eq_true rfl) (Nat.le_of_ble_eq_true rfl) dX2_reaches_21 rfl ⟨?_, ?_⟩
    · first | rfl | (subst_vars; simp [jabs, *]; done) | (subst_vars; simp_all [jabs]; done)
    · rfl
  · skip
    refine j_iconst hC (1) dX2_reaches_16 (by decide) ?_
    refine j_goto hC dX2_reaches_17 (tgt := 21) (by decide) ?_
    refine j_iret hC hQ rfl (by first | rfl | (subst_vars; rfl) | (split <;> rfl)) (Nat.le_of_ble_eq_true rfl) (Nat.le_of_ble_eq_true rfl) dX2_reaches_21 rfl ⟨?_, ?_⟩
    · first | rfl | (subst_vars; simp [jabs, *]; done) | (subst_vars; simp_all [jabs]; done)
    · rfl
set_option maxHeartbeats 1000000 in
set_option maxRecDepth 100000 in
theorem c_X2_putLamp (g : jG) (a : Nat) (L : jF) (x : Int32) : Con g yX2_putLamp cX2_putLamp 2 none 1 20 0 0 [.ref a, .int x] [lb a L] (jR (none) [lb a (putL L x)]) := by
  refine Con.of (own := RX2) (lv := [(0, .ref a), (1, .int x)]) (by decide) rfl (Nat.le_of_ble_eq_true rfl) rfl ?_
  intro E hC hQ hN
  refine j_aload_n hC dX2_putLamp_0 rfl rfl ?_
  refine j_iload_n hC dX2_putLamp_1 rfl rfl ?_
  refine j_put_2_3 (bi := 0) hC rfl k267 dX2_putLamp_2 ?_
  dsimp only [List.set]
  refine j_aload_n hC dX2_putLamp_5 rfl rfl ?_
  refine j_aload_n hC dX2_putLamp_6 rfl rfl ?_
  refine j_callVR hC [0] (c_X2_life g _ _) mX2_life k317 rfl rfl rfl rfl rfl ⟨(Nat.le_of_ble_eq_true rfl), (Nat.le_of_ble_eq_true rfl)⟩ (Nat.le_of_ble_eq_true rfl) ⟨(Nat.le_of_ble_eq_true rfl), (Nat.le_of_ble_eq_true rfl)⟩ dX2_putLamp_7 ?_
  dsimp only [jrepl, List.set, jstk]
  refine j_put_2_7 (bi := 0) hC rfl k275 dX2_putLamp_10 ?_
  dsimp only [List.set]
  refine j_vret hC hQ rfl (Nat.le_of_ble_eq_true rfl) (Nat.le_of_ble_eq_true rfl) dX2_putLamp_13 rfl ⟨?_, ?_⟩
  · first | rfl | (subst_vars; simp [jR, *]; done) | (subst_vars; simp_all [jR]; done)
  · rfl
set_option maxHeartbeats 1000000 in
set_option maxRecDepth 100000 in
theorem c_X2_begin (g : jG) (a : Nat) (L : jF) (p c b l m : Int32) (hm : m = 0 ∨ m = 1) : Con g yX2_begin cX2_begin 6 none 3 60 0 0 [.ref a, .int p, .int c, .int b, .int l, .int m] [lb a L] (jR (none) [lb a (newL p c b l m)]) := by
  refine Con.of (own := RX2) (lv := [(0, .ref a), (1, .int p), (2, .int c), (3, .int b), (4, .int l), (5, .int m)]) (by decide) rfl (Nat.le_of_ble_eq_true rfl) rfl ?_
  intro E hC hQ hN
  refine j_aload_n hC dX2_begin_0 rfl rfl ?_
  refine j_iload_n hC dX2_begin_1 rfl rfl ?_
  refine j_put_2_0 (bi := 0) hC rfl k262 dX2_begin_2 ?_
  dsimp only [List.set]
  refine j_aload_n hC dX2_begin_5 rfl rfl ?_
  refine j_iload_n hC dX2_begin_6 rfl rfl ?_
  refine j_put_2_1 (bi := 0) hC rfl k264 dX2_begin_7 ?_
  dsimp only [List.set]
  refine j_aload_n hC dX2_begin_10 rfl rfl ?_
  refine j_iload_n hC dX2_begin_11 rfl rfl ?_
  refine j_put_2_2 (bi := 0) hC rfl k266 dX2_begin_12 ?_
  dsimp only [List.set]
  refine j_aload_n hC dX2_begin_15 rfl rfl ?_
  refine j_iload hC dX2_begin_16 rfl ?_
  refine j_put_2_4 (bi := 0) hC rfl k269 (by first | rfl | (subst_vars; rfl) | assumption) dX2_begin_18 ?_
  dsimp only [List.set]
  refine j_aload_n hC dX2_begin_21 rfl rfl ?_
  refine j_sipush hC (1000) dX2_begin_22 (by decide) ?_
  refine j_put_2_5 (bi := 0) hC rfl k271 dX2_begin_25 ?_
  dsimp only [List.set]
  refine j_aload_n hC dX2_begin_28 rfl rfl ?_
  refine j_aload_n hC dX2_begin_29 rfl rfl ?_
  refine j_callVR hC [0] (c_X2_fullCharge g _ _) mX2_fullCharge k301 rfl rfl rfl rfl rfl ⟨(Nat.le_of_ble_eq_true rfl), (Nat.le_of_ble_eq_true rfl)⟩ (Nat.le_of_ble_eq_true rfl) ⟨(Nat.le_of_ble_eq_true rfl), (Nat.le_of_ble_eq_true rfl)⟩ dX2_begin_30 ?_
  dsimp only [jrepl, List.set, jstk]
  refine j_put_2_6 (bi := 0) hC rfl k273 dX2_begin_33 ?_
  dsimp only [List.set]
  refine j_aload_n hC dX2_begin_36 rfl rfl ?_
  refine j_bipush hC (-9) dX2_begin_37 (by decide) ?_
  refine j_put_2_8 (bi := 0) hC rfl k277 dX2_begin_39 ?_
  dsimp only [List.set]
  refine j_aload_n hC dX2_begin_42 rfl rfl ?_
  refine j_iload hC dX2_begin_43 rfl ?_
  refine j_callVR hC [0] (c_X2_putLamp g _ _ _) mX2_putLamp k313 rfl rfl rfl rfl rfl ⟨(Nat.le_of_ble_eq_true rfl), (Nat.le_of_ble_eq_true rfl)⟩ (Nat.le_of_ble_eq_true rfl) ⟨(Nat.le_of_ble_eq_true rfl), (Nat.le_of_ble_eq_true rfl)⟩ dX2_begin_45 ?_
  dsimp only [jrepl, List.set, jstk]
  refine j_vret hC hQ rfl (Nat.le_of_ble_eq_true rfl) (Nat.le_of_ble_eq_true rfl) dX2_begin_48 rfl ⟨?_, ?_⟩
  · first | rfl | (subst_vars; simp [jR, *]; done) | (subst_vars; simp_all [jR]; done)
  · rfl
set_option maxHeartbeats 1000000 in
set_option maxRecDepth 100000 in
theorem c_X2_copyFrom (g : jG) (a b : Nat) (L L2 : jF) (hm : L2 4 = 0 ∨ L2 4 = 1) : Con g yX2_copyFrom cX2_copyFrom 2 none 0 0 0 0 [.ref a, .ref b] [lb a L, lb b L2] (jR (none) [lb a L2, lb b L2]) := by
  refine Con.of (own := RX2) (lv := [(0, .ref a), (1, .ref b)]) (by decide) rfl (Nat.le_of_ble_eq_true rfl) rfl ?_
  intro E hC hQ hN
  refine j_aload_n hC dX2_copyFrom_0 rfl rfl ?_
  refine j_aload_n hC dX2_copyFrom_1 rfl rfl ?_
  refine j_get hC uX2 1 0 0 rfl rfl k262 rfl dX2_copyFrom_2 ?_
  refine j_put_2_0 (bi := 0) hC rfl k262 dX2_copyFrom_5 ?_
  dsimp only [List.set]
  refine j_aload_n hC dX2_copyFrom_8 rfl rfl ?_
  refine j_aload_n hC dX2_copyFrom_9 rfl rfl ?_
  refine j_get hC uX2 1 0 1 rfl rfl k264 rfl dX2_copyFrom_10 ?_
  refine j_put_2_1 (bi := 0) hC rfl k264 dX2_copyFrom_13 ?_
  dsimp only [List.set]
  refine j_aload_n hC dX2_copyFrom_16 rfl rfl ?_
  refine j_aload_n hC dX2_copyFrom_17 rfl rfl ?_
  refine j_get hC uX2 1 0 2 rfl rfl k266 rfl dX2_copyFrom_18 ?_
  refine j_put_2_2 (bi := 0) hC rfl k266 dX2_copyFrom_21 ?_
  dsimp only [List.set]
  refine j_aload_n hC dX2_copyFrom_24 rfl rfl ?_
  refine j_aload_n hC dX2_copyFrom_25 rfl rfl ?_
  refine j_get hC uX2 1 0 3 rfl rfl k267 rfl dX2_copyFrom_26 ?_
  refine j_put_2_3 (bi := 0) hC rfl k267 dX2_copyFrom_29 ?_
  dsimp only [List.set]
  refine j_aload_n hC dX2_copyFrom_32 rfl rfl ?_
  refine j_aload_n hC dX2_copyFrom_33 rfl rfl ?_
  refine j_get hC uX2 1 0 4 rfl rfl k269 rfl dX2_copyFrom_34 ?_
  refine j_put_2_4 (bi := 0) hC rfl k269 (by first | rfl | (subst_vars; rfl) | assumption) dX2_copyFrom_37 ?_
  dsimp only [List.set]
  refine j_aload_n hC dX2_copyFrom_40 rfl rfl ?_
  refine j_aload_n hC dX2_copyFrom_41 rfl rfl ?_
  refine j_get hC uX2 1 0 5 rfl rfl k271 rfl dX2_copyFrom_42 ?_
  refine j_put_2_5 (bi := 0) hC rfl k271 dX2_copyFrom_45 ?_
  dsimp only [List.set]
  refine j_aload_n hC dX2_copyFrom_48 rfl rfl ?_
  refine j_aload_n hC dX2_copyFrom_49 rfl rfl ?_
  refine j_get hC uX2 1 0 6 rfl rfl k273 rfl dX2_copyFrom_50 ?_
  refine j_put_2_6 (bi := 0) hC rfl k273 dX2_copyFrom_53 ?_
  dsimp only [List.set]
  refine j_aload_n hC dX2_copyFrom_56 rfl rfl ?_
  refine j_aload_n hC dX2_copyFrom_57 rfl rfl ?_
  refine j_get hC uX2 1 0 7 rfl rfl k275 rfl dX2_copyFrom_58 ?_
  refine j_put_2_7 (bi := 0) hC rfl k275 dX2_copyFrom_61 ?_
  dsimp only [List.set]
  refine j_aload_n hC dX2_copyFrom_64 rfl rfl ?_
  refine j_aload_n hC dX2_copyFrom_65 rfl rfl ?_
  refine j_get hC uX2 1 0 8 rfl rfl k277 rfl dX2_copyFrom_66 ?_
  refine j_put_2_8 (bi := 0) hC rfl k277 dX2_copyFrom_69 ?_
  dsimp only [List.set]
  refine j_vret hC hQ rfl (Nat.le_of_ble_eq_true rfl) (Nat.le_of_ble_eq_true rfl) dX2_copyFrom_72 rfl ⟨?_, ?_⟩
  · first | rfl | (subst_vars; simp [jR, *]; done) | (subst_vars; simp_all [jR]; done)
  · rfl
set_option maxHeartbeats 1000000 in
set_option maxRecDepth 100000 in
theorem c_X2_letHoursPass (g : jG) (a : Nat) (L : jF) (x : Int32) : Con g yX2_letHoursPass cX2_letHoursPass 2 none 3 60 0 0 [.ref a, .int x] [lb a L] (jR (none) [lb a (hoursL L x)]) := by
  refine Con.of (own := RX2) (lv := [(0, .ref a), (1, .int x)]) (by decide) rfl (Nat.le_of_ble_eq_true rfl) rfl ?_
  intro E hC hQ hN
  refine j_aload_n hC dX2_letHoursPass_0 rfl rfl ?_
  refine j_get hC uX2 0 0 4 rfl rfl k269 rfl dX2_letHoursPass_1 ?_
  refine j_if_eq hC dX2_letHoursPass_4 (tgt := 24) (by decide) (fun c_4 => ?_) (fun c_4 => ?_)
  · skip
    refine j_aload_n hC dX2_letHoursPass_24 rfl rfl ?_
    refine j_aload_n hC dX2_letHoursPass_25 rfl rfl ?_
    refine j_callVR hC [0] (c_X2_fullCharge g _ _) mX2_fullCharge k301 rfl rfl rfl rfl rfl ⟨(Nat.le_of_ble_eq_true rfl), (Nat.le_of_ble_eq_true rfl)⟩ (Nat.le_of_ble_eq_true rfl) ⟨(Nat.le_of_ble_eq_true rfl), (Nat.le_of_ble_eq_true rfl)⟩ dX2_letHoursPass_26 ?_
    dsimp only [jrepl, List.set, jstk]
    refine j_aload_n hC dX2_letHoursPass_29 rfl rfl ?_
    refine j_get hC uX2 0 0 6 rfl rfl k273 rfl dX2_letHoursPass_30 ?_
    refine j_iload_n hC dX2_letHoursPass_33 rfl rfl ?_
    refine j_aload_n hC dX2_letHoursPass_34 rfl rfl ?_
    refine j_callVR hC [0] (c_X2_capacity g _ _) mX2_capacity k305 rfl rfl rfl rfl rfl ⟨(Nat.le_of_ble_eq_true rfl), (Nat.le_of_ble_eq_true rfl)⟩ (Nat.le_of_ble_eq_true rfl) ⟨(Nat.le_of_ble_eq_true rfl), (Nat.le_of_ble_eq_true rfl)⟩ dX2_letHoursPass_35 ?_
    dsimp only [jrepl, List.set, jstk]
    refine j_imul hC dX2_letHoursPass_38 ?_
    refine j_iadd hC dX2_letHoursPass_39 ?_
    refine j_min hC k461 k376 k56 k377 (Nat.le_of_ble_eq_true rfl) (Nat.le_of_ble_eq_true rfl) (Nat.le_of_ble_eq_true rfl) (Nat.le_of_ble_eq_true rfl) dX2_letHoursPass_40 ?_
    refine j_put_2_6 (bi := 0) hC rfl k273 dX2_letHoursPass_43 ?_
    dsimp only [List.set]
    refine j_vret hC hQ rfl (Nat.le_of_ble_eq_true rfl) (Nat.le_of_ble_eq_true rfl) dX2_letHoursPass_46 rfl ⟨?_, ?_⟩
    · first | rfl | (subst_vars; simp [jR, *]; done) | (subst_vars; simp_all [jR]; done)
    · first | rfl | (unfold hoursL restPass; rw [if_pos c_4]; rfl) | (unfold hoursL restPass; rw [if_neg c_4]; rfl)
  · skip
    refine j_aload_n hC dX2_letHoursPass_7 rfl rfl ?_
    refine j_iconst hC (0) dX2_letHoursPass_8 (by decide) ?_
    refine j_aload_n hC dX2_letHoursPass_9 rfl rfl ?_
    refine j_get hC uX2 0 0 7 rfl rfl k275 rfl dX2_letHoursPass_10 ?_
    refine j_bipush hC (60) dX2_letHoursPass_13 (by decide) ?_
    refine j_iload_n hC dX2_letHoursPass_15 rfl rfl ?_
    refine j_imul hC dX2_letHoursPass_16 ?_
    refine j_isub hC dX2_letHoursPass_17 ?_
    refine j_max hC k572 k470 k56 k471 (Nat.le_of_ble_eq_true rfl) (Nat.le_of_ble_eq_true rfl) (Nat.le_of_ble_eq_true rfl) (Nat.le_of_ble_eq_true rfl) dX2_letHoursPass_18 ?_
    refine j_put_2_7 (bi := 0) hC rfl k275 dX2_letHoursPass_21 ?_
    dsimp only [List.set]
    refine j_aload_n hC dX2_letHoursPass_24 rfl rfl ?_
    refine j_aload_n hC dX2_letHoursPass_25 rfl rfl ?_
    refine j_callVR hC [0] (c_X2_fullCharge g _ _) mX2_fullCharge k301 rfl rfl rfl rfl rfl ⟨(Nat.le_of_ble_eq_true rfl), (Nat.le_of_ble_eq_true rfl)⟩ (Nat.le_of_ble_eq_true rfl) ⟨(Nat.le_of_ble_eq_true rfl), (Nat.le_of_ble_eq_true rfl)⟩ dX2_letHoursPass_26 ?_
    dsimp only [jrepl, List.set, jstk]
    refine j_aload_n hC dX2_letHoursPass_29 rfl rfl ?_
    refine j_get hC uX2 0 0 6 rfl rfl k273 rfl dX2_letHoursPass_30 ?_
    refine j_iload_n hC dX2_letHoursPass_33 rfl rfl ?_
    refine j_aload_n hC dX2_letHoursPass_34 rfl rfl ?_
    refine j_callVR hC [0] (c_X2_capacity g _ _) mX2_capacity k305 rfl rfl rfl rfl rfl ⟨(Nat.le_of_ble_eq_true rfl), (Nat.le_of_ble_eq_true rfl)⟩ (Nat.le_of_ble_eq_true rfl) ⟨(Nat.le_of_ble_eq_true rfl), (Nat.le_of_ble_eq_true rfl)⟩ dX2_letHoursPass_35 ?_
    dsimp only [jrepl, List.set, jstk]
    refine j_imul hC dX2_letHoursPass_38 ?_
    refine j_iadd hC dX2_letHoursPass_39 ?_
    refine j_min hC k461 k376 k56 k377 (Nat.le_of_ble_eq_true rfl) (Nat.le_of_ble_eq_true rfl) (Nat.le_of_ble_eq_true rfl) (Nat.le_of_ble_eq_true rfl) dX2_letHoursPass_40 ?_
    refine j_put_2_6 (bi := 0) hC rfl k273 dX2_letHoursPass_43 ?_
    dsimp only [List.set]
    refine j_vret hC hQ rfl (Nat.le_of_ble_eq_true rfl) (Nat.le_of_ble_eq_true rfl) dX2_letHoursPass_46 rfl ⟨?_, ?_⟩
    · first | rfl | (subst_vars; simp [jR, *]; done) | (subst_vars; simp_all [jR]; done)
    · first | rfl | (unfold hoursL restPass; rw [if_pos c_4]; rfl) | (unfold hoursL restPass; rw [if_neg c_4]; rfl)
set_option maxHeartbeats 1000000 in
set_option maxRecDepth 100000 in
theorem c_X2_age (g : jG) (a : Nat) (L : jF) (x : Int32) : Con g yX2_age cX2_age 2 none 3 60 0 0 [.ref a, .int x] [lb a L] (jR (none) [lb a (ageL L x)]) := by
  refine Con.of (own := RX2) (lv := [(0, .ref a), (1, .int x)]) (by decide) rfl (Nat.le_of_ble_eq_true rfl) rfl ?_
  intro E hC hQ hN
  refine j_aload_n hC dX2_age_0 rfl rfl ?_
  refine j_iconst hC (0) dX2_age_1 (by decide) ?_
  refine j_aload_n hC dX2_age_2 rfl rfl ?_
  refine j_get hC uX2 0 0 5 rfl rfl k271 rfl dX2_age_3 ?_
  refine j_iload_n hC dX2_age_6 rfl rfl ?_
  refine j_isub hC dX2_age_7 ?_
  refine j_max hC k572 k470 k56 k471 (Nat.le_of_ble_eq_true rfl) (Nat.le_of_ble_eq_true rfl) (Nat.le_of_ble_eq_true rfl) (Nat.le_of_ble_eq_true rfl) dX2_age_8 ?_
  refine j_put_2_5 (bi := 0) hC rfl k271 dX2_age_11 ?_
  dsimp only [List.set]
  refine j_aload_n hC dX2_age_14 rfl rfl ?_
  refine j_aload_n hC dX2_age_15 rfl rfl ?_
  refine j_get hC uX2 0 0 6 rfl rfl k273 rfl dX2_age_16 ?_
  refine j_aload_n hC dX2_age_19 rfl rfl ?_
  refine j_callVR hC [0] (c_X2_fullCharge g _ _) mX2_fullCharge k301 rfl rfl rfl rfl rfl ⟨(Nat.le_of_ble_eq_true rfl), (Nat.le_of_ble_eq_true rfl)⟩ (Nat.le_of_ble_eq_true rfl) ⟨(Nat.le_of_ble_eq_true rfl), (Nat.le_of_ble_eq_true rfl)⟩ dX2_age_20 ?_
  dsimp only [jrepl, List.set, jstk]
  refine j_min hC k461 k376 k56 k377 (Nat.le_of_ble_eq_true rfl) (Nat.le_of_ble_eq_true rfl) (Nat.le_of_ble_eq_true rfl) (Nat.le_of_ble_eq_true rfl) dX2_age_23 ?_
  refine j_put_2_6 (bi := 0) hC rfl k273 dX2_age_26 ?_
  dsimp only [List.set]
  refine j_vret hC hQ rfl (Nat.le_of_ble_eq_true rfl) (Nat.le_of_ble_eq_true rfl) dX2_age_29 rfl ⟨?_, ?_⟩
  · first | rfl | (subst_vars; simp [jR, *]; done) | (subst_vars; simp_all [jR]; done)
  · rfl
set_option maxHeartbeats 1000000 in
set_option maxRecDepth 100000 in
theorem c_X2_burn (g : jG) (a : Nat) (L : jF) : Con g yX2_burn cX2_burn 2 (some .boolean) 4 81 0 0 [.ref a] [lb a L] (jR (some (.int (if burnMin L = rated (L 2) then 1 else 0))) [lb a (burnL L)]) := by
  refine Con.of (own := RX2) (lv := [(0, .ref a)]) (by decide) rfl (Nat.le_of_ble_eq_true rfl) rfl ?_
  intro E hC hQ hN
  refine j_aload_n hC dX2_burn_0 rfl rfl ?_
  refine j_callVR hC [0] (c_X2_endurance g _ _) mX2_endurance k524 rfl rfl rfl rfl rfl ⟨(Nat.le_of_ble_eq_true rfl), (Nat.le_of_ble_eq_true rfl)⟩ (Nat.le_of_ble_eq_true rfl) ⟨(Nat.le_of_ble_eq_true rfl), (Nat.le_of_ble_eq_true rfl)⟩ dX2_burn_1 ?_
  dsimp only [jrepl, List.set, jstk]
  refine j_aload_n hC dX2_burn_4 rfl rfl ?_
  refine j_callVR hC [0] (c_X2_ratedTime g _ _) mX2_ratedTime k309 rfl rfl rfl rfl rfl ⟨(Nat.le_of_ble_eq_true rfl), (Nat.le_of_ble_eq_true rfl)⟩ (Nat.le_of_ble_eq_true rfl) ⟨(Nat.le_of_ble_eq_true rfl), (Nat.le_of_ble_eq_true rfl)⟩ dX2_burn_5 ?_
  dsimp only [jrepl, List.set, jstk]
  refine j_min hC k461 k376 k56 k377 (Nat.le_of_ble_eq_true rfl) (Nat.le_of_ble_eq_true rfl) (Nat.le_of_ble_eq_true rfl) (Nat.le_of_ble_eq_true rfl) dX2_burn_8 ?_
  refine j_istore_n hC dX2_burn_11 rfl rfl rfl rfl (fun v_11 e_11 => ?_)
  refine j_aload_n hC dX2_burn_12 rfl rfl ?_
  refine j_dup hC dX2_burn_13 rfl ?_
  refine j_get hC uX2 0 0 7 rfl rfl k275 rfl dX2_burn_14 ?_
  refine j_iload_n hC dX2_burn_17 rfl rfl ?_
  refine j_isub hC dX2_burn_18 ?_
  refine j_put_2_7 (bi := 0) hC rfl k275 dX2_burn_19 ?_
  dsimp only [List.set]
  refine j_aload_n hC dX2_burn_22 rfl rfl ?_
  refine j_dup hC dX2_burn_23 rfl ?_
  refine j_get hC uX2 0 0 6 rfl rfl k273 rfl dX2_burn_24 ?_
  refine j_bipush hC (24) dX2_burn_27 (by decide) ?_
  refine j_iload_n hC dX2_burn_29 rfl rfl ?_
  refine j_imul hC dX2_burn_30 ?_
  refine j_isub hC dX2_burn_31 ?_
  refine j_put_2_6 (bi := 0) hC rfl k273 dX2_burn_32 ?_
  dsimp only [List.set]
  refine j_aload_n hC dX2_burn_35 rfl rfl ?_
  refine j_aload_n hC dX2_burn_36 rfl rfl ?_
  refine j_callVR hC [0] (c_X2_wear g _ _) mX2_wear k606 rfl rfl rfl rfl rfl ⟨(Nat.le_of_ble_eq_true rfl), (Nat.le_of_ble_eq_true rfl)⟩ (Nat.le_of_ble_eq_true rfl) ⟨(Nat.le_of_ble_eq_true rfl), (Nat.le_of_ble_eq_true rfl)⟩ dX2_burn_37 ?_
  dsimp only [jrepl, List.set, jstk]
  refine j_callVR hC [0] (c_X2_age g _ _ _) mX2_age k610 rfl rfl rfl rfl rfl ⟨(Nat.le_of_ble_eq_true rfl), (Nat.le_of_ble_eq_true rfl)⟩ (Nat.le_of_ble_eq_true rfl) ⟨(Nat.le_of_ble_eq_true rfl), (Nat.le_of_ble_eq_true rfl)⟩ dX2_burn_40 ?_
  dsimp only [jrepl, List.set, jstk]
  refine j_aload_n hC dX2_burn_43 rfl rfl ?_
  refine j_iload_n hC dX2_burn_44 rfl rfl ?_
  refine j_put_2_8 (bi := 0) hC rfl k277 dX2_burn_45 ?_
  dsimp only [List.set]
  refine j_iload_n hC dX2_burn_48 rfl rfl ?_
  refine j_aload_n hC dX2_burn_49 rfl rfl ?_
  refine j_callVR hC [0] (c_X2_ratedTime g _ _) mX2_ratedTime k309 rfl rfl rfl rfl rfl ⟨(Nat.le_of_ble_eq_true rfl), (Nat.le_of_ble_eq_true rfl)⟩ (Nat.le_of_ble_eq_true rfl) ⟨(Nat.le_of_ble_eq_true rfl), (Nat.le_of_ble_eq_true rfl)⟩ dX2_burn_50 ?_
  dsimp only [jrepl, List.set, jstk]
  refine j_icmp_ne hC dX2_burn_53 (tgt := 60) (by decide) (fun c_53 => ?_) (fun c_53 => ?_)
  · skip
    refine j_iconst hC (0) dX2_burn_60 (by decide) ?_
    refine j_iret hC hQ rfl (by first | rfl | (subst_vars; rfl) | (split <;> rfl)) (Nat.le_of_ble_eq_true rfl) (Nat.le_of_ble_eq_true rfl) dX2_burn_61 rfl ⟨?_, ?_⟩
    · (subst_vars; first | exact congrArg (fun z => some (Value.int z)) (if_pos (c := burnMin L = rated (L 2)) c_53).symm | exact congrArg (fun z => some (Value.int z)) (if_neg (c := burnMin L = rated (L 2)) c_53).symm)
    · (subst_vars; rfl)
  · skip
    refine j_iconst hC (1) dX2_burn_56 (by decide) ?_
    refine j_goto hC dX2_burn_57 (tgt := 61) (by decide) ?_
    refine j_iret hC hQ rfl (by first | rfl | (subst_vars; rfl) | (split <;> rfl)) (Nat.le_of_ble_eq_true rfl) (Nat.le_of_ble_eq_true rfl) dX2_burn_61 rfl ⟨?_, ?_⟩
    · (subst_vars; first | exact congrArg (fun z => some (Value.int z)) (if_pos (c := burnMin L = rated (L 2)) c_53).symm | exact congrArg (fun z => some (Value.int z)) (if_neg (c := burnMin L = rated (L 2)) c_53).symm)
    · (subst_vars; rfl)
set_option maxHeartbeats 1000000 in
set_option maxRecDepth 100000 in
theorem c_X2_property (g : jG) (a : Nat) (L : jF) (x y : Int32) : Con g yX2_property cX2_property 3 (some .int) 3 59 0 0 [.ref a, .int x, .int y] [lb a L] (jR (some (.int (propL L x y))) [lb a L]) := by
  refine Con.of (own := RX2) (lv := [(0, .ref a), (1, .int x), (2, .int y)]) (by decide) rfl (Nat.le_of_ble_eq_true rfl) rfl ?_
  intro E hC hQ hN
  refine j_iload_n hC dX2_property_0 rfl rfl ?_
  refine j_case (0) (fun s_1_0 => ?_) (fun s_1_0 => ?_)
  · refine j_tableIn hC dX2_property_1 (by rw [s_1_0]; decide) (by rw [s_1_0]; decide) (off := 59) (by rw [s_1_0]; rfl) (tgt := 60) (by decide) ?_
    refine j_aload_n hC dX2_property_60 rfl rfl ?_
    refine j_get hC uX2 0 0 0 rfl rfl k262 rfl dX2_property_61 ?_
    refine j_iret hC hQ rfl rfl (Nat.le_of_ble_eq_true rfl) (Nat.le_of_ble_eq_true rfl) dX2_property_64 rfl ⟨?_, ?_⟩
    · first | rfl | (subst_vars; simp [propL, *]; done) | (subst_vars; simp_all [propL]; done)
    · rfl
  refine j_case (1) (fun s_1_1 => ?_) (fun s_1_1 => ?_)
  · refine j_tableIn hC dX2_property_1 (by rw [s_1_1]; decide) (by rw [s_1_1]; decide) (off := 64) (by rw [s_1_1]; rfl) (tgt := 65) (by decide) ?_
    refine j_aload_n hC dX2_property_65 rfl rfl ?_
    refine j_get hC uX2 0 0 1 rfl rfl k264 rfl dX2_property_66 ?_
    refine j_iret hC hQ rfl rfl (Nat.le_of_ble_eq_true rfl) (Nat.le_of_ble_eq_true rfl) dX2_property_69 rfl ⟨?_, ?_⟩
    · first | rfl | (subst_vars; simp [propL, *]; done) | (subst_vars; simp_all [propL]; done)
    · rfl
  refine j_case (2) (fun s_1_2 => ?_) (fun s_1_2 => ?_)
  · refine j_tableIn hC dX2_property_1 (by rw [s_1_2]; decide) (by rw [s_1_2]; decide) (off := 69) (by rw [s_1_2]; rfl) (tgt := 70) (by decide) ?_
    refine j_aload_n hC dX2_property_70 rfl rfl ?_
    refine j_get hC uX2 0 0 2 rfl rfl k266 rfl dX2_property_71 ?_
    refine j_iret hC hQ rfl rfl (Nat.le_of_ble_eq_true rfl) (Nat.le_of_ble_eq_true rfl) dX2_property_74 rfl ⟨?_, ?_⟩
    · first | rfl | (subst_vars; simp [propL, *]; done) | (subst_vars; simp_all [propL]; done)
    · rfl
  refine j_case (3) (fun s_1_3 => ?_) (fun s_1_3 => ?_)
  · refine j_tableIn hC dX2_property_1 (by rw [s_1_3]; decide) (by rw [s_1_3]; decide) (off := 74) (by rw [s_1_3]; rfl) (tgt := 75) (by decide) ?_
    refine j_aload_n hC dX2_property_75 rfl rfl ?_
    refine j_get hC uX2 0 0 3 rfl rfl k267 rfl dX2_property_76 ?_
    refine j_iret hC hQ rfl rfl (Nat.le_of_ble_eq_true rfl) (Nat.le_of_ble_eq_true rfl) dX2_property_79 rfl ⟨?_, ?_⟩
    · first | rfl | (subst_vars; simp [propL, *]; done) | (subst_vars; simp_all [propL]; done)
    · rfl
  refine j_case (4) (fun s_1_4 => ?_) (fun s_1_4 => ?_)
  · refine j_tableIn hC dX2_property_1 (by rw [s_1_4]; decide) (by rw [s_1_4]; decide) (off := 79) (by rw [s_1_4]; rfl) (tgt := 80) (by decide) ?_
    refine j_aload_n hC dX2_property_80 rfl rfl ?_
    refine j_get hC uX2 0 0 4 rfl rfl k269 rfl dX2_property_81 ?_
    refine j_if_eq hC dX2_property_84 (tgt := 91) (by decide) (fun c_84 => ?_) (fun c_84 => ?_)
    · skip
      refine j_iconst hC (0) dX2_property_91 (by decide) ?_
      refine j_iret hC hQ rfl rfl (Nat.le_of_ble_eq_true rfl) (Nat.le_of_ble_eq_true rfl) dX2_property_92 rfl ⟨?_, ?_⟩
      · first | rfl | (subst_vars; simp [propL, *]; done) | (subst_vars; simp_all [propL]; done)
      · rfl
    · skip
      refine j_iconst hC (1) dX2_property_87 (by decide) ?_
      refine j_goto hC dX2_property_88 (tgt := 92) (by decide) ?_
      refine j_iret hC hQ rfl rfl (Nat.le_of_ble_eq_true rfl) (Nat.le_of_ble_eq_true rfl) dX2_property_92 rfl ⟨?_, ?_⟩
      · first | rfl | (subst_vars; simp [propL, *]; done) | (subst_vars; simp_all [propL]; done)
      · rfl
  refine j_case (5) (fun s_1_5 => ?_) (fun s_1_5 => ?_)
  · refine j_tableIn hC dX2_property_1 (by rw [s_1_5]; decide) (by rw [s_1_5]; decide) (off := 92) (by rw [s_1_5]; rfl) (tgt := 93) (by decide) ?_
    refine j_aload_n hC dX2_property_93 rfl rfl ?_
    refine j_get hC uX2 0 0 5 rfl rfl k271 rfl dX2_property_94 ?_
    refine j_iret hC hQ rfl rfl (Nat.le_of_ble_eq_true rfl) (Nat.le_of_ble_eq_true rfl) dX2_property_97 rfl ⟨?_, ?_⟩
    · first | rfl | (subst_vars; simp [propL, *]; done) | (subst_vars; simp_all [propL]; done)
    · rfl
  refine j_case (6) (fun s_1_6 => ?_) (fun s_1_6 => ?_)
  · refine j_tableIn hC dX2_property_1 (by rw [s_1_6]; decide) (by rw [s_1_6]; decide) (off := 97) (by rw [s_1_6]; rfl) (tgt := 98) (by decide) ?_
    refine j_aload_n hC dX2_property_98 rfl rfl ?_
    refine j_callVR hC [0] (c_X2_capacity g _ _) mX2_capacity k305 rfl rfl rfl rfl rfl ⟨(Nat.le_of_ble_eq_true rfl), (Nat.le_of_ble_eq_true rfl)⟩ (Nat.le_of_ble_eq_true rfl) ⟨(Nat.le_of_ble_eq_true rfl), (Nat.le_of_ble_eq_true rfl)⟩ dX2_property_99 ?_
    dsimp only [jrepl, List.set, jstk]
    refine j_iret hC hQ rfl rfl (Nat.le_of_ble_eq_true rfl) (Nat.le_of_ble_eq_true rfl) dX2_property_102 rfl ⟨?_, ?_⟩
    · first | rfl | (subst_vars; simp [propL, *]; done) | (subst_vars; simp_all [propL]; done)
    · rfl
  refine j_case (7) (fun s_1_7 => ?_) (fun s_1_7 => ?_)
  · refine j_tableIn hC dX2_property_1 (by rw [s_1_7]; decide) (by rw [s_1_7]; decide) (off := 102) (by rw [s_1_7]; rfl) (tgt := 103) (by decide) ?_
    refine j_aload_n hC dX2_property_103 rfl rfl ?_
    refine j_get hC uX2 0 0 6 rfl rfl k273 rfl dX2_property_104 ?_
    refine j_iret hC hQ rfl rfl (Nat.le_of_ble_eq_true rfl) (Nat.le_of_ble_eq_true rfl) dX2_property_107 rfl ⟨?_, ?_⟩
    · first | rfl | (subst_vars; simp [propL, *]; done) | (subst_vars; simp_all [propL]; done)
    · rfl
  refine j_case (8) (fun s_1_8 => ?_) (fun s_1_8 => ?_)
  · refine j_tableIn hC dX2_property_1 (by rw [s_1_8]; decide) (by rw [s_1_8]; decide) (off := 107) (by rw [s_1_8]; rfl) (tgt := 108) (by decide) ?_
    refine j_aload_n hC dX2_property_108 rfl rfl ?_
    refine j_get hC uX2 0 0 7 rfl rfl k275 rfl dX2_property_109 ?_
    refine j_iret hC hQ rfl rfl (Nat.le_of_ble_eq_true rfl) (Nat.le_of_ble_eq_true rfl) dX2_property_112 rfl ⟨?_, ?_⟩
    · first | rfl | (subst_vars; simp [propL, *]; done) | (subst_vars; simp_all [propL]; done)
    · rfl
  refine j_case (9) (fun s_1_9 => ?_) (fun s_1_9 => ?_)
  · refine j_tableIn hC dX2_property_1 (by rw [s_1_9]; decide) (by rw [s_1_9]; decide) (off := 112) (by rw [s_1_9]; rfl) (tgt := 113) (by decide) ?_
    refine j_aload_n hC dX2_property_113 rfl rfl ?_
    refine j_callVR hC [0] (c_X2_endurance g _ _) mX2_endurance k524 rfl rfl rfl rfl rfl ⟨(Nat.le_of_ble_eq_true rfl), (Nat.le_of_ble_eq_true rfl)⟩ (Nat.le_of_ble_eq_true rfl) ⟨(Nat.le_of_ble_eq_true rfl), (Nat.le_of_ble_eq_true rfl)⟩ dX2_property_114 ?_
    dsimp only [jrepl, List.set, jstk]
    refine j_iret hC hQ rfl rfl (Nat.le_of_ble_eq_true rfl) (Nat.le_of_ble_eq_true rfl) dX2_property_117 rfl ⟨?_, ?_⟩
    · first | rfl | (subst_vars; simp [propL, *]; done) | (subst_vars; simp_all [propL]; done)
    · rfl
  refine j_case (10) (fun s_1_10 => ?_) (fun s_1_10 => ?_)
  · refine j_tableIn hC dX2_property_1 (by rw [s_1_10]; decide) (by rw [s_1_10]; decide) (off := 117) (by rw [s_1_10]; rfl) (tgt := 118) (by decide) ?_
    refine j_aload_n hC dX2_property_118 rfl rfl ?_
    refine j_iload_n hC dX2_property_119 rfl rfl ?_
    refine j_callVR hC [0] (c_X2_isReady g _ _ _) mX2_isReady k525 rfl rfl rfl rfl rfl ⟨(Nat.le_of_ble_eq_true rfl), (Nat.le_of_ble_eq_true rfl)⟩ (Nat.le_of_ble_eq_true rfl) ⟨(Nat.le_of_ble_eq_true rfl), (Nat.le_of_ble_eq_true rfl)⟩ dX2_property_120 ?_
    dsimp only [jrepl, List.set, jstk]
    refine j_if_eq hC dX2_property_123 (tgt := 130) (by decide) (fun c_123 => ?_) (fun c_123 => ?_)
    · skip
      refine j_iconst hC (0) dX2_property_130 (by decide) ?_
      refine j_iret hC hQ rfl rfl (Nat.le_of_ble_eq_true rfl) (Nat.le_of_ble_eq_true rfl) dX2_property_131 rfl ⟨?_, ?_⟩
      · first | rfl | (subst_vars; simp [propL, *]; done) | (subst_vars; simp_all [propL]; done)
      · rfl
    · skip
      refine j_iconst hC (1) dX2_property_126 (by decide) ?_
      refine j_goto hC dX2_property_127 (tgt := 131) (by decide) ?_
      refine j_iret hC hQ rfl rfl (Nat.le_of_ble_eq_true rfl) (Nat.le_of_ble_eq_true rfl) dX2_property_131 rfl ⟨?_, ?_⟩
      · first | rfl | (subst_vars; simp [propL, *]; done) | (subst_vars; simp_all [propL]; done)
      · rfl
  refine j_tableOut hC dX2_property_1 (jout11 s_1_0 s_1_1 s_1_2 s_1_3 s_1_4 s_1_5 s_1_6 s_1_7 s_1_8 s_1_9 s_1_10) (tgt := 132) (by decide) ?_
  refine j_aload_n hC dX2_property_132 rfl rfl ?_
  refine j_get hC uX2 0 0 8 rfl rfl k277 rfl dX2_property_133 ?_
  refine j_iret hC hQ rfl rfl (Nat.le_of_ble_eq_true rfl) (Nat.le_of_ble_eq_true rfl) dX2_property_136 rfl ⟨?_, ?_⟩
  · first | rfl | (subst_vars; simp [propL, *]; done) | (subst_vars; simp_all [propL]; done)
  · rfl
end
section
/-! the class's buildings: lights in a row, loops over them -/
def jL (X : List (Nat × jF)) (j : Nat) : jF := match X[j]? with
  | some q => q.2
  | none => fun _ => 0
def jAd (X : List (Nat × jF)) (j : Nat) : Nat := match X[j]? with
  | some q => q.1
  | none => 0
theorem jX_get {X : List (Nat × jF)} {j : Nat} (h : j < X.length) : X[j]? = some (jAd X j, jL X j) := by
  unfold jAd jL
  rw [List.getElem?_eq_getElem h]
theorem lrf_get {X : List (Nat × jF)} {j : Nat} (h : j < X.length) : lrf X j = some (jAd X j) := by
  unfold lrf
  rw [jX_get h]
  rfl
def bok (I : jF) (X : List (Nat × jF)) (k : Nat) : Prop := I 1 = nI k ∧ k ≤ X.length ∧ X.length ≤ 10
def lmap (f : Nat → jF → jF) (X : List (Nat × jF)) : List (Nat × jF) := X.mapIdx (fun j q => (q.1, f j q.2))
def lpre (i : Nat) (f : Nat → jF → jF) : Nat → jF → jF := fun j L => if j < i then f j L else L
theorem lmap_len {f : Nat → jF → jF} {X : List (Nat × jF)} : (lmap f X).length = X.length := by simp [lmap]
theorem lmap_get {f : Nat → jF → jF} {X : List (Nat × jF)} {j : Nat} (h : j < X.length) : (lmap f X)[j]? = some (jAd X j, f j (jL X j)) := by
  unfold lmap
  rw [List.getElem?_mapIdx, jX_get h]
  rfl
theorem lrf_lmap {f : Nat → jF → jF} {X : List (Nat × jF)} : lrf (lmap f X) = lrf X := by
  funext i
  unfold lrf lmap
  rw [List.getElem?_mapIdx]
  cases X[i]? <;> rfl
theorem jAd_lmap {f : Nat → jF → jF} {X : List (Nat × jF)} {j : Nat} (h : j < X.length) : jAd (lmap f X) j = jAd X j := by
  unfold jAd
  rw [lmap_get h, jX_get h]
theorem jL_lmap {f : Nat → jF → jF} {X : List (Nat × jF)} {j : Nat} (h : j < X.length) : jL (lmap f X) j = f j (jL X j) := by
  unfold jL
  rw [lmap_get h]
  unfold jL
  rfl
theorem lmap_cur {f : Nat → jF → jF} {X : List (Nat × jF)} {i : Nat} (h : i < X.length) : (lmap (lpre i f) X)[i]? = some (jAd X i, jL X i) := by
  rw [lmap_get h]
  unfold lpre
  rw [if_neg (Nat.lt_irrefl i)]
theorem lmap_next {f : Nat → jF → jF} {X : List (Nat × jF)} {i : Nat} {L : jF} (h : i < X.length) (hL : L = f i (jL X i)) : (lmap (lpre i f) X).set i (jAd X i, L) = lmap (lpre (i + 1) f) X := by
  subst hL
  apply List.ext_getElem?
  intro j
  by_cases hj : i = j
  · subst hj
    rw [List.getElem?_set_self (by rw [lmap_len]; exact h), lmap_get h]
    unfold lpre
    rw [if_pos (Nat.lt_succ_self i)]
  · rw [List.getElem?_set_ne hj]
    unfold lmap
    rw [List.getElem?_mapIdx, List.getElem?_mapIdx]
    cases X[j]? with
    | none => rfl
    | some q =>
      unfold lpre
      by_cases h1 : j < i
      · simp [h1, show j < i + 1 by omega]
      · simp [h1, show ¬ j < i + 1 by omega]
theorem lmap_skip {f : Nat → jF → jF} {X : List (Nat × jF)} {i : Nat} (h : i < X.length) (hL : f i (jL X i) = jL X i) : lmap (lpre i f) X = lmap (lpre (i + 1) f) X := by
  rw [← lmap_next h hL.symm]
  exact (lts_same (lmap_cur h)).symm
theorem lmap_0 {f : Nat → jF → jF} {X : List (Nat × jF)} : lmap (lpre 0 f) X = X := by
  apply List.ext_getElem?
  intro j
  unfold lmap lpre
  rw [List.getElem?_mapIdx]
  cases X[j]? <;> simp
theorem jge {a b : Int32} {k i : Nat} (ha : a = nI k) (hb : b = nI i) (hk : k < 2 ^ 31) (hi : i < 2 ^ 31) (c : a ≤ b) : k ≤ i := by
  rw [ha, hb] at c
  exact (nI_leI hk hi).mp c
theorem jlt {a b : Int32} {k i : Nat} (ha : a = nI k) (hb : b = nI i) (hk : k < 2 ^ 31) (hi : i < 2 ^ 31) (c : ¬ a ≤ b) : i < k := by
  rcases Nat.lt_or_ge i k with h | h
  · exact h
  · exact absurd (by rw [ha, hb]; exact (nI_leI hk hi).mpr h) c
theorem jb1 {p : Prop} [Decidable p] (h : ¬ (if p then 1 else 0 : Int32) = 0) : p := by
  by_cases hp : p
  · exact hp
  · rw [if_neg hp] at h; exact absurd rfl h
theorem jb0 {p : Prop} [Decidable p] (h : (if p then 1 else 0 : Int32) = 0) : ¬ p := by
  intro hp
  rw [if_pos hp] at h
  exact absurd h (by decide)
theorem jin2 {x : Int32} {N : Nat} (h1 : ¬ x < 0) (h2 : ¬ nI N < x) (hN : N + 1 < 2 ^ 31) : vp_in x (N + 1) := by
  rw [vp_in_iff]
  simp only [Int32.lt_iff_toInt_lt, Int32.toInt_zero, nI_toInt (show N < 2 ^ 31 by omega)] at h1 h2
  omega
theorem jsucc {x y : Int32} {i : Nat} (e : y = x + 1) (h : x = nI i) : y = nI (i + 1) := by rw [e, h]; exact nI_1 i
abbrev okLamp (x : Int32) : Prop := ¬ x < 0 ∧ ¬ 2 < x
abbrev okPlace (x : Int32) : Prop := ¬ x < 0 ∧ ¬ 200 < x
abbrev hasR (I : jF) (x : Int32) : Prop := ¬ x < 0 ∧ ¬ I 4 ≤ x ∧ ¬ 6 ≤ x
abbrev hasL (I : jF) (x : Int32) : Prop := ¬ x < 0 ∧ ¬ I 1 ≤ x ∧ ¬ 10 ≤ x
def firstP (I : jF) (A : Nat → jF) (x : Int32) : Int32 := if hasR I x then A 0 x.toNatClampNeg else 0
def lastP (I : jF) (A : Nat → jF) (x : Int32) : Int32 := if hasR I x then A 1 x.toNatClampNeg else 0
def stockOf (A : Nat → jF) (x : Int32) : Int32 := if okLamp x then A 2 x.toNatClampNeg else 0
def stockTo (A : Nat → jF) (x y : Int32) : Nat → jF := if okLamp x then va_up A 2 (upd (A 2) x.toNatClampNeg (A 2 x.toNatClampNeg + y)) else A
def cReady (need : Int32) (X : List (Nat × jF)) (j : Nat) (n : Int32) : Int32 := if need ≤ endL (jL X j) then n + 1 else n
def cBurnt (X : List (Nat × jF)) (j : Nat) (n : Int32) : Int32 := if jL X j 7 = 0 then n + 1 else n
def reachP (L : jF) (p : Int32) : Prop := jabs (p - L 0) ≤ widthOf (L 3)
abbrev reachB (L : jF) (p : Int32) : Prop := jabs (p - L 0) ≤ widthOf (L 3)
def cReach (need : Int32) (X : List (Nat × jF)) (p r : Int32) (j : Nat) (n : Int32) : Int32 := if reachB (jL X j) p ∧ (r = 0 ∨ need ≤ endL (jL X j)) then n + 1 else n
def cOther (X : List (Nat × jF)) (c : Int32) (j : Nat) (n : Int32) : Int32 := if jL X j 1 = c then n else n ||| (1 <<< (nI j &&& 31))
abbrev holdsP (I : jF) (x : Int32) : Prop := ¬ x < 0 ∧ ¬ (1 <<< (I 1 &&& 31)) ≤ x
set_option maxHeartbeats 1000000 in
set_option maxRecDepth 100000 in
theorem c_X6_isLamp (g : jG) (x : Int32) : Con g yX6_isLamp cX6_isLamp 1 (some .boolean) 0 0 0 0 [.int x] [] (jR (some (.int (if okLamp x then 1 else 0))) []) := by
  refine Con.of (own := RX6) (lv := [(0, .int x)]) (by decide) rfl (Nat.le_of_ble_eq_true rfl) rfl ?_
  intro E hC hQ hN
  refine j_iload_n hC dX6_isLamp_0 rfl rfl ?_
  refine j_if_lt hC dX6_isLamp_1 (tgt := 13) (by decide) (fun c_1 => ?_) (fun c_1 => ?_)
  · skip
    refine j_iconst hC (0) dX6_isLamp_13 (by decide) ?_
    refine j_iret hC hQ rfl (by first | rfl | (subst_vars; rfl) | (split <;> rfl)) (Nat.le_of_ble_eq_true rfl) (Nat.le_of_ble_eq_true rfl) dX6_isLamp_14 rfl ⟨?_, ?_⟩
    · first | rfl | (subst_vars; simp [okLamp, *]; done) | (subst_vars; simp_all [okLamp]; done)
    · rfl
  · skip
    refine j_iload_n hC dX6_isLamp_4 rfl rfl ?_
    refine j_iconst hC (2) dX6_isLamp_5 (by decide) ?_
    refine j_icmp_gt hC dX6_isLamp_6 (tgt := 13) (by decide) (fun c_6 => ?_) (fun c_6 => ?_)
    · skip
      refine j_iconst hC (0) dX6_isLamp_13 (by decide) ?_
      refine j_iret hC hQ rfl (by first | rfl | (subst_vars; rfl) | (split <;> rfl)) (Nat.le_of_ble_eq_true rfl) (Nat.le_of_ble_eq_true rfl) dX6_isLamp_14 rfl ⟨?_, ?_⟩
      · first | rfl | (subst_vars; simp [okLamp, *]; done) | (subst_vars; simp_all [okLamp]; done)
      · rfl
    · skip
      refine j_iconst hC (1) dX6_isLamp_9 (by decide) ?_
      refine j_goto hC dX6_isLamp_10 (tgt := 14) (by decide) ?_
      refine j_iret hC hQ rfl (by first | rfl | (subst_vars; rfl) | (split <;> rfl)) (Nat.le_of_ble_eq_true rfl) (Nat.le_of_ble_eq_true rfl) dX6_isLamp_14 rfl ⟨?_, ?_⟩
      · first | rfl | (subst_vars; simp [okLamp, *]; done) | (subst_vars; simp_all [okLamp]; done)
      · rfl
set_option maxHeartbeats 1000000 in
set_option maxRecDepth 100000 in
theorem c_X6_isPlace (g : jG) (x : Int32) : Con g yX6_isPlace cX6_isPlace 1 (some .boolean) 0 0 0 0 [.int x] [] (jR (some (.int (if okPlace x then 1 else 0))) []) := by
  refine Con.of (own := RX6) (lv := [(0, .int x)]) (by decide) rfl (Nat.le_of_ble_eq_true rfl) rfl ?_
  intro E hC hQ hN
  refine j_iload_n hC dX6_isPlace_0 rfl rfl ?_
  refine j_if_lt hC dX6_isPlace_1 (tgt := 15) (by decide) (fun c_1 => ?_) (fun c_1 => ?_)
  · skip
    refine j_iconst hC (0) dX6_isPlace_15 (by decide) ?_
    refine j_iret hC hQ rfl (by first | rfl | (subst_vars; rfl) | (split <;> rfl)) (Nat.le_of_ble_eq_true rfl) (Nat.le_of_ble_eq_true rfl) dX6_isPlace_16 rfl ⟨?_, ?_⟩
    · first | rfl | (subst_vars; simp [okPlace, *]; done) | (subst_vars; simp_all [okPlace]; done)
    · rfl
  · skip
    refine j_iload_n hC dX6_isPlace_4 rfl rfl ?_
    refine j_sipush hC (200) dX6_isPlace_5 (by decide) ?_
    refine j_icmp_gt hC dX6_isPlace_8 (tgt := 15) (by decide) (fun c_8 => ?_) (fun c_8 => ?_)
    · skip
      refine j_iconst hC (0) dX6_isPlace_15 (by decide) ?_
      refine j_iret hC hQ rfl (by first | rfl | (subst_vars; rfl) | (split <;> rfl)) (Nat.le_of_ble_eq_true rfl) (Nat.le_of_ble_eq_true rfl) dX6_isPlace_16 rfl ⟨?_, ?_⟩
      · first | rfl | (subst_vars; simp [okPlace, *]; done) | (subst_vars; simp_all [okPlace]; done)
      · rfl
    · skip
      refine j_iconst hC (1) dX6_isPlace_11 (by decide) ?_
      refine j_goto hC dX6_isPlace_12 (tgt := 16) (by decide) ?_
      refine j_iret hC hQ rfl (by first | rfl | (subst_vars; rfl) | (split <;> rfl)) (Nat.le_of_ble_eq_true rfl) (Nat.le_of_ble_eq_true rfl) dX6_isPlace_16 rfl ⟨?_, ?_⟩
      · first | rfl | (subst_vars; simp [okPlace, *]; done) | (subst_vars; simp_all [okPlace]; done)
      · rfl
set_option maxHeartbeats 1000000 in
set_option maxRecDepth 100000 in
theorem c_X0_find (g : jG) (d : Nat → Nat) (I : jF) (A : Nat → jF) (r : Nat → Option Nat) (x : Int32) : Con g yX0_find cX0_find 2 (some (.object "EscapeLights$Light")) 0 0 0 0 [.ref (d 0), .int x] [bc g d I A r] (jR (some (if hasL I x then va_rf (r x.toNatClampNeg) else .null)) [bc g d I A r]) := by
  refine Con.of (own := RX0) (lv := [(0, .ref (d 0)), (1, .int x)]) (by decide) rfl (Nat.le_of_ble_eq_true rfl) rfl ?_
  intro E hC hQ hN
  refine j_iload_n hC dX0_find_0 rfl rfl ?_
  refine j_if_lt hC dX0_find_1 (tgt := 27) (by decide) (fun c_1 => ?_) (fun c_1 => ?_)
  · skip
    refine j_null hC dX0_find_27 ?_
    refine j_aret hC hQ rfl (by first | exact Or.inl rfl | (cases r x.toNatClampNeg with | none => exact Or.inl rfl | some q => exact Or.inr ⟨q, rfl⟩)) (Nat.le_of_ble_eq_true rfl) (Nat.le_of_ble_eq_true rfl) dX0_find_28 rfl ⟨?_, ?_⟩
    · first | rfl | (subst_vars; simp [hasL, hasR, *]; done) | (subst_vars; simp_all [hasL, hasR]; done)
    · rfl
  · skip
    refine j_iload_n hC dX0_find_4 rfl rfl ?_
    refine j_aload_n hC dX0_find_5 rfl rfl ?_
    refine j_get hC uX0 0 0 1 rfl rfl k95 rfl dX0_find_6 ?_
    refine j_icmp_ge hC dX0_find_9 (tgt := 27) (by decide) (fun c_9 => ?_) (fun c_9 => ?_)
    · skip
      refine j_null hC dX0_find_27 ?_
      refine j_aret hC hQ rfl (by first | exact Or.inl rfl | (cases r x.toNatClampNeg with | none => exact Or.inl rfl | some q => exact Or.inr ⟨q, rfl⟩)) (Nat.le_of_ble_eq_true rfl) (Nat.le_of_ble_eq_true rfl) dX0_find_28 rfl ⟨?_, ?_⟩
      · first | rfl | (subst_vars; simp [hasL, hasR, *]; done) | (subst_vars; simp_all [hasL, hasR]; done)
      · rfl
    · skip
      refine j_iload_n hC dX0_find_12 rfl rfl ?_
      refine j_bipush hC (10) dX0_find_13 (by decide) ?_
      refine j_icmp_ge hC dX0_find_15 (tgt := 27) (by decide) (fun c_15 => ?_) (fun c_15 => ?_)
      · skip
        refine j_null hC dX0_find_27 ?_
        refine j_aret hC hQ rfl (by first | exact Or.inl rfl | (cases r x.toNatClampNeg with | none => exact Or.inl rfl | some q => exact Or.inr ⟨q, rfl⟩)) (Nat.le_of_ble_eq_true rfl) (Nat.le_of_ble_eq_true rfl) dX0_find_28 rfl ⟨?_, ?_⟩
        · first | rfl | (subst_vars; simp [hasL, hasR, *]; done) | (subst_vars; simp_all [hasL, hasR]; done)
        · rfl
      · skip
        refine j_aload_n hC dX0_find_18 rfl rfl ?_
        refine j_get hC uX0 0 0 0 rfl rfl k94 rfl dX0_find_19 ?_
        refine j_iload_n hC dX0_find_22 rfl rfl ?_
        refine j_aald hC 4 0 1 rfl rfl (jin c_1 c_15 (by decide)) dX0_find_23 ?_
        refine j_goto hC dX0_find_24 (tgt := 28) (by decide) ?_
        refine j_aret hC hQ rfl (by first | exact Or.inl rfl | (cases r x.toNatClampNeg with | none => exact Or.inl rfl | some q => exact Or.inr ⟨q, rfl⟩)) (Nat.le_of_ble_eq_true rfl) (Nat.le_of_ble_eq_true rfl) dX0_find_28 rfl ⟨?_, ?_⟩
        · first | rfl | (subst_vars; simp [hasL, hasR, *]; done) | (subst_vars; simp_all [hasL, hasR]; done)
        · rfl
theorem hasL_in {I : jF} {X : List (Nat × jF)} {k j : Nat} {x : Int32} (h : bok I X k) (hj : j < k) (hx : x = nI j) : hasL I x := by
  obtain ⟨h1, h2, h3⟩ := h
  show ¬ x < 0 ∧ ¬ I 1 ≤ x ∧ ¬ 10 ≤ x
  rw [hx, h1]
  refine ⟨?_, ?_, ?_⟩
  · rw [← nI_0, nI_ltI (by omega) (by omega)]; omega
  · rw [nI_leI (by omega) (by omega)]; omega
  · show ¬ nI 10 ≤ nI j
    rw [nI_leI (by omega) (by omega)]; omega
theorem nI_cl {j : Nat} (h : j < 2 ^ 31) : (nI j).toNatClampNeg = j := nI_clamp h
theorem c_X0_find_in (g : jG) (d : Nat → Nat) (I : jF) (A : Nat → jF) (X : List (Nat × jF)) (k j : Nat) (x : Int32) (h : bok I X k) (hj : j < k) (hx : x = nI j) : Con g yX0_find cX0_find 2 (some (.object "EscapeLights$Light")) 0 0 0 0 [.ref (d 0), .int x] [bc g d I A (lrf X)] (jR (some (.ref (jAd X j))) [bc g d I A (lrf X)]) := by
  have := c_X0_find g d I A (lrf X) x
  rw [if_pos (hasL_in h hj hx), hx, nI_cl (by have := h.2; omega), lrf_get (by have := h.2; omega)] at this
  rw [hx]
  exact this
theorem c_X0_find_out (g : jG) (d : Nat → Nat) (I : jF) (A : Nat → jF) (r : Nat → Option Nat) (x : Int32) (h : ¬ hasL I x) : Con g yX0_find cX0_find 2 (some (.object "EscapeLights$Light")) 0 0 0 0 [.ref (d 0), .int x] [bc g d I A r] (jR (some .null) [bc g d I A r]) := by
  have := c_X0_find g d I A r x
  rw [if_neg h] at this
  exact this
theorem hasL_nat {I : jF} {X : List (Nat × jF)} {k : Nat} {x : Int32} (h : bok I X k) (hl : hasL I x) : ∃ j, j < k ∧ x = nI j := by
  obtain ⟨h1, h2, h3⟩ := h
  obtain ⟨a, b, c⟩ := hl
  obtain ⟨j, hj, rfl⟩ := nI_of a
  refine ⟨j, ?_, rfl⟩
  rw [h1, nI_leI (by omega) hj] at b
  omega
set_option maxHeartbeats 1000000 in
set_option maxRecDepth 100000 in
theorem c_X0_hasRoute (g : jG) (d : Nat → Nat) (I : jF) (A : Nat → jF) (r : Nat → Option Nat) (x : Int32) : Con g yX0_hasRoute cX0_hasRoute 2 (some .boolean) 0 0 0 0 [.ref (d 0), .int x] [bc g d I A r] (jR (some (.int (if hasR I x then 1 else 0))) [bc g d I A r]) := by
  refine Con.of (own := RX0) (lv := [(0, .ref (d 0)), (1, .int x)]) (by decide) rfl (Nat.le_of_ble_eq_true rfl) rfl ?_
  intro E hC hQ hN
  refine j_iload_n hC dX0_hasRoute_0 rfl rfl ?_
  refine j_if_lt hC dX0_hasRoute_1 (tgt := 22) (by decide) (fun c_1 => ?_) (fun c_1 => ?_)
  · skip
    refine j_iconst hC (0) dX0_hasRoute_22 (by decide) ?_
    refine j_iret hC hQ rfl (by first | rfl | (subst_vars; rfl) | (split <;> rfl)) (Nat.le_of_ble_eq_true rfl) (Nat.le_of_ble_eq_true rfl) dX0_hasRoute_23 rfl ⟨?_, ?_⟩
    · first | rfl | (subst_vars; simp [hasL, hasR, *]; done) | (subst_vars; simp_all [hasL, hasR]; done)
    · rfl
  · skip
    refine j_iload_n hC dX0_hasRoute_4 rfl rfl ?_
    refine j_aload_n hC dX0_hasRoute_5 rfl rfl ?_
    refine j_get hC uX0 0 0 4 rfl rfl k104 rfl dX0_hasRoute_6 ?_
    refine j_icmp_ge hC dX0_hasRoute_9 (tgt := 22) (by decide) (fun c_9 => ?_) (fun c_9 => ?_)
    · skip
      refine j_iconst hC (0) dX0_hasRoute_22 (by decide) ?_
      refine j_iret hC hQ rfl (by first | rfl | (subst_vars; rfl) | (split <;> rfl)) (Nat.le_of_ble_eq_true rfl) (Nat.le_of_ble_eq_true rfl) dX0_hasRoute_23 rfl ⟨?_, ?_⟩
      · first | rfl | (subst_vars; simp [hasL, hasR, *]; done) | (subst_vars; simp_all [hasL, hasR]; done)
      · rfl
    · skip
      refine j_iload_n hC dX0_hasRoute_12 rfl rfl ?_
      refine j_bipush hC (6) dX0_hasRoute_13 (by decide) ?_
      refine j_icmp_ge hC dX0_hasRoute_15 (tgt := 22) (by decide) (fun c_15 => ?_) (fun c_15 => ?_)
      · skip
        refine j_iconst hC (0) dX0_hasRoute_22 (by decide) ?_
        refine j_iret hC hQ rfl (by first | rfl | (subst_vars; rfl) | (split <;> rfl)) (Nat.le_of_ble_eq_true rfl) (Nat.le_of_ble_eq_true rfl) dX0_hasRoute_23 rfl ⟨?_, ?_⟩
        · first | rfl | (subst_vars; simp [hasL, hasR, *]; done) | (subst_vars; simp_all [hasL, hasR]; done)
        · rfl
      · skip
        refine j_iconst hC (1) dX0_hasRoute_18 (by decide) ?_
        refine j_goto hC dX0_hasRoute_19 (tgt := 23) (by decide) ?_
        refine j_iret hC hQ rfl (by first | rfl | (subst_vars; rfl) | (split <;> rfl)) (Nat.le_of_ble_eq_true rfl) (Nat.le_of_ble_eq_true rfl) dX0_hasRoute_23 rfl ⟨?_, ?_⟩
        · first | rfl | (subst_vars; simp [hasL, hasR, *]; done) | (subst_vars; simp_all [hasL, hasR]; done)
        · rfl
set_option maxHeartbeats 1000000 in
set_option maxRecDepth 100000 in
theorem c_X0_firstPlace (g : jG) (d : Nat → Nat) (I : jF) (A : Nat → jF) (r : Nat → Option Nat) (x : Int32) : Con g yX0_firstPlace cX0_firstPlace 2 (some .int) 1 21 0 0 [.ref (d 0), .int x] [bc g d I A r] (jR (some (.int (firstP I A x))) [bc g d I A r]) := by
  refine Con.of (own := RX0) (lv := [(0, .ref (d 0)), (1, .int x)]) (by decide) rfl (Nat.le_of_ble_eq_true rfl) rfl ?_
  intro E hC hQ hN
  refine j_aload_n hC dX0_firstPlace_0 rfl rfl ?_
  refine j_iload_n hC dX0_firstPlace_1 rfl rfl ?_
  refine j_callVR hC [0] (c_X0_hasRoute g _ _ _ _ _) mX0_hasRoute k366 rfl rfl rfl rfl rfl ⟨(Nat.le_of_ble_eq_true rfl), (Nat.le_of_ble_eq_true rfl)⟩ (Nat.le_of_ble_eq_true rfl) ⟨(Nat.le_of_ble_eq_true rfl), (Nat.le_of_ble_eq_true rfl)⟩ dX0_firstPlace_2 ?_
  dsimp only [jrepl, List.set, jstk]
  refine j_if_eq hC dX0_firstPlace_5 (tgt := 17) (by decide) (fun c_5 => ?_) (fun c_5 => ?_)
  · skip
    refine j_iconst hC (0) dX0_firstPlace_17 (by decide) ?_
    refine j_iret hC hQ rfl rfl (Nat.le_of_ble_eq_true rfl) (Nat.le_of_ble_eq_true rfl) dX0_firstPlace_18 rfl ⟨?_, ?_⟩
    · first | (unfold firstP; rw [if_pos (jb1 c_5)]) | (unfold firstP; rw [if_neg (jb0 c_5)])
    · rfl
  · skip
    refine j_aload_n hC dX0_firstPlace_8 rfl rfl ?_
    refine j_get hC uX0 0 0 2 rfl rfl k100 rfl dX0_firstPlace_9 ?_
    refine j_iload_n hC dX0_firstPlace_12 rfl rfl ?_
    refine j_iald hC 0 2 rfl (jin (jb1 c_5).1 (jb1 c_5).2.2 (by decide)) dX0_firstPlace_13 ?_
    refine j_goto hC dX0_firstPlace_14 (tgt := 18) (by decide) ?_
    refine j_iret hC hQ rfl rfl (Nat.le_of_ble_eq_true rfl) (Nat.le_of_ble_eq_true rfl) dX0_firstPlace_18 rfl ⟨?_, ?_⟩
    · first | (unfold firstP; rw [if_pos (jb1 c_5)]) | (unfold firstP; rw [if_neg (jb0 c_5)])
    · rfl
set_option maxHeartbeats 1000000 in
set_option maxRecDepth 100000 in
theorem c_X0_lastPlace (g : jG) (d : Nat → Nat) (I : jF) (A : Nat → jF) (r : Nat → Option Nat) (x : Int32) : Con g yX0_lastPlace cX0_lastPlace 2 (some .int) 1 21 0 0 [.ref (d 0), .int x] [bc g d I A r] (jR (some (.int (lastP I A x))) [bc g d I A r]) := by
  refine Con.of (own := RX0) (lv := [(0, .ref (d 0)), (1, .int x)]) (by decide) rfl (Nat.le_of_ble_eq_true rfl) rfl ?_
  intro E hC hQ hN
  refine j_aload_n hC dX0_lastPlace_0 rfl rfl ?_
  refine j_iload_n hC dX0_lastPlace_1 rfl rfl ?_
  refine j_callVR hC [0] (c_X0_hasRoute g _ _ _ _ _) mX0_hasRoute k366 rfl rfl rfl rfl rfl ⟨(Nat.le_of_ble_eq_true rfl), (Nat.le_of_ble_eq_true rfl)⟩ (Nat.le_of_ble_eq_true rfl) ⟨(Nat.le_of_ble_eq_true rfl), (Nat.le_of_ble_eq_true rfl)⟩ dX0_lastPlace_2 ?_
  dsimp only [jrepl, List.set, jstk]
  refine j_if_eq hC dX0_lastPlace_5 (tgt := 17) (by decide) (fun c_5 => ?_) (fun c_5 => ?_)
  · skip
    refine j_iconst hC (0) dX0_lastPlace_17 (by decide) ?_
    refine j_iret hC hQ rfl rfl (Nat.le_of_ble_eq_true rfl) (Nat.le_of_ble_eq_true rfl) dX0_lastPlace_18 rfl ⟨?_, ?_⟩
    · first | (unfold lastP; rw [if_pos (jb1 c_5)]) | (unfold lastP; rw [if_neg (jb0 c_5)])
    · rfl
  · skip
    refine j_aload_n hC dX0_lastPlace_8 rfl rfl ?_
    refine j_get hC uX0 0 0 3 rfl rfl k101 rfl dX0_lastPlace_9 ?_
    refine j_iload_n hC dX0_lastPlace_12 rfl rfl ?_
    refine j_iald hC 0 3 rfl (jin (jb1 c_5).1 (jb1 c_5).2.2 (by decide)) dX0_lastPlace_13 ?_
    refine j_goto hC dX0_lastPlace_14 (tgt := 18) (by decide) ?_
    refine j_iret hC hQ rfl rfl (Nat.le_of_ble_eq_true rfl) (Nat.le_of_ble_eq_true rfl) dX0_lastPlace_18 rfl ⟨?_, ?_⟩
    · first | (unfold lastP; rw [if_pos (jb1 c_5)]) | (unfold lastP; rw [if_neg (jb0 c_5)])
    · rfl
set_option maxHeartbeats 1000000 in
set_option maxRecDepth 100000 in
theorem c_X0_stockOf (g : jG) (d : Nat → Nat) (I : jF) (A : Nat → jF) (r : Nat → Option Nat) (x : Int32) : Con g yX0_stockOf cX0_stockOf 2 (some .int) 1 20 0 0 [.ref (d 0), .int x] [bc g d I A r] (jR (some (.int (stockOf A x))) [bc g d I A r]) := by
  refine Con.of (own := RX0) (lv := [(0, .ref (d 0)), (1, .int x)]) (by decide) rfl (Nat.le_of_ble_eq_true rfl) rfl ?_
  intro E hC hQ hN
  refine j_iload_n hC dX0_stockOf_0 rfl rfl ?_
  refine j_callSNR hC [] (c_X6_isLamp g _) mX6_isLamp k434 rfl rfl rfl ⟨(Nat.le_of_ble_eq_true rfl), (Nat.le_of_ble_eq_true rfl)⟩ (Nat.le_of_ble_eq_true rfl) ⟨(Nat.le_of_ble_eq_true rfl), (Nat.le_of_ble_eq_true rfl)⟩ dX0_stockOf_1 ?_
  dsimp only [jrepl, List.set, jstk]
  refine j_if_eq hC dX0_stockOf_4 (tgt := 16) (by decide) (fun c_4 => ?_) (fun c_4 => ?_)
  · skip
    refine j_iconst hC (0) dX0_stockOf_16 (by decide) ?_
    refine j_iret hC hQ rfl rfl (Nat.le_of_ble_eq_true rfl) (Nat.le_of_ble_eq_true rfl) dX0_stockOf_17 rfl ⟨?_, ?_⟩
    · first | (unfold stockOf; rw [if_pos (jb1 c_4)]) | (unfold stockOf; rw [if_neg (jb0 c_4)])
    · rfl
  · skip
    refine j_aload_n hC dX0_stockOf_7 rfl rfl ?_
    refine j_get hC uX0 0 0 7 rfl rfl k111 rfl dX0_stockOf_8 ?_
    refine j_iload_n hC dX0_stockOf_11 rfl rfl ?_
    refine j_iald hC 0 4 rfl (jin2 (jb1 c_4).1 (jb1 c_4).2 (by decide)) dX0_stockOf_12 ?_
    refine j_goto hC dX0_stockOf_13 (tgt := 17) (by decide) ?_
    refine j_iret hC hQ rfl rfl (Nat.le_of_ble_eq_true rfl) (Nat.le_of_ble_eq_true rfl) dX0_stockOf_17 rfl ⟨?_, ?_⟩
    · first | (unfold stockOf; rw [if_pos (jb1 c_4)]) | (unfold stockOf; rw [if_neg (jb0 c_4)])
    · rfl
set_option maxHeartbeats 1000000 in
set_option maxRecDepth 100000 in
theorem c_X0_changeStock (g : jG) (d : Nat → Nat) (I : jF) (A : Nat → jF) (r : Nat → Option Nat) (x y : Int32) : Con g yX0_changeStock cX0_changeStock 3 none 1 20 0 0 [.ref (d 0), .int x, .int y] [bc g d I A r] (jR (none) [bc g d I (stockTo A x y) r]) := by
  refine Con.of (own := RX0) (lv := [(0, .ref (d 0)), (1, .int x), (2, .int y)]) (by decide) rfl (Nat.le_of_ble_eq_true rfl) rfl ?_
  intro E hC hQ hN
  refine j_iload_n hC dX0_changeStock_0 rfl rfl ?_
  refine j_callSNR hC [] (c_X6_isLamp g _) mX6_isLamp k434 rfl rfl rfl ⟨(Nat.le_of_ble_eq_true rfl), (Nat.le_of_ble_eq_true rfl)⟩ (Nat.le_of_ble_eq_true rfl) ⟨(Nat.le_of_ble_eq_true rfl), (Nat.le_of_ble_eq_true rfl)⟩ dX0_changeStock_1 ?_
  dsimp only [jrepl, List.set, jstk]
  refine j_if_eq hC dX0_changeStock_4 (tgt := 17) (by decide) (fun c_4 => ?_) (fun c_4 => ?_)
  · skip
    refine j_vret hC hQ rfl (Nat.le_of_ble_eq_true rfl) (Nat.le_of_ble_eq_true rfl) dX0_changeStock_17 rfl ⟨?_, ?_⟩
    · rfl
    · first | (unfold stockTo; rw [if_pos (jb1 c_4)]) | (unfold stockTo; rw [if_neg (jb0 c_4)])
  · skip
    refine j_aload_n hC dX0_changeStock_7 rfl rfl ?_
    refine j_get hC uX0 0 0 7 rfl rfl k111 rfl dX0_changeStock_8 ?_
    refine j_iload_n hC dX0_changeStock_11 rfl rfl ?_
    refine j_dup2 hC dX0_changeStock_12 rfl rfl ?_
    refine j_iald hC 0 4 rfl (jin2 (jb1 c_4).1 (jb1 c_4).2 (by decide)) dX0_changeStock_13 ?_
    refine j_iload_n hC dX0_changeStock_14 rfl rfl ?_
    refine j_iadd hC dX0_changeStock_15 ?_
    refine j_ast_0_2 (bi := 0) hC rfl (jin2 (jb1 c_4).1 (jb1 c_4).2 (by decide)) dX0_changeStock_16 ?_
    dsimp only [List.set]
    refine j_vret hC hQ rfl (Nat.le_of_ble_eq_true rfl) (Nat.le_of_ble_eq_true rfl) dX0_changeStock_17 rfl ⟨?_, ?_⟩
    · rfl
    · first | (unfold stockTo; rw [if_pos (jb1 c_4)]) | (unfold stockTo; rw [if_neg (jb0 c_4)])
set_option maxHeartbeats 1000000 in
set_option maxRecDepth 100000 in
theorem c_X0_holds (g : jG) (d : Nat → Nat) (I : jF) (A : Nat → jF) (r : Nat → Option Nat) (x : Int32) : Con g yX0_holds cX0_holds 2 (some .boolean) 0 0 0 0 [.ref (d 0), .int x] [bc g d I A r] (jR (some (.int (if holdsP I x then 1 else 0))) [bc g d I A r]) := by
  refine Con.of (own := RX0) (lv := [(0, .ref (d 0)), (1, .int x)]) (by decide) rfl (Nat.le_of_ble_eq_true rfl) rfl ?_
  intro E hC hQ hN
  refine j_iload_n hC dX0_holds_0 rfl rfl ?_
  refine j_if_lt hC dX0_holds_1 (tgt := 18) (by decide) (fun c_1 => ?_) (fun c_1 => ?_)
  · skip
    refine j_iconst hC (0) dX0_holds_18 (by decide) ?_
    refine j_iret hC hQ rfl (by first | rfl | (subst_vars; rfl) | (split <;> rfl)) (Nat.le_of_ble_eq_true rfl) (Nat.le_of_ble_eq_true rfl) dX0_holds_19 rfl ⟨?_, ?_⟩
    · first | rfl | (subst_vars; simp [holdsP, *]; done) | (subst_vars; simp_all [holdsP]; done)
    · rfl
  · skip
    refine j_iload_n hC dX0_holds_4 rfl rfl ?_
    refine j_iconst hC (1) dX0_holds_5 (by decide) ?_
    refine j_aload_n hC dX0_holds_6 rfl rfl ?_
    refine j_get hC uX0 0 0 1 rfl rfl k95 rfl dX0_holds_7 ?_
    refine j_ishl hC dX0_holds_10 ?_
    refine j_icmp_ge hC dX0_holds_11 (tgt := 18) (by decide) (fun c_11 => ?_) (fun c_11 => ?_)
    · skip
      refine j_iconst hC (0) dX0_holds_18 (by decide) ?_
      refine j_iret hC hQ rfl (by first | rfl | (subst_vars; rfl) | (split <;> rfl)) (Nat.le_of_ble_eq_true rfl) (Nat.le_of_ble_eq_true rfl) dX0_holds_19 rfl ⟨?_, ?_⟩
      · first | rfl | (subst_vars; simp [holdsP, *]; done) | (subst_vars; simp_all [holdsP]; done)
      · rfl
    · skip
      refine j_iconst hC (1) dX0_holds_14 (by decide) ?_
      refine j_goto hC dX0_holds_15 (tgt := 19) (by decide) ?_
      refine j_iret hC hQ rfl (by first | rfl | (subst_vars; rfl) | (split <;> rfl)) (Nat.le_of_ble_eq_true rfl) (Nat.le_of_ble_eq_true rfl) dX0_holds_19 rfl ⟨?_, ?_⟩
      · first | rfl | (subst_vars; simp [holdsP, *]; done) | (subst_vars; simp_all [holdsP]; done)
      · rfl
set_option maxHeartbeats 1000000 in
set_option maxRecDepth 100000 in
theorem c_X0_countReady (g : jG) (d : Nat → Nat) (I : jF) (A : Nat → jF) (X : List (Nat × jF)) (k : Nat) (h : bok I X k) : Con g yX0_countReady cX0_countReady 4 (some .int) 3 59 0 0 [.ref (d 0)] [bc g d I A (lrf X), lts X] (jR (some (.int (jiter (cReady (I 5) X) 0 k))) [bc g d I A (lrf X), lts X]) := by
  refine Con.of (own := RX0) (lv := [(0, .ref (d 0))]) (by decide) rfl (Nat.le_of_ble_eq_true rfl) rfl ?_
  intro E hC hQ hN
  obtain ⟨hk1, hk2, hk3⟩ := id h
  refine j_iconst hC (0) dX0_countReady_0 (by decide) ?_
  refine j_istore_n hC dX0_countReady_1 rfl rfl rfl rfl (fun v_1 e_1 => ?_)
  refine j_iconst hC (0) dX0_countReady_2 (by decide) ?_
  refine j_istore_n hC dX0_countReady_3 rfl rfl rfl rfl (fun v_3 e_3 => ?_)
  have L_4 : ∀ (fu : Nat) (i : Nat) (x1 x2 : Int32) (hfu : k + 1 ≤ i + fu) (hi : i ≤ k) (h1 : x1 = jiter (cReady (I 5) X) 0 i) (h2 : x2 = nI i), J g (jRm 3 59 0 0) E 4 4 [(0, .ref (d 0)), (1, .int x1), (2, .int x2)] [] [bc g d I A (lrf X), lts X] (0) (0) := by
    intro fu
    induction fu with
    | zero => intro i x1 x2 hfu hi h1 h2; exact absurd hfu (by omega)
    | succ fu ih_4 =>
      intro i x1 x2 hfu hi h1 h2
      refine j_iload_n hC dX0_countReady_4 rfl rfl ?_
      refine j_aload_n hC dX0_countReady_5 rfl rfl ?_
      refine j_get hC uX0 0 0 1 rfl rfl k95 rfl dX0_countReady_6 ?_
      refine j_icmp_ge hC dX0_countReady_9 (tgt := 42) (by decide) (fun c_9 => ?_) (fun c_9 => ?_)
      · skip
        have hik : i = k := Nat.le_antisymm hi (jge hk1 h2 (by omega) (by omega) c_9)
        subst hik
        refine j_iload_n hC dX0_countReady_42 rfl rfl ?_
        refine j_iret hC hQ rfl rfl (Nat.le_of_ble_eq_true rfl) (Nat.le_of_ble_eq_true rfl) dX0_countReady_43 rfl ⟨?_, ?_⟩
        · exact congrArg (fun z => some (Value.int z)) h1
        · rfl
      · skip
        have hik : i < k := jlt hk1 h2 (by omega) (by omega) c_9
        refine j_aload_n hC dX0_countReady_12 rfl rfl ?_
        refine j_iload_n hC dX0_countReady_13 rfl rfl ?_
        refine j_callVR hC [0] (c_X0_find_in g _ _ _ _ _ _ _ h hik h2) mX0_find k353 rfl rfl rfl rfl rfl ⟨(Nat.le_of_ble_eq_true rfl), (Nat.le_of_ble_eq_true rfl)⟩ (Nat.le_of_ble_eq_true rfl) ⟨(Nat.le_of_ble_eq_true rfl), (Nat.le_of_ble_eq_true rfl)⟩ dX0_countReady_14 ?_
        dsimp only [jrepl, List.set, jstk]
        refine j_focus i 1 (jX_get (X := X) (by omega)) rfl ?_
        dsimp only [List.set, List.cons_append, List.nil_append]
        refine j_astore_n hC dX0_countReady_17 rfl rfl rfl rfl ?_
        refine j_aload_n hC dX0_countReady_18 rfl rfl ?_
        refine j_ifnull hC dX0_countReady_19 ?_
        refine j_aload_n hC dX0_countReady_22 rfl rfl ?_
        refine j_aload_n hC dX0_countReady_23 rfl rfl ?_
        refine j_get hC uX0 0 0 5 rfl rfl k106 rfl dX0_countReady_24 ?_
        refine j_callVR hC [2] (c_X2_isReady g _ _ _) mX2_isReady k581 rfl rfl rfl rfl rfl ⟨(Nat.le_of_ble_eq_true rfl), (Nat.le_of_ble_eq_true rfl)⟩ (Nat.le_of_ble_eq_true rfl) ⟨(Nat.le_of_ble_eq_true rfl), (Nat.le_of_ble_eq_true rfl)⟩ dX0_countReady_27 ?_
        dsimp only [jrepl, List.set, jstk]
        refine j_if_eq hC dX0_countReady_30 (tgt := 36) (by decide) (fun c_30 => ?_) (fun c_30 => ?_)
        · skip
          refine j_iinc hC (1) dX0_countReady_36 rfl rfl rfl rfl rfl (fun v_36 e_36 => ?_)
          refine j_goto hC dX0_countReady_39 (tgt := 4) (by decide) ?_
          refine j_pick [0, 1, 2] ?_
          refine j_unfocus i 1 (jX_get (X := X) (by omega)) rfl rfl rfl ?_
          dsimp only [List.set, List.dropLast]
          rw [lts_same (jX_get (by omega))]
          exact ih_4 (i + 1) _ _ (by omega) (by omega) (by show _ = (cReady (I 5) X) i (jiter (cReady (I 5) X) 0 i); rw [← h1]; first | exact e_33.trans (if_pos (jb1 c_30)).symm | exact (if_neg (jb0 c_30)).symm) (jsucc e_36 h2)
        · skip
          refine j_iinc hC (1) dX0_countReady_33 rfl rfl rfl rfl rfl (fun v_33 e_33 => ?_)
          refine j_iinc hC (1) dX0_countReady_36 rfl rfl rfl rfl rfl (fun v_36 e_36 => ?_)
          refine j_goto hC dX0_countReady_39 (tgt := 4) (by decide) ?_
          refine j_pick [0, 1, 2] ?_
          refine j_unfocus i 1 (jX_get (X := X) (by omega)) rfl rfl rfl ?_
          dsimp only [List.set, List.dropLast]
          rw [lts_same (jX_get (by omega))]
          exact ih_4 (i + 1) _ _ (by omega) (by omega) (by show _ = (cReady (I 5) X) i (jiter (cReady (I 5) X) 0 i); rw [← h1]; first | exact e_33.trans (if_pos (jb1 c_30)).symm | exact (if_neg (jb0 c_30)).symm) (jsucc e_36 h2)
  refine j_pick [0, 1, 2] ?_
  exact L_4 (k + 1) 0 _ _ (by omega) (Nat.zero_le _) e_1 (e_3.trans nI_0.symm)
set_option maxHeartbeats 1000000 in
set_option maxRecDepth 100000 in
theorem c_X0_countBurntOut (g : jG) (d : Nat → Nat) (I : jF) (A : Nat → jF) (X : List (Nat × jF)) (k : Nat) (h : bok I X k) : Con g yX0_countBurntOut cX0_countBurntOut 4 (some .int) 1 21 0 0 [.ref (d 0)] [bc g d I A (lrf X), lts X] (jR (some (.int (jiter (cBurnt X) 0 k))) [bc g d I A (lrf X), lts X]) := by
  refine Con.of (own := RX0) (lv := [(0, .ref (d 0))]) (by decide) rfl (Nat.le_of_ble_eq_true rfl) rfl ?_
  intro E hC hQ hN
  obtain ⟨hk1, hk2, hk3⟩ := id h
  refine j_iconst hC (0) dX0_countBurntOut_0 (by decide) ?_
  refine j_istore_n hC dX0_countBurntOut_1 rfl rfl rfl rfl (fun v_1 e_1 => ?_)
  refine j_iconst hC (0) dX0_countBurntOut_2 (by decide) ?_
  refine j_istore_n hC dX0_countBurntOut_3 rfl rfl rfl rfl (fun v_3 e_3 => ?_)
  have L_4 : ∀ (fu : Nat) (i : Nat) (x1 x2 : Int32) (hfu : k + 1 ≤ i + fu) (hi : i ≤ k) (h1 : x1 = jiter (cBurnt X) 0 i) (h2 : x2 = nI i), J g (jRm 1 21 0 0) E 4 4 [(0, .ref (d 0)), (1, .int x1), (2, .int x2)] [] [bc g d I A (lrf X), lts X] (0) (0) := by
    intro fu
    induction fu with
    | zero => intro i x1 x2 hfu hi h1 h2; exact absurd hfu (by omega)
    | succ fu ih_4 =>
      intro i x1 x2 hfu hi h1 h2
      refine j_iload_n hC dX0_countBurntOut_4 rfl rfl ?_
      refine j_aload_n hC dX0_countBurntOut_5 rfl rfl ?_
      refine j_get hC uX0 0 0 1 rfl rfl k95 rfl dX0_countBurntOut_6 ?_
      refine j_icmp_ge hC dX0_countBurntOut_9 (tgt := 38) (by decide) (fun c_9 => ?_) (fun c_9 => ?_)
      · skip
        have hik : i = k := Nat.le_antisymm hi (jge hk1 h2 (by omega) (by omega) c_9)
        subst hik
        refine j_iload_n hC dX0_countBurntOut_38 rfl rfl ?_
        refine j_iret hC hQ rfl rfl (Nat.le_of_ble_eq_true rfl) (Nat.le_of_ble_eq_true rfl) dX0_countBurntOut_39 rfl ⟨?_, ?_⟩
        · exact congrArg (fun z => some (Value.int z)) h1
        · rfl
      · skip
        have hik : i < k := jlt hk1 h2 (by omega) (by omega) c_9
        refine j_aload_n hC dX0_countBurntOut_12 rfl rfl ?_
        refine j_iload_n hC dX0_countBurntOut_13 rfl rfl ?_
        refine j_callVR hC [0] (c_X0_find_in g _ _ _ _ _ _ _ h hik h2) mX0_find k353 rfl rfl rfl rfl rfl ⟨(Nat.le_of_ble_eq_true rfl), (Nat.le_of_ble_eq_true rfl)⟩ (Nat.le_of_ble_eq_true rfl) ⟨(Nat.le_of_ble_eq_true rfl), (Nat.le_of_ble_eq_true rfl)⟩ dX0_countBurntOut_14 ?_
        dsimp only [jrepl, List.set, jstk]
        refine j_focus i 1 (jX_get (X := X) (by omega)) rfl ?_
        dsimp only [List.set, List.cons_append, List.nil_append]
        refine j_astore_n hC dX0_countBurntOut_17 rfl rfl rfl rfl ?_
        refine j_aload_n hC dX0_countBurntOut_18 rfl rfl ?_
        refine j_ifnull hC dX0_countBurntOut_19 ?_
        refine j_aload_n hC dX0_countBurntOut_22 rfl rfl ?_
        refine j_get hC uX2 2 0 7 rfl rfl k276 rfl dX0_countBurntOut_23 ?_
        refine j_if_ne hC dX0_countBurntOut_26 (tgt := 32) (by decide) (fun c_26 => ?_) (fun c_26 => ?_)
        · skip
          refine j_iinc hC (1) dX0_countBurntOut_32 rfl rfl rfl rfl rfl (fun v_32 e_32 => ?_)
          refine j_goto hC dX0_countBurntOut_35 (tgt := 4) (by decide) ?_
          refine j_pick [0, 1, 2] ?_
          refine j_unfocus i 1 (jX_get (X := X) (by omega)) rfl rfl rfl ?_
          dsimp only [List.set, List.dropLast]
          rw [lts_same (jX_get (by omega))]
          exact ih_4 (i + 1) _ _ (by omega) (by omega) (by show _ = (cBurnt X) i (jiter (cBurnt X) 0 i); rw [← h1]; first | exact e_29.trans (if_pos c_26).symm | exact (if_neg c_26).symm) (jsucc e_32 h2)
        · skip
          refine j_iinc hC (1) dX0_countBurntOut_29 rfl rfl rfl rfl rfl (fun v_29 e_29 => ?_)
          refine j_iinc hC (1) dX0_countBurntOut_32 rfl rfl rfl rfl rfl (fun v_32 e_32 => ?_)
          refine j_goto hC dX0_countBurntOut_35 (tgt := 4) (by decide) ?_
          refine j_pick [0, 1, 2] ?_
          refine j_unfocus i 1 (jX_get (X := X) (by omega)) rfl rfl rfl ?_
          dsimp only [List.set, List.dropLast]
          rw [lts_same (jX_get (by omega))]
          exact ih_4 (i + 1) _ _ (by omega) (by omega) (by show _ = (cBurnt X) i (jiter (cBurnt X) 0 i); rw [← h1]; first | exact e_29.trans (if_pos c_26).symm | exact (if_neg c_26).symm) (jsucc e_32 h2)
  refine j_pick [0, 1, 2] ?_
  exact L_4 (k + 1) 0 _ _ (by omega) (Nat.zero_le _) e_1 (e_3.trans nI_0.symm)
set_option maxHeartbeats 1000000 in
set_option maxRecDepth 100000 in
theorem c_X0_countReaching (g : jG) (d : Nat → Nat) (I : jF) (A : Nat → jF) (X : List (Nat × jF)) (k : Nat) (x y : Int32) (h : bok I X k) : Con g yX0_countReaching cX0_countReaching 6 (some .int) 3 61 0 0 [.ref (d 0), .int x, .int y] [bc g d I A (lrf X), lts X] (jR (some (.int (jiter (cReach (I 5) X x y) 0 k))) [bc g d I A (lrf X), lts X]) := by
  refine Con.of (own := RX0) (lv := [(0, .ref (d 0)), (1, .int x), (2, .int y)]) (by decide) rfl (Nat.le_of_ble_eq_true rfl) rfl ?_
  intro E hC hQ hN
  obtain ⟨hk1, hk2, hk3⟩ := id h
  refine j_iconst hC (0) dX0_countReaching_0 (by decide) ?_
  refine j_istore_n hC dX0_countReaching_1 rfl rfl rfl rfl (fun v_1 e_1 => ?_)
  refine j_iconst hC (0) dX0_countReaching_2 (by decide) ?_
  refine j_istore hC dX0_countReaching_3 rfl rfl rfl (fun v_3 e_3 => ?_)
  have L_5 : ∀ (fu : Nat) (i : Nat) (x3 x4 : Int32) (hfu : k + 1 ≤ i + fu) (hi : i ≤ k) (h1 : x3 = jiter (cReach (I 5) X x y) 0 i) (h2 : x4 = nI i), J g (jRm 3 61 0 0) E 6 5 [(0, .ref (d 0)), (1, .int x), (2, .int y), (3, .int x3), (4, .int x4)] [] [bc g d I A (lrf X), lts X] (0) (0) := by
    intro fu
    induction fu with
    | zero => intro i x3 x4 hfu hi h1 h2; exact absurd hfu (by omega)
    | succ fu ih_5 =>
      intro i x3 x4 hfu hi h1 h2
      refine j_iload hC dX0_countReaching_5 rfl ?_
      refine j_aload_n hC dX0_countReaching_7 rfl rfl ?_
      refine j_get hC uX0 0 0 1 rfl rfl k95 rfl dX0_countReaching_8 ?_
      refine j_icmp_ge hC dX0_countReaching_11 (tgt := 61) (by decide) (fun c_11 => ?_) (fun c_11 => ?_)
      · skip
        have hik : i = k := Nat.le_antisymm hi (jge hk1 h2 (by omega) (by omega) c_11)
        subst hik
        refine j_iload_n hC dX0_countReaching_61 rfl rfl ?_
        refine j_iret hC hQ rfl rfl (Nat.le_of_ble_eq_true rfl) (Nat.le_of_ble_eq_true rfl) dX0_countReaching_62 rfl ⟨?_, ?_⟩
        · exact congrArg (fun z => some (Value.int z)) h1
        · rfl
      · skip
        have hik : i < k := jlt hk1 h2 (by omega) (by omega) c_11
        refine j_aload_n hC dX0_countReaching_14 rfl rfl ?_
        refine j_iload hC dX0_countReaching_15 rfl ?_
        refine j_callVR hC [0] (c_X0_find_in g _ _ _ _ _ _ _ h hik h2) mX0_find k353 rfl rfl rfl rfl rfl ⟨(Nat.le_of_ble_eq_true rfl), (Nat.le_of_ble_eq_true rfl)⟩ (Nat.le_of_ble_eq_true rfl) ⟨(Nat.le_of_ble_eq_true rfl), (Nat.le_of_ble_eq_true rfl)⟩ dX0_countReaching_17 ?_
        dsimp only [jrepl, List.set, jstk]
        refine j_focus i 1 (jX_get (X := X) (by omega)) rfl ?_
        dsimp only [List.set, List.cons_append, List.nil_append]
        refine j_astore hC dX0_countReaching_20 rfl rfl rfl ?_
        refine j_aload hC dX0_countReaching_22 rfl ?_
        refine j_ifnull hC dX0_countReaching_24 ?_
        refine j_aload hC dX0_countReaching_27 rfl ?_
        refine j_iload_n hC dX0_countReaching_29 rfl rfl ?_
        refine j_callVR hC [2] (c_X2_reaches g _ _ _) mX2_reaches k655 rfl rfl rfl rfl rfl ⟨(Nat.le_of_ble_eq_true rfl), (Nat.le_of_ble_eq_true rfl)⟩ (Nat.le_of_ble_eq_true rfl) ⟨(Nat.le_of_ble_eq_true rfl), (Nat.le_of_ble_eq_true rfl)⟩ dX0_countReaching_30 ?_
        dsimp only [jrepl, List.set, jstk]
        refine j_if_eq hC dX0_countReaching_33 (tgt := 55) (by decide) (fun c_33 => ?_) (fun c_33 => ?_)
        · skip
          refine j_iinc hC (1) dX0_countReaching_55 rfl rfl rfl rfl rfl (fun v_55 e_55 => ?_)
          refine j_goto hC dX0_countReaching_58 (tgt := 5) (by decide) ?_
          refine j_pick [0, 1, 2, 3, 4] ?_
          refine j_unfocus i 1 (jX_get (X := X) (by omega)) rfl rfl rfl ?_
          dsimp only [List.set, List.dropLast]
          rw [lts_same (jX_get (by omega))]
          exact ih_5 (i + 1) _ _ (by omega) (by omega) (by show _ = (cReach (I 5) X x y) i (jiter (cReach (I 5) X x y) 0 i); rw [← h1]; first | exact e_52.trans (if_pos (And.intro (jb1 c_33) (Or.inl c_37))).symm | exact e_52.trans (if_pos (And.intro (jb1 c_33) (Or.inr (jb1 c_49)))).symm | exact (if_neg (fun q => jb0 c_33 q.1)).symm | exact (if_neg (fun q => q.2.elim c_37 (jb0 c_49))).symm) (jsucc e_55 h2)
        · skip
          refine j_iload_n hC dX0_countReaching_36 rfl rfl ?_
          refine j_if_eq hC dX0_countReaching_37 (tgt := 52) (by decide) (fun c_37 => ?_) (fun c_37 => ?_)
          · skip
            refine j_iinc hC (1) dX0_countReaching_52 rfl rfl rfl rfl rfl (fun v_52 e_52 => ?_)
            refine j_iinc hC (1) dX0_countReaching_55 rfl rfl rfl rfl rfl (fun v_55 e_55 => ?_)
            refine j_goto hC dX0_countReaching_58 (tgt := 5) (by decide) ?_
            refine j_pick [0, 1, 2, 3, 4] ?_
            refine j_unfocus i 1 (jX_get (X := X) (by omega)) rfl rfl rfl ?_
            dsimp only [List.set, List.dropLast]
            rw [lts_same (jX_get (by omega))]
            exact ih_5 (i + 1) _ _ (by omega) (by omega) (by show _ = (cReach (I 5) X x y) i (jiter (cReach (I 5) X x y) 0 i); rw [← h1]; first | exact e_52.trans (if_pos (And.intro (jb1 c_33) (Or.inl c_37))).symm | exact e_52.trans (if_pos (And.intro (jb1 c_33) (Or.inr (jb1 c_49)))).symm | exact (if_neg (fun q => jb0 c_33 q.1)).symm | exact (if_neg (fun q => q.2.elim c_37 (jb0 c_49))).symm) (jsucc e_55 h2)
          · skip
            refine j_aload hC dX0_countReaching_40 rfl ?_
            refine j_aload_n hC dX0_countReaching_42 rfl rfl ?_
            refine j_get hC uX0 0 0 5 rfl rfl k106 rfl dX0_countReaching_43 ?_
            refine j_callVR hC [2] (c_X2_isReady g _ _ _) mX2_isReady k581 rfl rfl rfl rfl rfl ⟨(Nat.le_of_ble_eq_true rfl), (Nat.le_of_ble_eq_true rfl)⟩ (Nat.le_of_ble_eq_true rfl) ⟨(Nat.le_of_ble_eq_true rfl), (Nat.le_of_ble_eq_true rfl)⟩ dX0_countReaching_46 ?_
            dsimp only [jrepl, List.set, jstk]
            refine j_if_eq hC dX0_countReaching_49 (tgt := 55) (by decide) (fun c_49 => ?_) (fun c_49 => ?_)
            · skip
              refine j_iinc hC (1) dX0_countReaching_55 rfl rfl rfl rfl rfl (fun v_55 e_55 => ?_)
              refine j_goto hC dX0_countReaching_58 (tgt := 5) (by decide) ?_
              refine j_pick [0, 1, 2, 3, 4] ?_
              refine j_unfocus i 1 (jX_get (X := X) (by omega)) rfl rfl rfl ?_
              dsimp only [List.set, List.dropLast]
              rw [lts_same (jX_get (by omega))]
              exact ih_5 (i + 1) _ _ (by omega) (by omega) (by show _ = (cReach (I 5) X x y) i (jiter (cReach (I 5) X x y) 0 i); rw [← h1]; first | exact e_52.trans (if_pos (And.intro (jb1 c_33) (Or.inl c_37))).symm | exact e_52.trans (if_pos (And.intro (jb1 c_33) (Or.inr (jb1 c_49)))).symm | exact (if_neg (fun q => jb0 c_33 q.1)).symm | exact (if_neg (fun q => q.2.elim c_37 (jb0 c_49))).symm) (jsucc e_55 h2)
            · skip
              refine j_iinc hC (1) dX0_countReaching_52 rfl rfl rfl rfl rfl (fun v_52 e_52 => ?_)
              refine j_iinc hC (1) dX0_countReaching_55 rfl rfl rfl rfl rfl (fun v_55 e_55 => ?_)
              refine j_goto hC dX0_countReaching_58 (tgt := 5) (by decide) ?_
              refine j_pick [0, 1, 2, 3, 4] ?_
              refine j_unfocus i 1 (jX_get (X := X) (by omega)) rfl rfl rfl ?_
              dsimp only [List.set, List.dropLast]
              rw [lts_same (jX_get (by omega))]
              exact ih_5 (i + 1) _ _ (by omega) (by omega) (by show _ = (cReach (I 5) X x y) i (jiter (cReach (I 5) X x y) 0 i); rw [← h1]; first | exact e_52.trans (if_pos (And.intro (jb1 c_33) (Or.inl c_37))).symm | exact e_52.trans (if_pos (And.intro (jb1 c_33) (Or.inr (jb1 c_49)))).symm | exact (if_neg (fun q => jb0 c_33 q.1)).symm | exact (if_neg (fun q => q.2.elim c_37 (jb0 c_49))).symm) (jsucc e_55 h2)
  refine j_pick [0, 1, 2, 3, 4] ?_
  exact L_5 (k + 1) 0 _ _ (by omega) (Nat.zero_le _) e_1 (e_3.trans nI_0.symm)
set_option maxHeartbeats 1000000 in
set_option maxRecDepth 100000 in
theorem c_X0_withoutCircuit (g : jG) (d : Nat → Nat) (I : jF) (A : Nat → jF) (X : List (Nat × jF)) (k : Nat) (x : Int32) (h : bok I X k) : Con g yX0_withoutCircuit cX0_withoutCircuit 5 (some .int) 1 21 0 0 [.ref (d 0), .int x] [bc g d I A (lrf X), lts X] (jR (some (.int (jiter (cOther X x) 0 k))) [bc g d I A (lrf X), lts X]) := by
  refine Con.of (own := RX0) (lv := [(0, .ref (d 0)), (1, .int x)]) (by decide) rfl (Nat.le_of_ble_eq_true rfl) rfl ?_
  intro E hC hQ hN
  obtain ⟨hk1, hk2, hk3⟩ := id h
  refine j_iconst hC (0) dX0_withoutCircuit_0 (by decide) ?_
  refine j_istore_n hC dX0_withoutCircuit_1 rfl rfl rfl rfl (fun v_1 e_1 => ?_)
  refine j_iconst hC (0) dX0_withoutCircuit_2 (by decide) ?_
  refine j_istore_n hC dX0_withoutCircuit_3 rfl rfl rfl rfl (fun v_3 e_3 => ?_)
  have L_4 : ∀ (fu : Nat) (i : Nat) (x2 x3 : Int32) (hfu : k + 1 ≤ i + fu) (hi : i ≤ k) (h1 : x2 = jiter (cOther X x) 0 i) (h2 : x3 = nI i), J g (jRm 1 21 0 0) E 5 4 [(0, .ref (d 0)), (1, .int x), (2, .int x2), (3, .int x3)] [] [bc g d I A (lrf X), lts X] (0) (0) := by
    intro fu
    induction fu with
    | zero => intro i x2 x3 hfu hi h1 h2; exact absurd hfu (by omega)
    | succ fu ih_4 =>
      intro i x2 x3 hfu hi h1 h2
      refine j_iload_n hC dX0_withoutCircuit_4 rfl rfl ?_
      refine j_aload_n hC dX0_withoutCircuit_5 rfl rfl ?_
      refine j_get hC uX0 0 0 1 rfl rfl k95 rfl dX0_withoutCircuit_6 ?_
      refine j_icmp_ge hC dX0_withoutCircuit_9 (tgt := 45) (by decide) (fun c_9 => ?_) (fun c_9 => ?_)
      · skip
        have hik : i = k := Nat.le_antisymm hi (jge hk1 h2 (by omega) (by omega) c_9)
        subst hik
        refine j_iload_n hC dX0_withoutCircuit_45 rfl rfl ?_
        refine j_iret hC hQ rfl rfl (Nat.le_of_ble_eq_true rfl) (Nat.le_of_ble_eq_true rfl) dX0_withoutCircuit_46 rfl ⟨?_, ?_⟩
        · exact congrArg (fun z => some (Value.int z)) h1
        · rfl
      · skip
        have hik : i < k := jlt hk1 h2 (by omega) (by omega) c_9
        refine j_aload_n hC dX0_withoutCircuit_12 rfl rfl ?_
        refine j_iload_n hC dX0_withoutCircuit_13 rfl rfl ?_
        refine j_callVR hC [0] (c_X0_find_in g _ _ _ _ _ _ _ h hik h2) mX0_find k353 rfl rfl rfl rfl rfl ⟨(Nat.le_of_ble_eq_true rfl), (Nat.le_of_ble_eq_true rfl)⟩ (Nat.le_of_ble_eq_true rfl) ⟨(Nat.le_of_ble_eq_true rfl), (Nat.le_of_ble_eq_true rfl)⟩ dX0_withoutCircuit_14 ?_
        dsimp only [jrepl, List.set, jstk]
        refine j_focus i 1 (jX_get (X := X) (by omega)) rfl ?_
        dsimp only [List.set, List.cons_append, List.nil_append]
        refine j_astore hC dX0_withoutCircuit_17 rfl rfl rfl ?_
        refine j_aload hC dX0_withoutCircuit_19 rfl ?_
        refine j_ifnull hC dX0_withoutCircuit_21 ?_
        refine j_aload hC dX0_withoutCircuit_24 rfl ?_
        refine j_get hC uX2 2 0 1 rfl rfl k265 rfl dX0_withoutCircuit_26 ?_
        refine j_iload_n hC dX0_withoutCircuit_29 rfl rfl ?_
        refine j_icmp_eq hC dX0_withoutCircuit_30 (tgt := 39) (by decide) (fun c_30 => ?_) (fun c_30 => ?_)
        · skip
          refine j_iinc hC (1) dX0_withoutCircuit_39 rfl rfl rfl rfl rfl (fun v_39 e_39 => ?_)
          refine j_goto hC dX0_withoutCircuit_42 (tgt := 4) (by decide) ?_
          refine j_pick [0, 1, 2, 3] ?_
          refine j_unfocus i 1 (jX_get (X := X) (by omega)) rfl rfl rfl ?_
          dsimp only [List.set, List.dropLast]
          rw [lts_same (jX_get (by omega))]
          exact ih_4 (i + 1) _ _ (by omega) (by omega) (by show _ = (cOther X x) i (jiter (cOther X x) 0 i); rw [← h1]; first | exact (if_pos c_30).symm | exact (e_38.trans (by rw [h2])).trans (if_neg c_30).symm) (jsucc e_39 h2)
        · skip
          refine j_iload_n hC dX0_withoutCircuit_33 rfl rfl ?_
          refine j_iconst hC (1) dX0_withoutCircuit_34 (by decide) ?_
          refine j_iload_n hC dX0_withoutCircuit_35 rfl rfl ?_
          refine j_ishl hC dX0_withoutCircuit_36 ?_
          refine j_ior hC dX0_withoutCircuit_37 ?_
          refine j_istore_n hC dX0_withoutCircuit_38 rfl rfl rfl rfl (fun v_38 e_38 => ?_)
          refine j_iinc hC (1) dX0_withoutCircuit_39 rfl rfl rfl rfl rfl (fun v_39 e_39 => ?_)
          refine j_goto hC dX0_withoutCircuit_42 (tgt := 4) (by decide) ?_
          refine j_pick [0, 1, 2, 3] ?_
          refine j_unfocus i 1 (jX_get (X := X) (by omega)) rfl rfl rfl ?_
          dsimp only [List.set, List.dropLast]
          rw [lts_same (jX_get (by omega))]
          exact ih_4 (i + 1) _ _ (by omega) (by omega) (by show _ = (cOther X x) i (jiter (cOther X x) 0 i); rw [← h1]; first | exact (if_pos c_30).symm | exact (e_38.trans (by rw [h2])).trans (if_neg c_30).symm) (jsucc e_39 h2)
  refine j_pick [0, 1, 2, 3] ?_
  exact L_4 (k + 1) 0 _ _ (by omega) (Nat.zero_le _) e_1 (e_3.trans nI_0.symm)
end
section
/-! the class's buildings, second half: what changes them -/
def appA (A : Nat → jF) (n : Nat) (x y : Int32) : Nat → jF := va_up (va_up A 0 (upd (A 0) n x)) 1 (upd (A 1) n y)
def rmA (k : Nat) (A : Nat → jF) : Nat → jF := va_up (va_up A 0 (upd (A 0) k (A 0 (k + 1)))) 1 (upd (A 1) k (A 1 (k + 1)))
def grown (X : List (Nat × jF)) (k : Nat) (Y : List (Nat × jF)) : Prop := k < Y.length ∧ Y.length ≤ 10 ∧ X.length ≤ Y.length ∧ ∀ j, j < k → Y[j]? = X[j]?
theorem grow_some {I : jF} {X : List (Nat × jF)} {k : Nat} (h : bok I X k) (hk : k < X.length) : va_rf (lrf X (I 1).toNatClampNeg) = .ref (jAd X k) := by
  rw [h.1, nI_cl (by have := h.2; omega), lrf_get hk]
  rfl
theorem grow_none {I : jF} {X : List (Nat × jF)} {k : Nat} (h : bok I X k) (hk : ¬ k < X.length) : va_rf (lrf X (I 1).toNatClampNeg) = .null := by
  rw [h.1, nI_cl (by have := h.2; omega)]
  unfold lrf
  rw [List.getElem?_eq_none (by omega)]
  rfl
theorem lrf_push {X : List (Nat × jF)} {q : Nat} {L : jF} : va_up (lrf X) X.length (some q) = lrf (X ++ [(q, L)]) := by
  funext i
  unfold va_up lrf
  by_cases h : i = X.length
  · subst h
    rw [if_pos rfl, List.getElem?_append_right (Nat.le_refl _)]
    simp
  · rw [if_neg h]
    rcases Nat.lt_or_ge i X.length with h2 | h2
    · rw [List.getElem?_append_left h2]
    · rw [List.getElem?_eq_none h2, List.getElem?_eq_none (by simp; omega)]
theorem lts_push {X : List (Nat × jF)} {q : Nat} {L : jF} : lts (X ++ [(q, L)]) = lts X ++ lb q L := by simp [lts, lb]
theorem vp_k {I : jF} {X : List (Nat × jF)} {k : Nat} (h : bok I X k) (hk : k < 10) : vp_in (I 1) 10 := by
  rw [h.1]
  exact vp_in_nI hk (by decide)
/-- the refs of a row whose light j is taken out, when t of those behind it have moved -/
def rshift (j t : Nat) (r : Nat → Option Nat) : Nat → Option Nat := fun i => if j ≤ i ∧ i < j + t then r (i + 1) else r i
theorem rshift_step {j t : Nat} {r : Nat → Option Nat} {a : Nat} (h : r (j + t + 1) = some a) : va_up (rshift j t r) (j + t) (some a) = rshift j (t + 1) r := by
  funext i
  unfold va_up rshift
  by_cases h1 : i = j + t
  · subst h1
    rw [if_pos rfl, if_pos (by omega), h]
  · rw [if_neg h1]
    by_cases h2 : j ≤ i ∧ i < j + t
    · rw [if_pos h2, if_pos (by omega)]
    · rw [if_neg h2, if_neg (by omega)]
def rotX (X : List (Nat × jF)) (j k : Nat) : List (Nat × jF) := match X[j]? with
  | some q => (X.eraseIdx j).insertIdx (k - 1) q
  | none => X
theorem rotX_perm {X : List (Nat × jF)} {j k : Nat} (hj : j < k) (hk : k ≤ X.length) : X.Perm (rotX X j k) := by
  unfold rotX
  rw [jX_get (X := X) (j := j) (by omega)]
  refine (jerase (jX_get (X := X) (j := j) (by omega))).trans ?_
  exact (List.perm_insertIdx _ _ (by rw [List.length_eraseIdx_of_lt (show j < X.length by omega)]; omega)).symm
theorem rotX_get {X : List (Nat × jF)} {j k i : Nat} (hj : j < k) (hk : k ≤ X.length) : (rotX X j k)[i]? = if i < j then X[i]? else if i + 1 < k then X[i + 1]? else if i + 1 = k then X[j]? else X[i]? := by
  unfold rotX
  rw [jX_get (X := X) (j := j) (by omega)]
  show ((X.eraseIdx j).insertIdx (k - 1) (jAd X j, jL X j))[i]? = _
  rw [List.getElem?_insertIdx, List.length_eraseIdx_of_lt (show j < X.length by omega), ← jX_get (X := X) (j := j) (by omega)]
  simp only [List.getElem?_eraseIdx]
  repeat' split
  all_goals first | rfl | (exfalso; omega) | (congr 1; omega)
theorem rotX_len {X : List (Nat × jF)} {j k : Nat} (hj : j < k) (hk : k ≤ X.length) : (rotX X j k).length = X.length := (rotX_perm hj hk).length_eq.symm
theorem rotX_lrf {X : List (Nat × jF)} {j k : Nat} (hj : j < k) (hk : k ≤ X.length) : va_up (rshift j (k - 1 - j) (lrf X)) (k - 1) (some (jAd X j)) = lrf (rotX X j k) := by
  funext i
  unfold va_up rshift lrf
  rw [rotX_get hj hk]
  by_cases h1 : i = k - 1
  · subst h1
    rw [if_pos rfl, if_neg (by omega), if_neg (by omega), if_pos (by omega), jX_get (by omega)]
    rfl
  · rw [if_neg h1]
    by_cases h2 : j ≤ i ∧ i < j + (k - 1 - j)
    · rw [if_pos h2, if_neg (by omega), if_pos (by omega)]
    · rw [if_neg h2]
      by_cases h3 : i < j
      · rw [if_pos h3]
      · rw [if_neg h3, if_neg (by omega), if_neg (by omega)]
theorem jpredI {j t : Nat} {x : Int32} (h : x = nI (j + t + 1)) : x - 1 = nI (j + t) := by rw [h]; exact nI_pred _
/-- which kind of lamp is put in place of another -/
def lipo (A : Nat → jF) (x : Int32) : Int32 := if ¬ stockOf A x ≤ 0 then x else if ¬ stockOf A 2 ≤ 0 then (if widthOf 2 < widthOf x then -9 else 2) else if ¬ stockOf A 1 ≤ 0 then (if widthOf 1 < widthOf x then -9 else 1) else if ¬ stockOf A 0 ≤ 0 then (if widthOf 0 < widthOf x then -9 else 0) else -9
def plStep (x : Int32) (X : List (Nat × jF)) (j : Nat) (s : (Nat → jF) × Int32) : (Nat → jF) × Int32 := if x ≤ jL X j 7 then s else if lipo s.1 (jL X j 3) = -9 then s else (stockTo s.1 (lipo s.1 (jL X j 3)) (-1), s.2 + 1)
def plL (x : Int32) (A : Nat → jF) (L : jF) : jF := if x ≤ L 7 then L else if lipo A (L 3) = -9 then L else putL L (lipo A (L 3))
def burnsP (x : Int32) (j : Nat) : Prop := (x >>> (nI j &&& 31)) &&& 1 = 1
def bF (x : Int32) (j : Nat) (L : jF) : jF := if ¬ (x >>> (nI j &&& 31)) &&& 1 = 1 then L else burnL L
def bStep (x : Int32) (X : List (Nat × jF)) (j : Nat) (s : Int32 × Int32) : Int32 × Int32 := if ¬ (x >>> (nI j &&& 31)) &&& 1 = 1 then s else if burnMin (jL X j) = rated (jL X j 2) then (s.1 + 1, s.2) else (s.1, s.2 + 1)
theorem plStep_a {x : Int32} {X : List (Nat × jF)} {j : Nat} {s : (Nat → jF) × Int32} (h : x ≤ jL X j 7) : plStep x X j s = s := if_pos h
theorem plStep_b {x : Int32} {X : List (Nat × jF)} {j : Nat} {s : (Nat → jF) × Int32} (h : ¬ x ≤ jL X j 7) (h2 : lipo s.1 (jL X j 3) = -9) : plStep x X j s = s := (if_neg h).trans (if_pos h2)
theorem plStep_c {x : Int32} {X : List (Nat × jF)} {j : Nat} {s : (Nat → jF) × Int32} (h : ¬ x ≤ jL X j 7) (h2 : ¬ lipo s.1 (jL X j 3) = -9) : plStep x X j s = (stockTo s.1 (lipo s.1 (jL X j 3)) (-1), s.2 + 1) := (if_neg h).trans (if_neg h2)
theorem plL_a {x : Int32} {A : Nat → jF} {L : jF} (h : x ≤ L 7) : plL x A L = L := if_pos h
theorem plL_b {x : Int32} {A : Nat → jF} {L : jF} (h : ¬ x ≤ L 7) (h2 : lipo A (L 3) = -9) : plL x A L = L := (if_neg h).trans (if_pos h2)
theorem plL_c {x : Int32} {A : Nat → jF} {L : jF} (h : ¬ x ≤ L 7) (h2 : ¬ lipo A (L 3) = -9) : plL x A L = putL L (lipo A (L 3)) := (if_neg h).trans (if_neg h2)
theorem bStep_a {x : Int32} {X : List (Nat × jF)} {j : Nat} {s : Int32 × Int32} (h : ¬ (x >>> (nI j &&& 31)) &&& 1 = 1) : bStep x X j s = s := if_pos h
theorem bStep_b {x : Int32} {X : List (Nat × jF)} {j : Nat} {s : Int32 × Int32} (h : (x >>> (nI j &&& 31)) &&& 1 = 1) (h2 : burnMin (jL X j) = rated (jL X j 2)) : bStep x X j s = (s.1 + 1, s.2) := (if_neg (fun q => q h)).trans (if_pos h2)
theorem bStep_c {x : Int32} {X : List (Nat × jF)} {j : Nat} {s : Int32 × Int32} (h : (x >>> (nI j &&& 31)) &&& 1 = 1) (h2 : ¬ burnMin (jL X j) = rated (jL X j 2)) : bStep x X j s = (s.1, s.2 + 1) := (if_neg (fun q => q h)).trans (if_neg h2)
theorem bF_a {x : Int32} {j : Nat} {L : jF} (h : ¬ (x >>> (nI j &&& 31)) &&& 1 = 1) : bF x j L = L := if_pos h
theorem bF_b {x : Int32} {j : Nat} {L : jF} (h : (x >>> (nI j &&& 31)) &&& 1 = 1) : bF x j L = burnL L := if_neg (fun q => q h)
/-- an hour's number is a thousand's -/
def agesP (h : Int32) : Prop := h - h / 1000 * 1000 = 0
def strL (h : Int32) (x : Int32) (L : jF) : jF := if ¬ h - h / 1000 * 1000 = 0 then hoursL L x else ageL (hoursL L x) 1
/-- the stretches behind the first one -/
def lhp : Nat → Int32 → Int32 → jF → jF
  | 0, _, _, L => L
  | f + 1, left, h, L => if left ≤ 0 then L else lhp f (left - 1000) (h + jmin left 1000) (strL (h + jmin left 1000) (jmin left 1000) L)
set_option maxHeartbeats 1000000 in
set_option maxRecDepth 100000 in
theorem c_X0_grow (g : jG) (d : Nat → Nat) (I : jF) (A : Nat → jF) (X : List (Nat × jF)) (k : Nat) (h : bok I X k) (hk : k < 10) : Con g yX0_grow cX0_grow 2 (some (.object "EscapeLights$Light")) 2 36 1 9 [.ref (d 0)] [bc g d I A (lrf X), lts X] (fun r b => ∃ Y, r = some (.ref (jAd Y k)) ∧ b = [bc g d (upd I 1 (I 1 + 1)) A (lrf Y), lts Y] ∧ grown X k Y) := by
  refine Con.of (own := RX0) (lv := [(0, .ref (d 0))]) (by decide) rfl (Nat.le_of_ble_eq_true rfl) rfl ?_
  intro E hC hQ hN
  obtain ⟨hk1, hk2, hk3⟩ := id h
  have hn0 : ¬ I 1 < 0 := by rw [hk1, ← nI_0, nI_ltI (by omega) (by omega)]; omega
  have hn1 : I 1 < 10 := by rw [hk1]; exact (nI_ltI (b := 10) (by omega) (by omega)).mpr hk
  refine j_aload_n hC dX0_grow_0 rfl rfl ?_
  refine j_get hC uX0 0 0 1 rfl rfl k95 rfl dX0_grow_1 ?_
  refine j_if_lt hC dX0_grow_4 (tgt := 16) (by decide) (fun c_4 => ?_) (fun c_4 => ?_)
  · exact absurd c_4 hn0
  · skip
    refine j_aload_n hC dX0_grow_7 rfl rfl ?_
    refine j_get hC uX0 0 0 1 rfl rfl k95 rfl dX0_grow_8 ?_
    refine j_bipush hC (10) dX0_grow_11 (by decide) ?_
    refine j_icmp_lt hC dX0_grow_13 (tgt := 18) (by decide) (fun c_13 => ?_) (fun c_13 => ?_)
    · skip
      refine j_aload_n hC dX0_grow_18 rfl rfl ?_
      refine j_get hC uX0 0 0 0 rfl rfl k94 rfl dX0_grow_19 ?_
      refine j_aload_n hC dX0_grow_22 rfl rfl ?_
      refine j_get hC uX0 0 0 1 rfl rfl k95 rfl dX0_grow_23 ?_
      refine j_aald hC 4 0 1 rfl rfl (vp_k h hk) dX0_grow_26 ?_
      by_cases hkX : k < X.length
      · skip
        rw [grow_some h hkX]
        refine j_astore_n hC dX0_grow_27 rfl rfl rfl rfl ?_
        refine j_aload_n hC dX0_grow_28 rfl rfl ?_
        refine j_ifnonnull hC dX0_grow_29 (tgt := 50) (by decide) ?_
        refine j_aload_n hC dX0_grow_50 rfl rfl ?_
        refine j_dup hC dX0_grow_51 rfl ?_
        refine j_get hC uX0 0 0 1 rfl rfl k95 rfl dX0_grow_52 ?_
        refine j_iconst hC (1) dX0_grow_55 (by decide) ?_
        refine j_iadd hC dX0_grow_56 ?_
        refine j_put_0_1 (bi := 0) hC rfl k95 dX0_grow_57 ?_
        dsimp only [List.set]
        refine j_aload_n hC dX0_grow_60 rfl rfl ?_
        refine j_aret hC hQ rfl (by first | exact Or.inl rfl | exact Or.inr ⟨_, rfl⟩) (Nat.le_of_ble_eq_true rfl) (Nat.le_of_ble_eq_true rfl) dX0_grow_61 rfl ?_
        first | exact ⟨X, rfl, rfl, hkX, hk3, Nat.le_refl _, fun _ _ => rfl⟩ | exact ⟨X ++ [(q, fun _ => 0)], by unfold jAd; simp, rfl, by simp, by simp; omega, by simp, fun j hj => by rw [List.getElem?_append_left (by omega)]⟩
      · skip
        rw [grow_none h hkX]
        obtain rfl : X.length = k := by omega
        refine j_astore_nN hC dX0_grow_27 rfl rfl rfl rfl ?_
        refine j_aload_nN hC dX0_grow_28 rfl rfl ?_
        refine j_ifnonnullN hC dX0_grow_29 ?_
        refine j_new hC uX2 (fs := lf (fun _ => 0)) dft2 k92 k257 k55 (Nat.le_of_ble_eq_true rfl) (Nat.le_of_ble_eq_true rfl) dX0_grow_32 (fun q => ?_)
        dsimp only [List.cons_append, List.nil_append]
        refine j_dup hC dX0_grow_35 rfl ?_
        refine j_callINR hC [2] (c_X2_init g _ _) mX2_init k258 rfl rfl rfl ⟨(Nat.le_of_ble_eq_true rfl), (Nat.le_of_ble_eq_true rfl)⟩ (Nat.le_of_ble_eq_true rfl) ⟨(Nat.le_of_ble_eq_true rfl), (Nat.le_of_ble_eq_true rfl)⟩ dX0_grow_36 ?_
        dsimp only [jrepl, List.set, jstk]
        refine j_astore_n hC dX0_grow_39 rfl rfl rfl rfl ?_
        refine j_aload_n hC dX0_grow_40 rfl rfl ?_
        refine j_get hC uX0 0 0 0 rfl rfl k94 rfl dX0_grow_41 ?_
        refine j_aload_n hC dX0_grow_44 rfl rfl ?_
        refine j_get hC uX0 0 0 1 rfl rfl k95 rfl dX0_grow_45 ?_
        refine j_aload_n hC dX0_grow_48 rfl rfl ?_
        refine j_aast_0 (bi := 0) hC rfl (jat_flat (bl := [bc g d I A (lrf X), lts X, lb q (fun _ => 0)]) (bi := 2) (bj := 0) rfl) (vp_k h hk) dX0_grow_49 ?_
        dsimp only [List.set]
        rw [show (I 1).toNatClampNeg = X.length by rw [hk1]; exact nI_cl (by omega), lrf_push (L := fun _ => 0)]
        refine j_eqfl [bc g d I A (lrf (X ++ [(q, fun _ => 0)])), lts (X ++ [(q, fun _ => 0)])] (by rw [lts_push]; simp) ?_
        refine j_aload_n hC dX0_grow_50 rfl rfl ?_
        refine j_dup hC dX0_grow_51 rfl ?_
        refine j_get hC uX0 0 0 1 rfl rfl k95 rfl dX0_grow_52 ?_
        refine j_iconst hC (1) dX0_grow_55 (by decide) ?_
        refine j_iadd hC dX0_grow_56 ?_
        refine j_put_0_1 (bi := 0) hC rfl k95 dX0_grow_57 ?_
        dsimp only [List.set]
        refine j_aload_n hC dX0_grow_60 rfl rfl ?_
        refine j_aret hC hQ rfl (by first | exact Or.inl rfl | exact Or.inr ⟨_, rfl⟩) (Nat.le_of_ble_eq_true rfl) (Nat.le_of_ble_eq_true rfl) dX0_grow_61 rfl ?_
        first | exact ⟨X, rfl, rfl, hkX, hk3, Nat.le_refl _, fun _ _ => rfl⟩ | exact ⟨X ++ [(q, fun _ => 0)], by unfold jAd; simp, rfl, by simp, by simp; omega, by simp, fun j hj => by rw [List.getElem?_append_left (by omega)]⟩
    · exact absurd hn1 c_13
set_option maxHeartbeats 1000000 in
set_option maxRecDepth 100000 in
theorem c_X0_removeLight (g : jG) (d : Nat → Nat) (I : jF) (A : Nat → jF) (X : List (Nat × jF)) (k : Nat) (j : Nat) (x : Int32) (h : bok I X k) (hj : j < k) (hx : x = nI j) : Con g yX0_removeLight cX0_removeLight 5 none 1 21 0 0 [.ref (d 0), .int x] [bc g d I A (lrf X), lts X] (jR (none) [bc g d (upd I 1 (I 1 - 1)) A (lrf (rotX X j k)), lts (rotX X j k)]) := by
  refine Con.of (own := RX0) (lv := [(0, .ref (d 0)), (1, .int x)]) (by decide) rfl (Nat.le_of_ble_eq_true rfl) rfl ?_
  intro E hC hQ hN
  obtain ⟨hk1, hk2, hk3⟩ := id h
  refine j_aload_n hC dX0_removeLight_0 rfl rfl ?_
  refine j_iload_n hC dX0_removeLight_1 rfl rfl ?_
  refine j_callVR hC [0] (c_X0_find_in g _ _ _ _ _ _ _ h hj hx) mX0_find k353 rfl rfl rfl rfl rfl ⟨(Nat.le_of_ble_eq_true rfl), (Nat.le_of_ble_eq_true rfl)⟩ (Nat.le_of_ble_eq_true rfl) ⟨(Nat.le_of_ble_eq_true rfl), (Nat.le_of_ble_eq_true rfl)⟩ dX0_removeLight_2 ?_
  dsimp only [jrepl, List.set, jstk]
  refine j_astore_n hC dX0_removeLight_5 rfl rfl rfl rfl ?_
  refine j_aload_n hC dX0_removeLight_6 rfl rfl ?_
  refine j_ifnonnull hC dX0_removeLight_7 (tgt := 11) (by decide) ?_
  refine j_iload_n hC dX0_removeLight_11 rfl rfl ?_
  refine j_istore_n hC dX0_removeLight_12 rfl rfl rfl rfl (fun v_12 e_12 => ?_)
  refine j_iload_n hC dX0_removeLight_13 rfl rfl ?_
  refine j_iconst hC (1) dX0_removeLight_14 (by decide) ?_
  refine j_iadd hC dX0_removeLight_15 ?_
  refine j_istore hC dX0_removeLight_16 rfl rfl rfl (fun v_16 e_16 => ?_)
  have L_18 : ∀ (fu : Nat) (t : Nat) (x3 x4 : Int32) (hfu : k + 1 ≤ j + t + 1 + fu) (ht : j + t + 1 ≤ k) (h3 : x3 = nI (j + t)) (h4 : x4 = nI (j + t + 1)), J g (jRm 1 21 0 0) E 5 18 [(0, .ref (d 0)), (2, .ref (jAd X j)), (3, .int x3), (4, .int x4)] [] [bc g d I A (rshift j t (lrf X)), lts X] (0) (0) := by
    intro fu
    induction fu with
    | zero => intro t x3 x4 hfu ht h3 h4; exact absurd hfu (by omega)
    | succ fu ih_18 =>
      intro t x3 x4 hfu ht h3 h4
      refine j_iload hC dX0_removeLight_18 rfl ?_
      refine j_aload_n hC dX0_removeLight_20 rfl rfl ?_
      refine j_get hC uX0 0 0 1 rfl rfl k95 rfl dX0_removeLight_21 ?_
      refine j_icmp_ge hC dX0_removeLight_24 (tgt := 59) (by decide) (fun c_24 => ?_) (fun c_24 => ?_)
      · skip
        have hik : j + t + 1 = k := by first | exact Nat.le_antisymm ht (jge hk1 h4 (by omega) (by omega) c_24) | exact absurd (jge (i := j + t + 1) (show (10 : Int32) = nI 10 from rfl) h4 (by omega) (by omega) c_31) (by have q2 := jlt hk1 h4 (by omega) (by omega) c_24; omega)
        refine j_aload_n hC dX0_removeLight_59 rfl rfl ?_
        refine j_get hC uX0 0 0 0 rfl rfl k94 rfl dX0_removeLight_60 ?_
        refine j_iload_n hC dX0_removeLight_63 rfl rfl ?_
        refine j_aload_n hC dX0_removeLight_64 rfl rfl ?_
        refine j_aast_0 (bi := 0) hC rfl (lts_at (bi := 1) rfl (jX_get (X := X) (j := j) (by omega))) (by rw [h3]; exact vp_in_nI (by omega) (by decide)) dX0_removeLight_65 ?_
        dsimp only [List.set]
        rw [h3, nI_cl (by omega), show t = k - 1 - j by omega, show j + (k - 1 - j) = k - 1 by omega, rotX_lrf hj hk2]
        refine j_perm (bl' := [bc g d I A (lrf (rotX X j k)), lts (rotX X j k)]) ?_ ?_
        · (simp only [List.flatten_cons, List.flatten_nil, List.append_nil]; exact ((rotX_perm hj hk2).map _).append_left _)
        refine j_aload_n hC dX0_removeLight_66 rfl rfl ?_
        refine j_dup hC dX0_removeLight_67 rfl ?_
        refine j_get hC uX0 0 0 1 rfl rfl k95 rfl dX0_removeLight_68 ?_
        refine j_iconst hC (1) dX0_removeLight_71 (by decide) ?_
        refine j_isub hC dX0_removeLight_72 ?_
        refine j_put_0_1 (bi := 0) hC rfl k95 dX0_removeLight_73 ?_
        dsimp only [List.set]
        refine j_vret hC hQ rfl (Nat.le_of_ble_eq_true rfl) (Nat.le_of_ble_eq_true rfl) dX0_removeLight_76 rfl ⟨?_, ?_⟩
        · rfl
        · rfl
      · skip
        refine j_iload hC dX0_removeLight_27 rfl ?_
        refine j_bipush hC (10) dX0_removeLight_29 (by decide) ?_
        refine j_icmp_ge hC dX0_removeLight_31 (tgt := 59) (by decide) (fun c_31 => ?_) (fun c_31 => ?_)
        · skip
          have hik : j + t + 1 = k := by first | exact Nat.le_antisymm ht (jge hk1 h4 (by omega) (by omega) c_24) | exact absurd (jge (i := j + t + 1) (show (10 : Int32) = nI 10 from rfl) h4 (by omega) (by omega) c_31) (by have q2 := jlt hk1 h4 (by omega) (by omega) c_24; omega)
          refine j_aload_n hC dX0_removeLight_59 rfl rfl ?_
          refine j_get hC uX0 0 0 0 rfl rfl k94 rfl dX0_removeLight_60 ?_
          refine j_iload_n hC dX0_removeLight_63 rfl rfl ?_
          refine j_aload_n hC dX0_removeLight_64 rfl rfl ?_
          refine j_aast_0 (bi := 0) hC rfl (lts_at (bi := 1) rfl (jX_get (X := X) (j := j) (by omega))) (by rw [h3]; exact vp_in_nI (by omega) (by decide)) dX0_removeLight_65 ?_
          dsimp only [List.set]
          rw [h3, nI_cl (by omega), show t = k - 1 - j by omega, show j + (k - 1 - j) = k - 1 by omega, rotX_lrf hj hk2]
          refine j_perm (bl' := [bc g d I A (lrf (rotX X j k)), lts (rotX X j k)]) ?_ ?_
          · (simp only [List.flatten_cons, List.flatten_nil, List.append_nil]; exact ((rotX_perm hj hk2).map _).append_left _)
          refine j_aload_n hC dX0_removeLight_66 rfl rfl ?_
          refine j_dup hC dX0_removeLight_67 rfl ?_
          refine j_get hC uX0 0 0 1 rfl rfl k95 rfl dX0_removeLight_68 ?_
          refine j_iconst hC (1) dX0_removeLight_71 (by decide) ?_
          refine j_isub hC dX0_removeLight_72 ?_
          refine j_put_0_1 (bi := 0) hC rfl k95 dX0_removeLight_73 ?_
          dsimp only [List.set]
          refine j_vret hC hQ rfl (Nat.le_of_ble_eq_true rfl) (Nat.le_of_ble_eq_true rfl) dX0_removeLight_76 rfl ⟨?_, ?_⟩
          · rfl
          · rfl
        · skip
          have hik : j + t + 1 < k := jlt hk1 h4 (by omega) (by omega) c_24
          refine j_aload_n hC dX0_removeLight_34 rfl rfl ?_
          refine j_get hC uX0 0 0 0 rfl rfl k94 rfl dX0_removeLight_35 ?_
          refine j_iload hC dX0_removeLight_38 rfl ?_
          refine j_iconst hC (1) dX0_removeLight_40 (by decide) ?_
          refine j_isub hC dX0_removeLight_41 ?_
          refine j_aload_n hC dX0_removeLight_42 rfl rfl ?_
          refine j_get hC uX0 0 0 0 rfl rfl k94 rfl dX0_removeLight_43 ?_
          refine j_iload hC dX0_removeLight_46 rfl ?_
          refine j_aald hC 4 0 1 rfl rfl (by rw [h4]; exact vp_in_nI (by omega) (by decide)) dX0_removeLight_48 ?_
          have hr : rshift j t (lrf X) x4.toNatClampNeg = some (jAd X (j + t + 1)) := by rw [h4, nI_cl (by omega)]; unfold rshift; rw [if_neg (by omega)]; exact lrf_get (by omega)
          · skip
            rw [hr, show va_rf (some (jAd X (j + t + 1))) = .ref (jAd X (j + t + 1)) from rfl]
            refine j_aast_0 (bi := 0) hC rfl (lts_at (bi := 1) rfl (jX_get (X := X) (j := j + t + 1) (by omega))) (by rw [jpredI h4]; exact vp_in_nI (by omega) (by decide)) dX0_removeLight_49 ?_
            dsimp only [List.set]
            rw [jpredI h4, nI_cl (by omega), rshift_step (lrf_get (by omega))]
            refine j_iload hC dX0_removeLight_50 rfl ?_
            refine j_istore_n hC dX0_removeLight_52 rfl rfl rfl rfl (fun v_52 e_52 => ?_)
            refine j_iinc hC (1) dX0_removeLight_53 rfl rfl rfl rfl rfl (fun v_53 e_53 => ?_)
            refine j_goto hC dX0_removeLight_56 (tgt := 18) (by decide) ?_
            refine j_pick [0, 2, 3, 4] ?_
            exact ih_18 (t + 1) _ _ (by omega) (by omega) (e_52.trans h4) (by rw [e_53, h4]; exact nI_1 _)
  refine j_pick [0, 2, 3, 4] ?_
  rw [show lrf X = rshift j 0 (lrf X) from funext fun i => by unfold rshift; rw [if_neg (by omega)]]
  exact L_18 (k + 1) 0 _ _ (by omega) (by omega) (e_12.trans hx) (by rw [e_16, hx]; exact nI_1 j)
set_option maxHeartbeats 1000000 in
set_option maxRecDepth 100000 in
theorem c_X0_appendRoute (g : jG) (d : Nat → Nat) (I : jF) (A : Nat → jF) (r : Nat → Option Nat) (x y : Int32) (h1 : ¬ I 4 < 0) (h2 : ¬ 6 ≤ I 4) : Con g yX0_appendRoute cX0_appendRoute 3 none 0 0 0 0 [.ref (d 0), .int x, .int y] [bc g d I A r] (jR (none) [bc g d (upd I 4 (I 4 + 1)) (appA A (I 4).toNatClampNeg x y) r]) := by
  refine Con.of (own := RX0) (lv := [(0, .ref (d 0)), (1, .int x), (2, .int y)]) (by decide) rfl (Nat.le_of_ble_eq_true rfl) rfl ?_
  intro E hC hQ hN
  refine j_aload_n hC dX0_appendRoute_0 rfl rfl ?_
  refine j_get hC uX0 0 0 4 rfl rfl k104 rfl dX0_appendRoute_1 ?_
  refine j_if_lt hC dX0_appendRoute_4 (tgt := 46) (by decide) (fun c_4 => ?_) (fun c_4 => ?_)
  · exact absurd c_4 h1
  · skip
    refine j_aload_n hC dX0_appendRoute_7 rfl rfl ?_
    refine j_get hC uX0 0 0 4 rfl rfl k104 rfl dX0_appendRoute_8 ?_
    refine j_bipush hC (6) dX0_appendRoute_11 (by decide) ?_
    refine j_icmp_ge hC dX0_appendRoute_13 (tgt := 46) (by decide) (fun c_13 => ?_) (fun c_13 => ?_)
    · exact absurd c_13 h2
    · skip
      refine j_aload_n hC dX0_appendRoute_16 rfl rfl ?_
      refine j_get hC uX0 0 0 2 rfl rfl k100 rfl dX0_appendRoute_17 ?_
      refine j_aload_n hC dX0_appendRoute_20 rfl rfl ?_
      refine j_get hC uX0 0 0 4 rfl rfl k104 rfl dX0_appendRoute_21 ?_
      refine j_iload_n hC dX0_appendRoute_24 rfl rfl ?_
      refine j_ast_0_0 (bi := 0) hC rfl (jin h1 h2 (by decide)) dX0_appendRoute_25 ?_
      dsimp only [List.set]
      refine j_aload_n hC dX0_appendRoute_26 rfl rfl ?_
      refine j_get hC uX0 0 0 3 rfl rfl k101 rfl dX0_appendRoute_27 ?_
      refine j_aload_n hC dX0_appendRoute_30 rfl rfl ?_
      refine j_get hC uX0 0 0 4 rfl rfl k104 rfl dX0_appendRoute_31 ?_
      refine j_iload_n hC dX0_appendRoute_34 rfl rfl ?_
      refine j_ast_0_1 (bi := 0) hC rfl (jin h1 h2 (by decide)) dX0_appendRoute_35 ?_
      dsimp only [List.set]
      refine j_aload_n hC dX0_appendRoute_36 rfl rfl ?_
      refine j_dup hC dX0_appendRoute_37 rfl ?_
      refine j_get hC uX0 0 0 4 rfl rfl k104 rfl dX0_appendRoute_38 ?_
      refine j_iconst hC (1) dX0_appendRoute_41 (by decide) ?_
      refine j_iadd hC dX0_appendRoute_42 ?_
      refine j_put_0_4 (bi := 0) hC rfl k104 dX0_appendRoute_43 ?_
      dsimp only [List.set]
      refine j_vret hC hQ rfl (Nat.le_of_ble_eq_true rfl) (Nat.le_of_ble_eq_true rfl) dX0_appendRoute_46 rfl ⟨?_, ?_⟩
      · rfl
      · rfl
set_option maxHeartbeats 1000000 in
set_option maxRecDepth 100000 in
theorem c_X0_removeRoute (g : jG) (d : Nat → Nat) (I : jF) (A : Nat → jF) (r : Nat → Option Nat) (n j : Nat) (x : Int32) (hn : I 4 = nI n) (hn6 : n ≤ 6) (hj : j < n) (hx : x = nI j) : Con g yX0_removeRoute cX0_removeRoute 3 none 1 21 0 0 [.ref (d 0), .int x] [bc g d I A r] (jR (none) [bc g d (upd I 4 (I 4 - 1)) (jiter (fun t A => rmA (j + t) A) A (n - 1 - j)) r]) := by
  refine Con.of (own := RX0) (lv := [(0, .ref (d 0)), (1, .int x)]) (by decide) rfl (Nat.le_of_ble_eq_true rfl) rfl ?_
  intro E hC hQ hN
  have hh : hasR I x := by show ¬ x < 0 ∧ ¬ I 4 ≤ x ∧ ¬ 6 ≤ x; rw [hx, hn]; exact ⟨by rw [← nI_0, nI_ltI (by omega) (by omega)]; omega, by rw [nI_leI (by omega) (by omega)]; omega, by show ¬ nI 6 ≤ nI j; rw [nI_leI (by omega) (by omega)]; omega⟩
  refine j_aload_n hC dX0_removeRoute_0 rfl rfl ?_
  refine j_iload_n hC dX0_removeRoute_1 rfl rfl ?_
  refine j_callVR hC [0] (c_X0_hasRoute g _ _ _ _ _) mX0_hasRoute k366 rfl rfl rfl rfl rfl ⟨(Nat.le_of_ble_eq_true rfl), (Nat.le_of_ble_eq_true rfl)⟩ (Nat.le_of_ble_eq_true rfl) ⟨(Nat.le_of_ble_eq_true rfl), (Nat.le_of_ble_eq_true rfl)⟩ dX0_removeRoute_2 ?_
  dsimp only [jrepl, List.set, jstk]
  refine j_if_ne hC dX0_removeRoute_5 (tgt := 9) (by decide) (fun c_5 => ?_) (fun c_5 => ?_)
  · skip
    refine j_iload_n hC dX0_removeRoute_9 rfl rfl ?_
    refine j_iconst hC (1) dX0_removeRoute_10 (by decide) ?_
    refine j_iadd hC dX0_removeRoute_11 ?_
    refine j_istore_n hC dX0_removeRoute_12 rfl rfl rfl rfl (fun v_12 e_12 => ?_)
    have L_13 : ∀ (fu : Nat) (t : Nat) (x2 : Int32) (hfu : n + 1 ≤ j + t + 1 + fu) (ht : j + t + 1 ≤ n) (h2 : x2 = nI (j + t + 1)), J g (jRm 1 21 0 0) E 3 13 [(0, .ref (d 0)), (2, .int x2)] [] [bc g d I (jiter (fun t A => rmA (j + t) A) A t) r] (0) (0) := by
      intro fu
      induction fu with
      | zero => intro t x2 hfu ht h2; exact absurd hfu (by omega)
      | succ fu ih_13 =>
        intro t x2 hfu ht h2
        refine j_iload_n hC dX0_removeRoute_13 rfl rfl ?_
        refine j_aload_n hC dX0_removeRoute_14 rfl rfl ?_
        refine j_get hC uX0 0 0 4 rfl rfl k104 rfl dX0_removeRoute_15 ?_
        refine j_icmp_ge hC dX0_removeRoute_18 (tgt := 61) (by decide) (fun c_18 => ?_) (fun c_18 => ?_)
        · skip
          have hik : t = n - 1 - j := by first | (have := jge hn h2 (by omega) (by omega) c_18; omega) | exact absurd (jge (i := j + t + 1) (show (6 : Int32) = nI 6 from rfl) h2 (by omega) (by omega) c_24) (by have q2 := jlt hn h2 (by omega) (by omega) c_18; omega)
          refine j_aload_n hC dX0_removeRoute_61 rfl rfl ?_
          refine j_dup hC dX0_removeRoute_62 rfl ?_
          refine j_get hC uX0 0 0 4 rfl rfl k104 rfl dX0_removeRoute_63 ?_
          refine j_iconst hC (1) dX0_removeRoute_66 (by decide) ?_
          refine j_isub hC dX0_removeRoute_67 ?_
          refine j_put_0_4 (bi := 0) hC rfl k104 dX0_removeRoute_68 ?_
          dsimp only [List.set]
          refine j_vret hC hQ rfl (Nat.le_of_ble_eq_true rfl) (Nat.le_of_ble_eq_true rfl) dX0_removeRoute_71 rfl ⟨?_, ?_⟩
          · rfl
          · (subst hik; rfl)
        · skip
          have hik : j + t + 1 < n := jlt hn h2 (by omega) (by omega) c_18
          refine j_iload_n hC dX0_removeRoute_21 rfl rfl ?_
          refine j_bipush hC (6) dX0_removeRoute_22 (by decide) ?_
          refine j_icmp_ge hC dX0_removeRoute_24 (tgt := 61) (by decide) (fun c_24 => ?_) (fun c_24 => ?_)
          · skip
            have hik : t = n - 1 - j := by first | (have := jge hn h2 (by omega) (by omega) c_18; omega) | exact absurd (jge (i := j + t + 1) (show (6 : Int32) = nI 6 from rfl) h2 (by omega) (by omega) c_24) (by have q2 := jlt hn h2 (by omega) (by omega) c_18; omega)
            refine j_aload_n hC dX0_removeRoute_61 rfl rfl ?_
            refine j_dup hC dX0_removeRoute_62 rfl ?_
            refine j_get hC uX0 0 0 4 rfl rfl k104 rfl dX0_removeRoute_63 ?_
            refine j_iconst hC (1) dX0_removeRoute_66 (by decide) ?_
            refine j_isub hC dX0_removeRoute_67 ?_
            refine j_put_0_4 (bi := 0) hC rfl k104 dX0_removeRoute_68 ?_
            dsimp only [List.set]
            refine j_vret hC hQ rfl (Nat.le_of_ble_eq_true rfl) (Nat.le_of_ble_eq_true rfl) dX0_removeRoute_71 rfl ⟨?_, ?_⟩
            · rfl
            · (subst hik; rfl)
          · skip
            refine j_aload_n hC dX0_removeRoute_27 rfl rfl ?_
            refine j_get hC uX0 0 0 2 rfl rfl k100 rfl dX0_removeRoute_28 ?_
            refine j_iload_n hC dX0_removeRoute_31 rfl rfl ?_
            refine j_iconst hC (1) dX0_removeRoute_32 (by decide) ?_
            refine j_isub hC dX0_removeRoute_33 ?_
            refine j_aload_n hC dX0_removeRoute_34 rfl rfl ?_
            refine j_get hC uX0 0 0 2 rfl rfl k100 rfl dX0_removeRoute_35 ?_
            refine j_iload_n hC dX0_removeRoute_38 rfl rfl ?_
            refine j_iald hC 0 2 rfl (by first | (rw [h2]; exact vp_in_nI (by omega) (by decide)) | (rw [jpredI h2]; exact vp_in_nI (by omega) (by decide))) dX0_removeRoute_39 ?_
            refine j_ast_0_0 (bi := 0) hC rfl (by rw [jpredI h2]; exact vp_in_nI (by omega) (by decide)) dX0_removeRoute_40 ?_
            dsimp only [List.set]
            refine j_aload_n hC dX0_removeRoute_41 rfl rfl ?_
            refine j_get hC uX0 0 0 3 rfl rfl k101 rfl dX0_removeRoute_42 ?_
            refine j_iload_n hC dX0_removeRoute_45 rfl rfl ?_
            refine j_iconst hC (1) dX0_removeRoute_46 (by decide) ?_
            refine j_isub hC dX0_removeRoute_47 ?_
            refine j_aload_n hC dX0_removeRoute_48 rfl rfl ?_
            refine j_get hC uX0 0 0 3 rfl rfl k101 rfl dX0_removeRoute_49 ?_
            refine j_iload_n hC dX0_removeRoute_52 rfl rfl ?_
            refine j_iald hC 0 3 rfl (by first | (rw [h2]; exact vp_in_nI (by omega) (by decide)) | (rw [jpredI h2]; exact vp_in_nI (by omega) (by decide))) dX0_removeRoute_53 ?_
            refine j_ast_0_1 (bi := 0) hC rfl (by rw [jpredI h2]; exact vp_in_nI (by omega) (by decide)) dX0_removeRoute_54 ?_
            dsimp only [List.set]
            refine j_iinc hC (1) dX0_removeRoute_55 rfl rfl rfl rfl rfl (fun v_55 e_55 => ?_)
            refine j_goto hC dX0_removeRoute_58 (tgt := 13) (by decide) ?_
            refine j_pick [0, 2] ?_
            rw [jpredI h2, h2, nI_cl (j := j + t) (by omega), nI_cl (j := j + t + 1) (by omega)]
            exact ih_13 (t + 1) _ (by omega) (by omega) (by rw [e_55, h2]; exact nI_1 _)
    refine j_pick [0, 2] ?_
    exact L_13 (n + 1) 0 _ (by omega) (by omega) (by rw [e_12, hx]; exact nI_1 j)
  · exact absurd hh (jb0 c_5)
set_option maxHeartbeats 1000000 in
set_option maxRecDepth 100000 in
theorem c_X0_lampInPlaceOf (g : jG) (d : Nat → Nat) (I : jF) (A : Nat → jF) (r : Nat → Option Nat) (x : Int32) : Con g yX0_lampInPlaceOf cX0_lampInPlaceOf 3 (some .int) 2 41 0 0 [.ref (d 0), .int x] [bc g d I A r] (jR (some (.int (lipo A x))) [bc g d I A r]) := by
  refine Con.of (own := RX0) (lv := [(0, .ref (d 0)), (1, .int x)]) (by decide) rfl (Nat.le_of_ble_eq_true rfl) rfl ?_
  intro E hC hQ hN
  refine j_aload_n hC dX0_lampInPlaceOf_0 rfl rfl ?_
  refine j_iload_n hC dX0_lampInPlaceOf_1 rfl rfl ?_
  refine j_callVR hC [0] (c_X0_stockOf g _ _ _ _ _) mX0_stockOf k546 rfl rfl rfl rfl rfl ⟨(Nat.le_of_ble_eq_true rfl), (Nat.le_of_ble_eq_true rfl)⟩ (Nat.le_of_ble_eq_true rfl) ⟨(Nat.le_of_ble_eq_true rfl), (Nat.le_of_ble_eq_true rfl)⟩ dX0_lampInPlaceOf_2 ?_
  dsimp only [jrepl, List.set, jstk]
  refine j_if_le hC dX0_lampInPlaceOf_5 (tgt := 10) (by decide) (fun c_5 => ?_) (fun c_5 => ?_)
  · skip
    refine j_iconst hC (2) dX0_lampInPlaceOf_10 (by decide) ?_
    refine j_istore_n hC dX0_lampInPlaceOf_11 rfl rfl rfl rfl (fun v_11 e_11 => ?_)
    refine j_iload_n hC dX0_lampInPlaceOf_12 rfl rfl ?_
    refine j_if_lt hC dX0_lampInPlaceOf_13 (tgt := 48) (by decide) (fun c_13 => ?_) (fun c_13 => ?_)
    · exact absurd c_13 (by rw [e_11]; decide)
    · skip
      refine j_aload_n hC dX0_lampInPlaceOf_16 rfl rfl ?_
      refine j_iload_n hC dX0_lampInPlaceOf_17 rfl rfl ?_
      refine j_callVR hC [0] (c_X0_stockOf g _ _ _ _ _) mX0_stockOf k546 rfl rfl rfl rfl rfl ⟨(Nat.le_of_ble_eq_true rfl), (Nat.le_of_ble_eq_true rfl)⟩ (Nat.le_of_ble_eq_true rfl) ⟨(Nat.le_of_ble_eq_true rfl), (Nat.le_of_ble_eq_true rfl)⟩ dX0_lampInPlaceOf_18 ?_
      dsimp only [jrepl, List.set, jstk]
      refine j_if_le hC dX0_lampInPlaceOf_21 (tgt := 42) (by decide) (fun c_21 => ?_) (fun c_21 => ?_)
      · skip
        refine j_iinc hC (-1) dX0_lampInPlaceOf_42 rfl rfl rfl rfl rfl (fun v_42 e_42 => ?_)
        refine j_goto hC dX0_lampInPlaceOf_45 (tgt := 12) (by decide) ?_
        refine j_iload_n hC dX0_lampInPlaceOf_12 rfl rfl ?_
        refine j_if_lt hC dX0_lampInPlaceOf_13 (tgt := 48) (by decide) (fun c_13x2 => ?_) (fun c_13x2 => ?_)
        · exact absurd c_13x2 (by rw [e_42, e_11]; decide)
        · skip
          refine j_aload_n hC dX0_lampInPlaceOf_16 rfl rfl ?_
          refine j_iload_n hC dX0_lampInPlaceOf_17 rfl rfl ?_
          refine j_callVR hC [0] (c_X0_stockOf g _ _ _ _ _) mX0_stockOf k546 rfl rfl rfl rfl rfl ⟨(Nat.le_of_ble_eq_true rfl), (Nat.le_of_ble_eq_true rfl)⟩ (Nat.le_of_ble_eq_true rfl) ⟨(Nat.le_of_ble_eq_true rfl), (Nat.le_of_ble_eq_true rfl)⟩ dX0_lampInPlaceOf_18 ?_
          dsimp only [jrepl, List.set, jstk]
          refine j_if_le hC dX0_lampInPlaceOf_21 (tgt := 42) (by decide) (fun c_21x2 => ?_) (fun c_21x2 => ?_)
          · skip
            refine j_iinc hC (-1) dX0_lampInPlaceOf_42 rfl rfl rfl rfl rfl (fun v_42x2 e_42x2 => ?_)
            refine j_goto hC dX0_lampInPlaceOf_45 (tgt := 12) (by decide) ?_
            refine j_iload_n hC dX0_lampInPlaceOf_12 rfl rfl ?_
            refine j_if_lt hC dX0_lampInPlaceOf_13 (tgt := 48) (by decide) (fun c_13x3 => ?_) (fun c_13x3 => ?_)
            · exact absurd c_13x3 (by rw [e_42x2, e_42, e_11]; decide)
            · skip
              refine j_aload_n hC dX0_lampInPlaceOf_16 rfl rfl ?_
              refine j_iload_n hC dX0_lampInPlaceOf_17 rfl rfl ?_
              refine j_callVR hC [0] (c_X0_stockOf g _ _ _ _ _) mX0_stockOf k546 rfl rfl rfl rfl rfl ⟨(Nat.le_of_ble_eq_true rfl), (Nat.le_of_ble_eq_true rfl)⟩ (Nat.le_of_ble_eq_true rfl) ⟨(Nat.le_of_ble_eq_true rfl), (Nat.le_of_ble_eq_true rfl)⟩ dX0_lampInPlaceOf_18 ?_
              dsimp only [jrepl, List.set, jstk]
              refine j_if_le hC dX0_lampInPlaceOf_21 (tgt := 42) (by decide) (fun c_21x3 => ?_) (fun c_21x3 => ?_)
              · skip
                refine j_iinc hC (-1) dX0_lampInPlaceOf_42 rfl rfl rfl rfl rfl (fun v_42x3 e_42x3 => ?_)
                refine j_goto hC dX0_lampInPlaceOf_45 (tgt := 12) (by decide) ?_
                refine j_iload_n hC dX0_lampInPlaceOf_12 rfl rfl ?_
                refine j_if_lt hC dX0_lampInPlaceOf_13 (tgt := 48) (by decide) (fun c_13x4 => ?_) (fun c_13x4 => ?_)
                · skip
                  refine j_bipush hC (-9) dX0_lampInPlaceOf_48 (by decide) ?_
                  refine j_iret hC hQ rfl rfl (Nat.le_of_ble_eq_true rfl) (Nat.le_of_ble_eq_true rfl) dX0_lampInPlaceOf_50 rfl ⟨?_, ?_⟩
                  · (subst_vars; first | (simp [lipo, *]; done) | (simp only [show (2 + -1 : Int32) = 1 by decide, show (1 + -1 : Int32) = 0 by decide] at *; simp [lipo, *]))
                  · rfl
                · exact absurd c_13x4 (by rw [e_42x3, e_42x2, e_42, e_11]; decide)
              · skip
                refine j_iload_n hC dX0_lampInPlaceOf_24 rfl rfl ?_
                refine j_callSR hC [] (c_X2_widthOf g _) mX2_widthOf k547 rfl rfl rfl ⟨(Nat.le_of_ble_eq_true rfl), (Nat.le_of_ble_eq_true rfl)⟩ (Nat.le_of_ble_eq_true rfl) ⟨(Nat.le_of_ble_eq_true rfl), (Nat.le_of_ble_eq_true rfl)⟩ dX0_lampInPlaceOf_25 ?_
                dsimp only [jrepl, List.set, jstk]
                refine j_iload_n hC dX0_lampInPlaceOf_28 rfl rfl ?_
                refine j_callSR hC [] (c_X2_widthOf g _) mX2_widthOf k547 rfl rfl rfl ⟨(Nat.le_of_ble_eq_true rfl), (Nat.le_of_ble_eq_true rfl)⟩ (Nat.le_of_ble_eq_true rfl) ⟨(Nat.le_of_ble_eq_true rfl), (Nat.le_of_ble_eq_true rfl)⟩ dX0_lampInPlaceOf_29 ?_
                dsimp only [jrepl, List.set, jstk]
                refine j_icmp_lt hC dX0_lampInPlaceOf_32 (tgt := 39) (by decide) (fun c_32 => ?_) (fun c_32 => ?_)
                · skip
                  refine j_bipush hC (-9) dX0_lampInPlaceOf_39 (by decide) ?_
                  refine j_iret hC hQ rfl rfl (Nat.le_of_ble_eq_true rfl) (Nat.le_of_ble_eq_true rfl) dX0_lampInPlaceOf_41 rfl ⟨?_, ?_⟩
                  · (subst_vars; first | (simp [lipo, *]; done) | (simp only [show (2 + -1 : Int32) = 1 by decide, show (1 + -1 : Int32) = 0 by decide] at *; simp [lipo, *]))
                  · rfl
                · skip
                  refine j_iload_n hC dX0_lampInPlaceOf_35 rfl rfl ?_
                  refine j_goto hC dX0_lampInPlaceOf_36 (tgt := 41) (by decide) ?_
                  refine j_iret hC hQ rfl rfl (Nat.le_of_ble_eq_true rfl) (Nat.le_of_ble_eq_true rfl) dX0_lampInPlaceOf_41 rfl ⟨?_, ?_⟩
                  · (subst_vars; first | (simp [lipo, *]; done) | (simp only [show (2 + -1 : Int32) = 1 by decide, show (1 + -1 : Int32) = 0 by decide] at *; simp [lipo, *]))
                  · rfl
          · skip
            refine j_iload_n hC dX0_lampInPlaceOf_24 rfl rfl ?_
            refine j_callSR hC [] (c_X2_widthOf g _) mX2_widthOf k547 rfl rfl rfl ⟨(Nat.le_of_ble_eq_true rfl), (Nat.le_of_ble_eq_true rfl)⟩ (Nat.le_of_ble_eq_true rfl) ⟨(Nat.le_of_ble_eq_true rfl), (Nat.le_of_ble_eq_true rfl)⟩ dX0_lampInPlaceOf_25 ?_
            dsimp only [jrepl, List.set, jstk]
            refine j_iload_n hC dX0_lampInPlaceOf_28 rfl rfl ?_
            refine j_callSR hC [] (c_X2_widthOf g _) mX2_widthOf k547 rfl rfl rfl ⟨(Nat.le_of_ble_eq_true rfl), (Nat.le_of_ble_eq_true rfl)⟩ (Nat.le_of_ble_eq_true rfl) ⟨(Nat.le_of_ble_eq_true rfl), (Nat.le_of_ble_eq_true rfl)⟩ dX0_lampInPlaceOf_29 ?_
            dsimp only [jrepl, List.set, jstk]
            refine j_icmp_lt hC dX0_lampInPlaceOf_32 (tgt := 39) (by decide) (fun c_32 => ?_) (fun c_32 => ?_)
            · skip
              refine j_bipush hC (-9) dX0_lampInPlaceOf_39 (by decide) ?_
              refine j_iret hC hQ rfl rfl (Nat.le_of_ble_eq_true rfl) (Nat.le_of_ble_eq_true rfl) dX0_lampInPlaceOf_41 rfl ⟨?_, ?_⟩
              · (subst_vars; first | (simp [lipo, *]; done) | (simp only [show (2 + -1 : Int32) = 1 by decide, show (1 + -1 : Int32) = 0 by decide] at *; simp [lipo, *]))
              · rfl
            · skip
              refine j_iload_n hC dX0_lampInPlaceOf_35 rfl rfl ?_
              refine j_goto hC dX0_lampInPlaceOf_36 (tgt := 41) (by decide) ?_
              refine j_iret hC hQ rfl rfl (Nat.le_of_ble_eq_true rfl) (Nat.le_of_ble_eq_true rfl) dX0_lampInPlaceOf_41 rfl ⟨?_, ?_⟩
              · (subst_vars; first | (simp [lipo, *]; done) | (simp only [show (2 + -1 : Int32) = 1 by decide, show (1 + -1 : Int32) = 0 by decide] at *; simp [lipo, *]))
              · rfl
      · skip
        refine j_iload_n hC dX0_lampInPlaceOf_24 rfl rfl ?_
        refine j_callSR hC [] (c_X2_widthOf g _) mX2_widthOf k547 rfl rfl rfl ⟨(Nat.le_of_ble_eq_true rfl), (Nat.le_of_ble_eq_true rfl)⟩ (Nat.le_of_ble_eq_true rfl) ⟨(Nat.le_of_ble_eq_true rfl), (Nat.le_of_ble_eq_true rfl)⟩ dX0_lampInPlaceOf_25 ?_
        dsimp only [jrepl, List.set, jstk]
        refine j_iload_n hC dX0_lampInPlaceOf_28 rfl rfl ?_
        refine j_callSR hC [] (c_X2_widthOf g _) mX2_widthOf k547 rfl rfl rfl ⟨(Nat.le_of_ble_eq_true rfl), (Nat.le_of_ble_eq_true rfl)⟩ (Nat.le_of_ble_eq_true rfl) ⟨(Nat.le_of_ble_eq_true rfl), (Nat.le_of_ble_eq_true rfl)⟩ dX0_lampInPlaceOf_29 ?_
        dsimp only [jrepl, List.set, jstk]
        refine j_icmp_lt hC dX0_lampInPlaceOf_32 (tgt := 39) (by decide) (fun c_32 => ?_) (fun c_32 => ?_)
        · skip
          refine j_bipush hC (-9) dX0_lampInPlaceOf_39 (by decide) ?_
          refine j_iret hC hQ rfl rfl (Nat.le_of_ble_eq_true rfl) (Nat.le_of_ble_eq_true rfl) dX0_lampInPlaceOf_41 rfl ⟨?_, ?_⟩
          · (subst_vars; first | (simp [lipo, *]; done) | (simp only [show (2 + -1 : Int32) = 1 by decide, show (1 + -1 : Int32) = 0 by decide] at *; simp [lipo, *]))
          · rfl
        · skip
          refine j_iload_n hC dX0_lampInPlaceOf_35 rfl rfl ?_
          refine j_goto hC dX0_lampInPlaceOf_36 (tgt := 41) (by decide) ?_
          refine j_iret hC hQ rfl rfl (Nat.le_of_ble_eq_true rfl) (Nat.le_of_ble_eq_true rfl) dX0_lampInPlaceOf_41 rfl ⟨?_, ?_⟩
          · (subst_vars; first | (simp [lipo, *]; done) | (simp only [show (2 + -1 : Int32) = 1 by decide, show (1 + -1 : Int32) = 0 by decide] at *; simp [lipo, *]))
          · rfl
  · skip
    refine j_iload_n hC dX0_lampInPlaceOf_8 rfl rfl ?_
    refine j_iret hC hQ rfl rfl (Nat.le_of_ble_eq_true rfl) (Nat.le_of_ble_eq_true rfl) dX0_lampInPlaceOf_9 rfl ⟨?_, ?_⟩
    · (subst_vars; first | (simp [lipo, *]; done) | (simp only [show (2 + -1 : Int32) = 1 by decide, show (1 + -1 : Int32) = 0 by decide] at *; simp [lipo, *]))
    · rfl
set_option maxHeartbeats 1000000 in
set_option maxRecDepth 100000 in
theorem c_X0_putLamps (g : jG) (d : Nat → Nat) (I : jF) (A : Nat → jF) (X : List (Nat × jF)) (k : Nat) (x : Int32) (h : bok I X k) : Con g yX0_putLamps cX0_putLamps 6 (some .int) 3 63 0 0 [.ref (d 0), .int x] [bc g d I A (lrf X), lts X] (jR (some (.int (jiter (plStep x X) (A, 0) k).2)) [bc g d I (jiter (plStep x X) (A, 0) k).1 (lrf (lmap (lpre k (fun j => plL x (jiter (plStep x X) (A, 0) j).1)) X)), lts (lmap (lpre k (fun j => plL x (jiter (plStep x X) (A, 0) j).1)) X)]) := by
  refine Con.of (own := RX0) (lv := [(0, .ref (d 0)), (1, .int x)]) (by decide) rfl (Nat.le_of_ble_eq_true rfl) rfl ?_
  intro E hC hQ hN
  obtain ⟨hk1, hk2, hk3⟩ := id h
  refine j_iconst hC (0) dX0_putLamps_0 (by decide) ?_
  refine j_istore_n hC dX0_putLamps_1 rfl rfl rfl rfl (fun v_1 e_1 => ?_)
  refine j_iconst hC (0) dX0_putLamps_2 (by decide) ?_
  refine j_istore_n hC dX0_putLamps_3 rfl rfl rfl rfl (fun v_3 e_3 => ?_)
  have L_4 : ∀ (fu : Nat) (i : Nat) (x2 x3 : Int32) (hfu : k + 1 ≤ i + fu) (hi : i ≤ k) (h2 : x2 = (jiter (plStep x X) (A, 0) i).2) (h3 : x3 = nI i), J g (jRm 3 63 0 0) E 6 4 [(0, .ref (d 0)), (1, .int x), (2, .int x2), (3, .int x3)] [] [bc g d I (jiter (plStep x X) (A, 0) i).1 (lrf X), lts (lmap (lpre i (fun j => plL x (jiter (plStep x X) (A, 0) j).1)) X)] (0) (0) := by
    intro fu
    induction fu with
    | zero => intro i x2 x3 hfu hi h2 h3; exact absurd hfu (by omega)
    | succ fu ih_4 =>
      intro i x2 x3 hfu hi h2 h3
      refine j_iload_n hC dX0_putLamps_4 rfl rfl ?_
      refine j_aload_n hC dX0_putLamps_5 rfl rfl ?_
      refine j_get hC uX0 0 0 1 rfl rfl k95 rfl dX0_putLamps_6 ?_
      refine j_icmp_ge hC dX0_putLamps_9 (tgt := 74) (by decide) (fun c_9 => ?_) (fun c_9 => ?_)
      · skip
        have hik : i = k := Nat.le_antisymm hi (jge hk1 h3 (by omega) (by omega) c_9)
        subst hik
        refine j_iload_n hC dX0_putLamps_74 rfl rfl ?_
        refine j_iret hC hQ rfl rfl (Nat.le_of_ble_eq_true rfl) (Nat.le_of_ble_eq_true rfl) dX0_putLamps_75 rfl ⟨?_, ?_⟩
        · exact congrArg (fun z => some (Value.int z)) h2
        · rw [lrf_lmap]
      · skip
        have hik : i < k := jlt hk1 h3 (by omega) (by omega) c_9
        refine j_aload_n hC dX0_putLamps_12 rfl rfl ?_
        refine j_iload_n hC dX0_putLamps_13 rfl rfl ?_
        refine j_callVR hC [0] (c_X0_find_in g _ _ _ _ _ _ _ h hik h3) mX0_find k353 rfl rfl rfl rfl rfl ⟨(Nat.le_of_ble_eq_true rfl), (Nat.le_of_ble_eq_true rfl)⟩ (Nat.le_of_ble_eq_true rfl) ⟨(Nat.le_of_ble_eq_true rfl), (Nat.le_of_ble_eq_true rfl)⟩ dX0_putLamps_14 ?_
        dsimp only [jrepl, List.set, jstk]
        refine j_focus i 1 (lmap_cur (f := (fun j => plL x (jiter (plStep x X) (A, 0) j).1)) (X := X) (i := i) (by omega)) rfl ?_
        dsimp only [List.set, List.cons_append, List.nil_append]
        refine j_astore hC dX0_putLamps_17 rfl rfl rfl ?_
        refine j_aload hC dX0_putLamps_19 rfl ?_
        refine j_ifnull hC dX0_putLamps_21 ?_
        refine j_aload hC dX0_putLamps_24 rfl ?_
        refine j_get hC uX2 2 0 7 rfl rfl k276 rfl dX0_putLamps_26 ?_
        refine j_iload_n hC dX0_putLamps_29 rfl rfl ?_
        refine j_icmp_ge hC dX0_putLamps_30 (tgt := 68) (by decide) (fun c_30 => ?_) (fun c_30 => ?_)
        · skip
          refine j_iinc hC (1) dX0_putLamps_68 rfl rfl rfl rfl rfl (fun v_68 e_68 => ?_)
          refine j_goto hC dX0_putLamps_71 (tgt := 4) (by decide) ?_
          refine j_pick [0, 1, 2, 3] ?_
          refine j_unfocus i 1 (lmap_cur (f := (fun j => plL x (jiter (plStep x X) (A, 0) j).1)) (X := X) (i := i) (by omega)) rfl rfl rfl ?_
          dsimp only [List.set, List.dropLast]
          have hs := show jiter (plStep x X) (A, 0) (i + 1) = plStep x X i (jiter (plStep x X) (A, 0) i) from rfl
          first | rw [plStep_a c_30] at hs | rw [plStep_b c_30 (e_42.symm.trans c_48)] at hs | rw [plStep_c c_30 (fun q => c_48 (e_42.trans q))] at hs
          first | rw [lmap_next (by omega) (plL_a c_30).symm] | rw [lmap_next (by omega) (plL_b c_30 (e_42.symm.trans c_48)).symm] | rw [e_42, lmap_next (by omega) (plL_c c_30 (fun q => c_48 (e_42.trans q))).symm]
          have hs1 := congrArg Prod.fst hs
          try dsimp only at hs1
          rw [← hs1]
          exact ih_4 (i + 1) _ _ (by omega) (by omega) (by first | (rw [hs]; exact h2) | (rw [hs, e_65, h2])) (jsucc e_68 h3)
        · skip
          refine j_aload_n hC dX0_putLamps_33 rfl rfl ?_
          refine j_aload hC dX0_putLamps_34 rfl ?_
          refine j_get hC uX2 2 0 3 rfl rfl k268 rfl dX0_putLamps_36 ?_
          refine j_callVR hC [0] (c_X0_lampInPlaceOf g _ _ _ _ _) mX0_lampInPlaceOf k542 rfl rfl rfl rfl rfl ⟨(Nat.le_of_ble_eq_true rfl), (Nat.le_of_ble_eq_true rfl)⟩ (Nat.le_of_ble_eq_true rfl) ⟨(Nat.le_of_ble_eq_true rfl), (Nat.le_of_ble_eq_true rfl)⟩ dX0_putLamps_39 ?_
          dsimp only [jrepl, List.set, jstk]
          refine j_istore hC dX0_putLamps_42 rfl rfl rfl (fun v_42 e_42 => ?_)
          refine j_iload hC dX0_putLamps_44 rfl ?_
          refine j_bipush hC (-9) dX0_putLamps_46 (by decide) ?_
          refine j_icmp_eq hC dX0_putLamps_48 (tgt := 68) (by decide) (fun c_48 => ?_) (fun c_48 => ?_)
          · skip
            refine j_iinc hC (1) dX0_putLamps_68 rfl rfl rfl rfl rfl (fun v_68 e_68 => ?_)
            refine j_goto hC dX0_putLamps_71 (tgt := 4) (by decide) ?_
            refine j_pick [0, 1, 2, 3] ?_
            refine j_unfocus i 1 (lmap_cur (f := (fun j => plL x (jiter (plStep x X) (A, 0) j).1)) (X := X) (i := i) (by omega)) rfl rfl rfl ?_
            dsimp only [List.set, List.dropLast]
            have hs := show jiter (plStep x X) (A, 0) (i + 1) = plStep x X i (jiter (plStep x X) (A, 0) i) from rfl
            first | rw [plStep_a c_30] at hs | rw [plStep_b c_30 (e_42.symm.trans c_48)] at hs | rw [plStep_c c_30 (fun q => c_48 (e_42.trans q))] at hs
            first | rw [lmap_next (by omega) (plL_a c_30).symm] | rw [lmap_next (by omega) (plL_b c_30 (e_42.symm.trans c_48)).symm] | rw [e_42, lmap_next (by omega) (plL_c c_30 (fun q => c_48 (e_42.trans q))).symm]
            have hs1 := congrArg Prod.fst hs
            try dsimp only at hs1
            rw [← hs1]
            exact ih_4 (i + 1) _ _ (by omega) (by omega) (by first | (rw [hs]; exact h2) | (rw [hs, e_65, h2])) (jsucc e_68 h3)
          · skip
            refine j_aload hC dX0_putLamps_51 rfl ?_
            refine j_iload hC dX0_putLamps_53 rfl ?_
            refine j_callVR hC [2] (c_X2_putLamp g _ _ _) mX2_putLamp k548 rfl rfl rfl rfl rfl ⟨(Nat.le_of_ble_eq_true rfl), (Nat.le_of_ble_eq_true rfl)⟩ (Nat.le_of_ble_eq_true rfl) ⟨(Nat.le_of_ble_eq_true rfl), (Nat.le_of_ble_eq_true rfl)⟩ dX0_putLamps_55 ?_
            dsimp only [jrepl, List.set, jstk]
            refine j_aload_n hC dX0_putLamps_58 rfl rfl ?_
            refine j_iload hC dX0_putLamps_59 rfl ?_
            refine j_iconst hC (-1) dX0_putLamps_61 (by decide) ?_
            refine j_callVR hC [0] (c_X0_changeStock g _ _ _ _ _ _) mX0_changeStock k549 rfl rfl rfl rfl rfl ⟨(Nat.le_of_ble_eq_true rfl), (Nat.le_of_ble_eq_true rfl)⟩ (Nat.le_of_ble_eq_true rfl) ⟨(Nat.le_of_ble_eq_true rfl), (Nat.le_of_ble_eq_true rfl)⟩ dX0_putLamps_62 ?_
            dsimp only [jrepl, List.set, jstk]
            refine j_iinc hC (1) dX0_putLamps_65 rfl rfl rfl rfl rfl (fun v_65 e_65 => ?_)
            refine j_iinc hC (1) dX0_putLamps_68 rfl rfl rfl rfl rfl (fun v_68 e_68 => ?_)
            refine j_goto hC dX0_putLamps_71 (tgt := 4) (by decide) ?_
            refine j_pick [0, 1, 2, 3] ?_
            refine j_unfocus i 1 (lmap_cur (f := (fun j => plL x (jiter (plStep x X) (A, 0) j).1)) (X := X) (i := i) (by omega)) rfl rfl rfl ?_
            dsimp only [List.set, List.dropLast]
            have hs := show jiter (plStep x X) (A, 0) (i + 1) = plStep x X i (jiter (plStep x X) (A, 0) i) from rfl
            first | rw [plStep_a c_30] at hs | rw [plStep_b c_30 (e_42.symm.trans c_48)] at hs | rw [plStep_c c_30 (fun q => c_48 (e_42.trans q))] at hs
            first | rw [lmap_next (by omega) (plL_a c_30).symm] | rw [lmap_next (by omega) (plL_b c_30 (e_42.symm.trans c_48)).symm] | rw [e_42, lmap_next (by omega) (plL_c c_30 (fun q => c_48 (e_42.trans q))).symm]
            have hs1 := congrArg Prod.fst hs
            try dsimp only at hs1
            rw [← hs1]
            exact ih_4 (i + 1) _ _ (by omega) (by omega) (by first | (rw [hs]; exact h2) | (rw [hs, e_65, h2])) (jsucc e_68 h3)
  refine j_pick [0, 1, 2, 3] ?_
  rw [show lts X = lts (lmap (lpre 0 (fun j => plL x (jiter (plStep x X) (A, 0) j).1)) X) by rw [lmap_0]]
  exact L_4 (k + 1) 0 _ _ (by omega) (by omega) e_1 (e_3.trans nI_0.symm)
set_option maxHeartbeats 1000000 in
set_option maxRecDepth 100000 in
theorem c_X0_burn (g : jG) (d : Nat → Nat) (I : jF) (A : Nat → jF) (X : List (Nat × jF)) (k : Nat) (x : Int32) (h : bok I X k) : Con g yX0_burn cX0_burn 4 none 5 102 0 0 [.ref (d 0), .int x] [bc g d I A (lrf X), lts X] (fun r b => r = none ∧ ∃ I1 : jF, b = [bc g d I1 A (lrf (lmap (lpre k (bF x)) X)), lts (lmap (lpre k (bF x)) X)] ∧ (I1 8, I1 9) = jiter (bStep x X) (I 8, I 9) k ∧ ∀ f, f ≠ 8 → f ≠ 9 → I1 f = I f) := by
  refine Con.of (own := RX0) (lv := [(0, .ref (d 0)), (1, .int x)]) (by decide) rfl (Nat.le_of_ble_eq_true rfl) rfl ?_
  intro E hC hQ hN
  obtain ⟨hk1, hk2, hk3⟩ := id h
  refine j_iconst hC (0) dX0_burn_0 (by decide) ?_
  refine j_istore_n hC dX0_burn_1 rfl rfl rfl rfl (fun v_1 e_1 => ?_)
  have L_2 : ∀ (fu : Nat) (i : Nat) (x2 : Int32) (I1 : jF) (hfu : k + 1 ≤ i + fu) (hi : i ≤ k) (h2 : x2 = nI i) (h1 : (I1 8, I1 9) = jiter (bStep x X) (I 8, I 9) i) (hI : ∀ f, f ≠ 8 → f ≠ 9 → I1 f = I f), J g (jRm 5 102 0 0) E 4 2 [(0, .ref (d 0)), (1, .int x), (2, .int x2)] [] [bc g d I1 A (lrf X), lts (lmap (lpre i (bF x)) X)] (0) (0) := by
    intro fu
    induction fu with
    | zero => intro i x2 I1 hfu hi h2 h1 hI; exact absurd hfu (by omega)
    | succ fu ih_2 =>
      intro i x2 I1 hfu hi h2 h1 hI
      have hb1 : bok I1 X k := ⟨(hI 1 (by decide) (by decide)).trans hk1, hk2, hk3⟩
      have hk4 := hb1.1
      refine j_iload_n hC dX0_burn_2 rfl rfl ?_
      refine j_aload_n hC dX0_burn_3 rfl rfl ?_
      refine j_get hC uX0 0 0 1 rfl rfl k95 rfl dX0_burn_4 ?_
      refine j_icmp_ge hC dX0_burn_7 (tgt := 65) (by decide) (fun c_7 => ?_) (fun c_7 => ?_)
      · skip
        have hik : i = k := Nat.le_antisymm hi (jge hk4 h2 (by omega) (by omega) c_7)
        subst hik
        refine j_vret hC hQ rfl (Nat.le_of_ble_eq_true rfl) (Nat.le_of_ble_eq_true rfl) dX0_burn_65 rfl ?_
        exact ⟨rfl, I1, by rw [lrf_lmap], h1, hI⟩
      · skip
        have hik : i < k := jlt hk4 h2 (by omega) (by omega) c_7
        refine j_aload_n hC dX0_burn_10 rfl rfl ?_
        refine j_iload_n hC dX0_burn_11 rfl rfl ?_
        refine j_callVR hC [0] (c_X0_find_in g _ _ _ _ _ _ _ hb1 hik h2) mX0_find k353 rfl rfl rfl rfl rfl ⟨(Nat.le_of_ble_eq_true rfl), (Nat.le_of_ble_eq_true rfl)⟩ (Nat.le_of_ble_eq_true rfl) ⟨(Nat.le_of_ble_eq_true rfl), (Nat.le_of_ble_eq_true rfl)⟩ dX0_burn_12 ?_
        dsimp only [jrepl, List.set, jstk]
        refine j_focus i 1 (lmap_cur (f := (bF x)) (X := X) (i := i) (by omega)) rfl ?_
        dsimp only [List.set, List.cons_append, List.nil_append]
        refine j_astore_n hC dX0_burn_15 rfl rfl rfl rfl ?_
        refine j_aload_n hC dX0_burn_16 rfl rfl ?_
        refine j_ifnull hC dX0_burn_17 ?_
        refine j_iload_n hC dX0_burn_20 rfl rfl ?_
        refine j_iload_n hC dX0_burn_21 rfl rfl ?_
        refine j_ishr hC dX0_burn_22 ?_
        refine j_iconst hC (1) dX0_burn_23 (by decide) ?_
        refine j_iand hC dX0_burn_24 ?_
        refine j_iconst hC (1) dX0_burn_25 (by decide) ?_
        refine j_icmp_ne hC dX0_burn_26 (tgt := 59) (by decide) (fun c_26 => ?_) (fun c_26 => ?_)
        · skip
          refine j_iinc hC (1) dX0_burn_59 rfl rfl rfl rfl rfl (fun v_59 e_59 => ?_)
          refine j_goto hC dX0_burn_62 (tgt := 2) (by decide) ?_
          refine j_pick [0, 1, 2] ?_
          refine j_unfocus i 1 (lmap_cur (f := (bF x)) (X := X) (i := i) (by omega)) rfl rfl rfl ?_
          dsimp only [List.set, List.dropLast]
          have hs := show jiter (bStep x X) (I 8, I 9) (i + 1) = bStep x X i (jiter (bStep x X) (I 8, I 9) i) from rfl
          rw [← h1] at hs
          have hcc := c_26
          rw [h2] at hcc
          first | rw [bStep_a hcc] at hs | rw [bStep_b hcc (jb1 c_33)] at hs | rw [bStep_c hcc (jb0 c_33)] at hs
          first | rw [lmap_next (by omega) (bF_a hcc).symm] | rw [lmap_next (by omega) (bF_b hcc).symm]
          exact ih_2 (i + 1) _ _ (by omega) (by omega) (jsucc e_59 h2) hs.symm (by first | exact hI | (intro f q1 q2; show (if f = 8 then _ else I1 f) = I f; rw [if_neg q1]; exact hI f q1 q2) | (intro f q1 q2; show (if f = 9 then _ else I1 f) = I f; rw [if_neg q2]; exact hI f q1 q2))
        · skip
          refine j_aload_n hC dX0_burn_29 rfl rfl ?_
          refine j_callVR hC [2] (c_X2_burn g _ _) mX2_burn k602 rfl rfl rfl rfl rfl ⟨(Nat.le_of_ble_eq_true rfl), (Nat.le_of_ble_eq_true rfl)⟩ (Nat.le_of_ble_eq_true rfl) ⟨(Nat.le_of_ble_eq_true rfl), (Nat.le_of_ble_eq_true rfl)⟩ dX0_burn_30 ?_
          dsimp only [jrepl, List.set, jstk]
          refine j_if_eq hC dX0_burn_33 (tgt := 49) (by decide) (fun c_33 => ?_) (fun c_33 => ?_)
          · skip
            refine j_aload_n hC dX0_burn_49 rfl rfl ?_
            refine j_dup hC dX0_burn_50 rfl ?_
            refine j_get hC uX0 0 0 9 rfl rfl k114 rfl dX0_burn_51 ?_
            refine j_iconst hC (1) dX0_burn_54 (by decide) ?_
            refine j_iadd hC dX0_burn_55 ?_
            refine j_put_0_9 (bi := 0) hC rfl k114 dX0_burn_56 ?_
            dsimp only [List.set]
            refine j_iinc hC (1) dX0_burn_59 rfl rfl rfl rfl rfl (fun v_59 e_59 => ?_)
            refine j_goto hC dX0_burn_62 (tgt := 2) (by decide) ?_
            refine j_pick [0, 1, 2] ?_
            refine j_unfocus i 1 (lmap_cur (f := (bF x)) (X := X) (i := i) (by omega)) rfl rfl rfl ?_
            dsimp only [List.set, List.dropLast]
            have hs := show jiter (bStep x X) (I 8, I 9) (i + 1) = bStep x X i (jiter (bStep x X) (I 8, I 9) i) from rfl
            rw [← h1] at hs
            have hcc := c_26
            rw [h2] at hcc
            first | rw [bStep_a hcc] at hs | rw [bStep_b hcc (jb1 c_33)] at hs | rw [bStep_c hcc (jb0 c_33)] at hs
            first | rw [lmap_next (by omega) (bF_a hcc).symm] | rw [lmap_next (by omega) (bF_b hcc).symm]
            exact ih_2 (i + 1) _ _ (by omega) (by omega) (jsucc e_59 h2) hs.symm (by first | exact hI | (intro f q1 q2; show (if f = 8 then _ else I1 f) = I f; rw [if_neg q1]; exact hI f q1 q2) | (intro f q1 q2; show (if f = 9 then _ else I1 f) = I f; rw [if_neg q2]; exact hI f q1 q2))
          · skip
            refine j_aload_n hC dX0_burn_36 rfl rfl ?_
            refine j_dup hC dX0_burn_37 rfl ?_
            refine j_get hC uX0 0 0 8 rfl rfl k112 rfl dX0_burn_38 ?_
            refine j_iconst hC (1) dX0_burn_41 (by decide) ?_
            refine j_iadd hC dX0_burn_42 ?_
            refine j_put_0_8 (bi := 0) hC rfl k112 dX0_burn_43 ?_
            dsimp only [List.set]
            refine j_goto hC dX0_burn_46 (tgt := 59) (by decide) ?_
            refine j_iinc hC (1) dX0_burn_59 rfl rfl rfl rfl rfl (fun v_59 e_59 => ?_)
            refine j_goto hC dX0_burn_62 (tgt := 2) (by decide) ?_
            refine j_pick [0, 1, 2] ?_
            refine j_unfocus i 1 (lmap_cur (f := (bF x)) (X := X) (i := i) (by omega)) rfl rfl rfl ?_
            dsimp only [List.set, List.dropLast]
            have hs := show jiter (bStep x X) (I 8, I 9) (i + 1) = bStep x X i (jiter (bStep x X) (I 8, I 9) i) from rfl
            rw [← h1] at hs
            have hcc := c_26
            rw [h2] at hcc
            first | rw [bStep_a hcc] at hs | rw [bStep_b hcc (jb1 c_33)] at hs | rw [bStep_c hcc (jb0 c_33)] at hs
            first | rw [lmap_next (by omega) (bF_a hcc).symm] | rw [lmap_next (by omega) (bF_b hcc).symm]
            exact ih_2 (i + 1) _ _ (by omega) (by omega) (jsucc e_59 h2) hs.symm (by first | exact hI | (intro f q1 q2; show (if f = 8 then _ else I1 f) = I f; rw [if_neg q1]; exact hI f q1 q2) | (intro f q1 q2; show (if f = 9 then _ else I1 f) = I f; rw [if_neg q2]; exact hI f q1 q2))
  refine j_pick [0, 1, 2] ?_
  rw [show lts X = lts (lmap (lpre 0 (bF x)) X) by rw [lmap_0]]
  exact L_2 (k + 1) 0 _ I (by omega) (by omega) (e_1.trans nI_0.symm) rfl (fun _ _ _ => rfl)
end
