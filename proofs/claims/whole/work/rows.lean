section
-- ===== PART A: goes FIRST, ahead of the names: the tables' words, and 'selects' of the private methods out of them =====
/-- a private method of a class that the tables say can be made, by its rows of tables_1 -/
def lw_okq (q : MethodName × Nat) : Prop := (q.1.cls ≠ "java/lang/invoke/MethodHandle" ∧ q.1.cls ≠ "java/lang/invoke/VarHandle") ∧ Cond.instantiable q.1.cls q.2 ∈ tables_1 ∧ Cond.privateMethod q.1 ∈ tables_1 ∧ Cond.instanceMethod q.1 ∈ tables_1
theorem lw_p0 : lw_okq (⟨"EscapeLights", "remember", "()V"⟩, 6) := ⟨⟨by decide +kernel, by decide +kernel⟩, List.mem_of_getElem? (i := 11) (by decide +kernel), List.mem_of_getElem? (i := 283) (by decide +kernel), List.mem_of_getElem? (i := 284) (by decide +kernel)⟩
theorem lw_p1 : lw_okq (⟨"EscapeLights", "darkPlaces", "(I)I"⟩, 6) := ⟨⟨by decide +kernel, by decide +kernel⟩, List.mem_of_getElem? (i := 11) (by decide +kernel), List.mem_of_getElem? (i := 574) (by decide +kernel), List.mem_of_getElem? (i := 575) (by decide +kernel)⟩
theorem lw_p2 : lw_okq (⟨"EscapeLights", "worstCircuit", "(I)I"⟩, 6) := ⟨⟨by decide +kernel, by decide +kernel⟩, List.mem_of_getElem? (i := 11) (by decide +kernel), List.mem_of_getElem? (i := 589) (by decide +kernel), List.mem_of_getElem? (i := 590) (by decide +kernel)⟩
theorem lw_p3 : lw_okq (⟨"EscapeLights", "daysWithLamp", "(II)I"⟩, 6) := ⟨⟨by decide +kernel, by decide +kernel⟩, List.mem_of_getElem? (i := 11) (by decide +kernel), List.mem_of_getElem? (i := 630) (by decide +kernel), List.mem_of_getElem? (i := 631) (by decide +kernel)⟩
theorem lw_p4 : lw_okq (⟨"EscapeLights", "countSafe", "()I"⟩, 6) := ⟨⟨by decide +kernel, by decide +kernel⟩, List.mem_of_getElem? (i := 11) (by decide +kernel), List.mem_of_getElem? (i := 644) (by decide +kernel), List.mem_of_getElem? (i := 645) (by decide +kernel)⟩
theorem lw_p5 : lw_okq (⟨"EscapeLightsModel", "lights", "()I"⟩, 16) := ⟨⟨by decide +kernel, by decide +kernel⟩, List.mem_of_getElem? (i := 672) (by decide +kernel), List.mem_of_getElem? (i := 741) (by decide +kernel), List.mem_of_getElem? (i := 742) (by decide +kernel)⟩
theorem lw_p6 : lw_okq (⟨"EscapeLightsModel", "records", "()V"⟩, 16) := ⟨⟨by decide +kernel, by decide +kernel⟩, List.mem_of_getElem? (i := 672) (by decide +kernel), List.mem_of_getElem? (i := 745) (by decide +kernel), List.mem_of_getElem? (i := 746) (by decide +kernel)⟩
theorem lw_p7 : lw_okq (⟨"EscapeLightsModel", "lays", "(IIIIIZ)V"⟩, 16) := ⟨⟨by decide +kernel, by decide +kernel⟩, List.mem_of_getElem? (i := 672) (by decide +kernel), List.mem_of_getElem? (i := 749) (by decide +kernel), List.mem_of_getElem? (i := 750) (by decide +kernel)⟩
theorem lw_p8 : lw_okq (⟨"EscapeLightsModel", "at", "(II)I"⟩, 16) := ⟨⟨by decide +kernel, by decide +kernel⟩, List.mem_of_getElem? (i := 672) (by decide +kernel), List.mem_of_getElem? (i := 753) (by decide +kernel), List.mem_of_getElem? (i := 754) (by decide +kernel)⟩
theorem lw_p9 : lw_okq (⟨"EscapeLightsModel", "capacityOf", "(I)I"⟩, 16) := ⟨⟨by decide +kernel, by decide +kernel⟩, List.mem_of_getElem? (i := 672) (by decide +kernel), List.mem_of_getElem? (i := 757) (by decide +kernel), List.mem_of_getElem? (i := 758) (by decide +kernel)⟩
theorem lw_p10 : lw_okq (⟨"EscapeLightsModel", "ratedOf", "(I)I"⟩, 16) := ⟨⟨by decide +kernel, by decide +kernel⟩, List.mem_of_getElem? (i := 672) (by decide +kernel), List.mem_of_getElem? (i := 761) (by decide +kernel), List.mem_of_getElem? (i := 762) (by decide +kernel)⟩
theorem lw_p11 : lw_okq (⟨"EscapeLightsModel", "of", "(II)I"⟩, 16) := ⟨⟨by decide +kernel, by decide +kernel⟩, List.mem_of_getElem? (i := 672) (by decide +kernel), List.mem_of_getElem? (i := 765) (by decide +kernel), List.mem_of_getElem? (i := 766) (by decide +kernel)⟩
theorem lw_p12 : lw_okq (⟨"EscapeLightsModel", "isLight", "(I)Z"⟩, 16) := ⟨⟨by decide +kernel, by decide +kernel⟩, List.mem_of_getElem? (i := 672) (by decide +kernel), List.mem_of_getElem? (i := 773) (by decide +kernel), List.mem_of_getElem? (i := 774) (by decide +kernel)⟩
theorem lw_p13 : lw_okq (⟨"EscapeLightsModel", "isRoute", "(I)Z"⟩, 16) := ⟨⟨by decide +kernel, by decide +kernel⟩, List.mem_of_getElem? (i := 672) (by decide +kernel), List.mem_of_getElem? (i := 789) (by decide +kernel), List.mem_of_getElem? (i := 790) (by decide +kernel)⟩
theorem lw_p14 : lw_okq (⟨"EscapeLightsModel", "here", "()I"⟩, 16) := ⟨⟨by decide +kernel, by decide +kernel⟩, List.mem_of_getElem? (i := 672) (by decide +kernel), List.mem_of_getElem? (i := 813) (by decide +kernel), List.mem_of_getElem? (i := 814) (by decide +kernel)⟩
theorem lw_p15 : lw_okq (⟨"EscapeLightsModel", "readsLight", "()Z"⟩, 16) := ⟨⟨by decide +kernel, by decide +kernel⟩, List.mem_of_getElem? (i := 672) (by decide +kernel), List.mem_of_getElem? (i := 817) (by decide +kernel), List.mem_of_getElem? (i := 818) (by decide +kernel)⟩
def lw_privs_1 : List (MethodName × Nat) := [(⟨"EscapeLights", "remember", "()V"⟩, 6), (⟨"EscapeLights", "darkPlaces", "(I)I"⟩, 6), (⟨"EscapeLights", "worstCircuit", "(I)I"⟩, 6), (⟨"EscapeLights", "daysWithLamp", "(II)I"⟩, 6), (⟨"EscapeLights", "countSafe", "()I"⟩, 6), (⟨"EscapeLightsModel", "lights", "()I"⟩, 16), (⟨"EscapeLightsModel", "records", "()V"⟩, 16), (⟨"EscapeLightsModel", "lays", "(IIIIIZ)V"⟩, 16), (⟨"EscapeLightsModel", "at", "(II)I"⟩, 16), (⟨"EscapeLightsModel", "capacityOf", "(I)I"⟩, 16), (⟨"EscapeLightsModel", "ratedOf", "(I)I"⟩, 16), (⟨"EscapeLightsModel", "of", "(II)I"⟩, 16), (⟨"EscapeLightsModel", "isLight", "(I)Z"⟩, 16), (⟨"EscapeLightsModel", "isRoute", "(I)Z"⟩, 16), (⟨"EscapeLightsModel", "here", "()I"⟩, 16), (⟨"EscapeLightsModel", "readsLight", "()Z"⟩, 16)]
theorem lw_r1 : ∀ q ∈ lw_privs_1, lw_okq q := List.forall_mem_cons.mpr ⟨lw_p0, List.forall_mem_cons.mpr ⟨lw_p1, List.forall_mem_cons.mpr ⟨lw_p2, List.forall_mem_cons.mpr ⟨lw_p3, List.forall_mem_cons.mpr ⟨lw_p4, List.forall_mem_cons.mpr ⟨lw_p5, List.forall_mem_cons.mpr ⟨lw_p6, List.forall_mem_cons.mpr ⟨lw_p7, List.forall_mem_cons.mpr ⟨lw_p8, List.forall_mem_cons.mpr ⟨lw_p9, List.forall_mem_cons.mpr ⟨lw_p10, List.forall_mem_cons.mpr ⟨lw_p11, List.forall_mem_cons.mpr ⟨lw_p12, List.forall_mem_cons.mpr ⟨lw_p13, List.forall_mem_cons.mpr ⟨lw_p14, List.forall_mem_cons.mpr ⟨lw_p15, fun _ h => absurd h List.not_mem_nil⟩⟩⟩⟩⟩⟩⟩⟩⟩⟩⟩⟩⟩⟩⟩⟩
theorem lw_p16 : lw_okq (⟨"EscapeLightsModel", "readsNumber", "(III)Z"⟩, 16) := ⟨⟨by decide +kernel, by decide +kernel⟩, List.mem_of_getElem? (i := 672) (by decide +kernel), List.mem_of_getElem? (i := 821) (by decide +kernel), List.mem_of_getElem? (i := 822) (by decide +kernel)⟩
theorem lw_p17 : lw_okq (⟨"EscapeLightsModel", "isFigure", "()Z"⟩, 16) := ⟨⟨by decide +kernel, by decide +kernel⟩, List.mem_of_getElem? (i := 672) (by decide +kernel), List.mem_of_getElem? (i := 825) (by decide +kernel), List.mem_of_getElem? (i := 826) (by decide +kernel)⟩
theorem lw_p18 : lw_okq (⟨"EscapeLightsModel", "takes", "(I)Z"⟩, 16) := ⟨⟨by decide +kernel, by decide +kernel⟩, List.mem_of_getElem? (i := 672) (by decide +kernel), List.mem_of_getElem? (i := 829) (by decide +kernel), List.mem_of_getElem? (i := 830) (by decide +kernel)⟩
theorem lw_p19 : lw_okq (⟨"EscapeLightsModel", "readsRoute", "()Z"⟩, 16) := ⟨⟨by decide +kernel, by decide +kernel⟩, List.mem_of_getElem? (i := 672) (by decide +kernel), List.mem_of_getElem? (i := 833) (by decide +kernel), List.mem_of_getElem? (i := 834) (by decide +kernel)⟩
theorem lw_p20 : lw_okq (⟨"EscapeLightsModel", "puts", "(II)V"⟩, 16) := ⟨⟨by decide +kernel, by decide +kernel⟩, List.mem_of_getElem? (i := 672) (by decide +kernel), List.mem_of_getElem? (i := 841) (by decide +kernel), List.mem_of_getElem? (i := 842) (by decide +kernel)⟩
theorem lw_p21 : lw_okq (⟨"EscapeLightsModel", "restOf", "(I)I"⟩, 16) := ⟨⟨by decide +kernel, by decide +kernel⟩, List.mem_of_getElem? (i := 672) (by decide +kernel), List.mem_of_getElem? (i := 849) (by decide +kernel), List.mem_of_getElem? (i := 850) (by decide +kernel)⟩
theorem lw_p22 : lw_okq (⟨"EscapeLightsModel", "instead", "(I)I"⟩, 16) := ⟨⟨by decide +kernel, by decide +kernel⟩, List.mem_of_getElem? (i := 672) (by decide +kernel), List.mem_of_getElem? (i := 853) (by decide +kernel), List.mem_of_getElem? (i := 854) (by decide +kernel)⟩
theorem lw_p23 : lw_okq (⟨"EscapeLightsModel", "hour", "()V"⟩, 16) := ⟨⟨by decide +kernel, by decide +kernel⟩, List.mem_of_getElem? (i := 672) (by decide +kernel), List.mem_of_getElem? (i := 869) (by decide +kernel), List.mem_of_getElem? (i := 870) (by decide +kernel)⟩
theorem lw_p24 : lw_okq (⟨"EscapeLightsModel", "clips", "(I)V"⟩, 16) := ⟨⟨by decide +kernel, by decide +kernel⟩, List.mem_of_getElem? (i := 672) (by decide +kernel), List.mem_of_getElem? (i := 873) (by decide +kernel), List.mem_of_getElem? (i := 874) (by decide +kernel)⟩
theorem lw_p25 : lw_okq (⟨"EscapeLightsModel", "wears", "(II)V"⟩, 16) := ⟨⟨by decide +kernel, by decide +kernel⟩, List.mem_of_getElem? (i := 672) (by decide +kernel), List.mem_of_getElem? (i := 877) (by decide +kernel), List.mem_of_getElem? (i := 878) (by decide +kernel)⟩
theorem lw_p26 : lw_okq (⟨"EscapeLightsModel", "ready", "()I"⟩, 16) := ⟨⟨by decide +kernel, by decide +kernel⟩, List.mem_of_getElem? (i := 672) (by decide +kernel), List.mem_of_getElem? (i := 881) (by decide +kernel), List.mem_of_getElem? (i := 882) (by decide +kernel)⟩
theorem lw_p27 : lw_okq (⟨"EscapeLightsModel", "isReady", "(I)Z"⟩, 16) := ⟨⟨by decide +kernel, by decide +kernel⟩, List.mem_of_getElem? (i := 672) (by decide +kernel), List.mem_of_getElem? (i := 885) (by decide +kernel), List.mem_of_getElem? (i := 886) (by decide +kernel)⟩
theorem lw_p28 : lw_okq (⟨"EscapeLightsModel", "enduranceOf", "(I)I"⟩, 16) := ⟨⟨by decide +kernel, by decide +kernel⟩, List.mem_of_getElem? (i := 672) (by decide +kernel), List.mem_of_getElem? (i := 889) (by decide +kernel), List.mem_of_getElem? (i := 890) (by decide +kernel)⟩
theorem lw_p29 : lw_okq (⟨"EscapeLightsModel", "isSet", "(I)Z"⟩, 16) := ⟨⟨by decide +kernel, by decide +kernel⟩, List.mem_of_getElem? (i := 672) (by decide +kernel), List.mem_of_getElem? (i := 897) (by decide +kernel), List.mem_of_getElem? (i := 898) (by decide +kernel)⟩
theorem lw_p30 : lw_okq (⟨"EscapeLightsModel", "laysPlaces", "()V"⟩, 16) := ⟨⟨by decide +kernel, by decide +kernel⟩, List.mem_of_getElem? (i := 672) (by decide +kernel), List.mem_of_getElem? (i := 901) (by decide +kernel), List.mem_of_getElem? (i := 902) (by decide +kernel)⟩
theorem lw_p31 : lw_okq (⟨"EscapeLightsModel", "reaches", "(II)Z"⟩, 16) := ⟨⟨by decide +kernel, by decide +kernel⟩, List.mem_of_getElem? (i := 672) (by decide +kernel), List.mem_of_getElem? (i := 905) (by decide +kernel), List.mem_of_getElem? (i := 906) (by decide +kernel)⟩
def lw_privs_2 : List (MethodName × Nat) := [(⟨"EscapeLightsModel", "readsNumber", "(III)Z"⟩, 16), (⟨"EscapeLightsModel", "isFigure", "()Z"⟩, 16), (⟨"EscapeLightsModel", "takes", "(I)Z"⟩, 16), (⟨"EscapeLightsModel", "readsRoute", "()Z"⟩, 16), (⟨"EscapeLightsModel", "puts", "(II)V"⟩, 16), (⟨"EscapeLightsModel", "restOf", "(I)I"⟩, 16), (⟨"EscapeLightsModel", "instead", "(I)I"⟩, 16), (⟨"EscapeLightsModel", "hour", "()V"⟩, 16), (⟨"EscapeLightsModel", "clips", "(I)V"⟩, 16), (⟨"EscapeLightsModel", "wears", "(II)V"⟩, 16), (⟨"EscapeLightsModel", "ready", "()I"⟩, 16), (⟨"EscapeLightsModel", "isReady", "(I)Z"⟩, 16), (⟨"EscapeLightsModel", "enduranceOf", "(I)I"⟩, 16), (⟨"EscapeLightsModel", "isSet", "(I)Z"⟩, 16), (⟨"EscapeLightsModel", "laysPlaces", "()V"⟩, 16), (⟨"EscapeLightsModel", "reaches", "(II)Z"⟩, 16)]
theorem lw_r2 : ∀ q ∈ lw_privs_2, lw_okq q := List.forall_mem_cons.mpr ⟨lw_p16, List.forall_mem_cons.mpr ⟨lw_p17, List.forall_mem_cons.mpr ⟨lw_p18, List.forall_mem_cons.mpr ⟨lw_p19, List.forall_mem_cons.mpr ⟨lw_p20, List.forall_mem_cons.mpr ⟨lw_p21, List.forall_mem_cons.mpr ⟨lw_p22, List.forall_mem_cons.mpr ⟨lw_p23, List.forall_mem_cons.mpr ⟨lw_p24, List.forall_mem_cons.mpr ⟨lw_p25, List.forall_mem_cons.mpr ⟨lw_p26, List.forall_mem_cons.mpr ⟨lw_p27, List.forall_mem_cons.mpr ⟨lw_p28, List.forall_mem_cons.mpr ⟨lw_p29, List.forall_mem_cons.mpr ⟨lw_p30, List.forall_mem_cons.mpr ⟨lw_p31, fun _ h => absurd h List.not_mem_nil⟩⟩⟩⟩⟩⟩⟩⟩⟩⟩⟩⟩⟩⟩⟩⟩
theorem lw_p32 : lw_okq (⟨"EscapeLightsModel", "unlit", "(I)I"⟩, 16) := ⟨⟨by decide +kernel, by decide +kernel⟩, List.mem_of_getElem? (i := 672) (by decide +kernel), List.mem_of_getElem? (i := 909) (by decide +kernel), List.mem_of_getElem? (i := 910) (by decide +kernel)⟩
theorem lw_p33 : lw_okq (⟨"EscapeLightsModel", "isAllowed", "(I)Z"⟩, 16) := ⟨⟨by decide +kernel, by decide +kernel⟩, List.mem_of_getElem? (i := 672) (by decide +kernel), List.mem_of_getElem? (i := 913) (by decide +kernel), List.mem_of_getElem? (i := 914) (by decide +kernel)⟩
theorem lw_p34 : lw_okq (⟨"EscapeLightsModel", "tests", "(I)I"⟩, 16) := ⟨⟨by decide +kernel, by decide +kernel⟩, List.mem_of_getElem? (i := 672) (by decide +kernel), List.mem_of_getElem? (i := 921) (by decide +kernel), List.mem_of_getElem? (i := 922) (by decide +kernel)⟩
theorem lw_p35 : lw_okq (⟨"EscapeLightsModel", "laysPlan", "()V"⟩, 16) := ⟨⟨by decide +kernel, by decide +kernel⟩, List.mem_of_getElem? (i := 672) (by decide +kernel), List.mem_of_getElem? (i := 929) (by decide +kernel), List.mem_of_getElem? (i := 930) (by decide +kernel)⟩
theorem lw_p36 : lw_okq (⟨"EscapeLightsModel", "daysNow", "()I"⟩, 16) := ⟨⟨by decide +kernel, by decide +kernel⟩, List.mem_of_getElem? (i := 672) (by decide +kernel), List.mem_of_getElem? (i := 933) (by decide +kernel), List.mem_of_getElem? (i := 934) (by decide +kernel)⟩
theorem lw_p37 : lw_okq (⟨"EscapeLightsModel", "hasPlan", "()Z"⟩, 16) := ⟨⟨by decide +kernel, by decide +kernel⟩, List.mem_of_getElem? (i := 672) (by decide +kernel), List.mem_of_getElem? (i := 937) (by decide +kernel), List.mem_of_getElem? (i := 938) (by decide +kernel)⟩
theorem lw_p38 : lw_okq (⟨"EscapeLightsModel", "setOf", "(I)I"⟩, 16) := ⟨⟨by decide +kernel, by decide +kernel⟩, List.mem_of_getElem? (i := 672) (by decide +kernel), List.mem_of_getElem? (i := 945) (by decide +kernel), List.mem_of_getElem? (i := 946) (by decide +kernel)⟩
theorem lw_p39 : lw_okq (⟨"EscapeLightsModel", "daysWith", "(II)I"⟩, 16) := ⟨⟨by decide +kernel, by decide +kernel⟩, List.mem_of_getElem? (i := 672) (by decide +kernel), List.mem_of_getElem? (i := 957) (by decide +kernel), List.mem_of_getElem? (i := 958) (by decide +kernel)⟩
theorem lw_p40 : lw_okq (⟨"EscapeLightsModel", "lastsNow", "(II)I"⟩, 16) := ⟨⟨by decide +kernel, by decide +kernel⟩, List.mem_of_getElem? (i := 672) (by decide +kernel), List.mem_of_getElem? (i := 969) (by decide +kernel), List.mem_of_getElem? (i := 970) (by decide +kernel)⟩
theorem lw_p41 : lw_okq (⟨"EscapeLightsModel", "weakest", "(IZ)I"⟩, 16) := ⟨⟨by decide +kernel, by decide +kernel⟩, List.mem_of_getElem? (i := 672) (by decide +kernel), List.mem_of_getElem? (i := 977) (by decide +kernel), List.mem_of_getElem? (i := 978) (by decide +kernel)⟩
theorem lw_p42 : lw_okq (⟨"EscapeLightsModel", "without", "(I)I"⟩, 16) := ⟨⟨by decide +kernel, by decide +kernel⟩, List.mem_of_getElem? (i := 672) (by decide +kernel), List.mem_of_getElem? (i := 981) (by decide +kernel), List.mem_of_getElem? (i := 982) (by decide +kernel)⟩
theorem lw_p43 : lw_okq (⟨"EscapeLightsModel", "dayOf", "(I)I"⟩, 16) := ⟨⟨by decide +kernel, by decide +kernel⟩, List.mem_of_getElem? (i := 672) (by decide +kernel), List.mem_of_getElem? (i := 993) (by decide +kernel), List.mem_of_getElem? (i := 994) (by decide +kernel)⟩
theorem lw_p44 : lw_okq (⟨"EscapeLightsModel", "safe", "()I"⟩, 16) := ⟨⟨by decide +kernel, by decide +kernel⟩, List.mem_of_getElem? (i := 672) (by decide +kernel), List.mem_of_getElem? (i := 1001) (by decide +kernel), List.mem_of_getElem? (i := 1002) (by decide +kernel)⟩
theorem lw_p45 : lw_okq (⟨"EscapeLightsModel", "burntOut", "()I"⟩, 16) := ⟨⟨by decide +kernel, by decide +kernel⟩, List.mem_of_getElem? (i := 672) (by decide +kernel), List.mem_of_getElem? (i := 1005) (by decide +kernel), List.mem_of_getElem? (i := 1006) (by decide +kernel)⟩
theorem lw_p46 : lw_okq (⟨"EscapeLightsModel", "mixedPlan", "(J)J"⟩, 16) := ⟨⟨by decide +kernel, by decide +kernel⟩, List.mem_of_getElem? (i := 672) (by decide +kernel), List.mem_of_getElem? (i := 1022) (by decide +kernel), List.mem_of_getElem? (i := 1023) (by decide +kernel)⟩
def lw_privs_3 : List (MethodName × Nat) := [(⟨"EscapeLightsModel", "unlit", "(I)I"⟩, 16), (⟨"EscapeLightsModel", "isAllowed", "(I)Z"⟩, 16), (⟨"EscapeLightsModel", "tests", "(I)I"⟩, 16), (⟨"EscapeLightsModel", "laysPlan", "()V"⟩, 16), (⟨"EscapeLightsModel", "daysNow", "()I"⟩, 16), (⟨"EscapeLightsModel", "hasPlan", "()Z"⟩, 16), (⟨"EscapeLightsModel", "setOf", "(I)I"⟩, 16), (⟨"EscapeLightsModel", "daysWith", "(II)I"⟩, 16), (⟨"EscapeLightsModel", "lastsNow", "(II)I"⟩, 16), (⟨"EscapeLightsModel", "weakest", "(IZ)I"⟩, 16), (⟨"EscapeLightsModel", "without", "(I)I"⟩, 16), (⟨"EscapeLightsModel", "dayOf", "(I)I"⟩, 16), (⟨"EscapeLightsModel", "safe", "()I"⟩, 16), (⟨"EscapeLightsModel", "burntOut", "()I"⟩, 16), (⟨"EscapeLightsModel", "mixedPlan", "(J)J"⟩, 16)]
theorem lw_r3 : ∀ q ∈ lw_privs_3, lw_okq q := List.forall_mem_cons.mpr ⟨lw_p32, List.forall_mem_cons.mpr ⟨lw_p33, List.forall_mem_cons.mpr ⟨lw_p34, List.forall_mem_cons.mpr ⟨lw_p35, List.forall_mem_cons.mpr ⟨lw_p36, List.forall_mem_cons.mpr ⟨lw_p37, List.forall_mem_cons.mpr ⟨lw_p38, List.forall_mem_cons.mpr ⟨lw_p39, List.forall_mem_cons.mpr ⟨lw_p40, List.forall_mem_cons.mpr ⟨lw_p41, List.forall_mem_cons.mpr ⟨lw_p42, List.forall_mem_cons.mpr ⟨lw_p43, List.forall_mem_cons.mpr ⟨lw_p44, List.forall_mem_cons.mpr ⟨lw_p45, List.forall_mem_cons.mpr ⟨lw_p46, fun _ h => absurd h List.not_mem_nil⟩⟩⟩⟩⟩⟩⟩⟩⟩⟩⟩⟩⟩⟩⟩
def lw_privs : List (MethodName × Nat) := lw_privs_1 ++ (lw_privs_2 ++ (lw_privs_3))
def lw_tbl : List Cond := k2_sels lw_privs ++ tables_1
theorem lw_privs_ok : ∀ q ∈ lw_privs, lw_okq q := by
  show ∀ q ∈ lw_privs_1 ++ (lw_privs_2 ++ (lw_privs_3)), lw_okq q
  exact List.forall_mem_append.mpr ⟨lw_r1, List.forall_mem_append.mpr ⟨lw_r2, lw_r3⟩⟩
-- ===== end of PART A; then your names; then what follows =====
end
section
def RX0 : String := "EscapeLights$Building"
def TX0 : u_T := fun k => match k with
  | 0 => ("EscapeLights$Building", "lights", "[LEscapeLights$Light;", true)
  | 1 => ("EscapeLights$Building", "lightCount", "I", false)
  | 2 => ("EscapeLights$Building", "from", "[I", true)
  | 3 => ("EscapeLights$Building", "to", "[I", true)
  | 4 => ("EscapeLights$Building", "routeCount", "I", false)
  | 5 => ("EscapeLights$Building", "need", "I", false)
  | 6 => ("EscapeLights$Building", "hours", "I", false)
  | 7 => ("EscapeLights$Building", "stock", "[I", true)
  | 8 => ("EscapeLights$Building", "passed", "I", false)
  | _ => ("EscapeLights$Building", "failed", "I", false)
def tyX0 : Nat → FieldType := fun k => match k with
  | 0 => .array (.object "EscapeLights$Light")
  | 1 => .int
  | 2 => .array .int
  | 3 => .array .int
  | 4 => .int
  | 5 => .int
  | 6 => .int
  | 7 => .array .int
  | 8 => .int
  | _ => .int
theorem nmX0 : ∀ a, a < 10 → ∀ b, b < 10 → a ≠ b → (TX0 a).2.1 ≠ (TX0 b).2.1 := by decide +kernel
theorem tyX0_ok : ∀ k, k < 10 → parseFieldDescriptor (TX0 k).2.2.1 = some (tyX0 k) := by decide +kernel
def RX1 : String := "EscapeLights$History"
def TX1 : u_T := fun k => match k with
  | 0 => ("EscapeLights$History", "kept", "[LEscapeLights$Building;", true)
  | 1 => ("EscapeLights$History", "next", "I", false)
  | _ => ("EscapeLights$History", "many", "I", false)
def tyX1 : Nat → FieldType := fun k => match k with
  | 0 => .array (.object "EscapeLights$Building")
  | 1 => .int
  | _ => .int
theorem nmX1 : ∀ a, a < 3 → ∀ b, b < 3 → a ≠ b → (TX1 a).2.1 ≠ (TX1 b).2.1 := by decide +kernel
theorem tyX1_ok : ∀ k, k < 3 → parseFieldDescriptor (TX1 k).2.2.1 = some (tyX1 k) := by decide +kernel
def RX2 : String := "EscapeLights$Light"
def TX2 : u_T := fun k => match k with
  | 0 => ("EscapeLights$Light", "place", "I", false)
  | 1 => ("EscapeLights$Light", "circuit", "I", false)
  | 2 => ("EscapeLights$Light", "battery", "I", false)
  | 3 => ("EscapeLights$Light", "lamp", "I", false)
  | 4 => ("EscapeLights$Light", "maintained", "Z", false)
  | 5 => ("EscapeLights$Light", "health", "I", false)
  | 6 => ("EscapeLights$Light", "charge", "I", false)
  | 7 => ("EscapeLights$Light", "rest", "I", false)
  | _ => ("EscapeLights$Light", "result", "I", false)
def tyX2 : Nat → FieldType := fun k => match k with
  | 0 => .int
  | 1 => .int
  | 2 => .int
  | 3 => .int
  | 4 => .boolean
  | 5 => .int
  | 6 => .int
  | 7 => .int
  | _ => .int
theorem nmX2 : ∀ a, a < 9 → ∀ b, b < 9 → a ≠ b → (TX2 a).2.1 ≠ (TX2 b).2.1 := by decide +kernel
theorem tyX2_ok : ∀ k, k < 9 → parseFieldDescriptor (TX2 k).2.2.1 = some (tyX2 k) := by decide +kernel
def RX3 : String := "EscapeLights$Planner"
def TX3 : u_T := fun k => match k with
  | 0 => ("EscapeLights$Planner", "fewest", "[B", true)
  | 1 => ("EscapeLights$Planner", "sets", "[I", true)
  | 2 => ("EscapeLights$Planner", "dayCount", "I", false)
  | _ => ("EscapeLights$Planner", "fresh", "Z", false)
def tyX3 : Nat → FieldType := fun k => match k with
  | 0 => .array .byte
  | 1 => .array .int
  | 2 => .int
  | _ => .boolean
theorem nmX3 : ∀ a, a < 4 → ∀ b, b < 4 → a ≠ b → (TX3 a).2.1 ≠ (TX3 b).2.1 := by decide +kernel
theorem tyX3_ok : ∀ k, k < 4 → parseFieldDescriptor (TX3 k).2.2.1 = some (tyX3 k) := by decide +kernel
def RX4 : String := "EscapeLights$Reach"
def TX4 : u_T := fun k => match k with
  | 0 => ("EscapeLights$Reach", "near", "[I", true)
  | _ => ("EscapeLights$Reach", "longest", "[I", true)
def tyX4 : Nat → FieldType := fun k => match k with
  | 0 => .array .int
  | _ => .array .int
theorem nmX4 : ∀ a, a < 2 → ∀ b, b < 2 → a ≠ b → (TX4 a).2.1 ≠ (TX4 b).2.1 := by decide +kernel
theorem tyX4_ok : ∀ k, k < 2 → parseFieldDescriptor (TX4 k).2.2.1 = some (tyX4 k) := by decide +kernel
def RX5 : String := "EscapeLights$Text"
def TX5 : u_T := fun k => match k with
  | 0 => ("EscapeLights$Text", "bytes", "[B", true)
  | 1 => ("EscapeLights$Text", "length", "I", false)
  | 2 => ("EscapeLights$Text", "at", "I", false)
  | _ => ("EscapeLights$Text", "fault", "I", false)
def tyX5 : Nat → FieldType := fun k => match k with
  | 0 => .array .byte
  | 1 => .int
  | 2 => .int
  | _ => .int
theorem nmX5 : ∀ a, a < 4 → ∀ b, b < 4 → a ≠ b → (TX5 a).2.1 ≠ (TX5 b).2.1 := by decide +kernel
theorem tyX5_ok : ∀ k, k < 4 → parseFieldDescriptor (TX5 k).2.2.1 = some (tyX5 k) := by decide +kernel
def RX6 : String := "EscapeLights"
def TX6 : u_T := fun k => match k with
  | 0 => ("EscapeLights", "text", "LEscapeLights$Text;", true)
  | 1 => ("EscapeLights", "now", "LEscapeLights$Building;", true)
  | 2 => ("EscapeLights", "trial", "LEscapeLights$Building;", true)
  | 3 => ("EscapeLights", "history", "LEscapeLights$History;", true)
  | 4 => ("EscapeLights", "reach", "LEscapeLights$Reach;", true)
  | _ => ("EscapeLights", "planner", "LEscapeLights$Planner;", true)
def tyX6 : Nat → FieldType := fun k => match k with
  | 0 => .object "EscapeLights$Text"
  | 1 => .object "EscapeLights$Building"
  | 2 => .object "EscapeLights$Building"
  | 3 => .object "EscapeLights$History"
  | 4 => .object "EscapeLights$Reach"
  | _ => .object "EscapeLights$Planner"
theorem nmX6 : ∀ a, a < 6 → ∀ b, b < 6 → a ≠ b → (TX6 a).2.1 ≠ (TX6 b).2.1 := by decide +kernel
theorem tyX6_ok : ∀ k, k < 6 → parseFieldDescriptor (TX6 k).2.2.1 = some (tyX6 k) := by decide +kernel
def RX7 : String := "EscapeLightsModel"
def TX7 : u_T := fun k => match k with
  | 0 => ("EscapeLightsModel", "page", "[I", true)
  | 1 => ("EscapeLightsModel", "remembered", "I", false)
  | 2 => ("EscapeLightsModel", "text", "[I", true)
  | 3 => ("EscapeLightsModel", "typed", "I", false)
  | 4 => ("EscapeLightsModel", "spot", "I", false)
  | 5 => ("EscapeLightsModel", "number", "I", false)
  | 6 => ("EscapeLightsModel", "madeLights", "[I", true)
  | 7 => ("EscapeLightsModel", "madeRoutes", "[I", true)
  | 8 => ("EscapeLightsModel", "lightsMade", "I", false)
  | 9 => ("EscapeLightsModel", "routesMade", "I", false)
  | 10 => ("EscapeLightsModel", "lit", "[I", true)
  | 11 => ("EscapeLightsModel", "counts", "[Z", true)
  | 12 => ("EscapeLightsModel", "fewest", "[I", true)
  | 13 => ("EscapeLightsModel", "first", "[I", true)
  | 14 => ("EscapeLightsModel", "may", "[Z", true)
  | _ => ("EscapeLightsModel", "planned", "[I", true)
def tyX7 : Nat → FieldType := fun k => match k with
  | 0 => .array .int
  | 1 => .int
  | 2 => .array .int
  | 3 => .int
  | 4 => .int
  | 5 => .int
  | 6 => .array .int
  | 7 => .array .int
  | 8 => .int
  | 9 => .int
  | 10 => .array .int
  | 11 => .array .boolean
  | 12 => .array .int
  | 13 => .array .int
  | 14 => .array .boolean
  | _ => .array .int
theorem nmX7 : ∀ a, a < 16 → ∀ b, b < 16 → a ≠ b → (TX7 a).2.1 ≠ (TX7 b).2.1 := by decide +kernel
theorem tyX7_ok : ∀ k, k < 16 → parseFieldDescriptor (TX7 k).2.2.1 = some (tyX7 k) := by decide +kernel
def RJ9 : String := "java/lang/Math"
def RL : String := "EscapeLightsLaw"
abbrev cL_law : ByteArray := code
abbrev cX0_init : ByteArray := prog_2_method_1_code
def yX0_init : MethodName := ⟨RX0, "<init>", "()V"⟩
abbrev cX0_find : ByteArray := prog_2_method_2_code
def yX0_find : MethodName := ⟨RX0, "find", "(I)LEscapeLights$Light;"⟩
abbrev cX0_grow : ByteArray := prog_2_method_3_code
def yX0_grow : MethodName := ⟨RX0, "grow", "()LEscapeLights$Light;"⟩
abbrev cX0_removeLight : ByteArray := prog_2_method_4_code
def yX0_removeLight : MethodName := ⟨RX0, "removeLight", "(I)V"⟩
abbrev cX0_hasRoute : ByteArray := prog_2_method_5_code
def yX0_hasRoute : MethodName := ⟨RX0, "hasRoute", "(I)Z"⟩
abbrev cX0_firstPlace : ByteArray := prog_2_method_6_code
def yX0_firstPlace : MethodName := ⟨RX0, "firstPlace", "(I)I"⟩
abbrev cX0_lastPlace : ByteArray := prog_2_method_7_code
def yX0_lastPlace : MethodName := ⟨RX0, "lastPlace", "(I)I"⟩
abbrev cX0_appendRoute : ByteArray := prog_2_method_8_code
def yX0_appendRoute : MethodName := ⟨RX0, "appendRoute", "(II)V"⟩
abbrev cX0_removeRoute : ByteArray := prog_2_method_9_code
def yX0_removeRoute : MethodName := ⟨RX0, "removeRoute", "(I)V"⟩
abbrev cX0_copyFrom : ByteArray := prog_2_method_10_code
def yX0_copyFrom : MethodName := ⟨RX0, "copyFrom", "(LEscapeLights$Building;)V"⟩
abbrev cX0_copyLayout : ByteArray := prog_2_method_11_code
def yX0_copyLayout : MethodName := ⟨RX0, "copyLayout", "(LEscapeLights$Building;)V"⟩
abbrev cX0_stockOf : ByteArray := prog_2_method_12_code
def yX0_stockOf : MethodName := ⟨RX0, "stockOf", "(I)I"⟩
abbrev cX0_changeStock : ByteArray := prog_2_method_13_code
def yX0_changeStock : MethodName := ⟨RX0, "changeStock", "(II)V"⟩
abbrev cX0_holds : ByteArray := prog_2_method_14_code
def yX0_holds : MethodName := ⟨RX0, "holds", "(I)Z"⟩
abbrev cX0_withoutCircuit : ByteArray := prog_2_method_15_code
def yX0_withoutCircuit : MethodName := ⟨RX0, "withoutCircuit", "(I)I"⟩
abbrev cX0_countReady : ByteArray := prog_2_method_16_code
def yX0_countReady : MethodName := ⟨RX0, "countReady", "()I"⟩
abbrev cX0_countBurntOut : ByteArray := prog_2_method_17_code
def yX0_countBurntOut : MethodName := ⟨RX0, "countBurntOut", "()I"⟩
abbrev cX0_countReaching : ByteArray := prog_2_method_18_code
def yX0_countReaching : MethodName := ⟨RX0, "countReaching", "(IZ)I"⟩
abbrev cX0_putLamps : ByteArray := prog_2_method_19_code
def yX0_putLamps : MethodName := ⟨RX0, "putLamps", "(I)I"⟩
abbrev cX0_lampInPlaceOf : ByteArray := prog_2_method_20_code
def yX0_lampInPlaceOf : MethodName := ⟨RX0, "lampInPlaceOf", "(I)I"⟩
abbrev cX0_burn : ByteArray := prog_2_method_21_code
def yX0_burn : MethodName := ⟨RX0, "burn", "(I)V"⟩
abbrev cX0_letHoursPass : ByteArray := prog_2_method_22_code
def yX0_letHoursPass : MethodName := ⟨RX0, "letHoursPass", "(I)V"⟩
abbrev cX0_letStretchPass : ByteArray := prog_2_method_23_code
def yX0_letStretchPass : MethodName := ⟨RX0, "letStretchPass", "(I)V"⟩
abbrev cX1_init : ByteArray := prog_3_method_1_code
def yX1_init : MethodName := ⟨RX1, "<init>", "()V"⟩
abbrev cX1_keep : ByteArray := prog_3_method_2_code
def yX1_keep : MethodName := ⟨RX1, "keep", "(LEscapeLights$Building;)V"⟩
abbrev cX1_restore : ByteArray := prog_3_method_3_code
def yX1_restore : MethodName := ⟨RX1, "restore", "(LEscapeLights$Building;)V"⟩
abbrev cX1_slot : ByteArray := prog_3_method_4_code
def yX1_slot : MethodName := ⟨RX1, "slot", "(I)LEscapeLights$Building;"⟩
abbrev cX2_init : ByteArray := prog_4_method_1_code
def yX2_init : MethodName := ⟨RX2, "<init>", "()V"⟩
abbrev cX2_begin : ByteArray := prog_4_method_2_code
def yX2_begin : MethodName := ⟨RX2, "begin", "(IIIIZ)V"⟩
abbrev cX2_copyFrom : ByteArray := prog_4_method_3_code
def yX2_copyFrom : MethodName := ⟨RX2, "copyFrom", "(LEscapeLights$Light;)V"⟩
abbrev cX2_putLamp : ByteArray := prog_4_method_4_code
def yX2_putLamp : MethodName := ⟨RX2, "putLamp", "(I)V"⟩
abbrev cX2_ratedTime : ByteArray := prog_4_method_5_code
def yX2_ratedTime : MethodName := ⟨RX2, "ratedTime", "()I"⟩
abbrev cX2_wear : ByteArray := prog_4_method_6_code
def yX2_wear : MethodName := ⟨RX2, "wear", "()I"⟩
abbrev cX2_life : ByteArray := prog_4_method_7_code
def yX2_life : MethodName := ⟨RX2, "life", "()I"⟩
abbrev cX2_width : ByteArray := prog_4_method_8_code
def yX2_width : MethodName := ⟨RX2, "width", "()I"⟩
abbrev cX2_widthOf : ByteArray := prog_4_method_9_code
def yX2_widthOf : MethodName := ⟨RX2, "widthOf", "(I)I"⟩
abbrev cX2_capacity : ByteArray := prog_4_method_10_code
def yX2_capacity : MethodName := ⟨RX2, "capacity", "()I"⟩
abbrev cX2_fullCharge : ByteArray := prog_4_method_11_code
def yX2_fullCharge : MethodName := ⟨RX2, "fullCharge", "()I"⟩
abbrev cX2_endurance : ByteArray := prog_4_method_12_code
def yX2_endurance : MethodName := ⟨RX2, "endurance", "()I"⟩
abbrev cX2_isReady : ByteArray := prog_4_method_13_code
def yX2_isReady : MethodName := ⟨RX2, "isReady", "(I)Z"⟩
abbrev cX2_reaches : ByteArray := prog_4_method_14_code
def yX2_reaches : MethodName := ⟨RX2, "reaches", "(I)Z"⟩
abbrev cX2_letHoursPass : ByteArray := prog_4_method_15_code
def yX2_letHoursPass : MethodName := ⟨RX2, "letHoursPass", "(I)V"⟩
abbrev cX2_age : ByteArray := prog_4_method_16_code
def yX2_age : MethodName := ⟨RX2, "age", "(I)V"⟩
abbrev cX2_burn : ByteArray := prog_4_method_17_code
def yX2_burn : MethodName := ⟨RX2, "burn", "()Z"⟩
abbrev cX2_property : ByteArray := prog_4_method_18_code
def yX2_property : MethodName := ⟨RX2, "property", "(II)I"⟩
abbrev cX3_init : ByteArray := prog_5_method_1_code
def yX3_init : MethodName := ⟨RX3, "<init>", "()V"⟩
abbrev cX3_forget : ByteArray := prog_5_method_2_code
def yX3_forget : MethodName := ⟨RX3, "forget", "()V"⟩
abbrev cX3_setOn : ByteArray := prog_5_method_3_code
def yX3_setOn : MethodName := ⟨RX3, "setOn", "(I)I"⟩
abbrev cX3_dayOf : ByteArray := prog_5_method_4_code
def yX3_dayOf : MethodName := ⟨RX3, "dayOf", "(I)I"⟩
abbrev cX3_follow : ByteArray := prog_5_method_5_code
def yX3_follow : MethodName := ⟨RX3, "follow", "(LEscapeLights$Building;LEscapeLights$Reach;)V"⟩
abbrev cX3_fewestDays : ByteArray := prog_5_method_6_code
def yX3_fewestDays : MethodName := ⟨RX3, "fewestDays", "(LEscapeLights$Building;LEscapeLights$Reach;)I"⟩
abbrev cX3_markForbidden : ByteArray := prog_5_method_7_code
def yX3_markForbidden : MethodName := ⟨RX3, "markForbidden", "(LEscapeLights$Building;LEscapeLights$Reach;I)V"⟩
abbrev cX3_forbid : ByteArray := prog_5_method_8_code
def yX3_forbid : MethodName := ⟨RX3, "forbid", "(I)V"⟩
abbrev cX3_daysFor : ByteArray := prog_5_method_9_code
def yX3_daysFor : MethodName := ⟨RX3, "daysFor", "(I)I"⟩
abbrev cX3_holdsForbidden : ByteArray := prog_5_method_10_code
def yX3_holdsForbidden : MethodName := ⟨RX3, "holdsForbidden", "(I)Z"⟩
abbrev cX3_fewestApart : ByteArray := prog_5_method_11_code
def yX3_fewestApart : MethodName := ⟨RX3, "fewestApart", "(I)I"⟩
abbrev cX3_firstSet : ByteArray := prog_5_method_12_code
def yX3_firstSet : MethodName := ⟨RX3, "firstSet", "(I)I"⟩
abbrev cX3_begins : ByteArray := prog_5_method_13_code
def yX3_begins : MethodName := ⟨RX3, "begins", "(II)Z"⟩
abbrev cX4_init : ByteArray := prog_6_method_1_code
def yX4_init : MethodName := ⟨RX4, "<init>", "()V"⟩
abbrev cX4_look : ByteArray := prog_6_method_2_code
def yX4_look : MethodName := ⟨RX4, "look", "(LEscapeLights$Building;)V"⟩
abbrev cX4_nearTo : ByteArray := prog_6_method_3_code
def yX4_nearTo : MethodName := ⟨RX4, "nearTo", "(I)I"⟩
abbrev cX4_dark : ByteArray := prog_6_method_4_code
def yX4_dark : MethodName := ⟨RX4, "dark", "(III)I"⟩
abbrev cX4_minutes : ByteArray := prog_6_method_5_code
def yX4_minutes : MethodName := ⟨RX4, "minutes", "(LEscapeLights$Building;II)I"⟩
abbrev cX4_lengthen : ByteArray := prog_6_method_6_code
def yX4_lengthen : MethodName := ⟨RX4, "lengthen", "(LEscapeLights$Light;II)V"⟩
abbrev cX5_init : ByteArray := prog_7_method_1_code
def yX5_init : MethodName := ⟨RX5, "<init>", "()V"⟩
abbrev cX5_append : ByteArray := prog_7_method_2_code
def yX5_append : MethodName := ⟨RX5, "append", "(I)Z"⟩
abbrev cX5_readInto : ByteArray := prog_7_method_3_code
def yX5_readInto : MethodName := ⟨RX5, "readInto", "(LEscapeLights$Building;)I"⟩
abbrev cX5_readLight : ByteArray := prog_7_method_4_code
def yX5_readLight : MethodName := ⟨RX5, "readLight", "(LEscapeLights$Building;)V"⟩
abbrev cX5_readRoute : ByteArray := prog_7_method_5_code
def yX5_readRoute : MethodName := ⟨RX5, "readRoute", "(LEscapeLights$Building;)V"⟩
abbrev cX5_peek : ByteArray := prog_7_method_6_code
def yX5_peek : MethodName := ⟨RX5, "peek", "()I"⟩
abbrev cX5_expect : ByteArray := prog_7_method_7_code
def yX5_expect : MethodName := ⟨RX5, "expect", "(I)V"⟩
abbrev cX5_readNumber : ByteArray := prog_7_method_8_code
def yX5_readNumber : MethodName := ⟨RX5, "readNumber", "(III)I"⟩
abbrev cX5_isAtDigit : ByteArray := prog_7_method_9_code
def yX5_isAtDigit : MethodName := ⟨RX5, "isAtDigit", "()Z"⟩
abbrev cX5_fail : ByteArray := prog_7_method_10_code
def yX5_fail : MethodName := ⟨RX5, "fail", "(I)V"⟩
abbrev cX6_init : ByteArray := prog_1_method_1_code
def yX6_init : MethodName := ⟨RX6, "<init>", "()V"⟩
abbrev cX6_type : ByteArray := prog_1_method_2_code
def yX6_type : MethodName := ⟨RX6, "type", "(I)I"⟩
abbrev cX6_clear : ByteArray := prog_1_method_3_code
def yX6_clear : MethodName := ⟨RX6, "clear", "()I"⟩
abbrev cX6_load : ByteArray := prog_1_method_4_code
def yX6_load : MethodName := ⟨RX6, "load", "()I"⟩
abbrev cX6_add : ByteArray := prog_1_method_5_code
def yX6_add : MethodName := ⟨RX6, "add", "(IIII)I"⟩
abbrev cX6_drop : ByteArray := prog_1_method_6_code
def yX6_drop : MethodName := ⟨RX6, "drop", "(I)I"⟩
abbrev cX6_maintain : ByteArray := prog_1_method_7_code
def yX6_maintain : MethodName := ⟨RX6, "maintain", "(IZ)I"⟩
abbrev cX6_route : ByteArray := prog_1_method_8_code
def yX6_route : MethodName := ⟨RX6, "route", "(II)I"⟩
abbrev cX6_dropRoute : ByteArray := prog_1_method_9_code
def yX6_dropRoute : MethodName := ⟨RX6, "dropRoute", "(I)I"⟩
abbrev cX6_setNeed : ByteArray := prog_1_method_10_code
def yX6_setNeed : MethodName := ⟨RX6, "setNeed", "(I)I"⟩
abbrev cX6_setStock : ByteArray := prog_1_method_11_code
def yX6_setStock : MethodName := ⟨RX6, "setStock", "(II)I"⟩
abbrev cX6_light : ByteArray := prog_1_method_12_code
def yX6_light : MethodName := ⟨RX6, "light", "(II)I"⟩
abbrev cX6_swap : ByteArray := prog_1_method_13_code
def yX6_swap : MethodName := ⟨RX6, "swap", "(II)I"⟩
abbrev cX6_swapAll : ByteArray := prog_1_method_14_code
def yX6_swapAll : MethodName := ⟨RX6, "swapAll", "(I)I"⟩
abbrev cX6_renew : ByteArray := prog_1_method_15_code
def yX6_renew : MethodName := ⟨RX6, "renew", "(I)I"⟩
abbrev cX6_pass : ByteArray := prog_1_method_16_code
def yX6_pass : MethodName := ⟨RX6, "pass", "(I)I"⟩
abbrev cX6_test : ByteArray := prog_1_method_17_code
def yX6_test : MethodName := ⟨RX6, "test", "(IZ)I"⟩
abbrev cX6_carryOut : ByteArray := prog_1_method_18_code
def yX6_carryOut : MethodName := ⟨RX6, "carryOut", "()I"⟩
abbrev cX6_routeAt : ByteArray := prog_1_method_19_code
def yX6_routeAt : MethodName := ⟨RX6, "routeAt", "(II)I"⟩
abbrev cX6_lasts : ByteArray := prog_1_method_20_code
def yX6_lasts : MethodName := ⟨RX6, "lasts", "(II)I"⟩
abbrev cX6_reaching : ByteArray := prog_1_method_21_code
def yX6_reaching : MethodName := ⟨RX6, "reaching", "(IZ)I"⟩
abbrev cX6_allowed : ByteArray := prog_1_method_22_code
def yX6_allowed : MethodName := ⟨RX6, "allowed", "(I)I"⟩
abbrev cX6_days : ByteArray := prog_1_method_23_code
def yX6_days : MethodName := ⟨RX6, "days", "()I"⟩
abbrev cX6_day : ByteArray := prog_1_method_24_code
def yX6_day : MethodName := ⟨RX6, "day", "(I)I"⟩
abbrev cX6_ifLamp : ByteArray := prog_1_method_25_code
def yX6_ifLamp : MethodName := ⟨RX6, "ifLamp", "(II)I"⟩
abbrev cX6_bestSwap : ByteArray := prog_1_method_26_code
def yX6_bestSwap : MethodName := ⟨RX6, "bestSwap", "(I)I"⟩
abbrev cX6_told : ByteArray := prog_1_method_27_code
def yX6_told : MethodName := ⟨RX6, "told", "(I)I"⟩
abbrev cX6_undo : ByteArray := prog_1_method_28_code
def yX6_undo : MethodName := ⟨RX6, "undo", "()I"⟩
abbrev cX6_digest : ByteArray := prog_1_method_29_code
def yX6_digest : MethodName := ⟨RX6, "digest", "()J"⟩
abbrev cX6_isPlace : ByteArray := prog_1_method_30_code
def yX6_isPlace : MethodName := ⟨RX6, "isPlace", "(I)Z"⟩
abbrev cX6_isLamp : ByteArray := prog_1_method_31_code
def yX6_isLamp : MethodName := ⟨RX6, "isLamp", "(I)Z"⟩
abbrev cX6_remember : ByteArray := prog_1_method_32_code
def yX6_remember : MethodName := ⟨RX6, "remember", "()V"⟩
abbrev cX6_darkPlaces : ByteArray := prog_1_method_33_code
def yX6_darkPlaces : MethodName := ⟨RX6, "darkPlaces", "(I)I"⟩
abbrev cX6_countSafe : ByteArray := prog_1_method_34_code
def yX6_countSafe : MethodName := ⟨RX6, "countSafe", "()I"⟩
abbrev cX6_worstCircuit : ByteArray := prog_1_method_35_code
def yX6_worstCircuit : MethodName := ⟨RX6, "worstCircuit", "(I)I"⟩
abbrev cX6_daysWithLamp : ByteArray := prog_1_method_36_code
def yX6_daysWithLamp : MethodName := ⟨RX6, "daysWithLamp", "(II)I"⟩
abbrev cX7_init : ByteArray := prog_9_method_1_code
def yX7_init : MethodName := ⟨RX7, "<init>", "()V"⟩
abbrev cX7_in : ByteArray := prog_9_method_3_code
def yX7_in : MethodName := ⟨RX7, "in", "(III)Z"⟩
abbrev cX7_records : ByteArray := prog_9_method_4_code
def yX7_records : MethodName := ⟨RX7, "records", "()V"⟩
abbrev cX7_at : ByteArray := prog_9_method_5_code
def yX7_at : MethodName := ⟨RX7, "at", "(II)I"⟩
abbrev cX7_of : ByteArray := prog_9_method_6_code
def yX7_of : MethodName := ⟨RX7, "of", "(II)I"⟩
abbrev cX7_lights : ByteArray := prog_9_method_7_code
def yX7_lights : MethodName := ⟨RX7, "lights", "()I"⟩
abbrev cX7_isLight : ByteArray := prog_9_method_8_code
def yX7_isLight : MethodName := ⟨RX7, "isLight", "(I)Z"⟩
abbrev cX7_isRoute : ByteArray := prog_9_method_9_code
def yX7_isRoute : MethodName := ⟨RX7, "isRoute", "(I)Z"⟩
abbrev cX7_ratedOf : ByteArray := prog_9_method_10_code
def yX7_ratedOf : MethodName := ⟨RX7, "ratedOf", "(I)I"⟩
abbrev cX7_reachOf : ByteArray := prog_9_method_11_code
def yX7_reachOf : MethodName := ⟨RX7, "reachOf", "(I)I"⟩
abbrev cX7_capacityOf : ByteArray := prog_9_method_12_code
def yX7_capacityOf : MethodName := ⟨RX7, "capacityOf", "(I)I"⟩
abbrev cX7_restOf : ByteArray := prog_9_method_13_code
def yX7_restOf : MethodName := ⟨RX7, "restOf", "(I)I"⟩
abbrev cX7_enduranceOf : ByteArray := prog_9_method_14_code
def yX7_enduranceOf : MethodName := ⟨RX7, "enduranceOf", "(I)I"⟩
abbrev cX7_isReady : ByteArray := prog_9_method_15_code
def yX7_isReady : MethodName := ⟨RX7, "isReady", "(I)Z"⟩
abbrev cX7_reaches : ByteArray := prog_9_method_16_code
def yX7_reaches : MethodName := ⟨RX7, "reaches", "(II)Z"⟩
abbrev cX7_clips : ByteArray := prog_9_method_17_code
def yX7_clips : MethodName := ⟨RX7, "clips", "(I)V"⟩
abbrev cX7_wears : ByteArray := prog_9_method_18_code
def yX7_wears : MethodName := ⟨RX7, "wears", "(II)V"⟩
abbrev cX7_lays : ByteArray := prog_9_method_19_code
def yX7_lays : MethodName := ⟨RX7, "lays", "(IIIIIZ)V"⟩
abbrev cX7_isPlace : ByteArray := prog_9_method_20_code
def yX7_isPlace : MethodName := ⟨RX7, "isPlace", "(I)Z"⟩
abbrev cX7_isLamp : ByteArray := prog_9_method_21_code
def yX7_isLamp : MethodName := ⟨RX7, "isLamp", "(I)Z"⟩
abbrev cX7_add : ByteArray := prog_9_method_22_code
def yX7_add : MethodName := ⟨RX7, "add", "(IIII)I"⟩
abbrev cX7_drop : ByteArray := prog_9_method_23_code
def yX7_drop : MethodName := ⟨RX7, "drop", "(I)I"⟩
abbrev cX7_maintain : ByteArray := prog_9_method_24_code
def yX7_maintain : MethodName := ⟨RX7, "maintain", "(IZ)I"⟩
abbrev cX7_route : ByteArray := prog_9_method_25_code
def yX7_route : MethodName := ⟨RX7, "route", "(II)I"⟩
abbrev cX7_dropRoute : ByteArray := prog_9_method_26_code
def yX7_dropRoute : MethodName := ⟨RX7, "dropRoute", "(I)I"⟩
abbrev cX7_setNeed : ByteArray := prog_9_method_27_code
def yX7_setNeed : MethodName := ⟨RX7, "setNeed", "(I)I"⟩
abbrev cX7_setStock : ByteArray := prog_9_method_28_code
def yX7_setStock : MethodName := ⟨RX7, "setStock", "(II)I"⟩
abbrev cX7_type : ByteArray := prog_9_method_29_code
def yX7_type : MethodName := ⟨RX7, "type", "(I)I"⟩
abbrev cX7_clear : ByteArray := prog_9_method_30_code
def yX7_clear : MethodName := ⟨RX7, "clear", "()I"⟩
abbrev cX7_here : ByteArray := prog_9_method_31_code
def yX7_here : MethodName := ⟨RX7, "here", "()I"⟩
abbrev cX7_takes : ByteArray := prog_9_method_32_code
def yX7_takes : MethodName := ⟨RX7, "takes", "(I)Z"⟩
abbrev cX7_isFigure : ByteArray := prog_9_method_33_code
def yX7_isFigure : MethodName := ⟨RX7, "isFigure", "()Z"⟩
abbrev cX7_readsNumber : ByteArray := prog_9_method_34_code
def yX7_readsNumber : MethodName := ⟨RX7, "readsNumber", "(III)Z"⟩
abbrev cX7_readsLight : ByteArray := prog_9_method_35_code
def yX7_readsLight : MethodName := ⟨RX7, "readsLight", "()Z"⟩
abbrev cX7_readsRoute : ByteArray := prog_9_method_36_code
def yX7_readsRoute : MethodName := ⟨RX7, "readsRoute", "()Z"⟩
abbrev cX7_load : ByteArray := prog_9_method_37_code
def yX7_load : MethodName := ⟨RX7, "load", "()I"⟩
abbrev cX7_puts : ByteArray := prog_9_method_38_code
def yX7_puts : MethodName := ⟨RX7, "puts", "(II)V"⟩
abbrev cX7_swap : ByteArray := prog_9_method_39_code
def yX7_swap : MethodName := ⟨RX7, "swap", "(II)I"⟩
abbrev cX7_instead : ByteArray := prog_9_method_40_code
def yX7_instead : MethodName := ⟨RX7, "instead", "(I)I"⟩
abbrev cX7_swapAll : ByteArray := prog_9_method_41_code
def yX7_swapAll : MethodName := ⟨RX7, "swapAll", "(I)I"⟩
abbrev cX7_renew : ByteArray := prog_9_method_42_code
def yX7_renew : MethodName := ⟨RX7, "renew", "(I)I"⟩
abbrev cX7_hour : ByteArray := prog_9_method_43_code
def yX7_hour : MethodName := ⟨RX7, "hour", "()V"⟩
abbrev cX7_ready : ByteArray := prog_9_method_44_code
def yX7_ready : MethodName := ⟨RX7, "ready", "()I"⟩
abbrev cX7_pass : ByteArray := prog_9_method_45_code
def yX7_pass : MethodName := ⟨RX7, "pass", "(I)I"⟩
abbrev cX7_tests : ByteArray := prog_9_method_46_code
def yX7_tests : MethodName := ⟨RX7, "tests", "(I)I"⟩
abbrev cX7_isSet : ByteArray := prog_9_method_47_code
def yX7_isSet : MethodName := ⟨RX7, "isSet", "(I)Z"⟩
abbrev cX7_laysPlaces : ByteArray := prog_9_method_48_code
def yX7_laysPlaces : MethodName := ⟨RX7, "laysPlaces", "()V"⟩
abbrev cX7_unlit : ByteArray := prog_9_method_49_code
def yX7_unlit : MethodName := ⟨RX7, "unlit", "(I)I"⟩
abbrev cX7_isAllowed : ByteArray := prog_9_method_50_code
def yX7_isAllowed : MethodName := ⟨RX7, "isAllowed", "(I)Z"⟩
abbrev cX7_allowed : ByteArray := prog_9_method_51_code
def yX7_allowed : MethodName := ⟨RX7, "allowed", "(I)I"⟩
abbrev cX7_test : ByteArray := prog_9_method_52_code
def yX7_test : MethodName := ⟨RX7, "test", "(IZ)I"⟩
abbrev cX7_laysPlan : ByteArray := prog_9_method_53_code
def yX7_laysPlan : MethodName := ⟨RX7, "laysPlan", "()V"⟩
abbrev cX7_hasPlan : ByteArray := prog_9_method_54_code
def yX7_hasPlan : MethodName := ⟨RX7, "hasPlan", "()Z"⟩
abbrev cX7_setOf : ByteArray := prog_9_method_55_code
def yX7_setOf : MethodName := ⟨RX7, "setOf", "(I)I"⟩
abbrev cX7_daysNow : ByteArray := prog_9_method_56_code
def yX7_daysNow : MethodName := ⟨RX7, "daysNow", "()I"⟩
abbrev cX7_days : ByteArray := prog_9_method_57_code
def yX7_days : MethodName := ⟨RX7, "days", "()I"⟩
abbrev cX7_day : ByteArray := prog_9_method_58_code
def yX7_day : MethodName := ⟨RX7, "day", "(I)I"⟩
abbrev cX7_dayOf : ByteArray := prog_9_method_59_code
def yX7_dayOf : MethodName := ⟨RX7, "dayOf", "(I)I"⟩
abbrev cX7_carryOut : ByteArray := prog_9_method_60_code
def yX7_carryOut : MethodName := ⟨RX7, "carryOut", "()I"⟩
abbrev cX7_daysWith : ByteArray := prog_9_method_61_code
def yX7_daysWith : MethodName := ⟨RX7, "daysWith", "(II)I"⟩
abbrev cX7_ifLamp : ByteArray := prog_9_method_62_code
def yX7_ifLamp : MethodName := ⟨RX7, "ifLamp", "(II)I"⟩
abbrev cX7_bestSwap : ByteArray := prog_9_method_63_code
def yX7_bestSwap : MethodName := ⟨RX7, "bestSwap", "(I)I"⟩
abbrev cX7_lastsNow : ByteArray := prog_9_method_64_code
def yX7_lastsNow : MethodName := ⟨RX7, "lastsNow", "(II)I"⟩
abbrev cX7_lasts : ByteArray := prog_9_method_65_code
def yX7_lasts : MethodName := ⟨RX7, "lasts", "(II)I"⟩
abbrev cX7_without : ByteArray := prog_9_method_66_code
def yX7_without : MethodName := ⟨RX7, "without", "(I)I"⟩
abbrev cX7_weakest : ByteArray := prog_9_method_67_code
def yX7_weakest : MethodName := ⟨RX7, "weakest", "(IZ)I"⟩
abbrev cX7_routeAt : ByteArray := prog_9_method_68_code
def yX7_routeAt : MethodName := ⟨RX7, "routeAt", "(II)I"⟩
abbrev cX7_reaching : ByteArray := prog_9_method_69_code
def yX7_reaching : MethodName := ⟨RX7, "reaching", "(IZ)I"⟩
abbrev cX7_light : ByteArray := prog_9_method_70_code
def yX7_light : MethodName := ⟨RX7, "light", "(II)I"⟩
abbrev cX7_burntOut : ByteArray := prog_9_method_71_code
def yX7_burntOut : MethodName := ⟨RX7, "burntOut", "()I"⟩
abbrev cX7_safe : ByteArray := prog_9_method_72_code
def yX7_safe : MethodName := ⟨RX7, "safe", "()I"⟩
abbrev cX7_told : ByteArray := prog_9_method_73_code
def yX7_told : MethodName := ⟨RX7, "told", "(I)I"⟩
abbrev cX7_undo : ByteArray := prog_9_method_74_code
def yX7_undo : MethodName := ⟨RX7, "undo", "()I"⟩
abbrev cX7_mixedPlan : ByteArray := prog_9_method_75_code
def yX7_mixedPlan : MethodName := ⟨RX7, "mixedPlan", "(J)J"⟩
abbrev cX7_digest : ByteArray := prog_9_method_76_code
def yX7_digest : MethodName := ⟨RX7, "digest", "()J"⟩
abbrev cJ9_floorMod_7cf53 : ByteArray := prog_10_method_50_code
def yJ9_floorMod_7cf53 : MethodName := ⟨RJ9, "floorMod", "(II)I"⟩
abbrev vwCl : List vw_C := [(RX0, TX0, 10), (RX1, TX1, 3), (RX2, TX2, 9), (RX3, TX3, 4), (RX4, TX4, 2), (RX5, TX5, 4), (RX6, TX6, 6), (RX7, TX7, 16)]
end
section
/-! the judgement J: the walk of one method over BLOCKS of cells; contracts Con; the frame rule is in the call rows -/
abbrev jG : Type := Launch × va_G × (Nat → ClassId)
abbrev jE : Type := Program × Env × State × MethodId × Array Value × List Frame × Method × Code × (Nat → Prop) × (State → Prop)
abbrev jEp (E : jE) : Program := E.1
abbrev jEe (E : jE) : Env := E.2.1
abbrev jEs (E : jE) : State := E.2.2.1
abbrev jEm (E : jE) : MethodId := E.2.2.2.1
abbrev jEa (E : jE) : Array Value := E.2.2.2.2.1
abbrev jEb (E : jE) : List Frame := E.2.2.2.2.2.1
abbrev jEh (E : jE) : Method := E.2.2.2.2.2.2.1
abbrev jEc (E : jE) : Code := E.2.2.2.2.2.2.2.1
abbrev jEA (E : jE) : Nat → Prop := E.2.2.2.2.2.2.2.2.1
abbrev jEQ (E : jE) : State → Prop := E.2.2.2.2.2.2.2.2.2
def jT : List Cond := lw_tbl.filter goodWord
def jWs (y : MethodName) (cc : ByteArray) (nL : Nat) (ret : Option FieldType) : List Cond := .code y cc nL ret :: jT
def jTys (g : jG) : List (ClassId × FieldType) := [(g.2.2 0, .byte), (g.2.2 1, .int), (g.2.2 2, .boolean), (g.2.2 3, .object "EscapeLights$Building"), (g.2.2 4, .object "EscapeLights$Light")]
def jIsNest : Cond → Bool
  | .methodLinkNest _ _ _ _ => true
  | _ => false
def jNw : List Cond := lw_tbl.filter jIsNest
def jK (g : jG) (U : State) : Prop := va_K g.2.1 vwCl (jTys g) U ∧ (∀ w ∈ jNw, va_Nw w U) ∧ va_AO "EscapeLights$Building" U ∧ va_AO "EscapeLights$Light" U
theorem jK.moved {g : jG} {s U : State} (hW : s.WarmedH U.vm) (h : jK g s) : jK g U := by
  obtain ⟨h1, h2, h3, h4⟩ := h
  refine ⟨va_K.moved hW.alike h1, fun w hw => ?_, va_AO.moved hW.alike h3, va_AO.moved hW.alike h4⟩
  have h5 := (List.mem_filter.mp hw).2
  cases w with
  | methodLinkNest a i x h => exact va_Nw.warmM hW (h2 _ hw)
  | _ => cases h5
theorem jK.calling {g : jG} {U : State} {f : JFrame} {mk : MethodId} {a : Array Value} (h : jK g U) : jK g (U.calling f mk a) := by
  obtain ⟨h1, h2, h3, h4⟩ := h
  refine ⟨va_K.moved (u := U) (U := U.calling f mk a) (Vm.Alike.refl U.vm) h1, fun w hw => ?_, va_AO.moved (u := U) (U := U.calling f mk a) (Vm.Alike.refl U.vm) h3, va_AO.moved (u := U) (U := U.calling f mk a) (Vm.Alike.refl U.vm) h4⟩
  have h5 := (List.mem_filter.mp hw).2
  cases w with
  | methodLinkNest a i x h => exact va_Nw.same rfl (u := U) rfl (h2 _ hw)
  | _ => cases h5
/-- what holds of the cells: they are there, apart, and of a kind -/
def jP (g : jG) (A : Nat → Prop) (ws : va_W) (H : Heap) : Prop := va_P g.2.1 vwCl ws H ∧ va_D A ws
def jPre (g : jG) (av : List Value) (sz : Nat) (bl : List va_W) : Array Value → State → Prop := va_Pc av (fun U => U.heap.size = sz ∧ jP g (fun _ => True) bl.flatten U.heap ∧ jK g U)
def jPost (g : jG) (sz : Nat) (bl : List va_W) (Post : Option Value → List va_W → Prop) : Array Value → State → Outcome → State → Prop := fun _ st oc t =>
  (∃ (r : Option Value) (b1 : List va_W), oc = .returned r ∧ Post r b1 ∧ b1.length = bl.length ∧ jP g (va_A bl.flatten sz) b1.flatten t.heap) ∧ va_F (va_A bl.flatten sz) st t
def jRm (fr lo mc ms : Nat) : Room := { frames := fr, cells := mc, slots := ms, locals := lo }
/-- a method's contract on given arguments and blocks -/
def Con (g : jG) (y : MethodName) (cc : ByteArray) (nL : Nat) (ret : Option FieldType) (fr lo mc ms : Nat) (av : List Value) (bl : List va_W) (Post : Option Value → List va_W → Prop) : Prop :=
  ∀ sz : Nat, Met g.1 y (jWs y cc nL ret) (jRm fr lo mc ms) (jPre g av sz bl) (jPost g sz bl Post) mc ms (va_A bl.flatten sz)
def J (g : jG) (R : Room) (E : jE) (nL pc : Nat) (lv : List (Nat × Value)) (st : List Value) (bl : List va_W) (k n : Nat) : Prop :=
  ∀ (H : Heap) (locs : List Loc) (ls : Array Slot), jP g (jEA E) bl.flatten H → va_S (jEA E) (jEs E).heap H locs → lv_has ls nL lv →
    W (jEp E) g.1 (jEe E) R (jEs E) (jEm E) (jEa E) (jEb E) (jEh E) (jEc E) H locs k n (jEQ E) (F0 (jEm E) pc ls st)
/-- what stays through a method's walk -/
def jC (g : jG) (R : Room) (E : jE) (cc : ByteArray) (own : String) (nL : Nat) : Prop :=
  (jEp E).tables.exec = Jvm.exec ∧ (jEc E).code = cc ∧ (jEc E).maxLocals = nL ∧ (jEs E).vm.findClass own = some (jEm E).cls ∧ (∀ w ∈ jT, w.before (jEa E) (jEs E) = true) ∧ jK g (jEs E) ∧ (∀ q, (jEs E).heap.size ≤ q → jEA E q) ∧ (jEh E).locks = false
def jQ (g : jG) (E : jE) (ret : Option FieldType) (mc ms : Nat) (bl : List va_W) (Post : Option Value → List va_W → Prop) : Prop :=
  (jEh E).sig.returnType = ret ∧ jEA E = va_A bl.flatten (jEs E).heap.size ∧ jEQ E = MQ (jEb E) (jPost g (jEs E).heap.size bl Post) (jEa E) (jEs E) mc ms (va_A bl.flatten (jEs E).heap.size)
theorem jT_sub : ∀ w ∈ jT, w ∈ lw_tbl := fun _ h => (List.mem_filter.mp h).1
theorem jT_mem {w : Cond} (i : Nat) (h : lw_tbl[i]? = some w) (hg : goodWord w = true) : w ∈ jT :=
  List.mem_filter.mpr ⟨List.mem_of_getElem? (i := i) h, hg⟩
theorem jWs_good {y : MethodName} {cc : ByteArray} {nL : Nat} {ret : Option FieldType} (h : Cond.code y cc nL ret ∈ jT) : GoodIn jT (jWs y cc nL ret) := by
  intro w hw
  rcases List.mem_cons.mp hw with rfl | hw
  · exact ⟨h, good_of_word (List.mem_filter.mp h).2⟩
  · exact ⟨hw, good_of_word (List.mem_filter.mp hw).2⟩
theorem jP.self {g : jG} {A : Nat → Prop} {ws : va_W} {H : Heap} {sz : Nat} (h : jP g A ws H) : jP g (va_A ws sz) ws H := ⟨h.1, h.2.self⟩
theorem Con.of {g : jG} {y : MethodName} {cc : ByteArray} {nL : Nat} {ret : Option FieldType} {fr lo mc ms : Nat} {av : List Value} {bl : List va_W} {Post : Option Value → List va_W → Prop} {lv : List (Nat × Value)} {own : String}
    (hy : plainName y.cls = true) (hown : y.cls = own) (hlen : (lg_sl av).length ≤ nL) (hlv : lv_args 0 av = lv)
    (body : ∀ E : jE, jC g (jRm fr lo mc ms) E cc own nL → jQ g E ret mc ms bl Post → (jEh E).name = y.name → J g (jRm fr lo mc ms) E nL 0 lv [] bl 0 0) : Con g y cc nL ret fr lo mc ms av bl Post := by
  intro sz
  refine Met.ofW (cc := cc) (maxL := nL) (ret := ret) hy rfl ?_
  intro p e s m args below meth c s₁ B hml hv
  obtain ⟨rfl, hsz, hP, hK⟩ := hv
  subst hsz
  subst hown
  subst hlv
  have hts := atoms_spec (ws := jWs y cc nL ret) B.pre
  have h1 := body (p, e, s, m, av.toArray, below, meth, c, va_A bl.flatten s.heap.size, MQ below (jPost g s.heap.size bl Post) av.toArray s mc ms (va_A bl.flatten s.heap.size))
    ⟨B.exec, B.bytes, hml, findClass_of_methodNamed B.named, fun w h => hts w (List.mem_cons_of_mem _ h), hK, fun q h => Or.inr h, B.notSynchronized⟩ ⟨B.returns, rfl, rfl⟩ (name_of_methodNamed B.named B.method).1
  have hl := lv_entry av (n := nL) hlen
  rw [lg_entry_eq]
  exact h1 s.heap [] _ hP.self va_S.rf hl
section JROWS
variable {g : jG} {R : Room} {E : jE} {cc : ByteArray} {own : String} {nL pc : Nat} {lv : List (Nat × Value)} {st : List Value} {bl : List va_W} {k n : Nat}
def lset : List (Nat × Value) → Nat → Value → List (Nat × Value)
  | [], i, v => [(i, v)]
  | (j, w) :: t, i, v => bif Nat.blt j i then (j, w) :: lset t i v else bif Nat.beq j i then (i, v) :: t else (i, v) :: (j, w) :: t
def lget : List (Nat × Value) → Nat → Option Value
  | [], _ => none
  | (j, w) :: t, i => bif Nat.beq j i then some w else lget t i
def lpick (lv : List (Nat × Value)) (ks : List Nat) : List (Nat × Value) := ks.filterMap (fun i => (lget lv i).map (fun v => (i, v)))
/-- no long value lies just below -/
def lfree : List (Nat × Value) → Nat → Bool
  | [], _ => true
  | (j, w) :: t, i => (bif Nat.beq (j + 1) i then !(w.category == 2) else true) && lfree t i
theorem lget_mem {i : Nat} {v : Value} : ∀ {lv : List (Nat × Value)}, lget lv i = some v → (i, v) ∈ lv
  | [], h => by cases h
  | (j, w) :: t, h => by
    unfold lget at h
    cases hj : Nat.beq j i with
    | true =>
      rw [hj] at h
      have e := Nat.eq_of_beq_eq_true hj
      cases h
      subst e
      exact List.mem_cons_self
    | false =>
      rw [hj] at h
      exact List.mem_cons_of_mem _ (lget_mem h)
theorem lset_mem {i : Nat} {v : Value} {q : Nat × Value} : ∀ {lv : List (Nat × Value)}, q ∈ lset lv i v → q = (i, v) ∨ (q ∈ lv ∧ q.1 ≠ i) ∨ q ∈ lv
  | [], h => by
    rcases List.mem_cons.mp h with h | h
    · exact Or.inl h
    · cases h
  | (j, w) :: t, h => by
    unfold lset at h
    cases hj : Nat.blt j i with
    | true =>
      rw [hj] at h
      rcases List.mem_cons.mp h with h | h
      · exact Or.inr (Or.inr (by rw [h]; exact List.mem_cons_self))
      · rcases lset_mem h with h | h | h
        · exact Or.inl h
        · exact Or.inr (Or.inr (List.mem_cons_of_mem _ h.1))
        · exact Or.inr (Or.inr (List.mem_cons_of_mem _ h))
    | false =>
      rw [hj] at h
      cases hj2 : Nat.beq j i with
      | true =>
        rw [hj2] at h
        rcases List.mem_cons.mp h with h | h
        · exact Or.inl h
        · exact Or.inr (Or.inr (List.mem_cons_of_mem _ h))
      | false =>
        rw [hj2] at h
        rcases List.mem_cons.mp h with h | h
        · exact Or.inl h
        · exact Or.inr (Or.inr h)
/-- the places of a list of locals are in ascending order -/
def lord : List (Nat × Value) → Bool
  | [] => true
  | (_, _) :: [] => true
  | (j, _) :: (j2, w2) :: t => Nat.blt j j2 && lord ((j2, w2) :: t)
theorem lord_tail {q : Nat × Value} {t : List (Nat × Value)} (h : lord (q :: t) = true) : lord t = true ∧ ∀ r ∈ t, q.1 < r.1 := by
  induction t generalizing q with
  | nil => exact ⟨rfl, fun r hr => by cases hr⟩
  | cons a t ih =>
    obtain ⟨j, w⟩ := q
    obtain ⟨j2, w2⟩ := a
    have h : (Nat.blt j j2 && lord ((j2, w2) :: t)) = true := h
    rw [Bool.and_eq_true] at h
    have h1 : j < j2 := Nat.le_of_ble_eq_true h.1
    refine ⟨h.2, fun r hr => ?_⟩
    rcases List.mem_cons.mp hr with rfl | hr
    · exact h1
    · exact Nat.lt_trans h1 ((ih h.2).2 r hr)
theorem lset_ne {i : Nat} {v : Value} {q : Nat × Value} : ∀ {lv : List (Nat × Value)}, lord lv = true → q ∈ lset lv i v → q = (i, v) ∨ (q ∈ lv ∧ q.1 ≠ i)
  | [], _, h => by
    rcases List.mem_cons.mp h with h | h
    · exact Or.inl h
    · cases h
  | (j, w) :: t, ho, h => by
    obtain ⟨ho1, ho2⟩ := lord_tail ho
    unfold lset at h
    cases hj : Nat.blt j i with
    | true =>
      rw [hj] at h
      have hj' : j < i := Nat.le_of_ble_eq_true hj
      rcases List.mem_cons.mp h with h | h
      · refine Or.inr ⟨by rw [h]; exact List.mem_cons_self, ?_⟩
        rw [h]; exact Nat.ne_of_lt hj'
      · rcases lset_ne ho1 h with h | h
        · exact Or.inl h
        · exact Or.inr ⟨List.mem_cons_of_mem _ h.1, h.2⟩
    | false =>
      rw [hj] at h
      have hj' : i ≤ j := by
        rcases Nat.lt_or_ge j i with q | q
        · have : Nat.blt j i = true := Nat.ble_eq_true_of_le q
          rw [hj] at this; cases this
        · exact q
      cases hj2 : Nat.beq j i with
      | true =>
        rw [hj2] at h
        have e := Nat.eq_of_beq_eq_true hj2
        rcases List.mem_cons.mp h with h | h
        · exact Or.inl h
        · exact Or.inr ⟨List.mem_cons_of_mem _ h, by have := ho2 q h; show q.1 ≠ i; simp only at this; omega⟩
      | false =>
        rw [hj2] at h
        have hne : j ≠ i := fun e => by
          subst e
          have : Nat.beq j j = true := Nat.beq_refl j
          rw [hj2] at this; cases this
        rcases List.mem_cons.mp h with h | h
        · exact Or.inl h
        · refine Or.inr ⟨h, ?_⟩
          rcases List.mem_cons.mp h with h | h
          · rw [h]; exact hne
          · have := ho2 q h; simp only at this; omega
theorem lfree_mem {i : Nat} : ∀ {lv : List (Nat × Value)}, lfree lv i = true → ∀ q ∈ lv, q.1 + 1 = i → ¬ q.2.category = 2
  | [], _, _, h, _ => by cases h
  | (j, w) :: t, hf, q, h, e => by
    unfold lfree at hf
    rw [Bool.and_eq_true] at hf
    rcases List.mem_cons.mp h with h | h
    · subst h
      have e2 : Nat.beq (j + 1) i = true := by rw [show i = j + 1 from e.symm]; exact Nat.beq_refl _
      rw [e2] at hf
      intro hc
      have h1 : w.category = 2 := hc
      simp [h1] at hf
    · exact lfree_mem hf.2 q h e
theorem lv_has.weak {ls : Array Slot} {l l' : List (Nat × Value)} (h : lv_has ls nL l) (hs : ∀ q ∈ l', q ∈ l) : lv_has ls nL l' := ⟨h.1, h.2.1, fun q hq => h.2.2 q (hs q hq)⟩
theorem lpick_mem {ks : List Nat} {q : Nat × Value} (h : q ∈ lpick lv ks) : q ∈ lv := by
  obtain ⟨i, -, hi⟩ := List.mem_filterMap.mp h
  cases hg : lget lv i with
  | none => rw [hg] at hi; cases hi
  | some v =>
    rw [hg] at hi
    cases hi
    exact lget_mem hg
theorem j_pick (ks : List Nat) (kk : J g R E nL pc (lpick lv ks) st bl k n) : J g R E nL pc lv st bl k n :=
  fun H locs ls hP hS hl => kk H locs ls hP hS (hl.weak fun _ h => lpick_mem h)
theorem j_widen {k' n' : Nat} (h1 : k ≤ k') (h2 : n ≤ n') (kk : J g R E nL pc lv st bl k' n') : J g R E nL pc lv st bl k n :=
  fun H locs ls hP hS hl => W.widen h1 h2 (kk H locs ls hP hS hl)
theorem lget_at {ls : Array Slot} {i : Nat} {v : Value} (h : lv_has ls nL lv) (hg : lget lv i = some v) : ls[i]? = some (.val v) := h.2.2 (i, v) (lget_mem hg)
theorem j_iload_n (hC : jC g R E cc own nL) {q : Fin 4} {i : Nat} {x : Int32} (hd : decode cc pc = .ok (.iload_n q, 1)) (hi : (q : Nat) = i) (hg : lget lv i = some (.int x)) (kk : J g R E nL (pc + 1) lv (.int x :: st) bl k n) : J g R E nL pc lv st bl k n :=
  fun H locs ls hP hS hl => lv_iload_n hC.1 hC.2.1 hd hi (lget_at hl hg) (kk H locs ls hP hS hl)
theorem j_iload (hC : jC g R E cc own nL) {i : Nat} {x : Int32} (hd : decode cc pc = .ok (.iload i, 2)) (hg : lget lv i = some (.int x)) (kk : J g R E nL (pc + 2) lv (.int x :: st) bl k n) : J g R E nL pc lv st bl k n :=
  fun H locs ls hP hS hl => lv_iload hC.1 hC.2.1 hd (lget_at hl hg) (kk H locs ls hP hS hl)
theorem j_lload_n (hC : jC g R E cc own nL) {q : Fin 4} {i : Nat} {x : Int64} (hd : decode cc pc = .ok (.lload_n q, 1)) (hi : (q : Nat) = i) (hg : lget lv i = some (.long x)) (kk : J g R E nL (pc + 1) lv (.long x :: st) bl k n) : J g R E nL pc lv st bl k n :=
  fun H locs ls hP hS hl => lv_lload_n hC.1 hC.2.1 hd hi (lget_at hl hg) (kk H locs ls hP hS hl)
theorem j_aload_n (hC : jC g R E cc own nL) {q : Fin 4} {i x : Nat} (hd : decode cc pc = .ok (.aload_n q, 1)) (hi : (q : Nat) = i) (hg : lget lv i = some (.ref x)) (kk : J g R E nL (pc + 1) lv (.ref x :: st) bl k n) : J g R E nL pc lv st bl k n :=
  fun H locs ls hP hS hl => lv_aload_n hC.1 hC.2.1 hd hi (lget_at hl hg) (kk H locs ls hP hS hl)
theorem j_aload (hC : jC g R E cc own nL) {i x : Nat} (hd : decode cc pc = .ok (.aload i, 2)) (hg : lget lv i = some (.ref x)) (kk : J g R E nL (pc + 2) lv (.ref x :: st) bl k n) : J g R E nL pc lv st bl k n :=
  fun H locs ls hP hS hl => lv_aload hC.1 hC.2.1 hd (lget_at hl hg) (kk H locs ls hP hS hl)
theorem j_aload_nN (hC : jC g R E cc own nL) {q : Fin 4} {i : Nat} (hd : decode cc pc = .ok (.aload_n q, 1)) (hi : (q : Nat) = i) (hg : lget lv i = some .null) (kk : J g R E nL (pc + 1) lv (.null :: st) bl k n) : J g R E nL pc lv st bl k n :=
  fun H locs ls hP hS hl => lv_aload_nN hC.1 hC.2.1 hd hi (lget_at hl hg) (kk H locs ls hP hS hl)
theorem j_aloadN (hC : jC g R E cc own nL) {i : Nat} (hd : decode cc pc = .ok (.aload i, 2)) (hg : lget lv i = some .null) (kk : J g R E nL (pc + 2) lv (.null :: st) bl k n) : J g R E nL pc lv st bl k n :=
  fun H locs ls hP hS hl => lv_aloadN hC.1 hC.2.1 hd (lget_at hl hg) (kk H locs ls hP hS hl)
theorem lset_has {ls : Array Slot} {i : Nat} {v : Value} {lv' : List (Nat × Value)} (ho : lord lv = true) (hf : lfree lv i = true) (hl : (i, v) :: lv.filter (fun q => !(q.1 == i) && !(q.1 + 1 == i && q.2.category == 2)) = lv') (h : lv_has ls nL lv') : lv_has ls nL (lset lv i v) := by
  refine h.weak fun q hq => ?_
  subst hl
  rcases lset_ne ho hq with rfl | ⟨h1, h2⟩
  · exact List.mem_cons_self
  · refine List.mem_cons_of_mem _ (List.mem_filter.mpr ⟨h1, ?_⟩)
    have h3 := lfree_mem hf q h1
    simp only [Bool.and_eq_true, Bool.not_eq_true', beq_eq_false_iff_ne, ne_eq, Bool.and_eq_false_iff]
    refine ⟨h2, ?_⟩
    by_cases h4 : q.1 + 1 = i
    · exact Or.inr (h3 h4)
    · exact Or.inl h4
theorem j_istore_n (hC : jC g R E cc own nL) {q : Fin 4} {i : Nat} {x : Int32} (hd : decode cc pc = .ok (.istore_n q, 1)) (hi : (q : Nat) = i) (hn : Nat.blt i nL = true) (ho : lord lv = true) (hf : lfree lv i = true) (kk : ∀ y : Int32, y = x → J g R E nL (pc + 1) (lset lv i (.int y)) st bl k n) : J g R E nL pc lv (.int x :: st) bl k n :=
  fun H locs ls hP hS hl => lv_istore_n hC.1 hC.2.1 hd hi hl (Nat.le_of_ble_eq_true hn) rfl (fun ls' hl' => kk x rfl H locs ls' hP hS (lset_has ho hf rfl hl'))
theorem j_istore (hC : jC g R E cc own nL) {i : Nat} {x : Int32} (hd : decode cc pc = .ok (.istore i, 2)) (hn : Nat.blt i nL = true) (ho : lord lv = true) (hf : lfree lv i = true) (kk : ∀ y : Int32, y = x → J g R E nL (pc + 2) (lset lv i (.int y)) st bl k n) : J g R E nL pc lv (.int x :: st) bl k n :=
  fun H locs ls hP hS hl => lv_istore hC.1 hC.2.1 hd hl (Nat.le_of_ble_eq_true hn) rfl (fun ls' hl' => kk x rfl H locs ls' hP hS (lset_has ho hf rfl hl'))
theorem j_astore_n (hC : jC g R E cc own nL) {q : Fin 4} {i x : Nat} (hd : decode cc pc = .ok (.astore_n q, 1)) (hi : (q : Nat) = i) (hn : Nat.blt i nL = true) (ho : lord lv = true) (hf : lfree lv i = true) (kk : J g R E nL (pc + 1) (lset lv i (.ref x)) st bl k n) : J g R E nL pc lv (.ref x :: st) bl k n :=
  fun H locs ls hP hS hl => lv_astore_n hC.1 hC.2.1 hd hi hl (Nat.le_of_ble_eq_true hn) rfl (fun ls' hl' => kk H locs ls' hP hS (lset_has ho hf rfl hl'))
theorem j_astore (hC : jC g R E cc own nL) {i x : Nat} (hd : decode cc pc = .ok (.astore i, 2)) (hn : Nat.blt i nL = true) (ho : lord lv = true) (hf : lfree lv i = true) (kk : J g R E nL (pc + 2) (lset lv i (.ref x)) st bl k n) : J g R E nL pc lv (.ref x :: st) bl k n :=
  fun H locs ls hP hS hl => lv_astore hC.1 hC.2.1 hd hl (Nat.le_of_ble_eq_true hn) rfl (fun ls' hl' => kk H locs ls' hP hS (lset_has ho hf rfl hl'))
theorem j_astore_nN (hC : jC g R E cc own nL) {q : Fin 4} {i : Nat} (hd : decode cc pc = .ok (.astore_n q, 1)) (hi : (q : Nat) = i) (hn : Nat.blt i nL = true) (ho : lord lv = true) (hf : lfree lv i = true) (kk : J g R E nL (pc + 1) (lset lv i .null) st bl k n) : J g R E nL pc lv (.null :: st) bl k n :=
  fun H locs ls hP hS hl => lv_astore_nN hC.1 hC.2.1 hd hi hl (Nat.le_of_ble_eq_true hn) rfl (fun ls' hl' => kk H locs ls' hP hS (lset_has ho hf rfl hl'))
theorem j_astoreN (hC : jC g R E cc own nL) {i : Nat} (hd : decode cc pc = .ok (.astore i, 2)) (hn : Nat.blt i nL = true) (ho : lord lv = true) (hf : lfree lv i = true) (kk : J g R E nL (pc + 2) (lset lv i .null) st bl k n) : J g R E nL pc lv (.null :: st) bl k n :=
  fun H locs ls hP hS hl => lv_astoreN hC.1 hC.2.1 hd hl (Nat.le_of_ble_eq_true hn) rfl (fun ls' hl' => kk H locs ls' hP hS (lset_has ho hf rfl hl'))
/-- the place above a long is given up -/
def ldel (lv : List (Nat × Value)) (i : Nat) : List (Nat × Value) := lv.filter (fun q => !(Nat.beq q.1 i))
theorem j_lstore_n (hC : jC g R E cc own nL) {q : Fin 4} {i : Nat} {x : Int64} (hd : decode cc pc = .ok (.lstore_n q, 1)) (hi : (q : Nat) = i) (hn : Nat.blt (i + 1) nL = true) (ho : lord lv = true) (hf : lfree lv i = true) (hl2 : lget lv (i + 1) = none) (kk : ∀ y : Int64, y = x → J g R E nL (pc + 1) (lset lv i (.long y)) st bl k n) : J g R E nL pc lv (.long x :: st) bl k n := by
  intro H locs ls hP hS hl
  refine lv_lstore_n hC.1 hC.2.1 hd hi hl (Nat.le_of_ble_eq_true hn) rfl (fun ls' hl' => kk x rfl H locs ls' hP hS (hl'.weak fun q hq => ?_))
  rcases lset_ne ho hq with rfl | ⟨h1, h2⟩
  · exact List.mem_cons_self
  · refine List.mem_cons_of_mem _ (List.mem_filter.mpr ⟨h1, ?_⟩)
    have h3 := lfree_mem hf q h1
    have h5 : q.1 ≠ i + 1 := by
      intro e
      have : ∀ {l : List (Nat × Value)}, lget l (i + 1) = none → ∀ r ∈ l, r.1 ≠ i + 1 := by
        intro l
        induction l with
        | nil => intro _ r hr; cases hr
        | cons a t ih =>
          obtain ⟨j, w⟩ := a
          intro hg r hr
          unfold lget at hg
          cases hj : Nat.beq j (i + 1) with
          | true => rw [hj] at hg; cases hg
          | false =>
            rw [hj] at hg
            rcases List.mem_cons.mp hr with rfl | hr
            · intro e2
              have e3 : j = i + 1 := e2
              rw [e3, Nat.beq_refl] at hj
              cases hj
            · exact ih hg r hr
      exact this hl2 q h1 e
    simp only [Bool.and_eq_true, Bool.not_eq_true', beq_eq_false_iff_ne, ne_eq, Bool.and_eq_false_iff]
    refine ⟨h2, h5, ?_⟩
    by_cases h4 : q.1 + 1 = i
    · exact Or.inr (h3 h4)
    · exact Or.inl h4
theorem lget_pos {i : Nat} {v : Value} (h : lget lv i = some v) : ∃ q : Nat, lv[q]? = some (i, v) := List.getElem?_of_mem (lget_mem h)
theorem j_iinc (hC : jC g R E cc own nL) {i : Nat} {z : Int} {x : Int32} (v : Int32) (hd : decode cc pc = .ok (.iinc i z, 3)) (hg : lget lv i = some (.int x)) (hz : Int32.ofInt z = v) (hn : Nat.blt i nL = true) (ho : lord lv = true) (hf : lfree lv i = true) (kk : ∀ y : Int32, y = x + v → J g R E nL (pc + 3) (lset lv i (.int y)) st bl k n) : J g R E nL pc lv st bl k n := by
  intro H locs ls hP hS hl
  obtain ⟨q, hq⟩ := lget_pos hg
  exact lv_iinc hC.1 hC.2.1 hd hl hq (by rw [hz]) (Nat.le_of_ble_eq_true hn) rfl (fun ls' hl' => kk _ rfl H locs ls' hP hS (lset_has ho hf rfl hl'))
theorem j_iadd (hC : jC g R E cc own nL) {x y : Int32} (hd : decode cc pc = .ok (.iadd, 1)) (kk : J g R E nL (pc + 1) lv (.int (x + y) :: st) bl k n) : J g R E nL pc lv (.int y :: .int x :: st) bl k n :=
  fun H locs ls hP hS hl => lv_iadd hC.1 hC.2.1 hd (kk H locs ls hP hS hl)
theorem j_isub (hC : jC g R E cc own nL) {x y : Int32} (hd : decode cc pc = .ok (.isub, 1)) (kk : J g R E nL (pc + 1) lv (.int (x - y) :: st) bl k n) : J g R E nL pc lv (.int y :: .int x :: st) bl k n :=
  fun H locs ls hP hS hl => lv_isub hC.1 hC.2.1 hd (kk H locs ls hP hS hl)
theorem j_imul (hC : jC g R E cc own nL) {x y : Int32} (hd : decode cc pc = .ok (.imul, 1)) (kk : J g R E nL (pc + 1) lv (.int (x * y) :: st) bl k n) : J g R E nL pc lv (.int y :: .int x :: st) bl k n :=
  fun H locs ls hP hS hl => lv_imul hC.1 hC.2.1 hd (kk H locs ls hP hS hl)
theorem j_iand (hC : jC g R E cc own nL) {x y : Int32} (hd : decode cc pc = .ok (.iand, 1)) (kk : J g R E nL (pc + 1) lv (.int (x &&& y) :: st) bl k n) : J g R E nL pc lv (.int y :: .int x :: st) bl k n :=
  fun H locs ls hP hS hl => lv_iand hC.1 hC.2.1 hd (kk H locs ls hP hS hl)
theorem j_ior (hC : jC g R E cc own nL) {x y : Int32} (hd : decode cc pc = .ok (.ior, 1)) (kk : J g R E nL (pc + 1) lv (.int (x ||| y) :: st) bl k n) : J g R E nL pc lv (.int y :: .int x :: st) bl k n :=
  fun H locs ls hP hS hl => lv_ior hC.1 hC.2.1 hd (kk H locs ls hP hS hl)
theorem j_ixor (hC : jC g R E cc own nL) {x y : Int32} (hd : decode cc pc = .ok (.ixor, 1)) (kk : J g R E nL (pc + 1) lv (.int (x ^^^ y) :: st) bl k n) : J g R E nL pc lv (.int y :: .int x :: st) bl k n :=
  fun H locs ls hP hS hl => lv_ixor hC.1 hC.2.1 hd (kk H locs ls hP hS hl)
theorem j_idiv (hC : jC g R E cc own nL) {x y : Int32} (hd : decode cc pc = .ok (.idiv, 1)) (hne : ¬ y = 0) (kk : J g R E nL (pc + 1) lv (.int (x / y) :: st) bl k n) : J g R E nL pc lv (.int y :: .int x :: st) bl k n :=
  fun H locs ls hP hS hl => lv_idiv hC.1 hC.2.1 hd hne (kk H locs ls hP hS hl)
theorem j_irem (hC : jC g R E cc own nL) {x y : Int32} (hd : decode cc pc = .ok (.irem, 1)) (hne : ¬ y = 0) (kk : J g R E nL (pc + 1) lv (.int (x - x / y * y) :: st) bl k n) : J g R E nL pc lv (.int y :: .int x :: st) bl k n :=
  fun H locs ls hP hS hl => lv_irem hC.1 hC.2.1 hd hne (kk H locs ls hP hS hl)
theorem j_ishl (hC : jC g R E cc own nL) {x y : Int32} (hd : decode cc pc = .ok (.ishl, 1)) (kk : J g R E nL (pc + 1) lv (.int (x <<< (y &&& 31)) :: st) bl k n) : J g R E nL pc lv (.int y :: .int x :: st) bl k n :=
  fun H locs ls hP hS hl => lv_ishl hC.1 hC.2.1 hd (kk H locs ls hP hS hl)
theorem j_ishr (hC : jC g R E cc own nL) {x y : Int32} (hd : decode cc pc = .ok (.ishr, 1)) (kk : J g R E nL (pc + 1) lv (.int (x >>> (y &&& 31)) :: st) bl k n) : J g R E nL pc lv (.int y :: .int x :: st) bl k n :=
  fun H locs ls hP hS hl => lv_ishr hC.1 hC.2.1 hd (kk H locs ls hP hS hl)
theorem j_ineg (hC : jC g R E cc own nL) {x : Int32} (hd : decode cc pc = .ok (.ineg, 1)) (kk : J g R E nL (pc + 1) lv (.int (-x) :: st) bl k n) : J g R E nL pc lv (.int x :: st) bl k n :=
  fun H locs ls hP hS hl => lv_ineg hC.1 hC.2.1 hd (kk H locs ls hP hS hl)
theorem j_ladd (hC : jC g R E cc own nL) {x y : Int64} (hd : decode cc pc = .ok (.ladd, 1)) (kk : J g R E nL (pc + 1) lv (.long (x + y) :: st) bl k n) : J g R E nL pc lv (.long y :: .long x :: st) bl k n :=
  fun H locs ls hP hS hl => lv_ladd hC.1 hC.2.1 hd (kk H locs ls hP hS hl)
theorem j_lmul (hC : jC g R E cc own nL) {x y : Int64} (hd : decode cc pc = .ok (.lmul, 1)) (kk : J g R E nL (pc + 1) lv (.long (x * y) :: st) bl k n) : J g R E nL pc lv (.long y :: .long x :: st) bl k n :=
  fun H locs ls hP hS hl => lv_lmul hC.1 hC.2.1 hd (kk H locs ls hP hS hl)
theorem j_i2l (hC : jC g R E cc own nL) {x : Int32} (hd : decode cc pc = .ok (.i2l, 1)) (kk : J g R E nL (pc + 1) lv (.long x.toInt64 :: st) bl k n) : J g R E nL pc lv (.int x :: st) bl k n :=
  fun H locs ls hP hS hl => lv_i2l hC.1 hC.2.1 hd rfl (kk H locs ls hP hS hl)
theorem j_i2b (hC : jC g R E cc own nL) {x : Int32} (hd : decode cc pc = .ok (.i2b, 1)) (kk : J g R E nL (pc + 1) lv (.int x.toInt8.toInt32 :: st) bl k n) : J g R E nL pc lv (.int x :: st) bl k n :=
  fun H locs ls hP hS hl => lv_i2b hC.1 hC.2.1 hd rfl (kk H locs ls hP hS hl)
theorem j_dup (hC : jC g R E cc own nL) {v : Value} (hd : decode cc pc = .ok (.dup, 1)) (hv : v.category = 1) (kk : J g R E nL (pc + 1) lv (v :: v :: st) bl k n) : J g R E nL pc lv (v :: st) bl k n :=
  fun H locs ls hP hS hl => lv_dup hC.1 hC.2.1 hd hv (kk H locs ls hP hS hl)
theorem j_dup2 (hC : jC g R E cc own nL) {v w : Value} (hd : decode cc pc = .ok (.dup2, 1)) (hv : v.category = 1) (hw : w.category = 1) (kk : J g R E nL (pc + 1) lv (v :: w :: v :: w :: st) bl k n) : J g R E nL pc lv (v :: w :: st) bl k n :=
  fun H locs ls hP hS hl => lv_dup2_11 hC.1 hC.2.1 hd hv hw (kk H locs ls hP hS hl)
theorem j_pop (hC : jC g R E cc own nL) {v : Value} (hd : decode cc pc = .ok (.pop, 1)) (hv : v.category = 1) (kk : J g R E nL (pc + 1) lv (st) bl k n) : J g R E nL pc lv (v :: st) bl k n :=
  fun H locs ls hP hS hl => lv_pop hC.1 hC.2.1 hd hv (kk H locs ls hP hS hl)
theorem j_iconst (hC : jC g R E cc own nL) {z : Int} (v : Int32) (hd : decode cc pc = .ok (.iconst z, 1)) (hv : Int32.ofInt z = v) (kk : J g R E nL (pc + 1) lv (.int v :: st) bl k n) : J g R E nL pc lv (st) bl k n :=
  fun H locs ls hP hS hl => lv_iconst hC.1 hC.2.1 hd hv (kk H locs ls hP hS hl)
theorem j_bipush (hC : jC g R E cc own nL) {z : Int} (v : Int32) (hd : decode cc pc = .ok (.bipush z, 2)) (hv : (Int8.ofInt z).toInt32 = v) (kk : J g R E nL (pc + 2) lv (.int v :: st) bl k n) : J g R E nL pc lv (st) bl k n :=
  fun H locs ls hP hS hl => lv_bipush hC.1 hC.2.1 hd hv (kk H locs ls hP hS hl)
theorem j_sipush (hC : jC g R E cc own nL) {z : Int} (v : Int32) (hd : decode cc pc = .ok (.sipush z, 3)) (hv : (Int16.ofInt z).toInt32 = v) (kk : J g R E nL (pc + 3) lv (.int v :: st) bl k n) : J g R E nL pc lv (st) bl k n :=
  fun H locs ls hP hS hl => lv_sipush hC.1 hC.2.1 hd hv (kk H locs ls hP hS hl)
theorem j_null (hC : jC g R E cc own nL) (hd : decode cc pc = .ok (.aconst_null, 1)) (kk : J g R E nL (pc + 1) lv (.null :: st) bl k n) : J g R E nL pc lv (st) bl k n :=
  fun H locs ls hP hS hl => lv_null hC.1 hC.2.1 hd (kk H locs ls hP hS hl)
theorem j_ldc (hC : jC g R E cc own nL) {index : Nat} (v : Int32) (hw : Cond.constant own index v ∈ jT) (hd : decode cc pc = .ok (.ldc index, 2)) (kk : J g R E nL (pc + 2) lv (.int v :: st) bl k n) : J g R E nL pc lv (st) bl k n :=
  fun H locs ls hP hS hl => lv_ldc hC.1 hC.2.1 hC.2.2.2.1 (hC.2.2.2.2.1 _ hw) hd (kk H locs ls hP hS hl)
theorem j_ldc2 (hC : jC g R E cc own nL) {index : Nat} (v : Int64) (hw : Cond.constantLong own index v ∈ jT) (hd : decode cc pc = .ok (.ldc2_w index, 3)) (kk : J g R E nL (pc + 3) lv (.long v :: st) bl k n) : J g R E nL pc lv (st) bl k n :=
  fun H locs ls hP hS hl => lv_ldc2 hC.1 hC.2.1 hC.2.2.2.1 (hC.2.2.2.2.1 _ hw) hd (kk H locs ls hP hS hl)
theorem j_if_eq (hC : jC g R E cc own nL) {x : Int32} {off : Int} {tgt : Nat} (hd : decode cc pc = .ok (.ifCond .eq off, 3)) (ht : (pc : Int) + off = (tgt : Int)) (kt : (x = 0) → J g R E nL tgt lv st bl k n) (kf : ¬ (x = 0) → J g R E nL (pc + 3) lv st bl k n) : J g R E nL pc lv (.int x :: st) bl k n :=
  fun H locs ls hP hS hl => lv_if_eq hC.1 hC.2.1 hd ht (fun q => kt q H locs ls hP hS hl) (fun q => kf q H locs ls hP hS hl)
theorem j_icmp_eq (hC : jC g R E cc own nL) {x y : Int32} {off : Int} {tgt : Nat} (hd : decode cc pc = .ok (.if_icmp .eq off, 3)) (ht : (pc : Int) + off = (tgt : Int)) (kt : (x = y) → J g R E nL tgt lv st bl k n) (kf : ¬ (x = y) → J g R E nL (pc + 3) lv st bl k n) : J g R E nL pc lv (.int y :: .int x :: st) bl k n :=
  fun H locs ls hP hS hl => lv_icmp_eq hC.1 hC.2.1 hd ht (fun q => kt q H locs ls hP hS hl) (fun q => kf q H locs ls hP hS hl)
theorem j_if_ne (hC : jC g R E cc own nL) {x : Int32} {off : Int} {tgt : Nat} (hd : decode cc pc = .ok (.ifCond .ne off, 3)) (ht : (pc : Int) + off = (tgt : Int)) (kt : (¬ x = 0) → J g R E nL tgt lv st bl k n) (kf : x = 0 → J g R E nL (pc + 3) lv st bl k n) : J g R E nL pc lv (.int x :: st) bl k n :=
  fun H locs ls hP hS hl => lv_if_ne hC.1 hC.2.1 hd ht (fun q => kt q H locs ls hP hS hl) (fun q => kf q H locs ls hP hS hl)
theorem j_icmp_ne (hC : jC g R E cc own nL) {x y : Int32} {off : Int} {tgt : Nat} (hd : decode cc pc = .ok (.if_icmp .ne off, 3)) (ht : (pc : Int) + off = (tgt : Int)) (kt : (¬ x = y) → J g R E nL tgt lv st bl k n) (kf : x = y → J g R E nL (pc + 3) lv st bl k n) : J g R E nL pc lv (.int y :: .int x :: st) bl k n :=
  fun H locs ls hP hS hl => lv_icmp_ne hC.1 hC.2.1 hd ht (fun q => kt q H locs ls hP hS hl) (fun q => kf q H locs ls hP hS hl)
theorem j_if_lt (hC : jC g R E cc own nL) {x : Int32} {off : Int} {tgt : Nat} (hd : decode cc pc = .ok (.ifCond .lt off, 3)) (ht : (pc : Int) + off = (tgt : Int)) (kt : (x < 0) → J g R E nL tgt lv st bl k n) (kf : ¬ (x < 0) → J g R E nL (pc + 3) lv st bl k n) : J g R E nL pc lv (.int x :: st) bl k n :=
  fun H locs ls hP hS hl => lv_if_lt hC.1 hC.2.1 hd ht (fun q => kt q H locs ls hP hS hl) (fun q => kf q H locs ls hP hS hl)
theorem j_icmp_lt (hC : jC g R E cc own nL) {x y : Int32} {off : Int} {tgt : Nat} (hd : decode cc pc = .ok (.if_icmp .lt off, 3)) (ht : (pc : Int) + off = (tgt : Int)) (kt : (x < y) → J g R E nL tgt lv st bl k n) (kf : ¬ (x < y) → J g R E nL (pc + 3) lv st bl k n) : J g R E nL pc lv (.int y :: .int x :: st) bl k n :=
  fun H locs ls hP hS hl => lv_icmp_lt hC.1 hC.2.1 hd ht (fun q => kt q H locs ls hP hS hl) (fun q => kf q H locs ls hP hS hl)
theorem j_if_ge (hC : jC g R E cc own nL) {x : Int32} {off : Int} {tgt : Nat} (hd : decode cc pc = .ok (.ifCond .ge off, 3)) (ht : (pc : Int) + off = (tgt : Int)) (kt : (0 ≤ x) → J g R E nL tgt lv st bl k n) (kf : ¬ (0 ≤ x) → J g R E nL (pc + 3) lv st bl k n) : J g R E nL pc lv (.int x :: st) bl k n :=
  fun H locs ls hP hS hl => lv_if_ge hC.1 hC.2.1 hd ht (fun q => kt q H locs ls hP hS hl) (fun q => kf q H locs ls hP hS hl)
theorem j_icmp_ge (hC : jC g R E cc own nL) {x y : Int32} {off : Int} {tgt : Nat} (hd : decode cc pc = .ok (.if_icmp .ge off, 3)) (ht : (pc : Int) + off = (tgt : Int)) (kt : (y ≤ x) → J g R E nL tgt lv st bl k n) (kf : ¬ (y ≤ x) → J g R E nL (pc + 3) lv st bl k n) : J g R E nL pc lv (.int y :: .int x :: st) bl k n :=
  fun H locs ls hP hS hl => lv_icmp_ge hC.1 hC.2.1 hd ht (fun q => kt q H locs ls hP hS hl) (fun q => kf q H locs ls hP hS hl)
theorem j_if_gt (hC : jC g R E cc own nL) {x : Int32} {off : Int} {tgt : Nat} (hd : decode cc pc = .ok (.ifCond .gt off, 3)) (ht : (pc : Int) + off = (tgt : Int)) (kt : (0 < x) → J g R E nL tgt lv st bl k n) (kf : ¬ (0 < x) → J g R E nL (pc + 3) lv st bl k n) : J g R E nL pc lv (.int x :: st) bl k n :=
  fun H locs ls hP hS hl => lv_if_gt hC.1 hC.2.1 hd ht (fun q => kt q H locs ls hP hS hl) (fun q => kf q H locs ls hP hS hl)
theorem j_icmp_gt (hC : jC g R E cc own nL) {x y : Int32} {off : Int} {tgt : Nat} (hd : decode cc pc = .ok (.if_icmp .gt off, 3)) (ht : (pc : Int) + off = (tgt : Int)) (kt : (y < x) → J g R E nL tgt lv st bl k n) (kf : ¬ (y < x) → J g R E nL (pc + 3) lv st bl k n) : J g R E nL pc lv (.int y :: .int x :: st) bl k n :=
  fun H locs ls hP hS hl => lv_icmp_gt hC.1 hC.2.1 hd ht (fun q => kt q H locs ls hP hS hl) (fun q => kf q H locs ls hP hS hl)
theorem j_if_le (hC : jC g R E cc own nL) {x : Int32} {off : Int} {tgt : Nat} (hd : decode cc pc = .ok (.ifCond .le off, 3)) (ht : (pc : Int) + off = (tgt : Int)) (kt : (x ≤ 0) → J g R E nL tgt lv st bl k n) (kf : ¬ (x ≤ 0) → J g R E nL (pc + 3) lv st bl k n) : J g R E nL pc lv (.int x :: st) bl k n :=
  fun H locs ls hP hS hl => lv_if_le hC.1 hC.2.1 hd ht (fun q => kt q H locs ls hP hS hl) (fun q => kf q H locs ls hP hS hl)
theorem j_icmp_le (hC : jC g R E cc own nL) {x y : Int32} {off : Int} {tgt : Nat} (hd : decode cc pc = .ok (.if_icmp .le off, 3)) (ht : (pc : Int) + off = (tgt : Int)) (kt : (x ≤ y) → J g R E nL tgt lv st bl k n) (kf : ¬ (x ≤ y) → J g R E nL (pc + 3) lv st bl k n) : J g R E nL pc lv (.int y :: .int x :: st) bl k n :=
  fun H locs ls hP hS hl => lv_icmp_le hC.1 hC.2.1 hd ht (fun q => kt q H locs ls hP hS hl) (fun q => kf q H locs ls hP hS hl)
theorem j_goto (hC : jC g R E cc own nL) {off : Int} {tgt : Nat} (hd : decode cc pc = .ok (.goto off, 3)) (ht : (pc : Int) + off = (tgt : Int)) (kk : J g R E nL tgt lv st bl k n) : J g R E nL pc lv st bl k n :=
  fun H locs ls hP hS hl => lv_goto hC.1 hC.2.1 hd ht (kk H locs ls hP hS hl)
theorem j_ifnull (hC : jC g R E cc own nL) {x : Nat} {off : Int} (hd : decode cc pc = .ok (.ifnull off, 3)) (kk : J g R E nL (pc + 3) lv st bl k n) : J g R E nL pc lv (.ref x :: st) bl k n :=
  fun H locs ls hP hS hl => lv_ifnull hC.1 hC.2.1 hd (kk H locs ls hP hS hl)
theorem j_ifnullN (hC : jC g R E cc own nL) {off : Int} {tgt : Nat} (hd : decode cc pc = .ok (.ifnull off, 3)) (ht : (pc : Int) + off = (tgt : Int)) (kk : J g R E nL tgt lv st bl k n) : J g R E nL pc lv (.null :: st) bl k n :=
  fun H locs ls hP hS hl => lv_ifnullN hC.1 hC.2.1 hd ht (kk H locs ls hP hS hl)
theorem j_ifnonnull (hC : jC g R E cc own nL) {x : Nat} {off : Int} {tgt : Nat} (hd : decode cc pc = .ok (.ifnonnull off, 3)) (ht : (pc : Int) + off = (tgt : Int)) (kk : J g R E nL tgt lv st bl k n) : J g R E nL pc lv (.ref x :: st) bl k n :=
  fun H locs ls hP hS hl => lv_ifnonnull hC.1 hC.2.1 hd ht (kk H locs ls hP hS hl)
theorem j_ifnonnullN (hC : jC g R E cc own nL) {off : Int} (hd : decode cc pc = .ok (.ifnonnull off, 3)) (kk : J g R E nL (pc + 3) lv st bl k n) : J g R E nL pc lv (.null :: st) bl k n :=
  fun H locs ls hP hS hl => lv_ifnonnullN hC.1 hC.2.1 hd (kk H locs ls hP hS hl)
theorem j_tableOut (hC : jC g R E cc own nL) {dflt lo hi : Int} {offs : Array Int} {len : Nat} {x : Int32} {tgt : Nat} (hd : decode cc pc = .ok (.tableswitch dflt lo hi offs, len)) (h : x.toInt < lo ∨ hi < x.toInt) (ht : (pc : Int) + dflt = (tgt : Int)) (kk : J g R E nL tgt lv st bl k n) : J g R E nL pc lv (.int x :: st) bl k n :=
  fun H locs ls hP hS hl => lv_tableOut hC.1 hC.2.1 hd h ht (kk H locs ls hP hS hl)
theorem j_tableIn (hC : jC g R E cc own nL) {dflt lo hi : Int} {offs : Array Int} {len : Nat} {x : Int32} {off : Int} {tgt : Nat} (hd : decode cc pc = .ok (.tableswitch dflt lo hi offs, len)) (h1 : ¬ x.toInt < lo) (h2 : ¬ hi < x.toInt) (ho : offs[(x.toInt - lo).toNat]? = some off) (ht : (pc : Int) + off = (tgt : Int)) (kk : J g R E nL tgt lv st bl k n) : J g R E nL pc lv (.int x :: st) bl k n :=
  fun H locs ls hP hS hl => lv_tableIn hC.1 hC.2.1 hd h1 h2 ho ht (kk H locs ls hP hS hl)
theorem j_lookup (hC : jC g R E cc own nL) {dflt : Int} {ps : Array (Int × Int)} {len : Nat} {x : Int32} {off : Int} {tgt : Nat} (hd : decode cc pc = .ok (.lookupswitch dflt ps, len)) (hp : (ps.toList.zip (ps.toList.drop 1)).all (fun (a, next) => a.1 < next.1) = true) (ho : Op.lookupswitch.offset ps.toList dflt x.toInt = off) (ht : (pc : Int) + off = (tgt : Int)) (kk : J g R E nL tgt lv st bl k n) : J g R E nL pc lv (.int x :: st) bl k n :=
  fun H locs ls hP hS hl => lv_lookup hC.1 hC.2.1 hd hp ho ht (kk H locs ls hP hS hl)
theorem j_lcmp (hC : jC g R E cc own nL) {x y : Int64} (hd : decode cc pc = .ok (.lcmp, 1)) (kk : J g R E nL (pc + 1) lv (.int (lg_cmp x y) :: st) bl k n) : J g R E nL pc lv (.long y :: .long x :: st) bl k n :=
  fun H locs ls hP hS hl => W.lcmp hC.1 hC.2.1 hd (kk H locs ls hP hS hl)
/-! heap rows: a cell by its block and its place there -/
theorem jflat {x : Nat × va_E} : ∀ {bl : List va_W} {bi bj : Nat} {b : va_W}, bl[bi]? = some b → b[bj]? = some x → ∃ q0 : Nat, bl.flatten[q0]? = some x ∧ ∀ y, bl.flatten.set q0 y = (bl.set bi (b.set bj y)).flatten
  | [], bi, _, _, h, _ => by simp at h
  | a :: t, 0, bj, b, h, hx => by
    have e : a = b := by simpa using h
    subst e
    have hlt : bj < a.length := by
      rcases Nat.lt_or_ge bj a.length with q | q
      · exact q
      · rw [List.getElem?_eq_none q] at hx; cases hx
    refine ⟨bj, ?_, fun y => ?_⟩
    · rw [List.flatten_cons, List.getElem?_append_left hlt]; exact hx
    · rw [List.flatten_cons, List.set_append_left _ _ hlt]; rfl
  | a :: t, bi + 1, bj, b, h, hx => by
    have h : t[bi]? = some b := by simpa using h
    obtain ⟨q0, h1, h2⟩ := jflat h hx
    refine ⟨a.length + q0, ?_, fun y => ?_⟩
    · rw [List.flatten_cons, List.getElem?_append_right (Nat.le_add_right _ _), Nat.add_sub_cancel_left]; exact h1
    · rw [List.flatten_cons, List.set_append_right _ _ (Nat.le_add_right _ _), Nat.add_sub_cancel_left, h2]
      rfl
def jat (bl : List va_W) (bi bj : Nat) : Option (Nat × va_E) := match bl[bi]? with
  | some b => b[bj]?
  | none => none
theorem jat_flat {bl : List va_W} {bi bj : Nat} {x : Nat × va_E} (h : jat bl bi bj = some x) : ∃ q0 : Nat, bl.flatten[q0]? = some x := by
  unfold jat at h
  cases hb : bl[bi]? with
  | none => rw [hb] at h; cases h
  | some b =>
    rw [hb] at h
    obtain ⟨q0, h1, -⟩ := jflat hb h
    exact ⟨q0, h1⟩
/-- the words of a class's fields, and its place among the classes -/
def jU (ci : Nat) (C : String) (T : u_T) (N : Nat) (ty : Nat → FieldType) : Prop := (∀ w ∈ u_ws C T N, w ∈ jT) ∧ vwCl[ci]? = some (C, T, N) ∧ (∀ k, k < N → parseFieldDescriptor (T k).2.2.1 = some (ty k)) ∧ (∀ a, a < N → ∀ b, b < N → a ≠ b → (T a).2.1 ≠ (T b).2.1)
theorem j_get (hC : jC g R E cc own nL) {ci index a : Nat} {C : String} {T : u_T} {N : Nat} {ty : Nat → FieldType} (hU : jU ci C T N ty) (bi bj kf : Nat) {fs : List Value} {v : Value} (hat : jat bl bi bj = some (a, .inr (ci, fs))) (hk : Nat.blt kf N = true) (hlink : Cond.fieldLink own index (T kf).1 (T kf).2.1 (T kf).2.2.1 ∈ jT) (hv : fs[kf]? = some v) (hd : decode cc pc = .ok (.getfield index, 3))
    (kk : J g R E nL (pc + 3) lv (v :: st) bl k n) : J g R E nL pc lv (.ref a :: st) bl k n := by
  intro H locs ls hP hS hl
  obtain ⟨q0, h0⟩ := jat_flat hat
  exact va_get (D := g.2.1) hC.1 hC.2.1 hC.2.2.2.2.1 hU.1 hC.2.2.2.1 hC.2.2.2.2.2.1.1 hP.1 q0 h0 hU.2.1 kf (Nat.le_of_ble_eq_true hk) (hC.2.2.2.2.1 _ hlink) (fun _ h => h) hv hd (kk H locs ls hP hS hl)
theorem j_put (hC : jC g R E cc own nL) {ci index a : Nat} {C : String} {T : u_T} {N : Nat} {ty : Nat → FieldType} (hU : jU ci C T N ty) {bi bj kf : Nat} {b : va_W} {fs : List Value} {v : Value} (hb : bl[bi]? = some b) (hj : b[bj]? = some (a, .inr (ci, fs))) (hk : kf < N) (hlink : Cond.fieldLink own index (T kf).1 (T kf).2.1 (T kf).2.2.1 ∈ jT) (hfin : (T kf).2.2.2 = false) (hn : narrow (ty kf) v = v) (hfit : fits (ty kf) v = true) (hl0 : kf < fs.length) (hd : decode cc pc = .ok (.putfield index, 3))
    (kk : J g R E nL (pc + 3) lv st (bl.set bi (b.set bj (a, .inr (ci, fs.set kf v)))) k n) : J g R E nL pc lv (v :: .ref a :: st) bl k n := by
  intro H locs ls hP hS hl
  obtain ⟨q0, h0, h1⟩ := jflat hb hj
  refine va_put (D := g.2.1) hC.1 hC.2.1 hC.2.2.2.2.1 hU.1 ty hU.2.2.1 hU.2.2.2 hC.2.2.2.1 hC.2.2.2.2.2.1.1 hP.1 hP.2 hS q0 h0 hU.2.1 kf hk (hC.2.2.2.2.1 _ hlink) (fun _ h => h) hfin (hU.2.2.1 kf hk) hn hfit hl0 hd (fun H1 locs1 hP1 hD1 hS1 => ?_)
  rw [h1] at hP1 hD1
  exact kk H1 locs1 ls ⟨hP1, hD1⟩ hS1 hl
theorem j_putF (hC : jC g R E cc own nL) (hin : (jEh E).name = "<init>") {ci index a : Nat} {C : String} {T : u_T} {N : Nat} {ty : Nat → FieldType} (hU : jU ci C T N ty) {bi bj kf : Nat} {b : va_W} {fs : List Value} {v : Value} (hb : bl[bi]? = some b) (hj : b[bj]? = some (a, .inr (ci, fs))) (hk : kf < N) (hlink : Cond.fieldLink own index (T kf).1 (T kf).2.1 (T kf).2.2.1 ∈ jT) (hfin : (T kf).2.2.2 = true) (hdecl : (T kf).1 = own) (hn : narrow (ty kf) v = v) (hfit : fits (ty kf) v = true) (hl0 : kf < fs.length) (hd : decode cc pc = .ok (.putfield index, 3))
    (kk : J g R E nL (pc + 3) lv st (bl.set bi (b.set bj (a, .inr (ci, fs.set kf v)))) k n) : J g R E nL pc lv (v :: .ref a :: st) bl k n := by
  intro H locs ls hP hS hl
  obtain ⟨q0, h0, h1⟩ := jflat hb hj
  refine va_putF (D := g.2.1) hC.1 hC.2.1 hC.2.2.2.2.1 hU.1 ty hU.2.2.1 hU.2.2.2 hC.2.2.2.1 hC.2.2.2.2.2.1.1 hP.1 hP.2 hS q0 h0 hU.2.1 kf hk (hC.2.2.2.2.1 _ hlink) (fun _ h => h) hfin hin hdecl (hU.2.2.1 kf hk) hn hfit hl0 hd (fun H1 locs1 hP1 hD1 hS1 => ?_)
  rw [h1] at hP1 hD1
  exact kk H1 locs1 ls ⟨hP1, hD1⟩ hS1 hl
theorem j_iald (hC : jC g R E cc own nL) {a N : Nat} {f : Nat → Int32} {i : Int32} (bi bj : Nat) (hat : jat bl bi bj = some (a, .inl (g.2.2 1, N, .inl f))) (hin : vp_in i N) (hd : decode cc pc = .ok (.iaload, 1)) (kk : J g R E nL (pc + 1) lv (.int (f i.toNatClampNeg) :: st) bl k n) : J g R E nL pc lv (.int i :: .ref a :: st) bl k n := by
  intro H locs ls hP hS hl
  obtain ⟨q0, h0⟩ := jat_flat hat
  exact va_iald (D := g.2.1) hC.1 hC.2.1 hC.2.2.2.2.2.1.1 hP.1 q0 1 h0 rfl hin hd (kk H locs ls hP hS hl)
theorem j_bald (hC : jC g R E cc own nL) {a N : Nat} {f : Nat → Int32} {i : Int32} (bi bj : Nat) (hat : jat bl bi bj = some (a, .inl (g.2.2 0, N, .inl f))) (hin : vp_in i N) (hd : decode cc pc = .ok (.baload, 1)) (kk : J g R E nL (pc + 1) lv (.int (f i.toNatClampNeg) :: st) bl k n) : J g R E nL pc lv (.int i :: .ref a :: st) bl k n := by
  intro H locs ls hP hS hl
  obtain ⟨q0, h0⟩ := jat_flat hat
  exact va_bald (D := g.2.1) hC.1 hC.2.1 hC.2.2.2.2.2.1.1 hP.1 q0 0 h0 rfl hin hd (kk H locs ls hP hS hl)
theorem j_zald (hC : jC g R E cc own nL) {a N : Nat} {f : Nat → Int32} {i : Int32} (bi bj : Nat) (hat : jat bl bi bj = some (a, .inl (g.2.2 2, N, .inl f))) (hin : vp_in i N) (hd : decode cc pc = .ok (.baload, 1)) (kk : J g R E nL (pc + 1) lv (.int (f i.toNatClampNeg) :: st) bl k n) : J g R E nL pc lv (.int i :: .ref a :: st) bl k n := by
  intro H locs ls hP hS hl
  obtain ⟨q0, h0⟩ := jat_flat hat
  exact va_zald (D := g.2.1) hC.1 hC.2.1 hC.2.2.2.2.2.1.1 hP.1 q0 2 h0 rfl hin hd (kk H locs ls hP hS hl)
theorem j_aald (hC : jC g R E cc own nL) {a N : Nat} {f : Nat → Option Nat} {i : Int32} (t0 bi bj : Nat) {cA : ClassId} {C : String} (ht : (jTys g)[t0]? = some (cA, .object C)) (hat : jat bl bi bj = some (a, .inl (cA, N, .inr (.inr (.inr (.inr f)))))) (hin : vp_in i N) (hd : decode cc pc = .ok (.aaload, 1)) (kk : J g R E nL (pc + 1) lv (va_rf (f i.toNatClampNeg) :: st) bl k n) : J g R E nL pc lv (.int i :: .ref a :: st) bl k n := by
  intro H locs ls hP hS hl
  obtain ⟨q0, h0⟩ := jat_flat hat
  exact va_aldq (D := g.2.1) hC.1 hC.2.1 hC.2.2.2.2.2.1.1 hP.1 q0 t0 h0 ht hin hd (kk H locs ls hP hS hl)
theorem j_alen (hC : jC g R E cc own nL) {a : Nat} {x : vp_A} {v : Int32} {cA : ClassId} {ty : FieldType} (t0 bi bj : Nat) (ht : (jTys g)[t0]? = some (cA, ty)) (hat : jat bl bi bj = some (a, .inl (cA, x))) (hv : Int32.ofNat x.1 = v) (hd : decode cc pc = .ok (.arraylength, 1)) (kk : J g R E nL (pc + 1) lv (.int v :: st) bl k n) : J g R E nL pc lv (.ref a :: st) bl k n := by
  intro H locs ls hP hS hl
  obtain ⟨q0, h0⟩ := jat_flat hat
  exact va_alen (D := g.2.1) hC.1 hC.2.1 hC.2.2.2.2.2.1.1 hP.1 q0 t0 h0 ht hv hd (kk H locs ls hP hS hl)
theorem j_iast (hC : jC g R E cc own nL) {a N : Nat} {f : Nat → Int32} {i x : Int32} {bi bj : Nat} {b : va_W} (hb : bl[bi]? = some b) (hj : b[bj]? = some (a, .inl (g.2.2 1, N, .inl f))) (hin : vp_in i N) (hd : decode cc pc = .ok (.iastore, 1))
    (kk : J g R E nL (pc + 1) lv st (bl.set bi (b.set bj (a, .inl (g.2.2 1, N, .inl (upd f i.toNatClampNeg x))))) k n) : J g R E nL pc lv (.int x :: .int i :: .ref a :: st) bl k n := by
  intro H locs ls hP hS hl
  obtain ⟨q0, h0, h1⟩ := jflat hb hj
  refine va_iast (D := g.2.1) hC.1 hC.2.1 hC.2.2.2.2.2.1.1 hP.1 hP.2 hS q0 1 h0 rfl hin hd (fun H1 locs1 hP1 hD1 hS1 => ?_)
  rw [h1] at hP1 hD1
  exact kk H1 locs1 ls ⟨hP1, hD1⟩ hS1 hl
theorem j_bast (hC : jC g R E cc own nL) {a N : Nat} {f : Nat → Int32} {i x : Int32} {bi bj : Nat} {b : va_W} (hb : bl[bi]? = some b) (hj : b[bj]? = some (a, .inl (g.2.2 0, N, .inl f))) (hin : vp_in i N) (hd : decode cc pc = .ok (.bastore, 1))
    (kk : J g R E nL (pc + 1) lv st (bl.set bi (b.set bj (a, .inl (g.2.2 0, N, .inl (upd f i.toNatClampNeg (vp_nar .byte x)))))) k n) : J g R E nL pc lv (.int x :: .int i :: .ref a :: st) bl k n := by
  intro H locs ls hP hS hl
  obtain ⟨q0, h0, h1⟩ := jflat hb hj
  refine va_bast (D := g.2.1) hC.1 hC.2.1 hC.2.2.2.2.2.1.1 hP.1 hP.2 hS q0 0 h0 rfl hin hd (fun H1 locs1 hP1 hD1 hS1 => ?_)
  rw [h1] at hP1 hD1
  exact kk H1 locs1 ls ⟨hP1, hD1⟩ hS1 hl
theorem j_zast (hC : jC g R E cc own nL) {a N : Nat} {f : Nat → Int32} {i x : Int32} {bi bj : Nat} {b : va_W} (hb : bl[bi]? = some b) (hj : b[bj]? = some (a, .inl (g.2.2 2, N, .inl f))) (hin : vp_in i N) (hd : decode cc pc = .ok (.bastore, 1))
    (kk : J g R E nL (pc + 1) lv st (bl.set bi (b.set bj (a, .inl (g.2.2 2, N, .inl (upd f i.toNatClampNeg (vp_nar .boolean x)))))) k n) : J g R E nL pc lv (.int x :: .int i :: .ref a :: st) bl k n := by
  intro H locs ls hP hS hl
  obtain ⟨q0, h0, h1⟩ := jflat hb hj
  refine va_zast (D := g.2.1) hC.1 hC.2.1 hC.2.2.2.2.2.1.1 hP.1 hP.2 hS q0 2 h0 rfl hin hd (fun H1 locs1 hP1 hD1 hS1 => ?_)
  rw [h1] at hP1 hD1
  exact kk H1 locs1 ls ⟨hP1, hD1⟩ hS1 hl
theorem j_aast (hC : jC g R E cc own nL) {a v N t0 ci : Nat} {f : Nat → Option Nat} {i : Int32} {bi bj bi2 bj2 : Nat} {b : va_W} {vs : List Value} {cA : ClassId} {r : vw_C} (hb : bl[bi]? = some b) (hj : b[bj]? = some (a, .inl (cA, N, .inr (.inr (.inr (.inr f)))))) (ht : (jTys g)[t0]? = some (cA, .object r.1)) (hv : ∃ q : Nat, bl.flatten[q]? = some ((v, .inr (ci, vs)) : Nat × va_E)) (hc : vwCl[ci]? = some r) (hin : vp_in i N) (hd : decode cc pc = .ok (.aastore, 1))
    (kk : J g R E nL (pc + 1) lv st (bl.set bi (b.set bj (a, .inl (cA, N, .inr (.inr (.inr (.inr (va_up f i.toNatClampNeg (some v))))))))) k n) : J g R E nL pc lv (.ref v :: .int i :: .ref a :: st) bl k n := by
  intro H locs ls hP hS hl
  obtain ⟨q0, h0, h1⟩ := jflat hb hj
  obtain ⟨q1, h2⟩ := hv
  refine va_astq (D := g.2.1) hC.1 hC.2.1 hC.2.2.2.2.2.1.1 hP.1 hP.2 hS q0 t0 q1 ci h0 ht h2 hc hin hd (fun H1 locs1 hP1 hD1 hS1 => ?_)
  rw [h1] at hP1 hD1
  exact kk H1 locs1 ls ⟨hP1, hD1⟩ hS1 hl
/-! making cells: a new block at the end -/
theorem j_new (hC : jC g R E cc own nL) {ci index : Nat} {C : String} {T : u_T} {N : Nat} {ty : Nat → FieldType} (hU : jU ci C T N ty) {fs : List Value} (hfs : ∀ j, j < N → defaultValue (ty j) = vp_V fs j) (hcl : Cond.classLink own index C ∈ jT) (hinst : Cond.instantiable C N ∈ jT) (hini : Cond.initialized C ∈ jT) (hk : k + 1 ≤ R.cells) (hn : n + N ≤ R.slots) (hd : decode cc pc = .ok (.new index, 3))
    (kk : ∀ q : Nat, J g R E nL (pc + 3) lv (.ref q :: st) (bl ++ [[(q, .inr (ci, fs))]]) (k + 1) (n + N)) : J g R E nL pc lv st bl k n := by
  intro H locs ls hP hS hl
  refine va_new (D := g.2.1) hC.1 hC.2.1 hC.2.2.2.2.1 hU.1 ty hU.2.2.1 hC.2.2.2.1 (hC.2.2.2.2.1 _ hcl) (hC.2.2.2.2.1 _ hinst) (hC.2.2.2.2.1 _ hini) hC.2.2.2.2.2.1.1 hP.1 hP.2 hS hC.2.2.2.2.2.2.1 hU.2.1 hfs hk hn hd (fun q H1 hP1 hD1 hS1 => ?_)
  have e : (bl ++ [[(q, Sum.inr (ci, fs))]] : List va_W).flatten = bl.flatten ++ [(q, Sum.inr (ci, fs))] := by simp
  exact kk q H1 locs ls (by rw [e]; exact ⟨hP1, hD1⟩) hS1 hl
theorem jArr {g : jG} {U : State} {cA c2 : ClassId} {ty : FieldType} {i : Nat} {l2 : List (ClassId × FieldType)} (h : va_K g.2.1 vwCl (l2 ++ [(cA, ty)]) U) (h2 : va_K g.2.1 vwCl (jTys g) U) (hi : (jTys g)[i]? = some (c2, ty)) : cA = c2 := by
  have h3 := (h.2 l2.length (cA, ty) (by simp)).2
  have h4 := (h2.2 i (c2, ty) hi).2
  have key : ∀ t : FieldType, va_RA U cA t → U.vm.findClass ("[" ++ t.toString) = some cA := by
    intro t ht
    cases t with
    | object C => obtain ⟨kA, comp, -, -, -, q⟩ := ht; exact q
    | _ => exact ht
  have key2 : ∀ t : FieldType, va_RA U c2 t → U.vm.findClass ("[" ++ t.toString) = some c2 := by
    intro t ht
    cases t with
    | object C => obtain ⟨kA, comp, -, -, -, q⟩ := ht; exact q
    | _ => exact ht
  exact Option.some.inj ((key ty h3).symm.trans (key2 ty h4))
theorem j_newa (hC : jC g R E cc own nL) {atype : ArrayType} {ty : FieldType} {c2 : ClassId} (t0 N : Nat) {v : Int32} (ht : (jTys g)[t0]? = some (c2, ty)) (hty : newarray.typeOf atype = ty) (harr : Cond.arrayClass ty ∈ jT) (ha : ∀ cA : ClassId, vp_cell cA (N, .inl (fun _ => 0)) = arrV cA N (fun _ => defaultValue ty)) (h0 : ¬ v < 0) (hN : v.toNatClampNeg = N) (hby : N * componentBytes ty ≤ 536870912) (hk : k + 1 ≤ R.cells) (hn : n + N ≤ R.slots) (hd : decode cc pc = .ok (.newarray atype, 2))
    (kk : ∀ q : Nat, J g R E nL (pc + 2) lv (.ref q :: st) (bl ++ [[(q, .inl (c2, N, .inl (fun _ => 0)))]]) (k + 1) (n + N)) : J g R E nL pc lv (.int v :: st) bl k n := by
  intro H locs ls hP hS hl
  subst hty
  refine va_newa (D := g.2.1) hC.1 hC.2.1 (hC.2.2.2.2.1 _ harr) rfl hC.2.2.2.2.2.1.1 hP.1 hP.2 hS hC.2.2.2.2.2.2.1 ha h0 hN hby hk hn hd (fun q cA H1 hK1 hP1 hD1 hS1 => ?_)
  have e2 := jArr hK1 hC.2.2.2.2.2.1.1 ht
  subst e2
  have e : (bl ++ [[(q, Sum.inl (cA, N, .inl (fun _ => 0)))]] : List va_W).flatten = bl.flatten ++ [(q, Sum.inl (cA, N, .inl (fun _ => 0)))] := by simp
  exact kk q H1 locs ls (by rw [e]; exact ⟨hP1, hD1⟩) hS1 hl
theorem j_newq (hC : jC g R E cc own nL) {index : Nat} {C : String} {c2 : ClassId} (t0 N : Nat) {v : Int32} (ht : (jTys g)[t0]? = some (c2, .object C)) (hover : va_AO C (jEs E)) (hcl : Cond.classLink own index C ∈ jT) (h0 : ¬ v < 0) (hN : v.toNatClampNeg = N) (hby : N * 4 ≤ 536870912) (hk : k + 1 ≤ R.cells) (hn : n + N ≤ R.slots) (hd : decode cc pc = .ok (.anewarray index, 3))
    (kk : ∀ q : Nat, J g R E nL (pc + 3) lv (.ref q :: st) (bl ++ [[(q, .inl (c2, N, .inr (.inr (.inr (.inr (fun _ => none))))))]]) (k + 1) (n + N)) : J g R E nL pc lv (.int v :: st) bl k n := by
  intro H locs ls hP hS hl
  refine va_newq (D := g.2.1) hC.1 hC.2.1 hC.2.2.2.1 (hC.2.2.2.2.1 _ hcl) hover hC.2.2.2.2.2.1.1 hP.1 hP.2 hS hC.2.2.2.2.2.2.1 h0 hN hby hk hn hd (fun q cA H1 hK1 hP1 hD1 hS1 => ?_)
  have e2 := jArr hK1 hC.2.2.2.2.2.1.1 ht
  subst e2
  have e : (bl ++ [[(q, Sum.inl (cA, N, .inr (.inr (.inr (.inr (fun _ => none))))))]] : List va_W).flatten = bl.flatten ++ [(q, Sum.inl (cA, N, .inr (.inr (.inr (.inr (fun _ => none))))))] := by simp
  exact kk q H1 locs ls (by rw [e]; exact ⟨hP1, hD1⟩) hS1 hl
theorem j_objInit (hC : jC g R E cc own nL) {index a : Nat} (hlink : Cond.methodLink own index Lib.objectInit ∈ jT) (hinst : Cond.instanceMethod Lib.objectInit ∈ jT) (hcode : Cond.code Lib.objectInit ⟨#[0xb1]⟩ 1 none ∈ jT) (hfr : 1 ≤ R.frames) (hlo : (st.map fun v => v.category).sum + 12 ≤ R.locals) (hd : decode cc pc = .ok (.invokespecial index, 3))
    (kk : J g R E nL (pc + 3) lv st bl k n) : J g R E nL pc lv (.ref a :: st) bl k n := by
  intro H locs ls hP hS hl
  refine W.objInit hC.1 hC.2.1 hC.2.2.2.1 (hC.2.2.2.2.1 _ hlink) (hC.2.2.2.2.1 _ hinst) (hC.2.2.2.2.1 _ hcode) rfl (by rw [hC.2.2.1]; exact hl.1) rfl hd hfr (by show 2 * 0 + _ + 12 ≤ _; omega) (W.eq rfl (kk H locs ls hP hS hl))
/-! Math -/
theorem j_max (hC : jC g R E cc own nL) {index : Nat} {x y : Int32} (hlink : Cond.methodLink own index Lib.Math.max.name ∈ jT) (hstat : Cond.static Lib.Math.max.name ∈ jT) (hini : Cond.initialized "java/lang/Math" ∈ jT) (hcode : Cond.code Lib.Math.max.name Lib.Math.max.code 2 (some .int) ∈ jT) (hfr : 1 ≤ R.frames) (hlo : (st.map fun v => v.category).sum + 13 ≤ R.locals) (hk : k ≤ R.cells) (hn : n ≤ R.slots) (hd : decode cc pc = .ok (.invokestatic index, 3))
    (kk : J g R E nL (pc + 3) lv (.int (if x < y then y else x) :: st) bl k n) : J g R E nL pc lv (.int y :: .int x :: st) bl k n :=
  fun H locs ls hP hS hl => va_mmax hC.1 hC.2.1 (by rw [hC.2.2.1]; exact hl.1.symm) hC.2.2.2.1 (hC.2.2.2.2.1 _ hlink) (hC.2.2.2.2.1 _ hstat) (hC.2.2.2.2.1 _ hini) (hC.2.2.2.2.1 _ hcode) hfr hlo hk hn hd (kk H locs ls hP hS hl)
theorem j_min (hC : jC g R E cc own nL) {index : Nat} {x y : Int32} (hlink : Cond.methodLink own index Lib.Math.min.name ∈ jT) (hstat : Cond.static Lib.Math.min.name ∈ jT) (hini : Cond.initialized "java/lang/Math" ∈ jT) (hcode : Cond.code Lib.Math.min.name Lib.Math.min.code 2 (some .int) ∈ jT) (hfr : 1 ≤ R.frames) (hlo : (st.map fun v => v.category).sum + 13 ≤ R.locals) (hk : k ≤ R.cells) (hn : n ≤ R.slots) (hd : decode cc pc = .ok (.invokestatic index, 3))
    (kk : J g R E nL (pc + 3) lv (.int (if y < x then y else x) :: st) bl k n) : J g R E nL pc lv (.int y :: .int x :: st) bl k n :=
  fun H locs ls hP hS hl => va_mmin hC.1 hC.2.1 (by rw [hC.2.2.1]; exact hl.1.symm) hC.2.2.2.1 (hC.2.2.2.2.1 _ hlink) (hC.2.2.2.2.1 _ hstat) (hC.2.2.2.2.1 _ hini) (hC.2.2.2.2.1 _ hcode) hfr hlo hk hn hd (kk H locs ls hP hS hl)
theorem j_abs (hC : jC g R E cc own nL) {index : Nat} {x : Int32} (hlink : Cond.methodLink own index Lib.Math.abs.name ∈ jT) (hstat : Cond.static Lib.Math.abs.name ∈ jT) (hini : Cond.initialized "java/lang/Math" ∈ jT) (hcode : Cond.code Lib.Math.abs.name Lib.Math.abs.code 1 (some .int) ∈ jT) (hfr : 1 ≤ R.frames) (hlo : (st.map fun v => v.category).sum + 13 ≤ R.locals) (hk : k ≤ R.cells) (hn : n ≤ R.slots) (hd : decode cc pc = .ok (.invokestatic index, 3))
    (kk : J g R E nL (pc + 3) lv (.int (if 0 ≤ x then x else 0 - x) :: st) bl k n) : J g R E nL pc lv (.int x :: st) bl k n :=
  fun H locs ls hP hS hl => va_mabs hC.1 hC.2.1 (by rw [hC.2.2.1]; exact hl.1.symm) hC.2.2.2.1 (hC.2.2.2.2.1 _ hlink) (hC.2.2.2.2.1 _ hstat) (hC.2.2.2.2.1 _ hini) (hC.2.2.2.2.1 _ hcode) hfr hlo hk hn hd (kk H locs ls hP hS hl)
/-! the frame rule -/
theorem jP_iff {g : jG} {A : Nat → Prop} {ws : va_W} {H : Heap} : jP g A ws H ↔ (∀ x ∈ ws, va_at g.2.1 vwCl x H ∧ A x.1) ∧ (ws.map Prod.fst).Nodup := by
  constructor
  · rintro ⟨h1, h2, h3⟩
    refine ⟨fun x hx => ?_, ?_⟩
    · obtain ⟨i, hi⟩ := List.getElem?_of_mem hx
      exact ⟨h1 i x hi, h3 i x hi⟩
    · unfold List.Nodup
      rw [List.pairwise_iff_getElem]
      intro i j hi hj hij he
      rw [List.length_map] at hi hj
      rw [List.getElem_map, List.getElem_map] at he
      have := h2 i j _ _ (List.getElem?_eq_getElem hi) (List.getElem?_eq_getElem hj) he
      omega
  · rintro ⟨h1, h2⟩
    refine ⟨fun i x hi => (h1 x (List.mem_of_getElem? hi)).1, fun i j p q hp hq he => ?_, fun i x hi => (h1 x (List.mem_of_getElem? hi)).2⟩
    unfold List.Nodup at h2
    rw [List.pairwise_iff_getElem] at h2
    obtain ⟨hil, ep⟩ := List.getElem?_eq_some_iff.mp hp
    obtain ⟨hjl, eq⟩ := List.getElem?_eq_some_iff.mp hq
    have e2 : (ws.map Prod.fst)[i]'(by rw [List.length_map]; exact hil) = (ws.map Prod.fst)[j]'(by rw [List.length_map]; exact hjl) := by
      rw [List.getElem_map, List.getElem_map, ep, eq]; exact he
    rcases Nat.lt_trichotomy i j with h | h | h
    · exact absurd e2 (h2 i j _ _ h)
    · exact h
    · exact absurd e2.symm (h2 j i _ _ h)
theorem jP.perm {g : jG} {A : Nat → Prop} {ws ws' : va_W} {H : Heap} (hp : ws.Perm ws') (h : jP g A ws H) : jP g A ws' H := by
  rw [jP_iff] at h ⊢
  exact ⟨fun x hx => h.1 x (hp.mem_iff.mpr hx), (hp.map _).nodup_iff.mp h.2⟩
theorem j_perm {bl' : List va_W} (hp : bl.flatten.Perm bl'.flatten) (kk : J g R E nL pc lv st bl' k n) : J g R E nL pc lv st bl k n :=
  fun H locs ls hP hS hl => kk H locs ls (hP.perm hp) hS hl
def jrepl : List va_W → List Nat → List va_W → List va_W
  | bl, i :: is, b :: bs => jrepl (bl.set i b) is bs
  | bl, _, _ => bl
theorem jset_flat {c : va_W} : ∀ {X : List va_W} {i : Nat}, i < X.length → (X.set i c).flatten.Perm (c ++ (X.set i []).flatten)
  | [], i, h => by cases h
  | a :: t, 0, _ => by simp
  | a :: t, i + 1, h => by
    have h1 := jset_flat (c := c) (X := t) (i := i) (by simpa using h)
    rw [List.set_cons_succ, List.set_cons_succ, List.flatten_cons, List.flatten_cons]
    exact (h1.append_left a).trans (List.perm_append_comm_assoc a c _)
theorem jrepl_set {b : va_W} {i : Nat} : ∀ {is : List Nat} {bs : List va_W} {X : List va_W}, i ∉ is → jrepl (X.set i b) is bs = (jrepl X is bs).set i b
  | [], _, _, _ => by simp [jrepl]
  | _ :: _, [], _, _ => by simp [jrepl]
  | j :: is, c :: bs, X, h => by
    have h1 : i ≠ j := fun e => h (by rw [e]; exact List.mem_cons_self)
    have h2 : i ∉ is := fun e => h (List.mem_cons_of_mem _ e)
    show jrepl ((X.set i b).set j c) is bs = (jrepl (X.set j c) is bs).set i b
    rw [List.set_comm _ _ h1, jrepl_set h2]
theorem jrepl_len : ∀ {is : List Nat} {bs : List va_W} {X : List va_W}, (jrepl X is bs).length = X.length
  | [], _, _ => by simp [jrepl]
  | _ :: _, [], _ => by simp [jrepl]
  | j :: is, c :: bs, X => by
    show (jrepl (X.set j c) is bs).length = X.length
    rw [jrepl_len, List.length_set]
theorem jset_self {X : List va_W} {i : Nat} {b : va_W} (h : X[i]? = some b) : X.set i b = X := by
  apply List.ext_getElem?
  intro j
  by_cases hj : i = j
  · subst hj
    rw [List.getElem?_set_self (List.getElem?_eq_some_iff.mp h).1, h]
  · rw [List.getElem?_set_ne hj]
theorem jsplit : ∀ (ic : List Nat) (bl blc : List va_W), va_nd ic = true → ic.map (fun i => bl[i]?) = blc.map some → ∃ rest : va_W, bl.flatten.Perm (blc.flatten ++ rest) ∧ ∀ b1 : List va_W, b1.length = blc.length → (jrepl bl ic b1).flatten.Perm (b1.flatten ++ rest)
  | [], bl, blc, _, h => by
    have e : blc = [] := by simpa using h.symm
    subst e
    refine ⟨bl.flatten, by simp, fun b1 hb => ?_⟩
    have e : b1 = [] := by simpa using hb
    subst e
    simp [jrepl]
  | i :: is, bl, blc, hn, h => by
    cases blc with
    | nil => simp at h
    | cons b bs =>
      have h1 : bl[i]? = some b := by simpa using (List.cons.inj h).1
      have h2 : is.map (fun i => bl[i]?) = bs.map some := (List.cons.inj h).2
      have hnd : i ∉ is ∧ va_nd is = true := by
        unfold va_nd at hn
        simpa using hn
      have hlt : i < bl.length := (List.getElem?_eq_some_iff.mp h1).1
      have h3 : is.map (fun j => (bl.set i [])[j]?) = bs.map some := by
        rw [← h2]
        apply List.map_congr_left
        intro j hj
        exact List.getElem?_set_ne (fun e => hnd.1 (by rw [e]; exact hj))
      obtain ⟨rest, p1, p2⟩ := jsplit is (bl.set i []) bs hnd.2 h3
      refine ⟨rest, ?_, fun b1 hb => ?_⟩
      · have q1 := jset_flat (c := b) hlt
        rw [jset_self h1] at q1
        rw [List.flatten_cons, List.append_assoc]
        exact q1.trans (p1.append_left b)
      · cases b1 with
        | nil => simp at hb
        | cons c b1 =>
          have hb : b1.length = bs.length := by simpa using hb
          show (jrepl (bl.set i c) is b1).flatten.Perm _
          rw [jrepl_set hnd.1]
          have hl2 : i < (jrepl bl is b1).length := by rw [jrepl_len]; exact hlt
          refine (jset_flat hl2).trans ?_
          rw [← jrepl_set hnd.1, List.flatten_cons, List.append_assoc]
          exact (p2 b1 hb).append_left c
theorem jframe {g : jG} {A : Nat → Prop} {wc wr w1 : va_W} {H H1 : Heap} (hP : jP g A (wc ++ wr) H) (hA : ∀ q, va_A wc H.size q → A q) (hk : ∀ q : Nat, q < H.size → ¬ va_A wc H.size q → H1[q]? = H[q]?) (h1 : jP g (va_A wc H.size) w1 H1) : jP g A (w1 ++ wr) H1 := by
  rw [jP_iff] at hP h1 ⊢
  obtain ⟨a1, a2⟩ := hP
  obtain ⟨b1, b2⟩ := h1
  rw [List.map_append, List.nodup_append] at a2
  have off : ∀ x ∈ wr, x.1 < H.size ∧ ¬ va_A wc H.size x.1 := by
    intro x hx
    have hl := (a1 x (List.mem_append_right _ hx)).1.lt
    refine ⟨hl, fun h => ?_⟩
    rcases h with ⟨i, e, h⟩ | h
    · exact a2.2.2 x.1 (List.mem_map.mpr ⟨(x.1, e), List.mem_of_getElem? h, rfl⟩) x.1 (List.mem_map.mpr ⟨x, hx, rfl⟩) rfl
    · omega
  refine ⟨fun x hx => ?_, ?_⟩
  · rcases List.mem_append.mp hx with hx | hx
    · exact ⟨(b1 x hx).1, hA _ (b1 x hx).2⟩
    · obtain ⟨c1, c2⟩ := off x hx
      exact ⟨(a1 x (List.mem_append_right _ hx)).1.kept (hk x.1 c1 c2), (a1 x (List.mem_append_right _ hx)).2⟩
  · rw [List.map_append, List.nodup_append]
    refine ⟨b2, a2.2.1, fun u hu v hv e => ?_⟩
    obtain ⟨x, hx, rfl⟩ := List.mem_map.mp hu
    obtain ⟨y, hy, rfl⟩ := List.mem_map.mp hv
    exact (off y hy).2 (by rw [← e]; exact (b1 x hx).2)
def jM (y : MethodName) (cc : ByteArray) (nL : Nat) (ret : Option FieldType) (n : Nat) : Prop := Cond.instanceMethod y ∈ jT ∧ Cond.selects y.cls y y ∈ jT ∧ Cond.initialized y.cls ∈ jT ∧ Cond.code y cc nL ret ∈ jT ∧ (y.cls ≠ "java/lang/invoke/MethodHandle" ∧ y.cls ≠ "java/lang/invoke/VarHandle" ∧ (parseMethodDescriptor y.desc).map (fun d => d.parameters.length) = some n)
def jMs (y : MethodName) (cc : ByteArray) (nL : Nat) (ret : Option FieldType) (n : Nat) : Prop := Cond.static y ∈ jT ∧ Cond.initialized y.cls ∈ jT ∧ Cond.code y cc nL ret ∈ jT ∧ (y.cls ≠ "java/lang/invoke/MethodHandle" ∧ y.cls ≠ "java/lang/invoke/VarHandle" ∧ (parseMethodDescriptor y.desc).map (fun d => d.parameters.length) = some n)
def jMi (y : MethodName) (cc : ByteArray) (nL : Nat) (n : Nat) : Prop := Cond.instanceMethod y ∈ jT ∧ Cond.initialized y.cls ∈ jT ∧ Cond.code y cc nL none ∈ jT ∧ y.name = "<init>" ∧ (y.cls ≠ "java/lang/invoke/MethodHandle" ∧ y.cls ≠ "java/lang/invoke/VarHandle" ∧ (parseMethodDescriptor y.desc).map (fun d => d.parameters.length) = some n)
/-! ends -/
theorem j_end {ret : Option FieldType} {mc ms : Nat} {bl0 : List va_W} {Post : Option Value → List va_W → Prop} {r : Option Value} {H : Heap} {locs : List Loc} (hQ : jQ g E ret mc ms bl0 Post) (hlen : bl.length = bl0.length) (hp : Post r bl) (hP : jP g (jEA E) bl.flatten H) (hS : va_S (jEA E) (jEs E).heap H locs) : ∀ t : State, t.heap = H → (jEs E).WarmedH t.vm → jPost g (jEs E).heap.size bl0 Post (jEa E) (jEs E) (.returned r) t := by
  intro t ht _
  obtain ⟨-, hA, -⟩ := hQ
  rw [hA] at hP hS
  exact ⟨⟨r, bl, rfl, hp, hlen, by rw [ht]; exact hP⟩, hS.F ht⟩
theorem j_iret (hC : jC g R E cc own nL) {ret : Option FieldType} {mc ms : Nat} {bl0 : List va_W} {Post : Option Value → List va_W → Prop} (hQ : jQ g E ret mc ms bl0 Post) {ty : FieldType} {v : Int32} (hr : ret = some ty) (hn : narrow ty (.int v) = .int v) (hk : k ≤ mc) (hs : n ≤ ms) (hd : decode cc pc = .ok (.ireturn, 1)) (hlen : bl.length = bl0.length) (hp : Post (some (.int v)) bl) : J g R E nL pc lv [.int v] bl k n := by
  intro H locs ls hP hS hl
  refine W.widen hk hs ?_
  rw [hQ.2.2]
  exact W.zret hC.1 hC.2.1 (hQ.1.trans hr) hn (j_end hQ hlen hp hP hS) (fun q hq => by have := hS.2.2 q hq; rw [hQ.2.1] at this; exact this) hd hC.2.2.2.2.2.2.2
theorem j_lret (hC : jC g R E cc own nL) {ret : Option FieldType} {mc ms : Nat} {bl0 : List va_W} {Post : Option Value → List va_W → Prop} (hQ : jQ g E ret mc ms bl0 Post) {v : Int64} (hr : ret = some .long) (hk : k ≤ mc) (hs : n ≤ ms) (hd : decode cc pc = .ok (.lreturn, 1)) (hlen : bl.length = bl0.length) (hp : Post (some (.long v)) bl) : J g R E nL pc lv [.long v] bl k n := by
  intro H locs ls hP hS hl
  refine W.widen hk hs ?_
  rw [hQ.2.2]
  exact W.lret hC.1 hC.2.1 (hQ.1.trans hr) (j_end hQ hlen hp hP hS) (fun q hq => by have := hS.2.2 q hq; rw [hQ.2.1] at this; exact this) hd hC.2.2.2.2.2.2.2
theorem j_vret (hC : jC g R E cc own nL) {ret : Option FieldType} {mc ms : Nat} {bl0 : List va_W} {Post : Option Value → List va_W → Prop} (hQ : jQ g E ret mc ms bl0 Post) (hr : ret = none) (hk : k ≤ mc) (hs : n ≤ ms) (hd : decode cc pc = .ok (.return_, 1)) (hlen : bl.length = bl0.length) (hp : Post none bl) : J g R E nL pc lv [] bl k n := by
  intro H locs ls hP hS hl
  refine W.widen hk hs ?_
  rw [hQ.2.2]
  exact W.vret hC.1 hC.2.1 (hQ.1.trans hr) (j_end hQ hlen hp hP hS) (fun q hq => by have := hS.2.2 q hq; rw [hQ.2.1] at this; exact this) hd hC.2.2.2.2.2.2.2
theorem j_aret (hC : jC g R E cc own nL) {ret : Option FieldType} {mc ms : Nat} {bl0 : List va_W} {Post : Option Value → List va_W → Prop} (hQ : jQ g E ret mc ms bl0 Post) {C : String} {v : Value} (hr : ret = some (.object C)) (hv : v = .null ∨ ∃ a, v = .ref a) (hk : k ≤ mc) (hs : n ≤ ms) (hd : decode cc pc = .ok (.areturn, 1)) (hlen : bl.length = bl0.length) (hp : Post (some v) bl) : J g R E nL pc lv [v] bl k n := by
  intro H locs ls hP hS hl
  refine W.widen hk hs ?_
  rw [hQ.2.2]
  exact W.aret hC.1 hC.2.1 (hQ.1.trans hr) (Or.inl ⟨C, rfl⟩) hv (j_end hQ hlen hp hP hS) (fun q hq => by have := hS.2.2 q hq; rw [hQ.2.1] at this; exact this) hd hC.2.2.2.2.2.2.2
/-! calls -/
def jstk : Option Value → List Value → List Value
  | some v, r => v :: r
  | none, r => r
theorem jstk_eq (r : Option Value) (rest : List Value) : r.toList ++ rest = jstk r rest := by cases r <;> rfl
theorem jblind {g : jG} {av : List Value} {sz : Nat} {bl : List va_W} : FrameBlind (jPre g av sz bl) := by
  intro a U f mk h
  obtain ⟨h1, h2, h3, h4⟩ := h
  exact ⟨h1, h2, h3, jK.calling h4⟩
theorem j_run {blc : List va_W} {Post : Option Value → List va_W → Prop} {rest : List Value} {aa : Array Value} {mc ms : Nat} (ic : List Nat) (hbl : ic.map (fun i => bl[i]?) = blc.map some) (hnd : va_nd ic = true) (hC : jC g R E cc own nL)
    (hr : ∀ (H : Heap) (locs : List Loc) (ls : Array Slot), jP g (fun _ => True) blc.flatten H → ls.size = nL → va_Run (jEp E) g.1 (jEe E) R (jEs E) (jEm E) (jEa E) (jEb E) (jEh E) (jEc E) H locs k n mc ms (F0 (jEm E) pc ls st) rest (jPost g H.size blc Post aa) (va_A blc.flatten H.size))
    (kk : ∀ (r : Option Value) (b1 : List va_W), Post r b1 → b1.length = blc.length → J g R E nL (pc + 3) lv (jstk r rest) (jrepl bl ic b1) (k + mc) (n + ms)) : J g R E nL pc lv st bl k n := by
  intro H locs ls hP hS hl
  obtain ⟨wr, p1, p2⟩ := jsplit ic bl blc hnd hbl
  have hP1 := hP.perm p1
  have hPc : jP g (jEA E) blc.flatten H := by
    rw [jP_iff] at hP1 ⊢
    rw [List.map_append, List.nodup_append] at hP1
    exact ⟨fun x hx => hP1.1 x (List.mem_append_left _ hx), hP1.2.1⟩
  have hA : ∀ q, va_A blc.flatten H.size q → jEA E q := by
    intro q hq
    rcases hq with ⟨i, e, h⟩ | h
    · exact ((jP_iff.mp hPc).1 (q, e) (List.mem_of_getElem? h)).2
    · exact hC.2.2.2.2.2.2.1 q (Nat.le_trans hS.1 h)
  have hPt : jP g (fun _ => True) blc.flatten H := ⟨hPc.1, hPc.2.weaken (fun _ _ _ _ => trivial)⟩
  intro T hT X
  obtain ⟨v, st₀, t, T', L, h0, X', hL, e1, e2, ⟨⟨r, b1, hv, hp, hlen, hw⟩, hz, hk⟩, stp⟩ := hr H locs ls hPt hl.1 T hT X
  cases hv
  rw [h0] at hz hk
  have h5 : jP g (jEA E) (b1.flatten ++ wr) T'.heap := jframe (H := H) hP1 hA (fun q h1 h2 => by rw [e1]; exact hk q h1 h2) (by rw [e1]; exact hw)
  obtain ⟨t2, a1, a2⟩ := kk v b1 hp hlen T'.heap (locs ++ L) ls (h5.perm (p2 b1 hlen).symm)
    ⟨Nat.le_trans hS.1 (by rw [e1]; exact hz), fun q h1 h2 => by rw [e1, hk q (Nat.lt_of_lt_of_le h1 hS.1) (fun z => h2 (hA q z))]; exact hS.2.1 q h1 h2, fun q hq => by
      rcases List.mem_append.mp hq with h | h
      · exact hS.2.2 q h
      · exact hA _ (hL q h)⟩ hl T' rfl X'
  refine ⟨t2, stp t2 ?_, a2⟩
  have e3 : ({ (F0 (jEm E) pc ls st) with pc := (F0 (jEm E) pc ls st).pc + 3, stack := v.toList ++ rest } : JFrame) = F0 (jEm E) (pc + 3) ls (jstk v rest) := by rw [jstk_eq]
  rw [e3]
  exact a1
theorem jFix (hC : jC g R E cc own nL) : CallFix (jEp E) (jEm E) (jEc E) cc nL (jEs E) (jEa E) jT own := ⟨hC.1, hC.2.1, hC.2.2.1, hC.2.2.2.1, hC.2.2.2.2.1⟩
theorem jpre_of {av : List Value} {blc : List va_W} {H : Heap} (hC : jC g R E cc own nL) (hP : jP g (fun _ => True) blc.flatten H) : ∀ U : State, U.heap = H → (jEs E).WarmedH U.vm → jPre g av H.size blc av.toArray U :=
  fun U hU hW => ⟨rfl, by rw [hU], by rw [hU]; exact hP, jK.moved hW hC.2.2.2.2.2.1⟩
theorem j_callV (hC : jC g R E cc own nL) {y : MethodName} {cy : ByteArray} {nLy fr lo mc ms index a ci : Nat} {ret : Option FieldType} {As rest : List Value} {blc : List va_W} {Post : Option Value → List va_W → Prop} {fs : List Value} (ic : List Nat) (hcon : Con g y cy nLy ret fr lo mc ms (.ref a :: As) blc Post) (hM : jM y cy nLy ret As.length) (hlink : Cond.methodLink own index y ∈ jT) (hst : st = As.reverse ++ .ref a :: rest) (hbl : ic.map (fun i => bl[i]?) = blc.map some) (hnd : va_nd ic = true) (hrv : jat blc 0 0 = some (a, .inr (ci, fs))) (hcl : (vwCl[ci]?).map (fun q => q.1) = some y.cls)
    (hR : fr + 1 ≤ R.frames ∧ 8 + (nLy + 11) + lo ≤ R.locals) (hcat : (rest.map fun v => v.category).sum ≤ 8) (hkn : k + mc ≤ R.cells ∧ n + ms ≤ R.slots) (hd : decode cc pc = .ok (.invokevirtual index, 3))
    (kk : ∀ (r : Option Value) (b1 : List va_W), Post r b1 → b1.length = blc.length → J g R E nL (pc + 3) lv (jstk r rest) (jrepl bl ic b1) (k + mc) (n + ms)) : J g R E nL pc lv st bl k n := by
  refine j_run (aa := (Value.ref a :: As).toArray) (mc := mc) (ms := ms) (rest := rest) ic hbl hnd hC (fun H locs ls hP hsz => ?_) kk
  obtain ⟨q0, h0⟩ := jat_flat hrv
  have hts := hC.2.2.2.2.1
  refine va_runV (C := y.cls) (As := As) (rest := rest) (jFix hC) (hcon H.size) ⟨callB_of As.length hts (jWs_good hM.2.2.2.1) rfl rfl rfl (hts _ hM.2.2.1) (hts _ hlink) hM.2.2.2.2 hR, hts _ hM.1, hts _ hM.2.1⟩ ⟨jblind, ?_, jpre_of hC hP⟩ rfl rfl hsz hst (lv_room hcat) hd hkn
  cases hc : vwCl[ci]? with
  | none => rw [hc] at hcl; cases hcl
  | some q =>
    rw [hc] at hcl
    have e : q.1 = y.cls := Option.some.inj hcl
    have := va_recv hC.2.2.2.2.2.1.1 hP.1 hc h0
    rw [e] at this
    exact this
theorem j_callS (hC : jC g R E cc own nL) {y : MethodName} {cy : ByteArray} {nLy fr lo mc ms index : Nat} {ret : Option FieldType} {As rest : List Value} {blc : List va_W} {Post : Option Value → List va_W → Prop} (ic : List Nat) (hcon : Con g y cy nLy ret fr lo mc ms As blc Post) (hM : jMs y cy nLy ret As.length) (hlink : Cond.methodLink own index y ∈ jT) (hst : st = As.reverse ++ rest) (hbl : ic.map (fun i => bl[i]?) = blc.map some) (hnd : va_nd ic = true)
    (hR : fr + 1 ≤ R.frames ∧ 8 + (nLy + 11) + lo ≤ R.locals) (hcat : (rest.map fun v => v.category).sum ≤ 8) (hkn : k + mc ≤ R.cells ∧ n + ms ≤ R.slots) (hd : decode cc pc = .ok (.invokestatic index, 3))
    (kk : ∀ (r : Option Value) (b1 : List va_W), Post r b1 → b1.length = blc.length → J g R E nL (pc + 3) lv (jstk r rest) (jrepl bl ic b1) (k + mc) (n + ms)) : J g R E nL pc lv st bl k n := by
  refine j_run (aa := As.toArray) (mc := mc) (ms := ms) (rest := rest) ic hbl hnd hC (fun H locs ls hP hsz => ?_) kk
  have hts := hC.2.2.2.2.1
  exact va_runS (As := As) (rest := rest) (jFix hC) (hcon H.size) ⟨callB_of As.length hts (jWs_good hM.2.2.1) rfl rfl rfl (hts _ hM.2.1) (hts _ hlink) hM.2.2.2 hR, hts _ hM.1⟩ ⟨jblind, jpre_of hC hP⟩ rfl rfl hsz hst (lv_room hcat) hd hkn
theorem j_callSN (hC : jC g R E cc own nL) {y : MethodName} {cy : ByteArray} {nLy fr lo mc ms index : Nat} {host : String} {ret : Option FieldType} {As rest : List Value} {blc : List va_W} {Post : Option Value → List va_W → Prop} (ic : List Nat) (hcon : Con g y cy nLy ret fr lo mc ms As blc Post) (hM : jMs y cy nLy ret As.length) (hlink : Cond.methodLinkNest own index y host ∈ jNw) (hst : st = As.reverse ++ rest) (hbl : ic.map (fun i => bl[i]?) = blc.map some) (hnd : va_nd ic = true)
    (hR : fr + 1 ≤ R.frames ∧ 8 + (nLy + 11) + lo ≤ R.locals) (hcat : (rest.map fun v => v.category).sum ≤ 8) (hkn : k + mc ≤ R.cells ∧ n + ms ≤ R.slots) (hd : decode cc pc = .ok (.invokestatic index, 3))
    (kk : ∀ (r : Option Value) (b1 : List va_W), Post r b1 → b1.length = blc.length → J g R E nL (pc + 3) lv (jstk r rest) (jrepl bl ic b1) (k + mc) (n + ms)) : J g R E nL pc lv st bl k n := by
  refine j_run (aa := As.toArray) (mc := mc) (ms := ms) (rest := rest) ic hbl hnd hC (fun H locs ls hP hsz => ?_) kk
  have hts := hC.2.2.2.2.1
  exact va_runSN (As := As) (rest := rest) (jFix hC) (hcon H.size) ⟨va_cnB As.length hts (jWs_good hM.2.2.1) rfl rfl rfl (hC.2.2.2.2.2.1.2.1 _ hlink) (hts _ hM.2.1) hM.2.2.2 hR, hts _ hM.1, trivial⟩ ⟨jblind, jpre_of hC hP⟩ rfl rfl hsz hst (lv_room hcat) hd hkn
theorem j_callI (hC : jC g R E cc own nL) {y : MethodName} {cy : ByteArray} {nLy fr lo mc ms index a : Nat} {As rest : List Value} {blc : List va_W} {Post : Option Value → List va_W → Prop} (ic : List Nat) (hcon : Con g y cy nLy none fr lo mc ms (.ref a :: As) blc Post) (hM : jMi y cy nLy As.length) (hlink : Cond.methodLink own index y ∈ jT) (hst : st = As.reverse ++ .ref a :: rest) (hbl : ic.map (fun i => bl[i]?) = blc.map some) (hnd : va_nd ic = true)
    (hR : fr + 1 ≤ R.frames ∧ 8 + (nLy + 11) + lo ≤ R.locals) (hcat : (rest.map fun v => v.category).sum ≤ 8) (hkn : k + mc ≤ R.cells ∧ n + ms ≤ R.slots) (hd : decode cc pc = .ok (.invokespecial index, 3))
    (kk : ∀ (r : Option Value) (b1 : List va_W), Post r b1 → b1.length = blc.length → J g R E nL (pc + 3) lv (jstk r rest) (jrepl bl ic b1) (k + mc) (n + ms)) : J g R E nL pc lv st bl k n := by
  refine j_run (aa := (Value.ref a :: As).toArray) (mc := mc) (ms := ms) (rest := rest) ic hbl hnd hC (fun H locs ls hP hsz => ?_) kk
  have hts := hC.2.2.2.2.1
  exact va_runI (As := As) (rest := rest) (jFix hC) (hcon H.size) ⟨callB_of As.length hts (jWs_good hM.2.2.1) rfl rfl rfl (hts _ hM.2.1) (hts _ hlink) hM.2.2.2.2 hR, hM.2.2.2.1, hts _ hM.1⟩ ⟨jblind, jpre_of hC hP⟩ rfl rfl hsz hst (lv_room hcat) hd hkn
theorem j_callIN (hC : jC g R E cc own nL) {y : MethodName} {cy : ByteArray} {nLy fr lo mc ms index a : Nat} {host : String} {As rest : List Value} {blc : List va_W} {Post : Option Value → List va_W → Prop} (ic : List Nat) (hcon : Con g y cy nLy none fr lo mc ms (.ref a :: As) blc Post) (hM : jMi y cy nLy As.length) (hlink : Cond.methodLinkNest own index y host ∈ jNw) (hst : st = As.reverse ++ .ref a :: rest) (hbl : ic.map (fun i => bl[i]?) = blc.map some) (hnd : va_nd ic = true)
    (hR : fr + 1 ≤ R.frames ∧ 8 + (nLy + 11) + lo ≤ R.locals) (hcat : (rest.map fun v => v.category).sum ≤ 8) (hkn : k + mc ≤ R.cells ∧ n + ms ≤ R.slots) (hd : decode cc pc = .ok (.invokespecial index, 3))
    (kk : ∀ (r : Option Value) (b1 : List va_W), Post r b1 → b1.length = blc.length → J g R E nL (pc + 3) lv (jstk r rest) (jrepl bl ic b1) (k + mc) (n + ms)) : J g R E nL pc lv st bl k n := by
  refine j_run (aa := (Value.ref a :: As).toArray) (mc := mc) (ms := ms) (rest := rest) ic hbl hnd hC (fun H locs ls hP hsz => ?_) kk
  have hts := hC.2.2.2.2.1
  exact va_runIN (As := As) (rest := rest) (jFix hC) (hcon H.size) ⟨va_cnB As.length hts (jWs_good hM.2.2.1) rfl rfl rfl (hC.2.2.2.2.2.1.2.1 _ hlink) (hts _ hM.2.1) hM.2.2.2.2 hR, hM.2.2.2.1, hts _ hM.1⟩ ⟨jblind, jpre_of hC hP⟩ rfl rfl hsz hst (lv_room hcat) hd hkn
end JROWS
end
