/-! the plan carried out -/
theorem planT_cg {A B : Nat → jF} {S : BS} (h : planT A S) (h7 : B 7 = A 7) (h8 : B 8 = A 8) : planT B S := by
  unfold planT; rw [h7, h8]; exact h
theorem coS_s {S : BS} {i : Nat} : coS S (i + 1) = pasS 24 (burS (onV S (nI i)) (coS S i)) := by
  unfold coS; rw [jit_s]
def mx (T : St3) (h : Int64) (n : Nat) : Int64 := jiter (fun t h => 31 * h + (oDay T (nI t)).1.toInt64) (31 * h + (oDays T).1.toInt64) n
theorem mx_0 {T : St3} {h : Int64} : mx T h 0 = 31 * h + (oDays T).1.toInt64 := by unfold mx; rw [jit_0]
theorem mx_s {T : St3} {h : Int64} {n : Nat} : mx T h (n + 1) = 31 * mx T h n + (oDay T (nI n)).1.toInt64 := by unfold mx; rw [jit_s]
theorem mx_dg {T : St3} {n : Nat} : mx T (dg3 T (bRs T.1).length) n = dg5 T n := by
  unfold mx dg5 dg4; exact Eq.refl _
set_option maxHeartbeats 1000000 in
set_option maxRecDepth 100000 in
theorem c_X7_records_f (g : jG) (d : Nat → Nat) (I : jF) (A : Nat → jF) (T : St3) (hMI : MI I A T) : Con g yX7_records cX7_records 2 none 0 0 0 0 [.ref (d 0)] [mc g d I A] (fun r b => r = none ∧ ∃ (I1 : jF) (A1 : Nat → jF), b = [mc g d I1 A1] ∧ MI I1 A1 (oPush T T.1) ∧ (∀ q, q ≠ 1 → A1 q = A q)) := by
  refine Con.of (own := RX7) (lv := [(0, .ref (d 0))]) (by decide) rfl (Nat.le_of_ble_eq_true rfl) rfl ?_
  intro E hC hQ hN
  refine j_aload_n hC dX7_records_0 rfl rfl ?_
  refine j_get hC uX7 0 0 1 rfl rfl k725 rfl dX7_records_1 ?_
  refine j_bipush hC (8) dX7_records_4 (by decide) ?_
  refine j_icmp_ne hC dX7_records_6 (tgt := 50) (by decide) (fun c_6 => ?_) (fun c_6 => ?_)
  · skip
    refine j_aload_n hC dX7_records_50 rfl rfl ?_
    refine j_dup hC dX7_records_51 rfl ?_
    refine j_get hC uX7 0 0 1 rfl rfl k725 rfl dX7_records_52 ?_
    refine j_iconst hC (1) dX7_records_55 (by decide) ?_
    refine j_iadd hC dX7_records_56 ?_
    refine j_put_7_1 (bi := 0) hC rfl k725 dX7_records_57 ?_
    dsimp only [List.set]
    refine j_mgen (fun I2 A3 hI2 hA3 => ?_)
    have hmid : recMid I I2 A A3 T := by first | exact recMid_a hMI c_6 hI2 hA3 | exact recMid_b hMI (Decidable.not_not.mp c_6) hP hK hI2 hA3 | exact recMid_b hMI c_6 hP hK hI2 hA3
    have hl7 : (T.2.1.take 7).length ≤ 7 := by rw [List.length_take]; omega
    refine j_iconst hC (0) dX7_records_60 (by decide) ?_
    refine j_istore_n hC dX7_records_61 rfl rfl rfl rfl (fun v_61 e_61 => ?_)
    have L_62 : ∀ (fu : Nat) (m : Nat) (x1 : Int32) (A2 : Nat → jF) (hfu : 112 ≤ m + fu) (hm : m ≤ 111) (h1 : x1 = nI m) (hP2 : ∀ q, A2 1 q = if 111 * ((T.2.1.take 7).length + 1) ≤ q ∧ q < 111 * ((T.2.1.take 7).length + 1) + m then A3 1 (q - 111 * ((T.2.1.take 7).length + 1)) else A3 1 q) (hK2 : ∀ q, q ≠ 1 → A2 q = A3 q), J g (jRm 0 0 0 0) E 2 62 [(0, .ref (d 0)), (1, .int x1)] [] [mc g d I2 A2] (0) (0) := by
      intro fu
      induction fu with
      | zero => intro m x1 A2 hfu hm h1 hP2 hK2; exact absurd hfu (by omega)
      | succ fu ih_62 =>
        intro m x1 A2 hfu hm h1 hP2 hK2
        refine j_iload_n hC dX7_records_62 rfl rfl ?_
        refine j_bipush hC (111) dX7_records_63 (by decide) ?_
        refine j_icmp_ge hC dX7_records_65 (tgt := 94) (by decide) (fun c_65 => ?_) (fun c_65 => ?_)
        · skip
          have hme : m = 111 := Nat.le_antisymm (by omega) (jge (show (111 : Int32) = nI 111 from rfl) h1 (by decide) (by omega) c_65)
          rw [hme] at hP2
          refine j_vret hC hQ rfl (Nat.le_of_ble_eq_true rfl) (Nat.le_of_ble_eq_true rfl) dX7_records_94 rfl ?_
          exact ⟨rfl, I2, A2, rfl, recEnd hMI hmid hP2 hK2, fun q hq => (hK2 q hq).trans (hmid.2.2.2.2 q hq)⟩
        · skip
          have hml : m < 111 := jlt (show (111 : Int32) = nI 111 from rfl) h1 (by decide) (by omega) c_65
          refine j_aload_n hC dX7_records_68 rfl rfl ?_
          refine j_get hC uX7 0 0 0 rfl rfl k724 rfl dX7_records_69 ?_
          refine j_bipush hC (111) dX7_records_72 (by decide) ?_
          refine j_aload_n hC dX7_records_74 rfl rfl ?_
          refine j_get hC uX7 0 0 1 rfl rfl k725 rfl dX7_records_75 ?_
          refine j_imul hC dX7_records_78 ?_
          refine j_iload_n hC dX7_records_79 rfl rfl ?_
          refine j_iadd hC dX7_records_80 ?_
          refine j_aload_n hC dX7_records_81 rfl rfl ?_
          refine j_get hC uX7 0 0 0 rfl rfl k724 rfl dX7_records_82 ?_
          refine j_iload_n hC dX7_records_85 rfl rfl ?_
          refine j_ildN hC (m := m) 0 1 rfl rfl h1 (by omega) dX7_records_86 ?_
          refine j_st_7_1 (bi := 0) (m := 111 * ((T.2.1.take 7).length + 1) + m) hC rfl (by rw [hmid.1, h1, show (111 : Int32) = nI 111 from rfl, pk_mul, nI_add]) (by omega) dX7_records_87 (fun A_87 hA_87 hK_87 => ?_)
          dsimp only [List.set]
          refine j_iinc hC (1) dX7_records_88 rfl rfl rfl rfl rfl (fun v_88 e_88 => ?_)
          refine j_goto hC dX7_records_91 (tgt := 62) (by decide) ?_
          refine j_pick [0, 1] ?_
          exact ih_62 (m + 1) _ _ (by omega) (by omega) (jsucc e_88 h1) (cpy1 hP2 hml (by omega) hA_87) (fun q hq => (hK_87 q hq).trans (hK2 q hq))
    refine j_pick [0, 1] ?_
    exact L_62 (112) 0 _ _ (by omega) (by omega) (e_61.trans nI_0.symm) (fun q => by rw [if_neg (by omega)]) (fun _ _ => rfl)
  · skip
    refine j_bipush hC (111) dX7_records_9 (by decide) ?_
    refine j_istore_n hC dX7_records_11 rfl rfl rfl rfl (fun v_11 e_11 => ?_)
    have L_12 : ∀ (fu : Nat) (m : Nat) (x1 : Int32) (A1 : Nat → jF) (hfu : 889 ≤ m + fu) (hm : 111 ≤ m ∧ m ≤ 888) (h1 : x1 = nI m) (hP : ∀ q, A1 1 q = if 111 ≤ q ∧ q < m then A 1 (q + 111) else A 1 q) (hK : ∀ q, q ≠ 1 → A1 q = A q), J g (jRm 0 0 0 0) E 2 12 [(0, .ref (d 0)), (1, .int x1)] [] [mc g d I A1] (0) (0) := by
      intro fu
      induction fu with
      | zero => intro m x1 A1 hfu hm h1 hP hK; exact absurd hfu (by omega)
      | succ fu ih_12 =>
        intro m x1 A1 hfu hm h1 hP hK
        refine j_iload_n hC dX7_records_12 rfl rfl ?_
        refine j_sipush hC (888) dX7_records_13 (by decide) ?_
        refine j_icmp_ge hC dX7_records_16 (tgt := 40) (by decide) (fun c_16 => ?_) (fun c_16 => ?_)
        · skip
          have hme : m = 888 := Nat.le_antisymm (by omega) (jge (show (888 : Int32) = nI 888 from rfl) h1 (by decide) (by omega) c_16)
          rw [hme] at hP
          refine j_aload_n hC dX7_records_40 rfl rfl ?_
          refine j_dup hC dX7_records_41 rfl ?_
          refine j_get hC uX7 0 0 1 rfl rfl k725 rfl dX7_records_42 ?_
          refine j_iconst hC (1) dX7_records_45 (by decide) ?_
          refine j_isub hC dX7_records_46 ?_
          refine j_put_7_1 (bi := 0) hC rfl k725 dX7_records_47 ?_
          dsimp only [List.set]
          refine j_aload_n hC dX7_records_50 rfl rfl ?_
          refine j_dup hC dX7_records_51 rfl ?_
          refine j_get hC uX7 0 0 1 rfl rfl k725 rfl dX7_records_52 ?_
          refine j_iconst hC (1) dX7_records_55 (by decide) ?_
          refine j_iadd hC dX7_records_56 ?_
          refine j_put_7_1 (bi := 0) hC rfl k725 dX7_records_57 ?_
          dsimp only [List.set]
          refine j_mgen (fun I2 A3 hI2 hA3 => ?_)
          have hmid : recMid I I2 A A3 T := by first | exact recMid_a hMI c_6 hI2 hA3 | exact recMid_b hMI (Decidable.not_not.mp c_6) hP hK hI2 hA3 | exact recMid_b hMI c_6 hP hK hI2 hA3
          have hl7 : (T.2.1.take 7).length ≤ 7 := by rw [List.length_take]; omega
          refine j_iconst hC (0) dX7_records_60 (by decide) ?_
          refine j_istore_n hC dX7_records_61 rfl rfl rfl rfl (fun v_61 e_61 => ?_)
          have L_62 : ∀ (fu : Nat) (m : Nat) (x1 : Int32) (A2 : Nat → jF) (hfu : 112 ≤ m + fu) (hm : m ≤ 111) (h1 : x1 = nI m) (hP2 : ∀ q, A2 1 q = if 111 * ((T.2.1.take 7).length + 1) ≤ q ∧ q < 111 * ((T.2.1.take 7).length + 1) + m then A3 1 (q - 111 * ((T.2.1.take 7).length + 1)) else A3 1 q) (hK2 : ∀ q, q ≠ 1 → A2 q = A3 q), J g (jRm 0 0 0 0) E 2 62 [(0, .ref (d 0)), (1, .int x1)] [] [mc g d I2 A2] (0) (0) := by
            intro fu
            induction fu with
            | zero => intro m x1 A2 hfu hm h1 hP2 hK2; exact absurd hfu (by omega)
            | succ fu ih_62 =>
              intro m x1 A2 hfu hm h1 hP2 hK2
              refine j_iload_n hC dX7_records_62 rfl rfl ?_
              refine j_bipush hC (111) dX7_records_63 (by decide) ?_
              refine j_icmp_ge hC dX7_records_65 (tgt := 94) (by decide) (fun c_65 => ?_) (fun c_65 => ?_)
              · skip
                have hme : m = 111 := Nat.le_antisymm (by omega) (jge (show (111 : Int32) = nI 111 from rfl) h1 (by decide) (by omega) c_65)
                rw [hme] at hP2
                refine j_vret hC hQ rfl (Nat.le_of_ble_eq_true rfl) (Nat.le_of_ble_eq_true rfl) dX7_records_94 rfl ?_
                exact ⟨rfl, I2, A2, rfl, recEnd hMI hmid hP2 hK2, fun q hq => (hK2 q hq).trans (hmid.2.2.2.2 q hq)⟩
              · skip
                have hml : m < 111 := jlt (show (111 : Int32) = nI 111 from rfl) h1 (by decide) (by omega) c_65
                refine j_aload_n hC dX7_records_68 rfl rfl ?_
                refine j_get hC uX7 0 0 0 rfl rfl k724 rfl dX7_records_69 ?_
                refine j_bipush hC (111) dX7_records_72 (by decide) ?_
                refine j_aload_n hC dX7_records_74 rfl rfl ?_
                refine j_get hC uX7 0 0 1 rfl rfl k725 rfl dX7_records_75 ?_
                refine j_imul hC dX7_records_78 ?_
                refine j_iload_n hC dX7_records_79 rfl rfl ?_
                refine j_iadd hC dX7_records_80 ?_
                refine j_aload_n hC dX7_records_81 rfl rfl ?_
                refine j_get hC uX7 0 0 0 rfl rfl k724 rfl dX7_records_82 ?_
                refine j_iload_n hC dX7_records_85 rfl rfl ?_
                refine j_ildN hC (m := m) 0 1 rfl rfl h1 (by omega) dX7_records_86 ?_
                refine j_st_7_1 (bi := 0) (m := 111 * ((T.2.1.take 7).length + 1) + m) hC rfl (by rw [hmid.1, h1, show (111 : Int32) = nI 111 from rfl, pk_mul, nI_add]) (by omega) dX7_records_87 (fun A_87 hA_87 hK_87 => ?_)
                dsimp only [List.set]
                refine j_iinc hC (1) dX7_records_88 rfl rfl rfl rfl rfl (fun v_88 e_88 => ?_)
                refine j_goto hC dX7_records_91 (tgt := 62) (by decide) ?_
                refine j_pick [0, 1] ?_
                exact ih_62 (m + 1) _ _ (by omega) (by omega) (jsucc e_88 h1) (cpy1 hP2 hml (by omega) hA_87) (fun q hq => (hK_87 q hq).trans (hK2 q hq))
          refine j_pick [0, 1] ?_
          exact L_62 (112) 0 _ _ (by omega) (by omega) (e_61.trans nI_0.symm) (fun q => by rw [if_neg (by omega)]) (fun _ _ => rfl)
        · skip
          have hml : m < 888 := jlt (show (888 : Int32) = nI 888 from rfl) h1 (by decide) (by omega) c_16
          refine j_aload_n hC dX7_records_19 rfl rfl ?_
          refine j_get hC uX7 0 0 0 rfl rfl k724 rfl dX7_records_20 ?_
          refine j_iload_n hC dX7_records_23 rfl rfl ?_
          refine j_aload_n hC dX7_records_24 rfl rfl ?_
          refine j_get hC uX7 0 0 0 rfl rfl k724 rfl dX7_records_25 ?_
          refine j_iload_n hC dX7_records_28 rfl rfl ?_
          refine j_bipush hC (111) dX7_records_29 (by decide) ?_
          refine j_iadd hC dX7_records_31 ?_
          refine j_ildN hC (m := m + 111) 0 1 rfl rfl (by rw [h1]; exact nI_add m 111) (by omega) dX7_records_32 ?_
          refine j_st_7_1 (bi := 0) (m := m) hC rfl h1 (by omega) dX7_records_33 (fun A_33 hA_33 hK_33 => ?_)
          dsimp only [List.set]
          refine j_iinc hC (1) dX7_records_34 rfl rfl rfl rfl rfl (fun v_34 e_34 => ?_)
          refine j_goto hC dX7_records_37 (tgt := 12) (by decide) ?_
          refine j_pick [0, 1] ?_
          exact ih_12 (m + 1) _ _ (by omega) (by omega) (jsucc e_34 h1) (shf1 hP hm.1 hA_33) (fun q hq => (hK_33 q hq).trans (hK q hq))
    refine j_pick [0, 1] ?_
    exact L_12 (889) 111 _ _ (by omega) (by omega) (e_11.trans rfl) (fun q => by rw [if_neg (by omega)]) (fun _ _ => rfl)
theorem dys_n9 {S : BS} (h : dysN S < 99) : ¬ dysV S = -9 := by
  unfold dysV
  rw [if_pos h]
  intro q
  have := congrArg Int32.toInt q
  rw [nI_toInt (by omega), show (-9 : Int32).toInt = -9 by decide] at this
  omega
set_option maxHeartbeats 4000000 in
set_option maxRecDepth 100000 in
theorem c_X7_carryOut (g : jG) (d : Nat → Nat) (T : St3) (b : List va_W) (h : MW g d T b) : Con g yX7_carryOut cX7_carryOut 5 (some .int) 7 157 0 0 [.ref (d 0)] b (fun rr bb => rr = some (.int (oCarryOut T).1) ∧ MW g d (oCarryOut T).2 bb) := by
  obtain ⟨I, A, rfl, hMI⟩ := h
  obtain ⟨hm1, hmp, hmh, hmt⟩ := id hMI
  obtain ⟨⟨hq0, hk10⟩, hql, ⟨hq91, hn6⟩, hqr, ⟨hq4, hnd⟩, ⟨hq5, hqh⟩, ⟨hq6, hqs⟩, hq9, hq10⟩ := id hmp
  refine Con.of (own := RX7) (lv := [(0, .ref (d 0))]) (by decide) rfl (Nat.le_of_ble_eq_true rfl) rfl ?_
  intro E hC hQ hN
  refine j_aload_n hC dX7_carryOut_0 rfl rfl ?_
  refine j_callVR hC [0] (c_X7_lights g _ _ _) mX7_lights k787 rfl rfl rfl rfl rfl ⟨(Nat.le_of_ble_eq_true rfl), (Nat.le_of_ble_eq_true rfl)⟩ (Nat.le_of_ble_eq_true rfl) ⟨(Nat.le_of_ble_eq_true rfl), (Nat.le_of_ble_eq_true rfl)⟩ dX7_carryOut_1 ?_
  dsimp only [jrepl, List.set, jstk]
  refine j_if_ne hC dX7_carryOut_4 (tgt := 9) (by decide) (fun c_4 => ?_) (fun c_4 => ?_)
  · skip
    have hk0 : ¬ (bLs T.1).length = 0 := fun q => c_4 (by rw [hq0, q]; exact nI_0)
    refine j_aload_n hC dX7_carryOut_9 rfl rfl ?_
    refine j_callV hC [0] (c_X7_laysPlan g _ _ _ T.1 hmp) mX7_laysPlan k975 rfl rfl rfl rfl rfl ⟨(Nat.le_of_ble_eq_true rfl), (Nat.le_of_ble_eq_true rfl)⟩ (Nat.le_of_ble_eq_true rfl) ⟨(Nat.le_of_ble_eq_true rfl), (Nat.le_of_ble_eq_true rfl)⟩ dX7_carryOut_10 (fun r_10 b_10 hp_10 _ => ?_)
    obtain ⟨rfl, A_10, rfl, hK_10, hL_10⟩ := hp_10
    have hM_10 : MI I A_10 T := mi_oth hMI (hK_10 1 (by decide)) (hK_10 2 (by decide))
    have hP_10 := hM_10.2.1
    dsimp only [jrepl, List.set, jstk]
    refine j_aload_n hC dX7_carryOut_13 rfl rfl ?_
    refine j_callVR hC [0] (c_X7_hasPlan g _ _ _ T.1 hP_10 hL_10) mX7_hasPlan k983 rfl rfl rfl rfl rfl ⟨(Nat.le_of_ble_eq_true rfl), (Nat.le_of_ble_eq_true rfl)⟩ (Nat.le_of_ble_eq_true rfl) ⟨(Nat.le_of_ble_eq_true rfl), (Nat.le_of_ble_eq_true rfl)⟩ dX7_carryOut_14 ?_
    dsimp only [jrepl, List.set, jstk]
    refine j_if_ne hC dX7_carryOut_17 (tgt := 23) (by decide) (fun c_17 => ?_) (fun c_17 => ?_)
    · skip
      have h99 := jb1 c_17
      have hD10 := dys_10 hk10 (mp_rr hmp) h99
      refine j_aload_n hC dX7_carryOut_23 rfl rfl ?_
      refine j_callVR hC [0] (c_X7_daysNow g _ _ _ T.1 hP_10 hL_10) mX7_daysNow k979 rfl rfl rfl rfl rfl ⟨(Nat.le_of_ble_eq_true rfl), (Nat.le_of_ble_eq_true rfl)⟩ (Nat.le_of_ble_eq_true rfl) ⟨(Nat.le_of_ble_eq_true rfl), (Nat.le_of_ble_eq_true rfl)⟩ dX7_carryOut_24 ?_
      dsimp only [jrepl, List.set, jstk]
      refine j_istore_n hC dX7_carryOut_27 rfl rfl rfl rfl (fun v_27 e_27 => ?_)
      have hvD : v_27 = nI (dysN T.1) := e_27.trans (if_pos h99)
      obtain ⟨hn, hn1, hn2⟩ := mp_hrs hmp
      have h105 : A_10 1 105 = bHrs T.1 := hP_10.2.2.2.2.2.1.1
      refine j_aload_n hC dX7_carryOut_28 rfl rfl ?_
      refine j_get hC uX7 0 0 0 rfl rfl k724 rfl dX7_carryOut_29 ?_
      refine j_bipush hC (105) dX7_carryOut_32 (by decide) ?_
      refine j_ildN hC (m := 105) 0 1 rfl rfl (by decide) (by decide) dX7_carryOut_34 ?_
      refine j_bipush hC (24) dX7_carryOut_35 (by decide) ?_
      refine j_iload_n hC dX7_carryOut_37 rfl rfl ?_
      refine j_imul hC dX7_carryOut_38 ?_
      refine j_iadd hC dX7_carryOut_39 ?_
      refine j_ldc hC (100000) k914 dX7_carryOut_40 ?_
      refine j_icmp_le hC dX7_carryOut_42 (tgt := 48) (by decide) (fun c_42 => ?_) (fun c_42 => ?_)
      · skip
        have hmx := co_max hn1 hn2 hD10 (by rw [← hvD, ← h105]; exact c_42)
        refine j_aload_n hC dX7_carryOut_48 rfl rfl ?_
        refine j_callV hC [0] (c_X7_records_f g _ _ _ T hM_10) mX7_records k791 rfl rfl rfl rfl rfl ⟨(Nat.le_of_ble_eq_true rfl), (Nat.le_of_ble_eq_true rfl)⟩ (Nat.le_of_ble_eq_true rfl) ⟨(Nat.le_of_ble_eq_true rfl), (Nat.le_of_ble_eq_true rfl)⟩ dX7_carryOut_49 (fun r_49 b_49 hp_49 _ => ?_)
        obtain ⟨rfl, I_49, A_49, rfl, hR_49, hRk_49⟩ := hp_49
        have hP_49 : MP (A_49 1) T.1 := hR_49.2.1
        have hL_49 : planT A_49 T.1 := planT_cg hL_10 (hRk_49 7 (by decide)) (hRk_49 8 (by decide))
        dsimp only [jrepl, List.set, jstk]
        refine j_aload_n hC dX7_carryOut_52 rfl rfl ?_
        refine j_get hC uX7 0 0 0 rfl rfl k724 rfl dX7_carryOut_53 ?_
        refine j_bipush hC (110) dX7_carryOut_56 (by decide) ?_
        refine j_ildN hC (m := 110) 0 1 rfl rfl (by decide) (by decide) dX7_carryOut_58 ?_
        refine j_istore_n hC dX7_carryOut_59 rfl rfl rfl rfl (fun v_59 e_59 => ?_)
        refine j_iconst hC (0) dX7_carryOut_60 (by decide) ?_
        refine j_istore_n hC dX7_carryOut_61 rfl rfl rfl rfl (fun v_61 e_61 => ?_)
        have L_62 : ∀ (fu : Nat) (t : Nat) (x3 : Int32) (A1 : Nat → jF) (hfu : dysN T.1 + 1 ≤ t + fu) (ht : t ≤ dysN T.1) (h3 : x3 = nI t) (hPl : ∀ u, u < t → A1 10 u = nI (onN T.1 u)) (hK1 : ∀ k, k ≠ 10 → A1 k = A_49 k), J g (jRm 7 157 0 0) E 5 62 [(0, .ref (d 0)), (1, .int v_27), (2, .int v_59), (3, .int x3)] [] [mc g d I_49 A1] (0) (0) := by
          intro fu
          induction fu with
          | zero => intro t x3 A1 hfu ht h3 hPl hK1; exact absurd hfu (by omega)
          | succ fu ih_62 =>
            intro t x3 A1 hfu ht h3 hPl hK1
            refine j_iload_n hC dX7_carryOut_62 rfl rfl ?_
            refine j_iload_n hC dX7_carryOut_63 rfl rfl ?_
            refine j_icmp_ge hC dX7_carryOut_64 (tgt := 84) (by decide) (fun c_64 => ?_) (fun c_64 => ?_)
            · skip
              have hte : t = dysN T.1 := Nat.le_antisymm ht (jge hvD h3 (by omega) (by omega) c_64)
              rw [hte] at hPl
              refine j_iconst hC (0) dX7_carryOut_84 (by decide) ?_
              refine j_istore_n hC dX7_carryOut_85 rfl rfl rfl rfl (fun v_85 e_85 => ?_)
              have L_86 : ∀ (fu : Nat) (i : Nat) (x3 : Int32) (A2 : Nat → jF) (hfu : dysN T.1 + 1 ≤ i + fu) (hi : i ≤ dysN T.1) (h3b : x3 = nI i) (hPi : MP (A2 1) (coS T.1 i)) (hK2 : ∀ k, k ≠ 1 → A2 k = A1 k) (hT2 : ∀ q, 111 ≤ q → q < 999 → A2 1 q = A_49 1 q), J g (jRm 7 157 0 0) E 5 86 [(0, .ref (d 0)), (1, .int v_27), (2, .int v_59), (3, .int x3)] [] [mc g d I_49 A2] (0) (0) := by
                intro fu
                induction fu with
                | zero => intro i x3 A2 hfu hi h3b hPi hK2 hT2; exact absurd hfu (by omega)
                | succ fu ih_86 =>
                  intro i x3 A2 hfu hi h3b hPi hK2 hT2
                  refine j_iload_n hC dX7_carryOut_86 rfl rfl ?_
                  refine j_iload_n hC dX7_carryOut_87 rfl rfl ?_
                  refine j_icmp_ge hC dX7_carryOut_88 (tgt := 128) (by decide) (fun c_88 => ?_) (fun c_88 => ?_)
                  · skip
                    have hie : i = dysN T.1 := Nat.le_antisymm hi (jge hvD h3b (by omega) (by omega) c_88)
                    rw [hie] at hPi
                    refine j_aload_n hC dX7_carryOut_128 rfl rfl ?_
                    refine j_get hC uX7 0 0 0 rfl rfl k724 rfl dX7_carryOut_129 ?_
                    refine j_bipush hC (110) dX7_carryOut_132 (by decide) ?_
                    refine j_ildN hC (m := 110) 0 1 rfl rfl (by decide) (by decide) dX7_carryOut_134 ?_
                    refine j_iload_n hC dX7_carryOut_135 rfl rfl ?_
                    refine j_isub hC dX7_carryOut_136 ?_
                    refine j_iret hC hQ rfl rfl (Nat.le_of_ble_eq_true rfl) (Nat.le_of_ble_eq_true rfl) dX7_carryOut_137 rfl ?_
                    exact mw_c (T := oPush T (coS T.1 (dysN T.1))) (v := bFa (coS T.1 (dysN T.1)) - bFa T.1) (by unfold oCarryOut; rw [if_neg hk0, if_neg (show ¬ dysV T.1 = -9 from dys_n9 h99), if_pos (by rw [← e_27, ← h105]; exact c_42)]) (by rw [e_59, hPi.2.2.2.2.2.2.2.2, hP_49.2.2.2.2.2.2.2.2]) (mi_hist hR_49 ((hK2 2 (by decide)).trans (hK1 2 (by decide))) hT2 hPi)
                  · skip
                    have hid : i < dysN T.1 := jlt hvD h3b (by omega) (by omega) c_88
                    refine j_aload_n hC dX7_carryOut_91 rfl rfl ?_
                    refine j_aload_n hC dX7_carryOut_92 rfl rfl ?_
                    refine j_get hC uX7 0 0 15 rfl rfl k739 rfl dX7_carryOut_93 ?_
                    refine j_iload_n hC dX7_carryOut_96 rfl rfl ?_
                    refine j_ildN hC (m := i) 0 10 rfl rfl h3b (by omega) dX7_carryOut_97 ?_
                    rw [show A2 10 i = onV T.1 (nI i) by rw [hK2 10 (by decide), hPl i hid, onV_at h99 hid]]
                    refine j_callV hC [0] (c_X7_tests g _ _ _ (coS T.1 i) _ hPi) mX7_tests k967 rfl rfl rfl rfl rfl ⟨(Nat.le_of_ble_eq_true rfl), (Nat.le_of_ble_eq_true rfl)⟩ (Nat.le_of_ble_eq_true rfl) ⟨(Nat.le_of_ble_eq_true rfl), (Nat.le_of_ble_eq_true rfl)⟩ dX7_carryOut_98 (fun r_98 b_98 hp_98 _ => ?_)
                    obtain ⟨rfl, A_98, rfl, hK_98, hT_98, hP_98⟩ := hp_98
                    have hbh : bHrs (burS (onV T.1 (nI i)) (coS T.1 i)) = nI (hn + 24 * i) := co_hrs hn1 i
                    dsimp only [jrepl, List.set, jstk]
                    refine j_pop hC dX7_carryOut_101 rfl ?_
                    refine j_iconst hC (0) dX7_carryOut_102 (by decide) ?_
                    refine j_istore hC dX7_carryOut_103 rfl rfl rfl (fun v_103 e_103 => ?_)
                    have L_105 : ∀ (fu : Nat) (k : Nat) (x4 : Int32) (A3 : Nat → jF) (hfu : 25 ≤ k + fu) (hk : k ≤ 24) (h4 : x4 = nI k) (hPk : MP (A3 1) (hrsS (burS (onV T.1 (nI i)) (coS T.1 i)) k)) (hK3 : ∀ k, k ≠ 1 → A3 k = A_98 k) (hT3 : ∀ q, 111 ≤ q → q < 999 → A3 1 q = A_98 1 q), J g (jRm 7 157 0 0) E 5 105 [(0, .ref (d 0)), (1, .int v_27), (2, .int v_59), (3, .int x3), (4, .int x4)] [] [mc g d I_49 A3] (0) (0) := by
                      intro fu
                      induction fu with
                      | zero => intro k x4 A3 hfu hk h4 hPk hK3 hT3; exact absurd hfu (by omega)
                      | succ fu ih_105 =>
                        intro k x4 A3 hfu hk h4 hPk hK3 hT3
                        refine j_iload hC dX7_carryOut_105 rfl ?_
                        refine j_bipush hC (24) dX7_carryOut_107 (by decide) ?_
                        refine j_icmp_ge hC dX7_carryOut_109 (tgt := 122) (by decide) (fun c_109 => ?_) (fun c_109 => ?_)
                        · skip
                          have hke : k = 24 := Nat.le_antisymm hk (jge (show (24 : Int32) = nI 24 from rfl) h4 (by decide) (by omega) c_109)
                          have hPn : MP (A3 1) (coS T.1 (i + 1)) := by rw [coS_s, show (24 : Int32) = nI 24 from rfl, ← hrs_pas hbh (MP_wf hP_98) (by decide) (by decide) (by omega), ← hke]; exact hPk
                          refine j_iinc hC (1) dX7_carryOut_122 rfl rfl rfl rfl rfl (fun v_122 e_122 => ?_)
                          refine j_goto hC dX7_carryOut_125 (tgt := 86) (by decide) ?_
                          refine j_pick [0, 1, 2, 3] ?_
                          exact ih_86 (i + 1) _ _ (by omega) (by omega) (jsucc e_122 h3b) hPn (fun k hk => (hK3 k hk).trans ((hK_98 k hk).trans (hK2 k hk))) (fun q q1 q2 => (hT3 q q1 q2).trans ((hT_98 q q1 q2).trans (hT2 q q1 q2)))
                        · skip
                          have hkl : k < 24 := jlt (show (24 : Int32) = nI 24 from rfl) h4 (by decide) (by omega) c_109
                          refine j_aload_n hC dX7_carryOut_112 rfl rfl ?_
                          refine j_callV hC [0] (c_X7_hour g _ _ _ (hrsS (burS (onV T.1 (nI i)) (coS T.1 i)) k) (hn + 24 * i + k) hPk (by rw [hrs_map hbh]; rfl) (by omega)) mX7_hour k915 rfl rfl rfl rfl rfl ⟨(Nat.le_of_ble_eq_true rfl), (Nat.le_of_ble_eq_true rfl)⟩ (Nat.le_of_ble_eq_true rfl) ⟨(Nat.le_of_ble_eq_true rfl), (Nat.le_of_ble_eq_true rfl)⟩ dX7_carryOut_113 (fun r_113 b_113 hp_113 _ => ?_)
                          obtain ⟨rfl, A_113, rfl, hK_113, hT_113, hP_113⟩ := hp_113
                          dsimp only [jrepl, List.set, jstk]
                          refine j_iinc hC (1) dX7_carryOut_116 rfl rfl rfl rfl rfl (fun v_116 e_116 => ?_)
                          refine j_goto hC dX7_carryOut_119 (tgt := 105) (by decide) ?_
                          refine j_pick [0, 1, 2, 3, 4] ?_
                          exact ih_105 (k + 1) _ _ (by omega) (by omega) (jsucc e_116 h4) hP_113 (fun q hq => (hK_113 q hq).trans (hK3 q hq)) (fun q q1 q2 => (hT_113 q q1 q2).trans (hT3 q q1 q2))
                    refine j_pick [0, 1, 2, 3, 4] ?_
                    exact L_105 (25) 0 _ _ (by omega) (by omega) (e_103.trans nI_0.symm) hP_98 (fun _ _ => rfl) (fun _ _ _ => rfl)
              refine j_pick [0, 1, 2, 3] ?_
              exact L_86 (dysN T.1 + 1) 0 _ _ (by omega) (by omega) (e_85.trans nI_0.symm) (by rw [hK1 1 (by decide)]; exact hP_49) (fun _ _ => rfl) (fun q _ _ => by rw [hK1 1 (by decide)])
            · skip
              have htd : t < dysN T.1 := jlt hvD h3 (by omega) (by omega) c_64
              refine j_aload_n hC dX7_carryOut_67 rfl rfl ?_
              refine j_get hC uX7 0 0 15 rfl rfl k739 rfl dX7_carryOut_68 ?_
              refine j_iload_n hC dX7_carryOut_71 rfl rfl ?_
              refine j_aload_n hC dX7_carryOut_72 rfl rfl ?_
              refine j_iload_n hC dX7_carryOut_73 rfl rfl ?_
              refine j_callVR hC [0] (c_X7_setOf g _ _ _ T.1 t _ (by rw [hK1 1 (by decide)]; exact hP_49) (planT_cg hL_49 (hK1 7 (by decide)) (hK1 8 (by decide))) h3 htd h99) mX7_setOf k991 rfl rfl rfl rfl rfl ⟨(Nat.le_of_ble_eq_true rfl), (Nat.le_of_ble_eq_true rfl)⟩ (Nat.le_of_ble_eq_true rfl) ⟨(Nat.le_of_ble_eq_true rfl), (Nat.le_of_ble_eq_true rfl)⟩ dX7_carryOut_74 ?_
              dsimp only [jrepl, List.set, jstk]
              refine j_st_7_10 (bi := 0) (m := t) hC rfl h3 (by omega) dX7_carryOut_77 (fun A_77 hA_77 hK_77 => ?_)
              dsimp only [List.set]
              refine j_iinc hC (1) dX7_carryOut_78 rfl rfl rfl rfl rfl (fun v_78 e_78 => ?_)
              refine j_goto hC dX7_carryOut_81 (tgt := 62) (by decide) ?_
              refine j_pick [0, 1, 2, 3] ?_
              exact ih_62 (t + 1) _ _ (by omega) (by omega) (jsucc e_78 h3) (fun u hu => (Nat.lt_or_ge u t).elim (fun w => by rw [hA_77, pk_un (by omega)]; exact hPl u w) (fun w => by rw [show u = t by omega, hA_77, pk_us])) (fun k hk => (hK_77 k hk).trans (hK1 k hk))
        refine j_pick [0, 1, 2, 3] ?_
        exact L_62 (dysN T.1 + 1) 0 _ _ (by omega) (by omega) (e_61.trans nI_0.symm) (fun u hu => absurd hu (Nat.not_lt_zero u)) (fun _ _ => rfl)
      · skip
        refine j_bipush hC (-3) dX7_carryOut_45 (by decide) ?_
        refine j_iret hC hQ rfl rfl (Nat.le_of_ble_eq_true rfl) (Nat.le_of_ble_eq_true rfl) dX7_carryOut_47 rfl ?_
        exact mw_o (T := T) (by unfold oCarryOut; rw [if_neg hk0, if_neg (show ¬ dysV T.1 = -9 from dys_n9 h99), if_neg (by rw [← e_27, ← h105]; exact c_42)]) hM_10
    · skip
      refine j_bipush hC (-2) dX7_carryOut_20 (by decide) ?_
      refine j_iret hC hQ rfl rfl (Nat.le_of_ble_eq_true rfl) (Nat.le_of_ble_eq_true rfl) dX7_carryOut_22 rfl ?_
      exact mw_o (T := T) (by unfold oCarryOut; rw [if_neg hk0, if_pos (show dysV T.1 = -9 from if_neg (jb0 c_17))]) hM_10
  · skip
    refine j_iconst hC (-1) dX7_carryOut_7 (by decide) ?_
    refine j_iret hC hQ rfl rfl (Nat.le_of_ble_eq_true rfl) (Nat.le_of_ble_eq_true rfl) dX7_carryOut_8 rfl ?_
    exact mw_o (T := T) (by unfold oCarryOut; rw [if_pos (nI_injN (by omega) (by decide) (hq0.symm.trans (c_4.trans nI_0.symm)))]) hMI
