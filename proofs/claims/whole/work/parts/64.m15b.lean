set_option maxHeartbeats 1000000 in
set_option maxRecDepth 100000 in
theorem c_X7_records_g (g : jG) (d : Nat → Nat) (I : jF) (A : Nat → jF) (T : St3) (hMI : MI I A T) : Con g yX7_records cX7_records 2 none 0 0 0 0 [.ref (d 0)] [mc g d I A] (fun r b => r = none ∧ ∃ (I1 : jF) (A1 : Nat → jF), b = [mc g d I1 A1] ∧ MI I1 A1 (oPush T T.1) ∧ (∀ q, q ≠ 1 → A1 q = A q) ∧ (∀ q, q ≠ 1 → I1 q = I q)) := by
  refine Con.of (own := RX7) (lv := [(0, .ref (d 0))]) (by decide) rfl (Nat.le_of_ble_eq_true rfl) rfl ?_
  intro E hC hQ hN
  refine j_aload_n hC dX7_records_0 rfl rfl ?_
  refine j_get hC uX7 0 0 1 rfl rfl k725 rfl dX7_records_1 ?_
  refine j_bipush hC (8) dX7_records_4 (by decide) ?_
  refine j_icmp_ne hC dX7_records_6 (tgt := 50) (by decide) (fun c_6 => ?_) (fun c_6 => ?_)
  · skip
    refine j_aload_n hC dX7_records_50 rfl rfl ?_
    refine j_dup hC dX7_records_51 rfl ?_
    refine j_get hC uX7 0 0 1 rfl rfl k725 rfl dX7_records_52 ?_
    refine j_iconst hC (1) dX7_records_55 (by decide) ?_
    refine j_iadd hC dX7_records_56 ?_
    refine j_put_7_1 (bi := 0) hC rfl k725 dX7_records_57 ?_
    dsimp only [List.set]
    refine j_mgen (fun I2 A3 hI2 hA3 => ?_)
    have hmid : recMid I I2 A A3 T := by first | exact recMid_a hMI c_6 hI2 hA3 | exact recMid_b hMI (Decidable.not_not.mp c_6) hP hK hI2 hA3 | exact recMid_b hMI c_6 hP hK hI2 hA3
    have hl7 : (T.2.1.take 7).length ≤ 7 := by rw [List.length_take]; omega
    refine j_iconst hC (0) dX7_records_60 (by decide) ?_
    refine j_istore_n hC dX7_records_61 rfl rfl rfl rfl (fun v_61 e_61 => ?_)
    have L_62 : ∀ (fu : Nat) (m : Nat) (x1 : Int32) (A2 : Nat → jF) (hfu : 112 ≤ m + fu) (hm : m ≤ 111) (h1 : x1 = nI m) (hP2 : ∀ q, A2 1 q = if 111 * ((T.2.1.take 7).length + 1) ≤ q ∧ q < 111 * ((T.2.1.take 7).length + 1) + m then A3 1 (q - 111 * ((T.2.1.take 7).length + 1)) else A3 1 q) (hK2 : ∀ q, q ≠ 1 → A2 q = A3 q), J g (jRm 0 0 0 0) E 2 62 [(0, .ref (d 0)), (1, .int x1)] [] [mc g d I2 A2] (0) (0) := by
      intro fu
      induction fu with
      | zero => intro m x1 A2 hfu hm h1 hP2 hK2; exact absurd hfu (by omega)
      | succ fu ih_62 =>
        intro m x1 A2 hfu hm h1 hP2 hK2
        refine j_iload_n hC dX7_records_62 rfl rfl ?_
        refine j_bipush hC (111) dX7_records_63 (by decide) ?_
        refine j_icmp_ge hC dX7_records_65 (tgt := 94) (by decide) (fun c_65 => ?_) (fun c_65 => ?_)
        · skip
          have hme : m = 111 := Nat.le_antisymm (by omega) (jge (show (111 : Int32) = nI 111 from rfl) h1 (by decide) (by omega) c_65)
          rw [hme] at hP2
          refine j_vret hC hQ rfl (Nat.le_of_ble_eq_true rfl) (Nat.le_of_ble_eq_true rfl) dX7_records_94 rfl ?_
          exact ⟨rfl, I2, A2, rfl, recEnd hMI hmid hP2 hK2, fun q hq => (hK2 q hq).trans (hmid.2.2.2.2 q hq), fun q hq => by first | rw [hI2, pk_un hq, pk_un hq] | rw [hI2, pk_un hq]⟩
        · skip
          have hml : m < 111 := jlt (show (111 : Int32) = nI 111 from rfl) h1 (by decide) (by omega) c_65
          refine j_aload_n hC dX7_records_68 rfl rfl ?_
          refine j_get hC uX7 0 0 0 rfl rfl k724 rfl dX7_records_69 ?_
          refine j_bipush hC (111) dX7_records_72 (by decide) ?_
          refine j_aload_n hC dX7_records_74 rfl rfl ?_
          refine j_get hC uX7 0 0 1 rfl rfl k725 rfl dX7_records_75 ?_
          refine j_imul hC dX7_records_78 ?_
          refine j_iload_n hC dX7_records_79 rfl rfl ?_
          refine j_iadd hC dX7_records_80 ?_
          refine j_aload_n hC dX7_records_81 rfl rfl ?_
          refine j_get hC uX7 0 0 0 rfl rfl k724 rfl dX7_records_82 ?_
          refine j_iload_n hC dX7_records_85 rfl rfl ?_
          refine j_ildN hC (m := m) 0 1 rfl rfl h1 (by omega) dX7_records_86 ?_
          refine j_st_7_1 (bi := 0) (m := 111 * ((T.2.1.take 7).length + 1) + m) hC rfl (by rw [hmid.1, h1, show (111 : Int32) = nI 111 from rfl, pk_mul, nI_add]) (by omega) dX7_records_87 (fun A_87 hA_87 hK_87 => ?_)
          dsimp only [List.set]
          refine j_iinc hC (1) dX7_records_88 rfl rfl rfl rfl rfl (fun v_88 e_88 => ?_)
          refine j_goto hC dX7_records_91 (tgt := 62) (by decide) ?_
          refine j_pick [0, 1] ?_
          exact ih_62 (m + 1) _ _ (by omega) (by omega) (jsucc e_88 h1) (cpy1 hP2 hml (by omega) hA_87) (fun q hq => (hK_87 q hq).trans (hK2 q hq))
    refine j_pick [0, 1] ?_
    exact L_62 (112) 0 _ _ (by omega) (by omega) (e_61.trans nI_0.symm) (fun q => by rw [if_neg (by omega)]) (fun _ _ => rfl)
  · skip
    refine j_bipush hC (111) dX7_records_9 (by decide) ?_
    refine j_istore_n hC dX7_records_11 rfl rfl rfl rfl (fun v_11 e_11 => ?_)
    have L_12 : ∀ (fu : Nat) (m : Nat) (x1 : Int32) (A1 : Nat → jF) (hfu : 889 ≤ m + fu) (hm : 111 ≤ m ∧ m ≤ 888) (h1 : x1 = nI m) (hP : ∀ q, A1 1 q = if 111 ≤ q ∧ q < m then A 1 (q + 111) else A 1 q) (hK : ∀ q, q ≠ 1 → A1 q = A q), J g (jRm 0 0 0 0) E 2 12 [(0, .ref (d 0)), (1, .int x1)] [] [mc g d I A1] (0) (0) := by
      intro fu
      induction fu with
      | zero => intro m x1 A1 hfu hm h1 hP hK; exact absurd hfu (by omega)
      | succ fu ih_12 =>
        intro m x1 A1 hfu hm h1 hP hK
        refine j_iload_n hC dX7_records_12 rfl rfl ?_
        refine j_sipush hC (888) dX7_records_13 (by decide) ?_
        refine j_icmp_ge hC dX7_records_16 (tgt := 40) (by decide) (fun c_16 => ?_) (fun c_16 => ?_)
        · skip
          have hme : m = 888 := Nat.le_antisymm (by omega) (jge (show (888 : Int32) = nI 888 from rfl) h1 (by decide) (by omega) c_16)
          rw [hme] at hP
          refine j_aload_n hC dX7_records_40 rfl rfl ?_
          refine j_dup hC dX7_records_41 rfl ?_
          refine j_get hC uX7 0 0 1 rfl rfl k725 rfl dX7_records_42 ?_
          refine j_iconst hC (1) dX7_records_45 (by decide) ?_
          refine j_isub hC dX7_records_46 ?_
          refine j_put_7_1 (bi := 0) hC rfl k725 dX7_records_47 ?_
          dsimp only [List.set]
          refine j_aload_n hC dX7_records_50 rfl rfl ?_
          refine j_dup hC dX7_records_51 rfl ?_
          refine j_get hC uX7 0 0 1 rfl rfl k725 rfl dX7_records_52 ?_
          refine j_iconst hC (1) dX7_records_55 (by decide) ?_
          refine j_iadd hC dX7_records_56 ?_
          refine j_put_7_1 (bi := 0) hC rfl k725 dX7_records_57 ?_
          dsimp only [List.set]
          refine j_mgen (fun I2 A3 hI2 hA3 => ?_)
          have hmid : recMid I I2 A A3 T := by first | exact recMid_a hMI c_6 hI2 hA3 | exact recMid_b hMI (Decidable.not_not.mp c_6) hP hK hI2 hA3 | exact recMid_b hMI c_6 hP hK hI2 hA3
          have hl7 : (T.2.1.take 7).length ≤ 7 := by rw [List.length_take]; omega
          refine j_iconst hC (0) dX7_records_60 (by decide) ?_
          refine j_istore_n hC dX7_records_61 rfl rfl rfl rfl (fun v_61 e_61 => ?_)
          have L_62 : ∀ (fu : Nat) (m : Nat) (x1 : Int32) (A2 : Nat → jF) (hfu : 112 ≤ m + fu) (hm : m ≤ 111) (h1 : x1 = nI m) (hP2 : ∀ q, A2 1 q = if 111 * ((T.2.1.take 7).length + 1) ≤ q ∧ q < 111 * ((T.2.1.take 7).length + 1) + m then A3 1 (q - 111 * ((T.2.1.take 7).length + 1)) else A3 1 q) (hK2 : ∀ q, q ≠ 1 → A2 q = A3 q), J g (jRm 0 0 0 0) E 2 62 [(0, .ref (d 0)), (1, .int x1)] [] [mc g d I2 A2] (0) (0) := by
            intro fu
            induction fu with
            | zero => intro m x1 A2 hfu hm h1 hP2 hK2; exact absurd hfu (by omega)
            | succ fu ih_62 =>
              intro m x1 A2 hfu hm h1 hP2 hK2
              refine j_iload_n hC dX7_records_62 rfl rfl ?_
              refine j_bipush hC (111) dX7_records_63 (by decide) ?_
              refine j_icmp_ge hC dX7_records_65 (tgt := 94) (by decide) (fun c_65 => ?_) (fun c_65 => ?_)
              · skip
                have hme : m = 111 := Nat.le_antisymm (by omega) (jge (show (111 : Int32) = nI 111 from rfl) h1 (by decide) (by omega) c_65)
                rw [hme] at hP2
                refine j_vret hC hQ rfl (Nat.le_of_ble_eq_true rfl) (Nat.le_of_ble_eq_true rfl) dX7_records_94 rfl ?_
                exact ⟨rfl, I2, A2, rfl, recEnd hMI hmid hP2 hK2, fun q hq => (hK2 q hq).trans (hmid.2.2.2.2 q hq), fun q hq => by first | rw [hI2, pk_un hq, pk_un hq] | rw [hI2, pk_un hq]⟩
              · skip
                have hml : m < 111 := jlt (show (111 : Int32) = nI 111 from rfl) h1 (by decide) (by omega) c_65
                refine j_aload_n hC dX7_records_68 rfl rfl ?_
                refine j_get hC uX7 0 0 0 rfl rfl k724 rfl dX7_records_69 ?_
                refine j_bipush hC (111) dX7_records_72 (by decide) ?_
                refine j_aload_n hC dX7_records_74 rfl rfl ?_
                refine j_get hC uX7 0 0 1 rfl rfl k725 rfl dX7_records_75 ?_
                refine j_imul hC dX7_records_78 ?_
                refine j_iload_n hC dX7_records_79 rfl rfl ?_
                refine j_iadd hC dX7_records_80 ?_
                refine j_aload_n hC dX7_records_81 rfl rfl ?_
                refine j_get hC uX7 0 0 0 rfl rfl k724 rfl dX7_records_82 ?_
                refine j_iload_n hC dX7_records_85 rfl rfl ?_
                refine j_ildN hC (m := m) 0 1 rfl rfl h1 (by omega) dX7_records_86 ?_
                refine j_st_7_1 (bi := 0) (m := 111 * ((T.2.1.take 7).length + 1) + m) hC rfl (by rw [hmid.1, h1, show (111 : Int32) = nI 111 from rfl, pk_mul, nI_add]) (by omega) dX7_records_87 (fun A_87 hA_87 hK_87 => ?_)
                dsimp only [List.set]
                refine j_iinc hC (1) dX7_records_88 rfl rfl rfl rfl rfl (fun v_88 e_88 => ?_)
                refine j_goto hC dX7_records_91 (tgt := 62) (by decide) ?_
                refine j_pick [0, 1] ?_
                exact ih_62 (m + 1) _ _ (by omega) (by omega) (jsucc e_88 h1) (cpy1 hP2 hml (by omega) hA_87) (fun q hq => (hK_87 q hq).trans (hK2 q hq))
          refine j_pick [0, 1] ?_
          exact L_62 (112) 0 _ _ (by omega) (by omega) (e_61.trans nI_0.symm) (fun q => by rw [if_neg (by omega)]) (fun _ _ => rfl)
        · skip
          have hml : m < 888 := jlt (show (888 : Int32) = nI 888 from rfl) h1 (by decide) (by omega) c_16
          refine j_aload_n hC dX7_records_19 rfl rfl ?_
          refine j_get hC uX7 0 0 0 rfl rfl k724 rfl dX7_records_20 ?_
          refine j_iload_n hC dX7_records_23 rfl rfl ?_
          refine j_aload_n hC dX7_records_24 rfl rfl ?_
          refine j_get hC uX7 0 0 0 rfl rfl k724 rfl dX7_records_25 ?_
          refine j_iload_n hC dX7_records_28 rfl rfl ?_
          refine j_bipush hC (111) dX7_records_29 (by decide) ?_
          refine j_iadd hC dX7_records_31 ?_
          refine j_ildN hC (m := m + 111) 0 1 rfl rfl (by rw [h1]; exact nI_add m 111) (by omega) dX7_records_32 ?_
          refine j_st_7_1 (bi := 0) (m := m) hC rfl h1 (by omega) dX7_records_33 (fun A_33 hA_33 hK_33 => ?_)
          dsimp only [List.set]
          refine j_iinc hC (1) dX7_records_34 rfl rfl rfl rfl rfl (fun v_34 e_34 => ?_)
          refine j_goto hC dX7_records_37 (tgt := 12) (by decide) ?_
          refine j_pick [0, 1] ?_
          exact ih_12 (m + 1) _ _ (by omega) (by omega) (jsucc e_34 h1) (shf1 hP hm.1 hA_33) (fun q hq => (hK_33 q hq).trans (hK q hq))
    refine j_pick [0, 1] ?_
    exact L_12 (889) 111 _ _ (by omega) (by omega) (e_11.trans rfl) (fun q => by rw [if_neg (by omega)]) (fun _ _ => rfl)
/-! the reader: the text -/
theorem ri_stop {f : jF} {fu : Nat} {J : jF} {ls : List jF} {rs : List (Int32 × Int32)} (h : ¬ J 3 = -1) : rInto f fu J ls rs = (J, ls, rs) := rInto_0 (fun w => h w.2)
theorem pair_1 {α β : Type} {R : α × β} {a : α} {b : β} (e : R = (a, b)) : R.1 = a := by rw [e]
theorem ri_go {J : jF} {n q : Nat} (hJ : jS J n q (-1)) (hq : q < n) (hn : n ≤ 80) : ¬ J 1 ≤ J 2 ∧ J 3 = -1 := ⟨by rw [hJ.1, hJ.2.1, nI_leI (by omega) (by omega)]; omega, hJ.2.2⟩
theorem ri_end {f : jF} {fu n q : Nat} {J : jF} {ls : List jF} {rs : List (Int32 × Int32)} (hJ : jS J n q (-1)) (hq : n ≤ q) (hn : n ≤ 80) (hq2 : q ≤ 80) : rInto f fu J ls rs = (J, ls, rs) := rInto_0 (fun w => w.1 (by rw [hJ.1, hJ.2.1, nI_leI (by omega) (by omega)]; exact hq))
/-- how far the class's reader is when the model is at a place -/
def LD (f : jF) (n q : Nat) (R : jF × List jF × List (Int32 × Int32)) (I1 : jF) (A1 : Nat → jF) : Prop := ∃ (J : jF) (fl : Nat) (ls : List jF) (rs : List (Int32 × Int32)), R = rInto f fl J ls rs ∧ jS J n q (-1) ∧ 80 ≤ fl + q ∧ I1 4 = nI q ∧ I1 8 = nI ls.length ∧ I1 9 = nI rs.length ∧ ls.length ≤ 10 ∧ rs.length ≤ 6 ∧ (∀ i, i < ls.length → lrg (A1 3) (5 * i) ∧ ls[i]? = some (lnw (A1 3) (5 * i))) ∧ ∀ i, i < rs.length → rs[i]? = some (A1 4 (2 * i), A1 4 (2 * i + 1)) ∧ ∃ a b : Nat, A1 4 (2 * i) = nI a ∧ A1 4 (2 * i + 1) = nI b ∧ a ≤ b ∧ b ≤ 200
def LX (f : jF) (n q : Nat) (R : jF × List jF × List (Int32 × Int32)) (x1 : Int32) (I1 : jF) (A1 : Nat → jF) : Prop := (x1 = 1 ∧ q ≤ n ∧ LD f n q R I1 A1) ∨ (x1 = 0 ∧ ∃ s, s ≤ n ∧ I1 4 = nI s ∧ R.1 3 = nI s)
theorem ld_pf {f : jF} {n q s fl : Nat} {R : jF × List jF × List (Int32 × Int32)} {J : jF} {ls : List jF} {rs : List (Int32 × Int32)} (hn : n ≤ 80) (hR : R = rInto f fl J ls rs) (hJ : jS J n q (-1)) (hfl : 80 ≤ fl + q) (hq : q < n) (hc : f q = 112) (hs : s ≤ n) (h : (ls.length = 10 ∧ s = q) ∨ (ls.length < 10 ∧ ∀ J, jS J n q (-1) → rlZ J f 3 = nI s)) : R.1 3 = nI s := by
  obtain ⟨fl', rfl⟩ : ∃ k, fl = k + 1 := ⟨fl - 1, by omega⟩
  have hk := tpk_in (f := f) hJ hn hq
  rcases h with ⟨h1, h2⟩ | ⟨h1, h2⟩
  · rw [hR, rInto_c (ri_go hJ hq hn) (fun w => by have := w.2; omega) (fun w => absurd (w.1.symm.trans (hk.trans hc)) (by decide)), hJ.2.1]
    have h3 : tFl J (nI q) 3 = nI q := tFl_new hJ.2.2
    rw [ri_stop (by rw [h3]; exact nI_n1 (by omega)), h2]; exact h3
  · have h3 := h2 J hJ
    have e := hR.trans ((rInto_a (ri_go hJ hq hn) ⟨hk.trans hc, h1⟩).trans (ri_stop (J := rlZ J f) (fun z => nI_n1 (s := s) (by omega) (h3.symm.trans z))))
    exact (congrFun (pair_1 e) 3).trans h3
theorem ld_rf {f : jF} {n q s fl : Nat} {R : jF × List jF × List (Int32 × Int32)} {J : jF} {ls : List jF} {rs : List (Int32 × Int32)} (hn : n ≤ 80) (hR : R = rInto f fl J ls rs) (hJ : jS J n q (-1)) (hfl : 80 ≤ fl + q) (hq : q < n) (hc : f q = 114) (hs : s ≤ n) (h : (rs.length = 6 ∧ s = q) ∨ (rs.length < 6 ∧ ∀ J, jS J n q (-1) → rrZ J f 3 = nI s)) : R.1 3 = nI s := by
  obtain ⟨fl', rfl⟩ : ∃ k, fl = k + 1 := ⟨fl - 1, by omega⟩
  have hk := tpk_in (f := f) hJ hn hq
  have hnp : ¬ (tPk J f = 112 ∧ ls.length < 10) := fun w => absurd (w.1.symm.trans (hk.trans hc)) (by decide)
  rcases h with ⟨h1, h2⟩ | ⟨h1, h2⟩
  · rw [hR, rInto_c (ri_go hJ hq hn) hnp (fun w => by have := w.2; omega), hJ.2.1]
    have h3 : tFl J (nI q) 3 = nI q := tFl_new hJ.2.2
    rw [ri_stop (by rw [h3]; exact nI_n1 (by omega)), h2]; exact h3
  · have h3 := h2 J hJ
    have e := hR.trans ((rInto_b (ri_go hJ hq hn) hnp ⟨hk.trans hc, h1⟩).trans (ri_stop (J := rrZ J f) (fun z => nI_n1 (s := s) (by omega) (h3.symm.trans z))))
    exact (congrFun (pair_1 e) 3).trans h3
theorem ld_of {f : jF} {n q fl : Nat} {R : jF × List jF × List (Int32 × Int32)} {J : jF} {ls : List jF} {rs : List (Int32 × Int32)} (hn : n ≤ 80) (hR : R = rInto f fl J ls rs) (hJ : jS J n q (-1)) (hfl : 80 ≤ fl + q) (hq : q < n) (hc : ¬ f q = 112) (hc2 : ¬ f q = 114) : R.1 3 = nI q := by
  obtain ⟨fl', rfl⟩ : ∃ k, fl = k + 1 := ⟨fl - 1, by omega⟩
  have hk := tpk_in (f := f) hJ hn hq
  rw [hR, rInto_c (ri_go hJ hq hn) (fun w => hc (hk.symm.trans w.1)) (fun w => hc2 (hk.symm.trans w.1)), hJ.2.1]
  have h3 : tFl J (nI q) 3 = nI q := tFl_new hJ.2.2
  rw [ri_stop (by rw [h3]; exact nI_n1 (by omega))]; exact h3
theorem ld_p {f : jF} {n q q' fl : Nat} {R : jF × List jF × List (Int32 × Int32)} {J I1 I2 : jF} {A1 A2 : Nat → jF} {ls : List jF} {rs : List (Int32 × Int32)} (hn : n ≤ 80) (hR : R = rInto f fl J ls rs) (hJ : jS J n q (-1)) (hfl : 80 ≤ fl + q) (hq : q < n) (hc : f q = 112) (hqq : q < q') (h10 : ls.length < 10) (h4 : I2 4 = nI q') (h8 : I2 8 = nI (ls.length + 1)) (h9 : I2 9 = I1 9) (hr9 : I1 9 = nI rs.length) (hr6 : rs.length ≤ 6) (hA4 : A2 4 = A1 4) (hA3 : ∀ i, i < 5 * ls.length → A2 3 i = A1 3 i) (hl : ∀ i, i < ls.length → lrg (A1 3) (5 * i) ∧ ls[i]? = some (lnw (A1 3) (5 * i))) (hr : ∀ i, i < rs.length → rs[i]? = some (A1 4 (2 * i), A1 4 (2 * i + 1)) ∧ ∃ a b : Nat, A1 4 (2 * i) = nI a ∧ A1 4 (2 * i + 1) = nI b ∧ a ≤ b ∧ b ≤ 200) (hn1 : lrg (A2 3) (5 * ls.length)) (hn2 : ∀ J, jS J n q (-1) → jS (rlZ J f) n q' (-1) ∧ rlL J f = lnw (A2 3) (5 * ls.length)) : LD f n q' R I2 A2 := by
  obtain ⟨fl', rfl⟩ : ∃ k, fl = k + 1 := ⟨fl - 1, by omega⟩
  have hk := tpk_in (f := f) hJ hn hq
  obtain ⟨z1, z2⟩ := hn2 J hJ
  refine ⟨rlZ J f, fl', ls ++ [lnw (A2 3) (5 * ls.length)], rs, ?_, z1, by omega, h4, by rw [List.length_append]; exact h8, h9.trans hr9, by rw [List.length_append]; show ls.length + 1 ≤ 10; omega, hr6, fun i hi => ?_, by rw [hA4]; exact hr⟩
  · rw [hR, rInto_a (ri_go hJ hq hn) ⟨hk.trans hc, h10⟩, if_pos z1.2.2, z2]
  · rcases Nat.lt_or_ge i ls.length with w | w
    · obtain ⟨u1, u2⟩ := hl i w
      have e : ∀ k, k < 5 → A2 3 (5 * i + k) = A1 3 (5 * i + k) := fun k hk => hA3 _ (by omega)
      rw [List.getElem?_append_left w, u2]
      unfold lrg lnw at *
      rw [show A2 3 (5 * i) = A1 3 (5 * i) from e 0 (by decide), e 1 (by decide), e 2 (by decide), e 3 (by decide), e 4 (by decide)]
      exact ⟨u1, rfl⟩
    · have e : i = ls.length := by rw [List.length_append] at hi; have : i < ls.length + 1 := hi; omega
      subst e
      exact ⟨hn1, by rw [List.getElem?_append_right (Nat.le_refl _)]; simp⟩
theorem ld_r {f : jF} {n q q' fl : Nat} {R : jF × List jF × List (Int32 × Int32)} {J I1 I2 : jF} {A1 A2 : Nat → jF} {ls : List jF} {rs : List (Int32 × Int32)} (hn : n ≤ 80) (hR : R = rInto f fl J ls rs) (hJ : jS J n q (-1)) (hfl : 80 ≤ fl + q) (hq : q < n) (hc : f q = 114) (hqq : q < q') (h6 : rs.length < 6) (h4 : I2 4 = nI q') (h9 : I2 9 = nI (rs.length + 1)) (h8 : I2 8 = I1 8) (hr8 : I1 8 = nI ls.length) (hl10 : ls.length ≤ 10) (hA3 : A2 3 = A1 3) (hA4 : ∀ i, i < 2 * rs.length → A2 4 i = A1 4 i) (hl : ∀ i, i < ls.length → lrg (A1 3) (5 * i) ∧ ls[i]? = some (lnw (A1 3) (5 * i))) (hr : ∀ i, i < rs.length → rs[i]? = some (A1 4 (2 * i), A1 4 (2 * i + 1)) ∧ ∃ a b : Nat, A1 4 (2 * i) = nI a ∧ A1 4 (2 * i + 1) = nI b ∧ a ≤ b ∧ b ≤ 200) (hn1 : ∃ a b : Nat, A2 4 (2 * rs.length) = nI a ∧ A2 4 (2 * rs.length + 1) = nI b ∧ a ≤ b ∧ b ≤ 200) (hn2 : ∀ J, jS J n q (-1) → jS (rrZ J f) n q' (-1) ∧ rrF J f = A2 4 (2 * rs.length) ∧ rrT J f = A2 4 (2 * rs.length + 1)) : LD f n q' R I2 A2 := by
  obtain ⟨fl', rfl⟩ : ∃ k, fl = k + 1 := ⟨fl - 1, by omega⟩
  have hk := tpk_in (f := f) hJ hn hq
  obtain ⟨z1, z2, z3⟩ := hn2 J hJ
  refine ⟨rrZ J f, fl', ls, rs ++ [(A2 4 (2 * rs.length), A2 4 (2 * rs.length + 1))], ?_, z1, by omega, h4, h8.trans hr8, by rw [List.length_append]; exact h9, hl10, by rw [List.length_append]; show rs.length + 1 ≤ 6; omega, by rw [hA3]; exact hl, fun i hi => ?_⟩
  · rw [hR, rInto_b (ri_go hJ hq hn) (fun w => absurd (w.1.symm.trans (hk.trans hc)) (by decide)) ⟨hk.trans hc, h6⟩, if_pos z1.2.2, z2, z3]
  · rcases Nat.lt_or_ge i rs.length with w | w
    · obtain ⟨u1, u2⟩ := hr i w
      rw [List.getElem?_append_left w, hA4 (2 * i) (by omega), hA4 (2 * i + 1) (by omega)]
      exact ⟨u1, u2⟩
    · have e : i = rs.length := by rw [List.length_append] at hi; have : i < rs.length + 1 := hi; omega
      subst e
      exact ⟨by rw [List.getElem?_append_right (Nat.le_refl _)]; simp, hn1⟩
theorem MP_lts {P Q : jF} {S : BS} {ls : List jF} (h : MP P S) (h0 : Q 0 = nI ls.length) (hl : ls.length ≤ 10) (hL : ∀ i, i < ls.length → ∃ L, ls[i]? = some L ∧ lok 5400 Q i L) (hf : ∀ q, 91 ≤ q → Q q = P q) : MP Q (sLs S ls) := by
  obtain ⟨⟨h1, h2⟩, h3, ⟨h4, h5⟩, h6, ⟨h7, h8⟩, ⟨h9, h10⟩, ⟨h11, h12⟩, h13, h14⟩ := h
  refine ⟨⟨h0, hl⟩, fun i hi => ?_, ⟨(hf 91 (by decide)).trans h4, h5⟩, fun r hr => ?_, ⟨(hf 104 (by decide)).trans h7, h8⟩, ⟨(hf 105 (by decide)).trans h9, h10⟩, ⟨?_, fun l hl => ?_⟩, (hf 109 (by decide)).trans h13, (hf 110 (by decide)).trans h14⟩
  · obtain ⟨L, e1, e2⟩ := hL i hi
    rw [show LI (sLs S ls) i = L from LI_of e1]; exact e2
  · rw [hf (92 + 2 * r) (by omega), hf (92 + 2 * r + 1) (by omega)]; exact h6 r hr
  · rw [hf 106 (by decide), hf 107 (by decide), hf 108 (by decide)]; exact h11
  · rw [hf (106 + l) (by omega)]; exact h12 l hl
theorem MI_any {I J : jF} {A B : Nat → jF} {T : St3} (h : MI I A T) (h1 : J 1 = I 1) (h3 : J 3 = I 3) (hA : B 1 = A 1) (hB : B 2 = A 2) : MI J B T := by
  obtain ⟨g1, g2, g3, g4⟩ := h
  exact ⟨h1.trans g1, by rw [hA]; exact g2, by rw [hA]; exact g3, by rw [hB]; exact MT_I g4 h3⟩
theorem ld_all {I f : jF} {ts : List Int32} (h : MT I f ts) : ∃ J : jF, jS J ts.length 0 (-1) ∧ (rInto f 80 J [] []).1 3 = (rdT ts).1 3 ∧ (rInto f 80 J [] []).2 = (rdT ts).2 := by
  have hc : ctext (fun i => if i = 1 then nI ts.length else 0) f ts := ⟨rfl, h.2.1, fun i hi => (h.2.2 i hi).1⟩
  obtain ⟨e1, e2⟩ := rdT_of hc
  exact ⟨_, ⟨rfl, nI_0.symm, rfl⟩, e1.2.2.2, e2⟩
theorem cpyR {P P1 Q : jF} {g' : jF} {m : Nat} (h : ∀ q, P1 q = if 92 ≤ q ∧ q < 92 + m then g' (q - 92) else P q) (e : Q = upd P1 (92 + m) (g' m)) : ∀ q, Q q = if 92 ≤ q ∧ q < 92 + (m + 1) then g' (q - 92) else P q := by
  intro q
  rw [e]
  by_cases w : q = 92 + m
  · rw [w, pk_us, if_pos (by omega)]; exact congrArg g' (by omega)
  · rw [pk_un w, h q]
    by_cases w2 : 92 ≤ q ∧ q < 92 + m
    · rw [if_pos w2, if_pos (by omega)]
    · rw [if_neg w2, if_neg (by omega)]
theorem ix5 {x : Int32} {k : Nat} (h : x = nI k) (j : Nat) : 5 * x + nI j = nI (5 * k + j) := by
  rw [h, show (5 : Int32) = nI 5 from rfl, pk_mul, nI_add]
theorem ix5_0 {x : Int32} {k : Nat} (h : x = nI k) : 5 * x = nI (5 * k) := by
  rw [h, show (5 : Int32) = nI 5 from rfl, pk_mul]
theorem ld_bad {g : jG} {d : Nat → Nat} {I I1 : jF} {A A1 : Nat → jF} {T : St3} {J0 : jF} {q : Nat} {x1 : Int32} (hMI : MI I A T) (hx : LX (A 2) T.2.2.length q (rInto (A 2) 80 J0 [] []) x1 I1 A1) (c : x1 = 0) (hI1 : ∀ k, k ≠ 4 → k ≠ 5 → k ≠ 8 → k ≠ 9 → I1 k = I k) (hA1 : ∀ k, k ≠ 3 → k ≠ 4 → A1 k = A k) (hR3 : (rInto (A 2) 80 J0 [] []).1 3 = (rdT T.2.2).1 3) (hn : T.2.2.length ≤ 80) : some (Value.int (-10 - I1 4)) = some (Value.int (oLoad T).1) ∧ MW g d (oLoad T).2 [mc g d I1 A1] := by
  obtain ⟨-, s, h1, h2, h3⟩ := hx.resolve_left (fun w => absurd (w.1.symm.trans c) (by decide))
  have e : (rdT T.2.2).1 3 = nI s := hR3.symm.trans h3
  refine mw_c (T := T) (v := -10 - nI s) ?_ (by rw [h2]) (MI_any hMI (hI1 1 (by decide) (by decide) (by decide) (by decide)) (hI1 3 (by decide) (by decide) (by decide) (by decide)) (hA1 1 (by decide) (by decide)) (hA1 2 (by decide) (by decide)))
  unfold oLoad
  rw [if_neg (by rw [e]; exact nI_n1 (by omega)), e]
theorem ld_MP {P Q : jF} {S : BS} {ls : List jF} {rs : List (Int32 × Int32)} {B : jF} (h : MP P S) (hl : ls.length ≤ 10) (hr6 : rs.length ≤ 6) (h0 : Q 0 = nI ls.length) (hL : ∀ i, i < ls.length → ∃ L, ls[i]? = some L ∧ lok 5400 Q i L) (h91 : Q 91 = nI rs.length) (hr : ∀ i, i < rs.length → rs[i]? = some (B (2 * i), B (2 * i + 1)) ∧ ∃ a b : Nat, B (2 * i) = nI a ∧ B (2 * i + 1) = nI b ∧ a ≤ b ∧ b ≤ 200) (hB : ∀ r, r < rs.length → Q (92 + 2 * r) = B (2 * r) ∧ Q (92 + 2 * r + 1) = B (2 * r + 1)) (hf : ∀ q, 104 ≤ q → Q q = P q) : MP Q (sRs (sLs S ls) rs) := by
  have h1 : MP (fun q => if q < 91 then Q q else P q) (sLs S ls) := MP_lts h (by rw [if_pos (by decide)]; exact h0) hl (fun i hi => by
    obtain ⟨L, e1, e2⟩ := hL i hi
    exact ⟨L, e1, lok_eq e2 (fun f hf' => by rw [if_pos (by omega)])⟩) (fun q hq => by rw [if_neg (by omega)])
  refine MP_rts h1 h91 hr6 (fun r hr' => ?_) (fun q hq => ?_)
  · rw [(hB r hr').1, (hB r hr').2]; exact hr r hr'
  · by_cases w : q < 91
    · show Q q = if q < 91 then Q q else P q
      rw [if_pos w]
    · show Q q = if q < 91 then Q q else P q
      rw [if_neg w]; exact hf q (by omega)
set_option maxHeartbeats 8000000 in
set_option maxRecDepth 100000 in
theorem c_X7_load (g : jG) (d : Nat → Nat) (T : St3) (b : List va_W) (h : MW g d T b) : Con g yX7_load cX7_load 3 (some .int) 5 113 0 0 [.ref (d 0)] b (fun rr bb => rr = some (.int (oLoad T).1) ∧ MW g d (oLoad T).2 bb) := by
  obtain ⟨I, A, rfl, hMI⟩ := h
  obtain ⟨hm1, hmp, hmh, hmt⟩ := id hMI
  obtain ⟨⟨hq0, hk10⟩, hql, ⟨hq91, hn6⟩, hqr, ⟨hq4, hnd⟩, ⟨hq5, hqh⟩, ⟨hq6, hqs⟩, hq9, hq10⟩ := id hmp
  refine Con.of (own := RX7) (lv := [(0, .ref (d 0))]) (by decide) rfl (Nat.le_of_ble_eq_true rfl) rfl ?_
  intro E hC hQ hN
  refine j_aload_n hC dX7_load_0 rfl rfl ?_
  refine j_iconst hC (0) dX7_load_1 (by decide) ?_
  refine j_put_7_4 (bi := 0) hC rfl k728 dX7_load_2 ?_
  dsimp only [List.set]
  refine j_aload_n hC dX7_load_5 rfl rfl ?_
  refine j_iconst hC (0) dX7_load_6 (by decide) ?_
  refine j_put_7_8 (bi := 0) hC rfl k732 dX7_load_7 ?_
  dsimp only [List.set]
  refine j_aload_n hC dX7_load_10 rfl rfl ?_
  refine j_iconst hC (0) dX7_load_11 (by decide) ?_
  refine j_put_7_9 (bi := 0) hC rfl k733 dX7_load_12 ?_
  dsimp only [List.set]
  have hn80 := hmt.2.1
  obtain ⟨J0, hJ0, hR3, hR2⟩ := ld_all hmt
  refine j_iconst hC (1) dX7_load_15 (by decide) ?_
  refine j_istore_n hC dX7_load_16 rfl rfl rfl rfl (fun v_16 e_16 => ?_)
  have L_17 : ∀ (fu : Nat) (q : Nat) (x1 : Int32) (I1 : jF) (A1 : Nat → jF) (hfu : T.2.2.length + 2 ≤ q + fu) (hq1 : q ≤ T.2.2.length + 1) (hx : LX (A 2) T.2.2.length q (rInto (A 2) 80 J0 [] []) x1 I1 A1) (hI1 : (∀ k, k ≠ 4 → k ≠ 5 → k ≠ 8 → k ≠ 9 → I1 k = I k)) (hA1 : (∀ k, k ≠ 3 → k ≠ 4 → A1 k = A k)), J g (jRm 5 113 0 0) E 3 17 [(0, .ref (d 0)), (1, .int x1)] [] [mc g d I1 A1] (0) (0) := by
    intro fu
    induction fu with
    | zero => intro q x1 I1 A1 hfu hq1 hx hI1 hA1; exact absurd hfu (by omega)
    | succ fu ih_17 =>
      intro q x1 I1 A1 hfu hq1 hx hI1 hA1
      refine j_iload_n hC dX7_load_17 rfl rfl ?_
      refine j_if_eq hC dX7_load_18 (tgt := 73) (by decide) (fun c_18 => ?_) (fun c_18 => ?_)
      · skip
        refine j_iload_n hC dX7_load_73 rfl rfl ?_
        refine j_if_ne hC dX7_load_74 (tgt := 85) (by decide) (fun c_74 => ?_) (fun c_74 => ?_)
        · skip
          obtain ⟨hx1, hqn, Jr, fl, ls, rs, hR, hJ, hfl, hq4, hq8, hq9, hl10, hr6, hlm, hrm⟩ := hx.resolve_right (fun w => c_74 w.1)
          have hA2 : A1 2 = A 2 := hA1 2 (by decide) (by decide)
          have h3q : I1 3 = nI T.2.2.length := (by rw [hI1 3 (by decide) (by decide) (by decide) (by decide)]; exact hmt.1)
          have hqe : T.2.2.length ≤ q := by first | exact jge h3q hq4 (by omega) (by omega) c_29 | exact absurd c_18 c_74
          rw [ri_end hJ hqe hn80 (by omega)] at hR
          have hr3 : (rdT T.2.2).1 3 = -1 := by rw [← hR3, hR]; exact hJ.2.2
          have hr2 : (rdT T.2.2).2 = (ls, rs) := by rw [← hR2, hR]
          have hMI1 : MI I1 A1 T := MI_any hMI (hI1 1 (by decide) (by decide) (by decide) (by decide)) (hI1 3 (by decide) (by decide) (by decide) (by decide)) (hA1 1 (by decide) (by decide)) hA2
          refine j_aload_n hC dX7_load_85 rfl rfl ?_
          refine j_callV hC [0] (c_X7_records_g g _ _ _ T hMI1) mX7_records k791 rfl rfl rfl rfl rfl ⟨(Nat.le_of_ble_eq_true rfl), (Nat.le_of_ble_eq_true rfl)⟩ (Nat.le_of_ble_eq_true rfl) ⟨(Nat.le_of_ble_eq_true rfl), (Nat.le_of_ble_eq_true rfl)⟩ dX7_load_86 (fun r_86 b_86 hp_86 _ => ?_)
          obtain ⟨rfl, I_86, A_86, rfl, hR_86, hRk_86, hRi_86⟩ := hp_86
          have hP_86 : MP (A_86 1) T.1 := hR_86.2.1
          dsimp only [jrepl, List.set, jstk]
          refine j_aload_n hC dX7_load_89 rfl rfl ?_
          refine j_get hC uX7 0 0 0 rfl rfl k724 rfl dX7_load_90 ?_
          refine j_iconst hC (0) dX7_load_93 (by decide) ?_
          refine j_aload_n hC dX7_load_94 rfl rfl ?_
          refine j_get hC uX7 0 0 8 rfl rfl k732 rfl dX7_load_95 ?_
          refine j_st_7_1 (bi := 0) (m := 0) hC rfl (by decide) (by decide) dX7_load_98 (fun A_98 hA_98 hK_98 => ?_)
          dsimp only [List.set]
          have h08 : I_86 8 = nI ls.length := (hRi_86 8 (by decide)).trans hq8
          have h09 : I_86 9 = nI rs.length := (hRi_86 9 (by decide)).trans hq9
          refine j_iconst hC (0) dX7_load_99 (by decide) ?_
          refine j_istore_n hC dX7_load_100 rfl rfl rfl rfl (fun v_100 e_100 => ?_)
          have L_101 : ∀ (fu : Nat) (k : Nat) (x2 : Int32) (A2 : Nat → jF) (hfu : ls.length + 1 ≤ k + fu) (hk : k ≤ ls.length) (h2 : x2 = nI k) (h20 : A2 1 0 = nI ls.length) (hLk : ∀ i, i < k → lok 5400 (A2 1) i (lnw (A1 3) (5 * i))) (hT2 : ∀ q, 91 ≤ q → A2 1 q = A_86 1 q) (hK2 : ∀ q, q ≠ 1 → A2 q = A_86 q), J g (jRm 5 113 0 0) E 3 101 [(0, .ref (d 0)), (2, .int x2)] [] [mc g d I_86 A2] (0) (0) := by
            intro fu
            induction fu with
            | zero => intro k x2 A2 hfu hk h2 h20 hLk hT2 hK2; exact absurd hfu (by omega)
            | succ fu ih_101 =>
              intro k x2 A2 hfu hk h2 h20 hLk hT2 hK2
              refine j_iload_n hC dX7_load_101 rfl rfl ?_
              refine j_aload_n hC dX7_load_102 rfl rfl ?_
              refine j_get hC uX7 0 0 8 rfl rfl k732 rfl dX7_load_103 ?_
              refine j_icmp_ge hC dX7_load_106 (tgt := 177) (by decide) (fun c_106 => ?_) (fun c_106 => ?_)
              · skip
                have hke : k = ls.length := Nat.le_antisymm hk (jge h08 h2 (by omega) (by omega) c_106)
                rw [hke] at hLk
                refine j_aload_n hC dX7_load_177 rfl rfl ?_
                refine j_get hC uX7 0 0 0 rfl rfl k724 rfl dX7_load_178 ?_
                refine j_bipush hC (91) dX7_load_181 (by decide) ?_
                refine j_aload_n hC dX7_load_183 rfl rfl ?_
                refine j_get hC uX7 0 0 9 rfl rfl k733 rfl dX7_load_184 ?_
                refine j_st_7_1 (bi := 0) (m := 91) hC rfl (by decide) (by decide) dX7_load_187 (fun A_187 hA_187 hK_187 => ?_)
                dsimp only [List.set]
                refine j_iconst hC (0) dX7_load_188 (by decide) ?_
                refine j_istore_n hC dX7_load_189 rfl rfl rfl rfl (fun v_189 e_189 => ?_)
                have L_190 : ∀ (fu : Nat) (m : Nat) (x2 : Int32) (A3 : Nat → jF) (hfu : 2 * rs.length + 1 ≤ m + fu) (hm : m ≤ 2 * rs.length) (h3m : x2 = nI m) (hPm : ∀ q, A3 1 q = if 92 ≤ q ∧ q < 92 + m then A1 4 (q - 92) else A_187 1 q) (hK3 : ∀ q, q ≠ 1 → A3 q = A_187 q), J g (jRm 5 113 0 0) E 3 190 [(0, .ref (d 0)), (2, .int x2)] [] [mc g d I_86 A3] (0) (0) := by
                  intro fu
                  induction fu with
                  | zero => intro m x2 A3 hfu hm h3m hPm hK3; exact absurd hfu (by omega)
                  | succ fu ih_190 =>
                    intro m x2 A3 hfu hm h3m hPm hK3
                    refine j_iload_n hC dX7_load_190 rfl rfl ?_
                    refine j_iconst hC (2) dX7_load_191 (by decide) ?_
                    refine j_aload_n hC dX7_load_192 rfl rfl ?_
                    refine j_get hC uX7 0 0 9 rfl rfl k733 rfl dX7_load_193 ?_
                    refine j_imul hC dX7_load_196 ?_
                    refine j_icmp_ge hC dX7_load_197 (tgt := 221) (by decide) (fun c_197 => ?_) (fun c_197 => ?_)
                    · skip
                      have hme : m = 2 * rs.length := Nat.le_antisymm hm (jge (show 2 * I_86 9 = nI (2 * rs.length) by rw [h09, show (2 : Int32) = nI 2 from rfl, pk_mul]) h3m (by omega) (by omega) c_197)
                      rw [hme] at hPm
                      refine j_aload_n hC dX7_load_221 rfl rfl ?_
                      refine j_get hC uX7 0 0 8 rfl rfl k732 rfl dX7_load_222 ?_
                      refine j_bipush hC (100) dX7_load_225 (by decide) ?_
                      refine j_aload_n hC dX7_load_227 rfl rfl ?_
                      refine j_get hC uX7 0 0 9 rfl rfl k733 rfl dX7_load_228 ?_
                      refine j_imul hC dX7_load_231 ?_
                      refine j_iadd hC dX7_load_232 ?_
                      refine j_iret hC hQ rfl rfl (Nat.le_of_ble_eq_true rfl) (Nat.le_of_ble_eq_true rfl) dX7_load_233 rfl ?_
                      exact mw_c (T := oPush T (sRs (sLs T.1 ls) rs)) (v := nI ls.length + 100 * nI rs.length) (by unfold oLoad; rw [if_pos hr3, hr2]) (by rw [h08, h09]) (mi_hist hR_86 ((hK3 2 (by decide)).trans ((hK_187 2 (by decide)).trans (hK2 2 (by decide)))) (fun q q1 _ => by rw [hPm, if_neg (by omega), hA_187, pk_un (by omega)]; exact hT2 q (by omega)) (ld_MP hP_86 hl10 hr6 (by rw [hPm, if_neg (by omega), hA_187, pk_un (by omega)]; exact h20) (fun i hi => ⟨_, (hlm i hi).2, lok_eq (hLk i hi) (fun f hf => by rw [hPm, if_neg (by omega), hA_187, pk_un (by omega)])⟩) (by rw [hPm, if_neg (by omega), hA_187, pk_us]; exact h09) hrm (fun r hr => ⟨by rw [hPm, if_pos (by omega)]; exact congrArg (A1 4) (by omega), by rw [hPm, if_pos (by omega)]; exact congrArg (A1 4) (by omega)⟩) (fun q hq => by rw [hPm, if_neg (by omega), hA_187, pk_un (by omega)]; exact hT2 q (by omega))))
                    · skip
                      have hml : m < 2 * rs.length := jlt (show 2 * I_86 9 = nI (2 * rs.length) by rw [h09, show (2 : Int32) = nI 2 from rfl, pk_mul]) h3m (by omega) (by omega) c_197
                      have hA4 : A3 4 = A1 4 := (hK3 4 (by decide)).trans ((hK_187 4 (by decide)).trans ((hK2 4 (by decide)).trans (hRk_86 4 (by decide))))
                      refine j_aload_n hC dX7_load_200 rfl rfl ?_
                      refine j_get hC uX7 0 0 0 rfl rfl k724 rfl dX7_load_201 ?_
                      refine j_bipush hC (92) dX7_load_204 (by decide) ?_
                      refine j_iload_n hC dX7_load_206 rfl rfl ?_
                      refine j_iadd hC dX7_load_207 ?_
                      refine j_aload_n hC dX7_load_208 rfl rfl ?_
                      refine j_get hC uX7 0 0 7 rfl rfl k731 rfl dX7_load_209 ?_
                      refine j_iload_n hC dX7_load_212 rfl rfl ?_
                      refine j_ildN hC (m := m) 0 4 rfl rfl h3m (by omega) dX7_load_213 ?_
                      refine j_st_7_1 (bi := 0) (m := 92 + m) hC rfl (by rw [h3m]; exact nI_add 92 m) (by omega) dX7_load_214 (fun A_214 hA_214 hK_214 => ?_)
                      dsimp only [List.set]
                      refine j_iinc hC (1) dX7_load_215 rfl rfl rfl rfl rfl (fun v_215 e_215 => ?_)
                      refine j_goto hC dX7_load_218 (tgt := 190) (by decide) ?_
                      refine j_pick [0, 2] ?_
                      exact ih_190 (m + 1) _ _ (by omega) (by omega) (jsucc e_215 h3m) (cpyR hPm (hA_214.trans (by rw [hA4]))) (fun q hq => (hK_214 q hq).trans (hK3 q hq))
                refine j_pick [0, 2] ?_
                exact L_190 (2 * rs.length + 1) 0 _ _ (by omega) (by omega) (e_189.trans nI_0.symm) (fun q => by rw [if_neg (by omega)]) (fun _ _ => rfl)
              · skip
                have hkl : k < ls.length := jlt h08 h2 (by omega) (by omega) c_106
                have hA3 : A2 3 = A1 3 := (hK2 3 (by decide)).trans (hRk_86 3 (by decide))
                have hlk := (hlm k hkl).1
                rw [← hA3] at hlk
                refine j_aload_n hC dX7_load_109 rfl rfl ?_
                refine j_iload_n hC dX7_load_110 rfl rfl ?_
                refine j_aload_n hC dX7_load_111 rfl rfl ?_
                refine j_get hC uX7 0 0 6 rfl rfl k730 rfl dX7_load_112 ?_
                refine j_iconst hC (5) dX7_load_115 (by decide) ?_
                refine j_iload_n hC dX7_load_116 rfl rfl ?_
                refine j_imul hC dX7_load_117 ?_
                refine j_ildN hC (m := 5 * k) 0 3 rfl rfl (ix5_0 h2) (by omega) dX7_load_118 ?_
                refine j_aload_n hC dX7_load_119 rfl rfl ?_
                refine j_get hC uX7 0 0 6 rfl rfl k730 rfl dX7_load_120 ?_
                refine j_iconst hC (5) dX7_load_123 (by decide) ?_
                refine j_iload_n hC dX7_load_124 rfl rfl ?_
                refine j_imul hC dX7_load_125 ?_
                refine j_iconst hC (1) dX7_load_126 (by decide) ?_
                refine j_iadd hC dX7_load_127 ?_
                refine j_ildN hC (m := 5 * k + 1) 0 3 rfl rfl (ix5 h2 1) (by omega) dX7_load_128 ?_
                refine j_aload_n hC dX7_load_129 rfl rfl ?_
                refine j_get hC uX7 0 0 6 rfl rfl k730 rfl dX7_load_130 ?_
                refine j_iconst hC (5) dX7_load_133 (by decide) ?_
                refine j_iload_n hC dX7_load_134 rfl rfl ?_
                refine j_imul hC dX7_load_135 ?_
                refine j_iconst hC (2) dX7_load_136 (by decide) ?_
                refine j_iadd hC dX7_load_137 ?_
                refine j_ildN hC (m := 5 * k + 2) 0 3 rfl rfl (ix5 h2 2) (by omega) dX7_load_138 ?_
                refine j_aload_n hC dX7_load_139 rfl rfl ?_
                refine j_get hC uX7 0 0 6 rfl rfl k730 rfl dX7_load_140 ?_
                refine j_iconst hC (5) dX7_load_143 (by decide) ?_
                refine j_iload_n hC dX7_load_144 rfl rfl ?_
                refine j_imul hC dX7_load_145 ?_
                refine j_iconst hC (3) dX7_load_146 (by decide) ?_
                refine j_iadd hC dX7_load_147 ?_
                refine j_ildN hC (m := 5 * k + 3) 0 3 rfl rfl (ix5 h2 3) (by omega) dX7_load_148 ?_
                refine j_aload_n hC dX7_load_149 rfl rfl ?_
                refine j_get hC uX7 0 0 6 rfl rfl k730 rfl dX7_load_150 ?_
                refine j_iconst hC (5) dX7_load_153 (by decide) ?_
                refine j_iload_n hC dX7_load_154 rfl rfl ?_
                refine j_imul hC dX7_load_155 ?_
                refine j_iconst hC (4) dX7_load_156 (by decide) ?_
                refine j_iadd hC dX7_load_157 ?_
                refine j_ildN hC (m := 5 * k + 4) 0 3 rfl rfl (ix5 h2 4) (by omega) dX7_load_158 ?_
                refine j_iconst hC (1) dX7_load_159 (by decide) ?_
                refine j_icmp_ne hC dX7_load_160 (tgt := 167) (by decide) (fun c_160 => ?_) (fun c_160 => ?_)
                · skip
                  refine j_iconst hC (0) dX7_load_167 (by decide) ?_
                  have hmm : newL (A2 3 (5 * k)) (A2 3 (5 * k + 1)) (A2 3 (5 * k + 2)) (A2 3 (5 * k + 3)) (A2 3 (5 * k + 4)) = lnw (A1 3) (5 * k) := by rw [hA3]; rfl
                  refine j_callV hC [0] (c_X7_lays g _ _ _ k _ _ _ _ _ _ h2 (by omega) hlk.1 hlk.2.1 hlk.2.2.1 (by first | exact Or.inl rfl | exact Or.inr rfl)) mX7_lays k795 rfl rfl rfl rfl rfl ⟨(Nat.le_of_ble_eq_true rfl), (Nat.le_of_ble_eq_true rfl)⟩ (Nat.le_of_ble_eq_true rfl) ⟨(Nat.le_of_ble_eq_true rfl), (Nat.le_of_ble_eq_true rfl)⟩ dX7_load_168 (fun r_168 b_168 hp_168 _ => ?_)
                  obtain ⟨rfl, A_168, rfl, hK_168, hL_168, hF_168⟩ := hp_168
                  dsimp only [jrepl, List.set, jstk]
                  refine j_iinc hC (1) dX7_load_171 rfl rfl rfl rfl rfl (fun v_171 e_171 => ?_)
                  refine j_goto hC dX7_load_174 (tgt := 101) (by decide) ?_
                  refine j_pick [0, 2] ?_
                  exact ih_101 (k + 1) _ _ (by omega) (by omega) (jsucc e_171 h2) ((hF_168 0 (by omega)).trans h20) (fun i hi => (Nat.lt_or_ge i k).elim (fun w => lok_fr (hLk i w) hF_168 (by omega)) (fun w => by rw [show i = k by omega, ← hmm]; first | (have z : A2 3 (5 * k + 4) = 1 := by first | exact c_160 | exact Decidable.not_not.mp c_160); rw [z]; exact hL_168 | (rw [hlk.2.2.2.resolve_right c_160]; exact hL_168))) (fun q hq => (hF_168 q (by omega)).trans (hT2 q hq)) (fun q hq => (hK_168 q hq).trans (hK2 q hq))
                · skip
                  refine j_iconst hC (1) dX7_load_163 (by decide) ?_
                  refine j_goto hC dX7_load_164 (tgt := 168) (by decide) ?_
                  have hmm : newL (A2 3 (5 * k)) (A2 3 (5 * k + 1)) (A2 3 (5 * k + 2)) (A2 3 (5 * k + 3)) (A2 3 (5 * k + 4)) = lnw (A1 3) (5 * k) := by rw [hA3]; rfl
                  refine j_callV hC [0] (c_X7_lays g _ _ _ k _ _ _ _ _ _ h2 (by omega) hlk.1 hlk.2.1 hlk.2.2.1 (by first | exact Or.inl rfl | exact Or.inr rfl)) mX7_lays k795 rfl rfl rfl rfl rfl ⟨(Nat.le_of_ble_eq_true rfl), (Nat.le_of_ble_eq_true rfl)⟩ (Nat.le_of_ble_eq_true rfl) ⟨(Nat.le_of_ble_eq_true rfl), (Nat.le_of_ble_eq_true rfl)⟩ dX7_load_168 (fun r_168 b_168 hp_168 _ => ?_)
                  obtain ⟨rfl, A_168, rfl, hK_168, hL_168, hF_168⟩ := hp_168
                  dsimp only [jrepl, List.set, jstk]
                  refine j_iinc hC (1) dX7_load_171 rfl rfl rfl rfl rfl (fun v_171 e_171 => ?_)
                  refine j_goto hC dX7_load_174 (tgt := 101) (by decide) ?_
                  refine j_pick [0, 2] ?_
                  exact ih_101 (k + 1) _ _ (by omega) (by omega) (jsucc e_171 h2) ((hF_168 0 (by omega)).trans h20) (fun i hi => (Nat.lt_or_ge i k).elim (fun w => lok_fr (hLk i w) hF_168 (by omega)) (fun w => by rw [show i = k by omega, ← hmm]; first | (have z : A2 3 (5 * k + 4) = 1 := by first | exact c_160 | exact Decidable.not_not.mp c_160); rw [z]; exact hL_168 | (rw [hlk.2.2.2.resolve_right c_160]; exact hL_168))) (fun q hq => (hF_168 q (by omega)).trans (hT2 q hq)) (fun q hq => (hK_168 q hq).trans (hK2 q hq))
          refine j_pick [0, 2] ?_
          exact L_101 (ls.length + 1) 0 _ _ (by omega) (by omega) (e_100.trans nI_0.symm) (by rw [hA_98, pk_us]; exact h08) (fun i hi => absurd hi (Nat.not_lt_zero i)) (fun q hq => by rw [hA_98, pk_un (by omega)]) hK_98
        · skip
          refine j_bipush hC (-10) dX7_load_77 (by decide) ?_
          refine j_aload_n hC dX7_load_79 rfl rfl ?_
          refine j_get hC uX7 0 0 4 rfl rfl k728 rfl dX7_load_80 ?_
          refine j_isub hC dX7_load_83 ?_
          refine j_iret hC hQ rfl rfl (Nat.le_of_ble_eq_true rfl) (Nat.le_of_ble_eq_true rfl) dX7_load_84 rfl ?_
          exact ld_bad hMI hx (by first | exact c_74 | exact Decidable.not_not.mp c_74) hI1 hA1 hR3 hn80
      · skip
        obtain ⟨hx1, hqn, Jr, fl, ls, rs, hR, hJ, hfl, hq4, hq8, hq9, hl10, hr6, hlm, hrm⟩ := hx.resolve_right (fun w => c_18 w.1)
        have hA2 : A1 2 = A 2 := hA1 2 (by decide) (by decide)
        have h3q : I1 3 = nI T.2.2.length := (by rw [hI1 3 (by decide) (by decide) (by decide) (by decide)]; exact hmt.1)
        refine j_aload_n hC dX7_load_21 rfl rfl ?_
        refine j_get hC uX7 0 0 4 rfl rfl k728 rfl dX7_load_22 ?_
        refine j_aload_n hC dX7_load_25 rfl rfl ?_
        refine j_get hC uX7 0 0 3 rfl rfl k727 rfl dX7_load_26 ?_
        refine j_icmp_ge hC dX7_load_29 (tgt := 73) (by decide) (fun c_29 => ?_) (fun c_29 => ?_)
        · skip
          refine j_iload_n hC dX7_load_73 rfl rfl ?_
          refine j_if_ne hC dX7_load_74 (tgt := 85) (by decide) (fun c_74 => ?_) (fun c_74 => ?_)
          · skip
            obtain ⟨hx1, hqn, Jr, fl, ls, rs, hR, hJ, hfl, hq4, hq8, hq9, hl10, hr6, hlm, hrm⟩ := hx.resolve_right (fun w => c_74 w.1)
            have hA2 : A1 2 = A 2 := hA1 2 (by decide) (by decide)
            have h3q : I1 3 = nI T.2.2.length := (by rw [hI1 3 (by decide) (by decide) (by decide) (by decide)]; exact hmt.1)
            have hqe : T.2.2.length ≤ q := by first | exact jge h3q hq4 (by omega) (by omega) c_29 | exact absurd c_18 c_74
            rw [ri_end hJ hqe hn80 (by omega)] at hR
            have hr3 : (rdT T.2.2).1 3 = -1 := by rw [← hR3, hR]; exact hJ.2.2
            have hr2 : (rdT T.2.2).2 = (ls, rs) := by rw [← hR2, hR]
            have hMI1 : MI I1 A1 T := MI_any hMI (hI1 1 (by decide) (by decide) (by decide) (by decide)) (hI1 3 (by decide) (by decide) (by decide) (by decide)) (hA1 1 (by decide) (by decide)) hA2
            refine j_aload_n hC dX7_load_85 rfl rfl ?_
            refine j_callV hC [0] (c_X7_records_g g _ _ _ T hMI1) mX7_records k791 rfl rfl rfl rfl rfl ⟨(Nat.le_of_ble_eq_true rfl), (Nat.le_of_ble_eq_true rfl)⟩ (Nat.le_of_ble_eq_true rfl) ⟨(Nat.le_of_ble_eq_true rfl), (Nat.le_of_ble_eq_true rfl)⟩ dX7_load_86 (fun r_86 b_86 hp_86 _ => ?_)
            obtain ⟨rfl, I_86, A_86, rfl, hR_86, hRk_86, hRi_86⟩ := hp_86
            have hP_86 : MP (A_86 1) T.1 := hR_86.2.1
            dsimp only [jrepl, List.set, jstk]
            refine j_aload_n hC dX7_load_89 rfl rfl ?_
            refine j_get hC uX7 0 0 0 rfl rfl k724 rfl dX7_load_90 ?_
            refine j_iconst hC (0) dX7_load_93 (by decide) ?_
            refine j_aload_n hC dX7_load_94 rfl rfl ?_
            refine j_get hC uX7 0 0 8 rfl rfl k732 rfl dX7_load_95 ?_
            refine j_st_7_1 (bi := 0) (m := 0) hC rfl (by decide) (by decide) dX7_load_98 (fun A_98 hA_98 hK_98 => ?_)
            dsimp only [List.set]
            have h08 : I_86 8 = nI ls.length := (hRi_86 8 (by decide)).trans hq8
            have h09 : I_86 9 = nI rs.length := (hRi_86 9 (by decide)).trans hq9
            refine j_iconst hC (0) dX7_load_99 (by decide) ?_
            refine j_istore_n hC dX7_load_100 rfl rfl rfl rfl (fun v_100 e_100 => ?_)
            have L_101 : ∀ (fu : Nat) (k : Nat) (x2 : Int32) (A2 : Nat → jF) (hfu : ls.length + 1 ≤ k + fu) (hk : k ≤ ls.length) (h2 : x2 = nI k) (h20 : A2 1 0 = nI ls.length) (hLk : ∀ i, i < k → lok 5400 (A2 1) i (lnw (A1 3) (5 * i))) (hT2 : ∀ q, 91 ≤ q → A2 1 q = A_86 1 q) (hK2 : ∀ q, q ≠ 1 → A2 q = A_86 q), J g (jRm 5 113 0 0) E 3 101 [(0, .ref (d 0)), (2, .int x2)] [] [mc g d I_86 A2] (0) (0) := by
              intro fu
              induction fu with
              | zero => intro k x2 A2 hfu hk h2 h20 hLk hT2 hK2; exact absurd hfu (by omega)
              | succ fu ih_101 =>
                intro k x2 A2 hfu hk h2 h20 hLk hT2 hK2
                refine j_iload_n hC dX7_load_101 rfl rfl ?_
                refine j_aload_n hC dX7_load_102 rfl rfl ?_
                refine j_get hC uX7 0 0 8 rfl rfl k732 rfl dX7_load_103 ?_
                refine j_icmp_ge hC dX7_load_106 (tgt := 177) (by decide) (fun c_106 => ?_) (fun c_106 => ?_)
                · skip
                  have hke : k = ls.length := Nat.le_antisymm hk (jge h08 h2 (by omega) (by omega) c_106)
                  rw [hke] at hLk
                  refine j_aload_n hC dX7_load_177 rfl rfl ?_
                  refine j_get hC uX7 0 0 0 rfl rfl k724 rfl dX7_load_178 ?_
                  refine j_bipush hC (91) dX7_load_181 (by decide) ?_
                  refine j_aload_n hC dX7_load_183 rfl rfl ?_
                  refine j_get hC uX7 0 0 9 rfl rfl k733 rfl dX7_load_184 ?_
                  refine j_st_7_1 (bi := 0) (m := 91) hC rfl (by decide) (by decide) dX7_load_187 (fun A_187 hA_187 hK_187 => ?_)
                  dsimp only [List.set]
                  refine j_iconst hC (0) dX7_load_188 (by decide) ?_
                  refine j_istore_n hC dX7_load_189 rfl rfl rfl rfl (fun v_189 e_189 => ?_)
                  have L_190 : ∀ (fu : Nat) (m : Nat) (x2 : Int32) (A3 : Nat → jF) (hfu : 2 * rs.length + 1 ≤ m + fu) (hm : m ≤ 2 * rs.length) (h3m : x2 = nI m) (hPm : ∀ q, A3 1 q = if 92 ≤ q ∧ q < 92 + m then A1 4 (q - 92) else A_187 1 q) (hK3 : ∀ q, q ≠ 1 → A3 q = A_187 q), J g (jRm 5 113 0 0) E 3 190 [(0, .ref (d 0)), (2, .int x2)] [] [mc g d I_86 A3] (0) (0) := by
                    intro fu
                    induction fu with
                    | zero => intro m x2 A3 hfu hm h3m hPm hK3; exact absurd hfu (by omega)
                    | succ fu ih_190 =>
                      intro m x2 A3 hfu hm h3m hPm hK3
                      refine j_iload_n hC dX7_load_190 rfl rfl ?_
                      refine j_iconst hC (2) dX7_load_191 (by decide) ?_
                      refine j_aload_n hC dX7_load_192 rfl rfl ?_
                      refine j_get hC uX7 0 0 9 rfl rfl k733 rfl dX7_load_193 ?_
                      refine j_imul hC dX7_load_196 ?_
                      refine j_icmp_ge hC dX7_load_197 (tgt := 221) (by decide) (fun c_197 => ?_) (fun c_197 => ?_)
                      · skip
                        have hme : m = 2 * rs.length := Nat.le_antisymm hm (jge (show 2 * I_86 9 = nI (2 * rs.length) by rw [h09, show (2 : Int32) = nI 2 from rfl, pk_mul]) h3m (by omega) (by omega) c_197)
                        rw [hme] at hPm
                        refine j_aload_n hC dX7_load_221 rfl rfl ?_
                        refine j_get hC uX7 0 0 8 rfl rfl k732 rfl dX7_load_222 ?_
                        refine j_bipush hC (100) dX7_load_225 (by decide) ?_
                        refine j_aload_n hC dX7_load_227 rfl rfl ?_
                        refine j_get hC uX7 0 0 9 rfl rfl k733 rfl dX7_load_228 ?_
                        refine j_imul hC dX7_load_231 ?_
                        refine j_iadd hC dX7_load_232 ?_
                        refine j_iret hC hQ rfl rfl (Nat.le_of_ble_eq_true rfl) (Nat.le_of_ble_eq_true rfl) dX7_load_233 rfl ?_
                        exact mw_c (T := oPush T (sRs (sLs T.1 ls) rs)) (v := nI ls.length + 100 * nI rs.length) (by unfold oLoad; rw [if_pos hr3, hr2]) (by rw [h08, h09]) (mi_hist hR_86 ((hK3 2 (by decide)).trans ((hK_187 2 (by decide)).trans (hK2 2 (by decide)))) (fun q q1 _ => by rw [hPm, if_neg (by omega), hA_187, pk_un (by omega)]; exact hT2 q (by omega)) (ld_MP hP_86 hl10 hr6 (by rw [hPm, if_neg (by omega), hA_187, pk_un (by omega)]; exact h20) (fun i hi => ⟨_, (hlm i hi).2, lok_eq (hLk i hi) (fun f hf => by rw [hPm, if_neg (by omega), hA_187, pk_un (by omega)])⟩) (by rw [hPm, if_neg (by omega), hA_187, pk_us]; exact h09) hrm (fun r hr => ⟨by rw [hPm, if_pos (by omega)]; exact congrArg (A1 4) (by omega), by rw [hPm, if_pos (by omega)]; exact congrArg (A1 4) (by omega)⟩) (fun q hq => by rw [hPm, if_neg (by omega), hA_187, pk_un (by omega)]; exact hT2 q (by omega))))
                      · skip
                        have hml : m < 2 * rs.length := jlt (show 2 * I_86 9 = nI (2 * rs.length) by rw [h09, show (2 : Int32) = nI 2 from rfl, pk_mul]) h3m (by omega) (by omega) c_197
                        have hA4 : A3 4 = A1 4 := (hK3 4 (by decide)).trans ((hK_187 4 (by decide)).trans ((hK2 4 (by decide)).trans (hRk_86 4 (by decide))))
                        refine j_aload_n hC dX7_load_200 rfl rfl ?_
                        refine j_get hC uX7 0 0 0 rfl rfl k724 rfl dX7_load_201 ?_
                        refine j_bipush hC (92) dX7_load_204 (by decide) ?_
                        refine j_iload_n hC dX7_load_206 rfl rfl ?_
                        refine j_iadd hC dX7_load_207 ?_
                        refine j_aload_n hC dX7_load_208 rfl rfl ?_
                        refine j_get hC uX7 0 0 7 rfl rfl k731 rfl dX7_load_209 ?_
                        refine j_iload_n hC dX7_load_212 rfl rfl ?_
                        refine j_ildN hC (m := m) 0 4 rfl rfl h3m (by omega) dX7_load_213 ?_
                        refine j_st_7_1 (bi := 0) (m := 92 + m) hC rfl (by rw [h3m]; exact nI_add 92 m) (by omega) dX7_load_214 (fun A_214 hA_214 hK_214 => ?_)
                        dsimp only [List.set]
                        refine j_iinc hC (1) dX7_load_215 rfl rfl rfl rfl rfl (fun v_215 e_215 => ?_)
                        refine j_goto hC dX7_load_218 (tgt := 190) (by decide) ?_
                        refine j_pick [0, 2] ?_
                        exact ih_190 (m + 1) _ _ (by omega) (by omega) (jsucc e_215 h3m) (cpyR hPm (hA_214.trans (by rw [hA4]))) (fun q hq => (hK_214 q hq).trans (hK3 q hq))
                  refine j_pick [0, 2] ?_
                  exact L_190 (2 * rs.length + 1) 0 _ _ (by omega) (by omega) (e_189.trans nI_0.symm) (fun q => by rw [if_neg (by omega)]) (fun _ _ => rfl)
                · skip
                  have hkl : k < ls.length := jlt h08 h2 (by omega) (by omega) c_106
                  have hA3 : A2 3 = A1 3 := (hK2 3 (by decide)).trans (hRk_86 3 (by decide))
                  have hlk := (hlm k hkl).1
                  rw [← hA3] at hlk
                  refine j_aload_n hC dX7_load_109 rfl rfl ?_
                  refine j_iload_n hC dX7_load_110 rfl rfl ?_
                  refine j_aload_n hC dX7_load_111 rfl rfl ?_
                  refine j_get hC uX7 0 0 6 rfl rfl k730 rfl dX7_load_112 ?_
                  refine j_iconst hC (5) dX7_load_115 (by decide) ?_
                  refine j_iload_n hC dX7_load_116 rfl rfl ?_
                  refine j_imul hC dX7_load_117 ?_
                  refine j_ildN hC (m := 5 * k) 0 3 rfl rfl (ix5_0 h2) (by omega) dX7_load_118 ?_
                  refine j_aload_n hC dX7_load_119 rfl rfl ?_
                  refine j_get hC uX7 0 0 6 rfl rfl k730 rfl dX7_load_120 ?_
                  refine j_iconst hC (5) dX7_load_123 (by decide) ?_
                  refine j_iload_n hC dX7_load_124 rfl rfl ?_
                  refine j_imul hC dX7_load_125 ?_
                  refine j_iconst hC (1) dX7_load_126 (by decide) ?_
                  refine j_iadd hC dX7_load_127 ?_
                  refine j_ildN hC (m := 5 * k + 1) 0 3 rfl rfl (ix5 h2 1) (by omega) dX7_load_128 ?_
                  refine j_aload_n hC dX7_load_129 rfl rfl ?_
                  refine j_get hC uX7 0 0 6 rfl rfl k730 rfl dX7_load_130 ?_
                  refine j_iconst hC (5) dX7_load_133 (by decide) ?_
                  refine j_iload_n hC dX7_load_134 rfl rfl ?_
                  refine j_imul hC dX7_load_135 ?_
                  refine j_iconst hC (2) dX7_load_136 (by decide) ?_
                  refine j_iadd hC dX7_load_137 ?_
                  refine j_ildN hC (m := 5 * k + 2) 0 3 rfl rfl (ix5 h2 2) (by omega) dX7_load_138 ?_
                  refine j_aload_n hC dX7_load_139 rfl rfl ?_
                  refine j_get hC uX7 0 0 6 rfl rfl k730 rfl dX7_load_140 ?_
                  refine j_iconst hC (5) dX7_load_143 (by decide) ?_
                  refine j_iload_n hC dX7_load_144 rfl rfl ?_
                  refine j_imul hC dX7_load_145 ?_
                  refine j_iconst hC (3) dX7_load_146 (by decide) ?_
                  refine j_iadd hC dX7_load_147 ?_
                  refine j_ildN hC (m := 5 * k + 3) 0 3 rfl rfl (ix5 h2 3) (by omega) dX7_load_148 ?_
                  refine j_aload_n hC dX7_load_149 rfl rfl ?_
                  refine j_get hC uX7 0 0 6 rfl rfl k730 rfl dX7_load_150 ?_
                  refine j_iconst hC (5) dX7_load_153 (by decide) ?_
                  refine j_iload_n hC dX7_load_154 rfl rfl ?_
                  refine j_imul hC dX7_load_155 ?_
                  refine j_iconst hC (4) dX7_load_156 (by decide) ?_
                  refine j_iadd hC dX7_load_157 ?_
                  refine j_ildN hC (m := 5 * k + 4) 0 3 rfl rfl (ix5 h2 4) (by omega) dX7_load_158 ?_
                  refine j_iconst hC (1) dX7_load_159 (by decide) ?_
                  refine j_icmp_ne hC dX7_load_160 (tgt := 167) (by decide) (fun c_160 => ?_) (fun c_160 => ?_)
                  · skip
                    refine j_iconst hC (0) dX7_load_167 (by decide) ?_
                    have hmm : newL (A2 3 (5 * k)) (A2 3 (5 * k + 1)) (A2 3 (5 * k + 2)) (A2 3 (5 * k + 3)) (A2 3 (5 * k + 4)) = lnw (A1 3) (5 * k) := by rw [hA3]; rfl
                    refine j_callV hC [0] (c_X7_lays g _ _ _ k _ _ _ _ _ _ h2 (by omega) hlk.1 hlk.2.1 hlk.2.2.1 (by first | exact Or.inl rfl | exact Or.inr rfl)) mX7_lays k795 rfl rfl rfl rfl rfl ⟨(Nat.le_of_ble_eq_true rfl), (Nat.le_of_ble_eq_true rfl)⟩ (Nat.le_of_ble_eq_true rfl) ⟨(Nat.le_of_ble_eq_true rfl), (Nat.le_of_ble_eq_true rfl)⟩ dX7_load_168 (fun r_168 b_168 hp_168 _ => ?_)
                    obtain ⟨rfl, A_168, rfl, hK_168, hL_168, hF_168⟩ := hp_168
                    dsimp only [jrepl, List.set, jstk]
                    refine j_iinc hC (1) dX7_load_171 rfl rfl rfl rfl rfl (fun v_171 e_171 => ?_)
                    refine j_goto hC dX7_load_174 (tgt := 101) (by decide) ?_
                    refine j_pick [0, 2] ?_
                    exact ih_101 (k + 1) _ _ (by omega) (by omega) (jsucc e_171 h2) ((hF_168 0 (by omega)).trans h20) (fun i hi => (Nat.lt_or_ge i k).elim (fun w => lok_fr (hLk i w) hF_168 (by omega)) (fun w => by rw [show i = k by omega, ← hmm]; first | (have z : A2 3 (5 * k + 4) = 1 := by first | exact c_160 | exact Decidable.not_not.mp c_160); rw [z]; exact hL_168 | (rw [hlk.2.2.2.resolve_right c_160]; exact hL_168))) (fun q hq => (hF_168 q (by omega)).trans (hT2 q hq)) (fun q hq => (hK_168 q hq).trans (hK2 q hq))
                  · skip
                    refine j_iconst hC (1) dX7_load_163 (by decide) ?_
                    refine j_goto hC dX7_load_164 (tgt := 168) (by decide) ?_
                    have hmm : newL (A2 3 (5 * k)) (A2 3 (5 * k + 1)) (A2 3 (5 * k + 2)) (A2 3 (5 * k + 3)) (A2 3 (5 * k + 4)) = lnw (A1 3) (5 * k) := by rw [hA3]; rfl
                    refine j_callV hC [0] (c_X7_lays g _ _ _ k _ _ _ _ _ _ h2 (by omega) hlk.1 hlk.2.1 hlk.2.2.1 (by first | exact Or.inl rfl | exact Or.inr rfl)) mX7_lays k795 rfl rfl rfl rfl rfl ⟨(Nat.le_of_ble_eq_true rfl), (Nat.le_of_ble_eq_true rfl)⟩ (Nat.le_of_ble_eq_true rfl) ⟨(Nat.le_of_ble_eq_true rfl), (Nat.le_of_ble_eq_true rfl)⟩ dX7_load_168 (fun r_168 b_168 hp_168 _ => ?_)
                    obtain ⟨rfl, A_168, rfl, hK_168, hL_168, hF_168⟩ := hp_168
                    dsimp only [jrepl, List.set, jstk]
                    refine j_iinc hC (1) dX7_load_171 rfl rfl rfl rfl rfl (fun v_171 e_171 => ?_)
                    refine j_goto hC dX7_load_174 (tgt := 101) (by decide) ?_
                    refine j_pick [0, 2] ?_
                    exact ih_101 (k + 1) _ _ (by omega) (by omega) (jsucc e_171 h2) ((hF_168 0 (by omega)).trans h20) (fun i hi => (Nat.lt_or_ge i k).elim (fun w => lok_fr (hLk i w) hF_168 (by omega)) (fun w => by rw [show i = k by omega, ← hmm]; first | (have z : A2 3 (5 * k + 4) = 1 := by first | exact c_160 | exact Decidable.not_not.mp c_160); rw [z]; exact hL_168 | (rw [hlk.2.2.2.resolve_right c_160]; exact hL_168))) (fun q hq => (hF_168 q (by omega)).trans (hT2 q hq)) (fun q hq => (hK_168 q hq).trans (hK2 q hq))
            refine j_pick [0, 2] ?_
            exact L_101 (ls.length + 1) 0 _ _ (by omega) (by omega) (e_100.trans nI_0.symm) (by rw [hA_98, pk_us]; exact h08) (fun i hi => absurd hi (Nat.not_lt_zero i)) (fun q hq => by rw [hA_98, pk_un (by omega)]) hK_98
          · skip
            refine j_bipush hC (-10) dX7_load_77 (by decide) ?_
            refine j_aload_n hC dX7_load_79 rfl rfl ?_
            refine j_get hC uX7 0 0 4 rfl rfl k728 rfl dX7_load_80 ?_
            refine j_isub hC dX7_load_83 ?_
            refine j_iret hC hQ rfl rfl (Nat.le_of_ble_eq_true rfl) (Nat.le_of_ble_eq_true rfl) dX7_load_84 rfl ?_
            exact ld_bad hMI hx (by first | exact c_74 | exact Decidable.not_not.mp c_74) hI1 hA1 hR3 hn80
        · skip
          have hqs : q < T.2.2.length := jlt h3q hq4 (by omega) (by omega) c_29
          refine j_aload_n hC dX7_load_32 rfl rfl ?_
          refine j_callVR hC [0] (c_X7_here g _ _ _ T.2.2.length q h3q hn80 hq4 hqn) mX7_here k859 rfl rfl rfl rfl rfl ⟨(Nat.le_of_ble_eq_true rfl), (Nat.le_of_ble_eq_true rfl)⟩ (Nat.le_of_ble_eq_true rfl) ⟨(Nat.le_of_ble_eq_true rfl), (Nat.le_of_ble_eq_true rfl)⟩ dX7_load_33 ?_
          dsimp only [jrepl, List.set, jstk]
          refine j_bipush hC (112) dX7_load_36 (by decide) ?_
          refine j_icmp_ne hC dX7_load_38 (tgt := 48) (by decide) (fun c_38 => ?_) (fun c_38 => ?_)
          · skip
            refine j_aload_n hC dX7_load_48 rfl rfl ?_
            refine j_callVR hC [0] (c_X7_here g _ _ _ T.2.2.length q h3q hn80 hq4 hqn) mX7_here k859 rfl rfl rfl rfl rfl ⟨(Nat.le_of_ble_eq_true rfl), (Nat.le_of_ble_eq_true rfl)⟩ (Nat.le_of_ble_eq_true rfl) ⟨(Nat.le_of_ble_eq_true rfl), (Nat.le_of_ble_eq_true rfl)⟩ dX7_load_49 ?_
            dsimp only [jrepl, List.set, jstk]
            refine j_bipush hC (114) dX7_load_52 (by decide) ?_
            refine j_icmp_ne hC dX7_load_54 (tgt := 68) (by decide) (fun c_54 => ?_) (fun c_54 => ?_)
            · skip
              try (have hco : ¬ A1 2 q = 112 ∧ ¬ A1 2 q = 114 := ⟨fun z => c_38 ((hr_iff (by decide)).mpr ⟨hqs, z⟩), fun z => c_54 ((hr_iff (by decide)).mpr ⟨hqs, z⟩)⟩)
              refine j_iconst hC (0) dX7_load_68 (by decide) ?_
              refine j_istore_n hC dX7_load_69 rfl rfl rfl rfl (fun v_69 e_69 => ?_)
              refine j_goto hC dX7_load_70 (tgt := 17) (by decide) ?_
              refine j_pick [0, 1] ?_
              first | exact ih_17 q2 _ _ _ (by omega) (by omega) (Or.inl ⟨e_69, hs4, ld_p hn80 hR hJ hfl hqs (hA2 ▸ hcp) hs3 hs1 hs5 hs2 (hg_42 9 (by decide) (by decide) (by decide)) hq9 hr6 (hm_42 4 (by decide)) hq_42 hlm hrm hs6 hs7⟩) (fun k k4 k5 k8 k9 => (hg_42 k k4 k5 k8).trans (hI1 k k4 k5 k8 k9)) (fun k k3 k4 => (hm_42 k k3).trans (hA1 k k3 k4)) | exact ih_17 q2 _ _ _ (by omega) (by omega) (Or.inl ⟨e_69, hs4, ld_r hn80 hR hJ hfl hqs (hA2 ▸ hcr) hs3 hs1 hs5 hs2 (hg_58 8 (by decide) (by decide) (by decide)) hq8 hl10 (hm_58 3 (by decide)) hq_58 hlm hrm hs6 hs7⟩) (fun k k4 k5 k8 k9 => (hg_58 k k4 k5 k9).trans (hI1 k k4 k5 k8 k9)) (fun k k3 k4 => (hm_58 k k4).trans (hA1 k k3 k4)) | exact ih_17 (T.2.2.length + 1) _ _ _ (by omega) (by omega) (Or.inr ⟨e_69, s, hs1, hs2, ld_pf hn80 hR hJ hfl hqs (hA2 ▸ hcp) hs1 hs3⟩) (fun k k4 k5 k8 k9 => (hg_42 k k4 k5 k8).trans (hI1 k k4 k5 k8 k9)) (fun k k3 k4 => (hm_42 k k3).trans (hA1 k k3 k4)) | exact ih_17 (T.2.2.length + 1) _ _ _ (by omega) (by omega) (Or.inr ⟨e_69, s, hs1, hs2, ld_rf hn80 hR hJ hfl hqs (hA2 ▸ hcr) hs1 hs3⟩) (fun k k4 k5 k8 k9 => (hg_58 k k4 k5 k9).trans (hI1 k k4 k5 k8 k9)) (fun k k3 k4 => (hm_58 k k4).trans (hA1 k k3 k4)) | exact ih_17 (T.2.2.length + 1) _ _ _ (by omega) (by omega) (Or.inr ⟨e_69, q, hqn, hq4, ld_of hn80 hR hJ hfl hqs (hA2 ▸ hco.1) (hA2 ▸ hco.2)⟩) hI1 hA1
            · skip
              have hcr : A1 2 q = 114 := ((hr_iff (by decide)).mp (by first | exact c_54 | exact Decidable.not_not.mp c_54)).2
              refine j_aload_n hC dX7_load_57 rfl rfl ?_
              refine j_callV hC [0] (c_X7_readsRoute g _ _ _ T.2.2.length q rs.length h3q hn80 hq4 hqn hq9 hr6 hqs hcr) mX7_readsRoute k879 rfl rfl rfl rfl rfl ⟨(Nat.le_of_ble_eq_true rfl), (Nat.le_of_ble_eq_true rfl)⟩ (Nat.le_of_ble_eq_true rfl) ⟨(Nat.le_of_ble_eq_true rfl), (Nat.le_of_ble_eq_true rfl)⟩ dX7_load_58 (fun r_58 b_58 hp_58 _ => ?_)
              obtain ⟨I_58, A_58, rfl, hg_58, hm_58, hq_58, hr_58⟩ := hp_58
              rw [hA2] at hr_58
              dsimp only [jrepl, List.set, jstk]
              rcases hr_58 with ⟨rfl, s, hs1, hs2, hs3⟩ | ⟨rfl, hs1, hs2, q2, hs3, hs4, hs5, hs6, hs7⟩
              · skip
                dsimp only [jstk]
                refine j_if_eq hC dX7_load_61 (tgt := 68) (by decide) (fun c_61 => ?_) (fun c_61 => ?_)
                · skip
                  try (have hco : ¬ A1 2 q = 112 ∧ ¬ A1 2 q = 114 := ⟨fun z => c_38 ((hr_iff (by decide)).mpr ⟨hqs, z⟩), fun z => c_54 ((hr_iff (by decide)).mpr ⟨hqs, z⟩)⟩)
                  refine j_iconst hC (0) dX7_load_68 (by decide) ?_
                  refine j_istore_n hC dX7_load_69 rfl rfl rfl rfl (fun v_69 e_69 => ?_)
                  refine j_goto hC dX7_load_70 (tgt := 17) (by decide) ?_
                  refine j_pick [0, 1] ?_
                  first | exact ih_17 q2 _ _ _ (by omega) (by omega) (Or.inl ⟨e_69, hs4, ld_p hn80 hR hJ hfl hqs (hA2 ▸ hcp) hs3 hs1 hs5 hs2 (hg_42 9 (by decide) (by decide) (by decide)) hq9 hr6 (hm_42 4 (by decide)) hq_42 hlm hrm hs6 hs7⟩) (fun k k4 k5 k8 k9 => (hg_42 k k4 k5 k8).trans (hI1 k k4 k5 k8 k9)) (fun k k3 k4 => (hm_42 k k3).trans (hA1 k k3 k4)) | exact ih_17 q2 _ _ _ (by omega) (by omega) (Or.inl ⟨e_69, hs4, ld_r hn80 hR hJ hfl hqs (hA2 ▸ hcr) hs3 hs1 hs5 hs2 (hg_58 8 (by decide) (by decide) (by decide)) hq8 hl10 (hm_58 3 (by decide)) hq_58 hlm hrm hs6 hs7⟩) (fun k k4 k5 k8 k9 => (hg_58 k k4 k5 k9).trans (hI1 k k4 k5 k8 k9)) (fun k k3 k4 => (hm_58 k k4).trans (hA1 k k3 k4)) | exact ih_17 (T.2.2.length + 1) _ _ _ (by omega) (by omega) (Or.inr ⟨e_69, s, hs1, hs2, ld_pf hn80 hR hJ hfl hqs (hA2 ▸ hcp) hs1 hs3⟩) (fun k k4 k5 k8 k9 => (hg_42 k k4 k5 k8).trans (hI1 k k4 k5 k8 k9)) (fun k k3 k4 => (hm_42 k k3).trans (hA1 k k3 k4)) | exact ih_17 (T.2.2.length + 1) _ _ _ (by omega) (by omega) (Or.inr ⟨e_69, s, hs1, hs2, ld_rf hn80 hR hJ hfl hqs (hA2 ▸ hcr) hs1 hs3⟩) (fun k k4 k5 k8 k9 => (hg_58 k k4 k5 k9).trans (hI1 k k4 k5 k8 k9)) (fun k k3 k4 => (hm_58 k k4).trans (hA1 k k3 k4)) | exact ih_17 (T.2.2.length + 1) _ _ _ (by omega) (by omega) (Or.inr ⟨e_69, q, hqn, hq4, ld_of hn80 hR hJ hfl hqs (hA2 ▸ hco.1) (hA2 ▸ hco.2)⟩) hI1 hA1
                · exact absurd c_61 (by decide)
              · skip
                dsimp only [jstk]
                refine j_if_eq hC dX7_load_61 (tgt := 68) (by decide) (fun c_61 => ?_) (fun c_61 => ?_)
                · exact absurd c_61 (by decide)
                · skip
                  refine j_iconst hC (1) dX7_load_64 (by decide) ?_
                  refine j_goto hC dX7_load_65 (tgt := 69) (by decide) ?_
                  refine j_istore_n hC dX7_load_69 rfl rfl rfl rfl (fun v_69 e_69 => ?_)
                  refine j_goto hC dX7_load_70 (tgt := 17) (by decide) ?_
                  refine j_pick [0, 1] ?_
                  first | exact ih_17 q2 _ _ _ (by omega) (by omega) (Or.inl ⟨e_69, hs4, ld_p hn80 hR hJ hfl hqs (hA2 ▸ hcp) hs3 hs1 hs5 hs2 (hg_42 9 (by decide) (by decide) (by decide)) hq9 hr6 (hm_42 4 (by decide)) hq_42 hlm hrm hs6 hs7⟩) (fun k k4 k5 k8 k9 => (hg_42 k k4 k5 k8).trans (hI1 k k4 k5 k8 k9)) (fun k k3 k4 => (hm_42 k k3).trans (hA1 k k3 k4)) | exact ih_17 q2 _ _ _ (by omega) (by omega) (Or.inl ⟨e_69, hs4, ld_r hn80 hR hJ hfl hqs (hA2 ▸ hcr) hs3 hs1 hs5 hs2 (hg_58 8 (by decide) (by decide) (by decide)) hq8 hl10 (hm_58 3 (by decide)) hq_58 hlm hrm hs6 hs7⟩) (fun k k4 k5 k8 k9 => (hg_58 k k4 k5 k9).trans (hI1 k k4 k5 k8 k9)) (fun k k3 k4 => (hm_58 k k4).trans (hA1 k k3 k4)) | exact ih_17 (T.2.2.length + 1) _ _ _ (by omega) (by omega) (Or.inr ⟨e_69, s, hs1, hs2, ld_pf hn80 hR hJ hfl hqs (hA2 ▸ hcp) hs1 hs3⟩) (fun k k4 k5 k8 k9 => (hg_42 k k4 k5 k8).trans (hI1 k k4 k5 k8 k9)) (fun k k3 k4 => (hm_42 k k3).trans (hA1 k k3 k4)) | exact ih_17 (T.2.2.length + 1) _ _ _ (by omega) (by omega) (Or.inr ⟨e_69, s, hs1, hs2, ld_rf hn80 hR hJ hfl hqs (hA2 ▸ hcr) hs1 hs3⟩) (fun k k4 k5 k8 k9 => (hg_58 k k4 k5 k9).trans (hI1 k k4 k5 k8 k9)) (fun k k3 k4 => (hm_58 k k4).trans (hA1 k k3 k4)) | exact ih_17 (T.2.2.length + 1) _ _ _ (by omega) (by omega) (Or.inr ⟨e_69, q, hqn, hq4, ld_of hn80 hR hJ hfl hqs (hA2 ▸ hco.1) (hA2 ▸ hco.2)⟩) hI1 hA1
          · skip
            have hcp : A1 2 q = 112 := ((hr_iff (by decide)).mp (by first | exact c_38 | exact Decidable.not_not.mp c_38)).2
            refine j_aload_n hC dX7_load_41 rfl rfl ?_
            refine j_callV hC [0] (c_X7_readsLight g _ _ _ T.2.2.length q ls.length h3q hn80 hq4 hqn hq8 hl10 hqs hcp) mX7_readsLight k863 rfl rfl rfl rfl rfl ⟨(Nat.le_of_ble_eq_true rfl), (Nat.le_of_ble_eq_true rfl)⟩ (Nat.le_of_ble_eq_true rfl) ⟨(Nat.le_of_ble_eq_true rfl), (Nat.le_of_ble_eq_true rfl)⟩ dX7_load_42 (fun r_42 b_42 hp_42 _ => ?_)
            obtain ⟨I_42, A_42, rfl, hg_42, hm_42, hq_42, hr_42⟩ := hp_42
            rw [hA2] at hr_42
            dsimp only [jrepl, List.set, jstk]
            rcases hr_42 with ⟨rfl, s, hs1, hs2, hs3⟩ | ⟨rfl, hs1, hs2, q2, hs3, hs4, hs5, hs6, hs7⟩
            · skip
              dsimp only [jstk]
              refine j_goto hC dX7_load_45 (tgt := 69) (by decide) ?_
              refine j_istore_n hC dX7_load_69 rfl rfl rfl rfl (fun v_69 e_69 => ?_)
              refine j_goto hC dX7_load_70 (tgt := 17) (by decide) ?_
              refine j_pick [0, 1] ?_
              first | exact ih_17 q2 _ _ _ (by omega) (by omega) (Or.inl ⟨e_69, hs4, ld_p hn80 hR hJ hfl hqs (hA2 ▸ hcp) hs3 hs1 hs5 hs2 (hg_42 9 (by decide) (by decide) (by decide)) hq9 hr6 (hm_42 4 (by decide)) hq_42 hlm hrm hs6 hs7⟩) (fun k k4 k5 k8 k9 => (hg_42 k k4 k5 k8).trans (hI1 k k4 k5 k8 k9)) (fun k k3 k4 => (hm_42 k k3).trans (hA1 k k3 k4)) | exact ih_17 q2 _ _ _ (by omega) (by omega) (Or.inl ⟨e_69, hs4, ld_r hn80 hR hJ hfl hqs (hA2 ▸ hcr) hs3 hs1 hs5 hs2 (hg_58 8 (by decide) (by decide) (by decide)) hq8 hl10 (hm_58 3 (by decide)) hq_58 hlm hrm hs6 hs7⟩) (fun k k4 k5 k8 k9 => (hg_58 k k4 k5 k9).trans (hI1 k k4 k5 k8 k9)) (fun k k3 k4 => (hm_58 k k4).trans (hA1 k k3 k4)) | exact ih_17 (T.2.2.length + 1) _ _ _ (by omega) (by omega) (Or.inr ⟨e_69, s, hs1, hs2, ld_pf hn80 hR hJ hfl hqs (hA2 ▸ hcp) hs1 hs3⟩) (fun k k4 k5 k8 k9 => (hg_42 k k4 k5 k8).trans (hI1 k k4 k5 k8 k9)) (fun k k3 k4 => (hm_42 k k3).trans (hA1 k k3 k4)) | exact ih_17 (T.2.2.length + 1) _ _ _ (by omega) (by omega) (Or.inr ⟨e_69, s, hs1, hs2, ld_rf hn80 hR hJ hfl hqs (hA2 ▸ hcr) hs1 hs3⟩) (fun k k4 k5 k8 k9 => (hg_58 k k4 k5 k9).trans (hI1 k k4 k5 k8 k9)) (fun k k3 k4 => (hm_58 k k4).trans (hA1 k k3 k4)) | exact ih_17 (T.2.2.length + 1) _ _ _ (by omega) (by omega) (Or.inr ⟨e_69, q, hqn, hq4, ld_of hn80 hR hJ hfl hqs (hA2 ▸ hco.1) (hA2 ▸ hco.2)⟩) hI1 hA1
            · skip
              dsimp only [jstk]
              refine j_goto hC dX7_load_45 (tgt := 69) (by decide) ?_
              refine j_istore_n hC dX7_load_69 rfl rfl rfl rfl (fun v_69 e_69 => ?_)
              refine j_goto hC dX7_load_70 (tgt := 17) (by decide) ?_
              refine j_pick [0, 1] ?_
              first | exact ih_17 q2 _ _ _ (by omega) (by omega) (Or.inl ⟨e_69, hs4, ld_p hn80 hR hJ hfl hqs (hA2 ▸ hcp) hs3 hs1 hs5 hs2 (hg_42 9 (by decide) (by decide) (by decide)) hq9 hr6 (hm_42 4 (by decide)) hq_42 hlm hrm hs6 hs7⟩) (fun k k4 k5 k8 k9 => (hg_42 k k4 k5 k8).trans (hI1 k k4 k5 k8 k9)) (fun k k3 k4 => (hm_42 k k3).trans (hA1 k k3 k4)) | exact ih_17 q2 _ _ _ (by omega) (by omega) (Or.inl ⟨e_69, hs4, ld_r hn80 hR hJ hfl hqs (hA2 ▸ hcr) hs3 hs1 hs5 hs2 (hg_58 8 (by decide) (by decide) (by decide)) hq8 hl10 (hm_58 3 (by decide)) hq_58 hlm hrm hs6 hs7⟩) (fun k k4 k5 k8 k9 => (hg_58 k k4 k5 k9).trans (hI1 k k4 k5 k8 k9)) (fun k k3 k4 => (hm_58 k k4).trans (hA1 k k3 k4)) | exact ih_17 (T.2.2.length + 1) _ _ _ (by omega) (by omega) (Or.inr ⟨e_69, s, hs1, hs2, ld_pf hn80 hR hJ hfl hqs (hA2 ▸ hcp) hs1 hs3⟩) (fun k k4 k5 k8 k9 => (hg_42 k k4 k5 k8).trans (hI1 k k4 k5 k8 k9)) (fun k k3 k4 => (hm_42 k k3).trans (hA1 k k3 k4)) | exact ih_17 (T.2.2.length + 1) _ _ _ (by omega) (by omega) (Or.inr ⟨e_69, s, hs1, hs2, ld_rf hn80 hR hJ hfl hqs (hA2 ▸ hcr) hs1 hs3⟩) (fun k k4 k5 k8 k9 => (hg_58 k k4 k5 k9).trans (hI1 k k4 k5 k8 k9)) (fun k k3 k4 => (hm_58 k k4).trans (hA1 k k3 k4)) | exact ih_17 (T.2.2.length + 1) _ _ _ (by omega) (by omega) (Or.inr ⟨e_69, q, hqn, hq4, ld_of hn80 hR hJ hfl hqs (hA2 ▸ hco.1) (hA2 ▸ hco.2)⟩) hI1 hA1
  refine j_pick [0, 1] ?_
  exact L_17 (T.2.2.length + 2) 0 _ _ _ (by omega) (by omega) (Or.inl ⟨e_16, Nat.zero_le _, J0, 80, [], [], rfl, hJ0, by decide, by rw [pk_un (by decide), pk_un (by decide), pk_us]; rfl, by rw [pk_un (by decide), pk_us]; rfl, by rw [pk_us]; rfl, by decide, by decide, fun i hi => absurd hi (Nat.not_lt_zero i), fun i hi => absurd hi (Nat.not_lt_zero i)⟩) (fun k k4 _ k8 k9 => by rw [pk_un k9, pk_un k8, pk_un k4]) (fun _ _ _ => rfl)
