set_option maxHeartbeats 1000000 in
set_option maxRecDepth 100000 in
theorem c_X7_hasPlan (g : jG) (d : Nat → Nat) (I : jF) (A : Nat → jF) (S : BS) (hp : MP (A 1) S) (hpt : planT A S) : Con g yX7_hasPlan cX7_hasPlan 1 (some .boolean) 1 20 0 0 [.ref (d 0)] [mc g d I A] (jR (some (.int (if dysN S < 99 then 1 else 0))) [mc g d I A]) := by
  refine Con.of (own := RX7) (lv := [(0, .ref (d 0))]) (by decide) rfl (Nat.le_of_ble_eq_true rfl) rfl ?_
  intro E hC hQ hN
  obtain ⟨⟨hq0, hk10⟩, hql, ⟨hq91, hn6⟩, hqr, ⟨hq4, hnd⟩, ⟨hq5, hqh⟩, ⟨hq6, hqs⟩, hq9, hq10⟩ := id hp
  have hpw : 2 ^ (bLs S).length ≤ 1024 := pow_1024 hk10
  have hp0 : 0 < 2 ^ (bLs S).length := Nat.two_pow_pos _
  have hdy : A 7 (2 ^ (bLs S).length - 1) = nI (dysN S) := hpt.1 _ (by omega)
  have hd9 : dysN S ≤ 99 := dP_99 (by omega)
  refine j_aload_n hC dX7_hasPlan_0 rfl rfl ?_
  refine j_get hC uX7 0 0 12 rfl rfl k736 rfl dX7_hasPlan_1 ?_
  refine j_iconst hC (1) dX7_hasPlan_4 (by decide) ?_
  refine j_aload_n hC dX7_hasPlan_5 rfl rfl ?_
  refine j_callVR hC [0] (c_X7_lights g _ _ _) mX7_lights k787 rfl rfl rfl rfl rfl ⟨(Nat.le_of_ble_eq_true rfl), (Nat.le_of_ble_eq_true rfl)⟩ (Nat.le_of_ble_eq_true rfl) ⟨(Nat.le_of_ble_eq_true rfl), (Nat.le_of_ble_eq_true rfl)⟩ dX7_hasPlan_6 ?_
  dsimp only [jrepl, List.set, jstk]
  refine j_ishl hC dX7_hasPlan_9 ?_
  refine j_iconst hC (1) dX7_hasPlan_10 (by decide) ?_
  refine j_isub hC dX7_hasPlan_11 ?_
  refine j_ildN hC (m := 2 ^ (bLs S).length - 1) 0 7 rfl rfl (by rw [hq0]; exact full_k _ (by omega)) (by omega) dX7_hasPlan_12 ?_
  refine j_bipush hC (99) dX7_hasPlan_13 (by decide) ?_
  refine j_icmp_ge hC dX7_hasPlan_15 (tgt := 22) (by decide) (fun c_15 => ?_) (fun c_15 => ?_)
  · skip
    refine j_iconst hC (0) dX7_hasPlan_22 (by decide) ?_
    refine j_iret hC hQ rfl (by first | rfl | (subst_vars; rfl) | (split <;> rfl)) (Nat.le_of_ble_eq_true rfl) (Nat.le_of_ble_eq_true rfl) dX7_hasPlan_23 rfl ⟨?_, ?_⟩
    · first | exact congrArg (fun z => some (Value.int z)) (if_pos (by rw [hdy, show (99 : Int32) = nI 99 from rfl, nI_leI (by omega) (by omega)] at c_15; omega)).symm | exact congrArg (fun z => some (Value.int z)) (if_neg (by rw [hdy, show (99 : Int32) = nI 99 from rfl, nI_leI (by omega) (by omega)] at c_15; omega)).symm
    · rfl
  · skip
    refine j_iconst hC (1) dX7_hasPlan_18 (by decide) ?_
    refine j_goto hC dX7_hasPlan_19 (tgt := 23) (by decide) ?_
    refine j_iret hC hQ rfl (by first | rfl | (subst_vars; rfl) | (split <;> rfl)) (Nat.le_of_ble_eq_true rfl) (Nat.le_of_ble_eq_true rfl) dX7_hasPlan_23 rfl ⟨?_, ?_⟩
    · first | exact congrArg (fun z => some (Value.int z)) (if_pos (by rw [hdy, show (99 : Int32) = nI 99 from rfl, nI_leI (by omega) (by omega)] at c_15; omega)).symm | exact congrArg (fun z => some (Value.int z)) (if_neg (by rw [hdy, show (99 : Int32) = nI 99 from rfl, nI_leI (by omega) (by omega)] at c_15; omega)).symm
    · rfl
set_option maxHeartbeats 1000000 in
set_option maxRecDepth 100000 in
theorem c_X7_daysNow (g : jG) (d : Nat → Nat) (I : jF) (A : Nat → jF) (S : BS) (hp : MP (A 1) S) (hpt : planT A S) : Con g yX7_daysNow cX7_daysNow 1 (some .int) 2 40 0 0 [.ref (d 0)] [mc g d I A] (jR (some (.int (dysV S))) [mc g d I A]) := by
  refine Con.of (own := RX7) (lv := [(0, .ref (d 0))]) (by decide) rfl (Nat.le_of_ble_eq_true rfl) rfl ?_
  intro E hC hQ hN
  obtain ⟨⟨hq0, hk10⟩, hql, ⟨hq91, hn6⟩, hqr, ⟨hq4, hnd⟩, ⟨hq5, hqh⟩, ⟨hq6, hqs⟩, hq9, hq10⟩ := id hp
  have hpw : 2 ^ (bLs S).length ≤ 1024 := pow_1024 hk10
  have hp0 : 0 < 2 ^ (bLs S).length := Nat.two_pow_pos _
  have hdy : A 7 (2 ^ (bLs S).length - 1) = nI (dysN S) := hpt.1 _ (by omega)
  have hd9 : dysN S ≤ 99 := dP_99 (by omega)
  refine j_aload_n hC dX7_daysNow_0 rfl rfl ?_
  refine j_callVR hC [0] (c_X7_hasPlan g _ _ _ S hp hpt) mX7_hasPlan k983 rfl rfl rfl rfl rfl ⟨(Nat.le_of_ble_eq_true rfl), (Nat.le_of_ble_eq_true rfl)⟩ (Nat.le_of_ble_eq_true rfl) ⟨(Nat.le_of_ble_eq_true rfl), (Nat.le_of_ble_eq_true rfl)⟩ dX7_daysNow_1 ?_
  dsimp only [jrepl, List.set, jstk]
  refine j_if_eq hC dX7_daysNow_4 (tgt := 23) (by decide) (fun c_4 => ?_) (fun c_4 => ?_)
  · skip
    refine j_bipush hC (-9) dX7_daysNow_23 (by decide) ?_
    refine j_iret hC hQ rfl rfl (Nat.le_of_ble_eq_true rfl) (Nat.le_of_ble_eq_true rfl) dX7_daysNow_25 rfl ⟨?_, ?_⟩
    · first | exact congrArg (fun z => some (Value.int z)) (by unfold dysV; rw [if_pos (jb1 c_4)]; exact hdy) | exact congrArg (fun z => some (Value.int z)) (by unfold dysV; rw [if_neg (jb0 c_4)])
    · rfl
  · skip
    refine j_aload_n hC dX7_daysNow_7 rfl rfl ?_
    refine j_get hC uX7 0 0 12 rfl rfl k736 rfl dX7_daysNow_8 ?_
    refine j_iconst hC (1) dX7_daysNow_11 (by decide) ?_
    refine j_aload_n hC dX7_daysNow_12 rfl rfl ?_
    refine j_callVR hC [0] (c_X7_lights g _ _ _) mX7_lights k787 rfl rfl rfl rfl rfl ⟨(Nat.le_of_ble_eq_true rfl), (Nat.le_of_ble_eq_true rfl)⟩ (Nat.le_of_ble_eq_true rfl) ⟨(Nat.le_of_ble_eq_true rfl), (Nat.le_of_ble_eq_true rfl)⟩ dX7_daysNow_13 ?_
    dsimp only [jrepl, List.set, jstk]
    refine j_ishl hC dX7_daysNow_16 ?_
    refine j_iconst hC (1) dX7_daysNow_17 (by decide) ?_
    refine j_isub hC dX7_daysNow_18 ?_
    refine j_ildN hC (m := 2 ^ (bLs S).length - 1) 0 7 rfl rfl (by rw [hq0]; exact full_k _ (by omega)) (by omega) dX7_daysNow_19 ?_
    refine j_goto hC dX7_daysNow_20 (tgt := 25) (by decide) ?_
    refine j_iret hC hQ rfl rfl (Nat.le_of_ble_eq_true rfl) (Nat.le_of_ble_eq_true rfl) dX7_daysNow_25 rfl ⟨?_, ?_⟩
    · first | exact congrArg (fun z => some (Value.int z)) (by unfold dysV; rw [if_pos (jb1 c_4)]; exact hdy) | exact congrArg (fun z => some (Value.int z)) (by unfold dysV; rw [if_neg (jb0 c_4)])
    · rfl
set_option maxHeartbeats 1000000 in
set_option maxRecDepth 100000 in
theorem c_X7_setOf (g : jG) (d : Nat → Nat) (I : jF) (A : Nat → jF) (S : BS) (t : Nat) (x : Int32) (hp : MP (A 1) S) (hpt : planT A S) (hx : x = nI t) (ht : t < dysN S) (h99 : dysN S < 99) : Con g yX7_setOf cX7_setOf 4 (some .int) 1 20 0 0 [.ref (d 0), .int x] [mc g d I A] (jR (some (.int (nI (onN S t)))) [mc g d I A]) := by
  refine Con.of (own := RX7) (lv := [(0, .ref (d 0)), (1, .int x)]) (by decide) rfl (Nat.le_of_ble_eq_true rfl) rfl ?_
  intro E hC hQ hN
  obtain ⟨⟨hq0, hk10⟩, hql, ⟨hq91, hn6⟩, hqr, ⟨hq4, hnd⟩, ⟨hq5, hqh⟩, ⟨hq6, hqs⟩, hq9, hq10⟩ := id hp
  have hpw : 2 ^ (bLs S).length ≤ 1024 := pow_1024 hk10
  have hp0 : 0 < 2 ^ (bLs S).length := Nat.two_pow_pos _
  have hdy : A 7 (2 ^ (bLs S).length - 1) = nI (dysN S) := hpt.1 _ (by omega)
  have hd9 : dysN S ≤ 99 := dP_99 (by omega)
  have hall := dys_all hk10 (mp_rr hp) h99
  have hpos := fun k (hk : k < dysN S) => dl_pos hk10 hall hk
  have ht10 : dysN S ≤ 10 := hall _ (by omega)
  refine j_iconst hC (1) dX7_setOf_0 (by decide) ?_
  refine j_aload_n hC dX7_setOf_1 rfl rfl ?_
  refine j_callVR hC [0] (c_X7_lights g _ _ _) mX7_lights k787 rfl rfl rfl rfl rfl ⟨(Nat.le_of_ble_eq_true rfl), (Nat.le_of_ble_eq_true rfl)⟩ (Nat.le_of_ble_eq_true rfl) ⟨(Nat.le_of_ble_eq_true rfl), (Nat.le_of_ble_eq_true rfl)⟩ dX7_setOf_2 ?_
  dsimp only [jrepl, List.set, jstk]
  refine j_ishl hC dX7_setOf_5 ?_
  refine j_iconst hC (1) dX7_setOf_6 (by decide) ?_
  refine j_isub hC dX7_setOf_7 ?_
  refine j_istore_n hC dX7_setOf_8 rfl rfl rfl rfl (fun v_8 e_8 => ?_)
  refine j_iconst hC (0) dX7_setOf_9 (by decide) ?_
  refine j_istore_n hC dX7_setOf_10 rfl rfl rfl rfl (fun v_10 e_10 => ?_)
  have L_11 : ∀ (fu : Nat) (k : Nat) (x2 x3 : Int32) (hfu : t + 1 ≤ k + fu) (hk : k ≤ t) (h2 : x2 = nI (dayL (alS S) (2 ^ (bLs S).length - 1) k)) (h3 : x3 = nI k), J g (jRm 1 20 0 0) E 4 11 [(0, .ref (d 0)), (1, .int x), (2, .int x2), (3, .int x3)] [] [mc g d I A] (0) (0) := by
    intro fu
    induction fu with
    | zero => intro k x2 x3 hfu hk h2 h3; exact absurd hfu (by omega)
    | succ fu ih_11 =>
      intro k x2 x3 hfu hk h2 h3
      refine j_iload_n hC dX7_setOf_11 rfl rfl ?_
      refine j_iload_n hC dX7_setOf_12 rfl rfl ?_
      refine j_icmp_ge hC dX7_setOf_13 (tgt := 37) (by decide) (fun c_13 => ?_) (fun c_13 => ?_)
      · skip
        have hke : k = t := by first | exact Nat.le_antisymm hk (jge hx h3 (by omega) (by omega) c_13) | exact absurd (nI_injN (by have := (hpos k (by omega)).2; omega) (by decide) (h2.symm.trans (c_17.trans nI_0.symm))) (by have := (hpos k (by omega)).1; omega)
        rw [hke] at h2
        obtain ⟨w1, w2⟩ := hpos t ht
        refine j_iload_n hC dX7_setOf_37 rfl rfl ?_
        refine j_if_ne hC dX7_setOf_38 (tgt := 46) (by decide) (fun c_38 => ?_) (fun c_38 => ?_)
        · skip
          refine j_aload_n hC dX7_setOf_46 rfl rfl ?_
          refine j_get hC uX7 0 0 13 rfl rfl k737 rfl dX7_setOf_47 ?_
          refine j_iload_n hC dX7_setOf_50 rfl rfl ?_
          refine j_ildN hC (m := dayL (alS S) (2 ^ (bLs S).length - 1) t) 0 8 rfl rfl h2 (by omega) dX7_setOf_51 ?_
          refine j_iret hC hQ rfl rfl (Nat.le_of_ble_eq_true rfl) (Nat.le_of_ble_eq_true rfl) dX7_setOf_52 rfl ⟨?_, ?_⟩
          · first | exact absurd (nI_injN (by omega) (by decide) (h2.symm.trans (c_38.trans nI_0.symm))) (by omega) | exact congrArg (fun z => some (Value.int z)) (hpt.2 _ w1 w2)
          · rfl
        · skip
          refine j_bipush hC (-9) dX7_setOf_41 (by decide) ?_
          refine j_goto hC dX7_setOf_43 (tgt := 52) (by decide) ?_
          refine j_iret hC hQ rfl rfl (Nat.le_of_ble_eq_true rfl) (Nat.le_of_ble_eq_true rfl) dX7_setOf_52 rfl ⟨?_, ?_⟩
          · first | exact absurd (nI_injN (by omega) (by decide) (h2.symm.trans (c_38.trans nI_0.symm))) (by omega) | exact congrArg (fun z => some (Value.int z)) (hpt.2 _ w1 w2)
          · rfl
      · skip
        have hkt : k < t := jlt hx h3 (by omega) (by omega) c_13
        refine j_iload_n hC dX7_setOf_16 rfl rfl ?_
        refine j_if_eq hC dX7_setOf_17 (tgt := 37) (by decide) (fun c_17 => ?_) (fun c_17 => ?_)
        · skip
          have hke : k = t := by first | exact Nat.le_antisymm hk (jge hx h3 (by omega) (by omega) c_13) | exact absurd (nI_injN (by have := (hpos k (by omega)).2; omega) (by decide) (h2.symm.trans (c_17.trans nI_0.symm))) (by have := (hpos k (by omega)).1; omega)
          rw [hke] at h2
          obtain ⟨w1, w2⟩ := hpos t ht
          refine j_iload_n hC dX7_setOf_37 rfl rfl ?_
          refine j_if_ne hC dX7_setOf_38 (tgt := 46) (by decide) (fun c_38 => ?_) (fun c_38 => ?_)
          · skip
            refine j_aload_n hC dX7_setOf_46 rfl rfl ?_
            refine j_get hC uX7 0 0 13 rfl rfl k737 rfl dX7_setOf_47 ?_
            refine j_iload_n hC dX7_setOf_50 rfl rfl ?_
            refine j_ildN hC (m := dayL (alS S) (2 ^ (bLs S).length - 1) t) 0 8 rfl rfl h2 (by omega) dX7_setOf_51 ?_
            refine j_iret hC hQ rfl rfl (Nat.le_of_ble_eq_true rfl) (Nat.le_of_ble_eq_true rfl) dX7_setOf_52 rfl ⟨?_, ?_⟩
            · first | exact absurd (nI_injN (by omega) (by decide) (h2.symm.trans (c_38.trans nI_0.symm))) (by omega) | exact congrArg (fun z => some (Value.int z)) (hpt.2 _ w1 w2)
            · rfl
          · skip
            refine j_bipush hC (-9) dX7_setOf_41 (by decide) ?_
            refine j_goto hC dX7_setOf_43 (tgt := 52) (by decide) ?_
            refine j_iret hC hQ rfl rfl (Nat.le_of_ble_eq_true rfl) (Nat.le_of_ble_eq_true rfl) dX7_setOf_52 rfl ⟨?_, ?_⟩
            · first | exact absurd (nI_injN (by omega) (by decide) (h2.symm.trans (c_38.trans nI_0.symm))) (by omega) | exact congrArg (fun z => some (Value.int z)) (hpt.2 _ w1 w2)
            · rfl
        · skip
          obtain ⟨w1, w2⟩ := hpos k (by omega)
          have hvf : vl (alS S) (dayL (alS S) (2 ^ (bLs S).length - 1) k) (fP (alS S) (dayL (alS S) (2 ^ (bLs S).length - 1) k)) := by rcases dP_char (al := alS S) w1 (by omega) with ⟨z, -⟩ | ⟨-, z, -⟩; have := hall _ w2; omega; exact z
          refine j_iload_n hC dX7_setOf_20 rfl rfl ?_
          refine j_aload_n hC dX7_setOf_21 rfl rfl ?_
          refine j_get hC uX7 0 0 13 rfl rfl k737 rfl dX7_setOf_22 ?_
          refine j_iload_n hC dX7_setOf_25 rfl rfl ?_
          refine j_ildN hC (m := dayL (alS S) (2 ^ (bLs S).length - 1) k) 0 8 rfl rfl h2 (by omega) dX7_setOf_26 ?_
          refine j_iconst hC (-1) dX7_setOf_27 (by decide) ?_
          refine j_ixor hC dX7_setOf_28 ?_
          refine j_iand hC dX7_setOf_29 ?_
          refine j_istore_n hC dX7_setOf_30 rfl rfl rfl rfl (fun v_30 e_30 => ?_)
          refine j_iinc hC (1) dX7_setOf_31 rfl rfl rfl rfl rfl (fun v_31 e_31 => ?_)
          refine j_goto hC dX7_setOf_34 (tgt := 11) (by decide) ?_
          refine j_pick [0, 1, 2, 3] ?_
          exact ih_11 (k + 1) _ _ (by omega) (by omega) (by rw [e_30, h2, hpt.2 _ w1 w2]; exact and_sub (by omega) (by have := (vl_pos hvf w1 (by omega)).2.1; omega) hvf.1) (jsucc e_31 h3)
  refine j_pick [0, 1, 2, 3] ?_
  exact L_11 (t + 1) 0 _ _ (by omega) (by omega) (by rw [e_8, hq0]; exact full_k _ (by omega)) (e_10.trans nI_0.symm)
