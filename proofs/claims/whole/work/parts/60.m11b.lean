set_option maxHeartbeats 1000000 in
set_option maxRecDepth 100000 in
theorem c_X7_mixedPlan (g : jG) (d : Nat → Nat) (I : jF) (A : Nat → jF) (T : St3) (h0 : Int64) (hMI : MI I A T) : Con g yX7_mixedPlan cX7_mixedPlan 6 (some .long) 7 157 0 0 [.ref (d 0), .long h0] [mc g d I A] (fun r b => r = some (.long (mx T h0 (DN T.1))) ∧ ∃ A1 : Nat → jF, b = [mc g d I A1] ∧ (∀ k, k < 5 ∨ k = 10 → A1 k = A k)) := by
  refine Con.of (own := RX7) (lv := [(0, .ref (d 0)), (1, .long h0)]) (by decide) rfl (Nat.le_of_ble_eq_true rfl) rfl ?_
  intro E hC hQ hN
  obtain ⟨hm1, hmp, hmh, hmt⟩ := id hMI
  obtain ⟨⟨hq0, hk10⟩, hql, ⟨hq91, hn6⟩, hqr, ⟨hq4, hnd⟩, ⟨hq5, hqh⟩, ⟨hq6, hqs⟩, hq9, hq10⟩ := id hmp
  refine j_aload_n hC dX7_mixedPlan_0 rfl rfl ?_
  refine j_callV hC [0] (c_X7_laysPlan g _ _ _ T.1 hmp) mX7_laysPlan k975 rfl rfl rfl rfl rfl ⟨(Nat.le_of_ble_eq_true rfl), (Nat.le_of_ble_eq_true rfl)⟩ (Nat.le_of_ble_eq_true rfl) ⟨(Nat.le_of_ble_eq_true rfl), (Nat.le_of_ble_eq_true rfl)⟩ dX7_mixedPlan_1 (fun r_1 b_1 hp_1 _ => ?_)
  obtain ⟨rfl, A_1, rfl, hK_1, hL_1⟩ := hp_1
  have hM_1 : MI I A_1 T := mi_oth hMI (hK_1 1 (by decide)) (hK_1 2 (by decide))
  have hP_1 := hM_1.2.1
  have hd10 : dysN T.1 < 99 → dysN T.1 ≤ 10 := fun q => dys_10 hk10 (mp_rr hmp) q
  have hD10 := DN_le hd10
  dsimp only [jrepl, List.set, jstk]
  refine j_ldc2 hC (31) k1064 dX7_mixedPlan_4 ?_
  refine j_lload_n hC dX7_mixedPlan_7 rfl rfl ?_
  refine j_lmul hC dX7_mixedPlan_8 ?_
  refine j_aload_n hC dX7_mixedPlan_9 rfl rfl ?_
  refine j_callVR hC [0] (c_X7_daysNow g _ _ _ T.1 hP_1 hL_1) mX7_daysNow k979 rfl rfl rfl rfl rfl ⟨(Nat.le_of_ble_eq_true rfl), (Nat.le_of_ble_eq_true rfl)⟩ (Nat.le_of_ble_eq_true rfl) ⟨(Nat.le_of_ble_eq_true rfl), (Nat.le_of_ble_eq_true rfl)⟩ dX7_mixedPlan_10 ?_
  dsimp only [jrepl, List.set, jstk]
  refine j_i2l hC dX7_mixedPlan_13 ?_
  refine j_ladd hC dX7_mixedPlan_14 ?_
  refine j_lstore_n hC dX7_mixedPlan_15 rfl rfl rfl rfl rfl (fun v_15 e_15 => ?_)
  refine j_iconst hC (0) dX7_mixedPlan_16 (by decide) ?_
  refine j_istore hC dX7_mixedPlan_17 rfl rfl rfl (fun v_17 e_17 => ?_)
  have L_19 : ∀ (fu : Nat) (t : Nat) (yl : Int64) (x5 : Int32) (hfu : DN T.1 + 1 ≤ t + fu) (hi : t ≤ DN T.1) (hh : yl = mx T h0 t) (h5 : x5 = nI t), J g (jRm 7 157 0 0) E 6 19 [(0, .ref (d 0)), (1, .long h0), (3, .long yl), (5, .int x5)] [] [mc g d I A_1] (0) (0) := by
    intro fu
    induction fu with
    | zero => intro t yl x5 hfu hi hh h5; exact absurd hfu (by omega)
    | succ fu ih_19 =>
      intro t yl x5 hfu hi hh h5
      refine j_iload hC dX7_mixedPlan_19 rfl ?_
      refine j_aload_n hC dX7_mixedPlan_21 rfl rfl ?_
      refine j_callVR hC [0] (c_X7_daysNow g _ _ _ T.1 hP_1 hL_1) mX7_daysNow k979 rfl rfl rfl rfl rfl ⟨(Nat.le_of_ble_eq_true rfl), (Nat.le_of_ble_eq_true rfl)⟩ (Nat.le_of_ble_eq_true rfl) ⟨(Nat.le_of_ble_eq_true rfl), (Nat.le_of_ble_eq_true rfl)⟩ dX7_mixedPlan_22 ?_
      dsimp only [jrepl, List.set, jstk]
      refine j_icmp_ge hC dX7_mixedPlan_25 (tgt := 48) (by decide) (fun c_25 => ?_) (fun c_25 => ?_)
      · skip
        have hte : t = DN T.1 := Nat.le_antisymm hi (DN_ge hd10 (by omega) (by rw [← h5]; exact c_25))
        rw [hte] at hh
        refine j_lload_n hC dX7_mixedPlan_48 rfl rfl ?_
        refine j_lret hC hQ rfl (Nat.le_of_ble_eq_true rfl) (Nat.le_of_ble_eq_true rfl) dX7_mixedPlan_49 rfl ?_
        exact ⟨congrArg (fun z => some (Value.long z)) hh, A_1, rfl, hK_1⟩
      · skip
        have htn : t < DN T.1 := DN_lt hd10 (by omega) (by rw [← h5]; exact c_25)
        have h99 := dys_99 (S := T.1) (t := t) (by omega) (by rw [← h5]; exact c_25)
        refine j_ldc2 hC (31) k1064 dX7_mixedPlan_28 ?_
        refine j_lload_n hC dX7_mixedPlan_31 rfl rfl ?_
        refine j_lmul hC dX7_mixedPlan_32 ?_
        refine j_aload_n hC dX7_mixedPlan_33 rfl rfl ?_
        refine j_iload hC dX7_mixedPlan_34 rfl ?_
        refine j_callVR hC [0] (c_X7_setOf g _ _ _ T.1 t _ hP_1 hL_1 h5 h99.2 h99.1) mX7_setOf k991 rfl rfl rfl rfl rfl ⟨(Nat.le_of_ble_eq_true rfl), (Nat.le_of_ble_eq_true rfl)⟩ (Nat.le_of_ble_eq_true rfl) ⟨(Nat.le_of_ble_eq_true rfl), (Nat.le_of_ble_eq_true rfl)⟩ dX7_mixedPlan_36 ?_
        dsimp only [jrepl, List.set, jstk]
        rw [show nI (onN T.1 t) = (oDay T (nI t)).1 by rw [od_pos (nI_pos' (by omega)), onV_at h99.1 h99.2]]
        refine j_i2l hC dX7_mixedPlan_39 ?_
        refine j_ladd hC dX7_mixedPlan_40 ?_
        refine j_lstore_n hC dX7_mixedPlan_41 rfl rfl rfl rfl rfl (fun v_41 e_41 => ?_)
        refine j_iinc hC (1) dX7_mixedPlan_42 rfl rfl rfl rfl rfl (fun v_42 e_42 => ?_)
        refine j_goto hC dX7_mixedPlan_45 (tgt := 19) (by decide) ?_
        refine j_pick [0, 1, 3, 5] ?_
        exact ih_19 (t + 1) _ _ (by omega) (by omega) (by rw [e_41, hh, mx_s]) (jsucc e_42 h5)
  refine j_pick [0, 1, 3, 5] ?_
  exact L_19 (DN T.1 + 1) 0 _ _ (by omega) (by omega) (e_15.trans mx_0.symm) (e_17.trans nI_0.symm)
