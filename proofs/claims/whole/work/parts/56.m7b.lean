set_option maxHeartbeats 1000000 in
set_option maxRecDepth 100000 in
theorem c_X7_pass (g : jG) (d : Nat → Nat) (T : St3) (b : List va_W) (x : Int32) (h : MW g d T b) : Con g yX7_pass cX7_pass 3 (some .int) 7 152 0 0 [.ref (d 0), .int x] b (fun rr bb => rr = some (.int (oPass T x).1) ∧ MW g d (oPass T x).2 bb) := by
  obtain ⟨I, A, rfl, hMI⟩ := h
  obtain ⟨hm1, hmp, hmh, hmt⟩ := id hMI
  obtain ⟨⟨hq0, hk10⟩, hql, ⟨hq91, hn6⟩, hqr, ⟨hq4, hnd⟩, ⟨hq5, hqh⟩, ⟨hq6, hqs⟩, hq9, hq10⟩ := id hmp
  refine Con.of (own := RX7) (lv := [(0, .ref (d 0)), (1, .int x)]) (by decide) rfl (Nat.le_of_ble_eq_true rfl) rfl ?_
  intro E hC hQ hN
  refine j_iload_n hC dX7_pass_0 rfl rfl ?_
  refine j_iconst hC (1) dX7_pass_1 (by decide) ?_
  refine j_sipush hC (2000) dX7_pass_2 (by decide) ?_
  refine j_callSR hC [] (c_X7_in g _ _ _) mX7_in k781 rfl rfl rfl ⟨(Nat.le_of_ble_eq_true rfl), (Nat.le_of_ble_eq_true rfl)⟩ (Nat.le_of_ble_eq_true rfl) ⟨(Nat.le_of_ble_eq_true rfl), (Nat.le_of_ble_eq_true rfl)⟩ dX7_pass_5 ?_
  dsimp only [jrepl, List.set, jstk]
  refine j_if_ne hC dX7_pass_8 (tgt := 13) (by decide) (fun c_8 => ?_) (fun c_8 => ?_)
  · skip
    obtain ⟨n, hn, hn5⟩ := mp_hrs hmp
    refine j_aload_n hC dX7_pass_13 rfl rfl ?_
    refine j_get hC uX7 0 0 0 rfl rfl k724 rfl dX7_pass_14 ?_
    refine j_bipush hC (105) dX7_pass_17 (by decide) ?_
    refine j_ildN hC (m := 105) 0 1 rfl rfl (by decide) (by decide) dX7_pass_19 ?_
    refine j_iload_n hC dX7_pass_20 rfl rfl ?_
    refine j_iadd hC dX7_pass_21 ?_
    refine j_ldc hC (100000) k914 dX7_pass_22 ?_
    refine j_icmp_le hC dX7_pass_24 (tgt := 30) (by decide) (fun c_24 => ?_) (fun c_24 => ?_)
    · skip
      obtain ⟨m, hm, hx⟩ := in_nat (M := 2000) (m := 2000) rfl (by decide) ⟨Int32.le_trans (by decide) (jb1 c_8).1, (jb1 c_8).2⟩
      have hm1 : 1 ≤ m := by have q := (in_t (jb1 c_8)).1; rw [hx, nI_toInt (by omega), show (1 : Int32).toInt = 1 by decide] at q; omega
      have hnm : n + m ≤ 100000 := by have q := c_24; rw [hq5, hn, hx, nI_add] at q; exact (nI_leI (b := 100000) (by omega) (by decide)).mp q
      refine j_aload_n hC dX7_pass_30 rfl rfl ?_
      refine j_callV hC [0] (c_X7_records g _ _ _ T hMI) mX7_records k791 rfl rfl rfl rfl rfl ⟨(Nat.le_of_ble_eq_true rfl), (Nat.le_of_ble_eq_true rfl)⟩ (Nat.le_of_ble_eq_true rfl) ⟨(Nat.le_of_ble_eq_true rfl), (Nat.le_of_ble_eq_true rfl)⟩ dX7_pass_31 (fun r_31 b_31 hp_31 _ => ?_)
      obtain ⟨rfl, I_31, A_31, rfl, hR_31⟩ := hp_31
      have hP_31 : MP (A_31 1) T.1 := hR_31.2.1
      dsimp only [jrepl, List.set, jstk]
      refine j_iconst hC (0) dX7_pass_34 (by decide) ?_
      refine j_istore_n hC dX7_pass_35 rfl rfl rfl rfl (fun v_35 e_35 => ?_)
      have L_36 : ∀ (fu : Nat) (k : Nat) (x2 : Int32) (A1 : Nat → jF) (hfu : m + 1 ≤ k + fu) (hk : k ≤ m) (h2 : x2 = nI k) (hPk : MP (A1 1) (hrsS T.1 k)) (hK : ∀ q, q ≠ 1 → A1 q = A_31 q) (hT : ∀ q, 111 ≤ q → q < 999 → A1 1 q = A_31 1 q), J g (jRm 7 152 0 0) E 3 36 [(0, .ref (d 0)), (1, .int x), (2, .int x2)] [] [mc g d I_31 A1] (0) (0) := by
        intro fu
        induction fu with
        | zero => intro k x2 A1 hfu hk h2 hPk hK hT; exact absurd hfu (by omega)
        | succ fu ih_36 =>
          intro k x2 A1 hfu hk h2 hPk hK hT
          refine j_iload_n hC dX7_pass_36 rfl rfl ?_
          refine j_iload_n hC dX7_pass_37 rfl rfl ?_
          refine j_icmp_ge hC dX7_pass_38 (tgt := 51) (by decide) (fun c_38 => ?_) (fun c_38 => ?_)
          · skip
            have hke : k = m := Nat.le_antisymm hk (jge hx h2 (by omega) (by omega) c_38)
            rw [hke, hrs_pas hn (MP_wf hmp) hm1 hm hnm, ← hx] at hPk
            refine j_aload_n hC dX7_pass_51 rfl rfl ?_
            refine j_callVR hC [0] (c_X7_ready g _ _ _ (pasS x T.1) hPk) mX7_ready k927 rfl rfl rfl rfl rfl ⟨(Nat.le_of_ble_eq_true rfl), (Nat.le_of_ble_eq_true rfl)⟩ (Nat.le_of_ble_eq_true rfl) ⟨(Nat.le_of_ble_eq_true rfl), (Nat.le_of_ble_eq_true rfl)⟩ dX7_pass_52 ?_
            dsimp only [jrepl, List.set, jstk]
            refine j_iret hC hQ rfl rfl (Nat.le_of_ble_eq_true rfl) (Nat.le_of_ble_eq_true rfl) dX7_pass_55 rfl ?_
            exact mw_o (by unfold oPass; rw [if_neg (Int32.not_lt.mpr (jb1 c_8).1), if_pos (jb1 c_8).2, if_pos (by rw [← hq5]; exact c_24)]) (mi_set hR_31 hK hT hPk)
          · skip
            have hkm : k < m := jlt hx h2 (by omega) (by omega) c_38
            refine j_aload_n hC dX7_pass_41 rfl rfl ?_
            refine j_callV hC [0] (c_X7_hour g _ _ _ (hrsS T.1 k) (n + k) hPk (by rw [hrs_map hn]; rfl) (by omega)) mX7_hour k915 rfl rfl rfl rfl rfl ⟨(Nat.le_of_ble_eq_true rfl), (Nat.le_of_ble_eq_true rfl)⟩ (Nat.le_of_ble_eq_true rfl) ⟨(Nat.le_of_ble_eq_true rfl), (Nat.le_of_ble_eq_true rfl)⟩ dX7_pass_42 (fun r_42 b_42 hp_42 _ => ?_)
            obtain ⟨rfl, A_42, rfl, hK_42, hT_42, hP_42⟩ := hp_42
            dsimp only [jrepl, List.set, jstk]
            refine j_iinc hC (1) dX7_pass_45 rfl rfl rfl rfl rfl (fun v_45 e_45 => ?_)
            refine j_goto hC dX7_pass_48 (tgt := 36) (by decide) ?_
            refine j_pick [0, 1, 2] ?_
            exact ih_36 (k + 1) _ _ (by omega) (by omega) (jsucc e_45 h2) hP_42 (fun q hq => (hK_42 q hq).trans (hK q hq)) (fun q q1 q2 => (hT_42 q q1 q2).trans (hT q q1 q2))
      refine j_pick [0, 1, 2] ?_
      exact L_36 (m + 1) 0 _ _ (by omega) (by omega) (e_35.trans nI_0.symm) hP_31 (fun _ _ => rfl) (fun _ _ _ => rfl)
    · skip
      refine j_bipush hC (-3) dX7_pass_27 (by decide) ?_
      refine j_iret hC hQ rfl rfl (Nat.le_of_ble_eq_true rfl) (Nat.le_of_ble_eq_true rfl) dX7_pass_29 rfl ?_
      exact mw_o (T := T) (by unfold oPass; rw [if_neg (Int32.not_lt.mpr (jb1 c_8).1), if_pos (jb1 c_8).2, if_neg (by rw [← hq5]; exact c_24)]) hMI
  · skip
    refine j_iconst hC (-1) dX7_pass_11 (by decide) ?_
    refine j_iret hC hQ rfl rfl (Nat.le_of_ble_eq_true rfl) (Nat.le_of_ble_eq_true rfl) dX7_pass_12 rfl ?_
    exact mw_o (T := T) (by unfold oPass; by_cases q : x < 1; rw [if_pos q]; rw [if_neg q, if_neg (fun w => jb0 c_8 ⟨Int32.not_lt.mp q, w⟩)]) hMI
