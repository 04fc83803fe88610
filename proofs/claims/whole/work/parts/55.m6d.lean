theorem w_56 {w : Int32} (h0 : ¬ w < 0) (h6 : ¬ 6 < w) (s0 : ¬ w = 0) (s1 : ¬ w = 1) (s2 : ¬ w = 2) (s3 : ¬ w = 3) (s4 : ¬ w = 4) (s6 : ¬ w = 6) : w = 5 := by
  obtain ⟨j, hj, rfl⟩ := nI_of h0
  have h : j ≤ 6 := by
    rcases Nat.lt_or_ge 6 j with q | q
    · exact absurd ((nI_ltI (a := 6) (by decide) hj).mpr q) h6
    · exact q
  have : ∀ j, j ≤ 6 → j ≠ 5 → (nI j = 0 ∨ nI j = 1 ∨ nI j = 2 ∨ nI j = 3 ∨ nI j = 4 ∨ nI j = 6) := by decide
  by_cases e : j = 5
  · rw [e]; rfl
  · rcases this j h e with q | q | q | q | q | q
    · exact absurd q s0
    · exact absurd q s1
    · exact absurd q s2
    · exact absurd q s3
    · exact absurd q s4
    · exact absurd q s6
set_option maxHeartbeats 1000000 in
set_option maxRecDepth 100000 in
theorem c_X7_routeAt (g : jG) (d : Nat → Nat) (T : St3) (b : List va_W) (x w : Int32) (h : MW g d T b) : Con g yX7_routeAt cX7_routeAt 3 (some .int) 6 141 0 0 [.ref (d 0), .int x, .int w] b (fun rr bb => rr = some (.int (oRouteAt T x w).1) ∧ MW g d (oRouteAt T x w).2 bb) := by
  obtain ⟨I, A, rfl, hMI⟩ := h
  obtain ⟨hm1, hmp, hmh, hmt⟩ := id hMI
  obtain ⟨⟨hq0, hk10⟩, hql, ⟨hq91, hn6⟩, hqr, ⟨hq4, hnd⟩, ⟨hq5, hqh⟩, ⟨hq6, hqs⟩, hq9, hq10⟩ := id hmp
  refine Con.of (own := RX7) (lv := [(0, .ref (d 0)), (1, .int x), (2, .int w)]) (by decide) rfl (Nat.le_of_ble_eq_true rfl) rfl ?_
  intro E hC hQ hN
  refine j_aload_n hC dX7_routeAt_0 rfl rfl ?_
  refine j_iload_n hC dX7_routeAt_1 rfl rfl ?_
  refine j_callVR hC [0] (c_X7_isRoute g _ _ _ _) mX7_isRoute k835 rfl rfl rfl rfl rfl ⟨(Nat.le_of_ble_eq_true rfl), (Nat.le_of_ble_eq_true rfl)⟩ (Nat.le_of_ble_eq_true rfl) ⟨(Nat.le_of_ble_eq_true rfl), (Nat.le_of_ble_eq_true rfl)⟩ dX7_routeAt_2 ?_
  dsimp only [jrepl, List.set, jstk]
  refine j_if_eq hC dX7_routeAt_5 (tgt := 18) (by decide) (fun c_5 => ?_) (fun c_5 => ?_)
  · skip
    refine j_iconst hC (-1) dX7_routeAt_18 (by decide) ?_
    refine j_iret hC hQ rfl rfl (Nat.le_of_ble_eq_true rfl) (Nat.le_of_ble_eq_true rfl) dX7_routeAt_19 rfl ?_
    first | exact mw_o (by unfold oRouteAt; rw [if_neg (fun q => jb0 c_5 ((in_len hq91 (by omega)).mpr q.1))]) hMI | exact mw_o (by unfold oRouteAt; rw [if_neg (fun q => jb0 c_15 (in_iff.mpr q.2))]) hMI
  · skip
    refine j_iload_n hC dX7_routeAt_8 rfl rfl ?_
    refine j_iconst hC (0) dX7_routeAt_9 (by decide) ?_
    refine j_bipush hC (6) dX7_routeAt_10 (by decide) ?_
    refine j_callSR hC [] (c_X7_in g _ _ _) mX7_in k781 rfl rfl rfl ⟨(Nat.le_of_ble_eq_true rfl), (Nat.le_of_ble_eq_true rfl)⟩ (Nat.le_of_ble_eq_true rfl) ⟨(Nat.le_of_ble_eq_true rfl), (Nat.le_of_ble_eq_true rfl)⟩ dX7_routeAt_12 ?_
    dsimp only [jrepl, List.set, jstk]
    refine j_if_ne hC dX7_routeAt_15 (tgt := 20) (by decide) (fun c_15 => ?_) (fun c_15 => ?_)
    · skip
      have hlx : hLX x (bRs T.1).length := (in_len hq91 (by omega)).mp (jb1 c_5)
      obtain ⟨j, hj, hx⟩ := hLX_nat (by omega) hlx
      have hcl : x.toNatClampNeg = j := by rw [hx, nI_cl (by omega)]
      have hw0 := (in_iff.mp (jb1 c_15)).1
      have hw6 := (in_iff.mp (jb1 c_15)).2
      refine j_aload_n hC dX7_routeAt_20 rfl rfl ?_
      refine j_callV hC [0] (c_X7_laysPlaces g _ _ _ T.1 hmp) mX7_laysPlaces k947 rfl rfl rfl rfl rfl ⟨(Nat.le_of_ble_eq_true rfl), (Nat.le_of_ble_eq_true rfl)⟩ (Nat.le_of_ble_eq_true rfl) ⟨(Nat.le_of_ble_eq_true rfl), (Nat.le_of_ble_eq_true rfl)⟩ dX7_routeAt_21 (fun r_21 b_21 hp_21 _ => ?_)
      obtain ⟨rfl, A_21, rfl, hK_21, hL_21⟩ := hp_21
      have hM_21 : MI I A_21 T := mi_oth hMI (hK_21 1 (by decide) (by decide)) (hK_21 2 (by decide) (by decide))
      have hP_21 := hM_21.2.1
      dsimp only [jrepl, List.set, jstk]
      obtain ⟨ha1, ha2, ha3, ha4⟩ := mp_ra hP_21 hj
      refine j_iload_n hC dX7_routeAt_24 rfl rfl ?_
      refine j_case (0) (fun s_25_0 => ?_) (fun s_25_0 => ?_)
      · refine j_tableIn hC dX7_routeAt_25 (by rw [s_25_0]; decide) (by rw [s_25_0]; decide) (off := 35) (by rw [s_25_0]; rfl) (tgt := 60) (by decide) ?_
        obtain ⟨wn, hwn, hwx⟩ : ∃ wn : Nat, wn ≤ 1 ∧ w = nI wn := by first | exact ⟨0, by decide, s_25_0⟩ | exact ⟨1, by decide, s_25_1⟩
        refine j_aload_n hC dX7_routeAt_60 rfl rfl ?_
        refine j_get hC uX7 0 0 0 rfl rfl k724 rfl dX7_routeAt_61 ?_
        refine j_bipush hC (92) dX7_routeAt_64 (by decide) ?_
        refine j_iconst hC (2) dX7_routeAt_66 (by decide) ?_
        refine j_iload_n hC dX7_routeAt_67 rfl rfl ?_
        refine j_imul hC dX7_routeAt_68 ?_
        refine j_iadd hC dX7_routeAt_69 ?_
        refine j_iload_n hC dX7_routeAt_70 rfl rfl ?_
        refine j_iadd hC dX7_routeAt_71 ?_
        refine j_ildN hC (m := 92 + 2 * j + wn) 0 1 rfl rfl (by rw [r_idx hx, hwx]; exact nI_add _ _) (by omega) dX7_routeAt_72 ?_
        refine j_iret hC hQ rfl rfl (Nat.le_of_ble_eq_true rfl) (Nat.le_of_ble_eq_true rfl) dX7_routeAt_73 rfl ?_
        first | (have z : wn = 0 := nI_injN (by omega) (by decide) (hwx.symm.trans (s_25_0.trans nI_0.symm)); subst z; exact mw_c (v := nI (raS T.1 j)) (by unfold oRouteAt raV; rw [if_pos ⟨hlx, hw0, hw6⟩, hcl, s_25_0]; rfl) (ha1) hM_21) | (have z : wn = 1 := len_eq hwx s_25_1 rfl (by omega) (by decide); subst z; exact mw_c (v := nI (rbS T.1 j)) (by unfold oRouteAt raV; rw [if_pos ⟨hlx, hw0, hw6⟩, hcl, s_25_1]; rfl) (ha2) hM_21)
      refine j_case (1) (fun s_25_1 => ?_) (fun s_25_1 => ?_)
      · refine j_tableIn hC dX7_routeAt_25 (by rw [s_25_1]; decide) (by rw [s_25_1]; decide) (off := 35) (by rw [s_25_1]; rfl) (tgt := 60) (by decide) ?_
        obtain ⟨wn, hwn, hwx⟩ : ∃ wn : Nat, wn ≤ 1 ∧ w = nI wn := by first | exact ⟨0, by decide, s_25_0⟩ | exact ⟨1, by decide, s_25_1⟩
        refine j_aload_n hC dX7_routeAt_60 rfl rfl ?_
        refine j_get hC uX7 0 0 0 rfl rfl k724 rfl dX7_routeAt_61 ?_
        refine j_bipush hC (92) dX7_routeAt_64 (by decide) ?_
        refine j_iconst hC (2) dX7_routeAt_66 (by decide) ?_
        refine j_iload_n hC dX7_routeAt_67 rfl rfl ?_
        refine j_imul hC dX7_routeAt_68 ?_
        refine j_iadd hC dX7_routeAt_69 ?_
        refine j_iload_n hC dX7_routeAt_70 rfl rfl ?_
        refine j_iadd hC dX7_routeAt_71 ?_
        refine j_ildN hC (m := 92 + 2 * j + wn) 0 1 rfl rfl (by rw [r_idx hx, hwx]; exact nI_add _ _) (by omega) dX7_routeAt_72 ?_
        refine j_iret hC hQ rfl rfl (Nat.le_of_ble_eq_true rfl) (Nat.le_of_ble_eq_true rfl) dX7_routeAt_73 rfl ?_
        first | (have z : wn = 0 := nI_injN (by omega) (by decide) (hwx.symm.trans (s_25_0.trans nI_0.symm)); subst z; exact mw_c (v := nI (raS T.1 j)) (by unfold oRouteAt raV; rw [if_pos ⟨hlx, hw0, hw6⟩, hcl, s_25_0]; rfl) (ha1) hM_21) | (have z : wn = 1 := len_eq hwx s_25_1 rfl (by omega) (by decide); subst z; exact mw_c (v := nI (rbS T.1 j)) (by unfold oRouteAt raV; rw [if_pos ⟨hlx, hw0, hw6⟩, hcl, s_25_1]; rfl) (ha2) hM_21)
      refine j_case (2) (fun s_25_2 => ?_) (fun s_25_2 => ?_)
      · refine j_tableIn hC dX7_routeAt_25 (by rw [s_25_2]; decide) (by rw [s_25_2]; decide) (off := 49) (by rw [s_25_2]; rfl) (tgt := 74) (by decide) ?_
        refine j_aload_n hC dX7_routeAt_74 rfl rfl ?_
        refine j_iload_n hC dX7_routeAt_75 rfl rfl ?_
        refine j_callVR hC [0] (c_X7_unlit g _ _ _ T.1 j _ hP_21 hj hx hL_21.1) mX7_unlit k955 rfl rfl rfl rfl rfl ⟨(Nat.le_of_ble_eq_true rfl), (Nat.le_of_ble_eq_true rfl)⟩ (Nat.le_of_ble_eq_true rfl) ⟨(Nat.le_of_ble_eq_true rfl), (Nat.le_of_ble_eq_true rfl)⟩ dX7_routeAt_76 ?_
        dsimp only [jrepl, List.set, jstk]
        refine j_iret hC hQ rfl rfl (Nat.le_of_ble_eq_true rfl) (Nat.le_of_ble_eq_true rfl) dX7_routeAt_79 rfl ?_
        exact mw_c (v := sDark T.1 (raS T.1 j) (rbS T.1 j) 1023) (by unfold oRouteAt raV; rw [if_pos ⟨hlx, hw0, hw6⟩, hcl, s_25_2]; rfl) (rfl) hM_21
      refine j_case (3) (fun s_25_3 => ?_) (fun s_25_3 => ?_)
      · refine j_tableIn hC dX7_routeAt_25 (by rw [s_25_3]; decide) (by rw [s_25_3]; decide) (off := 55) (by rw [s_25_3]; rfl) (tgt := 80) (by decide) ?_
        refine j_aload_n hC dX7_routeAt_80 rfl rfl ?_
        refine j_iload_n hC dX7_routeAt_81 rfl rfl ?_
        refine j_callVR hC [0] (c_X7_unlit g _ _ _ T.1 j _ hP_21 hj hx hL_21.1) mX7_unlit k955 rfl rfl rfl rfl rfl ⟨(Nat.le_of_ble_eq_true rfl), (Nat.le_of_ble_eq_true rfl)⟩ (Nat.le_of_ble_eq_true rfl) ⟨(Nat.le_of_ble_eq_true rfl), (Nat.le_of_ble_eq_true rfl)⟩ dX7_routeAt_82 ?_
        dsimp only [jrepl, List.set, jstk]
        refine j_if_ne hC dX7_routeAt_85 (tgt := 92) (by decide) (fun c_85 => ?_) (fun c_85 => ?_)
        · skip
          refine j_iconst hC (0) dX7_routeAt_92 (by decide) ?_
          refine j_iret hC hQ rfl rfl (Nat.le_of_ble_eq_true rfl) (Nat.le_of_ble_eq_true rfl) dX7_routeAt_93 rfl ?_
          first | exact mw_c (v := (if sDark T.1 (raS T.1 j) (rbS T.1 j) 1023 = 0 then 1 else 0)) (by unfold oRouteAt raV; rw [if_pos ⟨hlx, hw0, hw6⟩, hcl, s_25_3]; rfl) (if_pos c_85).symm hM_21 | exact mw_c (v := (if sDark T.1 (raS T.1 j) (rbS T.1 j) 1023 = 0 then 1 else 0)) (by unfold oRouteAt raV; rw [if_pos ⟨hlx, hw0, hw6⟩, hcl, s_25_3]; rfl) (if_neg c_85).symm hM_21
        · skip
          refine j_iconst hC (1) dX7_routeAt_88 (by decide) ?_
          refine j_goto hC dX7_routeAt_89 (tgt := 93) (by decide) ?_
          refine j_iret hC hQ rfl rfl (Nat.le_of_ble_eq_true rfl) (Nat.le_of_ble_eq_true rfl) dX7_routeAt_93 rfl ?_
          first | exact mw_c (v := (if sDark T.1 (raS T.1 j) (rbS T.1 j) 1023 = 0 then 1 else 0)) (by unfold oRouteAt raV; rw [if_pos ⟨hlx, hw0, hw6⟩, hcl, s_25_3]; rfl) (if_pos c_85).symm hM_21 | exact mw_c (v := (if sDark T.1 (raS T.1 j) (rbS T.1 j) 1023 = 0 then 1 else 0)) (by unfold oRouteAt raV; rw [if_pos ⟨hlx, hw0, hw6⟩, hcl, s_25_3]; rfl) (if_neg c_85).symm hM_21
      refine j_case (4) (fun s_25_4 => ?_) (fun s_25_4 => ?_)
      · refine j_tableIn hC dX7_routeAt_25 (by rw [s_25_4]; decide) (by rw [s_25_4]; decide) (off := 69) (by rw [s_25_4]; rfl) (tgt := 94) (by decide) ?_
        refine j_aload_n hC dX7_routeAt_94 rfl rfl ?_
        refine j_iload_n hC dX7_routeAt_95 rfl rfl ?_
        refine j_iconst hC (1) dX7_routeAt_96 (by decide) ?_
        refine j_aload_n hC dX7_routeAt_97 rfl rfl ?_
        refine j_callVR hC [0] (c_X7_lights g _ _ _) mX7_lights k787 rfl rfl rfl rfl rfl ⟨(Nat.le_of_ble_eq_true rfl), (Nat.le_of_ble_eq_true rfl)⟩ (Nat.le_of_ble_eq_true rfl) ⟨(Nat.le_of_ble_eq_true rfl), (Nat.le_of_ble_eq_true rfl)⟩ dX7_routeAt_98 ?_
        dsimp only [jrepl, List.set, jstk]
        refine j_ishl hC dX7_routeAt_101 ?_
        refine j_iconst hC (1) dX7_routeAt_102 (by decide) ?_
        refine j_isub hC dX7_routeAt_103 ?_
        refine j_callVR hC [0] (c_X7_lastsNow g _ _ _ T.1 j _ _ hP_21 hj hx) mX7_lastsNow k1015 rfl rfl rfl rfl rfl ⟨(Nat.le_of_ble_eq_true rfl), (Nat.le_of_ble_eq_true rfl)⟩ (Nat.le_of_ble_eq_true rfl) ⟨(Nat.le_of_ble_eq_true rfl), (Nat.le_of_ble_eq_true rfl)⟩ dX7_routeAt_104 ?_
        dsimp only [jrepl, List.set, jstk]
        rw [sMin_full hP_21.1.1 hk10]
        refine j_iret hC hQ rfl rfl (Nat.le_of_ble_eq_true rfl) (Nat.le_of_ble_eq_true rfl) dX7_routeAt_107 rfl ?_
        exact mw_c (v := sMin T.1 1023 (raS T.1 j) (rbS T.1 j)) (by unfold oRouteAt raV; rw [if_pos ⟨hlx, hw0, hw6⟩, hcl, s_25_4]; rfl) (rfl) hM_21
      refine j_tableOut hC dX7_routeAt_25 (jout5 s_25_0 s_25_1 s_25_2 s_25_3 s_25_4) (tgt := 108) (by decide) ?_
      refine j_aload_n hC dX7_routeAt_108 rfl rfl ?_
      refine j_iload_n hC dX7_routeAt_109 rfl rfl ?_
      refine j_iload_n hC dX7_routeAt_110 rfl rfl ?_
      refine j_bipush hC (6) dX7_routeAt_111 (by decide) ?_
      refine j_icmp_ne hC dX7_routeAt_113 (tgt := 120) (by decide) (fun c_113 => ?_) (fun c_113 => ?_)
      · skip
        refine j_iconst hC (0) dX7_routeAt_120 (by decide) ?_
        refine j_callVR hC [0] (c_X7_weakest g _ _ _ T.1 j _ _ hP_21 hj hx) mX7_weakest k1023 rfl rfl rfl rfl rfl ⟨(Nat.le_of_ble_eq_true rfl), (Nat.le_of_ble_eq_true rfl)⟩ (Nat.le_of_ble_eq_true rfl) ⟨(Nat.le_of_ble_eq_true rfl), (Nat.le_of_ble_eq_true rfl)⟩ dX7_routeAt_121 ?_
        dsimp only [jrepl, List.set, jstk]
        refine j_iret hC hQ rfl rfl (Nat.le_of_ble_eq_true rfl) (Nat.le_of_ble_eq_true rfl) dX7_routeAt_124 rfl ?_
        first | exact mw_o (by unfold oRouteAt raV; rw [if_pos ⟨hlx, hw0, hw6⟩, hcl, if_neg s_25_0, if_neg s_25_1, if_neg s_25_2, if_neg s_25_3, if_neg s_25_4, if_neg (show ¬ w = 5 from fun z => absurd (z.symm.trans c_113) (by decide)), if_neg (show ¬ (1 : Int32) = 0 by decide)]) hM_21 | exact mw_o (by unfold oRouteAt raV; rw [if_pos ⟨hlx, hw0, hw6⟩, hcl, if_neg s_25_0, if_neg s_25_1, if_neg s_25_2, if_neg s_25_3, if_neg s_25_4, if_pos (w_56 hw0 hw6 s_25_0 s_25_1 s_25_2 s_25_3 s_25_4 c_113), if_pos (show (0 : Int32) = 0 from rfl)]) hM_21
      · skip
        refine j_iconst hC (1) dX7_routeAt_116 (by decide) ?_
        refine j_goto hC dX7_routeAt_117 (tgt := 121) (by decide) ?_
        refine j_callVR hC [0] (c_X7_weakest g _ _ _ T.1 j _ _ hP_21 hj hx) mX7_weakest k1023 rfl rfl rfl rfl rfl ⟨(Nat.le_of_ble_eq_true rfl), (Nat.le_of_ble_eq_true rfl)⟩ (Nat.le_of_ble_eq_true rfl) ⟨(Nat.le_of_ble_eq_true rfl), (Nat.le_of_ble_eq_true rfl)⟩ dX7_routeAt_121 ?_
        dsimp only [jrepl, List.set, jstk]
        refine j_iret hC hQ rfl rfl (Nat.le_of_ble_eq_true rfl) (Nat.le_of_ble_eq_true rfl) dX7_routeAt_124 rfl ?_
        first | exact mw_o (by unfold oRouteAt raV; rw [if_pos ⟨hlx, hw0, hw6⟩, hcl, if_neg s_25_0, if_neg s_25_1, if_neg s_25_2, if_neg s_25_3, if_neg s_25_4, if_neg (show ¬ w = 5 from fun z => absurd (z.symm.trans c_113) (by decide)), if_neg (show ¬ (1 : Int32) = 0 by decide)]) hM_21 | exact mw_o (by unfold oRouteAt raV; rw [if_pos ⟨hlx, hw0, hw6⟩, hcl, if_neg s_25_0, if_neg s_25_1, if_neg s_25_2, if_neg s_25_3, if_neg s_25_4, if_pos (w_56 hw0 hw6 s_25_0 s_25_1 s_25_2 s_25_3 s_25_4 c_113), if_pos (show (0 : Int32) = 0 from rfl)]) hM_21
    · skip
      refine j_iconst hC (-1) dX7_routeAt_18 (by decide) ?_
      refine j_iret hC hQ rfl rfl (Nat.le_of_ble_eq_true rfl) (Nat.le_of_ble_eq_true rfl) dX7_routeAt_19 rfl ?_
      first | exact mw_o (by unfold oRouteAt; rw [if_neg (fun q => jb0 c_5 ((in_len hq91 (by omega)).mpr q.1))]) hMI | exact mw_o (by unfold oRouteAt; rw [if_neg (fun q => jb0 c_15 (in_iff.mpr q.2))]) hMI
