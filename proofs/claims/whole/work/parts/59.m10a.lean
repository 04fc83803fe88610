/-! what the plan answers -/
theorem dys_99 {S : BS} {t : Nat} (ht : t < 2 ^ 31) (c : ¬ dysV S ≤ nI t) : dysN S < 99 ∧ t < dysN S := by
  unfold dysV at c
  by_cases q : dysN S < 99
  · rw [if_pos q, nI_leI (by omega) ht] at c
    exact ⟨q, by omega⟩
  · rw [if_neg q] at c
    refine absurd ?_ c
    rw [Int32.le_iff_toInt_le, nI_toInt ht, show (-9 : Int32).toInt = -9 by decide]
    omega
theorem dys_ge {S : BS} {t : Nat} (h : dysN S < 99) (ht : t < dysN S) : ¬ dysV S ≤ nI t := by
  unfold dysV
  rw [if_pos h, nI_leI (by omega) (by omega)]
  omega
theorem onV_at {S : BS} {t : Nat} (h : dysN S < 99) (ht : t < dysN S) : onV S (nI t) = nI (onN S t) := by
  unfold onV
  rw [if_pos ⟨nI_pos (by omega), dys_ge h ht⟩, nI_cl (by omega)]
theorem onV_no {S : BS} {x : Int32} (c : dysV S ≤ x) : onV S x = -9 := by
  unfold onV
  rw [if_neg (fun w => w.2 c)]
theorem onV_none {S : BS} {x : Int32} (h0 : 0 ≤ x) (h : ¬ dysN S < 99) : onV S x = -9 := by
  refine onV_no ?_
  unfold dysV
  rw [if_neg h, ile_t]
  rw [ile_t, z_t] at h0
  rw [show (-9 : Int32).toInt = -9 by decide]; omega
theorem od_neg {T : St3} {x : Int32} (c : ¬ 0 ≤ x) : oDay T x = (-1, T) := by unfold oDay; rw [if_neg c]
theorem od_pos {T : St3} {x : Int32} (c : 0 ≤ x) : oDay T x = (onV T.1 x, T) := by unfold oDay; rw [if_pos c]
theorem dayS_s {S : BS} {x : Int32} {t : Nat} (ht : t ≤ 10) : dayS S x (11 - t) t = if dysV S ≤ nI t then -9 else if (onV S (nI t) >>> (x &&& 31)) &&& 1 = 1 then nI t else dayS S x (11 - (t + 1)) (t + 1) := by
  rw [show 11 - t = (10 - t) + 1 by omega, show 11 - (t + 1) = 10 - t by omega]; rfl
theorem pr_6 {L : jF} {n : Int32} : propL L 6 n = capL L := rfl
theorem pr_7 {L : jF} {n : Int32} : propL L 7 n = L 6 := rfl
theorem pr_8 {L : jF} {n : Int32} : propL L 8 n = L 7 := rfl
theorem pr_9 {L : jF} {n : Int32} : propL L 9 n = endL L := rfl
theorem pr_10 {L : jF} {n : Int32} : propL L 10 n = (if n ≤ endL L then 1 else 0) := rfl
theorem pr_11 {L : jF} {n : Int32} : propL L 11 n = L 8 := rfl
theorem pr_5 {L : jF} {n : Int32} {w : Nat} (hw : w ≤ 5) (h4 : L 4 = 0 ∨ L 4 = 1) : propL L (nI w) n = L w := by
  match w, hw with
  | 0, _ => rfl
  | 1, _ => rfl
  | 2, _ => rfl
  | 3, _ => rfl
  | 4, _ =>
    have e : propL L (nI 4) n = (if L 4 = 0 then 0 else 1) := rfl
    rw [e]
    rcases h4 with q | q
    · rw [if_pos q, q]
    · rw [if_neg (by rw [q]; decide), q]
  | 5, _ => rfl
theorem w_05 {w : Int32} (h0 : ¬ w < 0) (h12 : ¬ 12 < w) (s6 : ¬ w = 6) (s7 : ¬ w = 7) (s8 : ¬ w = 8) (s9 : ¬ w = 9) (s10 : ¬ w = 10) (s11 : ¬ w = 11) (s12 : ¬ w = 12) : ∃ j, j ≤ 5 ∧ w = nI j := by
  obtain ⟨j, hj, rfl⟩ := nI_of h0
  have h : j ≤ 12 := by
    rcases Nat.lt_or_ge 12 j with q | q
    · exact absurd ((nI_ltI (a := 12) (by decide) hj).mpr q) h12
    · exact q
  have : ∀ j, j ≤ 12 → j ≤ 5 ∨ nI j = 6 ∨ nI j = 7 ∨ nI j = 8 ∨ nI j = 9 ∨ nI j = 10 ∨ nI j = 11 ∨ nI j = 12 := by decide
  rcases this j h with q | q | q | q | q | q | q | q
  · exact ⟨j, q, rfl⟩
  · exact absurd q s6
  · exact absurd q s7
  · exact absurd q s8
  · exact absurd q s9
  · exact absurd q s10
  · exact absurd q s11
  · exact absurd q s12
theorem ol_bad {T : St3} {x w : Int32} (h : ¬ (hLX x (bLs T.1).length ∧ ¬ w < 0 ∧ ¬ 12 < w)) : oLight T x w = (-1, T) := by unfold oLight; rw [if_neg h]
theorem ol_12 {T : St3} {x w : Int32} (h : hLX x (bLs T.1).length ∧ ¬ w < 0 ∧ ¬ 12 < w) (e : w = 12) : oLight T x w = (dayS T.1 x 11 0, T) := by unfold oLight; rw [if_pos h, if_pos e]
theorem ol_pr {T : St3} {x w : Int32} (h : hLX x (bLs T.1).length ∧ ¬ w < 0 ∧ ¬ 12 < w) (e : ¬ w = 12) : oLight T x w = (propL (lg T.1 x) w (bNeed T.1), T) := by unfold oLight; rw [if_pos h, if_neg e]
set_option maxHeartbeats 1000000 in
set_option maxRecDepth 100000 in
theorem c_X7_days (g : jG) (d : Nat → Nat) (T : St3) (b : List va_W) (h : MW g d T b) : Con g yX7_days cX7_days 1 (some .int) 7 157 0 0 [.ref (d 0)] b (fun rr bb => rr = some (.int (oDays T).1) ∧ MW g d (oDays T).2 bb) := by
  obtain ⟨I, A, rfl, hMI⟩ := h
  obtain ⟨hm1, hmp, hmh, hmt⟩ := id hMI
  obtain ⟨⟨hq0, hk10⟩, hql, ⟨hq91, hn6⟩, hqr, ⟨hq4, hnd⟩, ⟨hq5, hqh⟩, ⟨hq6, hqs⟩, hq9, hq10⟩ := id hmp
  refine Con.of (own := RX7) (lv := [(0, .ref (d 0))]) (by decide) rfl (Nat.le_of_ble_eq_true rfl) rfl ?_
  intro E hC hQ hN
  refine j_aload_n hC dX7_days_0 rfl rfl ?_
  refine j_callV hC [0] (c_X7_laysPlan g _ _ _ T.1 hmp) mX7_laysPlan k975 rfl rfl rfl rfl rfl ⟨(Nat.le_of_ble_eq_true rfl), (Nat.le_of_ble_eq_true rfl)⟩ (Nat.le_of_ble_eq_true rfl) ⟨(Nat.le_of_ble_eq_true rfl), (Nat.le_of_ble_eq_true rfl)⟩ dX7_days_1 (fun r_1 b_1 hp_1 _ => ?_)
  obtain ⟨rfl, A_1, rfl, hK_1, hL_1⟩ := hp_1
  have hM_1 : MI I A_1 T := mi_oth hMI (hK_1 1 (by decide)) (hK_1 2 (by decide))
  have hP_1 := hM_1.2.1
  dsimp only [jrepl, List.set, jstk]
  refine j_aload_n hC dX7_days_4 rfl rfl ?_
  refine j_callVR hC [0] (c_X7_daysNow g _ _ _ T.1 hP_1 hL_1) mX7_daysNow k979 rfl rfl rfl rfl rfl ⟨(Nat.le_of_ble_eq_true rfl), (Nat.le_of_ble_eq_true rfl)⟩ (Nat.le_of_ble_eq_true rfl) ⟨(Nat.le_of_ble_eq_true rfl), (Nat.le_of_ble_eq_true rfl)⟩ dX7_days_5 ?_
  dsimp only [jrepl, List.set, jstk]
  refine j_iret hC hQ rfl rfl (Nat.le_of_ble_eq_true rfl) (Nat.le_of_ble_eq_true rfl) dX7_days_8 rfl ?_
  exact mw_o (o := oDays T) (T := T) rfl hM_1
set_option maxHeartbeats 1000000 in
set_option maxRecDepth 100000 in
theorem c_X7_day (g : jG) (d : Nat → Nat) (T : St3) (b : List va_W) (x : Int32) (h : MW g d T b) : Con g yX7_day cX7_day 2 (some .int) 7 157 0 0 [.ref (d 0), .int x] b (fun rr bb => rr = some (.int (oDay T x).1) ∧ MW g d (oDay T x).2 bb) := by
  obtain ⟨I, A, rfl, hMI⟩ := h
  obtain ⟨hm1, hmp, hmh, hmt⟩ := id hMI
  obtain ⟨⟨hq0, hk10⟩, hql, ⟨hq91, hn6⟩, hqr, ⟨hq4, hnd⟩, ⟨hq5, hqh⟩, ⟨hq6, hqs⟩, hq9, hq10⟩ := id hmp
  refine Con.of (own := RX7) (lv := [(0, .ref (d 0)), (1, .int x)]) (by decide) rfl (Nat.le_of_ble_eq_true rfl) rfl ?_
  intro E hC hQ hN
  refine j_iload_n hC dX7_day_0 rfl rfl ?_
  refine j_if_ge hC dX7_day_1 (tgt := 6) (by decide) (fun c_1 => ?_) (fun c_1 => ?_)
  · skip
    obtain ⟨t, ht31, hxt⟩ := nI_of (Int32.not_lt.mpr c_1)
    refine j_aload_n hC dX7_day_6 rfl rfl ?_
    refine j_callV hC [0] (c_X7_laysPlan g _ _ _ T.1 hmp) mX7_laysPlan k975 rfl rfl rfl rfl rfl ⟨(Nat.le_of_ble_eq_true rfl), (Nat.le_of_ble_eq_true rfl)⟩ (Nat.le_of_ble_eq_true rfl) ⟨(Nat.le_of_ble_eq_true rfl), (Nat.le_of_ble_eq_true rfl)⟩ dX7_day_7 (fun r_7 b_7 hp_7 _ => ?_)
    obtain ⟨rfl, A_7, rfl, hK_7, hL_7⟩ := hp_7
    have hM_7 : MI I A_7 T := mi_oth hMI (hK_7 1 (by decide)) (hK_7 2 (by decide))
    have hP_7 := hM_7.2.1
    dsimp only [jrepl, List.set, jstk]
    refine j_aload_n hC dX7_day_10 rfl rfl ?_
    refine j_callVR hC [0] (c_X7_hasPlan g _ _ _ T.1 hP_7 hL_7) mX7_hasPlan k983 rfl rfl rfl rfl rfl ⟨(Nat.le_of_ble_eq_true rfl), (Nat.le_of_ble_eq_true rfl)⟩ (Nat.le_of_ble_eq_true rfl) ⟨(Nat.le_of_ble_eq_true rfl), (Nat.le_of_ble_eq_true rfl)⟩ dX7_day_11 ?_
    dsimp only [jrepl, List.set, jstk]
    refine j_if_eq hC dX7_day_14 (tgt := 33) (by decide) (fun c_14 => ?_) (fun c_14 => ?_)
    · skip
      refine j_bipush hC (-9) dX7_day_33 (by decide) ?_
      refine j_iret hC hQ rfl rfl (Nat.le_of_ble_eq_true rfl) (Nat.le_of_ble_eq_true rfl) dX7_day_35 rfl ?_
      first | exact mw_c (od_pos c_1) (onV_none c_1 (jb0 c_14)).symm hM_7 | exact mw_c (od_pos c_1) (onV_no c_22).symm hM_7 | exact mw_c (od_pos c_1) (by rw [hxt]; exact (onV_at (jb1 c_14) ht).symm) hM_7
    · skip
      refine j_iload_n hC dX7_day_17 rfl rfl ?_
      refine j_aload_n hC dX7_day_18 rfl rfl ?_
      refine j_callVR hC [0] (c_X7_daysNow g _ _ _ T.1 hP_7 hL_7) mX7_daysNow k979 rfl rfl rfl rfl rfl ⟨(Nat.le_of_ble_eq_true rfl), (Nat.le_of_ble_eq_true rfl)⟩ (Nat.le_of_ble_eq_true rfl) ⟨(Nat.le_of_ble_eq_true rfl), (Nat.le_of_ble_eq_true rfl)⟩ dX7_day_19 ?_
      dsimp only [jrepl, List.set, jstk]
      refine j_icmp_ge hC dX7_day_22 (tgt := 33) (by decide) (fun c_22 => ?_) (fun c_22 => ?_)
      · skip
        refine j_bipush hC (-9) dX7_day_33 (by decide) ?_
        refine j_iret hC hQ rfl rfl (Nat.le_of_ble_eq_true rfl) (Nat.le_of_ble_eq_true rfl) dX7_day_35 rfl ?_
        first | exact mw_c (od_pos c_1) (onV_none c_1 (jb0 c_14)).symm hM_7 | exact mw_c (od_pos c_1) (onV_no c_22).symm hM_7 | exact mw_c (od_pos c_1) (by rw [hxt]; exact (onV_at (jb1 c_14) ht).symm) hM_7
      · skip
        have ht : t < dysN T.1 := (dys_99 ht31 (by rw [← hxt]; first | exact c_22 | exact Int32.not_le.mpr c_22)).2
        refine j_aload_n hC dX7_day_25 rfl rfl ?_
        refine j_iload_n hC dX7_day_26 rfl rfl ?_
        refine j_callVR hC [0] (c_X7_setOf g _ _ _ T.1 t _ hP_7 hL_7 hxt ht (jb1 c_14)) mX7_setOf k991 rfl rfl rfl rfl rfl ⟨(Nat.le_of_ble_eq_true rfl), (Nat.le_of_ble_eq_true rfl)⟩ (Nat.le_of_ble_eq_true rfl) ⟨(Nat.le_of_ble_eq_true rfl), (Nat.le_of_ble_eq_true rfl)⟩ dX7_day_27 ?_
        dsimp only [jrepl, List.set, jstk]
        refine j_goto hC dX7_day_30 (tgt := 35) (by decide) ?_
        refine j_iret hC hQ rfl rfl (Nat.le_of_ble_eq_true rfl) (Nat.le_of_ble_eq_true rfl) dX7_day_35 rfl ?_
        first | exact mw_c (od_pos c_1) (onV_none c_1 (jb0 c_14)).symm hM_7 | exact mw_c (od_pos c_1) (onV_no c_22).symm hM_7 | exact mw_c (od_pos c_1) (by rw [hxt]; exact (onV_at (jb1 c_14) ht).symm) hM_7
  · skip
    refine j_iconst hC (-1) dX7_day_4 (by decide) ?_
    refine j_iret hC hQ rfl rfl (Nat.le_of_ble_eq_true rfl) (Nat.le_of_ble_eq_true rfl) dX7_day_5 rfl ?_
    exact mw_o (T := T) (od_neg c_1) hMI
set_option maxHeartbeats 1000000 in
set_option maxRecDepth 100000 in
theorem c_X7_dayOf (g : jG) (d : Nat → Nat) (I : jF) (A : Nat → jF) (S : BS) (x : Int32) (hp : MP (A 1) S) : Con g yX7_dayOf cX7_dayOf 3 (some .int) 7 157 0 0 [.ref (d 0), .int x] [mc g d I A] (fun r b => r = some (.int (dayS S x 11 0)) ∧ ∃ A1 : Nat → jF, b = [mc g d I A1] ∧ (∀ k, k < 5 ∨ k = 10 → A1 k = A k)) := by
  refine Con.of (own := RX7) (lv := [(0, .ref (d 0)), (1, .int x)]) (by decide) rfl (Nat.le_of_ble_eq_true rfl) rfl ?_
  intro E hC hQ hN
  obtain ⟨⟨hq0, hk10⟩, hql, ⟨hq91, hn6⟩, hqr, ⟨hq4, hnd⟩, ⟨hq5, hqh⟩, ⟨hq6, hqs⟩, hq9, hq10⟩ := id hp
  refine j_aload_n hC dX7_dayOf_0 rfl rfl ?_
  refine j_callV hC [0] (c_X7_laysPlan g _ _ _ S hp) mX7_laysPlan k975 rfl rfl rfl rfl rfl ⟨(Nat.le_of_ble_eq_true rfl), (Nat.le_of_ble_eq_true rfl)⟩ (Nat.le_of_ble_eq_true rfl) ⟨(Nat.le_of_ble_eq_true rfl), (Nat.le_of_ble_eq_true rfl)⟩ dX7_dayOf_1 (fun r_1 b_1 hp_1 _ => ?_)
  obtain ⟨rfl, A_1, rfl, hK_1, hL_1⟩ := hp_1
  have hP_1 : MP (A_1 1) S := by rw [hK_1 1 (by decide)]; exact hp
  have hd10 : dysN S < 99 → dysN S ≤ 10 := fun q => dys_10 hk10 (mp_rr hp) q
  dsimp only [jrepl, List.set, jstk]
  refine j_iconst hC (0) dX7_dayOf_4 (by decide) ?_
  refine j_istore_n hC dX7_dayOf_5 rfl rfl rfl rfl (fun v_5 e_5 => ?_)
  have L_6 : ∀ (fu : Nat) (t : Nat) (x2 : Int32) (hfu : 12 ≤ t + fu) (ht : t ≤ 10) (h2 : x2 = nI t) (hd : dayS S x 11 0 = dayS S x (11 - t) t), J g (jRm 7 157 0 0) E 3 6 [(0, .ref (d 0)), (1, .int x), (2, .int x2)] [] [mc g d I A_1] (0) (0) := by
    intro fu
    induction fu with
    | zero => intro t x2 hfu ht h2 hd; exact absurd hfu (by omega)
    | succ fu ih_6 =>
      intro t x2 hfu ht h2 hd
      refine j_iload_n hC dX7_dayOf_6 rfl rfl ?_
      refine j_aload_n hC dX7_dayOf_7 rfl rfl ?_
      refine j_callVR hC [0] (c_X7_daysNow g _ _ _ S hP_1 hL_1) mX7_daysNow k979 rfl rfl rfl rfl rfl ⟨(Nat.le_of_ble_eq_true rfl), (Nat.le_of_ble_eq_true rfl)⟩ (Nat.le_of_ble_eq_true rfl) ⟨(Nat.le_of_ble_eq_true rfl), (Nat.le_of_ble_eq_true rfl)⟩ dX7_dayOf_8 ?_
      dsimp only [jrepl, List.set, jstk]
      refine j_icmp_ge hC dX7_dayOf_11 (tgt := 35) (by decide) (fun c_11 => ?_) (fun c_11 => ?_)
      · skip
        refine j_bipush hC (-9) dX7_dayOf_35 (by decide) ?_
        refine j_iret hC hQ rfl rfl (Nat.le_of_ble_eq_true rfl) (Nat.le_of_ble_eq_true rfl) dX7_dayOf_37 rfl ?_
        exact ⟨congrArg (fun z => some (Value.int z)) (by rw [hd, dayS_s ht, if_pos (by rw [← h2]; exact c_11)]), A_1, rfl, hK_1⟩
      · skip
        have h99 := dys_99 (S := S) (t := t) (by omega) (by rw [← h2]; exact c_11)
        have h9b := hd10 h99.1
        refine j_aload_n hC dX7_dayOf_14 rfl rfl ?_
        refine j_iload_n hC dX7_dayOf_15 rfl rfl ?_
        refine j_callVR hC [0] (c_X7_setOf g _ _ _ S t _ hP_1 hL_1 h2 h99.2 h99.1) mX7_setOf k991 rfl rfl rfl rfl rfl ⟨(Nat.le_of_ble_eq_true rfl), (Nat.le_of_ble_eq_true rfl)⟩ (Nat.le_of_ble_eq_true rfl) ⟨(Nat.le_of_ble_eq_true rfl), (Nat.le_of_ble_eq_true rfl)⟩ dX7_dayOf_16 ?_
        dsimp only [jrepl, List.set, jstk]
        rw [← onV_at h99.1 h99.2]
        refine j_iload_n hC dX7_dayOf_19 rfl rfl ?_
        refine j_ishr hC dX7_dayOf_20 ?_
        refine j_iconst hC (1) dX7_dayOf_21 (by decide) ?_
        refine j_iand hC dX7_dayOf_22 ?_
        refine j_iconst hC (1) dX7_dayOf_23 (by decide) ?_
        refine j_icmp_ne hC dX7_dayOf_24 (tgt := 29) (by decide) (fun c_24 => ?_) (fun c_24 => ?_)
        · skip
          refine j_iinc hC (1) dX7_dayOf_29 rfl rfl rfl rfl rfl (fun v_29 e_29 => ?_)
          refine j_goto hC dX7_dayOf_32 (tgt := 6) (by decide) ?_
          refine j_pick [0, 1, 2] ?_
          exact ih_6 (t + 1) _ (by omega) (by omega) (jsucc e_29 h2) (by rw [hd, dayS_s ht, if_neg (by rw [← h2]; exact c_11), if_neg c_24])
        · skip
          refine j_iload_n hC dX7_dayOf_27 rfl rfl ?_
          refine j_iret hC hQ rfl rfl (Nat.le_of_ble_eq_true rfl) (Nat.le_of_ble_eq_true rfl) dX7_dayOf_28 rfl ?_
          exact ⟨congrArg (fun z => some (Value.int z)) (by rw [hd, dayS_s ht, if_neg (by rw [← h2]; exact c_11), if_pos (by first | exact c_24 | exact Decidable.not_not.mp c_24)]; exact h2), A_1, rfl, hK_1⟩
  refine j_pick [0, 1, 2] ?_
  exact L_6 (12) 0 _ (by omega) (by omega) (e_5.trans nI_0.symm) rfl
set_option maxHeartbeats 1000000 in
set_option maxRecDepth 100000 in
theorem c_X7_light (g : jG) (d : Nat → Nat) (T : St3) (b : List va_W) (x w : Int32) (h : MW g d T b) : Con g yX7_light cX7_light 3 (some .int) 8 179 0 0 [.ref (d 0), .int x, .int w] b (fun rr bb => rr = some (.int (oLight T x w).1) ∧ MW g d (oLight T x w).2 bb) := by
  obtain ⟨I, A, rfl, hMI⟩ := h
  obtain ⟨hm1, hmp, hmh, hmt⟩ := id hMI
  obtain ⟨⟨hq0, hk10⟩, hql, ⟨hq91, hn6⟩, hqr, ⟨hq4, hnd⟩, ⟨hq5, hqh⟩, ⟨hq6, hqs⟩, hq9, hq10⟩ := id hmp
  refine Con.of (own := RX7) (lv := [(0, .ref (d 0)), (1, .int x), (2, .int w)]) (by decide) rfl (Nat.le_of_ble_eq_true rfl) rfl ?_
  intro E hC hQ hN
  refine j_aload_n hC dX7_light_0 rfl rfl ?_
  refine j_iload_n hC dX7_light_1 rfl rfl ?_
  refine j_callVR hC [0] (c_X7_isLight g _ _ _ _) mX7_isLight k819 rfl rfl rfl rfl rfl ⟨(Nat.le_of_ble_eq_true rfl), (Nat.le_of_ble_eq_true rfl)⟩ (Nat.le_of_ble_eq_true rfl) ⟨(Nat.le_of_ble_eq_true rfl), (Nat.le_of_ble_eq_true rfl)⟩ dX7_light_2 ?_
  dsimp only [jrepl, List.set, jstk]
  refine j_if_eq hC dX7_light_5 (tgt := 18) (by decide) (fun c_5 => ?_) (fun c_5 => ?_)
  · skip
    refine j_iconst hC (-1) dX7_light_18 (by decide) ?_
    refine j_iret hC hQ rfl rfl (Nat.le_of_ble_eq_true rfl) (Nat.le_of_ble_eq_true rfl) dX7_light_19 rfl ?_
    first | exact mw_o (T := T) (ol_bad (fun q => jb0 c_5 ((in_len hq0 hk10).mpr q.1))) hMI | exact mw_o (T := T) (ol_bad (fun q => jb0 c_15 (in_iff.mpr q.2))) hMI
  · skip
    refine j_iload_n hC dX7_light_8 rfl rfl ?_
    refine j_iconst hC (0) dX7_light_9 (by decide) ?_
    refine j_bipush hC (12) dX7_light_10 (by decide) ?_
    refine j_callSR hC [] (c_X7_in g _ _ _) mX7_in k781 rfl rfl rfl ⟨(Nat.le_of_ble_eq_true rfl), (Nat.le_of_ble_eq_true rfl)⟩ (Nat.le_of_ble_eq_true rfl) ⟨(Nat.le_of_ble_eq_true rfl), (Nat.le_of_ble_eq_true rfl)⟩ dX7_light_12 ?_
    dsimp only [jrepl, List.set, jstk]
    refine j_if_ne hC dX7_light_15 (tgt := 20) (by decide) (fun c_15 => ?_) (fun c_15 => ?_)
    · skip
      have hlx : hLX x (bLs T.1).length := (in_len hq0 hk10).mp (jb1 c_5)
      obtain ⟨j, hj, hx⟩ := hLX_nat (by omega) hlx
      have hi : j ≤ 10 := by omega
      have hlg : lg T.1 x = LI T.1 j := lg_LI hj (by omega) hx
      have hcl : x.toNatClampNeg = j := by rw [hx, nI_cl (by omega)]
      have hlj := hql j hj
      have hw0 := (in_iff.mp (jb1 c_15)).1
      have hw12 := (in_iff.mp (jb1 c_15)).2
      refine j_iload_n hC dX7_light_20 rfl rfl ?_
      refine j_case (6) (fun s_21_6 => ?_) (fun s_21_6 => ?_)
      · refine j_tableIn hC dX7_light_21 (by rw [s_21_6]; decide) (by rw [s_21_6]; decide) (off := 43) (by rw [s_21_6]; rfl) (tgt := 64) (by decide) ?_
        refine j_aload_n hC dX7_light_64 rfl rfl ?_
        refine j_iload_n hC dX7_light_65 rfl rfl ?_
        refine j_callVR hC [0] (c_X7_capacityOfL g _ _ _ _ _ _ _ hx hi hlj) mX7_capacityOf k803 rfl rfl rfl rfl rfl ⟨(Nat.le_of_ble_eq_true rfl), (Nat.le_of_ble_eq_true rfl)⟩ (Nat.le_of_ble_eq_true rfl) ⟨(Nat.le_of_ble_eq_true rfl), (Nat.le_of_ble_eq_true rfl)⟩ dX7_light_66 ?_
        dsimp only [jrepl, List.set, jstk]
        refine j_iret hC hQ rfl rfl (Nat.le_of_ble_eq_true rfl) (Nat.le_of_ble_eq_true rfl) dX7_light_69 rfl ?_
        exact mw_c (ol_pr ⟨hlx, hw0, hw12⟩ (by rw [s_21_6]; decide)) (by rw [s_21_6, hlg, pr_6]) hMI
      refine j_case (7) (fun s_21_7 => ?_) (fun s_21_7 => ?_)
      · refine j_tableIn hC dX7_light_21 (by rw [s_21_7]; decide) (by rw [s_21_7]; decide) (off := 49) (by rw [s_21_7]; rfl) (tgt := 70) (by decide) ?_
        refine j_aload_n hC dX7_light_70 rfl rfl ?_
        refine j_iload_n hC dX7_light_71 rfl rfl ?_
        refine j_bipush hC (6) dX7_light_72 (by decide) ?_
        refine j_callVR hC [0] (c_X7_of g _ _ _ _ 6 _ _ hx hi (by decide) (by decide)) mX7_of k811 rfl rfl rfl rfl rfl ⟨(Nat.le_of_ble_eq_true rfl), (Nat.le_of_ble_eq_true rfl)⟩ (Nat.le_of_ble_eq_true rfl) ⟨(Nat.le_of_ble_eq_true rfl), (Nat.le_of_ble_eq_true rfl)⟩ dX7_light_74 ?_
        dsimp only [jrepl, List.set, jstk]
        refine j_iret hC hQ rfl rfl (Nat.le_of_ble_eq_true rfl) (Nat.le_of_ble_eq_true rfl) dX7_light_77 rfl ?_
        exact mw_c (ol_pr ⟨hlx, hw0, hw12⟩ (by rw [s_21_7]; decide)) (by rw [s_21_7, hlg, pr_7]; exact hlj.1 6 (by decide) (by decide)) hMI
      refine j_case (8) (fun s_21_8 => ?_) (fun s_21_8 => ?_)
      · refine j_tableIn hC dX7_light_21 (by rw [s_21_8]; decide) (by rw [s_21_8]; decide) (off := 57) (by rw [s_21_8]; rfl) (tgt := 78) (by decide) ?_
        refine j_aload_n hC dX7_light_78 rfl rfl ?_
        refine j_iload_n hC dX7_light_79 rfl rfl ?_
        refine j_callVR hC [0] (c_X7_restOf g _ _ _ _ _ _ _ hx hi hlj) mX7_restOf k895 rfl rfl rfl rfl rfl ⟨(Nat.le_of_ble_eq_true rfl), (Nat.le_of_ble_eq_true rfl)⟩ (Nat.le_of_ble_eq_true rfl) ⟨(Nat.le_of_ble_eq_true rfl), (Nat.le_of_ble_eq_true rfl)⟩ dX7_light_80 ?_
        dsimp only [jrepl, List.set, jstk]
        refine j_iret hC hQ rfl rfl (Nat.le_of_ble_eq_true rfl) (Nat.le_of_ble_eq_true rfl) dX7_light_83 rfl ?_
        exact mw_c (ol_pr ⟨hlx, hw0, hw12⟩ (by rw [s_21_8]; decide)) (by rw [s_21_8, hlg, pr_8]) hMI
      refine j_case (9) (fun s_21_9 => ?_) (fun s_21_9 => ?_)
      · refine j_tableIn hC dX7_light_21 (by rw [s_21_9]; decide) (by rw [s_21_9]; decide) (off := 63) (by rw [s_21_9]; rfl) (tgt := 84) (by decide) ?_
        refine j_aload_n hC dX7_light_84 rfl rfl ?_
        refine j_iload_n hC dX7_light_85 rfl rfl ?_
        refine j_callVR hC [0] (c_X7_enduranceOf g _ _ _ _ _ _ _ hx hi hlj) mX7_enduranceOf k935 rfl rfl rfl rfl rfl ⟨(Nat.le_of_ble_eq_true rfl), (Nat.le_of_ble_eq_true rfl)⟩ (Nat.le_of_ble_eq_true rfl) ⟨(Nat.le_of_ble_eq_true rfl), (Nat.le_of_ble_eq_true rfl)⟩ dX7_light_86 ?_
        dsimp only [jrepl, List.set, jstk]
        refine j_iret hC hQ rfl rfl (Nat.le_of_ble_eq_true rfl) (Nat.le_of_ble_eq_true rfl) dX7_light_89 rfl ?_
        exact mw_c (ol_pr ⟨hlx, hw0, hw12⟩ (by rw [s_21_9]; decide)) (by rw [s_21_9, hlg, pr_9]) hMI
      refine j_case (10) (fun s_21_10 => ?_) (fun s_21_10 => ?_)
      · refine j_tableIn hC dX7_light_21 (by rw [s_21_10]; decide) (by rw [s_21_10]; decide) (off := 69) (by rw [s_21_10]; rfl) (tgt := 90) (by decide) ?_
        refine j_aload_n hC dX7_light_90 rfl rfl ?_
        refine j_iload_n hC dX7_light_91 rfl rfl ?_
        refine j_callVR hC [0] (c_X7_isReady g _ _ _ _ _ _ _ hx hi hlj) mX7_isReady k931 rfl rfl rfl rfl rfl ⟨(Nat.le_of_ble_eq_true rfl), (Nat.le_of_ble_eq_true rfl)⟩ (Nat.le_of_ble_eq_true rfl) ⟨(Nat.le_of_ble_eq_true rfl), (Nat.le_of_ble_eq_true rfl)⟩ dX7_light_92 ?_
        dsimp only [jrepl, List.set, jstk]
        refine j_if_eq hC dX7_light_95 (tgt := 102) (by decide) (fun c_95 => ?_) (fun c_95 => ?_)
        · skip
          have hv : ¬ bNeed T.1 ≤ endL (LI T.1 j) := by rw [← hq4]; exact jb0 c_95
          refine j_iconst hC (0) dX7_light_102 (by decide) ?_
          refine j_iret hC hQ rfl rfl (Nat.le_of_ble_eq_true rfl) (Nat.le_of_ble_eq_true rfl) dX7_light_103 rfl ?_
          first | exact mw_c (ol_pr ⟨hlx, hw0, hw12⟩ (by rw [s_21_10]; decide)) (by rw [s_21_10, hlg, pr_10]; exact (if_pos hv).symm) hMI | exact mw_c (ol_pr ⟨hlx, hw0, hw12⟩ (by rw [s_21_10]; decide)) (by rw [s_21_10, hlg, pr_10]; exact (if_neg hv).symm) hMI
        · skip
          have hv : bNeed T.1 ≤ endL (LI T.1 j) := by rw [← hq4]; exact jb1 c_95
          refine j_iconst hC (1) dX7_light_98 (by decide) ?_
          refine j_goto hC dX7_light_99 (tgt := 103) (by decide) ?_
          refine j_iret hC hQ rfl rfl (Nat.le_of_ble_eq_true rfl) (Nat.le_of_ble_eq_true rfl) dX7_light_103 rfl ?_
          first | exact mw_c (ol_pr ⟨hlx, hw0, hw12⟩ (by rw [s_21_10]; decide)) (by rw [s_21_10, hlg, pr_10]; exact (if_pos hv).symm) hMI | exact mw_c (ol_pr ⟨hlx, hw0, hw12⟩ (by rw [s_21_10]; decide)) (by rw [s_21_10, hlg, pr_10]; exact (if_neg hv).symm) hMI
      refine j_case (11) (fun s_21_11 => ?_) (fun s_21_11 => ?_)
      · refine j_tableIn hC dX7_light_21 (by rw [s_21_11]; decide) (by rw [s_21_11]; decide) (off := 83) (by rw [s_21_11]; rfl) (tgt := 104) (by decide) ?_
        refine j_aload_n hC dX7_light_104 rfl rfl ?_
        refine j_iload_n hC dX7_light_105 rfl rfl ?_
        refine j_bipush hC (8) dX7_light_106 (by decide) ?_
        refine j_callVR hC [0] (c_X7_of g _ _ _ _ 8 _ _ hx hi (by decide) (by decide)) mX7_of k811 rfl rfl rfl rfl rfl ⟨(Nat.le_of_ble_eq_true rfl), (Nat.le_of_ble_eq_true rfl)⟩ (Nat.le_of_ble_eq_true rfl) ⟨(Nat.le_of_ble_eq_true rfl), (Nat.le_of_ble_eq_true rfl)⟩ dX7_light_108 ?_
        dsimp only [jrepl, List.set, jstk]
        refine j_iret hC hQ rfl rfl (Nat.le_of_ble_eq_true rfl) (Nat.le_of_ble_eq_true rfl) dX7_light_111 rfl ?_
        exact mw_c (ol_pr ⟨hlx, hw0, hw12⟩ (by rw [s_21_11]; decide)) (by rw [s_21_11, hlg, pr_11]; exact hlj.1 8 (by decide) (by decide)) hMI
      refine j_case (12) (fun s_21_12 => ?_) (fun s_21_12 => ?_)
      · refine j_tableIn hC dX7_light_21 (by rw [s_21_12]; decide) (by rw [s_21_12]; decide) (off := 91) (by rw [s_21_12]; rfl) (tgt := 112) (by decide) ?_
        refine j_aload_n hC dX7_light_112 rfl rfl ?_
        refine j_iload_n hC dX7_light_113 rfl rfl ?_
        refine j_callV hC [0] (c_X7_dayOf g _ _ _ T.1 _ hmp) mX7_dayOf k1039 rfl rfl rfl rfl rfl ⟨(Nat.le_of_ble_eq_true rfl), (Nat.le_of_ble_eq_true rfl)⟩ (Nat.le_of_ble_eq_true rfl) ⟨(Nat.le_of_ble_eq_true rfl), (Nat.le_of_ble_eq_true rfl)⟩ dX7_light_114 (fun r_114 b_114 hp_114 _ => ?_)
        obtain ⟨rfl, A_114, rfl, hK_114⟩ := hp_114
        have hM_114 : MI I A_114 T := mi_oth hMI (hK_114 1 (by decide)) (hK_114 2 (by decide))
        dsimp only [jrepl, List.set, jstk]
        refine j_iret hC hQ rfl rfl (Nat.le_of_ble_eq_true rfl) (Nat.le_of_ble_eq_true rfl) dX7_light_117 rfl ?_
        exact mw_o (ol_12 ⟨hlx, hw0, hw12⟩ s_21_12) hM_114
      refine j_tableOut hC dX7_light_21 (joutL6_7 s_21_6 s_21_7 s_21_8 s_21_9 s_21_10 s_21_11 s_21_12) (tgt := 118) (by decide) ?_
      obtain ⟨wn, hwn, hwx⟩ := w_05 hw0 hw12 s_21_6 s_21_7 s_21_8 s_21_9 s_21_10 s_21_11 s_21_12
      refine j_aload_n hC dX7_light_118 rfl rfl ?_
      refine j_iload_n hC dX7_light_119 rfl rfl ?_
      refine j_iload_n hC dX7_light_120 rfl rfl ?_
      refine j_callVR hC [0] (c_X7_of g _ _ _ j wn _ _ hx hi hwx (by omega)) mX7_of k811 rfl rfl rfl rfl rfl ⟨(Nat.le_of_ble_eq_true rfl), (Nat.le_of_ble_eq_true rfl)⟩ (Nat.le_of_ble_eq_true rfl) ⟨(Nat.le_of_ble_eq_true rfl), (Nat.le_of_ble_eq_true rfl)⟩ dX7_light_121 ?_
      dsimp only [jrepl, List.set, jstk]
      refine j_iret hC hQ rfl rfl (Nat.le_of_ble_eq_true rfl) (Nat.le_of_ble_eq_true rfl) dX7_light_124 rfl ?_
      exact mw_c (ol_pr ⟨hlx, hw0, hw12⟩ s_21_12) (by rw [hwx, hlg, pr_5 hwn hlj.2.2.1.2.2.2.1]; exact hlj.1 wn (by omega) (by omega)) hMI
    · skip
      refine j_iconst hC (-1) dX7_light_18 (by decide) ?_
      refine j_iret hC hQ rfl rfl (Nat.le_of_ble_eq_true rfl) (Nat.le_of_ble_eq_true rfl) dX7_light_19 rfl ?_
      first | exact mw_o (T := T) (ol_bad (fun q => jb0 c_5 ((in_len hq0 hk10).mpr q.1))) hMI | exact mw_o (T := T) (ol_bad (fun q => jb0 c_15 (in_iff.mpr q.2))) hMI
