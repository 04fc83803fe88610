set_option maxHeartbeats 1000000 in
set_option maxRecDepth 100000 in
theorem c_X7_isAllowed (g : jG) (d : Nat → Nat) (I : jF) (A : Nat → jF) (S : BS) (s : Int32) (hp : MP (A 1) S) (hla : laid A S) : Con g yX7_isAllowed cX7_isAllowed 4 (some .boolean) 0 0 0 0 [.ref (d 0), .int s] [mc g d I A] (jR (some (.int (if alw S s = true then 1 else 0))) [mc g d I A]) := by
  refine Con.of (own := RX7) (lv := [(0, .ref (d 0)), (1, .int s)]) (by decide) rfl (Nat.le_of_ble_eq_true rfl) rfl ?_
  intro E hC hQ hN
  obtain ⟨⟨hq0, hk10⟩, hql, ⟨hq91, hn6⟩, hqr, ⟨hq4, hnd⟩, ⟨hq5, hqh⟩, ⟨hq6, hqs⟩, hq9, hq10⟩ := id hp
  have hrr : ∀ r, r < (bRs S).length → rbS S r ≤ 200 := fun r hr => (mp_ra hp hr).2.2.2
  refine j_iconst hC (1) dX7_isAllowed_0 (by decide) ?_
  refine j_istore_n hC dX7_isAllowed_1 rfl rfl rfl rfl (fun v_1 e_1 => ?_)
  refine j_iconst hC (0) dX7_isAllowed_2 (by decide) ?_
  refine j_istore_n hC dX7_isAllowed_3 rfl rfl rfl rfl (fun v_3 e_3 => ?_)
  have L_4 : ∀ (fu : Nat) (p : Nat) (x2 x3 : Int32) (hfu : 202 ≤ p + fu) (hpp : p ≤ 201) (hx : (x2 = 1 ∧ ∀ q, q < p → okA S s q) ∨ (x2 = 0 ∧ ∃ q, q ≤ 200 ∧ ¬ okA S s q)) (h3 : x3 = nI p), J g (jRm 0 0 0 0) E 4 4 [(0, .ref (d 0)), (1, .int s), (2, .int x2), (3, .int x3)] [] [mc g d I A] (0) (0) := by
    intro fu
    induction fu with
    | zero => intro p x2 x3 hfu hpp hx h3; exact absurd hfu (by omega)
    | succ fu ih_4 =>
      intro p x2 x3 hfu hpp hx h3
      refine j_iload_n hC dX7_isAllowed_4 rfl rfl ?_
      refine j_sipush hC (200) dX7_isAllowed_5 (by decide) ?_
      refine j_icmp_gt hC dX7_isAllowed_8 (tgt := 49) (by decide) (fun c_8 => ?_) (fun c_8 => ?_)
      · skip
        refine j_iload_n hC dX7_isAllowed_49 rfl rfl ?_
        refine j_iret hC hQ rfl (by rcases hx with ⟨w, _⟩ | ⟨w, _⟩ <;> (rw [w]; rfl)) (Nat.le_of_ble_eq_true rfl) (Nat.le_of_ble_eq_true rfl) dX7_isAllowed_50 rfl ⟨?_, ?_⟩
        · exact congrArg (fun z => some (Value.int z)) (ia_end hrr hx (by first | exact Or.inr c_12 | exact Or.inl (by have z := jgt h3 (by omega) c_8; rw [show (200 : Int32).toInt = 200 by decide] at z; omega)))
        · rfl
      · skip
        have hpl : p < 201 := by have q := jngt h3 (by omega) c_8; rw [show (200 : Int32).toInt = 200 by decide] at q; omega
        refine j_iload_n hC dX7_isAllowed_11 rfl rfl ?_
        refine j_if_eq hC dX7_isAllowed_12 (tgt := 49) (by decide) (fun c_12 => ?_) (fun c_12 => ?_)
        · skip
          refine j_iload_n hC dX7_isAllowed_49 rfl rfl ?_
          refine j_iret hC hQ rfl (by rcases hx with ⟨w, _⟩ | ⟨w, _⟩ <;> (rw [w]; rfl)) (Nat.le_of_ble_eq_true rfl) (Nat.le_of_ble_eq_true rfl) dX7_isAllowed_50 rfl ⟨?_, ?_⟩
          · exact congrArg (fun z => some (Value.int z)) (ia_end hrr hx (by first | exact Or.inr c_12 | exact Or.inl (by have z := jgt h3 (by omega) c_8; rw [show (200 : Int32).toInt = 200 by decide] at z; omega)))
          · rfl
        · skip
          have hall : ∀ q, q < p → okA S s q := hx.elim And.right (fun w => absurd w.1 c_12)
          refine j_aload_n hC dX7_isAllowed_15 rfl rfl ?_
          refine j_get hC uX7 0 0 11 rfl rfl k735 rfl dX7_isAllowed_16 ?_
          refine j_iload_n hC dX7_isAllowed_19 rfl rfl ?_
          refine j_zldN hC (m := p) 0 6 rfl rfl h3 (by omega) dX7_isAllowed_20 ?_
          refine j_if_eq hC dX7_isAllowed_21 (tgt := 37) (by decide) (fun c_21 => ?_) (fun c_21 => ?_)
          · skip
            have hok : okA S s p := by first | exact fun w => absurd w ((hla.2 p (by omega)).elim (fun z => absurd (z.1.symm.trans c_21) (by decide)) And.right) | (rw [hla.1 p (by omega)] at c_34; exact fun _ => c_34)
            refine j_iconst hC (1) dX7_isAllowed_37 (by decide) ?_
            refine j_goto hC dX7_isAllowed_38 (tgt := 42) (by decide) ?_
            refine j_istore_n hC dX7_isAllowed_42 rfl rfl rfl rfl (fun v_42 e_42 => ?_)
            refine j_iinc hC (1) dX7_isAllowed_43 rfl rfl rfl rfl rfl (fun v_43 e_43 => ?_)
            refine j_goto hC dX7_isAllowed_46 (tgt := 4) (by decide) ?_
            refine j_pick [0, 1, 2, 3] ?_
            exact ih_4 (p + 1) _ _ (by omega) (by omega) (by first | exact Or.inl ⟨e_42, fun q hq => (Nat.lt_or_ge q p).elim (hall q) (fun w => (show p = q by omega) ▸ hok)⟩ | exact Or.inr ⟨e_42, p, by omega, hno⟩) (jsucc e_43 h3)
          · skip
            have hcp : cntP S (bRs S).length p := (hla.2 p (by omega)).elim And.right (fun w => absurd w.1 c_21)
            refine j_aload_n hC dX7_isAllowed_24 rfl rfl ?_
            refine j_get hC uX7 0 0 10 rfl rfl k734 rfl dX7_isAllowed_25 ?_
            refine j_iload_n hC dX7_isAllowed_28 rfl rfl ?_
            refine j_ildN hC (m := p) 0 5 rfl rfl h3 (by omega) dX7_isAllowed_29 ?_
            refine j_iload_n hC dX7_isAllowed_30 rfl rfl ?_
            refine j_iconst hC (-1) dX7_isAllowed_31 (by decide) ?_
            refine j_ixor hC dX7_isAllowed_32 ?_
            refine j_iand hC dX7_isAllowed_33 ?_
            refine j_if_eq hC dX7_isAllowed_34 (tgt := 41) (by decide) (fun c_34 => ?_) (fun c_34 => ?_)
            · skip
              have hno : ¬ okA S s p := by rw [hla.1 p (by omega)] at c_34; exact fun w => w hcp c_34
              refine j_iconst hC (0) dX7_isAllowed_41 (by decide) ?_
              refine j_istore_n hC dX7_isAllowed_42 rfl rfl rfl rfl (fun v_42 e_42 => ?_)
              refine j_iinc hC (1) dX7_isAllowed_43 rfl rfl rfl rfl rfl (fun v_43 e_43 => ?_)
              refine j_goto hC dX7_isAllowed_46 (tgt := 4) (by decide) ?_
              refine j_pick [0, 1, 2, 3] ?_
              exact ih_4 (p + 1) _ _ (by omega) (by omega) (by first | exact Or.inl ⟨e_42, fun q hq => (Nat.lt_or_ge q p).elim (hall q) (fun w => (show p = q by omega) ▸ hok)⟩ | exact Or.inr ⟨e_42, p, by omega, hno⟩) (jsucc e_43 h3)
            · skip
              have hok : okA S s p := by first | exact fun w => absurd w ((hla.2 p (by omega)).elim (fun z => absurd (z.1.symm.trans c_21) (by decide)) And.right) | (rw [hla.1 p (by omega)] at c_34; exact fun _ => c_34)
              refine j_iconst hC (1) dX7_isAllowed_37 (by decide) ?_
              refine j_goto hC dX7_isAllowed_38 (tgt := 42) (by decide) ?_
              refine j_istore_n hC dX7_isAllowed_42 rfl rfl rfl rfl (fun v_42 e_42 => ?_)
              refine j_iinc hC (1) dX7_isAllowed_43 rfl rfl rfl rfl rfl (fun v_43 e_43 => ?_)
              refine j_goto hC dX7_isAllowed_46 (tgt := 4) (by decide) ?_
              refine j_pick [0, 1, 2, 3] ?_
              exact ih_4 (p + 1) _ _ (by omega) (by omega) (by first | exact Or.inl ⟨e_42, fun q hq => (Nat.lt_or_ge q p).elim (hall q) (fun w => (show p = q by omega) ▸ hok)⟩ | exact Or.inr ⟨e_42, p, by omega, hno⟩) (jsucc e_43 h3)
  refine j_pick [0, 1, 2, 3] ?_
  exact L_4 (202) 0 _ _ (by omega) (by omega) (Or.inl ⟨e_1, fun q hq => absurd hq (Nat.not_lt_zero q)⟩) (e_3.trans nI_0.symm)
set_option maxHeartbeats 1000000 in
set_option maxRecDepth 100000 in
theorem c_X7_allowed (g : jG) (d : Nat → Nat) (T : St3) (b : List va_W) (s : Int32) (h : MW g d T b) : Con g yX7_allowed cX7_allowed 2 (some .int) 6 132 0 0 [.ref (d 0), .int s] b (fun rr bb => rr = some (.int (oAllowed T s).1) ∧ MW g d (oAllowed T s).2 bb) := by
  obtain ⟨I, A, rfl, hMI⟩ := h
  obtain ⟨hm1, hmp, hmh, hmt⟩ := id hMI
  obtain ⟨⟨hq0, hk10⟩, hql, ⟨hq91, hn6⟩, hqr, ⟨hq4, hnd⟩, ⟨hq5, hqh⟩, ⟨hq6, hqs⟩, hq9, hq10⟩ := id hmp
  refine Con.of (own := RX7) (lv := [(0, .ref (d 0)), (1, .int s)]) (by decide) rfl (Nat.le_of_ble_eq_true rfl) rfl ?_
  intro E hC hQ hN
  refine j_aload_n hC dX7_allowed_0 rfl rfl ?_
  refine j_iload_n hC dX7_allowed_1 rfl rfl ?_
  refine j_callVR hC [0] (c_X7_isSet g _ _ _ T.1 _ hmp) mX7_isSet k943 rfl rfl rfl rfl rfl ⟨(Nat.le_of_ble_eq_true rfl), (Nat.le_of_ble_eq_true rfl)⟩ (Nat.le_of_ble_eq_true rfl) ⟨(Nat.le_of_ble_eq_true rfl), (Nat.le_of_ble_eq_true rfl)⟩ dX7_allowed_2 ?_
  dsimp only [jrepl, List.set, jstk]
  refine j_if_ne hC dX7_allowed_5 (tgt := 10) (by decide) (fun c_5 => ?_) (fun c_5 => ?_)
  · skip
    refine j_aload_n hC dX7_allowed_10 rfl rfl ?_
    refine j_callV hC [0] (c_X7_laysPlaces g _ _ _ T.1 hmp) mX7_laysPlaces k947 rfl rfl rfl rfl rfl ⟨(Nat.le_of_ble_eq_true rfl), (Nat.le_of_ble_eq_true rfl)⟩ (Nat.le_of_ble_eq_true rfl) ⟨(Nat.le_of_ble_eq_true rfl), (Nat.le_of_ble_eq_true rfl)⟩ dX7_allowed_11 (fun r_11 b_11 hp_11 _ => ?_)
    obtain ⟨rfl, A_11, rfl, hK_11, hL_11⟩ := hp_11
    have hM_11 : MI I A_11 T := mi_oth hMI (hK_11 1 (by decide) (by decide)) (hK_11 2 (by decide) (by decide))
    have hP_11 := hM_11.2.1
    dsimp only [jrepl, List.set, jstk]
    refine j_aload_n hC dX7_allowed_14 rfl rfl ?_
    refine j_iload_n hC dX7_allowed_15 rfl rfl ?_
    refine j_callVR hC [0] (c_X7_isAllowed g _ _ _ T.1 _ hP_11 hL_11) mX7_isAllowed k959 rfl rfl rfl rfl rfl ⟨(Nat.le_of_ble_eq_true rfl), (Nat.le_of_ble_eq_true rfl)⟩ (Nat.le_of_ble_eq_true rfl) ⟨(Nat.le_of_ble_eq_true rfl), (Nat.le_of_ble_eq_true rfl)⟩ dX7_allowed_16 ?_
    dsimp only [jrepl, List.set, jstk]
    refine j_if_eq hC dX7_allowed_19 (tgt := 26) (by decide) (fun c_19 => ?_) (fun c_19 => ?_)
    · skip
      refine j_iconst hC (0) dX7_allowed_26 (by decide) ?_
      refine j_iret hC hQ rfl rfl (Nat.le_of_ble_eq_true rfl) (Nat.le_of_ble_eq_true rfl) dX7_allowed_27 rfl ?_
      first | exact mw_o (by unfold oAllowed; rw [if_pos (jb1 c_5), if_pos (jb1 c_19)]) hM_11 | exact mw_o (by unfold oAllowed; rw [if_pos (jb1 c_5), if_neg (jb0 c_19)]) hM_11
    · skip
      refine j_iconst hC (1) dX7_allowed_22 (by decide) ?_
      refine j_goto hC dX7_allowed_23 (tgt := 27) (by decide) ?_
      refine j_iret hC hQ rfl rfl (Nat.le_of_ble_eq_true rfl) (Nat.le_of_ble_eq_true rfl) dX7_allowed_27 rfl ?_
      first | exact mw_o (by unfold oAllowed; rw [if_pos (jb1 c_5), if_pos (jb1 c_19)]) hM_11 | exact mw_o (by unfold oAllowed; rw [if_pos (jb1 c_5), if_neg (jb0 c_19)]) hM_11
  · skip
    refine j_iconst hC (-1) dX7_allowed_8 (by decide) ?_
    refine j_iret hC hQ rfl rfl (Nat.le_of_ble_eq_true rfl) (Nat.le_of_ble_eq_true rfl) dX7_allowed_9 rfl ?_
    exact mw_o (T := T) (by unfold oAllowed; rw [if_neg (jb0 c_5)]) hMI
set_option maxHeartbeats 1000000 in
set_option maxRecDepth 100000 in
theorem c_X7_safe (g : jG) (d : Nat → Nat) (I : jF) (A : Nat → jF) (S : BS) (hp : MP (A 1) S) : Con g yX7_safe cX7_safe 3 (some .int) 6 132 0 0 [.ref (d 0)] [mc g d I A] (fun r b => r = some (.int (sSafe S)) ∧ ∃ A1 : Nat → jF, b = [mc g d I A1] ∧ (∀ k, k ≠ 5 → k ≠ 6 → A1 k = A k)) := by
  refine Con.of (own := RX7) (lv := [(0, .ref (d 0))]) (by decide) rfl (Nat.le_of_ble_eq_true rfl) rfl ?_
  intro E hC hQ hN
  obtain ⟨⟨hq0, hk10⟩, hql, ⟨hq91, hn6⟩, hqr, ⟨hq4, hnd⟩, ⟨hq5, hqh⟩, ⟨hq6, hqs⟩, hq9, hq10⟩ := id hp
  refine j_aload_n hC dX7_safe_0 rfl rfl ?_
  refine j_callV hC [0] (c_X7_laysPlaces g _ _ _ S hp) mX7_laysPlaces k947 rfl rfl rfl rfl rfl ⟨(Nat.le_of_ble_eq_true rfl), (Nat.le_of_ble_eq_true rfl)⟩ (Nat.le_of_ble_eq_true rfl) ⟨(Nat.le_of_ble_eq_true rfl), (Nat.le_of_ble_eq_true rfl)⟩ dX7_safe_1 (fun r_1 b_1 hp_1 _ => ?_)
  obtain ⟨rfl, A_1, rfl, hK_1, hL_1⟩ := hp_1
  have hp1 : MP (A_1 1) S := by rw [hK_1 1 (by decide) (by decide)]; exact hp
  dsimp only [jrepl, List.set, jstk]
  refine j_iconst hC (0) dX7_safe_4 (by decide) ?_
  refine j_istore_n hC dX7_safe_5 rfl rfl rfl rfl (fun v_5 e_5 => ?_)
  refine j_iconst hC (0) dX7_safe_6 (by decide) ?_
  refine j_istore_n hC dX7_safe_7 rfl rfl rfl rfl (fun v_7 e_7 => ?_)
  have L_8 : ∀ (fu : Nat) (j : Nat) (x1 x2 : Int32) (hfu : (bRs S).length + 1 ≤ j + fu) (hj : j ≤ (bRs S).length) (h1 : x1 = jiter (fun j n => if sDark S (raS S j) (rbS S j) 1023 = 0 then n + 1 else n) 0 j) (h2 : x2 = nI j), J g (jRm 6 132 0 0) E 3 8 [(0, .ref (d 0)), (1, .int x1), (2, .int x2)] [] [mc g d I A_1] (0) (0) := by
    intro fu
    induction fu with
    | zero => intro j x1 x2 hfu hj h1 h2; exact absurd hfu (by omega)
    | succ fu ih_8 =>
      intro j x1 x2 hfu hj h1 h2
      refine j_iload_n hC dX7_safe_8 rfl rfl ?_
      refine j_aload_n hC dX7_safe_9 rfl rfl ?_
      refine j_get hC uX7 0 0 0 rfl rfl k724 rfl dX7_safe_10 ?_
      refine j_bipush hC (91) dX7_safe_13 (by decide) ?_
      refine j_ildN hC (m := 91) 0 1 rfl rfl (by decide) (by decide) dX7_safe_15 ?_
      refine j_icmp_ge hC dX7_safe_16 (tgt := 41) (by decide) (fun c_16 => ?_) (fun c_16 => ?_)
      · skip
        have hje : j = (bRs S).length := Nat.le_antisymm hj (jge hp1.2.2.1.1 h2 (by omega) (by omega) c_16)
        rw [hje] at h1
        refine j_iload_n hC dX7_safe_41 rfl rfl ?_
        refine j_iret hC hQ rfl rfl (Nat.le_of_ble_eq_true rfl) (Nat.le_of_ble_eq_true rfl) dX7_safe_42 rfl ?_
        exact ⟨congrArg (fun z => some (Value.int z)) h1, A_1, rfl, hK_1⟩
      · skip
        have hjk : j < (bRs S).length := jlt hp1.2.2.1.1 h2 (by omega) (by omega) c_16
        refine j_iload_n hC dX7_safe_19 rfl rfl ?_
        refine j_aload_n hC dX7_safe_20 rfl rfl ?_
        refine j_iload_n hC dX7_safe_21 rfl rfl ?_
        refine j_callVR hC [0] (c_X7_unlit g _ _ _ S j _ hp1 hjk h2 hL_1.1) mX7_unlit k955 rfl rfl rfl rfl rfl ⟨(Nat.le_of_ble_eq_true rfl), (Nat.le_of_ble_eq_true rfl)⟩ (Nat.le_of_ble_eq_true rfl) ⟨(Nat.le_of_ble_eq_true rfl), (Nat.le_of_ble_eq_true rfl)⟩ dX7_safe_22 ?_
        dsimp only [jrepl, List.set, jstk]
        refine j_if_ne hC dX7_safe_25 (tgt := 32) (by decide) (fun c_25 => ?_) (fun c_25 => ?_)
        · skip
          refine j_iconst hC (0) dX7_safe_32 (by decide) ?_
          refine j_iadd hC dX7_safe_33 ?_
          refine j_istore_n hC dX7_safe_34 rfl rfl rfl rfl (fun v_34 e_34 => ?_)
          refine j_iinc hC (1) dX7_safe_35 rfl rfl rfl rfl rfl (fun v_35 e_35 => ?_)
          refine j_goto hC dX7_safe_38 (tgt := 8) (by decide) ?_
          refine j_pick [0, 1, 2] ?_
          exact ih_8 (j + 1) _ _ (by omega) (by omega) (by rw [jit_s, ← h1]; first | exact st_pos c_25 e_34 | exact st_neg c_25 e_34) (jsucc e_35 h2)
        · skip
          refine j_iconst hC (1) dX7_safe_28 (by decide) ?_
          refine j_goto hC dX7_safe_29 (tgt := 33) (by decide) ?_
          refine j_iadd hC dX7_safe_33 ?_
          refine j_istore_n hC dX7_safe_34 rfl rfl rfl rfl (fun v_34 e_34 => ?_)
          refine j_iinc hC (1) dX7_safe_35 rfl rfl rfl rfl rfl (fun v_35 e_35 => ?_)
          refine j_goto hC dX7_safe_38 (tgt := 8) (by decide) ?_
          refine j_pick [0, 1, 2] ?_
          exact ih_8 (j + 1) _ _ (by omega) (by omega) (by rw [jit_s, ← h1]; first | exact st_pos c_25 e_34 | exact st_neg c_25 e_34) (jsucc e_35 h2)
  refine j_pick [0, 1, 2] ?_
  exact L_8 ((bRs S).length + 1) 0 _ _ (by omega) (by omega) e_5 (e_7.trans nI_0.symm)
