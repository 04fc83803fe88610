theorem restore {P : jF} {a b : Nat} {y z : Int32} (hab : a ≠ b) : upd (upd (upd (upd P a y) b z) a (P a)) b (P b) = P := by
  funext q
  by_cases h1 : q = b
  · rw [h1, pk_us]
  · rw [pk_un h1]
    by_cases h2 : q = a
    · rw [h2, pk_us]
    · rw [pk_un h2, pk_un h1, pk_un h2]
theorem lampS_len {S : BS} {x y : Int32} : (bLs (lampS S x y)).length = (bLs S).length := by show ((bLs S).set _ _).length = _; rw [List.length_set]
theorem lampS_eq {S : BS} {x y : Int32} {j : Nat} (hj : j < (bLs S).length) (hj2 : j < 2 ^ 31) (hx : x = nI j) : lampS S x y = sLs S ((bLs S).set j (putL (LI S j) y)) := by
  unfold lampS
  rw [lg_LI hj hj2 hx, hx, nI_cl hj2]
theorem MP_lamp {P Q : jF} {S : BS} {j : Nat} {x y : Int32} (h : MP P S) (hj : j < (bLs S).length) (hx : x = nI j) (hy : 0 ≤ y.toInt ∧ y.toInt ≤ 2) (e : Q = upd (upd P (1 + 9 * j + 3) y) (1 + 9 * j + 7) 0) : MP Q (lampS S x y) := by
  rw [lampS_eq hj (by have := h.1.2; omega) hx]
  exact MP_light h hj (lok_put (h.2.1 j hj) hy e) (pfr_upd (pfr_upd pfr_refl rfl (by decide)) e (by decide))
/-- the number of days with another lamp, 99 for none; its plan at most 10 -/
theorem lamp_10 {P : jF} {S : BS} {j : Nat} {x y : Int32} (h : MP P S) (hj : j < (bLs S).length) (hx : x = nI j) (hy : 0 ≤ y.toInt ∧ y.toInt ≤ 2) : dysN (lampS S x y) ≤ 99 ∧ (dysN (lampS S x y) < 99 → dysN (lampS S x y) ≤ 10) := by
  have hm := MP_lamp (Q := _) h hj hx hy rfl
  have h10 : (bLs (lampS S x y)).length ≤ 10 := hm.1.2
  have hp := full_lt (bLs (lampS S x y)).length (by omega)
  exact ⟨dP_99 (by omega), fun q => dys_10 h10 (mp_rr hm) q⟩
def cvm (v : Int32) : Int32 := if v = 11 then 99 else v
theorem cvm_lt : ∀ a, a ≤ 11 → ∀ b, b ≤ 11 → (nI a < nI b ↔ cvm (nI a) < cvm (nI b)) := by decide +kernel
theorem bs_w {S : BS} {y : Int32} {i : Nat} (h : dysN (lampS S (nI i) y) ≤ 99 ∧ (dysN (lampS S (nI i) y) < 99 → dysN (lampS S (nI i) y) ≤ 10)) : (∃ a, a ≤ 11 ∧ bsW S y i = nI a) ∧ cvm (bsW S y i) = nI (dysN (lampS S (nI i) y)) := by
  unfold bsW dysV
  by_cases q : dysN (lampS S (nI i) y) < 99
  · have q10 := h.2 q
    rw [if_pos q, if_neg (by have : ∀ a, a ≤ 10 → ¬ nI a = -9 := by decide
                             exact this _ q10)]
    refine ⟨⟨_, by omega, rfl⟩, ?_⟩
    unfold cvm
    rw [if_neg (by have : ∀ a, a ≤ 10 → ¬ nI a = 11 := by decide
                   exact this _ q10)]
  · rw [if_neg q, if_pos rfl]
    refine ⟨⟨11, by decide, rfl⟩, ?_⟩
    rw [show dysN (lampS S (nI i) y) = 99 by omega]; rfl
def bsInv (S : BS) (y : Int32) (i : Nat) (x2 x3 : Int32) : Prop := x2 = (bsR S y i).1 ∧ x3 = cvm (bsR S y i).2 ∧ (∃ a, a ≤ 11 ∧ (bsR S y i).2 = nI a) ∧ ((bsR S y i).1 = -9 ∨ ∃ j, j < i ∧ (bsR S y i).1 = nI j)
theorem bsR_s {S : BS} {y : Int32} {i : Nat} : bsR S y (i + 1) = if (bsR S y i).1 = -9 ∨ bsW S y i < (bsR S y i).2 then (nI i, bsW S y i) else bsR S y i := by
  unfold bsR; rw [jit_s]; rfl
theorem bs_yes {S : BS} {y x2 x3 v v2 v3 : Int32} {i : Nat} (h : bsInv S y i x2 x3) (hw : (∃ a, a ≤ 11 ∧ bsW S y i = nI a) ∧ cvm (bsW S y i) = v) (c : x2 = -9 ∨ v < x3) (e2 : v2 = nI i) (e3 : v3 = v) : bsInv S y (i + 1) v2 v3 := by
  obtain ⟨h1, h2, ⟨a, ha, ea⟩, h4⟩ := h
  obtain ⟨⟨b, hb, eb⟩, hv⟩ := hw
  have e : bsR S y (i + 1) = (nI i, bsW S y i) := by
    rw [bsR_s, if_pos]
    rcases c with c | c
    · exact Or.inl (h1.symm.trans c)
    · refine Or.inr ?_
      rw [ea, eb, cvm_lt b hb a ha, ← ea, ← eb, hv, ← h2]; exact c
  unfold bsInv
  rw [e]
  exact ⟨e2, e3.trans hv.symm, ⟨b, hb, eb⟩, Or.inr ⟨i, Nat.lt_succ_self i, rfl⟩⟩
theorem bs_no {S : BS} {y x2 x3 v v2 v3 : Int32} {i : Nat} (h : bsInv S y i x2 x3) (hw : (∃ a, a ≤ 11 ∧ bsW S y i = nI a) ∧ cvm (bsW S y i) = v) (c : ¬ x2 = -9) (c2 : x3 ≤ v) (e2 : v2 = x2) (e3 : v3 = x3) : bsInv S y (i + 1) v2 v3 := by
  obtain ⟨h1, h2, ⟨a, ha, ea⟩, h4⟩ := h
  obtain ⟨⟨b, hb, eb⟩, hv⟩ := hw
  have e : bsR S y (i + 1) = bsR S y i := by
    rw [bsR_s, if_neg]
    rintro (q | q)
    · exact c (h1.trans q)
    · rw [ea, eb, cvm_lt b hb a ha, ← ea, ← eb, hv, ← h2] at q
      exact Int32.not_lt.mpr c2 q
  unfold bsInv
  rw [e]
  exact ⟨e2.trans h1, e3.trans h2, ⟨a, ha, ea⟩, h4.imp id (fun ⟨j, hj, q⟩ => ⟨j, by omega, q⟩)⟩
theorem bs_ne {S : BS} {y x2 x3 : Int32} {i : Nat} (hi : i ≤ 10) (h : bsInv S y i x2 x3) : ¬ x2 = nI i := by
  intro q
  rcases h.2.2.2 with w | ⟨j, hj, w⟩
  · have : ∀ i, i ≤ 10 → ¬ nI i = -9 := by decide
    exact this i hi (q.symm.trans (h.1.trans w))
  · have := nI_injN (by omega) (by omega) (q.symm.trans (h.1.trans w)); omega
set_option maxHeartbeats 1000000 in
set_option maxRecDepth 100000 in
theorem c_X7_daysWith (g : jG) (d : Nat → Nat) (I : jF) (A : Nat → jF) (S : BS) (j : Nat) (x y : Int32) (hp : MP (A 1) S) (hx : x = nI j) (hj : j < (bLs S).length) (hy : 0 ≤ y.toInt ∧ y.toInt ≤ 2) : Con g yX7_daysWith cX7_daysWith 5 (some .int) 7 157 0 0 [.ref (d 0), .int x, .int y] [mc g d I A] (fun r b => r = some (.int (nI (dysN (lampS S x y)))) ∧ ∃ A1 : Nat → jF, b = [mc g d I A1] ∧ (∀ k, k < 5 ∨ k = 10 → A1 k = A k)) := by
  refine Con.of (own := RX7) (lv := [(0, .ref (d 0)), (1, .int x), (2, .int y)]) (by decide) rfl (Nat.le_of_ble_eq_true rfl) rfl ?_
  intro E hC hQ hN
  obtain ⟨⟨hq0, hk10⟩, hql, ⟨hq91, hn6⟩, hqr, ⟨hq4, hnd⟩, ⟨hq5, hqh⟩, ⟨hq6, hqs⟩, hq9, hq10⟩ := id hp
  have hi : j ≤ 10 := by omega
  refine j_aload_n hC dX7_daysWith_0 rfl rfl ?_
  refine j_iload_n hC dX7_daysWith_1 rfl rfl ?_
  refine j_iconst hC (3) dX7_daysWith_2 (by decide) ?_
  refine j_callVR hC [0] (c_X7_of g _ _ _ _ 3 _ _ hx hi (by decide) (by decide)) mX7_of k811 rfl rfl rfl rfl rfl ⟨(Nat.le_of_ble_eq_true rfl), (Nat.le_of_ble_eq_true rfl)⟩ (Nat.le_of_ble_eq_true rfl) ⟨(Nat.le_of_ble_eq_true rfl), (Nat.le_of_ble_eq_true rfl)⟩ dX7_daysWith_3 ?_
  dsimp only [jrepl, List.set, jstk]
  refine j_istore_n hC dX7_daysWith_6 rfl rfl rfl rfl (fun v_6 e_6 => ?_)
  refine j_aload_n hC dX7_daysWith_7 rfl rfl ?_
  refine j_iload_n hC dX7_daysWith_8 rfl rfl ?_
  refine j_bipush hC (7) dX7_daysWith_9 (by decide) ?_
  refine j_callVR hC [0] (c_X7_of g _ _ _ _ 7 _ _ hx hi (by decide) (by decide)) mX7_of k811 rfl rfl rfl rfl rfl ⟨(Nat.le_of_ble_eq_true rfl), (Nat.le_of_ble_eq_true rfl)⟩ (Nat.le_of_ble_eq_true rfl) ⟨(Nat.le_of_ble_eq_true rfl), (Nat.le_of_ble_eq_true rfl)⟩ dX7_daysWith_11 ?_
  dsimp only [jrepl, List.set, jstk]
  refine j_istore hC dX7_daysWith_14 rfl rfl rfl (fun v_14 e_14 => ?_)
  refine j_aload_n hC dX7_daysWith_16 rfl rfl ?_
  refine j_get hC uX7 0 0 0 rfl rfl k724 rfl dX7_daysWith_17 ?_
  refine j_aload_n hC dX7_daysWith_20 rfl rfl ?_
  refine j_iload_n hC dX7_daysWith_21 rfl rfl ?_
  refine j_iconst hC (3) dX7_daysWith_22 (by decide) ?_
  refine j_callVR hC [0] (c_X7_at g _ _ _ _ 3 _ _ hx hi (by decide) (by decide)) mX7_at k799 rfl rfl rfl rfl rfl ⟨(Nat.le_of_ble_eq_true rfl), (Nat.le_of_ble_eq_true rfl)⟩ (Nat.le_of_ble_eq_true rfl) ⟨(Nat.le_of_ble_eq_true rfl), (Nat.le_of_ble_eq_true rfl)⟩ dX7_daysWith_23 ?_
  dsimp only [jrepl, List.set, jstk]
  refine j_iload_n hC dX7_daysWith_26 rfl rfl ?_
  refine j_st_7_1 (bi := 0) hC rfl rfl (by omega) dX7_daysWith_27 (fun A_27 hA_27 hK_27 => ?_)
  dsimp only [List.set]
  refine j_aload_n hC dX7_daysWith_28 rfl rfl ?_
  refine j_get hC uX7 0 0 0 rfl rfl k724 rfl dX7_daysWith_29 ?_
  refine j_aload_n hC dX7_daysWith_32 rfl rfl ?_
  refine j_iload_n hC dX7_daysWith_33 rfl rfl ?_
  refine j_bipush hC (7) dX7_daysWith_34 (by decide) ?_
  refine j_callVR hC [0] (c_X7_at g _ _ _ _ 7 _ _ hx hi (by decide) (by decide)) mX7_at k799 rfl rfl rfl rfl rfl ⟨(Nat.le_of_ble_eq_true rfl), (Nat.le_of_ble_eq_true rfl)⟩ (Nat.le_of_ble_eq_true rfl) ⟨(Nat.le_of_ble_eq_true rfl), (Nat.le_of_ble_eq_true rfl)⟩ dX7_daysWith_36 ?_
  dsimp only [jrepl, List.set, jstk]
  refine j_iconst hC (0) dX7_daysWith_39 (by decide) ?_
  refine j_st_7_1 (bi := 0) hC rfl rfl (by omega) dX7_daysWith_40 (fun A_40 hA_40 hK_40 => ?_)
  dsimp only [List.set]
  refine j_aload_n hC dX7_daysWith_41 rfl rfl ?_
  have hpl : MP (A_40 1) (lampS S x y) := MP_lamp hp hj hx hy (by rw [hA_40, hA_27])
  refine j_callV hC [0] (c_X7_laysPlan g _ _ _ (lampS S x y) hpl) mX7_laysPlan k975 rfl rfl rfl rfl rfl ⟨(Nat.le_of_ble_eq_true rfl), (Nat.le_of_ble_eq_true rfl)⟩ (Nat.le_of_ble_eq_true rfl) ⟨(Nat.le_of_ble_eq_true rfl), (Nat.le_of_ble_eq_true rfl)⟩ dX7_daysWith_42 (fun r_42 b_42 hp_42 _ => ?_)
  obtain ⟨rfl, A_42, rfl, hK_42, hL_42⟩ := hp_42
  dsimp only [jrepl, List.set, jstk]
  refine j_aload_n hC dX7_daysWith_45 rfl rfl ?_
  refine j_get hC uX7 0 0 0 rfl rfl k724 rfl dX7_daysWith_46 ?_
  refine j_aload_n hC dX7_daysWith_49 rfl rfl ?_
  refine j_iload_n hC dX7_daysWith_50 rfl rfl ?_
  refine j_iconst hC (3) dX7_daysWith_51 (by decide) ?_
  refine j_callVR hC [0] (c_X7_at g _ _ _ _ 3 _ _ hx hi (by decide) (by decide)) mX7_at k799 rfl rfl rfl rfl rfl ⟨(Nat.le_of_ble_eq_true rfl), (Nat.le_of_ble_eq_true rfl)⟩ (Nat.le_of_ble_eq_true rfl) ⟨(Nat.le_of_ble_eq_true rfl), (Nat.le_of_ble_eq_true rfl)⟩ dX7_daysWith_52 ?_
  dsimp only [jrepl, List.set, jstk]
  refine j_iload_n hC dX7_daysWith_55 rfl rfl ?_
  refine j_st_7_1 (bi := 0) hC rfl rfl (by omega) dX7_daysWith_56 (fun A_56 hA_56 hK_56 => ?_)
  dsimp only [List.set]
  refine j_aload_n hC dX7_daysWith_57 rfl rfl ?_
  refine j_get hC uX7 0 0 0 rfl rfl k724 rfl dX7_daysWith_58 ?_
  refine j_aload_n hC dX7_daysWith_61 rfl rfl ?_
  refine j_iload_n hC dX7_daysWith_62 rfl rfl ?_
  refine j_bipush hC (7) dX7_daysWith_63 (by decide) ?_
  refine j_callVR hC [0] (c_X7_at g _ _ _ _ 7 _ _ hx hi (by decide) (by decide)) mX7_at k799 rfl rfl rfl rfl rfl ⟨(Nat.le_of_ble_eq_true rfl), (Nat.le_of_ble_eq_true rfl)⟩ (Nat.le_of_ble_eq_true rfl) ⟨(Nat.le_of_ble_eq_true rfl), (Nat.le_of_ble_eq_true rfl)⟩ dX7_daysWith_65 ?_
  dsimp only [jrepl, List.set, jstk]
  refine j_iload hC dX7_daysWith_68 rfl ?_
  refine j_st_7_1 (bi := 0) hC rfl rfl (by omega) dX7_daysWith_70 (fun A_70 hA_70 hK_70 => ?_)
  dsimp only [List.set]
  have hA1 : A_70 1 = A 1 := by rw [hA_70, hA_56, hK_42 1 (by decide), hA_40, hA_27, e_6, e_14]; exact restore (by omega)
  have h0 : A_70 1 0 = nI (bLs S).length := by rw [hA1]; exact hq0
  have hpw : 2 ^ (bLs S).length ≤ 1024 := pow_1024 hk10
  have hp0 : 0 < 2 ^ (bLs S).length := Nat.two_pow_pos _
  refine j_aload_n hC dX7_daysWith_71 rfl rfl ?_
  refine j_get hC uX7 0 0 12 rfl rfl k736 rfl dX7_daysWith_72 ?_
  refine j_iconst hC (1) dX7_daysWith_75 (by decide) ?_
  refine j_aload_n hC dX7_daysWith_76 rfl rfl ?_
  refine j_callVR hC [0] (c_X7_lights g _ _ _) mX7_lights k787 rfl rfl rfl rfl rfl ⟨(Nat.le_of_ble_eq_true rfl), (Nat.le_of_ble_eq_true rfl)⟩ (Nat.le_of_ble_eq_true rfl) ⟨(Nat.le_of_ble_eq_true rfl), (Nat.le_of_ble_eq_true rfl)⟩ dX7_daysWith_77 ?_
  dsimp only [jrepl, List.set, jstk]
  refine j_ishl hC dX7_daysWith_80 ?_
  refine j_iconst hC (1) dX7_daysWith_81 (by decide) ?_
  refine j_isub hC dX7_daysWith_82 ?_
  refine j_ildN hC (m := 2 ^ (bLs S).length - 1) 0 7 rfl rfl (by rw [h0]; exact full_k _ (by omega)) (by omega) dX7_daysWith_83 ?_
  refine j_iret hC hQ rfl rfl (Nat.le_of_ble_eq_true rfl) (Nat.le_of_ble_eq_true rfl) dX7_daysWith_84 rfl ?_
  exact ⟨congrArg (fun z => some (Value.int z)) (by rw [hK_70 7 (by decide), hK_56 7 (by decide), hL_42.1 _ (by rw [lampS_len]; omega)]; unfold dysN; rw [lampS_len]), A_70, rfl, fun k hk => by rcases Nat.lt_or_ge k 1 with w | w; rw [hK_70 k (by omega), hK_56 k (by omega), hK_42 k hk, hK_40 k (by omega), hK_27 k (by omega)]; by_cases z : k = 1; rw [z, hA1]; rw [hK_70 k z, hK_56 k z, hK_42 k hk, hK_40 k z, hK_27 k z]⟩
set_option maxHeartbeats 1000000 in
set_option maxRecDepth 100000 in
theorem c_X7_ifLamp (g : jG) (d : Nat → Nat) (T : St3) (b : List va_W) (x y : Int32) (h : MW g d T b) : Con g yX7_ifLamp cX7_ifLamp 4 (some .int) 8 181 0 0 [.ref (d 0), .int x, .int y] b (fun rr bb => rr = some (.int (oIfLamp T x y).1) ∧ MW g d (oIfLamp T x y).2 bb) := by
  obtain ⟨I, A, rfl, hMI⟩ := h
  obtain ⟨hm1, hmp, hmh, hmt⟩ := id hMI
  obtain ⟨⟨hq0, hk10⟩, hql, ⟨hq91, hn6⟩, hqr, ⟨hq4, hnd⟩, ⟨hq5, hqh⟩, ⟨hq6, hqs⟩, hq9, hq10⟩ := id hmp
  refine Con.of (own := RX7) (lv := [(0, .ref (d 0)), (1, .int x), (2, .int y)]) (by decide) rfl (Nat.le_of_ble_eq_true rfl) rfl ?_
  intro E hC hQ hN
  refine j_aload_n hC dX7_ifLamp_0 rfl rfl ?_
  refine j_iload_n hC dX7_ifLamp_1 rfl rfl ?_
  refine j_callVR hC [0] (c_X7_isLight g _ _ _ _) mX7_isLight k819 rfl rfl rfl rfl rfl ⟨(Nat.le_of_ble_eq_true rfl), (Nat.le_of_ble_eq_true rfl)⟩ (Nat.le_of_ble_eq_true rfl) ⟨(Nat.le_of_ble_eq_true rfl), (Nat.le_of_ble_eq_true rfl)⟩ dX7_ifLamp_2 ?_
  dsimp only [jrepl, List.set, jstk]
  refine j_if_eq hC dX7_ifLamp_5 (tgt := 15) (by decide) (fun c_5 => ?_) (fun c_5 => ?_)
  · skip
    refine j_iconst hC (-1) dX7_ifLamp_15 (by decide) ?_
    refine j_iret hC hQ rfl rfl (Nat.le_of_ble_eq_true rfl) (Nat.le_of_ble_eq_true rfl) dX7_ifLamp_16 rfl ?_
    first | exact mw_o (T := T) (by unfold oIfLamp; rw [if_neg (fun q => jb0 c_5 ((in_len hq0 hk10).mpr q.1))]) hMI | exact mw_o (T := T) (by unfold oIfLamp; rw [if_neg (fun q => jb0 c_12 (in_iff.mpr q.2))]) hMI
  · skip
    refine j_iload_n hC dX7_ifLamp_8 rfl rfl ?_
    refine j_callSR hC [] (c_X7_isLamp g _) mX7_isLamp k784 rfl rfl rfl ⟨(Nat.le_of_ble_eq_true rfl), (Nat.le_of_ble_eq_true rfl)⟩ (Nat.le_of_ble_eq_true rfl) ⟨(Nat.le_of_ble_eq_true rfl), (Nat.le_of_ble_eq_true rfl)⟩ dX7_ifLamp_9 ?_
    dsimp only [jrepl, List.set, jstk]
    refine j_if_ne hC dX7_ifLamp_12 (tgt := 17) (by decide) (fun c_12 => ?_) (fun c_12 => ?_)
    · skip
      have hlx : hLX x (bLs T.1).length := (in_len hq0 hk10).mp (jb1 c_5)
      obtain ⟨j, hj, hx⟩ := hLX_nat (by omega) hlx
      have hi : j ≤ 10 := by omega
      have hlg : lg T.1 x = LI T.1 j := lg_LI hj (by omega) hx
      have hcl : x.toNatClampNeg = j := by rw [hx, nI_cl (by omega)]
      have hlj := hql j hj
      have hok := in_iff.mp (jb1 c_12)
      have hy2 : 0 ≤ y.toInt ∧ y.toInt ≤ 2 := in_t (jb1 c_12)
      have hl10 := lamp_10 hmp hj hx hy2
      refine j_aload_n hC dX7_ifLamp_17 rfl rfl ?_
      refine j_iload_n hC dX7_ifLamp_18 rfl rfl ?_
      refine j_iload_n hC dX7_ifLamp_19 rfl rfl ?_
      refine j_callV hC [0] (c_X7_daysWith g _ _ _ T.1 j _ _ hmp hx hj hy2) mX7_daysWith k1003 rfl rfl rfl rfl rfl ⟨(Nat.le_of_ble_eq_true rfl), (Nat.le_of_ble_eq_true rfl)⟩ (Nat.le_of_ble_eq_true rfl) ⟨(Nat.le_of_ble_eq_true rfl), (Nat.le_of_ble_eq_true rfl)⟩ dX7_ifLamp_20 (fun r_20 b_20 hp_20 _ => ?_)
      obtain ⟨rfl, A_20, rfl, hK_20⟩ := hp_20
      have hM_20 : MI I A_20 T := mi_oth hMI (hK_20 1 (by decide)) (hK_20 2 (by decide))
      dsimp only [jrepl, List.set, jstk]
      refine j_istore_n hC dX7_ifLamp_23 rfl rfl rfl rfl (fun v_23 e_23 => ?_)
      refine j_iload_n hC dX7_ifLamp_24 rfl rfl ?_
      refine j_bipush hC (99) dX7_ifLamp_25 (by decide) ?_
      refine j_icmp_ge hC dX7_ifLamp_27 (tgt := 34) (by decide) (fun c_27 => ?_) (fun c_27 => ?_)
      · skip
        refine j_bipush hC (-9) dX7_ifLamp_34 (by decide) ?_
        refine j_iret hC hQ rfl rfl (Nat.le_of_ble_eq_true rfl) (Nat.le_of_ble_eq_true rfl) dX7_ifLamp_36 rfl ?_
        first | exact mw_c (by unfold oIfLamp; rw [if_pos ⟨hlx, hok⟩]) (by rw [e_23, show (99 : Int32) = nI 99 from rfl, nI_leI (by omega) (by omega)] at c_27; unfold dysV; rw [if_pos (by omega)]; exact e_23) hM_20 | exact mw_c (by unfold oIfLamp; rw [if_pos ⟨hlx, hok⟩]) (by rw [e_23, show (99 : Int32) = nI 99 from rfl, nI_leI (by omega) (by omega)] at c_27; unfold dysV; rw [if_neg (by omega)]) hM_20
      · skip
        refine j_iload_n hC dX7_ifLamp_30 rfl rfl ?_
        refine j_goto hC dX7_ifLamp_31 (tgt := 36) (by decide) ?_
        refine j_iret hC hQ rfl rfl (Nat.le_of_ble_eq_true rfl) (Nat.le_of_ble_eq_true rfl) dX7_ifLamp_36 rfl ?_
        first | exact mw_c (by unfold oIfLamp; rw [if_pos ⟨hlx, hok⟩]) (by rw [e_23, show (99 : Int32) = nI 99 from rfl, nI_leI (by omega) (by omega)] at c_27; unfold dysV; rw [if_pos (by omega)]; exact e_23) hM_20 | exact mw_c (by unfold oIfLamp; rw [if_pos ⟨hlx, hok⟩]) (by rw [e_23, show (99 : Int32) = nI 99 from rfl, nI_leI (by omega) (by omega)] at c_27; unfold dysV; rw [if_neg (by omega)]) hM_20
    · skip
      refine j_iconst hC (-1) dX7_ifLamp_15 (by decide) ?_
      refine j_iret hC hQ rfl rfl (Nat.le_of_ble_eq_true rfl) (Nat.le_of_ble_eq_true rfl) dX7_ifLamp_16 rfl ?_
      first | exact mw_o (T := T) (by unfold oIfLamp; rw [if_neg (fun q => jb0 c_5 ((in_len hq0 hk10).mpr q.1))]) hMI | exact mw_o (T := T) (by unfold oIfLamp; rw [if_neg (fun q => jb0 c_12 (in_iff.mpr q.2))]) hMI
set_option maxHeartbeats 1000000 in
set_option maxRecDepth 100000 in
theorem c_X7_bestSwap (g : jG) (d : Nat → Nat) (T : St3) (b : List va_W) (y : Int32) (h : MW g d T b) : Con g yX7_bestSwap cX7_bestSwap 6 (some .int) 8 181 0 0 [.ref (d 0), .int y] b (fun rr bb => rr = some (.int (oBestSwap T y).1) ∧ MW g d (oBestSwap T y).2 bb) := by
  obtain ⟨I, A, rfl, hMI⟩ := h
  obtain ⟨hm1, hmp, hmh, hmt⟩ := id hMI
  obtain ⟨⟨hq0, hk10⟩, hql, ⟨hq91, hn6⟩, hqr, ⟨hq4, hnd⟩, ⟨hq5, hqh⟩, ⟨hq6, hqs⟩, hq9, hq10⟩ := id hmp
  refine Con.of (own := RX7) (lv := [(0, .ref (d 0)), (1, .int y)]) (by decide) rfl (Nat.le_of_ble_eq_true rfl) rfl ?_
  intro E hC hQ hN
  refine j_iload_n hC dX7_bestSwap_0 rfl rfl ?_
  refine j_callSR hC [] (c_X7_isLamp g _) mX7_isLamp k784 rfl rfl rfl ⟨(Nat.le_of_ble_eq_true rfl), (Nat.le_of_ble_eq_true rfl)⟩ (Nat.le_of_ble_eq_true rfl) ⟨(Nat.le_of_ble_eq_true rfl), (Nat.le_of_ble_eq_true rfl)⟩ dX7_bestSwap_1 ?_
  dsimp only [jrepl, List.set, jstk]
  refine j_if_ne hC dX7_bestSwap_4 (tgt := 9) (by decide) (fun c_4 => ?_) (fun c_4 => ?_)
  · skip
    have hok := in_iff.mp (jb1 c_4)
    have hy2 : 0 ≤ y.toInt ∧ y.toInt ≤ 2 := in_t (jb1 c_4)
    refine j_bipush hC (-9) dX7_bestSwap_9 (by decide) ?_
    refine j_istore_n hC dX7_bestSwap_11 rfl rfl rfl rfl (fun v_11 e_11 => ?_)
    refine j_iconst hC (0) dX7_bestSwap_12 (by decide) ?_
    refine j_istore_n hC dX7_bestSwap_13 rfl rfl rfl rfl (fun v_13 e_13 => ?_)
    refine j_iconst hC (0) dX7_bestSwap_14 (by decide) ?_
    refine j_istore hC dX7_bestSwap_15 rfl rfl rfl (fun v_15 e_15 => ?_)
    have L_17 : ∀ (fu : Nat) (i : Nat) (x2 x3 x4 : Int32) (A1 : Nat → jF) (hfu : (bLs T.1).length + 1 ≤ i + fu) (hi : i ≤ (bLs T.1).length) (hb : bsInv T.1 y i x2 x3) (h4 : x4 = nI i) (hK1 : ∀ k, k < 5 ∨ k = 10 → A1 k = A k), J g (jRm 8 181 0 0) E 6 17 [(0, .ref (d 0)), (1, .int y), (2, .int x2), (3, .int x3), (4, .int x4)] [] [mc g d I A1] (0) (0) := by
      intro fu
      induction fu with
      | zero => intro i x2 x3 x4 A1 hfu hi hb h4 hK1; exact absurd hfu (by omega)
      | succ fu ih_17 =>
        intro i x2 x3 x4 A1 hfu hi hb h4 hK1
        refine j_iload hC dX7_bestSwap_17 rfl ?_
        refine j_aload_n hC dX7_bestSwap_19 rfl rfl ?_
        refine j_callVR hC [0] (c_X7_lights g _ _ _) mX7_lights k787 rfl rfl rfl rfl rfl ⟨(Nat.le_of_ble_eq_true rfl), (Nat.le_of_ble_eq_true rfl)⟩ (Nat.le_of_ble_eq_true rfl) ⟨(Nat.le_of_ble_eq_true rfl), (Nat.le_of_ble_eq_true rfl)⟩ dX7_bestSwap_20 ?_
        dsimp only [jrepl, List.set, jstk]
        refine j_icmp_ge hC dX7_bestSwap_23 (tgt := 89) (by decide) (fun c_23 => ?_) (fun c_23 => ?_)
        · skip
          have hmp1 : MP (A1 1) T.1 := by rw [hK1 1 (by decide)]; exact hmp
          have hie : i = (bLs T.1).length := Nat.le_antisymm hi (jge hmp1.1.1 h4 (by omega) (by omega) c_23)
          refine j_iload_n hC dX7_bestSwap_89 rfl rfl ?_
          refine j_iret hC hQ rfl rfl (Nat.le_of_ble_eq_true rfl) (Nat.le_of_ble_eq_true rfl) dX7_bestSwap_90 rfl ?_
          exact mw_c (by unfold oBestSwap; rw [if_pos hok]) (by rw [← hie]; exact hb.1) (mi_oth hMI (hK1 1 (by decide)) (hK1 2 (by decide)))
        · skip
          have hmp1 : MP (A1 1) T.1 := by rw [hK1 1 (by decide)]; exact hmp
          have hik : i < (bLs T.1).length := jlt hmp1.1.1 h4 (by omega) (by omega) c_23
          have hl10 := lamp_10 hmp1 hik h4 hy2
          refine j_aload_n hC dX7_bestSwap_26 rfl rfl ?_
          refine j_iload hC dX7_bestSwap_27 rfl ?_
          refine j_iload_n hC dX7_bestSwap_29 rfl rfl ?_
          refine j_callV hC [0] (c_X7_daysWith g _ _ _ T.1 i _ _ hmp1 h4 hik hy2) mX7_daysWith k1003 rfl rfl rfl rfl rfl ⟨(Nat.le_of_ble_eq_true rfl), (Nat.le_of_ble_eq_true rfl)⟩ (Nat.le_of_ble_eq_true rfl) ⟨(Nat.le_of_ble_eq_true rfl), (Nat.le_of_ble_eq_true rfl)⟩ dX7_bestSwap_30 (fun r_30 b_30 hp_30 _ => ?_)
          obtain ⟨rfl, A_30, rfl, hK_30⟩ := hp_30
          dsimp only [jrepl, List.set, jstk]
          refine j_istore hC dX7_bestSwap_33 rfl rfl rfl (fun v_33 e_33 => ?_)
          refine j_iload hC dX7_bestSwap_35 rfl ?_
          refine j_bipush hC (99) dX7_bestSwap_37 (by decide) ?_
          refine j_icmp_ge hC dX7_bestSwap_39 (tgt := 47) (by decide) (fun c_39 => ?_) (fun c_39 => ?_)
          · skip
            refine j_bipush hC (99) dX7_bestSwap_47 (by decide) ?_
            refine j_istore hC dX7_bestSwap_49 rfl rfl rfl (fun v_49 e_49 => ?_)
            have hv : v_49 = nI (dysN (lampS T.1 (nI i) y)) := by first | (rw [e_33, h4, show (99 : Int32) = nI 99 from rfl] at c_39; rw [h4] at hl10; rw [nI_leI (by omega) (by omega)] at c_39; rw [e_49, show dysN (lampS T.1 (nI i) y) = 99 by omega]; rfl) | (rw [e_49, e_33, h4])
            have hbw := bs_w (S := T.1) (y := y) (i := i) (by rw [h4] at hl10; exact hl10)
            rw [← hv] at hbw
            refine j_iload_n hC dX7_bestSwap_51 rfl rfl ?_
            refine j_bipush hC (-9) dX7_bestSwap_52 (by decide) ?_
            refine j_icmp_eq hC dX7_bestSwap_54 (tgt := 63) (by decide) (fun c_54 => ?_) (fun c_54 => ?_)
            · skip
              refine j_iload hC dX7_bestSwap_63 rfl ?_
              refine j_goto hC dX7_bestSwap_65 (tgt := 69) (by decide) ?_
              refine j_istore_n hC dX7_bestSwap_69 rfl rfl rfl rfl (fun v_69 e_69 => ?_)
              refine j_iload_n hC dX7_bestSwap_70 rfl rfl ?_
              refine j_iload hC dX7_bestSwap_71 rfl ?_
              refine j_icmp_ne hC dX7_bestSwap_73 (tgt := 81) (by decide) (fun c_73 => ?_) (fun c_73 => ?_)
              · skip
                refine j_iload_n hC dX7_bestSwap_81 rfl rfl ?_
                refine j_istore_n hC dX7_bestSwap_82 rfl rfl rfl rfl (fun v_82 e_82 => ?_)
                refine j_iinc hC (1) dX7_bestSwap_83 rfl rfl rfl rfl rfl (fun v_83 e_83 => ?_)
                refine j_goto hC dX7_bestSwap_86 (tgt := 17) (by decide) ?_
                refine j_pick [0, 1, 2, 3, 4] ?_
                exact ih_17 (i + 1) _ _ _ _ (by omega) (by omega) (by first | exact bs_yes hb hbw (Or.inl c_54) (e_69.trans h4) e_82 | exact bs_yes hb hbw (Or.inl (Decidable.not_not.mp c_54)) (e_69.trans h4) e_82 | exact bs_yes hb hbw (Or.inr (Int32.not_le.mp c_60)) (e_69.trans h4) e_82 | exact bs_no hb hbw c_54 c_60 e_69 e_82 | exact absurd e_69 c_73 | exact absurd (e_69.symm.trans (c_73.trans h4)) (bs_ne (by omega) hb) | exact absurd (e_69.symm.trans ((Decidable.not_not.mp c_73).trans h4)) (bs_ne (by omega) hb)) (jsucc e_83 h4) (fun k hk => (hK_30 k hk).trans (hK1 k hk))
              · skip
                refine j_iload hC dX7_bestSwap_76 rfl ?_
                refine j_goto hC dX7_bestSwap_78 (tgt := 82) (by decide) ?_
                refine j_istore_n hC dX7_bestSwap_82 rfl rfl rfl rfl (fun v_82 e_82 => ?_)
                refine j_iinc hC (1) dX7_bestSwap_83 rfl rfl rfl rfl rfl (fun v_83 e_83 => ?_)
                refine j_goto hC dX7_bestSwap_86 (tgt := 17) (by decide) ?_
                refine j_pick [0, 1, 2, 3, 4] ?_
                exact ih_17 (i + 1) _ _ _ _ (by omega) (by omega) (by first | exact bs_yes hb hbw (Or.inl c_54) (e_69.trans h4) e_82 | exact bs_yes hb hbw (Or.inl (Decidable.not_not.mp c_54)) (e_69.trans h4) e_82 | exact bs_yes hb hbw (Or.inr (Int32.not_le.mp c_60)) (e_69.trans h4) e_82 | exact bs_no hb hbw c_54 c_60 e_69 e_82 | exact absurd e_69 c_73 | exact absurd (e_69.symm.trans (c_73.trans h4)) (bs_ne (by omega) hb) | exact absurd (e_69.symm.trans ((Decidable.not_not.mp c_73).trans h4)) (bs_ne (by omega) hb)) (jsucc e_83 h4) (fun k hk => (hK_30 k hk).trans (hK1 k hk))
            · skip
              refine j_iload hC dX7_bestSwap_57 rfl ?_
              refine j_iload_n hC dX7_bestSwap_59 rfl rfl ?_
              refine j_icmp_ge hC dX7_bestSwap_60 (tgt := 68) (by decide) (fun c_60 => ?_) (fun c_60 => ?_)
              · skip
                refine j_iload_n hC dX7_bestSwap_68 rfl rfl ?_
                refine j_istore_n hC dX7_bestSwap_69 rfl rfl rfl rfl (fun v_69 e_69 => ?_)
                refine j_iload_n hC dX7_bestSwap_70 rfl rfl ?_
                refine j_iload hC dX7_bestSwap_71 rfl ?_
                refine j_icmp_ne hC dX7_bestSwap_73 (tgt := 81) (by decide) (fun c_73 => ?_) (fun c_73 => ?_)
                · skip
                  refine j_iload_n hC dX7_bestSwap_81 rfl rfl ?_
                  refine j_istore_n hC dX7_bestSwap_82 rfl rfl rfl rfl (fun v_82 e_82 => ?_)
                  refine j_iinc hC (1) dX7_bestSwap_83 rfl rfl rfl rfl rfl (fun v_83 e_83 => ?_)
                  refine j_goto hC dX7_bestSwap_86 (tgt := 17) (by decide) ?_
                  refine j_pick [0, 1, 2, 3, 4] ?_
                  exact ih_17 (i + 1) _ _ _ _ (by omega) (by omega) (by first | exact bs_yes hb hbw (Or.inl c_54) (e_69.trans h4) e_82 | exact bs_yes hb hbw (Or.inl (Decidable.not_not.mp c_54)) (e_69.trans h4) e_82 | exact bs_yes hb hbw (Or.inr (Int32.not_le.mp c_60)) (e_69.trans h4) e_82 | exact bs_no hb hbw c_54 c_60 e_69 e_82 | exact absurd e_69 c_73 | exact absurd (e_69.symm.trans (c_73.trans h4)) (bs_ne (by omega) hb) | exact absurd (e_69.symm.trans ((Decidable.not_not.mp c_73).trans h4)) (bs_ne (by omega) hb)) (jsucc e_83 h4) (fun k hk => (hK_30 k hk).trans (hK1 k hk))
                · skip
                  refine j_iload hC dX7_bestSwap_76 rfl ?_
                  refine j_goto hC dX7_bestSwap_78 (tgt := 82) (by decide) ?_
                  refine j_istore_n hC dX7_bestSwap_82 rfl rfl rfl rfl (fun v_82 e_82 => ?_)
                  refine j_iinc hC (1) dX7_bestSwap_83 rfl rfl rfl rfl rfl (fun v_83 e_83 => ?_)
                  refine j_goto hC dX7_bestSwap_86 (tgt := 17) (by decide) ?_
                  refine j_pick [0, 1, 2, 3, 4] ?_
                  exact ih_17 (i + 1) _ _ _ _ (by omega) (by omega) (by first | exact bs_yes hb hbw (Or.inl c_54) (e_69.trans h4) e_82 | exact bs_yes hb hbw (Or.inl (Decidable.not_not.mp c_54)) (e_69.trans h4) e_82 | exact bs_yes hb hbw (Or.inr (Int32.not_le.mp c_60)) (e_69.trans h4) e_82 | exact bs_no hb hbw c_54 c_60 e_69 e_82 | exact absurd e_69 c_73 | exact absurd (e_69.symm.trans (c_73.trans h4)) (bs_ne (by omega) hb) | exact absurd (e_69.symm.trans ((Decidable.not_not.mp c_73).trans h4)) (bs_ne (by omega) hb)) (jsucc e_83 h4) (fun k hk => (hK_30 k hk).trans (hK1 k hk))
              · skip
                refine j_iload hC dX7_bestSwap_63 rfl ?_
                refine j_goto hC dX7_bestSwap_65 (tgt := 69) (by decide) ?_
                refine j_istore_n hC dX7_bestSwap_69 rfl rfl rfl rfl (fun v_69 e_69 => ?_)
                refine j_iload_n hC dX7_bestSwap_70 rfl rfl ?_
                refine j_iload hC dX7_bestSwap_71 rfl ?_
                refine j_icmp_ne hC dX7_bestSwap_73 (tgt := 81) (by decide) (fun c_73 => ?_) (fun c_73 => ?_)
                · skip
                  refine j_iload_n hC dX7_bestSwap_81 rfl rfl ?_
                  refine j_istore_n hC dX7_bestSwap_82 rfl rfl rfl rfl (fun v_82 e_82 => ?_)
                  refine j_iinc hC (1) dX7_bestSwap_83 rfl rfl rfl rfl rfl (fun v_83 e_83 => ?_)
                  refine j_goto hC dX7_bestSwap_86 (tgt := 17) (by decide) ?_
                  refine j_pick [0, 1, 2, 3, 4] ?_
                  exact ih_17 (i + 1) _ _ _ _ (by omega) (by omega) (by first | exact bs_yes hb hbw (Or.inl c_54) (e_69.trans h4) e_82 | exact bs_yes hb hbw (Or.inl (Decidable.not_not.mp c_54)) (e_69.trans h4) e_82 | exact bs_yes hb hbw (Or.inr (Int32.not_le.mp c_60)) (e_69.trans h4) e_82 | exact bs_no hb hbw c_54 c_60 e_69 e_82 | exact absurd e_69 c_73 | exact absurd (e_69.symm.trans (c_73.trans h4)) (bs_ne (by omega) hb) | exact absurd (e_69.symm.trans ((Decidable.not_not.mp c_73).trans h4)) (bs_ne (by omega) hb)) (jsucc e_83 h4) (fun k hk => (hK_30 k hk).trans (hK1 k hk))
                · skip
                  refine j_iload hC dX7_bestSwap_76 rfl ?_
                  refine j_goto hC dX7_bestSwap_78 (tgt := 82) (by decide) ?_
                  refine j_istore_n hC dX7_bestSwap_82 rfl rfl rfl rfl (fun v_82 e_82 => ?_)
                  refine j_iinc hC (1) dX7_bestSwap_83 rfl rfl rfl rfl rfl (fun v_83 e_83 => ?_)
                  refine j_goto hC dX7_bestSwap_86 (tgt := 17) (by decide) ?_
                  refine j_pick [0, 1, 2, 3, 4] ?_
                  exact ih_17 (i + 1) _ _ _ _ (by omega) (by omega) (by first | exact bs_yes hb hbw (Or.inl c_54) (e_69.trans h4) e_82 | exact bs_yes hb hbw (Or.inl (Decidable.not_not.mp c_54)) (e_69.trans h4) e_82 | exact bs_yes hb hbw (Or.inr (Int32.not_le.mp c_60)) (e_69.trans h4) e_82 | exact bs_no hb hbw c_54 c_60 e_69 e_82 | exact absurd e_69 c_73 | exact absurd (e_69.symm.trans (c_73.trans h4)) (bs_ne (by omega) hb) | exact absurd (e_69.symm.trans ((Decidable.not_not.mp c_73).trans h4)) (bs_ne (by omega) hb)) (jsucc e_83 h4) (fun k hk => (hK_30 k hk).trans (hK1 k hk))
          · skip
            refine j_iload hC dX7_bestSwap_42 rfl ?_
            refine j_goto hC dX7_bestSwap_44 (tgt := 49) (by decide) ?_
            refine j_istore hC dX7_bestSwap_49 rfl rfl rfl (fun v_49 e_49 => ?_)
            have hv : v_49 = nI (dysN (lampS T.1 (nI i) y)) := by first | (rw [e_33, h4, show (99 : Int32) = nI 99 from rfl] at c_39; rw [h4] at hl10; rw [nI_leI (by omega) (by omega)] at c_39; rw [e_49, show dysN (lampS T.1 (nI i) y) = 99 by omega]; rfl) | (rw [e_49, e_33, h4])
            have hbw := bs_w (S := T.1) (y := y) (i := i) (by rw [h4] at hl10; exact hl10)
            rw [← hv] at hbw
            refine j_iload_n hC dX7_bestSwap_51 rfl rfl ?_
            refine j_bipush hC (-9) dX7_bestSwap_52 (by decide) ?_
            refine j_icmp_eq hC dX7_bestSwap_54 (tgt := 63) (by decide) (fun c_54 => ?_) (fun c_54 => ?_)
            · skip
              refine j_iload hC dX7_bestSwap_63 rfl ?_
              refine j_goto hC dX7_bestSwap_65 (tgt := 69) (by decide) ?_
              refine j_istore_n hC dX7_bestSwap_69 rfl rfl rfl rfl (fun v_69 e_69 => ?_)
              refine j_iload_n hC dX7_bestSwap_70 rfl rfl ?_
              refine j_iload hC dX7_bestSwap_71 rfl ?_
              refine j_icmp_ne hC dX7_bestSwap_73 (tgt := 81) (by decide) (fun c_73 => ?_) (fun c_73 => ?_)
              · skip
                refine j_iload_n hC dX7_bestSwap_81 rfl rfl ?_
                refine j_istore_n hC dX7_bestSwap_82 rfl rfl rfl rfl (fun v_82 e_82 => ?_)
                refine j_iinc hC (1) dX7_bestSwap_83 rfl rfl rfl rfl rfl (fun v_83 e_83 => ?_)
                refine j_goto hC dX7_bestSwap_86 (tgt := 17) (by decide) ?_
                refine j_pick [0, 1, 2, 3, 4] ?_
                exact ih_17 (i + 1) _ _ _ _ (by omega) (by omega) (by first | exact bs_yes hb hbw (Or.inl c_54) (e_69.trans h4) e_82 | exact bs_yes hb hbw (Or.inl (Decidable.not_not.mp c_54)) (e_69.trans h4) e_82 | exact bs_yes hb hbw (Or.inr (Int32.not_le.mp c_60)) (e_69.trans h4) e_82 | exact bs_no hb hbw c_54 c_60 e_69 e_82 | exact absurd e_69 c_73 | exact absurd (e_69.symm.trans (c_73.trans h4)) (bs_ne (by omega) hb) | exact absurd (e_69.symm.trans ((Decidable.not_not.mp c_73).trans h4)) (bs_ne (by omega) hb)) (jsucc e_83 h4) (fun k hk => (hK_30 k hk).trans (hK1 k hk))
              · skip
                refine j_iload hC dX7_bestSwap_76 rfl ?_
                refine j_goto hC dX7_bestSwap_78 (tgt := 82) (by decide) ?_
                refine j_istore_n hC dX7_bestSwap_82 rfl rfl rfl rfl (fun v_82 e_82 => ?_)
                refine j_iinc hC (1) dX7_bestSwap_83 rfl rfl rfl rfl rfl (fun v_83 e_83 => ?_)
                refine j_goto hC dX7_bestSwap_86 (tgt := 17) (by decide) ?_
                refine j_pick [0, 1, 2, 3, 4] ?_
                exact ih_17 (i + 1) _ _ _ _ (by omega) (by omega) (by first | exact bs_yes hb hbw (Or.inl c_54) (e_69.trans h4) e_82 | exact bs_yes hb hbw (Or.inl (Decidable.not_not.mp c_54)) (e_69.trans h4) e_82 | exact bs_yes hb hbw (Or.inr (Int32.not_le.mp c_60)) (e_69.trans h4) e_82 | exact bs_no hb hbw c_54 c_60 e_69 e_82 | exact absurd e_69 c_73 | exact absurd (e_69.symm.trans (c_73.trans h4)) (bs_ne (by omega) hb) | exact absurd (e_69.symm.trans ((Decidable.not_not.mp c_73).trans h4)) (bs_ne (by omega) hb)) (jsucc e_83 h4) (fun k hk => (hK_30 k hk).trans (hK1 k hk))
            · skip
              refine j_iload hC dX7_bestSwap_57 rfl ?_
              refine j_iload_n hC dX7_bestSwap_59 rfl rfl ?_
              refine j_icmp_ge hC dX7_bestSwap_60 (tgt := 68) (by decide) (fun c_60 => ?_) (fun c_60 => ?_)
              · skip
                refine j_iload_n hC dX7_bestSwap_68 rfl rfl ?_
                refine j_istore_n hC dX7_bestSwap_69 rfl rfl rfl rfl (fun v_69 e_69 => ?_)
                refine j_iload_n hC dX7_bestSwap_70 rfl rfl ?_
                refine j_iload hC dX7_bestSwap_71 rfl ?_
                refine j_icmp_ne hC dX7_bestSwap_73 (tgt := 81) (by decide) (fun c_73 => ?_) (fun c_73 => ?_)
                · skip
                  refine j_iload_n hC dX7_bestSwap_81 rfl rfl ?_
                  refine j_istore_n hC dX7_bestSwap_82 rfl rfl rfl rfl (fun v_82 e_82 => ?_)
                  refine j_iinc hC (1) dX7_bestSwap_83 rfl rfl rfl rfl rfl (fun v_83 e_83 => ?_)
                  refine j_goto hC dX7_bestSwap_86 (tgt := 17) (by decide) ?_
                  refine j_pick [0, 1, 2, 3, 4] ?_
                  exact ih_17 (i + 1) _ _ _ _ (by omega) (by omega) (by first | exact bs_yes hb hbw (Or.inl c_54) (e_69.trans h4) e_82 | exact bs_yes hb hbw (Or.inl (Decidable.not_not.mp c_54)) (e_69.trans h4) e_82 | exact bs_yes hb hbw (Or.inr (Int32.not_le.mp c_60)) (e_69.trans h4) e_82 | exact bs_no hb hbw c_54 c_60 e_69 e_82 | exact absurd e_69 c_73 | exact absurd (e_69.symm.trans (c_73.trans h4)) (bs_ne (by omega) hb) | exact absurd (e_69.symm.trans ((Decidable.not_not.mp c_73).trans h4)) (bs_ne (by omega) hb)) (jsucc e_83 h4) (fun k hk => (hK_30 k hk).trans (hK1 k hk))
                · skip
                  refine j_iload hC dX7_bestSwap_76 rfl ?_
                  refine j_goto hC dX7_bestSwap_78 (tgt := 82) (by decide) ?_
                  refine j_istore_n hC dX7_bestSwap_82 rfl rfl rfl rfl (fun v_82 e_82 => ?_)
                  refine j_iinc hC (1) dX7_bestSwap_83 rfl rfl rfl rfl rfl (fun v_83 e_83 => ?_)
                  refine j_goto hC dX7_bestSwap_86 (tgt := 17) (by decide) ?_
                  refine j_pick [0, 1, 2, 3, 4] ?_
                  exact ih_17 (i + 1) _ _ _ _ (by omega) (by omega) (by first | exact bs_yes hb hbw (Or.inl c_54) (e_69.trans h4) e_82 | exact bs_yes hb hbw (Or.inl (Decidable.not_not.mp c_54)) (e_69.trans h4) e_82 | exact bs_yes hb hbw (Or.inr (Int32.not_le.mp c_60)) (e_69.trans h4) e_82 | exact bs_no hb hbw c_54 c_60 e_69 e_82 | exact absurd e_69 c_73 | exact absurd (e_69.symm.trans (c_73.trans h4)) (bs_ne (by omega) hb) | exact absurd (e_69.symm.trans ((Decidable.not_not.mp c_73).trans h4)) (bs_ne (by omega) hb)) (jsucc e_83 h4) (fun k hk => (hK_30 k hk).trans (hK1 k hk))
              · skip
                refine j_iload hC dX7_bestSwap_63 rfl ?_
                refine j_goto hC dX7_bestSwap_65 (tgt := 69) (by decide) ?_
                refine j_istore_n hC dX7_bestSwap_69 rfl rfl rfl rfl (fun v_69 e_69 => ?_)
                refine j_iload_n hC dX7_bestSwap_70 rfl rfl ?_
                refine j_iload hC dX7_bestSwap_71 rfl ?_
                refine j_icmp_ne hC dX7_bestSwap_73 (tgt := 81) (by decide) (fun c_73 => ?_) (fun c_73 => ?_)
                · skip
                  refine j_iload_n hC dX7_bestSwap_81 rfl rfl ?_
                  refine j_istore_n hC dX7_bestSwap_82 rfl rfl rfl rfl (fun v_82 e_82 => ?_)
                  refine j_iinc hC (1) dX7_bestSwap_83 rfl rfl rfl rfl rfl (fun v_83 e_83 => ?_)
                  refine j_goto hC dX7_bestSwap_86 (tgt := 17) (by decide) ?_
                  refine j_pick [0, 1, 2, 3, 4] ?_
                  exact ih_17 (i + 1) _ _ _ _ (by omega) (by omega) (by first | exact bs_yes hb hbw (Or.inl c_54) (e_69.trans h4) e_82 | exact bs_yes hb hbw (Or.inl (Decidable.not_not.mp c_54)) (e_69.trans h4) e_82 | exact bs_yes hb hbw (Or.inr (Int32.not_le.mp c_60)) (e_69.trans h4) e_82 | exact bs_no hb hbw c_54 c_60 e_69 e_82 | exact absurd e_69 c_73 | exact absurd (e_69.symm.trans (c_73.trans h4)) (bs_ne (by omega) hb) | exact absurd (e_69.symm.trans ((Decidable.not_not.mp c_73).trans h4)) (bs_ne (by omega) hb)) (jsucc e_83 h4) (fun k hk => (hK_30 k hk).trans (hK1 k hk))
                · skip
                  refine j_iload hC dX7_bestSwap_76 rfl ?_
                  refine j_goto hC dX7_bestSwap_78 (tgt := 82) (by decide) ?_
                  refine j_istore_n hC dX7_bestSwap_82 rfl rfl rfl rfl (fun v_82 e_82 => ?_)
                  refine j_iinc hC (1) dX7_bestSwap_83 rfl rfl rfl rfl rfl (fun v_83 e_83 => ?_)
                  refine j_goto hC dX7_bestSwap_86 (tgt := 17) (by decide) ?_
                  refine j_pick [0, 1, 2, 3, 4] ?_
                  exact ih_17 (i + 1) _ _ _ _ (by omega) (by omega) (by first | exact bs_yes hb hbw (Or.inl c_54) (e_69.trans h4) e_82 | exact bs_yes hb hbw (Or.inl (Decidable.not_not.mp c_54)) (e_69.trans h4) e_82 | exact bs_yes hb hbw (Or.inr (Int32.not_le.mp c_60)) (e_69.trans h4) e_82 | exact bs_no hb hbw c_54 c_60 e_69 e_82 | exact absurd e_69 c_73 | exact absurd (e_69.symm.trans (c_73.trans h4)) (bs_ne (by omega) hb) | exact absurd (e_69.symm.trans ((Decidable.not_not.mp c_73).trans h4)) (bs_ne (by omega) hb)) (jsucc e_83 h4) (fun k hk => (hK_30 k hk).trans (hK1 k hk))
    refine j_pick [0, 1, 2, 3, 4] ?_
    exact L_17 ((bLs T.1).length + 1) 0 _ _ _ _ (by omega) (by omega) ⟨e_11, e_13, ⟨0, by decide, rfl⟩, Or.inl rfl⟩ (e_15.trans nI_0.symm) (fun _ _ => rfl)
  · skip
    refine j_iconst hC (-1) dX7_bestSwap_7 (by decide) ?_
    refine j_iret hC hQ rfl rfl (Nat.le_of_ble_eq_true rfl) (Nat.le_of_ble_eq_true rfl) dX7_bestSwap_8 rfl ?_
    exact mw_o (T := T) (by unfold oBestSwap; rw [if_neg (fun q => jb0 c_4 (in_iff.mpr q))]) hMI
