/-! tests -/
theorem age_6 {X : jF} {p : Int32} : ageL X p 6 = jmin (X 6) (24 * (5 * rated (X 2) * jmax 0 (X 5 - p) / 4000)) := rfl
theorem age_5 {X : jF} {p : Int32} : ageL X p 5 = jmax 0 (X 5 - p) := rfl
theorem age_o {X : jF} {p : Int32} {f : Nat} (h5 : f ≠ 5) (h6 : f ≠ 6) : ageL X p f = X f := by
  unfold ageL; rw [pk_un h6, pk_un h5]
theorem burn_cg {L : jF} {m : Int32} (hm : m = burnMin L) (f : Nat) : burnL L f = ageL (upd (burnL0 L) 8 m) (wearOf (L 2)) f := by
  subst hm
  unfold burnL
  by_cases q8 : f = 8
  · subst q8; rw [pk_us, age_o (by decide) (by decide), pk_us]
  · rw [pk_un q8]
    by_cases q6 : f = 6
    · subst q6; rw [age_6, age_6, pk_un (by decide), pk_un (by decide), pk_un (by decide)]
    · by_cases q5 : f = 5
      · subst q5; rw [age_5, age_5, pk_un (by decide)]
      · rw [age_o q5 q6, age_o q5 q6, pk_un q8]
theorem bm_nat {L : jF} (h : wfL L) : ∃ m : Nat, burnMin L = nI m ∧ m ≤ 180 ∧ (m : Int) ≤ (L 7).toInt ∧ (24 * m : Int) ≤ (L 6).toInt := by
  obtain ⟨⟨r1, r2, r3, r4, r5, r6⟩, r7, r8⟩ := h
  obtain ⟨rr, hr, e⟩ := rated_cases r2.1 r2.2
  obtain ⟨c, hc, e6, hc2⟩ := jnat_of r6.1
  obtain ⟨r, hr2, e7, hr3⟩ := jnat_of r7
  refine ⟨min (min (c / 24) r) rr, ?_, by omega, by omega, by omega⟩
  unfold burnMin endL
  rw [e, e6, e7, show (24 : Int32) = nI 24 from rfl, pk_div (by omega) (by decide) (by decide), jmin_nat (by omega) (by omega), jmin_nat (by omega) (by omega)]
theorem burn_1 {P Q : jF} {i : Nat} {L : jF} {v : Int32} (h : lok 5400 P i L) (hv : v = burnMin L) (e : Q = upd P (1 + 9 * i + 7) (P (1 + 9 * i + 7) + v)) : lok 5400 Q i (upd L 7 (L 7 - burnMin L)) := by
  obtain ⟨h1, h2, h3, h4, h5⟩ := id h
  obtain ⟨m, em, m1, m2, m3⟩ := bm_nat (lok_wf h)
  have hl := life_t (x := L 3)
  have e1 : (lifeOf (L 3) - P (1 + 9 * i + 7)).toInt = (lifeOf (L 3)).toInt - (P (1 + 9 * i + 7)).toInt := isub_t rfl rfl (by omega) (by omega)
  have e7 : (L 7).toInt = max 0 ((lifeOf (L 3)).toInt - (P (1 + 9 * i + 7)).toInt) := by rw [h2, jmax_toInt, z_t, e1]
  have ev : (P (1 + 9 * i + 7) + v).toInt = (P (1 + 9 * i + 7)).toInt + m := by rw [hv, em]; exact iadd_t rfl (nI_toInt (by omega)) (by omega) (by omega)
  refine lok_lit h e (by omega) (by omega) (i_eq ?_)
  rw [jmax_toInt, isub_t rfl ev (by omega) (by omega), z_t, em, isub_t rfl (nI_toInt (by omega)) (by omega) (by omega)]
  omega
theorem burn_2 {P Q : jF} {i : Nat} {L : jF} {v : Int32} (hw : wfL L) (h : lok 5400 P i (upd L 7 (L 7 - burnMin L))) (hv : v = burnMin L) (e : Q = upd P (1 + 9 * i + 6) (P (1 + 9 * i + 6) - 24 * v)) : lok 5400 Q i (burnL0 L) := by
  obtain ⟨m, em, m1, m2, m3⟩ := bm_nat hw
  have e2 : P (1 + 9 * i + 6) = L 6 := h.1 6 (by decide) (by decide)
  rw [e2, hv] at e
  have e3 : (L 6 - 24 * burnMin L).toInt = (L 6).toInt - 24 * m := isub_t rfl (by rw [em, show (24 : Int32) = nI 24 from rfl, pk_mul, nI_toInt (by omega)]; omega) (by have := hw.1.2.2.2.2.2; omega) (by have := hw.1.2.2.2.2.2; omega)
  exact lok_set (v := L 6 - 24 * burnMin L) h e (by decide) (by decide) (by decide) (rg_6 h.2.2.1 (by rw [e3]; omega) (by rw [e3]; have := hw.1.2.2.2.2.2; omega))
theorem wear_5 {x : Int32} (h : 0 ≤ x.toInt ∧ x.toInt ≤ 3) : 5 - x = wearOf x := by
  rcases i0123 h.1 h.2 with rfl | rfl | rfl | rfl <;> rfl
theorem wear_r {x : Int32} : 0 ≤ (wearOf x).toInt ∧ (wearOf x).toInt ≤ 1000 := by
  unfold wearOf
  by_cases q : x = 0
  · rw [if_pos q]; decide
  · rw [if_neg q]
    by_cases q : x = 1
    · rw [if_pos q]; decide
    · rw [if_neg q]
      by_cases q : x = 2
      · rw [if_pos q]; decide
      · rw [if_neg q]; decide
theorem bm_a {L : jF} {r v : Int32} (hr : r = rated (L 2)) (c : r ≤ endL L) (e : v = r) : v = burnMin L := by
  unfold burnMin jmin
  rw [← hr, e]
  by_cases q : r < endL L
  · rw [if_pos q]
  · rw [if_neg q]; exact Int32.le_antisymm c (Int32.not_lt.mp q)
theorem bm_b {L : jF} {r v : Int32} (hr : r = rated (L 2)) (c : ¬ r ≤ endL L) (e : v = endL L) : v = burnMin L := by
  unfold burnMin jmin
  rw [← hr, e, if_neg (fun q => c (Int32.le_of_lt q))]
def bI (s : Int32) (S : BS) (i : Nat) : Int32 × Int32 := jiter (bStep s (lsX (bLs S))) (bPa S, bFa S) i
theorem bI_s {s : Int32} {S : BS} {i : Nat} : bI s S (i + 1) = bStep s (lsX (bLs S)) i (bI s S i) := by
  unfold bI; rw [jit_s]
theorem bI_a {s : Int32} {S : BS} {i : Nat} (h : ¬ (s >>> (nI i &&& 31)) &&& 1 = 1) : bI s S (i + 1) = bI s S i := by rw [bI_s]; exact bStep_a h
theorem bI_b {s : Int32} {S : BS} {i : Nat} (h : (s >>> (nI i &&& 31)) &&& 1 = 1) (h2 : burnMin (LI S i) = rated (LI S i 2)) : bI s S (i + 1) = ((bI s S i).1 + 1, (bI s S i).2) := by rw [bI_s]; exact bStep_b h h2
theorem bI_c {s : Int32} {S : BS} {i : Nat} (h : (s >>> (nI i &&& 31)) &&& 1 = 1) (h2 : ¬ burnMin (LI S i) = rated (LI S i 2)) : bI s S (i + 1) = ((bI s S i).1, (bI s S i).2 + 1) := by rw [bI_s]; exact bStep_c h h2
def TS (s : Int32) (S : BS) (i : Nat) : BS := pmS S (bF s) i (bHrs S) (bI s S i).1 (bI s S i).2
theorem TS_len {s : Int32} {S : BS} {i : Nat} : (bLs (TS s S i)).length = (bLs S).length := pm_len
theorem TS_0 {s : Int32} {S : BS} : TS s S 0 = S := pm_0
theorem TS_end {s : Int32} {S : BS} : TS s S (bLs S).length = burS s S := by
  unfold TS
  rw [pm_end]; rfl
theorem TS_a {s : Int32} {S : BS} {i : Nat} (hi : i < (bLs S).length) (h : ¬ (s >>> (nI i &&& 31)) &&& 1 = 1) : TS s S (i + 1) = TS s S i := by
  unfold TS
  rw [pm_same hi (bF_a h), bI_a h]
theorem TS_b {P Q : jF} {s : Int32} {S : BS} {i : Nat} (hp : MP P (pmS S (bF s) (i + 1) (bHrs S) (bI s S i).1 (bI s S i).2)) (h : (s >>> (nI i &&& 31)) &&& 1 = 1) (h2 : burnMin (LI S i) = rated (LI S i 2)) (e : Q = upd P 109 (P 109 + 1)) : MP Q (TS s S (i + 1)) := by
  unfold TS
  rw [bI_b h h2]
  refine MP_pa hp (e.trans ?_)
  rw [hp.2.2.2.2.2.2.2.1]; rfl
theorem TS_c {P Q : jF} {s : Int32} {S : BS} {i : Nat} (hp : MP P (pmS S (bF s) (i + 1) (bHrs S) (bI s S i).1 (bI s S i).2)) (h : (s >>> (nI i &&& 31)) &&& 1 = 1) (h2 : ¬ burnMin (LI S i) = rated (LI S i 2)) (e : Q = upd P 110 (P 110 + 1)) : MP Q (TS s S (i + 1)) := by
  unfold TS
  rw [bI_c h h2]
  refine MP_fa hp (e.trans ?_)
  rw [hp.2.2.2.2.2.2.2.2]; rfl
theorem sub_p1 {x c : Int32} : x + 1 - c = x - c + 1 := by
  rw [Int32.sub_eq_add_neg, Int32.sub_eq_add_neg, Int32.add_assoc, Int32.add_comm 1, ← Int32.add_assoc]
set_option maxHeartbeats 4000000 in
set_option maxRecDepth 100000 in
theorem c_X7_tests (g : jG) (d : Nat → Nat) (I : jF) (A : Nat → jF) (S : BS) (s : Int32) (hp : MP (A 1) S) : Con g yX7_tests cX7_tests 6 (some .int) 6 131 0 0 [.ref (d 0), .int s] [mc g d I A] (fun r b => r = some (.int ((burA s S).1 - bPa S)) ∧ ∃ A1 : Nat → jF, b = [mc g d I A1] ∧ (∀ q, q ≠ 1 → A1 q = A q) ∧ (∀ q, 111 ≤ q → q < 999 → A1 1 q = A 1 q) ∧ MP (A1 1) (burS s S)) := by
  refine Con.of (own := RX7) (lv := [(0, .ref (d 0)), (1, .int s)]) (by decide) rfl (Nat.le_of_ble_eq_true rfl) rfl ?_
  intro E hC hQ hN
  obtain ⟨⟨hq0, hk10⟩, hql, ⟨hq91, hn6⟩, hqr, ⟨hq4, hnd⟩, ⟨hq5, hqh⟩, ⟨hq6, hqs⟩, hq9, hq10⟩ := id hp
  refine j_iconst hC (0) dX7_tests_0 (by decide) ?_
  refine j_istore_n hC dX7_tests_1 rfl rfl rfl rfl (fun v_1 e_1 => ?_)
  refine j_iconst hC (0) dX7_tests_2 (by decide) ?_
  refine j_istore_n hC dX7_tests_3 rfl rfl rfl rfl (fun v_3 e_3 => ?_)
  have L_4 : ∀ (fu : Nat) (i : Nat) (x2 x3 : Int32) (A1 : Nat → jF) (hfu : (bLs S).length + 1 ≤ i + fu) (hi : i ≤ (bLs S).length) (h2 : x2 = (bI s S i).1 - bPa S) (h3 : x3 = nI i) (hPi : MP (A1 1) (TS s S i)) (hK : ∀ q, q ≠ 1 → A1 q = A q) (hT : ∀ q, 111 ≤ q → q < 999 → A1 1 q = A 1 q), J g (jRm 6 131 0 0) E 6 4 [(0, .ref (d 0)), (1, .int s), (2, .int x2), (3, .int x3)] [] [mc g d I A1] (0) (0) := by
    intro fu
    induction fu with
    | zero => intro i x2 x3 A1 hfu hi h2 h3 hPi hK hT; exact absurd hfu (by omega)
    | succ fu ih_4 =>
      intro i x2 x3 A1 hfu hi h2 h3 hPi hK hT
      refine j_iload_n hC dX7_tests_4 rfl rfl ?_
      refine j_aload_n hC dX7_tests_5 rfl rfl ?_
      refine j_callVR hC [0] (c_X7_lights g _ _ _) mX7_lights k787 rfl rfl rfl rfl rfl ⟨(Nat.le_of_ble_eq_true rfl), (Nat.le_of_ble_eq_true rfl)⟩ (Nat.le_of_ble_eq_true rfl) ⟨(Nat.le_of_ble_eq_true rfl), (Nat.le_of_ble_eq_true rfl)⟩ dX7_tests_6 ?_
      dsimp only [jrepl, List.set, jstk]
      refine j_icmp_ge hC dX7_tests_9 (tgt := 158) (by decide) (fun c_9 => ?_) (fun c_9 => ?_)
      · skip
        have hie : i = (bLs S).length := Nat.le_antisymm hi (jge (by have q := hPi.1.1; rw [TS_len] at q; exact q) h3 (by omega) (by omega) c_9)
        rw [hie, TS_end] at hPi
        rw [hie] at h2
        refine j_iload_n hC dX7_tests_158 rfl rfl ?_
        refine j_iret hC hQ rfl rfl (Nat.le_of_ble_eq_true rfl) (Nat.le_of_ble_eq_true rfl) dX7_tests_159 rfl ?_
        exact ⟨congrArg (fun z => some (Value.int z)) h2, A1, rfl, hK, hT, hPi⟩
      · skip
        have hik : i < (bLs S).length := jlt (by have q := hPi.1.1; rw [TS_len] at q; exact q) h3 (by omega) (by omega) c_9
        have hi10 : i ≤ 10 := by omega
        have hli : lok 5400 (A1 1) i (LI S i) := by have q := hPi.2.1 i (by rw [TS_len]; exact hik); rw [show LI (TS s S i) i = LI S i from pm_cur hik] at q; exact q
        refine j_iload_n hC dX7_tests_12 rfl rfl ?_
        refine j_iload_n hC dX7_tests_13 rfl rfl ?_
        refine j_ishr hC dX7_tests_14 ?_
        refine j_iconst hC (1) dX7_tests_15 (by decide) ?_
        refine j_iand hC dX7_tests_16 ?_
        refine j_iconst hC (1) dX7_tests_17 (by decide) ?_
        refine j_icmp_ne hC dX7_tests_18 (tgt := 152) (by decide) (fun c_18 => ?_) (fun c_18 => ?_)
        · skip
          refine j_iinc hC (1) dX7_tests_152 rfl rfl rfl rfl rfl (fun v_152 e_152 => ?_)
          refine j_goto hC dX7_tests_155 (tgt := 4) (by decide) ?_
          refine j_pick [0, 1, 2, 3] ?_
          first | exact ih_4 (i + 1) _ _ _ (by omega) (by omega) (by rw [e_128, bI_b hbit (show burnMin (LI S i) = rated (LI S i 2) from (by rw [← hv, ← show v_26 = rated (LI S i 2) from e_26]; first | exact c_119 | exact Decidable.not_not.mp c_119)), h2]; exact sub_p1.symm) (jsucc e_152 h3) (TS_b hPp hbit (show burnMin (LI S i) = rated (LI S i 2) from (by rw [← hv, ← show v_26 = rated (LI S i 2) from e_26]; first | exact c_119 | exact Decidable.not_not.mp c_119)) hA_151) (fun q hq => (hK_151 q hq).trans ((hK_111 q hq).trans ((hK_100 q hq).trans ((hK_86 q hq).trans ((hK_66 q hq).trans (hK q hq)))))) (fun q q1 q2 => by rw [hA_151, pk_un (by omega), hF_111 q (by omega), hA_100, pk_un (by omega), hA_86, pk_un (by omega), hA_66, pk_un (by omega)]; exact hT q q1 q2) | exact ih_4 (i + 1) _ _ _ (by omega) (by omega) (by rw [e_128, bI_c hbit (show ¬ burnMin (LI S i) = rated (LI S i 2) from (by rw [← hv, ← show v_26 = rated (LI S i 2) from e_26]; exact c_119)), h2, Int32.add_zero]) (jsucc e_152 h3) (TS_c hPp hbit (show ¬ burnMin (LI S i) = rated (LI S i 2) from (by rw [← hv, ← show v_26 = rated (LI S i 2) from e_26]; exact c_119)) hA_151) (fun q hq => (hK_151 q hq).trans ((hK_111 q hq).trans ((hK_100 q hq).trans ((hK_86 q hq).trans ((hK_66 q hq).trans (hK q hq)))))) (fun q q1 q2 => by rw [hA_151, pk_un (by omega), hF_111 q (by omega), hA_100, pk_un (by omega), hA_86, pk_un (by omega), hA_66, pk_un (by omega)]; exact hT q q1 q2) | exact absurd c_119 c_137 | exact absurd c_137 c_119 | exact ih_4 (i + 1) _ _ _ (by omega) (by omega) (by rw [bI_a (by rw [← h3]; exact c_18)]; exact h2) (jsucc e_152 h3) (by rw [TS_a hik (by rw [← h3]; exact c_18)]; exact hPi) hK hT
        · skip
          have hbit : (s >>> (nI i &&& 31)) &&& 1 = 1 := by rw [← h3]; first | exact c_18 | exact Decidable.not_not.mp c_18
          refine j_aload_n hC dX7_tests_21 rfl rfl ?_
          refine j_iload_n hC dX7_tests_22 rfl rfl ?_
          refine j_callVR hC [0] (c_X7_ratedOf g _ _ _ _ _ _ h3 hi10 (hli.1 2 (by decide) (by decide)) hli.2.2.1.2.1) mX7_ratedOf k807 rfl rfl rfl rfl rfl ⟨(Nat.le_of_ble_eq_true rfl), (Nat.le_of_ble_eq_true rfl)⟩ (Nat.le_of_ble_eq_true rfl) ⟨(Nat.le_of_ble_eq_true rfl), (Nat.le_of_ble_eq_true rfl)⟩ dX7_tests_23 ?_
          dsimp only [jrepl, List.set, jstk]
          refine j_istore hC dX7_tests_26 rfl rfl rfl (fun v_26 e_26 => ?_)
          refine j_aload_n hC dX7_tests_28 rfl rfl ?_
          refine j_iload_n hC dX7_tests_29 rfl rfl ?_
          refine j_callVR hC [0] (c_X7_enduranceOf g _ _ _ _ _ _ _ h3 hi10 hli) mX7_enduranceOf k935 rfl rfl rfl rfl rfl ⟨(Nat.le_of_ble_eq_true rfl), (Nat.le_of_ble_eq_true rfl)⟩ (Nat.le_of_ble_eq_true rfl) ⟨(Nat.le_of_ble_eq_true rfl), (Nat.le_of_ble_eq_true rfl)⟩ dX7_tests_30 ?_
          dsimp only [jrepl, List.set, jstk]
          refine j_iload hC dX7_tests_33 rfl ?_
          refine j_icmp_ge hC dX7_tests_35 (tgt := 46) (by decide) (fun c_35 => ?_) (fun c_35 => ?_)
          · skip
            refine j_iload hC dX7_tests_46 rfl ?_
            refine j_istore hC dX7_tests_48 rfl rfl rfl (fun v_48 e_48 => ?_)
            have hv : v_48 = burnMin (LI S i) := by first | exact bm_a e_26 c_35 e_48 | exact bm_b e_26 c_35 e_48
            refine j_aload_n hC dX7_tests_50 rfl rfl ?_
            refine j_get hC uX7 0 0 0 rfl rfl k724 rfl dX7_tests_51 ?_
            refine j_aload_n hC dX7_tests_54 rfl rfl ?_
            refine j_iload_n hC dX7_tests_55 rfl rfl ?_
            refine j_bipush hC (7) dX7_tests_56 (by decide) ?_
            refine j_callVR hC [0] (c_X7_at g _ _ _ _ 7 _ _ h3 hi10 (by decide) (by decide)) mX7_at k799 rfl rfl rfl rfl rfl ⟨(Nat.le_of_ble_eq_true rfl), (Nat.le_of_ble_eq_true rfl)⟩ (Nat.le_of_ble_eq_true rfl) ⟨(Nat.le_of_ble_eq_true rfl), (Nat.le_of_ble_eq_true rfl)⟩ dX7_tests_58 ?_
            dsimp only [jrepl, List.set, jstk]
            refine j_dup2 hC dX7_tests_61 rfl rfl ?_
            refine j_ildN hC (m := 1 + 9 * i + 7) 0 1 rfl rfl rfl (by omega) dX7_tests_62 ?_
            refine j_iload hC dX7_tests_63 rfl ?_
            refine j_iadd hC dX7_tests_65 ?_
            refine j_st_7_1 (bi := 0) (m := 1 + 9 * i + 7) hC rfl rfl (by omega) dX7_tests_66 (fun A_66 hA_66 hK_66 => ?_)
            dsimp only [List.set]
            have hl66 := burn_1 hli hv hA_66
            refine j_aload_n hC dX7_tests_67 rfl rfl ?_
            refine j_get hC uX7 0 0 0 rfl rfl k724 rfl dX7_tests_68 ?_
            refine j_aload_n hC dX7_tests_71 rfl rfl ?_
            refine j_iload_n hC dX7_tests_72 rfl rfl ?_
            refine j_bipush hC (6) dX7_tests_73 (by decide) ?_
            refine j_callVR hC [0] (c_X7_at g _ _ _ _ 6 _ _ h3 hi10 (by decide) (by decide)) mX7_at k799 rfl rfl rfl rfl rfl ⟨(Nat.le_of_ble_eq_true rfl), (Nat.le_of_ble_eq_true rfl)⟩ (Nat.le_of_ble_eq_true rfl) ⟨(Nat.le_of_ble_eq_true rfl), (Nat.le_of_ble_eq_true rfl)⟩ dX7_tests_75 ?_
            dsimp only [jrepl, List.set, jstk]
            refine j_dup2 hC dX7_tests_78 rfl rfl ?_
            refine j_ildN hC (m := 1 + 9 * i + 6) 0 1 rfl rfl rfl (by omega) dX7_tests_79 ?_
            refine j_bipush hC (24) dX7_tests_80 (by decide) ?_
            refine j_iload hC dX7_tests_82 rfl ?_
            refine j_imul hC dX7_tests_84 ?_
            refine j_isub hC dX7_tests_85 ?_
            refine j_st_7_1 (bi := 0) (m := 1 + 9 * i + 6) hC rfl rfl (by omega) dX7_tests_86 (fun A_86 hA_86 hK_86 => ?_)
            dsimp only [List.set]
            have hl86 := burn_2 (lok_wf hli) hl66 hv hA_86
            refine j_aload_n hC dX7_tests_87 rfl rfl ?_
            refine j_get hC uX7 0 0 0 rfl rfl k724 rfl dX7_tests_88 ?_
            refine j_aload_n hC dX7_tests_91 rfl rfl ?_
            refine j_iload_n hC dX7_tests_92 rfl rfl ?_
            refine j_bipush hC (8) dX7_tests_93 (by decide) ?_
            refine j_callVR hC [0] (c_X7_at g _ _ _ _ 8 _ _ h3 hi10 (by decide) (by decide)) mX7_at k799 rfl rfl rfl rfl rfl ⟨(Nat.le_of_ble_eq_true rfl), (Nat.le_of_ble_eq_true rfl)⟩ (Nat.le_of_ble_eq_true rfl) ⟨(Nat.le_of_ble_eq_true rfl), (Nat.le_of_ble_eq_true rfl)⟩ dX7_tests_95 ?_
            dsimp only [jrepl, List.set, jstk]
            refine j_iload hC dX7_tests_98 rfl ?_
            refine j_st_7_1 (bi := 0) (m := 1 + 9 * i + 8) hC rfl rfl (by omega) dX7_tests_100 (fun A_100 hA_100 hK_100 => ?_)
            dsimp only [List.set]
            have hl100 : lok 5400 (A_100 1) i (upd (burnL0 (LI S i)) 8 v_48) := lok_set hl86 hA_100 (by decide) (by decide) (by decide) hl86.2.2.1
            refine j_aload_n hC dX7_tests_101 rfl rfl ?_
            refine j_iload_n hC dX7_tests_102 rfl rfl ?_
            refine j_iconst hC (5) dX7_tests_103 (by decide) ?_
            refine j_aload_n hC dX7_tests_104 rfl rfl ?_
            refine j_iload_n hC dX7_tests_105 rfl rfl ?_
            refine j_iconst hC (2) dX7_tests_106 (by decide) ?_
            refine j_callVR hC [0] (c_X7_of g _ _ _ _ 2 _ _ h3 hi10 (by decide) (by decide)) mX7_of k811 rfl rfl rfl rfl rfl ⟨(Nat.le_of_ble_eq_true rfl), (Nat.le_of_ble_eq_true rfl)⟩ (Nat.le_of_ble_eq_true rfl) ⟨(Nat.le_of_ble_eq_true rfl), (Nat.le_of_ble_eq_true rfl)⟩ dX7_tests_107 ?_
            dsimp only [jrepl, List.set, jstk]
            refine j_isub hC dX7_tests_110 ?_
            rw [hl100.1 2 (by decide) (by decide), show (5 : Int32) - upd (burnL0 (LI S i)) 8 v_48 2 = wearOf (LI S i 2) from wear_5 hli.2.2.1.2.1]
            refine j_callV hC [0] (c_X7_wears g _ _ _ _ _ _ _ _ h3 hi10 hl100 wear_r) mX7_wears k923 rfl rfl rfl rfl rfl ⟨(Nat.le_of_ble_eq_true rfl), (Nat.le_of_ble_eq_true rfl)⟩ (Nat.le_of_ble_eq_true rfl) ⟨(Nat.le_of_ble_eq_true rfl), (Nat.le_of_ble_eq_true rfl)⟩ dX7_tests_111 (fun r_111 b_111 hp_111 _ => ?_)
            obtain ⟨rfl, A_111, rfl, hK_111, hL_111, hF_111⟩ := hp_111
            dsimp only [jrepl, List.set, jstk]
            have hPp : MP (A_111 1) (pmS S (bF s) (i + 1) (bHrs S) (bI s S i).1 (bI s S i).2) := MP_pm hPi hik (by rw [bF_b hbit]; exact lok_cg hL_111 (fun f _ => burn_cg hv f)) (pfr_tr (pfr_upd (pfr_upd (pfr_upd pfr_refl hA_66 (by decide)) hA_86 (by decide)) hA_100 (by decide)) hF_111)
            refine j_iload_n hC dX7_tests_114 rfl rfl ?_
            refine j_iload hC dX7_tests_115 rfl ?_
            refine j_iload hC dX7_tests_117 rfl ?_
            refine j_icmp_ne hC dX7_tests_119 (tgt := 126) (by decide) (fun c_119 => ?_) (fun c_119 => ?_)
            · skip
              refine j_iconst hC (0) dX7_tests_126 (by decide) ?_
              refine j_iadd hC dX7_tests_127 ?_
              refine j_istore_n hC dX7_tests_128 rfl rfl rfl rfl (fun v_128 e_128 => ?_)
              refine j_aload_n hC dX7_tests_129 rfl rfl ?_
              refine j_get hC uX7 0 0 0 rfl rfl k724 rfl dX7_tests_130 ?_
              refine j_iload hC dX7_tests_133 rfl ?_
              refine j_iload hC dX7_tests_135 rfl ?_
              refine j_icmp_ne hC dX7_tests_137 (tgt := 145) (by decide) (fun c_137 => ?_) (fun c_137 => ?_)
              · skip
                refine j_bipush hC (110) dX7_tests_145 (by decide) ?_
                refine j_dup2 hC dX7_tests_147 rfl rfl ?_
                refine j_ildN hC (m := 110) 0 1 rfl rfl (by decide) (by decide) dX7_tests_148 ?_
                refine j_iconst hC (1) dX7_tests_149 (by decide) ?_
                refine j_iadd hC dX7_tests_150 ?_
                refine j_st_7_1 (bi := 0) (m := 110) hC rfl (by decide) (by decide) dX7_tests_151 (fun A_151 hA_151 hK_151 => ?_)
                dsimp only [List.set]
                refine j_iinc hC (1) dX7_tests_152 rfl rfl rfl rfl rfl (fun v_152 e_152 => ?_)
                refine j_goto hC dX7_tests_155 (tgt := 4) (by decide) ?_
                refine j_pick [0, 1, 2, 3] ?_
                first | exact ih_4 (i + 1) _ _ _ (by omega) (by omega) (by rw [e_128, bI_b hbit (show burnMin (LI S i) = rated (LI S i 2) from (by rw [← hv, ← show v_26 = rated (LI S i 2) from e_26]; first | exact c_119 | exact Decidable.not_not.mp c_119)), h2]; exact sub_p1.symm) (jsucc e_152 h3) (TS_b hPp hbit (show burnMin (LI S i) = rated (LI S i 2) from (by rw [← hv, ← show v_26 = rated (LI S i 2) from e_26]; first | exact c_119 | exact Decidable.not_not.mp c_119)) hA_151) (fun q hq => (hK_151 q hq).trans ((hK_111 q hq).trans ((hK_100 q hq).trans ((hK_86 q hq).trans ((hK_66 q hq).trans (hK q hq)))))) (fun q q1 q2 => by rw [hA_151, pk_un (by omega), hF_111 q (by omega), hA_100, pk_un (by omega), hA_86, pk_un (by omega), hA_66, pk_un (by omega)]; exact hT q q1 q2) | exact ih_4 (i + 1) _ _ _ (by omega) (by omega) (by rw [e_128, bI_c hbit (show ¬ burnMin (LI S i) = rated (LI S i 2) from (by rw [← hv, ← show v_26 = rated (LI S i 2) from e_26]; exact c_119)), h2, Int32.add_zero]) (jsucc e_152 h3) (TS_c hPp hbit (show ¬ burnMin (LI S i) = rated (LI S i 2) from (by rw [← hv, ← show v_26 = rated (LI S i 2) from e_26]; exact c_119)) hA_151) (fun q hq => (hK_151 q hq).trans ((hK_111 q hq).trans ((hK_100 q hq).trans ((hK_86 q hq).trans ((hK_66 q hq).trans (hK q hq)))))) (fun q q1 q2 => by rw [hA_151, pk_un (by omega), hF_111 q (by omega), hA_100, pk_un (by omega), hA_86, pk_un (by omega), hA_66, pk_un (by omega)]; exact hT q q1 q2) | exact absurd c_119 c_137 | exact absurd c_137 c_119 | exact ih_4 (i + 1) _ _ _ (by omega) (by omega) (by rw [bI_a (by rw [← h3]; exact c_18)]; exact h2) (jsucc e_152 h3) (by rw [TS_a hik (by rw [← h3]; exact c_18)]; exact hPi) hK hT
              · skip
                refine j_bipush hC (109) dX7_tests_140 (by decide) ?_
                refine j_goto hC dX7_tests_142 (tgt := 147) (by decide) ?_
                refine j_dup2 hC dX7_tests_147 rfl rfl ?_
                refine j_ildN hC (m := 109) 0 1 rfl rfl (by decide) (by decide) dX7_tests_148 ?_
                refine j_iconst hC (1) dX7_tests_149 (by decide) ?_
                refine j_iadd hC dX7_tests_150 ?_
                refine j_st_7_1 (bi := 0) (m := 109) hC rfl (by decide) (by decide) dX7_tests_151 (fun A_151 hA_151 hK_151 => ?_)
                dsimp only [List.set]
                refine j_iinc hC (1) dX7_tests_152 rfl rfl rfl rfl rfl (fun v_152 e_152 => ?_)
                refine j_goto hC dX7_tests_155 (tgt := 4) (by decide) ?_
                refine j_pick [0, 1, 2, 3] ?_
                first | exact ih_4 (i + 1) _ _ _ (by omega) (by omega) (by rw [e_128, bI_b hbit (show burnMin (LI S i) = rated (LI S i 2) from (by rw [← hv, ← show v_26 = rated (LI S i 2) from e_26]; first | exact c_119 | exact Decidable.not_not.mp c_119)), h2]; exact sub_p1.symm) (jsucc e_152 h3) (TS_b hPp hbit (show burnMin (LI S i) = rated (LI S i 2) from (by rw [← hv, ← show v_26 = rated (LI S i 2) from e_26]; first | exact c_119 | exact Decidable.not_not.mp c_119)) hA_151) (fun q hq => (hK_151 q hq).trans ((hK_111 q hq).trans ((hK_100 q hq).trans ((hK_86 q hq).trans ((hK_66 q hq).trans (hK q hq)))))) (fun q q1 q2 => by rw [hA_151, pk_un (by omega), hF_111 q (by omega), hA_100, pk_un (by omega), hA_86, pk_un (by omega), hA_66, pk_un (by omega)]; exact hT q q1 q2) | exact ih_4 (i + 1) _ _ _ (by omega) (by omega) (by rw [e_128, bI_c hbit (show ¬ burnMin (LI S i) = rated (LI S i 2) from (by rw [← hv, ← show v_26 = rated (LI S i 2) from e_26]; exact c_119)), h2, Int32.add_zero]) (jsucc e_152 h3) (TS_c hPp hbit (show ¬ burnMin (LI S i) = rated (LI S i 2) from (by rw [← hv, ← show v_26 = rated (LI S i 2) from e_26]; exact c_119)) hA_151) (fun q hq => (hK_151 q hq).trans ((hK_111 q hq).trans ((hK_100 q hq).trans ((hK_86 q hq).trans ((hK_66 q hq).trans (hK q hq)))))) (fun q q1 q2 => by rw [hA_151, pk_un (by omega), hF_111 q (by omega), hA_100, pk_un (by omega), hA_86, pk_un (by omega), hA_66, pk_un (by omega)]; exact hT q q1 q2) | exact absurd c_119 c_137 | exact absurd c_137 c_119 | exact ih_4 (i + 1) _ _ _ (by omega) (by omega) (by rw [bI_a (by rw [← h3]; exact c_18)]; exact h2) (jsucc e_152 h3) (by rw [TS_a hik (by rw [← h3]; exact c_18)]; exact hPi) hK hT
            · skip
              refine j_iconst hC (1) dX7_tests_122 (by decide) ?_
              refine j_goto hC dX7_tests_123 (tgt := 127) (by decide) ?_
              refine j_iadd hC dX7_tests_127 ?_
              refine j_istore_n hC dX7_tests_128 rfl rfl rfl rfl (fun v_128 e_128 => ?_)
              refine j_aload_n hC dX7_tests_129 rfl rfl ?_
              refine j_get hC uX7 0 0 0 rfl rfl k724 rfl dX7_tests_130 ?_
              refine j_iload hC dX7_tests_133 rfl ?_
              refine j_iload hC dX7_tests_135 rfl ?_
              refine j_icmp_ne hC dX7_tests_137 (tgt := 145) (by decide) (fun c_137 => ?_) (fun c_137 => ?_)
              · skip
                refine j_bipush hC (110) dX7_tests_145 (by decide) ?_
                refine j_dup2 hC dX7_tests_147 rfl rfl ?_
                refine j_ildN hC (m := 110) 0 1 rfl rfl (by decide) (by decide) dX7_tests_148 ?_
                refine j_iconst hC (1) dX7_tests_149 (by decide) ?_
                refine j_iadd hC dX7_tests_150 ?_
                refine j_st_7_1 (bi := 0) (m := 110) hC rfl (by decide) (by decide) dX7_tests_151 (fun A_151 hA_151 hK_151 => ?_)
                dsimp only [List.set]
                refine j_iinc hC (1) dX7_tests_152 rfl rfl rfl rfl rfl (fun v_152 e_152 => ?_)
                refine j_goto hC dX7_tests_155 (tgt := 4) (by decide) ?_
                refine j_pick [0, 1, 2, 3] ?_
                first | exact ih_4 (i + 1) _ _ _ (by omega) (by omega) (by rw [e_128, bI_b hbit (show burnMin (LI S i) = rated (LI S i 2) from (by rw [← hv, ← show v_26 = rated (LI S i 2) from e_26]; first | exact c_119 | exact Decidable.not_not.mp c_119)), h2]; exact sub_p1.symm) (jsucc e_152 h3) (TS_b hPp hbit (show burnMin (LI S i) = rated (LI S i 2) from (by rw [← hv, ← show v_26 = rated (LI S i 2) from e_26]; first | exact c_119 | exact Decidable.not_not.mp c_119)) hA_151) (fun q hq => (hK_151 q hq).trans ((hK_111 q hq).trans ((hK_100 q hq).trans ((hK_86 q hq).trans ((hK_66 q hq).trans (hK q hq)))))) (fun q q1 q2 => by rw [hA_151, pk_un (by omega), hF_111 q (by omega), hA_100, pk_un (by omega), hA_86, pk_un (by omega), hA_66, pk_un (by omega)]; exact hT q q1 q2) | exact ih_4 (i + 1) _ _ _ (by omega) (by omega) (by rw [e_128, bI_c hbit (show ¬ burnMin (LI S i) = rated (LI S i 2) from (by rw [← hv, ← show v_26 = rated (LI S i 2) from e_26]; exact c_119)), h2, Int32.add_zero]) (jsucc e_152 h3) (TS_c hPp hbit (show ¬ burnMin (LI S i) = rated (LI S i 2) from (by rw [← hv, ← show v_26 = rated (LI S i 2) from e_26]; exact c_119)) hA_151) (fun q hq => (hK_151 q hq).trans ((hK_111 q hq).trans ((hK_100 q hq).trans ((hK_86 q hq).trans ((hK_66 q hq).trans (hK q hq)))))) (fun q q1 q2 => by rw [hA_151, pk_un (by omega), hF_111 q (by omega), hA_100, pk_un (by omega), hA_86, pk_un (by omega), hA_66, pk_un (by omega)]; exact hT q q1 q2) | exact absurd c_119 c_137 | exact absurd c_137 c_119 | exact ih_4 (i + 1) _ _ _ (by omega) (by omega) (by rw [bI_a (by rw [← h3]; exact c_18)]; exact h2) (jsucc e_152 h3) (by rw [TS_a hik (by rw [← h3]; exact c_18)]; exact hPi) hK hT
              · skip
                refine j_bipush hC (109) dX7_tests_140 (by decide) ?_
                refine j_goto hC dX7_tests_142 (tgt := 147) (by decide) ?_
                refine j_dup2 hC dX7_tests_147 rfl rfl ?_
                refine j_ildN hC (m := 109) 0 1 rfl rfl (by decide) (by decide) dX7_tests_148 ?_
                refine j_iconst hC (1) dX7_tests_149 (by decide) ?_
                refine j_iadd hC dX7_tests_150 ?_
                refine j_st_7_1 (bi := 0) (m := 109) hC rfl (by decide) (by decide) dX7_tests_151 (fun A_151 hA_151 hK_151 => ?_)
                dsimp only [List.set]
                refine j_iinc hC (1) dX7_tests_152 rfl rfl rfl rfl rfl (fun v_152 e_152 => ?_)
                refine j_goto hC dX7_tests_155 (tgt := 4) (by decide) ?_
                refine j_pick [0, 1, 2, 3] ?_
                first | exact ih_4 (i + 1) _ _ _ (by omega) (by omega) (by rw [e_128, bI_b hbit (show burnMin (LI S i) = rated (LI S i 2) from (by rw [← hv, ← show v_26 = rated (LI S i 2) from e_26]; first | exact c_119 | exact Decidable.not_not.mp c_119)), h2]; exact sub_p1.symm) (jsucc e_152 h3) (TS_b hPp hbit (show burnMin (LI S i) = rated (LI S i 2) from (by rw [← hv, ← show v_26 = rated (LI S i 2) from e_26]; first | exact c_119 | exact Decidable.not_not.mp c_119)) hA_151) (fun q hq => (hK_151 q hq).trans ((hK_111 q hq).trans ((hK_100 q hq).trans ((hK_86 q hq).trans ((hK_66 q hq).trans (hK q hq)))))) (fun q q1 q2 => by rw [hA_151, pk_un (by omega), hF_111 q (by omega), hA_100, pk_un (by omega), hA_86, pk_un (by omega), hA_66, pk_un (by omega)]; exact hT q q1 q2) | exact ih_4 (i + 1) _ _ _ (by omega) (by omega) (by rw [e_128, bI_c hbit (show ¬ burnMin (LI S i) = rated (LI S i 2) from (by rw [← hv, ← show v_26 = rated (LI S i 2) from e_26]; exact c_119)), h2, Int32.add_zero]) (jsucc e_152 h3) (TS_c hPp hbit (show ¬ burnMin (LI S i) = rated (LI S i 2) from (by rw [← hv, ← show v_26 = rated (LI S i 2) from e_26]; exact c_119)) hA_151) (fun q hq => (hK_151 q hq).trans ((hK_111 q hq).trans ((hK_100 q hq).trans ((hK_86 q hq).trans ((hK_66 q hq).trans (hK q hq)))))) (fun q q1 q2 => by rw [hA_151, pk_un (by omega), hF_111 q (by omega), hA_100, pk_un (by omega), hA_86, pk_un (by omega), hA_66, pk_un (by omega)]; exact hT q q1 q2) | exact absurd c_119 c_137 | exact absurd c_137 c_119 | exact ih_4 (i + 1) _ _ _ (by omega) (by omega) (by rw [bI_a (by rw [← h3]; exact c_18)]; exact h2) (jsucc e_152 h3) (by rw [TS_a hik (by rw [← h3]; exact c_18)]; exact hPi) hK hT
          · skip
            refine j_aload_n hC dX7_tests_38 rfl rfl ?_
            refine j_iload_n hC dX7_tests_39 rfl rfl ?_
            refine j_callVR hC [0] (c_X7_enduranceOf g _ _ _ _ _ _ _ h3 hi10 hli) mX7_enduranceOf k935 rfl rfl rfl rfl rfl ⟨(Nat.le_of_ble_eq_true rfl), (Nat.le_of_ble_eq_true rfl)⟩ (Nat.le_of_ble_eq_true rfl) ⟨(Nat.le_of_ble_eq_true rfl), (Nat.le_of_ble_eq_true rfl)⟩ dX7_tests_40 ?_
            dsimp only [jrepl, List.set, jstk]
            refine j_goto hC dX7_tests_43 (tgt := 48) (by decide) ?_
            refine j_istore hC dX7_tests_48 rfl rfl rfl (fun v_48 e_48 => ?_)
            have hv : v_48 = burnMin (LI S i) := by first | exact bm_a e_26 c_35 e_48 | exact bm_b e_26 c_35 e_48
            refine j_aload_n hC dX7_tests_50 rfl rfl ?_
            refine j_get hC uX7 0 0 0 rfl rfl k724 rfl dX7_tests_51 ?_
            refine j_aload_n hC dX7_tests_54 rfl rfl ?_
            refine j_iload_n hC dX7_tests_55 rfl rfl ?_
            refine j_bipush hC (7) dX7_tests_56 (by decide) ?_
            refine j_callVR hC [0] (c_X7_at g _ _ _ _ 7 _ _ h3 hi10 (by decide) (by decide)) mX7_at k799 rfl rfl rfl rfl rfl ⟨(Nat.le_of_ble_eq_true rfl), (Nat.le_of_ble_eq_true rfl)⟩ (Nat.le_of_ble_eq_true rfl) ⟨(Nat.le_of_ble_eq_true rfl), (Nat.le_of_ble_eq_true rfl)⟩ dX7_tests_58 ?_
            dsimp only [jrepl, List.set, jstk]
            refine j_dup2 hC dX7_tests_61 rfl rfl ?_
            refine j_ildN hC (m := 1 + 9 * i + 7) 0 1 rfl rfl rfl (by omega) dX7_tests_62 ?_
            refine j_iload hC dX7_tests_63 rfl ?_
            refine j_iadd hC dX7_tests_65 ?_
            refine j_st_7_1 (bi := 0) (m := 1 + 9 * i + 7) hC rfl rfl (by omega) dX7_tests_66 (fun A_66 hA_66 hK_66 => ?_)
            dsimp only [List.set]
            have hl66 := burn_1 hli hv hA_66
            refine j_aload_n hC dX7_tests_67 rfl rfl ?_
            refine j_get hC uX7 0 0 0 rfl rfl k724 rfl dX7_tests_68 ?_
            refine j_aload_n hC dX7_tests_71 rfl rfl ?_
            refine j_iload_n hC dX7_tests_72 rfl rfl ?_
            refine j_bipush hC (6) dX7_tests_73 (by decide) ?_
            refine j_callVR hC [0] (c_X7_at g _ _ _ _ 6 _ _ h3 hi10 (by decide) (by decide)) mX7_at k799 rfl rfl rfl rfl rfl ⟨(Nat.le_of_ble_eq_true rfl), (Nat.le_of_ble_eq_true rfl)⟩ (Nat.le_of_ble_eq_true rfl) ⟨(Nat.le_of_ble_eq_true rfl), (Nat.le_of_ble_eq_true rfl)⟩ dX7_tests_75 ?_
            dsimp only [jrepl, List.set, jstk]
            refine j_dup2 hC dX7_tests_78 rfl rfl ?_
            refine j_ildN hC (m := 1 + 9 * i + 6) 0 1 rfl rfl rfl (by omega) dX7_tests_79 ?_
            refine j_bipush hC (24) dX7_tests_80 (by decide) ?_
            refine j_iload hC dX7_tests_82 rfl ?_
            refine j_imul hC dX7_tests_84 ?_
            refine j_isub hC dX7_tests_85 ?_
            refine j_st_7_1 (bi := 0) (m := 1 + 9 * i + 6) hC rfl rfl (by omega) dX7_tests_86 (fun A_86 hA_86 hK_86 => ?_)
            dsimp only [List.set]
            have hl86 := burn_2 (lok_wf hli) hl66 hv hA_86
            refine j_aload_n hC dX7_tests_87 rfl rfl ?_
            refine j_get hC uX7 0 0 0 rfl rfl k724 rfl dX7_tests_88 ?_
            refine j_aload_n hC dX7_tests_91 rfl rfl ?_
            refine j_iload_n hC dX7_tests_92 rfl rfl ?_
            refine j_bipush hC (8) dX7_tests_93 (by decide) ?_
            refine j_callVR hC [0] (c_X7_at g _ _ _ _ 8 _ _ h3 hi10 (by decide) (by decide)) mX7_at k799 rfl rfl rfl rfl rfl ⟨(Nat.le_of_ble_eq_true rfl), (Nat.le_of_ble_eq_true rfl)⟩ (Nat.le_of_ble_eq_true rfl) ⟨(Nat.le_of_ble_eq_true rfl), (Nat.le_of_ble_eq_true rfl)⟩ dX7_tests_95 ?_
            dsimp only [jrepl, List.set, jstk]
            refine j_iload hC dX7_tests_98 rfl ?_
            refine j_st_7_1 (bi := 0) (m := 1 + 9 * i + 8) hC rfl rfl (by omega) dX7_tests_100 (fun A_100 hA_100 hK_100 => ?_)
            dsimp only [List.set]
            have hl100 : lok 5400 (A_100 1) i (upd (burnL0 (LI S i)) 8 v_48) := lok_set hl86 hA_100 (by decide) (by decide) (by decide) hl86.2.2.1
            refine j_aload_n hC dX7_tests_101 rfl rfl ?_
            refine j_iload_n hC dX7_tests_102 rfl rfl ?_
            refine j_iconst hC (5) dX7_tests_103 (by decide) ?_
            refine j_aload_n hC dX7_tests_104 rfl rfl ?_
            refine j_iload_n hC dX7_tests_105 rfl rfl ?_
            refine j_iconst hC (2) dX7_tests_106 (by decide) ?_
            refine j_callVR hC [0] (c_X7_of g _ _ _ _ 2 _ _ h3 hi10 (by decide) (by decide)) mX7_of k811 rfl rfl rfl rfl rfl ⟨(Nat.le_of_ble_eq_true rfl), (Nat.le_of_ble_eq_true rfl)⟩ (Nat.le_of_ble_eq_true rfl) ⟨(Nat.le_of_ble_eq_true rfl), (Nat.le_of_ble_eq_true rfl)⟩ dX7_tests_107 ?_
            dsimp only [jrepl, List.set, jstk]
            refine j_isub hC dX7_tests_110 ?_
            rw [hl100.1 2 (by decide) (by decide), show (5 : Int32) - upd (burnL0 (LI S i)) 8 v_48 2 = wearOf (LI S i 2) from wear_5 hli.2.2.1.2.1]
            refine j_callV hC [0] (c_X7_wears g _ _ _ _ _ _ _ _ h3 hi10 hl100 wear_r) mX7_wears k923 rfl rfl rfl rfl rfl ⟨(Nat.le_of_ble_eq_true rfl), (Nat.le_of_ble_eq_true rfl)⟩ (Nat.le_of_ble_eq_true rfl) ⟨(Nat.le_of_ble_eq_true rfl), (Nat.le_of_ble_eq_true rfl)⟩ dX7_tests_111 (fun r_111 b_111 hp_111 _ => ?_)
            obtain ⟨rfl, A_111, rfl, hK_111, hL_111, hF_111⟩ := hp_111
            dsimp only [jrepl, List.set, jstk]
            have hPp : MP (A_111 1) (pmS S (bF s) (i + 1) (bHrs S) (bI s S i).1 (bI s S i).2) := MP_pm hPi hik (by rw [bF_b hbit]; exact lok_cg hL_111 (fun f _ => burn_cg hv f)) (pfr_tr (pfr_upd (pfr_upd (pfr_upd pfr_refl hA_66 (by decide)) hA_86 (by decide)) hA_100 (by decide)) hF_111)
            refine j_iload_n hC dX7_tests_114 rfl rfl ?_
            refine j_iload hC dX7_tests_115 rfl ?_
            refine j_iload hC dX7_tests_117 rfl ?_
            refine j_icmp_ne hC dX7_tests_119 (tgt := 126) (by decide) (fun c_119 => ?_) (fun c_119 => ?_)
            · skip
              refine j_iconst hC (0) dX7_tests_126 (by decide) ?_
              refine j_iadd hC dX7_tests_127 ?_
              refine j_istore_n hC dX7_tests_128 rfl rfl rfl rfl (fun v_128 e_128 => ?_)
              refine j_aload_n hC dX7_tests_129 rfl rfl ?_
              refine j_get hC uX7 0 0 0 rfl rfl k724 rfl dX7_tests_130 ?_
              refine j_iload hC dX7_tests_133 rfl ?_
              refine j_iload hC dX7_tests_135 rfl ?_
              refine j_icmp_ne hC dX7_tests_137 (tgt := 145) (by decide) (fun c_137 => ?_) (fun c_137 => ?_)
              · skip
                refine j_bipush hC (110) dX7_tests_145 (by decide) ?_
                refine j_dup2 hC dX7_tests_147 rfl rfl ?_
                refine j_ildN hC (m := 110) 0 1 rfl rfl (by decide) (by decide) dX7_tests_148 ?_
                refine j_iconst hC (1) dX7_tests_149 (by decide) ?_
                refine j_iadd hC dX7_tests_150 ?_
                refine j_st_7_1 (bi := 0) (m := 110) hC rfl (by decide) (by decide) dX7_tests_151 (fun A_151 hA_151 hK_151 => ?_)
                dsimp only [List.set]
                refine j_iinc hC (1) dX7_tests_152 rfl rfl rfl rfl rfl (fun v_152 e_152 => ?_)
                refine j_goto hC dX7_tests_155 (tgt := 4) (by decide) ?_
                refine j_pick [0, 1, 2, 3] ?_
                first | exact ih_4 (i + 1) _ _ _ (by omega) (by omega) (by rw [e_128, bI_b hbit (show burnMin (LI S i) = rated (LI S i 2) from (by rw [← hv, ← show v_26 = rated (LI S i 2) from e_26]; first | exact c_119 | exact Decidable.not_not.mp c_119)), h2]; exact sub_p1.symm) (jsucc e_152 h3) (TS_b hPp hbit (show burnMin (LI S i) = rated (LI S i 2) from (by rw [← hv, ← show v_26 = rated (LI S i 2) from e_26]; first | exact c_119 | exact Decidable.not_not.mp c_119)) hA_151) (fun q hq => (hK_151 q hq).trans ((hK_111 q hq).trans ((hK_100 q hq).trans ((hK_86 q hq).trans ((hK_66 q hq).trans (hK q hq)))))) (fun q q1 q2 => by rw [hA_151, pk_un (by omega), hF_111 q (by omega), hA_100, pk_un (by omega), hA_86, pk_un (by omega), hA_66, pk_un (by omega)]; exact hT q q1 q2) | exact ih_4 (i + 1) _ _ _ (by omega) (by omega) (by rw [e_128, bI_c hbit (show ¬ burnMin (LI S i) = rated (LI S i 2) from (by rw [← hv, ← show v_26 = rated (LI S i 2) from e_26]; exact c_119)), h2, Int32.add_zero]) (jsucc e_152 h3) (TS_c hPp hbit (show ¬ burnMin (LI S i) = rated (LI S i 2) from (by rw [← hv, ← show v_26 = rated (LI S i 2) from e_26]; exact c_119)) hA_151) (fun q hq => (hK_151 q hq).trans ((hK_111 q hq).trans ((hK_100 q hq).trans ((hK_86 q hq).trans ((hK_66 q hq).trans (hK q hq)))))) (fun q q1 q2 => by rw [hA_151, pk_un (by omega), hF_111 q (by omega), hA_100, pk_un (by omega), hA_86, pk_un (by omega), hA_66, pk_un (by omega)]; exact hT q q1 q2) | exact absurd c_119 c_137 | exact absurd c_137 c_119 | exact ih_4 (i + 1) _ _ _ (by omega) (by omega) (by rw [bI_a (by rw [← h3]; exact c_18)]; exact h2) (jsucc e_152 h3) (by rw [TS_a hik (by rw [← h3]; exact c_18)]; exact hPi) hK hT
              · skip
                refine j_bipush hC (109) dX7_tests_140 (by decide) ?_
                refine j_goto hC dX7_tests_142 (tgt := 147) (by decide) ?_
                refine j_dup2 hC dX7_tests_147 rfl rfl ?_
                refine j_ildN hC (m := 109) 0 1 rfl rfl (by decide) (by decide) dX7_tests_148 ?_
                refine j_iconst hC (1) dX7_tests_149 (by decide) ?_
                refine j_iadd hC dX7_tests_150 ?_
                refine j_st_7_1 (bi := 0) (m := 109) hC rfl (by decide) (by decide) dX7_tests_151 (fun A_151 hA_151 hK_151 => ?_)
                dsimp only [List.set]
                refine j_iinc hC (1) dX7_tests_152 rfl rfl rfl rfl rfl (fun v_152 e_152 => ?_)
                refine j_goto hC dX7_tests_155 (tgt := 4) (by decide) ?_
                refine j_pick [0, 1, 2, 3] ?_
                first | exact ih_4 (i + 1) _ _ _ (by omega) (by omega) (by rw [e_128, bI_b hbit (show burnMin (LI S i) = rated (LI S i 2) from (by rw [← hv, ← show v_26 = rated (LI S i 2) from e_26]; first | exact c_119 | exact Decidable.not_not.mp c_119)), h2]; exact sub_p1.symm) (jsucc e_152 h3) (TS_b hPp hbit (show burnMin (LI S i) = rated (LI S i 2) from (by rw [← hv, ← show v_26 = rated (LI S i 2) from e_26]; first | exact c_119 | exact Decidable.not_not.mp c_119)) hA_151) (fun q hq => (hK_151 q hq).trans ((hK_111 q hq).trans ((hK_100 q hq).trans ((hK_86 q hq).trans ((hK_66 q hq).trans (hK q hq)))))) (fun q q1 q2 => by rw [hA_151, pk_un (by omega), hF_111 q (by omega), hA_100, pk_un (by omega), hA_86, pk_un (by omega), hA_66, pk_un (by omega)]; exact hT q q1 q2) | exact ih_4 (i + 1) _ _ _ (by omega) (by omega) (by rw [e_128, bI_c hbit (show ¬ burnMin (LI S i) = rated (LI S i 2) from (by rw [← hv, ← show v_26 = rated (LI S i 2) from e_26]; exact c_119)), h2, Int32.add_zero]) (jsucc e_152 h3) (TS_c hPp hbit (show ¬ burnMin (LI S i) = rated (LI S i 2) from (by rw [← hv, ← show v_26 = rated (LI S i 2) from e_26]; exact c_119)) hA_151) (fun q hq => (hK_151 q hq).trans ((hK_111 q hq).trans ((hK_100 q hq).trans ((hK_86 q hq).trans ((hK_66 q hq).trans (hK q hq)))))) (fun q q1 q2 => by rw [hA_151, pk_un (by omega), hF_111 q (by omega), hA_100, pk_un (by omega), hA_86, pk_un (by omega), hA_66, pk_un (by omega)]; exact hT q q1 q2) | exact absurd c_119 c_137 | exact absurd c_137 c_119 | exact ih_4 (i + 1) _ _ _ (by omega) (by omega) (by rw [bI_a (by rw [← h3]; exact c_18)]; exact h2) (jsucc e_152 h3) (by rw [TS_a hik (by rw [← h3]; exact c_18)]; exact hPi) hK hT
            · skip
              refine j_iconst hC (1) dX7_tests_122 (by decide) ?_
              refine j_goto hC dX7_tests_123 (tgt := 127) (by decide) ?_
              refine j_iadd hC dX7_tests_127 ?_
              refine j_istore_n hC dX7_tests_128 rfl rfl rfl rfl (fun v_128 e_128 => ?_)
              refine j_aload_n hC dX7_tests_129 rfl rfl ?_
              refine j_get hC uX7 0 0 0 rfl rfl k724 rfl dX7_tests_130 ?_
              refine j_iload hC dX7_tests_133 rfl ?_
              refine j_iload hC dX7_tests_135 rfl ?_
              refine j_icmp_ne hC dX7_tests_137 (tgt := 145) (by decide) (fun c_137 => ?_) (fun c_137 => ?_)
              · skip
                refine j_bipush hC (110) dX7_tests_145 (by decide) ?_
                refine j_dup2 hC dX7_tests_147 rfl rfl ?_
                refine j_ildN hC (m := 110) 0 1 rfl rfl (by decide) (by decide) dX7_tests_148 ?_
                refine j_iconst hC (1) dX7_tests_149 (by decide) ?_
                refine j_iadd hC dX7_tests_150 ?_
                refine j_st_7_1 (bi := 0) (m := 110) hC rfl (by decide) (by decide) dX7_tests_151 (fun A_151 hA_151 hK_151 => ?_)
                dsimp only [List.set]
                refine j_iinc hC (1) dX7_tests_152 rfl rfl rfl rfl rfl (fun v_152 e_152 => ?_)
                refine j_goto hC dX7_tests_155 (tgt := 4) (by decide) ?_
                refine j_pick [0, 1, 2, 3] ?_
                first | exact ih_4 (i + 1) _ _ _ (by omega) (by omega) (by rw [e_128, bI_b hbit (show burnMin (LI S i) = rated (LI S i 2) from (by rw [← hv, ← show v_26 = rated (LI S i 2) from e_26]; first | exact c_119 | exact Decidable.not_not.mp c_119)), h2]; exact sub_p1.symm) (jsucc e_152 h3) (TS_b hPp hbit (show burnMin (LI S i) = rated (LI S i 2) from (by rw [← hv, ← show v_26 = rated (LI S i 2) from e_26]; first | exact c_119 | exact Decidable.not_not.mp c_119)) hA_151) (fun q hq => (hK_151 q hq).trans ((hK_111 q hq).trans ((hK_100 q hq).trans ((hK_86 q hq).trans ((hK_66 q hq).trans (hK q hq)))))) (fun q q1 q2 => by rw [hA_151, pk_un (by omega), hF_111 q (by omega), hA_100, pk_un (by omega), hA_86, pk_un (by omega), hA_66, pk_un (by omega)]; exact hT q q1 q2) | exact ih_4 (i + 1) _ _ _ (by omega) (by omega) (by rw [e_128, bI_c hbit (show ¬ burnMin (LI S i) = rated (LI S i 2) from (by rw [← hv, ← show v_26 = rated (LI S i 2) from e_26]; exact c_119)), h2, Int32.add_zero]) (jsucc e_152 h3) (TS_c hPp hbit (show ¬ burnMin (LI S i) = rated (LI S i 2) from (by rw [← hv, ← show v_26 = rated (LI S i 2) from e_26]; exact c_119)) hA_151) (fun q hq => (hK_151 q hq).trans ((hK_111 q hq).trans ((hK_100 q hq).trans ((hK_86 q hq).trans ((hK_66 q hq).trans (hK q hq)))))) (fun q q1 q2 => by rw [hA_151, pk_un (by omega), hF_111 q (by omega), hA_100, pk_un (by omega), hA_86, pk_un (by omega), hA_66, pk_un (by omega)]; exact hT q q1 q2) | exact absurd c_119 c_137 | exact absurd c_137 c_119 | exact ih_4 (i + 1) _ _ _ (by omega) (by omega) (by rw [bI_a (by rw [← h3]; exact c_18)]; exact h2) (jsucc e_152 h3) (by rw [TS_a hik (by rw [← h3]; exact c_18)]; exact hPi) hK hT
              · skip
                refine j_bipush hC (109) dX7_tests_140 (by decide) ?_
                refine j_goto hC dX7_tests_142 (tgt := 147) (by decide) ?_
                refine j_dup2 hC dX7_tests_147 rfl rfl ?_
                refine j_ildN hC (m := 109) 0 1 rfl rfl (by decide) (by decide) dX7_tests_148 ?_
                refine j_iconst hC (1) dX7_tests_149 (by decide) ?_
                refine j_iadd hC dX7_tests_150 ?_
                refine j_st_7_1 (bi := 0) (m := 109) hC rfl (by decide) (by decide) dX7_tests_151 (fun A_151 hA_151 hK_151 => ?_)
                dsimp only [List.set]
                refine j_iinc hC (1) dX7_tests_152 rfl rfl rfl rfl rfl (fun v_152 e_152 => ?_)
                refine j_goto hC dX7_tests_155 (tgt := 4) (by decide) ?_
                refine j_pick [0, 1, 2, 3] ?_
                first | exact ih_4 (i + 1) _ _ _ (by omega) (by omega) (by rw [e_128, bI_b hbit (show burnMin (LI S i) = rated (LI S i 2) from (by rw [← hv, ← show v_26 = rated (LI S i 2) from e_26]; first | exact c_119 | exact Decidable.not_not.mp c_119)), h2]; exact sub_p1.symm) (jsucc e_152 h3) (TS_b hPp hbit (show burnMin (LI S i) = rated (LI S i 2) from (by rw [← hv, ← show v_26 = rated (LI S i 2) from e_26]; first | exact c_119 | exact Decidable.not_not.mp c_119)) hA_151) (fun q hq => (hK_151 q hq).trans ((hK_111 q hq).trans ((hK_100 q hq).trans ((hK_86 q hq).trans ((hK_66 q hq).trans (hK q hq)))))) (fun q q1 q2 => by rw [hA_151, pk_un (by omega), hF_111 q (by omega), hA_100, pk_un (by omega), hA_86, pk_un (by omega), hA_66, pk_un (by omega)]; exact hT q q1 q2) | exact ih_4 (i + 1) _ _ _ (by omega) (by omega) (by rw [e_128, bI_c hbit (show ¬ burnMin (LI S i) = rated (LI S i 2) from (by rw [← hv, ← show v_26 = rated (LI S i 2) from e_26]; exact c_119)), h2, Int32.add_zero]) (jsucc e_152 h3) (TS_c hPp hbit (show ¬ burnMin (LI S i) = rated (LI S i 2) from (by rw [← hv, ← show v_26 = rated (LI S i 2) from e_26]; exact c_119)) hA_151) (fun q hq => (hK_151 q hq).trans ((hK_111 q hq).trans ((hK_100 q hq).trans ((hK_86 q hq).trans ((hK_66 q hq).trans (hK q hq)))))) (fun q q1 q2 => by rw [hA_151, pk_un (by omega), hF_111 q (by omega), hA_100, pk_un (by omega), hA_86, pk_un (by omega), hA_66, pk_un (by omega)]; exact hT q q1 q2) | exact absurd c_119 c_137 | exact absurd c_137 c_119 | exact ih_4 (i + 1) _ _ _ (by omega) (by omega) (by rw [bI_a (by rw [← h3]; exact c_18)]; exact h2) (jsucc e_152 h3) (by rw [TS_a hik (by rw [← h3]; exact c_18)]; exact hPi) hK hT
  refine j_pick [0, 1, 2, 3] ?_
  exact L_4 ((bLs S).length + 1) 0 _ _ _ (by omega) (by omega) (e_1.trans (Int32.sub_self (bPa S)).symm) (e_3.trans nI_0.symm) (by rw [TS_0]; exact hp) (fun _ _ => rfl) (fun _ _ _ => rfl)
set_option maxHeartbeats 1000000 in
set_option maxRecDepth 100000 in
theorem c_X7_test (g : jG) (d : Nat → Nat) (T : St3) (b : List va_W) (s f : Int32) (h : MW g d T b) : Con g yX7_test cX7_test 3 (some .int) 7 156 0 0 [.ref (d 0), .int s, .int f] b (fun rr bb => rr = some (.int (oTest T s f).1) ∧ MW g d (oTest T s f).2 bb) := by
  obtain ⟨I, A, rfl, hMI⟩ := h
  obtain ⟨hm1, hmp, hmh, hmt⟩ := id hMI
  obtain ⟨⟨hq0, hk10⟩, hql, ⟨hq91, hn6⟩, hqr, ⟨hq4, hnd⟩, ⟨hq5, hqh⟩, ⟨hq6, hqs⟩, hq9, hq10⟩ := id hmp
  refine Con.of (own := RX7) (lv := [(0, .ref (d 0)), (1, .int s), (2, .int f)]) (by decide) rfl (Nat.le_of_ble_eq_true rfl) rfl ?_
  intro E hC hQ hN
  refine j_aload_n hC dX7_test_0 rfl rfl ?_
  refine j_iload_n hC dX7_test_1 rfl rfl ?_
  refine j_callVR hC [0] (c_X7_isSet g _ _ _ T.1 _ hmp) mX7_isSet k943 rfl rfl rfl rfl rfl ⟨(Nat.le_of_ble_eq_true rfl), (Nat.le_of_ble_eq_true rfl)⟩ (Nat.le_of_ble_eq_true rfl) ⟨(Nat.le_of_ble_eq_true rfl), (Nat.le_of_ble_eq_true rfl)⟩ dX7_test_2 ?_
  dsimp only [jrepl, List.set, jstk]
  refine j_if_eq hC dX7_test_5 (tgt := 12) (by decide) (fun c_5 => ?_) (fun c_5 => ?_)
  · skip
    refine j_iconst hC (-1) dX7_test_12 (by decide) ?_
    refine j_iret hC hQ rfl rfl (Nat.le_of_ble_eq_true rfl) (Nat.le_of_ble_eq_true rfl) dX7_test_13 rfl ?_
    first | exact mw_o (T := T) (by unfold oTest; rw [if_pos (Or.inr (jb0 c_5))]) hMI | exact mw_o (T := T) (by unfold oTest; rw [if_pos (Or.inl c_9)]) hMI
  · skip
    refine j_iload_n hC dX7_test_8 rfl rfl ?_
    refine j_if_ne hC dX7_test_9 (tgt := 14) (by decide) (fun c_9 => ?_) (fun c_9 => ?_)
    · skip
      refine j_aload_n hC dX7_test_14 rfl rfl ?_
      refine j_callV hC [0] (c_X7_laysPlaces g _ _ _ T.1 hmp) mX7_laysPlaces k947 rfl rfl rfl rfl rfl ⟨(Nat.le_of_ble_eq_true rfl), (Nat.le_of_ble_eq_true rfl)⟩ (Nat.le_of_ble_eq_true rfl) ⟨(Nat.le_of_ble_eq_true rfl), (Nat.le_of_ble_eq_true rfl)⟩ dX7_test_15 (fun r_15 b_15 hp_15 _ => ?_)
      obtain ⟨rfl, A_15, rfl, hK_15, hL_15⟩ := hp_15
      have hM_15 : MI I A_15 T := mi_oth hMI (hK_15 1 (by decide) (by decide)) (hK_15 2 (by decide) (by decide))
      have hP_15 := hM_15.2.1
      dsimp only [jrepl, List.set, jstk]
      refine j_iload_n hC dX7_test_18 rfl rfl ?_
      refine j_if_ne hC dX7_test_19 (tgt := 33) (by decide) (fun c_19 => ?_) (fun c_19 => ?_)
      · skip
        have hnb : ¬ (f = 0 ∧ ¬ alw T.1 s = true) := by first | exact and_a c_19 | exact and_b (jb1 c_27)
        refine j_aload_n hC dX7_test_33 rfl rfl ?_
        refine j_callV hC [0] (c_X7_records g _ _ _ T hM_15) mX7_records k791 rfl rfl rfl rfl rfl ⟨(Nat.le_of_ble_eq_true rfl), (Nat.le_of_ble_eq_true rfl)⟩ (Nat.le_of_ble_eq_true rfl) ⟨(Nat.le_of_ble_eq_true rfl), (Nat.le_of_ble_eq_true rfl)⟩ dX7_test_34 (fun r_34 b_34 hp_34 _ => ?_)
        obtain ⟨rfl, I_34, A_34, rfl, hR_34⟩ := hp_34
        have hP_34 : MP (A_34 1) T.1 := hR_34.2.1
        dsimp only [jrepl, List.set, jstk]
        refine j_aload_n hC dX7_test_37 rfl rfl ?_
        refine j_iload_n hC dX7_test_38 rfl rfl ?_
        refine j_callV hC [0] (c_X7_tests g _ _ _ T.1 _ hP_34) mX7_tests k967 rfl rfl rfl rfl rfl ⟨(Nat.le_of_ble_eq_true rfl), (Nat.le_of_ble_eq_true rfl)⟩ (Nat.le_of_ble_eq_true rfl) ⟨(Nat.le_of_ble_eq_true rfl), (Nat.le_of_ble_eq_true rfl)⟩ dX7_test_39 (fun r_39 b_39 hp_39 _ => ?_)
        obtain ⟨rfl, A_39, rfl, hK_39, hT_39, hP_39⟩ := hp_39
        dsimp only [jrepl, List.set, jstk]
        refine j_iret hC hQ rfl rfl (Nat.le_of_ble_eq_true rfl) (Nat.le_of_ble_eq_true rfl) dX7_test_42 rfl ?_
        exact mw_o (by unfold oTest; rw [if_neg (fun q => q.elim c_9 (fun w => w (jb1 c_5))), if_neg hnb]; rfl) (mi_set hR_34 hK_39 hT_39 hP_39)
      · skip
        refine j_aload_n hC dX7_test_22 rfl rfl ?_
        refine j_iload_n hC dX7_test_23 rfl rfl ?_
        refine j_callVR hC [0] (c_X7_isAllowed g _ _ _ T.1 _ hP_15 hL_15) mX7_isAllowed k959 rfl rfl rfl rfl rfl ⟨(Nat.le_of_ble_eq_true rfl), (Nat.le_of_ble_eq_true rfl)⟩ (Nat.le_of_ble_eq_true rfl) ⟨(Nat.le_of_ble_eq_true rfl), (Nat.le_of_ble_eq_true rfl)⟩ dX7_test_24 ?_
        dsimp only [jrepl, List.set, jstk]
        refine j_if_ne hC dX7_test_27 (tgt := 33) (by decide) (fun c_27 => ?_) (fun c_27 => ?_)
        · skip
          have hnb : ¬ (f = 0 ∧ ¬ alw T.1 s = true) := by first | exact and_a c_19 | exact and_b (jb1 c_27)
          refine j_aload_n hC dX7_test_33 rfl rfl ?_
          refine j_callV hC [0] (c_X7_records g _ _ _ T hM_15) mX7_records k791 rfl rfl rfl rfl rfl ⟨(Nat.le_of_ble_eq_true rfl), (Nat.le_of_ble_eq_true rfl)⟩ (Nat.le_of_ble_eq_true rfl) ⟨(Nat.le_of_ble_eq_true rfl), (Nat.le_of_ble_eq_true rfl)⟩ dX7_test_34 (fun r_34 b_34 hp_34 _ => ?_)
          obtain ⟨rfl, I_34, A_34, rfl, hR_34⟩ := hp_34
          have hP_34 : MP (A_34 1) T.1 := hR_34.2.1
          dsimp only [jrepl, List.set, jstk]
          refine j_aload_n hC dX7_test_37 rfl rfl ?_
          refine j_iload_n hC dX7_test_38 rfl rfl ?_
          refine j_callV hC [0] (c_X7_tests g _ _ _ T.1 _ hP_34) mX7_tests k967 rfl rfl rfl rfl rfl ⟨(Nat.le_of_ble_eq_true rfl), (Nat.le_of_ble_eq_true rfl)⟩ (Nat.le_of_ble_eq_true rfl) ⟨(Nat.le_of_ble_eq_true rfl), (Nat.le_of_ble_eq_true rfl)⟩ dX7_test_39 (fun r_39 b_39 hp_39 _ => ?_)
          obtain ⟨rfl, A_39, rfl, hK_39, hT_39, hP_39⟩ := hp_39
          dsimp only [jrepl, List.set, jstk]
          refine j_iret hC hQ rfl rfl (Nat.le_of_ble_eq_true rfl) (Nat.le_of_ble_eq_true rfl) dX7_test_42 rfl ?_
          exact mw_o (by unfold oTest; rw [if_neg (fun q => q.elim c_9 (fun w => w (jb1 c_5))), if_neg hnb]; rfl) (mi_set hR_34 hK_39 hT_39 hP_39)
        · skip
          refine j_bipush hC (-2) dX7_test_30 (by decide) ?_
          refine j_iret hC hQ rfl rfl (Nat.le_of_ble_eq_true rfl) (Nat.le_of_ble_eq_true rfl) dX7_test_32 rfl ?_
          exact mw_o (T := T) (by unfold oTest; rw [if_neg (fun q => q.elim c_9 (fun w => w (jb1 c_5))), if_pos ⟨c_19, jb0 c_27⟩]) hM_15
    · skip
      refine j_iconst hC (-1) dX7_test_12 (by decide) ?_
      refine j_iret hC hQ rfl rfl (Nat.le_of_ble_eq_true rfl) (Nat.le_of_ble_eq_true rfl) dX7_test_13 rfl ?_
      first | exact mw_o (T := T) (by unfold oTest; rw [if_pos (Or.inr (jb0 c_5))]) hMI | exact mw_o (T := T) (by unfold oTest; rw [if_pos (Or.inl c_9)]) hMI
