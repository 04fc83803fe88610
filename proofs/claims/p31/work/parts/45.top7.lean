/-! carrying out a plan -/
def coS (S : BS) (i : Nat) : BS := jiter (fun t U => pasS 24 (burS (onV S (nI t)) U)) S i
theorem co_hrs {S : BS} {hn : Nat} (h : bHrs S = nI hn) : ∀ i, bHrs (coS S i) = nI (hn + 24 * i)
  | 0 => h
  | i + 1 => by
    have e : bHrs (coS S (i + 1)) = bHrs (coS S i) + 24 := rfl
    rw [e, co_hrs h i, show hn + 24 * (i + 1) = hn + 24 * i + 24 by omega]
    apply Int32.toBitVec_inj.mp
    simp [nI, BitVec.ofNat_add]
def oCarryOut (T : St3) : Int32 × St3 := if (bLs T.1).length = 0 then (-1, T) else if dysV T.1 = -9 then (-2, T) else if bHrs T.1 + 24 * dysV T.1 ≤ 100000 then (bFa (coS T.1 (dysN T.1)) - bFa T.1, oPush T (coS T.1 (dysN T.1))) else (-3, T)
theorem isB_pas {d : Nat → Nat} {I I1 : jF} {A : Nat → jF} {X Y : List (Nat × jF)} {S : BS} {x : Int32} (h : isB (d, I, A, X) S) (hI : ∀ f, f ≠ 6 → I1 f = I f) (hI6 : I1 6 = I 6 + x) (hY2 : Y.length = X.length) (hY3 : ∀ j, j < (bLs S).length → jL Y j = pasL (I 6) x (jL X j)) : isB (d, I1, A, Y) (pasS x S) :=
  isB_map h (fun q w _ _ => hI q w) (hI6.trans (congrArg (fun z => z + x) h.2.2.2.2.1)) ((hI 8 (by decide)).trans h.2.2.2.2.2.2.1) ((hI 9 (by decide)).trans h.2.2.2.2.2.2.2) hY2 (fun j hj => by rw [hY3 j hj, show I 6 = bHrs S from h.2.2.2.2.1]) (fun j L => by show pasL _ _ _ 4 = _; unfold pasL; rw [lhp_4, strL_4])
theorem dys_lt {S : BS} (h : ¬ dysV S = -9) : dysN S < 99 := by
  rcases Nat.lt_or_ge (dysN S) 99 with w | w
  · exact w
  · exact absurd (if_neg (by omega)) h
theorem co_max {S : BS} {hn D : Nat} (h : bHrs S = nI hn) (hn5 : hn ≤ 100000) (hD : D ≤ 10) (c : bHrs S + 24 * nI D ≤ 100000) : hn + 24 * D ≤ 100000 := by
  have e : bHrs S + 24 * nI D = nI (hn + 24 * D) := by
    rw [h]
    apply Int32.toBitVec_inj.mp
    simp [nI, BitVec.ofNat_add, BitVec.ofNat_mul]
  rw [e] at c
  exact (nI_leI (b := 100000) (by omega) (by decide)).mp c
set_option maxHeartbeats 1000000 in
set_option maxRecDepth 100000 in
theorem c_X6_carryOut (g : jG) (a : Nat) (T : St3) (b : List va_W) (h : CW g a T b) (hw : rswf (bRs T.1)) (nh : ∃ n : Nat, bHrs T.1 = nI n ∧ n ≤ 100000) : Con g yX6_carryOut cX6_carryOut 4 (some .int) 7 144 15 125 [.ref a] b (fun rr bb => rr = some (.int (oCarryOut T).1) ∧ CW g a (oCarryOut T).2 bb) := by
  obtain ⟨dt, dn, du, dh, dr, dp, It, ft, In, An, Xn, Iu, Au, Xu, Ih, K, Ar, Ip, Ap, rfl, hCI⟩ := h
  obtain ⟨hB, hu, hH, hT, hp2, hp0, hpl⟩ := id hCI
  obtain ⟨⟨hg1, hg2, hg3, hg4⟩, hb2, hb3, hb5, hb6, hb7, hb8, hb9⟩ := id hB
  have hg1 : bok In Xn (bLs T.1).length := hg1
  have hg2 : In 4 = nI (bRs T.1).length := hg2
  have hb5 : In 5 = bNeed T.1 := hb5
  have hk10 : (bLs T.1).length ≤ 10 := Nat.le_trans hg1.2.1 hg1.2.2
  refine Con.of (own := RX6) (lv := [(0, .ref a)]) (by decide) rfl (Nat.le_of_ble_eq_true rfl) rfl ?_
  intro E hC hQ hN
  refine j_aload_n hC dX6_carryOut_0 rfl rfl ?_
  refine j_get hC uX6 0 0 1 rfl rfl k143 rfl dX6_carryOut_1 ?_
  refine j_get hC uX0 2 0 1 rfl rfl k52 rfl dX6_carryOut_4 ?_
  refine j_if_ne hC dX6_carryOut_7 (tgt := 12) (by decide) (fun c_7 => ?_) (fun c_7 => ?_)
  · skip
    have hk0 : ¬ (bLs T.1).length = 0 := fun q => c_7 (by rw [hg1.1, q]; exact nI_0)
    refine j_aload_n hC dX6_carryOut_12 rfl rfl ?_
    refine j_get hC uX6 0 0 5 rfl rfl k147 rfl dX6_carryOut_13 ?_
    refine j_aload_n hC dX6_carryOut_16 rfl rfl ?_
    refine j_get hC uX6 0 0 1 rfl rfl k143 rfl dX6_carryOut_17 ?_
    refine j_aload_n hC dX6_carryOut_20 rfl rfl ?_
    refine j_get hC uX6 0 0 4 rfl rfl k146 rfl dX6_carryOut_21 ?_
    refine j_callV hC [9, 2, 3, 8] (c_X3_follow g _ _ _ _ _ _ _ _ _ _ (bRs T.1).length (raS T.1) (rbS T.1) hg1 hg2 hg3 (isB_rok hB hw)) mX3_follow k430 rfl rfl rfl rfl rfl ⟨(Nat.le_of_ble_eq_true rfl), (Nat.le_of_ble_eq_true rfl)⟩ (Nat.le_of_ble_eq_true rfl) ⟨(Nat.le_of_ble_eq_true rfl), (Nat.le_of_ble_eq_true rfl)⟩ dX6_carryOut_24 (fun r_24 b_24 hp_24 _ => ?_)
    obtain ⟨rfl, hp_24⟩ := hp_24
    have hfin : ∃ (Ip1 : jF) (Ap1 Ar1 : Nat → jF), b_24 = [pcc g dp Ip1 Ap1, bc g dn In An (lrf Xn), lts Xn, rc g dr Ar1] ∧ CI dn In An Xn Xu It ft Ih K Ip1 Ap1 T ∧ planOk T.1 Ip1 Ap1 := by
      rcases hp_24 with ⟨w1, w2⟩ | ⟨w1, v, F2, A1, A4, w2, w3, w4, w5⟩
      · exact ⟨Ip, Ap, Ar, w2, hCI, hpl.elim (fun z => absurd z w1) id⟩
      · exact ⟨_, A1, A4, w2, follow_ci hCI hw w3 w4 w5⟩
    clear hp_24
    obtain ⟨Ip1, Ap1, Ar1, rfl, hCI1, hpk⟩ := hfin
    obtain ⟨hd2, hdn⟩ := plan_ans hCI1 hw hpk
    dsimp only [jrepl, List.set, jstk]
    refine j_aload_n hC dX6_carryOut_27 rfl rfl ?_
    refine j_get hC uX6 0 0 5 rfl rfl k147 rfl dX6_carryOut_28 ?_
    refine j_get hC uX3 9 0 2 rfl rfl k131 rfl dX6_carryOut_31 ?_
    refine j_istore_n hC dX6_carryOut_34 rfl rfl rfl rfl (fun v_34 e_34 => ?_)
    refine j_iload_n hC dX6_carryOut_35 rfl rfl ?_
    refine j_bipush hC (-9) dX6_carryOut_36 (by decide) ?_
    refine j_icmp_ne hC dX6_carryOut_38 (tgt := 44) (by decide) (fun c_38 => ?_) (fun c_38 => ?_)
    · skip
      refine j_aload_n hC dX6_carryOut_44 rfl rfl ?_
      refine j_get hC uX6 0 0 1 rfl rfl k143 rfl dX6_carryOut_45 ?_
      refine j_get hC uX0 2 0 6 rfl rfl k62 rfl dX6_carryOut_48 ?_
      refine j_bipush hC (24) dX6_carryOut_51 (by decide) ?_
      refine j_iload_n hC dX6_carryOut_53 rfl rfl ?_
      refine j_imul hC dX6_carryOut_54 ?_
      refine j_iadd hC dX6_carryOut_55 ?_
      refine j_ldc hC (100000) k379 dX6_carryOut_56 ?_
      refine j_icmp_le hC dX6_carryOut_58 (tgt := 64) (by decide) (fun c_58 => ?_) (fun c_58 => ?_)
      · skip
        obtain ⟨hn, hn1, hn2⟩ := nh
        have hDl : dysN T.1 < 99 := dys_lt (by rw [← hd2, ← e_34]; exact c_38)
        have hD10 := (hdn hDl).1
        have hvD : v_34 = nI (dysN T.1) := by rw [e_34, hd2]; exact if_pos hDl
        have hmx := co_max hn1 hn2 hD10 (by rw [← hvD, ← show In 6 = bHrs T.1 from hb6]; exact c_58)
        refine j_aload_n hC dX6_carryOut_64 rfl rfl ?_
        refine j_callV hC [0, 1, 2, 3, 4, 5, 6, 7, 8, 9] (c_X6_remember g _ _ _ _ _ _ _ _ _ _ _ _ _ _ _ _ _ _ _ _ T.1 T.2.1 hB hH) mX6_remember k219 rfl rfl rfl rfl rfl ⟨(Nat.le_of_ble_eq_true rfl), (Nat.le_of_ble_eq_true rfl)⟩ (Nat.le_of_ble_eq_true rfl) ⟨(Nat.le_of_ble_eq_true rfl), (Nat.le_of_ble_eq_true rfl)⟩ dX6_carryOut_65 (fun r_65 b_65 hp_65 _ => ?_)
        obtain ⟨rfl, Ih1, K1, rfl, hH1⟩ := hp_65
        dsimp only [jrepl, List.set, jstk]
        refine j_aload_n hC dX6_carryOut_68 rfl rfl ?_
        refine j_get hC uX6 0 0 1 rfl rfl k143 rfl dX6_carryOut_69 ?_
        refine j_get hC uX0 2 0 9 rfl rfl k67 rfl dX6_carryOut_72 ?_
        refine j_istore_n hC dX6_carryOut_75 rfl rfl rfl rfl (fun v_75 e_75 => ?_)
        refine j_iconst hC (0) dX6_carryOut_76 (by decide) ?_
        refine j_istore_n hC dX6_carryOut_77 rfl rfl rfl rfl (fun v_77 e_77 => ?_)
        have L_78 : ∀ (fu : Nat) (i : Nat) (x3 : Int32) (I1 : jF) (Y : List (Nat × jF)) (hfu : dysN T.1 + 1 ≤ i + fu) (hi : i ≤ dysN T.1) (h3 : x3 = nI i) (hBi : isB (dn, I1, An, Y) (coS T.1 i)), J g (jRm 7 144 15 125) E 4 78 [(0, .ref a), (1, .int v_34), (2, .int v_75), (3, .int x3)] [] [xo a dt dn du dh dr dp, tc g dt It ft, bc g dn I1 An (lrf Y), lts Y, bc g du Iu Au (lrf Xu), lts Xu, hc g dh Ih1 (kr K1), kb g K1, rc g dr Ar1, pcc g dp (upd Ip1 3 0) Ap1] (15) (125) := by
          intro fu
          induction fu with
          | zero => intro i x3 I1 Y hfu hi h3 hBi; exact absurd hfu (by omega)
          | succ fu ih_78 =>
            intro i x3 I1 Y hfu hi h3 hBi
            refine j_iload_n hC dX6_carryOut_78 rfl rfl ?_
            refine j_iload_n hC dX6_carryOut_79 rfl rfl ?_
            refine j_icmp_ge hC dX6_carryOut_80 (tgt := 113) (by decide) (fun c_80 => ?_) (fun c_80 => ?_)
            · skip
              have hik : i = dysN T.1 := Nat.le_antisymm hi (jge hvD h3 (by omega) (by omega) c_80)
              refine j_aload_n hC dX6_carryOut_113 rfl rfl ?_
              refine j_get hC uX6 0 0 1 rfl rfl k143 rfl dX6_carryOut_114 ?_
              refine j_get hC uX0 2 0 9 rfl rfl k67 rfl dX6_carryOut_117 ?_
              refine j_iload_n hC dX6_carryOut_120 rfl rfl ?_
              refine j_isub hC dX6_carryOut_121 ?_
              refine j_iret hC hQ rfl rfl (Nat.le_of_ble_eq_true rfl) (Nat.le_of_ble_eq_true rfl) dX6_carryOut_122 rfl ?_
              exact cw_o (T := oPush T (coS T.1 (dysN T.1))) (by unfold oCarryOut; rw [if_neg hk0, if_neg (by rw [← hd2, ← e_34]; exact c_38), if_pos (by rw [← hd2, ← e_34, ← show In 6 = bHrs T.1 from hb6]; exact c_58), e_75, ← hik]; exact congrArg (fun z => (z, _)) (by rw [show I1 9 = bFa (coS T.1 i) from hBi.2.2.2.2.2.2.2, show In 9 = bFa T.1 from hb9])) (CW.mk ⟨by rw [← hik]; exact hBi, hu, hH1, hT, hCI1.2.2.2.2.1, hCI1.2.2.2.2.2.1, Or.inl rfl⟩)
            · skip
              have hik : i < dysN T.1 := jlt hvD h3 (by omega) (by omega) c_80
              refine j_aload_n hC dX6_carryOut_83 rfl rfl ?_
              refine j_get hC uX6 0 0 1 rfl rfl k143 rfl dX6_carryOut_84 ?_
              refine j_aload_n hC dX6_carryOut_87 rfl rfl ?_
              refine j_get hC uX6 0 0 5 rfl rfl k147 rfl dX6_carryOut_88 ?_
              refine j_iload_n hC dX6_carryOut_91 rfl rfl ?_
              refine j_callVR hC [9] (c_X3_setOn g _ _ _ _) mX3_setOn k551 rfl rfl rfl rfl rfl ⟨(Nat.le_of_ble_eq_true rfl), (Nat.le_of_ble_eq_true rfl)⟩ (Nat.le_of_ble_eq_true rfl) ⟨(Nat.le_of_ble_eq_true rfl), (Nat.le_of_ble_eq_true rfl)⟩ dX6_carryOut_92 ?_
              dsimp only [jrepl, List.set, jstk]
              rw [soV_on (S := T.1) (show upd Ip1 3 0 2 = dysV T.1 from hd2) hdn, h3]
              refine j_callV hC [2, 3] (c_X0_burn g _ I1 An Y (bLs (coS T.1 i)).length _ hBi.1.1) mX0_burn k300 rfl rfl rfl rfl rfl ⟨(Nat.le_of_ble_eq_true rfl), (Nat.le_of_ble_eq_true rfl)⟩ (Nat.le_of_ble_eq_true rfl) ⟨(Nat.le_of_ble_eq_true rfl), (Nat.le_of_ble_eq_true rfl)⟩ dX6_carryOut_95 (fun r_95 b_95 hp_95 _ => ?_)
              obtain ⟨rfl, I2, rfl, hI89, hI⟩ := hp_95
              have hB2 := isB_bur hBi hI89 hI
              have hps := pas_lo (x := 24) (show I2 6 = nI (hn + 24 * i) from hB2.2.2.2.2.1.trans (co_hrs hn1 i)) (by omega) (by decide) (by decide)
              dsimp only [jrepl, List.set, jstk]
              refine j_aload_n hC dX6_carryOut_98 rfl rfl ?_
              refine j_get hC uX6 0 0 1 rfl rfl k143 rfl dX6_carryOut_99 ?_
              refine j_bipush hC (24) dX6_carryOut_102 (by decide) ?_
              refine j_callV hC [2, 3] (c_X0_letHoursPass g _ I2 An _ (bLs (burS (onV T.1 (nI i)) (coS T.1 i))).length 24 hB2.1.1 hps.1 hps.2) mX0_letHoursPass k380 rfl rfl rfl rfl rfl ⟨(Nat.le_of_ble_eq_true rfl), (Nat.le_of_ble_eq_true rfl)⟩ (Nat.le_of_ble_eq_true rfl) ⟨(Nat.le_of_ble_eq_true rfl), (Nat.le_of_ble_eq_true rfl)⟩ dX6_carryOut_104 (fun r_104 b_104 hp_104 _ => ?_)
              obtain ⟨rfl, I3, Z, rfl, hY1, hY2, hI3, hI6, hY3⟩ := hp_104
              have hB3 := isB_pas hB2 hI3 hI6 hY2 hY3
              dsimp only [jrepl, List.set, jstk]
              refine j_iinc hC (1) dX6_carryOut_107 rfl rfl rfl rfl rfl (fun v_107 e_107 => ?_)
              refine j_goto hC dX6_carryOut_110 (tgt := 78) (by decide) ?_
              refine j_pick [0, 1, 2, 3] ?_
              exact ih_78 (i + 1) _ _ _ (by omega) (by omega) (jsucc e_107 rfl) hB3
        refine j_pick [0, 1, 2, 3] ?_
        exact L_78 (dysN T.1 + 1) 0 _ _ _ (by omega) (by omega) (e_77.trans nI_0.symm) hB
      · skip
        refine j_bipush hC (-3) dX6_carryOut_61 (by decide) ?_
        refine j_iret hC hQ rfl rfl (Nat.le_of_ble_eq_true rfl) (Nat.le_of_ble_eq_true rfl) dX6_carryOut_63 rfl ?_
        exact cw_o (T := T) (by unfold oCarryOut; rw [if_neg hk0, if_neg (by rw [← hd2, ← e_34]; exact c_38), if_neg (by rw [← hd2, ← e_34, ← show In 6 = bHrs T.1 from hb6]; exact c_58)]) (CW.mk hCI1)
    · skip
      refine j_bipush hC (-2) dX6_carryOut_41 (by decide) ?_
      refine j_iret hC hQ rfl rfl (Nat.le_of_ble_eq_true rfl) (Nat.le_of_ble_eq_true rfl) dX6_carryOut_43 rfl ?_
      exact cw_o (T := T) (by unfold oCarryOut; rw [if_neg hk0, if_pos (by rw [← hd2, ← e_34]; exact c_38)]) (CW.mk hCI1)
  · skip
    refine j_iconst hC (-1) dX6_carryOut_10 (by decide) ?_
    refine j_iret hC hQ rfl rfl (Nat.le_of_ble_eq_true rfl) (Nat.le_of_ble_eq_true rfl) dX6_carryOut_11 rfl ?_
    exact cw_o (T := T) (by unfold oCarryOut; rw [if_pos (nI_injN (by omega) (by decide) ((hg1.1.symm.trans c_7).trans nI_0.symm))]) (CW.mk hCI)
