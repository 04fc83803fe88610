set_option maxHeartbeats 4000000 in
set_option maxRecDepth 100000 in
theorem c_X7_laysPlaces (g : jG) (d : Nat → Nat) (I : jF) (A : Nat → jF) (S : BS) (hp : MP (A 1) S) : Con g yX7_laysPlaces cX7_laysPlaces 4 none 5 109 0 0 [.ref (d 0)] [mc g d I A] (fun r b => r = none ∧ ∃ A1 : Nat → jF, b = [mc g d I A1] ∧ (∀ k, k ≠ 5 → k ≠ 6 → A1 k = A k) ∧ laid A1 S) := by
  refine Con.of (own := RX7) (lv := [(0, .ref (d 0))]) (by decide) rfl (Nat.le_of_ble_eq_true rfl) rfl ?_
  intro E hC hQ hN
  obtain ⟨⟨hq0, hk10⟩, hql, ⟨hq91, hn6⟩, hqr, ⟨hq4, hnd⟩, ⟨hq5, hqh⟩, ⟨hq6, hqs⟩, hq9, hq10⟩ := id hp
  refine j_iconst hC (0) dX7_laysPlaces_0 (by decide) ?_
  refine j_istore_n hC dX7_laysPlaces_1 rfl rfl rfl rfl (fun v_1 e_1 => ?_)
  have L_2 : ∀ (fu : Nat) (p : Nat) (x1 : Int32) (A1 : Nat → jF) (hfu : 202 ≤ p + fu) (hpp : p ≤ 201) (h1 : x1 = nI p) (hLp : ∀ q, q < p → A1 5 q = sLk S q) (hZ : ∀ q, q < p → A1 6 q = 0) (hK : ∀ k, k ≠ 5 → k ≠ 6 → A1 k = A k), J g (jRm 5 109 0 0) E 4 2 [(0, .ref (d 0)), (1, .int x1)] [] [mc g d I A1] (0) (0) := by
    intro fu
    induction fu with
    | zero => intro p x1 A1 hfu hpp h1 hLp hZ hK; exact absurd hfu (by omega)
    | succ fu ih_2 =>
      intro p x1 A1 hfu hpp h1 hLp hZ hK
      refine j_iload_n hC dX7_laysPlaces_2 rfl rfl ?_
      refine j_sipush hC (200) dX7_laysPlaces_3 (by decide) ?_
      refine j_icmp_gt hC dX7_laysPlaces_6 (tgt := 78) (by decide) (fun c_6 => ?_) (fun c_6 => ?_)
      · skip
        have hpe : p = 201 := by have q := jgt h1 (by omega) c_6; rw [show (200 : Int32).toInt = 200 by decide] at q; omega
        subst hpe
        refine j_iconst hC (0) dX7_laysPlaces_78 (by decide) ?_
        refine j_istore_n hC dX7_laysPlaces_79 rfl rfl rfl rfl (fun v_79 e_79 => ?_)
        have L_80 : ∀ (fu : Nat) (r : Nat) (x1 : Int32) (A3 : Nat → jF) (hfu : (bRs S).length + 1 ≤ r + fu) (hr : r ≤ (bRs S).length) (h1 : x1 = nI r) (hL3 : ∀ q, q ≤ 200 → A3 5 q = sLk S q) (hCn : tf (A3 6) (cntP S r)) (hK3 : ∀ k, k ≠ 5 → k ≠ 6 → A3 k = A k), J g (jRm 5 109 0 0) E 4 80 [(0, .ref (d 0)), (1, .int x1)] [] [mc g d I A3] (0) (0) := by
          intro fu
          induction fu with
          | zero => intro r x1 A3 hfu hr h1 hL3 hCn hK3; exact absurd hfu (by omega)
          | succ fu ih_80 =>
            intro r x1 A3 hfu hr h1 hL3 hCn hK3
            refine j_iload_n hC dX7_laysPlaces_80 rfl rfl ?_
            have hp3 : MP (A3 1) S := by rw [hK3 1 (by decide) (by decide)]; exact hp
            refine j_aload_n hC dX7_laysPlaces_81 rfl rfl ?_
            refine j_get hC uX7 0 0 0 rfl rfl k724 rfl dX7_laysPlaces_82 ?_
            refine j_bipush hC (91) dX7_laysPlaces_85 (by decide) ?_
            refine j_ildN hC (m := 91) 0 1 rfl rfl (by decide) (by decide) dX7_laysPlaces_87 ?_
            refine j_icmp_ge hC dX7_laysPlaces_88 (tgt := 170) (by decide) (fun c_88 => ?_) (fun c_88 => ?_)
            · skip
              have hre : r = (bRs S).length := Nat.le_antisymm hr (jge hp3.2.2.1.1 h1 (by omega) (by omega) c_88)
              rw [hre] at hCn
              refine j_vret hC hQ rfl (Nat.le_of_ble_eq_true rfl) (Nat.le_of_ble_eq_true rfl) dX7_laysPlaces_170 rfl ?_
              exact ⟨rfl, A3, rfl, hK3, hL3, hCn⟩
            · skip
              have hrk : r < (bRs S).length := jlt hp3.2.2.1.1 h1 (by omega) (by omega) c_88
              obtain ⟨ha1, ha2, ha3, ha4⟩ := mp_ra hp3 hrk
              refine j_aload_n hC dX7_laysPlaces_91 rfl rfl ?_
              refine j_iload_n hC dX7_laysPlaces_92 rfl rfl ?_
              refine j_callVR hC [0] (c_X7_unlit g _ _ _ S r _ hp3 hrk h1 hL3) mX7_unlit k955 rfl rfl rfl rfl rfl ⟨(Nat.le_of_ble_eq_true rfl), (Nat.le_of_ble_eq_true rfl)⟩ (Nat.le_of_ble_eq_true rfl) ⟨(Nat.le_of_ble_eq_true rfl), (Nat.le_of_ble_eq_true rfl)⟩ dX7_laysPlaces_93 ?_
              dsimp only [jrepl, List.set, jstk]
              refine j_if_ne hC dX7_laysPlaces_96 (tgt := 103) (by decide) (fun c_96 => ?_) (fun c_96 => ?_)
              · skip
                refine j_iconst hC (0) dX7_laysPlaces_103 (by decide) ?_
                refine j_istore_n hC dX7_laysPlaces_104 rfl rfl rfl rfl (fun v_104 e_104 => ?_)
                have hw : (v_104 = 1 ∧ sDark S (raS S r) (rbS S r) 1023 = 0) ∨ (v_104 = 0 ∧ ¬ sDark S (raS S r) (rbS S r) 1023 = 0) := by first | exact Or.inl ⟨e_104, c_96⟩ | exact Or.inr ⟨e_104, c_96⟩
                refine j_aload_n hC dX7_laysPlaces_105 rfl rfl ?_
                refine j_get hC uX7 0 0 0 rfl rfl k724 rfl dX7_laysPlaces_106 ?_
                refine j_bipush hC (92) dX7_laysPlaces_109 (by decide) ?_
                refine j_iconst hC (2) dX7_laysPlaces_111 (by decide) ?_
                refine j_iload_n hC dX7_laysPlaces_112 rfl rfl ?_
                refine j_imul hC dX7_laysPlaces_113 ?_
                refine j_iadd hC dX7_laysPlaces_114 ?_
                refine j_ildN hC (m := 92 + 2 * r) 0 1 rfl rfl (r_idx h1) (by omega) dX7_laysPlaces_115 ?_
                refine j_istore_n hC dX7_laysPlaces_116 rfl rfl rfl rfl (fun v_116 e_116 => ?_)
                have L_117 : ∀ (fu : Nat) (p : Nat) (x3 : Int32) (A4 : Nat → jF) (hfu : rbS S r + 2 ≤ p + fu) (hpb : raS S r ≤ p ∧ p ≤ rbS S r + 1) (h3 : x3 = nI p) (hL4 : ∀ q, q ≤ 200 → A4 5 q = sLk S q) (hC4 : tf (A4 6) (cwP S r v_104 p)) (hK4 : ∀ k, k ≠ 5 → k ≠ 6 → A4 k = A k), J g (jRm 5 109 0 0) E 4 117 [(0, .ref (d 0)), (1, .int x1), (2, .int v_104), (3, .int x3)] [] [mc g d I A4] (0) (0) := by
                  intro fu
                  induction fu with
                  | zero => intro p x3 A4 hfu hpb h3 hL4 hC4 hK4; exact absurd hfu (by omega)
                  | succ fu ih_117 =>
                    intro p x3 A4 hfu hpb h3 hL4 hC4 hK4
                    refine j_iload_n hC dX7_laysPlaces_117 rfl rfl ?_
                    have ha2b : A4 1 (92 + 2 * r + 1) = nI (rbS S r) := by rw [hK4 1 (by decide) (by decide), ← hK3 1 (by decide) (by decide)]; exact ha2
                    refine j_aload_n hC dX7_laysPlaces_118 rfl rfl ?_
                    refine j_get hC uX7 0 0 0 rfl rfl k724 rfl dX7_laysPlaces_119 ?_
                    refine j_bipush hC (92) dX7_laysPlaces_122 (by decide) ?_
                    refine j_iconst hC (2) dX7_laysPlaces_124 (by decide) ?_
                    refine j_iload_n hC dX7_laysPlaces_125 rfl rfl ?_
                    refine j_imul hC dX7_laysPlaces_126 ?_
                    refine j_iadd hC dX7_laysPlaces_127 ?_
                    refine j_iconst hC (1) dX7_laysPlaces_128 (by decide) ?_
                    refine j_iadd hC dX7_laysPlaces_129 ?_
                    refine j_ildN hC (m := 92 + 2 * r + 1) 0 1 rfl rfl (r_idx1 h1) (by omega) dX7_laysPlaces_130 ?_
                    refine j_icmp_gt hC dX7_laysPlaces_131 (tgt := 164) (by decide) (fun c_131 => ?_) (fun c_131 => ?_)
                    · skip
                      have hpe : p = rbS S r + 1 := by rw [ha2b, h3] at c_131; have q2 := (nI_ltI (by omega) (by omega)).mp c_131; omega
                      rw [hpe] at hC4
                      refine j_iinc hC (1) dX7_laysPlaces_164 rfl rfl rfl rfl rfl (fun v_164 e_164 => ?_)
                      refine j_goto hC dX7_laysPlaces_167 (tgt := 80) (by decide) ?_
                      refine j_pick [0, 1] ?_
                      exact ih_80 (r + 1) _ _ (by omega) (by omega) (jsucc e_164 h1) hL4 (cw_end hC4 hw) hK4
                    · skip
                      have hpl : p < rbS S r + 1 := by have q := Int32.not_lt.mp c_131; rw [ha2b, h3] at q; have q2 := (nI_leI (by omega) (by omega)).mp q; omega
                      refine j_aload_n hC dX7_laysPlaces_134 rfl rfl ?_
                      refine j_get hC uX7 0 0 11 rfl rfl k735 rfl dX7_laysPlaces_135 ?_
                      refine j_iload_n hC dX7_laysPlaces_138 rfl rfl ?_
                      refine j_aload_n hC dX7_laysPlaces_139 rfl rfl ?_
                      refine j_get hC uX7 0 0 11 rfl rfl k735 rfl dX7_laysPlaces_140 ?_
                      refine j_iload_n hC dX7_laysPlaces_143 rfl rfl ?_
                      refine j_zldN hC (m := p) 0 6 rfl rfl h3 (by omega) dX7_laysPlaces_144 ?_
                      refine j_if_ne hC dX7_laysPlaces_145 (tgt := 152) (by decide) (fun c_145 => ?_) (fun c_145 => ?_)
                      · skip
                        refine j_iconst hC (1) dX7_laysPlaces_152 (by decide) ?_
                        refine j_goto hC dX7_laysPlaces_153 (tgt := 157) (by decide) ?_
                        refine j_st_7_6 (bi := 0) (m := p) hC rfl h3 (by omega) dX7_laysPlaces_157 (fun A_157 hA_157 hK_157 => ?_)
                        dsimp only [List.set]
                        refine j_iinc hC (1) dX7_laysPlaces_158 rfl rfl rfl rfl rfl (fun v_158 e_158 => ?_)
                        refine j_goto hC dX7_laysPlaces_161 (tgt := 117) (by decide) ?_
                        refine j_pick [0, 1, 2, 3] ?_
                        exact ih_117 (p + 1) _ _ (by omega) (by omega) (jsucc e_158 h3) (fun q hq => by rw [hK_157 5 (by decide)]; exact hL4 q hq) (cw_up hC4 hA_157 hpb.1 (by first | exact Or.inl ⟨rfl, cw_1 hC4 (by omega) c_145⟩ | exact Or.inl ⟨rfl, cw_2 hpb.1 (hw.elim And.left (fun w => absurd w.1 c_149))⟩ | exact Or.inr ⟨rfl, cw_3 hC4 (by omega) c_145 c_149⟩)) (fun k k5 k6 => (hK_157 k k6).trans (hK4 k k5 k6))
                      · skip
                        refine j_iload_n hC dX7_laysPlaces_148 rfl rfl ?_
                        refine j_if_eq hC dX7_laysPlaces_149 (tgt := 156) (by decide) (fun c_149 => ?_) (fun c_149 => ?_)
                        · skip
                          refine j_iconst hC (0) dX7_laysPlaces_156 (by decide) ?_
                          refine j_st_7_6 (bi := 0) (m := p) hC rfl h3 (by omega) dX7_laysPlaces_157 (fun A_157 hA_157 hK_157 => ?_)
                          dsimp only [List.set]
                          refine j_iinc hC (1) dX7_laysPlaces_158 rfl rfl rfl rfl rfl (fun v_158 e_158 => ?_)
                          refine j_goto hC dX7_laysPlaces_161 (tgt := 117) (by decide) ?_
                          refine j_pick [0, 1, 2, 3] ?_
                          exact ih_117 (p + 1) _ _ (by omega) (by omega) (jsucc e_158 h3) (fun q hq => by rw [hK_157 5 (by decide)]; exact hL4 q hq) (cw_up hC4 hA_157 hpb.1 (by first | exact Or.inl ⟨rfl, cw_1 hC4 (by omega) c_145⟩ | exact Or.inl ⟨rfl, cw_2 hpb.1 (hw.elim And.left (fun w => absurd w.1 c_149))⟩ | exact Or.inr ⟨rfl, cw_3 hC4 (by omega) c_145 c_149⟩)) (fun k k5 k6 => (hK_157 k k6).trans (hK4 k k5 k6))
                        · skip
                          refine j_iconst hC (1) dX7_laysPlaces_152 (by decide) ?_
                          refine j_goto hC dX7_laysPlaces_153 (tgt := 157) (by decide) ?_
                          refine j_st_7_6 (bi := 0) (m := p) hC rfl h3 (by omega) dX7_laysPlaces_157 (fun A_157 hA_157 hK_157 => ?_)
                          dsimp only [List.set]
                          refine j_iinc hC (1) dX7_laysPlaces_158 rfl rfl rfl rfl rfl (fun v_158 e_158 => ?_)
                          refine j_goto hC dX7_laysPlaces_161 (tgt := 117) (by decide) ?_
                          refine j_pick [0, 1, 2, 3] ?_
                          exact ih_117 (p + 1) _ _ (by omega) (by omega) (jsucc e_158 h3) (fun q hq => by rw [hK_157 5 (by decide)]; exact hL4 q hq) (cw_up hC4 hA_157 hpb.1 (by first | exact Or.inl ⟨rfl, cw_1 hC4 (by omega) c_145⟩ | exact Or.inl ⟨rfl, cw_2 hpb.1 (hw.elim And.left (fun w => absurd w.1 c_149))⟩ | exact Or.inr ⟨rfl, cw_3 hC4 (by omega) c_145 c_149⟩)) (fun k k5 k6 => (hK_157 k k6).trans (hK4 k k5 k6))
                refine j_pick [0, 1, 2, 3] ?_
                exact L_117 (rbS S r + 2) (raS S r) _ _ (by omega) (by omega) (e_116.trans ha1) hL3 (tf_eq hCn (fun q hq => ⟨Or.inl, fun w => w.elim id (fun w => absurd w.2.2 (by omega))⟩)) hK3
              · skip
                refine j_iconst hC (1) dX7_laysPlaces_99 (by decide) ?_
                refine j_goto hC dX7_laysPlaces_100 (tgt := 104) (by decide) ?_
                refine j_istore_n hC dX7_laysPlaces_104 rfl rfl rfl rfl (fun v_104 e_104 => ?_)
                have hw : (v_104 = 1 ∧ sDark S (raS S r) (rbS S r) 1023 = 0) ∨ (v_104 = 0 ∧ ¬ sDark S (raS S r) (rbS S r) 1023 = 0) := by first | exact Or.inl ⟨e_104, c_96⟩ | exact Or.inr ⟨e_104, c_96⟩
                refine j_aload_n hC dX7_laysPlaces_105 rfl rfl ?_
                refine j_get hC uX7 0 0 0 rfl rfl k724 rfl dX7_laysPlaces_106 ?_
                refine j_bipush hC (92) dX7_laysPlaces_109 (by decide) ?_
                refine j_iconst hC (2) dX7_laysPlaces_111 (by decide) ?_
                refine j_iload_n hC dX7_laysPlaces_112 rfl rfl ?_
                refine j_imul hC dX7_laysPlaces_113 ?_
                refine j_iadd hC dX7_laysPlaces_114 ?_
                refine j_ildN hC (m := 92 + 2 * r) 0 1 rfl rfl (r_idx h1) (by omega) dX7_laysPlaces_115 ?_
                refine j_istore_n hC dX7_laysPlaces_116 rfl rfl rfl rfl (fun v_116 e_116 => ?_)
                have L_117 : ∀ (fu : Nat) (p : Nat) (x3 : Int32) (A4 : Nat → jF) (hfu : rbS S r + 2 ≤ p + fu) (hpb : raS S r ≤ p ∧ p ≤ rbS S r + 1) (h3 : x3 = nI p) (hL4 : ∀ q, q ≤ 200 → A4 5 q = sLk S q) (hC4 : tf (A4 6) (cwP S r v_104 p)) (hK4 : ∀ k, k ≠ 5 → k ≠ 6 → A4 k = A k), J g (jRm 5 109 0 0) E 4 117 [(0, .ref (d 0)), (1, .int x1), (2, .int v_104), (3, .int x3)] [] [mc g d I A4] (0) (0) := by
                  intro fu
                  induction fu with
                  | zero => intro p x3 A4 hfu hpb h3 hL4 hC4 hK4; exact absurd hfu (by omega)
                  | succ fu ih_117 =>
                    intro p x3 A4 hfu hpb h3 hL4 hC4 hK4
                    refine j_iload_n hC dX7_laysPlaces_117 rfl rfl ?_
                    have ha2b : A4 1 (92 + 2 * r + 1) = nI (rbS S r) := by rw [hK4 1 (by decide) (by decide), ← hK3 1 (by decide) (by decide)]; exact ha2
                    refine j_aload_n hC dX7_laysPlaces_118 rfl rfl ?_
                    refine j_get hC uX7 0 0 0 rfl rfl k724 rfl dX7_laysPlaces_119 ?_
                    refine j_bipush hC (92) dX7_laysPlaces_122 (by decide) ?_
                    refine j_iconst hC (2) dX7_laysPlaces_124 (by decide) ?_
                    refine j_iload_n hC dX7_laysPlaces_125 rfl rfl ?_
                    refine j_imul hC dX7_laysPlaces_126 ?_
                    refine j_iadd hC dX7_laysPlaces_127 ?_
                    refine j_iconst hC (1) dX7_laysPlaces_128 (by decide) ?_
                    refine j_iadd hC dX7_laysPlaces_129 ?_
                    refine j_ildN hC (m := 92 + 2 * r + 1) 0 1 rfl rfl (r_idx1 h1) (by omega) dX7_laysPlaces_130 ?_
                    refine j_icmp_gt hC dX7_laysPlaces_131 (tgt := 164) (by decide) (fun c_131 => ?_) (fun c_131 => ?_)
                    · skip
                      have hpe : p = rbS S r + 1 := by rw [ha2b, h3] at c_131; have q2 := (nI_ltI (by omega) (by omega)).mp c_131; omega
                      rw [hpe] at hC4
                      refine j_iinc hC (1) dX7_laysPlaces_164 rfl rfl rfl rfl rfl (fun v_164 e_164 => ?_)
                      refine j_goto hC dX7_laysPlaces_167 (tgt := 80) (by decide) ?_
                      refine j_pick [0, 1] ?_
                      exact ih_80 (r + 1) _ _ (by omega) (by omega) (jsucc e_164 h1) hL4 (cw_end hC4 hw) hK4
                    · skip
                      have hpl : p < rbS S r + 1 := by have q := Int32.not_lt.mp c_131; rw [ha2b, h3] at q; have q2 := (nI_leI (by omega) (by omega)).mp q; omega
                      refine j_aload_n hC dX7_laysPlaces_134 rfl rfl ?_
                      refine j_get hC uX7 0 0 11 rfl rfl k735 rfl dX7_laysPlaces_135 ?_
                      refine j_iload_n hC dX7_laysPlaces_138 rfl rfl ?_
                      refine j_aload_n hC dX7_laysPlaces_139 rfl rfl ?_
                      refine j_get hC uX7 0 0 11 rfl rfl k735 rfl dX7_laysPlaces_140 ?_
                      refine j_iload_n hC dX7_laysPlaces_143 rfl rfl ?_
                      refine j_zldN hC (m := p) 0 6 rfl rfl h3 (by omega) dX7_laysPlaces_144 ?_
                      refine j_if_ne hC dX7_laysPlaces_145 (tgt := 152) (by decide) (fun c_145 => ?_) (fun c_145 => ?_)
                      · skip
                        refine j_iconst hC (1) dX7_laysPlaces_152 (by decide) ?_
                        refine j_goto hC dX7_laysPlaces_153 (tgt := 157) (by decide) ?_
                        refine j_st_7_6 (bi := 0) (m := p) hC rfl h3 (by omega) dX7_laysPlaces_157 (fun A_157 hA_157 hK_157 => ?_)
                        dsimp only [List.set]
                        refine j_iinc hC (1) dX7_laysPlaces_158 rfl rfl rfl rfl rfl (fun v_158 e_158 => ?_)
                        refine j_goto hC dX7_laysPlaces_161 (tgt := 117) (by decide) ?_
                        refine j_pick [0, 1, 2, 3] ?_
                        exact ih_117 (p + 1) _ _ (by omega) (by omega) (jsucc e_158 h3) (fun q hq => by rw [hK_157 5 (by decide)]; exact hL4 q hq) (cw_up hC4 hA_157 hpb.1 (by first | exact Or.inl ⟨rfl, cw_1 hC4 (by omega) c_145⟩ | exact Or.inl ⟨rfl, cw_2 hpb.1 (hw.elim And.left (fun w => absurd w.1 c_149))⟩ | exact Or.inr ⟨rfl, cw_3 hC4 (by omega) c_145 c_149⟩)) (fun k k5 k6 => (hK_157 k k6).trans (hK4 k k5 k6))
                      · skip
                        refine j_iload_n hC dX7_laysPlaces_148 rfl rfl ?_
                        refine j_if_eq hC dX7_laysPlaces_149 (tgt := 156) (by decide) (fun c_149 => ?_) (fun c_149 => ?_)
                        · skip
                          refine j_iconst hC (0) dX7_laysPlaces_156 (by decide) ?_
                          refine j_st_7_6 (bi := 0) (m := p) hC rfl h3 (by omega) dX7_laysPlaces_157 (fun A_157 hA_157 hK_157 => ?_)
                          dsimp only [List.set]
                          refine j_iinc hC (1) dX7_laysPlaces_158 rfl rfl rfl rfl rfl (fun v_158 e_158 => ?_)
                          refine j_goto hC dX7_laysPlaces_161 (tgt := 117) (by decide) ?_
                          refine j_pick [0, 1, 2, 3] ?_
                          exact ih_117 (p + 1) _ _ (by omega) (by omega) (jsucc e_158 h3) (fun q hq => by rw [hK_157 5 (by decide)]; exact hL4 q hq) (cw_up hC4 hA_157 hpb.1 (by first | exact Or.inl ⟨rfl, cw_1 hC4 (by omega) c_145⟩ | exact Or.inl ⟨rfl, cw_2 hpb.1 (hw.elim And.left (fun w => absurd w.1 c_149))⟩ | exact Or.inr ⟨rfl, cw_3 hC4 (by omega) c_145 c_149⟩)) (fun k k5 k6 => (hK_157 k k6).trans (hK4 k k5 k6))
                        · skip
                          refine j_iconst hC (1) dX7_laysPlaces_152 (by decide) ?_
                          refine j_goto hC dX7_laysPlaces_153 (tgt := 157) (by decide) ?_
                          refine j_st_7_6 (bi := 0) (m := p) hC rfl h3 (by omega) dX7_laysPlaces_157 (fun A_157 hA_157 hK_157 => ?_)
                          dsimp only [List.set]
                          refine j_iinc hC (1) dX7_laysPlaces_158 rfl rfl rfl rfl rfl (fun v_158 e_158 => ?_)
                          refine j_goto hC dX7_laysPlaces_161 (tgt := 117) (by decide) ?_
                          refine j_pick [0, 1, 2, 3] ?_
                          exact ih_117 (p + 1) _ _ (by omega) (by omega) (jsucc e_158 h3) (fun q hq => by rw [hK_157 5 (by decide)]; exact hL4 q hq) (cw_up hC4 hA_157 hpb.1 (by first | exact Or.inl ⟨rfl, cw_1 hC4 (by omega) c_145⟩ | exact Or.inl ⟨rfl, cw_2 hpb.1 (hw.elim And.left (fun w => absurd w.1 c_149))⟩ | exact Or.inr ⟨rfl, cw_3 hC4 (by omega) c_145 c_149⟩)) (fun k k5 k6 => (hK_157 k k6).trans (hK4 k k5 k6))
                refine j_pick [0, 1, 2, 3] ?_
                exact L_117 (rbS S r + 2) (raS S r) _ _ (by omega) (by omega) (e_116.trans ha1) hL3 (tf_eq hCn (fun q hq => ⟨Or.inl, fun w => w.elim id (fun w => absurd w.2.2 (by omega))⟩)) hK3
        refine j_pick [0, 1] ?_
        exact L_80 ((bRs S).length + 1) 0 _ _ (by omega) (by omega) (e_79.trans nI_0.symm) (fun q hq => hLp q (by omega)) (fun q hq => Or.inr ⟨hZ q (by omega), cnt_0⟩) hK
      · skip
        have hpl : p < 201 := by have q := jngt h1 (by omega) c_6; rw [show (200 : Int32).toInt = 200 by decide] at q; omega
        refine j_aload_n hC dX7_laysPlaces_9 rfl rfl ?_
        refine j_get hC uX7 0 0 10 rfl rfl k734 rfl dX7_laysPlaces_10 ?_
        refine j_iload_n hC dX7_laysPlaces_13 rfl rfl ?_
        refine j_iconst hC (0) dX7_laysPlaces_14 (by decide) ?_
        refine j_st_7_5 (bi := 0) (m := p) hC rfl h1 (by omega) dX7_laysPlaces_15 (fun A_15 hA_15 hK_15 => ?_)
        dsimp only [List.set]
        refine j_aload_n hC dX7_laysPlaces_16 rfl rfl ?_
        refine j_get hC uX7 0 0 11 rfl rfl k735 rfl dX7_laysPlaces_17 ?_
        refine j_iload_n hC dX7_laysPlaces_20 rfl rfl ?_
        refine j_iconst hC (0) dX7_laysPlaces_21 (by decide) ?_
        refine j_st_7_6 (bi := 0) (m := p) hC rfl h1 (by omega) dX7_laysPlaces_22 (fun A_22 hA_22 hK_22 => ?_)
        dsimp only [List.set]
        refine j_iconst hC (0) dX7_laysPlaces_23 (by decide) ?_
        refine j_istore_n hC dX7_laysPlaces_24 rfl rfl rfl rfl (fun v_24 e_24 => ?_)
        have L_25 : ∀ (fu : Nat) (i : Nat) (x2 : Int32) (A2 : Nat → jF) (hfu : (bLs S).length + 1 ≤ i + fu) (hi : i ≤ (bLs S).length) (h2 : x2 = nI i) (hL2 : ∀ q, q < p → A2 5 q = sLk S q) (hZ2 : ∀ q, q < p + 1 → A2 6 q = 0) (hv : A2 5 p = lkP S p i) (hK2 : ∀ k, k ≠ 5 → k ≠ 6 → A2 k = A k), J g (jRm 5 109 0 0) E 4 25 [(0, .ref (d 0)), (1, .int x1), (2, .int x2)] [] [mc g d I A2] (0) (0) := by
          intro fu
          induction fu with
          | zero => intro i x2 A2 hfu hi h2 hL2 hZ2 hv hK2; exact absurd hfu (by omega)
          | succ fu ih_25 =>
            intro i x2 A2 hfu hi h2 hL2 hZ2 hv hK2
            refine j_iload_n hC dX7_laysPlaces_25 rfl rfl ?_
            have hq0b : A2 1 0 = nI (bLs S).length := by rw [hK2 1 (by decide) (by decide)]; exact hq0
            refine j_aload_n hC dX7_laysPlaces_26 rfl rfl ?_
            refine j_callVR hC [0] (c_X7_lights g _ _ _) mX7_lights k787 rfl rfl rfl rfl rfl ⟨(Nat.le_of_ble_eq_true rfl), (Nat.le_of_ble_eq_true rfl)⟩ (Nat.le_of_ble_eq_true rfl) ⟨(Nat.le_of_ble_eq_true rfl), (Nat.le_of_ble_eq_true rfl)⟩ dX7_laysPlaces_27 ?_
            dsimp only [jrepl, List.set, jstk]
            refine j_icmp_ge hC dX7_laysPlaces_30 (tgt := 72) (by decide) (fun c_30 => ?_) (fun c_30 => ?_)
            · skip
              have hie : i = (bLs S).length := Nat.le_antisymm hi (jge hq0b h2 (by omega) (by omega) c_30)
              rw [hie] at hv
              refine j_iinc hC (1) dX7_laysPlaces_72 rfl rfl rfl rfl rfl (fun v_72 e_72 => ?_)
              refine j_goto hC dX7_laysPlaces_75 (tgt := 2) (by decide) ?_
              refine j_pick [0, 1] ?_
              exact ih_2 (p + 1) _ _ (by omega) (by omega) (jsucc e_72 h1) (fun q hq => (Nat.lt_or_ge q p).elim (hL2 q) (fun w => by rw [show q = p by omega]; exact hv)) hZ2 hK2
            · skip
              have hik : i < (bLs S).length := jlt hq0b h2 (by omega) (by omega) c_30
              have hli : lok 5400 (A2 1) i (LI S i) := by rw [hK2 1 (by decide) (by decide)]; exact hql i hik
              have hrg := hli.2.2.1
              refine j_aload_n hC dX7_laysPlaces_33 rfl rfl ?_
              refine j_get hC uX7 0 0 10 rfl rfl k734 rfl dX7_laysPlaces_34 ?_
              refine j_iload_n hC dX7_laysPlaces_37 rfl rfl ?_
              refine j_dup2 hC dX7_laysPlaces_38 rfl rfl ?_
              refine j_ildN hC (m := p) 0 5 rfl rfl h1 (by omega) dX7_laysPlaces_39 ?_
              refine j_aload_n hC dX7_laysPlaces_40 rfl rfl ?_
              refine j_iload_n hC dX7_laysPlaces_41 rfl rfl ?_
              refine j_callVR hC [0] (c_X7_isReady g _ _ _ _ _ _ _ h2 (by omega) hli) mX7_isReady k931 rfl rfl rfl rfl rfl ⟨(Nat.le_of_ble_eq_true rfl), (Nat.le_of_ble_eq_true rfl)⟩ (Nat.le_of_ble_eq_true rfl) ⟨(Nat.le_of_ble_eq_true rfl), (Nat.le_of_ble_eq_true rfl)⟩ dX7_laysPlaces_42 ?_
              dsimp only [jrepl, List.set, jstk]
              refine j_if_eq hC dX7_laysPlaces_45 (tgt := 63) (by decide) (fun c_45 => ?_) (fun c_45 => ?_)
              · skip
                try (rw [hK2 1 (by decide) (by decide), hq4] at c_45)
                refine j_iconst hC (0) dX7_laysPlaces_63 (by decide) ?_
                refine j_ior hC dX7_laysPlaces_64 ?_
                refine j_st_7_5 (bi := 0) (m := p) hC rfl h1 (by omega) dX7_laysPlaces_65 (fun A_65 hA_65 hK_65 => ?_)
                dsimp only [List.set]
                refine j_iinc hC (1) dX7_laysPlaces_66 rfl rfl rfl rfl rfl (fun v_66 e_66 => ?_)
                refine j_goto hC dX7_laysPlaces_69 (tgt := 25) (by decide) ?_
                refine j_pick [0, 1, 2] ?_
                exact ih_25 (i + 1) _ _ (by omega) (by omega) (jsucc e_66 h2) (fun q hq => by rw [hA_65, pk_un (by omega)]; exact hL2 q hq) (fun q hq => by rw [hK_65 6 (by decide)]; exact hZ2 q hq) (by rw [hA_65, pk_us]; first | exact lk_a (by omega) hrg h2 hv (jb1 c_45) (h1 ▸ jb1 c_54) rfl | exact lk_b (by omega) hrg hv (fun w => jb0 c_54 (h1.symm ▸ w.2)) rfl | exact lk_b (by omega) hrg hv (fun w => jb0 c_45 w.1) rfl) (fun k k5 k6 => (hK_65 k k5).trans (hK2 k k5 k6))
              · skip
                rw [hK2 1 (by decide) (by decide), hq4] at c_45
                refine j_aload_n hC dX7_laysPlaces_48 rfl rfl ?_
                refine j_iload_n hC dX7_laysPlaces_49 rfl rfl ?_
                refine j_iload_n hC dX7_laysPlaces_50 rfl rfl ?_
                refine j_callVR hC [0] (c_X7_reaches g _ _ _ _ _ _ _ _ _ h2 (by omega) hli (show p ≤ 200 by omega) h1) mX7_reaches k951 rfl rfl rfl rfl rfl ⟨(Nat.le_of_ble_eq_true rfl), (Nat.le_of_ble_eq_true rfl)⟩ (Nat.le_of_ble_eq_true rfl) ⟨(Nat.le_of_ble_eq_true rfl), (Nat.le_of_ble_eq_true rfl)⟩ dX7_laysPlaces_51 ?_
                dsimp only [jrepl, List.set, jstk]
                refine j_if_eq hC dX7_laysPlaces_54 (tgt := 63) (by decide) (fun c_54 => ?_) (fun c_54 => ?_)
                · skip
                  try (rw [hK2 1 (by decide) (by decide), hq4] at c_45)
                  refine j_iconst hC (0) dX7_laysPlaces_63 (by decide) ?_
                  refine j_ior hC dX7_laysPlaces_64 ?_
                  refine j_st_7_5 (bi := 0) (m := p) hC rfl h1 (by omega) dX7_laysPlaces_65 (fun A_65 hA_65 hK_65 => ?_)
                  dsimp only [List.set]
                  refine j_iinc hC (1) dX7_laysPlaces_66 rfl rfl rfl rfl rfl (fun v_66 e_66 => ?_)
                  refine j_goto hC dX7_laysPlaces_69 (tgt := 25) (by decide) ?_
                  refine j_pick [0, 1, 2] ?_
                  exact ih_25 (i + 1) _ _ (by omega) (by omega) (jsucc e_66 h2) (fun q hq => by rw [hA_65, pk_un (by omega)]; exact hL2 q hq) (fun q hq => by rw [hK_65 6 (by decide)]; exact hZ2 q hq) (by rw [hA_65, pk_us]; first | exact lk_a (by omega) hrg h2 hv (jb1 c_45) (h1 ▸ jb1 c_54) rfl | exact lk_b (by omega) hrg hv (fun w => jb0 c_54 (h1.symm ▸ w.2)) rfl | exact lk_b (by omega) hrg hv (fun w => jb0 c_45 w.1) rfl) (fun k k5 k6 => (hK_65 k k5).trans (hK2 k k5 k6))
                · skip
                  refine j_iconst hC (1) dX7_laysPlaces_57 (by decide) ?_
                  refine j_iload_n hC dX7_laysPlaces_58 rfl rfl ?_
                  refine j_ishl hC dX7_laysPlaces_59 ?_
                  refine j_goto hC dX7_laysPlaces_60 (tgt := 64) (by decide) ?_
                  refine j_ior hC dX7_laysPlaces_64 ?_
                  refine j_st_7_5 (bi := 0) (m := p) hC rfl h1 (by omega) dX7_laysPlaces_65 (fun A_65 hA_65 hK_65 => ?_)
                  dsimp only [List.set]
                  refine j_iinc hC (1) dX7_laysPlaces_66 rfl rfl rfl rfl rfl (fun v_66 e_66 => ?_)
                  refine j_goto hC dX7_laysPlaces_69 (tgt := 25) (by decide) ?_
                  refine j_pick [0, 1, 2] ?_
                  exact ih_25 (i + 1) _ _ (by omega) (by omega) (jsucc e_66 h2) (fun q hq => by rw [hA_65, pk_un (by omega)]; exact hL2 q hq) (fun q hq => by rw [hK_65 6 (by decide)]; exact hZ2 q hq) (by rw [hA_65, pk_us]; first | exact lk_a (by omega) hrg h2 hv (jb1 c_45) (h1 ▸ jb1 c_54) rfl | exact lk_b (by omega) hrg hv (fun w => jb0 c_54 (h1.symm ▸ w.2)) rfl | exact lk_b (by omega) hrg hv (fun w => jb0 c_45 w.1) rfl) (fun k k5 k6 => (hK_65 k k5).trans (hK2 k k5 k6))
        refine j_pick [0, 1, 2] ?_
        exact L_25 ((bLs S).length + 1) 0 _ _ (by omega) (by omega) (e_24.trans nI_0.symm) (fun q hq => by rw [hK_22 5 (by decide), hA_15, pk_un (by omega)]; exact hLp q hq) (up_lt (fun q hq => by rw [hK_15 6 (by decide)]; exact hZ q hq) hA_22 rfl) (by rw [hK_22 5 (by decide), hA_15, pk_us]; rfl) (fun k k5 k6 => (hK_22 k k6).trans ((hK_15 k k5).trans (hK k k5 k6)))
  refine j_pick [0, 1] ?_
  exact L_2 (202) 0 _ _ (by omega) (by omega) (e_1.trans nI_0.symm) (fun q hq => absurd hq (Nat.not_lt_zero q)) (fun q hq => absurd hq (Nat.not_lt_zero q)) (fun _ _ _ => rfl)
