/-! p31: the law's check of lamps that are tried, put in and taken back, and of the plan carried out -/
theorem take76 {T : St3} : ((T.2.1.take 7).take 6).length < 2 ^ 31 := by rw [List.length_take]; omega
set_option maxHeartbeats 8000000 in
set_option maxRecDepth 100000 in
theorem c_L_would (g : jG) (a : Nat) (T : St3) (b : List va_W) (s0 L : Nat) (xs : Nat → Int32) (h : CW g a T b) (hS : WS T.1) (hJ : L < 2 ^ 31) : ConS g s0 L xs yL_would cL_would 12 (some .boolean) 8 171 250 2000 [.ref a, .ref s0] b (fun rr bb => rr = some (.int 1) ∧ ∃ T2 : St3, CW g a T2 bb ∧ rswf (bRs T2.1)) := by
  refine ConS.of (own := RL) (lv := [(0, .ref a), (1, .ref s0)]) (by decide) rfl (Nat.le_of_ble_eq_true rfl) rfl ?_
  intro E hC hQ hN hX hbs hbA
  have hW := h
  obtain ⟨⟨hn, hn7⟩, hwl, ⟨hw, hr6⟩, -, ⟨hh, hh1, hh2⟩, hst⟩ := id hS
  have hk : (bLs T.1).length ≤ 10 := by omega
  refine j_aload_n hC dL_would_0 rfl rfl ?_
  refine j_bipush hC (43) dL_would_1 (by decide) ?_
  refine j_callSS hC hX hbs hbA [] (c_L_cell g s0 L xs _ (43) (show (43 : Int32) = nI 43 from rfl) (by omega) hJ) mL_cell k333 rfl rfl rfl ⟨(Nat.le_of_ble_eq_true rfl), (Nat.le_of_ble_eq_true rfl)⟩ (Nat.le_of_ble_eq_true rfl) ⟨(Nat.le_of_ble_eq_true rfl), (Nat.le_of_ble_eq_true rfl)⟩ dL_would_3 (fun r_3 b_3 hp_3 _ => ?_)
  obtain ⟨⟨j_3, hj_3, rfl⟩, rfl⟩ := hp_3
  dsimp only [jrepl, List.set, jstk]
  refine j_aload_n hC dL_would_6 rfl rfl ?_
  refine j_iconst hC (0) dL_would_7 (by decide) ?_
  refine j_callCW hC hW (c_X6_told g a T _ 0 hW hw) mX6_told k405 rfl rfl ⟨(Nat.le_of_ble_eq_true rfl), (Nat.le_of_ble_eq_true rfl)⟩ (Nat.le_of_ble_eq_true rfl) ⟨(Nat.le_of_ble_eq_true rfl), (Nat.le_of_ble_eq_true rfl)⟩ dL_would_8 (fun r_8 b_8 hp_8 _ => ?_)
  obtain ⟨q_8, hW2⟩ := hp_8
  rw [tv_0] at q_8
  subst q_8
  have hW : CW g a T b_8 := by exact hW2
  dsimp only [jrepl, List.set, jstk]
  refine j_irem hC dL_would_11 (nI_ne0 hn (by omega)) ?_
  refine j_istore_n hC dL_would_12 rfl rfl rfl rfl (fun v_12 e_12 => ?_)
  obtain ⟨i, hi, hii⟩ : ∃ i, v_12 = nI i ∧ i < (bLs T.1).length := ⟨j_3 % (bLs T.1).length, e_12.trans (pk_rem hj_3 hn (by omega)), Nat.mod_lt _ hn⟩
  refine j_aload_n hC dL_would_13 rfl rfl ?_
  refine j_bipush hC (44) dL_would_14 (by decide) ?_
  refine j_callSS hC hX hbs hbA [] (c_L_cell g s0 L xs _ (44) (show (44 : Int32) = nI 44 from rfl) (by omega) hJ) mL_cell k333 rfl rfl rfl ⟨(Nat.le_of_ble_eq_true rfl), (Nat.le_of_ble_eq_true rfl)⟩ (Nat.le_of_ble_eq_true rfl) ⟨(Nat.le_of_ble_eq_true rfl), (Nat.le_of_ble_eq_true rfl)⟩ dL_would_16 (fun r_16 b_16 hp_16 _ => ?_)
  obtain ⟨⟨j_16, hj_16, rfl⟩, rfl⟩ := hp_16
  dsimp only [jrepl, List.set, jstk]
  refine j_iconst hC (3) dL_would_19 (by decide) ?_
  refine j_irem hC dL_would_20 (by decide) ?_
  refine j_istore_n hC dL_would_21 rfl rfl rfl rfl (fun v_21 e_21 => ?_)
  obtain ⟨l, hl, hl2⟩ : ∃ l, v_21 = nI l ∧ l ≤ 2 := ⟨j_16 % 3, e_21.trans (pk_rem (d := 3) hj_16 (by decide) (by decide)), by omega⟩
  refine j_aload_n hC dL_would_22 rfl rfl ?_
  refine j_iload_n hC dL_would_23 rfl rfl ?_
  refine j_iload_n hC dL_would_24 rfl rfl ?_
  refine j_callCW hC hW (c_X6_ifLamp g a T _ v_12 v_21 hW hw) mX6_ifLamp k570 rfl rfl ⟨(Nat.le_of_ble_eq_true rfl), (Nat.le_of_ble_eq_true rfl)⟩ (Nat.le_of_ble_eq_true rfl) ⟨(Nat.le_of_ble_eq_true rfl), (Nat.le_of_ble_eq_true rfl)⟩ dL_would_25 (fun r_25 b_25 hp_25 _ => ?_)
  obtain ⟨q_25, hW2⟩ := hp_25
  rw [oi_v hi hii hk hl hl2] at q_25 hW2
  have q_25 : r_25 = some (Value.int (dysV (lampS T.1 v_12 v_21))) := q_25
  subst q_25
  have hW : CW g a T b_25 := hW2
  dsimp only [jrepl, List.set, jstk]
  refine j_istore hC dL_would_28 rfl rfl rfl (fun v_28 e_28 => ?_)
  refine j_aload_n hC dL_would_30 rfl rfl ?_
  refine j_iload_n hC dL_would_31 rfl rfl ?_
  refine j_callCW hC hW (c_X6_bestSwap g a T _ v_21 hW hw) mX6_bestSwap k581 rfl rfl ⟨(Nat.le_of_ble_eq_true rfl), (Nat.le_of_ble_eq_true rfl)⟩ (Nat.le_of_ble_eq_true rfl) ⟨(Nat.le_of_ble_eq_true rfl), (Nat.le_of_ble_eq_true rfl)⟩ dL_would_32 (fun r_32 b_32 hp_32 _ => ?_)
  obtain ⟨q_32, hW2⟩ := hp_32
  rw [ob_v hl hl2] at q_32 hW2
  have q_32 : r_32 = some (Value.int ((bsR T.1 v_21 (bLs T.1).length).1)) := q_32
  subst q_32
  have hW : CW g a T b_32 := hW2
  dsimp only [jrepl, List.set, jstk]
  refine j_istore hC dL_would_35 rfl rfl rfl (fun v_35 e_35 => ?_)
  obtain ⟨bb, hb1, hb2, hb3, hb4⟩ := bs_law (S := T.1) (y := v_21) (i := i) hw hii hn7
  have hb5 : v_35 = nI bb := e_35.trans hb2
  refine j_aload_n hC dL_would_37 rfl rfl ?_
  refine j_iload hC dL_would_38 rfl ?_
  refine j_iload_n hC dL_would_40 rfl rfl ?_
  refine j_callCW hC hW (c_X6_ifLamp g a T _ v_35 v_21 hW hw) mX6_ifLamp k570 rfl rfl ⟨(Nat.le_of_ble_eq_true rfl), (Nat.le_of_ble_eq_true rfl)⟩ (Nat.le_of_ble_eq_true rfl) ⟨(Nat.le_of_ble_eq_true rfl), (Nat.le_of_ble_eq_true rfl)⟩ dL_would_41 (fun r_41 b_41 hp_41 _ => ?_)
  obtain ⟨q_41, hW2⟩ := hp_41
  rw [oi_v hb5 hb1 hk hl hl2] at q_41 hW2
  have q_41 : r_41 = some (Value.int (dysV (lampS T.1 v_35 v_21))) := q_41
  subst q_41
  have hW : CW g a T b_41 := hW2
  dsimp only [jrepl, List.set, jstk]
  refine j_istore hC dL_would_44 rfl rfl rfl (fun v_44 e_44 => ?_)
  have hv : v_28 = -9 ∨ ∃ d : Nat, v_28 = nI d ∧ 1 ≤ d ∧ d ≤ 7 := by rw [e_28]; exact lamp_dys hw hn hn7
  have hm1 : v_44 = -9 → v_28 = -9 := by rw [e_44, e_28, hb5, hi]; exact hb3
  have hm2 : ¬ v_28 = -9 → ¬ v_28 < v_44 := by rw [e_44, e_28, hb5, hi]; exact hb4
  have L_71 : ∀ (bs : List va_W) (hW : CW g a T bs), J g (jRm 8 171 250 2000) E 12 71 [(0, .ref a), (2, .int v_12), (3, .int v_21), (4, .int v_28), (5, .int v_35), (6, .int v_44)] [] bs (120) (1080) := by
    intro bs hW
    have L_109 : ∀ (x7 : Int32) (bs : List va_W) (h7x : x7 = 1) (hW : CW g a T bs), J g (jRm 8 171 250 2000) E 12 109 [(0, .ref a), (2, .int v_12), (3, .int v_21), (4, .int v_28), (5, .int v_35), (6, .int v_44), (7, .int x7)] [] bs (120) (1080) := by
      intro x7 bs h7x hW
      refine j_iload hC dL_would_109 rfl ?_
      refine j_if_eq hC dL_would_111 (tgt := 183) (by decide) (fun c_111 => ?_) (fun c_111 => ?_)
      · exact absurd (h7x.symm.trans c_111) (by decide)
      · skip
        refine j_aload_n hC dL_would_114 rfl rfl ?_
        refine j_iload_n hC dL_would_115 rfl rfl ?_
        refine j_iconst hC (1) dL_would_116 (by decide) ?_
        refine j_callCW hC hW (c_X6_setStock g a T _ v_21 1 hW) mX6_setStock k585 rfl rfl ⟨(Nat.le_of_ble_eq_true rfl), (Nat.le_of_ble_eq_true rfl)⟩ (Nat.le_of_ble_eq_true rfl) ⟨(Nat.le_of_ble_eq_true rfl), (Nat.le_of_ble_eq_true rfl)⟩ dL_would_117 (fun r_117 b_117 hp_117 _ => ?_)
        obtain ⟨q_117, hW2⟩ := hp_117
        rw [os_set hl hl2 hst] at q_117 hW2
        have q_117 : r_117 = some (Value.int (0)) := q_117
        subst q_117
        have hW : CW g a (oPush T (stkS T.1 v_21)) b_117 := hW2
        dsimp only [jrepl, List.set, jstk]
        refine j_if_ne hC dL_would_120 (tgt := 183) (by decide) (fun c_120 => ?_) (fun c_120 => ?_)
        · exact absurd rfl c_120
        · skip
          refine j_aload_n hC dL_would_123 rfl rfl ?_
          refine j_iload_n hC dL_would_124 rfl rfl ?_
          refine j_iload_n hC dL_would_125 rfl rfl ?_
          refine j_callCW hC hW (c_X6_swap g a (oPush T (stkS T.1 v_21)) _ v_12 v_21 hW) mX6_swap k593 rfl rfl ⟨(Nat.le_of_ble_eq_true rfl), (Nat.le_of_ble_eq_true rfl)⟩ (Nat.le_of_ble_eq_true rfl) ⟨(Nat.le_of_ble_eq_true rfl), (Nat.le_of_ble_eq_true rfl)⟩ dL_would_126 (fun r_126 b_126 hp_126 _ => ?_)
          obtain ⟨q_126, hW2⟩ := hp_126
          rw [ow_1 hi hii hk hl hl2] at q_126 hW2
          have q_126 : r_126 = some (Value.int (0)) := q_126
          subst q_126
          have hW : CW g a (oPush (oPush T (stkS T.1 v_21)) (swpS T.1 v_12 v_21)) b_126 := hW2
          dsimp only [jrepl, List.set, jstk]
          refine j_if_ne hC dL_would_129 (tgt := 183) (by decide) (fun c_129 => ?_) (fun c_129 => ?_)
          · exact absurd rfl c_129
          · skip
            refine j_aload_n hC dL_would_132 rfl rfl ?_
            refine j_callCW hC hW (c_X6_days g a (oPush (oPush T (stkS T.1 v_21)) (swpS T.1 v_12 v_21)) _  hW hw) mX6_days k543 rfl rfl ⟨(Nat.le_of_ble_eq_true rfl), (Nat.le_of_ble_eq_true rfl)⟩ (Nat.le_of_ble_eq_true rfl) ⟨(Nat.le_of_ble_eq_true rfl), (Nat.le_of_ble_eq_true rfl)⟩ dL_would_133 (fun r_133 b_133 hp_133 _ => ?_)
            obtain ⟨q_133, hW2⟩ := hp_133
            rw [(show (oDays (oPush (oPush T (stkS T.1 v_21)) (swpS T.1 v_12 v_21))).1 = dysV (lampS T.1 v_12 v_21) from swp_dys)] at q_133
            subst q_133
            have hW : CW g a (oPush (oPush T (stkS T.1 v_21)) (swpS T.1 v_12 v_21)) b_133 := by exact hW2
            dsimp only [jrepl, List.set, jstk]
            refine j_iload hC dL_would_136 rfl ?_
            refine j_icmp_ne hC dL_would_138 (tgt := 183) (by decide) (fun c_138 => ?_) (fun c_138 => ?_)
            · exact absurd e_28.symm c_138
            · skip
              refine j_aload_n hC dL_would_141 rfl rfl ?_
              refine j_iload_n hC dL_would_142 rfl rfl ?_
              refine j_iconst hC (3) dL_would_143 (by decide) ?_
              refine j_callCW hC hW (c_X6_light g a (oPush (oPush T (stkS T.1 v_21)) (swpS T.1 v_12 v_21)) _ v_12 3 hW hw) mX6_light k426 rfl rfl ⟨(Nat.le_of_ble_eq_true rfl), (Nat.le_of_ble_eq_true rfl)⟩ (Nat.le_of_ble_eq_true rfl) ⟨(Nat.le_of_ble_eq_true rfl), (Nat.le_of_ble_eq_true rfl)⟩ dL_would_144 (fun r_144 b_144 hp_144 _ => ?_)
              obtain ⟨q_144, hW2⟩ := hp_144
              rw [ol_s3 hi hii hk] at q_144
              subst q_144
              have hW : CW g a (oPush (oPush T (stkS T.1 v_21)) (swpS T.1 v_12 v_21)) b_144 := by rw [oLight_2] at hW2; exact hW2
              dsimp only [jrepl, List.set, jstk]
              refine j_iload_n hC dL_would_147 rfl rfl ?_
              refine j_icmp_ne hC dL_would_148 (tgt := 183) (by decide) (fun c_148 => ?_) (fun c_148 => ?_)
              · exact absurd rfl c_148
              · skip
                refine j_aload_n hC dL_would_151 rfl rfl ?_
                refine j_iload_n hC dL_would_152 rfl rfl ?_
                refine j_bipush hC (8) dL_would_153 (by decide) ?_
                refine j_callCW hC hW (c_X6_light g a (oPush (oPush T (stkS T.1 v_21)) (swpS T.1 v_12 v_21)) _ v_12 8 hW hw) mX6_light k426 rfl rfl ⟨(Nat.le_of_ble_eq_true rfl), (Nat.le_of_ble_eq_true rfl)⟩ (Nat.le_of_ble_eq_true rfl) ⟨(Nat.le_of_ble_eq_true rfl), (Nat.le_of_ble_eq_true rfl)⟩ dL_would_155 (fun r_155 b_155 hp_155 _ => ?_)
                obtain ⟨q_155, hW2⟩ := hp_155
                rw [ol_s8 hi hii hk] at q_155
                subst q_155
                have hW : CW g a (oPush (oPush T (stkS T.1 v_21)) (swpS T.1 v_12 v_21)) b_155 := by rw [oLight_2] at hW2; exact hW2
                dsimp only [jrepl, List.set, jstk]
                refine j_sipush hC (3000) dL_would_158 (by decide) ?_
                refine j_iload_n hC dL_would_161 rfl rfl ?_
                refine j_iconst hC (1) dL_would_162 (by decide) ?_
                refine j_iadd hC dL_would_163 ?_
                refine j_imul hC dL_would_164 ?_
                refine j_icmp_ne hC dL_would_165 (tgt := 183) (by decide) (fun c_165 => ?_) (fun c_165 => ?_)
                · exact absurd (life_mul hl hl2) c_165
                · skip
                  refine j_aload_n hC dL_would_168 rfl rfl ?_
                  refine j_iload_n hC dL_would_169 rfl rfl ?_
                  refine j_iload_n hC dL_would_170 rfl rfl ?_
                  refine j_callCW hC hW (c_X6_swap g a (oPush (oPush T (stkS T.1 v_21)) (swpS T.1 v_12 v_21)) _ v_12 v_21 hW) mX6_swap k593 rfl rfl ⟨(Nat.le_of_ble_eq_true rfl), (Nat.le_of_ble_eq_true rfl)⟩ (Nat.le_of_ble_eq_true rfl) ⟨(Nat.le_of_ble_eq_true rfl), (Nat.le_of_ble_eq_true rfl)⟩ dL_would_171 (fun r_171 b_171 hp_171 _ => ?_)
                  obtain ⟨q_171, hW2⟩ := hp_171
                  rw [ow_2 hi hii hk hl hl2] at q_171 hW2
                  have q_171 : r_171 = some (Value.int (-2)) := q_171
                  subst q_171
                  have hW : CW g a (oPush (oPush T (stkS T.1 v_21)) (swpS T.1 v_12 v_21)) b_171 := hW2
                  dsimp only [jrepl, List.set, jstk]
                  refine j_bipush hC (-2) dL_would_174 (by decide) ?_
                  refine j_icmp_ne hC dL_would_176 (tgt := 183) (by decide) (fun c_176 => ?_) (fun c_176 => ?_)
                  · exact absurd rfl c_176
                  · skip
                    refine j_iconst hC (1) dL_would_179 (by decide) ?_
                    refine j_goto hC dL_would_180 (tgt := 184) (by decide) ?_
                    refine j_istore hC dL_would_184 rfl rfl rfl (fun v_184 e_184 => ?_)
                    refine j_iload hC dL_would_186 rfl ?_
                    refine j_if_eq hC dL_would_188 (tgt := 220) (by decide) (fun c_188 => ?_) (fun c_188 => ?_)
                    · exact absurd c_188 (by rw [e_184]; decide)
                    · skip
                      refine j_aload_n hC dL_would_191 rfl rfl ?_
                      refine j_callCW hC hW (c_X6_undo g a (oPush (oPush T (stkS T.1 v_21)) (swpS T.1 v_12 v_21)) _  hW) mX6_undo k559 rfl rfl ⟨(Nat.le_of_ble_eq_true rfl), (Nat.le_of_ble_eq_true rfl)⟩ (Nat.le_of_ble_eq_true rfl) ⟨(Nat.le_of_ble_eq_true rfl), (Nat.le_of_ble_eq_true rfl)⟩ dL_would_192 (fun r_192 b_192 hp_192 _ => ?_)
                      obtain ⟨q_192, hW2⟩ := hp_192
                      rw [ou_push] at q_192 hW2
                      have q_192 : r_192 = some (Value.int (nI ((oPush T (stkS T.1 v_21)).2.1.take 7).length)) := q_192
                      subst q_192
                      have hW : CW g a ((oPush T (stkS T.1 v_21)).1, (oPush T (stkS T.1 v_21)).2.1.take 7, (oPush T (stkS T.1 v_21)).2.2) b_192 := hW2
                      dsimp only [jrepl, List.set, jstk]
                      refine j_if_lt hC dL_would_195 (tgt := 220) (by decide) (fun c_195 => ?_) (fun c_195 => ?_)
                      · exact absurd c_195 (nI_pos (Nat.lt_of_le_of_lt take7 (by decide)))
                      · skip
                        refine j_aload_n hC dL_would_198 rfl rfl ?_
                        refine j_callCW hC hW (c_X6_undo g a ((oPush T (stkS T.1 v_21)).1, (oPush T (stkS T.1 v_21)).2.1.take 7, (oPush T (stkS T.1 v_21)).2.2) _  hW) mX6_undo k559 rfl rfl ⟨(Nat.le_of_ble_eq_true rfl), (Nat.le_of_ble_eq_true rfl)⟩ (Nat.le_of_ble_eq_true rfl) ⟨(Nat.le_of_ble_eq_true rfl), (Nat.le_of_ble_eq_true rfl)⟩ dL_would_199 (fun r_199 b_199 hp_199 _ => ?_)
                        obtain ⟨q_199, hW2⟩ := hp_199
                        rw [ou_2] at q_199 hW2
                        have q_199 : r_199 = some (Value.int (nI ((T.2.1.take 7).take 6).length)) := q_199
                        subst q_199
                        have hW : CW g a (T.1, (T.2.1.take 7).take 6, T.2.2) b_199 := hW2
                        dsimp only [jrepl, List.set, jstk]
                        refine j_if_lt hC dL_would_202 (tgt := 220) (by decide) (fun c_202 => ?_) (fun c_202 => ?_)
                        · exact absurd c_202 (nI_pos take76)
                        · skip
                          refine j_aload_n hC dL_would_205 rfl rfl ?_
                          refine j_bipush hC (6) dL_would_206 (by decide) ?_
                          refine j_iload_n hC dL_would_208 rfl rfl ?_
                          refine j_iadd hC dL_would_209 ?_
                          refine j_callCW hC hW (c_X6_told g a (T.1, (T.2.1.take 7).take 6, T.2.2) _ _ hW hw) mX6_told k405 rfl rfl ⟨(Nat.le_of_ble_eq_true rfl), (Nat.le_of_ble_eq_true rfl)⟩ (Nat.le_of_ble_eq_true rfl) ⟨(Nat.le_of_ble_eq_true rfl), (Nat.le_of_ble_eq_true rfl)⟩ dL_would_210 (fun r_210 b_210 hp_210 _ => ?_)
                          obtain ⟨q_210, hW2⟩ := hp_210
                          rw [(tv_lamp (T := (T.1, (T.2.1.take 7).take 6, T.2.2)) hl hl2 hst)] at q_210
                          subst q_210
                          have hW : CW g a (T.1, (T.2.1.take 7).take 6, T.2.2) b_210 := by exact hW2
                          dsimp only [jrepl, List.set, jstk]
                          refine j_if_ne hC dL_would_213 (tgt := 220) (by decide) (fun c_213 => ?_) (fun c_213 => ?_)
                          · exact absurd rfl c_213
                          · skip
                            refine j_iconst hC (1) dL_would_216 (by decide) ?_
                            refine j_goto hC dL_would_217 (tgt := 221) (by decide) ?_
                            refine j_istore hC dL_would_221 rfl rfl rfl (fun v_221 e_221 => ?_)
                            refine j_aload_n hC dL_would_223 rfl rfl ?_
                            refine j_callCW hC hW (c_X6_days g a (T.1, (T.2.1.take 7).take 6, T.2.2) _  hW hw) mX6_days k543 rfl rfl ⟨(Nat.le_of_ble_eq_true rfl), (Nat.le_of_ble_eq_true rfl)⟩ (Nat.le_of_ble_eq_true rfl) ⟨(Nat.le_of_ble_eq_true rfl), (Nat.le_of_ble_eq_true rfl)⟩ dL_would_224 (fun r_224 b_224 hp_224 _ => ?_)
                            obtain ⟨q_224, hW2⟩ := hp_224
                            rw [(show (oDays (T.1, (T.2.1.take 7).take 6, T.2.2)).1 = dysV T.1 from rfl)] at q_224
                            subst q_224
                            have hW : CW g a (T.1, (T.2.1.take 7).take 6, T.2.2) b_224 := by exact hW2
                            dsimp only [jrepl, List.set, jstk]
                            refine j_istore hC dL_would_227 rfl rfl rfl (fun v_227 e_227 => ?_)
                            refine j_aload_n hC dL_would_229 rfl rfl ?_
                            refine j_iconst hC (5) dL_would_230 (by decide) ?_
                            refine j_callCW hC hW (c_X6_told g a (T.1, (T.2.1.take 7).take 6, T.2.2) _ 5 hW hw) mX6_told k405 rfl rfl ⟨(Nat.le_of_ble_eq_true rfl), (Nat.le_of_ble_eq_true rfl)⟩ (Nat.le_of_ble_eq_true rfl) ⟨(Nat.le_of_ble_eq_true rfl), (Nat.le_of_ble_eq_true rfl)⟩ dL_would_231 (fun r_231 b_231 hp_231 _ => ?_)
                            obtain ⟨q_231, hW2⟩ := hp_231
                            rw [(show (oTold (T.1, (T.2.1.take 7).take 6, T.2.2) 5).1 = bHrs T.1 from rfl)] at q_231
                            subst q_231
                            have hW : CW g a (T.1, (T.2.1.take 7).take 6, T.2.2) b_231 := by exact hW2
                            dsimp only [jrepl, List.set, jstk]
                            refine j_istore hC dL_would_234 rfl rfl rfl (fun v_234 e_234 => ?_)
                            refine j_aload_n hC dL_would_236 rfl rfl ?_
                            refine j_bipush hC (10) dL_would_237 (by decide) ?_
                            refine j_callCW hC hW (c_X6_told g a (T.1, (T.2.1.take 7).take 6, T.2.2) _ 10 hW hw) mX6_told k405 rfl rfl ⟨(Nat.le_of_ble_eq_true rfl), (Nat.le_of_ble_eq_true rfl)⟩ (Nat.le_of_ble_eq_true rfl) ⟨(Nat.le_of_ble_eq_true rfl), (Nat.le_of_ble_eq_true rfl)⟩ dL_would_239 (fun r_239 b_239 hp_239 _ => ?_)
                            obtain ⟨q_239, hW2⟩ := hp_239
                            rw [(show (oTold (T.1, (T.2.1.take 7).take 6, T.2.2) 10).1 = bPa T.1 from rfl)] at q_239
                            subst q_239
                            have hW : CW g a (T.1, (T.2.1.take 7).take 6, T.2.2) b_239 := by exact hW2
                            dsimp only [jrepl, List.set, jstk]
                            refine j_aload_n hC dL_would_242 rfl rfl ?_
                            refine j_bipush hC (11) dL_would_243 (by decide) ?_
                            refine j_callCW hC hW (c_X6_told g a (T.1, (T.2.1.take 7).take 6, T.2.2) _ 11 hW hw) mX6_told k405 rfl rfl ⟨(Nat.le_of_ble_eq_true rfl), (Nat.le_of_ble_eq_true rfl)⟩ (Nat.le_of_ble_eq_true rfl) ⟨(Nat.le_of_ble_eq_true rfl), (Nat.le_of_ble_eq_true rfl)⟩ dL_would_245 (fun r_245 b_245 hp_245 _ => ?_)
                            obtain ⟨q_245, hW2⟩ := hp_245
                            rw [(show (oTold (T.1, (T.2.1.take 7).take 6, T.2.2) 11).1 = bFa T.1 from rfl)] at q_245
                            subst q_245
                            have hW : CW g a (T.1, (T.2.1.take 7).take 6, T.2.2) b_245 := by exact hW2
                            dsimp only [jrepl, List.set, jstk]
                            refine j_iadd hC dL_would_248 ?_
                            refine j_istore hC dL_would_249 rfl rfl rfl (fun v_249 e_249 => ?_)
                            refine j_aload_n hC dL_would_251 rfl rfl ?_
                            refine j_callCW hC hW (c_X6_carryOut g a (T.1, (T.2.1.take 7).take 6, T.2.2) _ hW hw ⟨hh, hh1, by omega⟩) mX6_carryOut k552 rfl rfl ⟨(Nat.le_of_ble_eq_true rfl), (Nat.le_of_ble_eq_true rfl)⟩ (Nat.le_of_ble_eq_true rfl) ⟨(Nat.le_of_ble_eq_true rfl), (Nat.le_of_ble_eq_true rfl)⟩ dL_would_252 (fun r_252 b_252 hp_252 _ => ?_)
                            obtain ⟨rfl, hW2⟩ := hp_252
                            dsimp only [jrepl, List.set, jstk]
                            refine j_istore hC dL_would_255 rfl rfl rfl (fun v_255 e_255 => ?_)
                            refine j_iload hC dL_would_257 rfl ?_
                            refine j_bipush hC (-9) dL_would_259 (by decide) ?_
                            refine j_icmp_ne hC dL_would_261 (tgt := 292) (by decide) (fun c_261 => ?_) (fun c_261 => ?_)
                            · skip
                              obtain ⟨hyes, hD1, hDn, hDv⟩ := (pl_or (S := T.1) hw hk hn).resolve_left (fun q => c_261 (e_227.trans q.1))
                              have hco := co_yes (T := (T.1, (T.2.1.take 7).take 6, T.2.2)) hn hh1 hh2 hDv (by show dysN T.1 ≤ 7; omega)
                              rw [hco] at hW2
                              have hW : CW g a (oPush (T.1, (T.2.1.take 7).take 6, T.2.2) (coS T.1 (dysN T.1))) b_252 := hW2
                              obtain ⟨hc1, hc2, hc3, hc4, cb, hc5, hc6⟩ := co_end hn7 hwl hh1 hh2 hyes hDv (by omega)
                              have hw4 : rswf (bRs (oPush (T.1, (T.2.1.take 7).take 6, T.2.2) (coS T.1 (dysN T.1))).1) := by show rswf (bRs (coS T.1 (dysN T.1))); rw [hc3]; exact hw
                              have hk4 : (bLs (oPush (T.1, (T.2.1.take 7).take 6, T.2.2) (coS T.1 (dysN T.1))).1).length ≤ 10 := by show (bLs (coS T.1 (dysN T.1))).length ≤ 10; omega
                              have hn4 : (oTold (oPush (T.1, (T.2.1.take 7).take 6, T.2.2) (coS T.1 (dysN T.1))) 0).1 = nI (bLs T.1).length := by show nI (bLs (coS T.1 (dysN T.1))).length = _; rw [hc1]
                              have hv4 : v_255 = nI cb := e_255.trans ((congrArg Prod.fst hco).trans hc5)
                              refine j_iload hC dL_would_292 rfl ?_
                              refine j_if_eq hC dL_would_294 (tgt := 363) (by decide) (fun c_294 => ?_) (fun c_294 => ?_)
                              · exact absurd c_294 (by rw [e_221]; decide)
                              · skip
                                refine j_iload hC dL_would_297 rfl ?_
                                refine j_if_lt hC dL_would_299 (tgt := 363) (by decide) (fun c_299 => ?_) (fun c_299 => ?_)
                                · exact absurd c_299 (by rw [hv4]; exact nI_pos (by omega))
                                · skip
                                  refine j_iload hC dL_would_302 rfl ?_
                                  refine j_aload_n hC dL_would_304 rfl rfl ?_
                                  refine j_iconst hC (0) dL_would_305 (by decide) ?_
                                  refine j_callCW hC hW (c_X6_told g a (oPush (T.1, (T.2.1.take 7).take 6, T.2.2) (coS T.1 (dysN T.1))) _ 0 hW hw4) mX6_told k405 rfl rfl ⟨(Nat.le_of_ble_eq_true rfl), (Nat.le_of_ble_eq_true rfl)⟩ (Nat.le_of_ble_eq_true rfl) ⟨(Nat.le_of_ble_eq_true rfl), (Nat.le_of_ble_eq_true rfl)⟩ dL_would_306 (fun r_306 b_306 hp_306 _ => ?_)
                                  obtain ⟨q_306, hW2⟩ := hp_306
                                  rw [hn4] at q_306
                                  subst q_306
                                  have hW : CW g a (oPush (T.1, (T.2.1.take 7).take 6, T.2.2) (coS T.1 (dysN T.1))) b_306 := by exact hW2
                                  dsimp only [jrepl, List.set, jstk]
                                  refine j_icmp_gt hC dL_would_309 (tgt := 363) (by decide) (fun c_309 => ?_) (fun c_309 => ?_)
                                  · exact absurd c_309 (by rw [hv4]; exact nI_nlt hc6 (by omega))
                                  · skip
                                    refine j_aload_n hC dL_would_312 rfl rfl ?_
                                    refine j_iconst hC (5) dL_would_313 (by decide) ?_
                                    refine j_callCW hC hW (c_X6_told g a (oPush (T.1, (T.2.1.take 7).take 6, T.2.2) (coS T.1 (dysN T.1))) _ 5 hW hw4) mX6_told k405 rfl rfl ⟨(Nat.le_of_ble_eq_true rfl), (Nat.le_of_ble_eq_true rfl)⟩ (Nat.le_of_ble_eq_true rfl) ⟨(Nat.le_of_ble_eq_true rfl), (Nat.le_of_ble_eq_true rfl)⟩ dL_would_314 (fun r_314 b_314 hp_314 _ => ?_)
                                    obtain ⟨q_314, hW2⟩ := hp_314
                                    rw [(show (oTold (oPush (T.1, (T.2.1.take 7).take 6, T.2.2) (coS T.1 (dysN T.1))) 5).1 = bHrs (coS T.1 (dysN T.1)) from rfl)] at q_314
                                    subst q_314
                                    have hW : CW g a (oPush (T.1, (T.2.1.take 7).take 6, T.2.2) (coS T.1 (dysN T.1))) b_314 := by exact hW2
                                    dsimp only [jrepl, List.set, jstk]
                                    refine j_iload hC dL_would_317 rfl ?_
                                    refine j_bipush hC (24) dL_would_319 (by decide) ?_
                                    refine j_iload hC dL_would_321 rfl ?_
                                    refine j_imul hC dL_would_323 ?_
                                    refine j_iadd hC dL_would_324 ?_
                                    refine j_icmp_ne hC dL_would_325 (tgt := 363) (by decide) (fun c_325 => ?_) (fun c_325 => ?_)
                                    · exact absurd (by rw [e_234, e_227]; exact co_hr hh1 hDv) c_325
                                    · skip
                                      refine j_aload_n hC dL_would_328 rfl rfl ?_
                                      refine j_bipush hC (10) dL_would_329 (by decide) ?_
                                      refine j_callCW hC hW (c_X6_told g a (oPush (T.1, (T.2.1.take 7).take 6, T.2.2) (coS T.1 (dysN T.1))) _ 10 hW hw4) mX6_told k405 rfl rfl ⟨(Nat.le_of_ble_eq_true rfl), (Nat.le_of_ble_eq_true rfl)⟩ (Nat.le_of_ble_eq_true rfl) ⟨(Nat.le_of_ble_eq_true rfl), (Nat.le_of_ble_eq_true rfl)⟩ dL_would_331 (fun r_331 b_331 hp_331 _ => ?_)
                                      obtain ⟨q_331, hW2⟩ := hp_331
                                      rw [(show (oTold (oPush (T.1, (T.2.1.take 7).take 6, T.2.2) (coS T.1 (dysN T.1))) 10).1 = bPa (coS T.1 (dysN T.1)) from rfl)] at q_331
                                      subst q_331
                                      have hW : CW g a (oPush (T.1, (T.2.1.take 7).take 6, T.2.2) (coS T.1 (dysN T.1))) b_331 := by exact hW2
                                      dsimp only [jrepl, List.set, jstk]
                                      refine j_aload_n hC dL_would_334 rfl rfl ?_
                                      refine j_bipush hC (11) dL_would_335 (by decide) ?_
                                      refine j_callCW hC hW (c_X6_told g a (oPush (T.1, (T.2.1.take 7).take 6, T.2.2) (coS T.1 (dysN T.1))) _ 11 hW hw4) mX6_told k405 rfl rfl ⟨(Nat.le_of_ble_eq_true rfl), (Nat.le_of_ble_eq_true rfl)⟩ (Nat.le_of_ble_eq_true rfl) ⟨(Nat.le_of_ble_eq_true rfl), (Nat.le_of_ble_eq_true rfl)⟩ dL_would_337 (fun r_337 b_337 hp_337 _ => ?_)
                                      obtain ⟨q_337, hW2⟩ := hp_337
                                      rw [(show (oTold (oPush (T.1, (T.2.1.take 7).take 6, T.2.2) (coS T.1 (dysN T.1))) 11).1 = bFa (coS T.1 (dysN T.1)) from rfl)] at q_337
                                      subst q_337
                                      have hW : CW g a (oPush (T.1, (T.2.1.take 7).take 6, T.2.2) (coS T.1 (dysN T.1))) b_337 := by exact hW2
                                      dsimp only [jrepl, List.set, jstk]
                                      refine j_iadd hC dL_would_340 ?_
                                      refine j_iload hC dL_would_341 rfl ?_
                                      refine j_aload_n hC dL_would_343 rfl rfl ?_
                                      refine j_iconst hC (0) dL_would_344 (by decide) ?_
                                      refine j_callCW hC hW (c_X6_told g a (oPush (T.1, (T.2.1.take 7).take 6, T.2.2) (coS T.1 (dysN T.1))) _ 0 hW hw4) mX6_told k405 rfl rfl ⟨(Nat.le_of_ble_eq_true rfl), (Nat.le_of_ble_eq_true rfl)⟩ (Nat.le_of_ble_eq_true rfl) ⟨(Nat.le_of_ble_eq_true rfl), (Nat.le_of_ble_eq_true rfl)⟩ dL_would_345 (fun r_345 b_345 hp_345 _ => ?_)
                                      obtain ⟨q_345, hW2⟩ := hp_345
                                      rw [hn4] at q_345
                                      subst q_345
                                      have hW : CW g a (oPush (T.1, (T.2.1.take 7).take 6, T.2.2) (coS T.1 (dysN T.1))) b_345 := by exact hW2
                                      dsimp only [jrepl, List.set, jstk]
                                      refine j_iadd hC dL_would_348 ?_
                                      refine j_icmp_ne hC dL_would_349 (tgt := 363) (by decide) (fun c_349 => ?_) (fun c_349 => ?_)
                                      · exact absurd (by rw [e_249]; exact hc4) c_349
                                      · skip
                                        refine j_aload_n hC dL_would_352 rfl rfl ?_
                                        refine j_callCS hC hW (c_L_lights g a (oPush (T.1, (T.2.1.take 7).take 6, T.2.2) (coS T.1 (dysN T.1))) _ hW hk4 hc2 hw4) mL_lights k402 rfl ⟨(Nat.le_of_ble_eq_true rfl), (Nat.le_of_ble_eq_true rfl)⟩ (Nat.le_of_ble_eq_true rfl) ⟨(Nat.le_of_ble_eq_true rfl), (Nat.le_of_ble_eq_true rfl)⟩ dL_would_353 (fun r_353 b_353 hp_353 _ => ?_)
                                        obtain ⟨rfl, hW2⟩ := hp_353
                                        have hW : CW g a (oPush (T.1, (T.2.1.take 7).take 6, T.2.2) (coS T.1 (dysN T.1))) b_353 := hW2
                                        dsimp only [jrepl, List.set, jstk]
                                        refine j_if_eq hC dL_would_356 (tgt := 363) (by decide) (fun c_356 => ?_) (fun c_356 => ?_)
                                        · exact absurd c_356 (by decide)
                                        · skip
                                          refine j_iconst hC (1) dL_would_359 (by decide) ?_
                                          refine j_goto hC dL_would_360 (tgt := 364) (by decide) ?_
                                          refine j_iret hC hQ rfl (by first | rfl | (subst_vars; rfl) | (split <;> rfl)) (Nat.le_of_ble_eq_true rfl) (Nat.le_of_ble_eq_true rfl) dL_would_364 ((CW_len hW).trans (CW_len h).symm) ?_
                                          exact ⟨rfl, (oPush (T.1, (T.2.1.take 7).take 6, T.2.2) (coS T.1 (dysN T.1))), hW, hw4⟩
                            · skip
                              have hno : dysV T.1 = -9 := e_227.symm.trans c_261
                              have hco := co_no (T := (T.1, (T.2.1.take 7).take 6, T.2.2)) hn hno
                              rw [hco] at hW2
                              have hW : CW g a (T.1, (T.2.1.take 7).take 6, T.2.2) b_252 := hW2
                              refine j_iload hC dL_would_264 rfl ?_
                              refine j_if_eq hC dL_would_266 (tgt := 290) (by decide) (fun c_266 => ?_) (fun c_266 => ?_)
                              · exact absurd c_266 (by rw [e_221]; decide)
                              · skip
                                refine j_iload hC dL_would_269 rfl ?_
                                refine j_bipush hC (-2) dL_would_271 (by decide) ?_
                                refine j_icmp_ne hC dL_would_273 (tgt := 290) (by decide) (fun c_273 => ?_) (fun c_273 => ?_)
                                · exact absurd (e_255.trans (congrArg Prod.fst hco)) c_273
                                · skip
                                  refine j_aload_n hC dL_would_276 rfl rfl ?_
                                  refine j_iconst hC (5) dL_would_277 (by decide) ?_
                                  refine j_callCW hC hW (c_X6_told g a (T.1, (T.2.1.take 7).take 6, T.2.2) _ 5 hW hw) mX6_told k405 rfl rfl ⟨(Nat.le_of_ble_eq_true rfl), (Nat.le_of_ble_eq_true rfl)⟩ (Nat.le_of_ble_eq_true rfl) ⟨(Nat.le_of_ble_eq_true rfl), (Nat.le_of_ble_eq_true rfl)⟩ dL_would_278 (fun r_278 b_278 hp_278 _ => ?_)
                                  obtain ⟨q_278, hW2⟩ := hp_278
                                  rw [(show (oTold (T.1, (T.2.1.take 7).take 6, T.2.2) 5).1 = bHrs T.1 from rfl)] at q_278
                                  subst q_278
                                  have hW : CW g a (T.1, (T.2.1.take 7).take 6, T.2.2) b_278 := by exact hW2
                                  dsimp only [jrepl, List.set, jstk]
                                  refine j_iload hC dL_would_281 rfl ?_
                                  refine j_icmp_ne hC dL_would_283 (tgt := 290) (by decide) (fun c_283 => ?_) (fun c_283 => ?_)
                                  · exact absurd e_234.symm c_283
                                  · skip
                                    refine j_iconst hC (1) dL_would_286 (by decide) ?_
                                    refine j_goto hC dL_would_287 (tgt := 291) (by decide) ?_
                                    refine j_iret hC hQ rfl (by first | rfl | (subst_vars; rfl) | (split <;> rfl)) (Nat.le_of_ble_eq_true rfl) (Nat.le_of_ble_eq_true rfl) dL_would_291 ((CW_len hW).trans (CW_len h).symm) ?_
                                    exact ⟨rfl, (T.1, (T.2.1.take 7).take 6, T.2.2), hW, hw⟩
    refine j_iload hC dL_would_71 rfl ?_
    refine j_bipush hC (-9) dL_would_73 (by decide) ?_
    refine j_icmp_ne hC dL_would_75 (tgt := 88) (by decide) (fun c_75 => ?_) (fun c_75 => ?_)
    · skip
      refine j_iload hC dL_would_88 rfl ?_
      refine j_bipush hC (-9) dL_would_90 (by decide) ?_
      refine j_icmp_eq hC dL_would_92 (tgt := 102) (by decide) (fun c_92 => ?_) (fun c_92 => ?_)
      · skip
        refine j_iconst hC (1) dL_would_102 (by decide) ?_
        refine j_goto hC dL_would_103 (tgt := 107) (by decide) ?_
        refine j_istore hC dL_would_107 rfl rfl rfl (fun v_107 e_107 => ?_)
        refine j_pick [0, 2, 3, 4, 5, 6, 7] ?_
        exact L_109 _ _ e_107 hW
      · skip
        refine j_iload hC dL_would_95 rfl ?_
        refine j_iload hC dL_would_97 rfl ?_
        refine j_icmp_gt hC dL_would_99 (tgt := 106) (by decide) (fun c_99 => ?_) (fun c_99 => ?_)
        · exact absurd c_99 (hm2 c_92)
        · skip
          refine j_iconst hC (1) dL_would_102 (by decide) ?_
          refine j_goto hC dL_would_103 (tgt := 107) (by decide) ?_
          refine j_istore hC dL_would_107 rfl rfl rfl (fun v_107 e_107 => ?_)
          refine j_pick [0, 2, 3, 4, 5, 6, 7] ?_
          exact L_109 _ _ e_107 hW
    · skip
      refine j_iload hC dL_would_78 rfl ?_
      refine j_bipush hC (-9) dL_would_80 (by decide) ?_
      refine j_icmp_ne hC dL_would_82 (tgt := 106) (by decide) (fun c_82 => ?_) (fun c_82 => ?_)
      · exact absurd (hm1 c_75) c_82
      · skip
        refine j_goto hC dL_would_85 (tgt := 102) (by decide) ?_
        refine j_iconst hC (1) dL_would_102 (by decide) ?_
        refine j_goto hC dL_would_103 (tgt := 107) (by decide) ?_
        refine j_istore hC dL_would_107 rfl rfl rfl (fun v_107 e_107 => ?_)
        refine j_pick [0, 2, 3, 4, 5, 6, 7] ?_
        exact L_109 _ _ e_107 hW
  refine j_iload hC dL_would_46 rfl ?_
  refine j_if_lt hC dL_would_48 (tgt := 55) (by decide) (fun c_48 => ?_) (fun c_48 => ?_)
  · skip
    refine j_iconst hC (0) dL_would_55 (by decide) ?_
    refine j_iload hC dL_would_56 rfl ?_
    refine j_bipush hC (-9) dL_would_58 (by decide) ?_
    refine j_icmp_eq hC dL_would_60 (tgt := 67) (by decide) (fun c_60 => ?_) (fun c_60 => ?_)
    · skip
      refine j_iconst hC (0) dL_would_67 (by decide) ?_
      refine j_icmp_ne hC dL_would_68 (tgt := 106) (by decide) (fun c_68 => ?_) (fun c_68 => ?_)
      · exact absurd c_68 (by decide)
      · skip
        refine j_pick [0, 2, 3, 4, 5, 6] ?_
        exact L_71 _ hW
    · skip
      refine j_iconst hC (1) dL_would_63 (by decide) ?_
      refine j_goto hC dL_would_64 (tgt := 68) (by decide) ?_
      refine j_icmp_ne hC dL_would_68 (tgt := 106) (by decide) (fun c_68 => ?_) (fun c_68 => ?_)
      · exact hv.elim (fun q => absurd q c_60) (fun ⟨d, q, q1, q2⟩ => absurd c_48 (by rw [q]; exact nI_pos (by omega)))
      · exact absurd c_68 (by decide)
  · skip
    refine j_iconst hC (1) dL_would_51 (by decide) ?_
    refine j_goto hC dL_would_52 (tgt := 56) (by decide) ?_
    refine j_iload hC dL_would_56 rfl ?_
    refine j_bipush hC (-9) dL_would_58 (by decide) ?_
    refine j_icmp_eq hC dL_would_60 (tgt := 67) (by decide) (fun c_60 => ?_) (fun c_60 => ?_)
    · skip
      refine j_iconst hC (0) dL_would_67 (by decide) ?_
      refine j_icmp_ne hC dL_would_68 (tgt := 106) (by decide) (fun c_68 => ?_) (fun c_68 => ?_)
      · exact absurd (show v_28 < 0 by rw [c_60]; decide) c_48
      · exact absurd c_68 (by decide)
    · skip
      refine j_iconst hC (1) dL_would_63 (by decide) ?_
      refine j_goto hC dL_would_64 (tgt := 68) (by decide) ?_
      refine j_icmp_ne hC dL_would_68 (tgt := 106) (by decide) (fun c_68 => ?_) (fun c_68 => ?_)
      · exact absurd c_68 (by decide)
      · skip
        refine j_pick [0, 2, 3, 4, 5, 6] ?_
        exact L_71 _ hW
