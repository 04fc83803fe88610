set_option maxHeartbeats 1000000 in
set_option maxRecDepth 100000 in
theorem c_L_lights (g : jG) (a : Nat) (T : St3) (b : List va_W) (h : CW g a T b) (hk : (bLs T.1).length ≤ 10) (hwl : ∀ L ∈ bLs T.1, WL L) (hw : rswf (bRs T.1)) : Con g yL_lights cL_lights 8 (some .boolean) 6 144 0 0 [.ref a] b (fun rr bb => rr = some (.int 1) ∧ CW g a T bb) := by
  refine Con.of (own := RL) (lv := [(0, .ref a)]) (by decide) rfl (Nat.le_of_ble_eq_true rfl) rfl ?_
  intro E hC hQ hN
  have hW := h
  refine j_iconst hC (0) dL_lights_0 (by decide) ?_
  refine j_istore_n hC dL_lights_1 rfl rfl rfl rfl (fun v_1 e_1 => ?_)
  refine j_iconst hC (0) dL_lights_2 (by decide) ?_
  refine j_istore_n hC dL_lights_3 rfl rfl rfl rfl (fun v_3 e_3 => ?_)
  refine j_iconst hC (0) dL_lights_4 (by decide) ?_
  refine j_istore_n hC dL_lights_5 rfl rfl rfl rfl (fun v_5 e_5 => ?_)
  have L_6 : ∀ (fu : Nat) (i : Nat) (x1 x2 x3 : Int32) (bs : List va_W) (hfu : (bLs T.1).length + 1 ≤ i + fu) (hi : i ≤ (bLs T.1).length) (h1 : x1 = jiter (cReady (bNeed T.1) (lsX (bLs T.1))) 0 i) (h2 : x2 = jiter (cBurnt (lsX (bLs T.1))) 0 i) (h3 : x3 = nI i) (hW : CW g a T bs), J g (jRm 6 144 0 0) E 8 6 [(0, .ref a), (1, .int x1), (2, .int x2), (3, .int x3)] [] bs (0) (0) := by
    intro fu
    induction fu with
    | zero => intro i x1 x2 x3 bs hfu hi h1 h2 h3 hW; exact absurd hfu (by omega)
    | succ fu ih_6 =>
      intro i x1 x2 x3 bs hfu hi h1 h2 h3 hW
      refine j_iload_n hC dL_lights_6 rfl rfl ?_
      refine j_aload_n hC dL_lights_7 rfl rfl ?_
      refine j_iconst hC (0) dL_lights_8 (by decide) ?_
      refine j_callCW hC hW (c_X6_told g a T _ 0 hW hw) mX6_told k405 rfl rfl ⟨(Nat.le_of_ble_eq_true rfl), (Nat.le_of_ble_eq_true rfl)⟩ (Nat.le_of_ble_eq_true rfl) ⟨(Nat.le_of_ble_eq_true rfl), (Nat.le_of_ble_eq_true rfl)⟩ dL_lights_9 (fun r_9 b_9 hp_9 _ => ?_)
      obtain ⟨q_9, hW2⟩ := hp_9
      rw [tv_0] at q_9
      subst q_9
      have hW : CW g a T b_9 := by exact hW2
      dsimp only [jrepl, List.set, jstk]
      refine j_icmp_ge hC dL_lights_12 (tgt := 221) (by decide) (fun c_12 => ?_) (fun c_12 => ?_)
      · skip
        have hie : i = (bLs T.1).length := Nat.le_antisymm hi (ge_of h3 (by omega) (by omega) c_12)
        refine j_aload_n hC dL_lights_221 rfl rfl ?_
        refine j_iconst hC (1) dL_lights_222 (by decide) ?_
        refine j_callCW hC hW (c_X6_told g a T _ 1 hW hw) mX6_told k405 rfl rfl ⟨(Nat.le_of_ble_eq_true rfl), (Nat.le_of_ble_eq_true rfl)⟩ (Nat.le_of_ble_eq_true rfl) ⟨(Nat.le_of_ble_eq_true rfl), (Nat.le_of_ble_eq_true rfl)⟩ dL_lights_223 (fun r_223 b_223 hp_223 _ => ?_)
        obtain ⟨q_223, hW2⟩ := hp_223
        rw [tv_1] at q_223
        subst q_223
        have hW : CW g a T b_223 := by exact hW2
        dsimp only [jrepl, List.set, jstk]
        refine j_iload_n hC dL_lights_226 rfl rfl ?_
        refine j_icmp_ne hC dL_lights_227 (tgt := 244) (by decide) (fun c_227 => ?_) (fun c_227 => ?_)
        · exact absurd (by rw [h1, hie]; rfl) c_227
        · skip
          refine j_aload_n hC dL_lights_230 rfl rfl ?_
          refine j_bipush hC (9) dL_lights_231 (by decide) ?_
          refine j_callCW hC hW (c_X6_told g a T _ 9 hW hw) mX6_told k405 rfl rfl ⟨(Nat.le_of_ble_eq_true rfl), (Nat.le_of_ble_eq_true rfl)⟩ (Nat.le_of_ble_eq_true rfl) ⟨(Nat.le_of_ble_eq_true rfl), (Nat.le_of_ble_eq_true rfl)⟩ dL_lights_233 (fun r_233 b_233 hp_233 _ => ?_)
          obtain ⟨q_233, hW2⟩ := hp_233
          rw [tv_9] at q_233
          subst q_233
          have hW : CW g a T b_233 := by exact hW2
          dsimp only [jrepl, List.set, jstk]
          refine j_iload_n hC dL_lights_236 rfl rfl ?_
          refine j_icmp_ne hC dL_lights_237 (tgt := 244) (by decide) (fun c_237 => ?_) (fun c_237 => ?_)
          · exact absurd (by rw [h2, hie]; rfl) c_237
          · skip
            refine j_iconst hC (1) dL_lights_240 (by decide) ?_
            refine j_goto hC dL_lights_241 (tgt := 245) (by decide) ?_
            refine j_iret hC hQ rfl (by first | rfl | (subst_vars; rfl) | (split <;> rfl)) (Nat.le_of_ble_eq_true rfl) (Nat.le_of_ble_eq_true rfl) dL_lights_245 ((CW_len hW).trans (CW_len h).symm) ?_
            exact ⟨rfl, hW⟩
      · skip
        have hik : i < (bLs T.1).length := lt_of h3 (by omega) (by omega) c_12
        have hL := WS_L hwl hik
        obtain ⟨b0, hb3, he2⟩ := WL_bat hL
        refine j_iconst hC (5) dL_lights_15 (by decide) ?_
        refine j_aload_n hC dL_lights_16 rfl rfl ?_
        refine j_iload_n hC dL_lights_17 rfl rfl ?_
        refine j_iconst hC (2) dL_lights_18 (by decide) ?_
        refine j_callCW hC hW (c_X6_light g a T _ x3 2 hW hw) mX6_light k426 rfl rfl ⟨(Nat.le_of_ble_eq_true rfl), (Nat.le_of_ble_eq_true rfl)⟩ (Nat.le_of_ble_eq_true rfl) ⟨(Nat.le_of_ble_eq_true rfl), (Nat.le_of_ble_eq_true rfl)⟩ dL_lights_19 (fun r_19 b_19 hp_19 _ => ?_)
        obtain ⟨q_19, hW2⟩ := hp_19
        rw [ol_2 h3 hik hk] at q_19
        subst q_19
        have hW : CW g a T b_19 := by rw [oLight_2] at hW2; exact hW2
        dsimp only [jrepl, List.set, jstk]
        refine j_callSR hC [] (c_L_rated g _ b0 he2 hb3) mL_rated k485 rfl rfl rfl ⟨(Nat.le_of_ble_eq_true rfl), (Nat.le_of_ble_eq_true rfl)⟩ (Nat.le_of_ble_eq_true rfl) ⟨(Nat.le_of_ble_eq_true rfl), (Nat.le_of_ble_eq_true rfl)⟩ dL_lights_22 ?_
        dsimp only [jrepl, List.set, jstk]
        refine j_imul hC dL_lights_25 ?_
        refine j_aload_n hC dL_lights_26 rfl rfl ?_
        refine j_iload_n hC dL_lights_27 rfl rfl ?_
        refine j_iconst hC (5) dL_lights_28 (by decide) ?_
        refine j_callCW hC hW (c_X6_light g a T _ x3 5 hW hw) mX6_light k426 rfl rfl ⟨(Nat.le_of_ble_eq_true rfl), (Nat.le_of_ble_eq_true rfl)⟩ (Nat.le_of_ble_eq_true rfl) ⟨(Nat.le_of_ble_eq_true rfl), (Nat.le_of_ble_eq_true rfl)⟩ dL_lights_29 (fun r_29 b_29 hp_29 _ => ?_)
        obtain ⟨q_29, hW2⟩ := hp_29
        rw [ol_5 h3 hik hk] at q_29
        subst q_29
        have hW : CW g a T b_29 := by rw [oLight_2] at hW2; exact hW2
        dsimp only [jrepl, List.set, jstk]
        refine j_imul hC dL_lights_32 ?_
        refine j_sipush hC (4000) dL_lights_33 (by decide) ?_
        refine j_idiv hC dL_lights_36 (by decide) ?_
        refine j_istore hC dL_lights_37 rfl rfl rfl (fun v_37 e_37 => ?_)
        refine j_aload_n hC dL_lights_39 rfl rfl ?_
        refine j_iload_n hC dL_lights_40 rfl rfl ?_
        refine j_bipush hC (7) dL_lights_41 (by decide) ?_
        refine j_callCW hC hW (c_X6_light g a T _ x3 7 hW hw) mX6_light k426 rfl rfl ⟨(Nat.le_of_ble_eq_true rfl), (Nat.le_of_ble_eq_true rfl)⟩ (Nat.le_of_ble_eq_true rfl) ⟨(Nat.le_of_ble_eq_true rfl), (Nat.le_of_ble_eq_true rfl)⟩ dL_lights_43 (fun r_43 b_43 hp_43 _ => ?_)
        obtain ⟨q_43, hW2⟩ := hp_43
        rw [ol_7 h3 hik hk] at q_43
        subst q_43
        have hW : CW g a T b_43 := by rw [oLight_2] at hW2; exact hW2
        dsimp only [jrepl, List.set, jstk]
        refine j_bipush hC (24) dL_lights_46 (by decide) ?_
        refine j_idiv hC dL_lights_48 (by decide) ?_
        refine j_istore hC dL_lights_49 rfl rfl rfl (fun v_49 e_49 => ?_)
        have L_77 : ∀ (x6 : Int32) (bs : List va_W) (h6 : x6 = endL (lI T.1 i)) (hW : CW g a T bs), J g (jRm 6 144 0 0) E 8 77 [(0, .ref a), (1, .int x1), (2, .int x2), (3, .int x3), (4, .int v_37), (6, .int x6)] [] bs (0) (0) := by
          intro x6 bs h6 hW
          have h4 : v_37 = capL (lI T.1 i) := e_37
          refine j_iload hC dL_lights_77 rfl ?_
          refine j_aload_n hC dL_lights_79 rfl rfl ?_
          refine j_iconst hC (4) dL_lights_80 (by decide) ?_
          refine j_callCW hC hW (c_X6_told g a T _ 4 hW hw) mX6_told k405 rfl rfl ⟨(Nat.le_of_ble_eq_true rfl), (Nat.le_of_ble_eq_true rfl)⟩ (Nat.le_of_ble_eq_true rfl) ⟨(Nat.le_of_ble_eq_true rfl), (Nat.le_of_ble_eq_true rfl)⟩ dL_lights_81 (fun r_81 b_81 hp_81 _ => ?_)
          obtain ⟨q_81, hW2⟩ := hp_81
          rw [tv_4] at q_81
          subst q_81
          have hW : CW g a T b_81 := by exact hW2
          dsimp only [jrepl, List.set, jstk]
          refine j_icmp_lt hC dL_lights_84 (tgt := 91) (by decide) (fun c_84 => ?_) (fun c_84 => ?_)
          · skip
            refine j_iconst hC (0) dL_lights_91 (by decide) ?_
            refine j_istore hC dL_lights_92 rfl rfl rfl (fun v_92 e_92 => ?_)
            refine j_aload_n hC dL_lights_94 rfl rfl ?_
            refine j_iload_n hC dL_lights_95 rfl rfl ?_
            refine j_bipush hC (6) dL_lights_96 (by decide) ?_
            refine j_callCW hC hW (c_X6_light g a T _ x3 6 hW hw) mX6_light k426 rfl rfl ⟨(Nat.le_of_ble_eq_true rfl), (Nat.le_of_ble_eq_true rfl)⟩ (Nat.le_of_ble_eq_true rfl) ⟨(Nat.le_of_ble_eq_true rfl), (Nat.le_of_ble_eq_true rfl)⟩ dL_lights_98 (fun r_98 b_98 hp_98 _ => ?_)
            obtain ⟨q_98, hW2⟩ := hp_98
            rw [ol_6 h3 hik hk] at q_98
            subst q_98
            have hW : CW g a T b_98 := by rw [oLight_2] at hW2; exact hW2
            dsimp only [jrepl, List.set, jstk]
            refine j_iload hC dL_lights_101 rfl ?_
            refine j_icmp_ne hC dL_lights_103 (tgt := 182) (by decide) (fun c_103 => ?_) (fun c_103 => ?_)
            · exact absurd h4.symm c_103
            · skip
              refine j_aload_n hC dL_lights_106 rfl rfl ?_
              refine j_iload_n hC dL_lights_107 rfl rfl ?_
              refine j_bipush hC (7) dL_lights_108 (by decide) ?_
              refine j_callCW hC hW (c_X6_light g a T _ x3 7 hW hw) mX6_light k426 rfl rfl ⟨(Nat.le_of_ble_eq_true rfl), (Nat.le_of_ble_eq_true rfl)⟩ (Nat.le_of_ble_eq_true rfl) ⟨(Nat.le_of_ble_eq_true rfl), (Nat.le_of_ble_eq_true rfl)⟩ dL_lights_110 (fun r_110 b_110 hp_110 _ => ?_)
              obtain ⟨q_110, hW2⟩ := hp_110
              rw [ol_7 h3 hik hk] at q_110
              subst q_110
              have hW : CW g a T b_110 := by rw [oLight_2] at hW2; exact hW2
              dsimp only [jrepl, List.set, jstk]
              refine j_bipush hC (24) dL_lights_113 (by decide) ?_
              refine j_iload hC dL_lights_115 rfl ?_
              refine j_imul hC dL_lights_117 ?_
              refine j_icmp_gt hC dL_lights_118 (tgt := 182) (by decide) (fun c_118 => ?_) (fun c_118 => ?_)
              · exact absurd (by rw [h4] at c_118; exact c_118) (WL_cap6 hL).1
              · skip
                refine j_aload_n hC dL_lights_121 rfl rfl ?_
                refine j_iload_n hC dL_lights_122 rfl rfl ?_
                refine j_bipush hC (7) dL_lights_123 (by decide) ?_
                refine j_callCW hC hW (c_X6_light g a T _ x3 7 hW hw) mX6_light k426 rfl rfl ⟨(Nat.le_of_ble_eq_true rfl), (Nat.le_of_ble_eq_true rfl)⟩ (Nat.le_of_ble_eq_true rfl) ⟨(Nat.le_of_ble_eq_true rfl), (Nat.le_of_ble_eq_true rfl)⟩ dL_lights_125 (fun r_125 b_125 hp_125 _ => ?_)
                obtain ⟨q_125, hW2⟩ := hp_125
                rw [ol_7 h3 hik hk] at q_125
                subst q_125
                have hW : CW g a T b_125 := by rw [oLight_2] at hW2; exact hW2
                dsimp only [jrepl, List.set, jstk]
                refine j_if_lt hC dL_lights_128 (tgt := 182) (by decide) (fun c_128 => ?_) (fun c_128 => ?_)
                · exact absurd c_128 (WL_cap6 hL).2
                · skip
                  refine j_aload_n hC dL_lights_131 rfl rfl ?_
                  refine j_iload_n hC dL_lights_132 rfl rfl ?_
                  refine j_bipush hC (9) dL_lights_133 (by decide) ?_
                  refine j_callCW hC hW (c_X6_light g a T _ x3 9 hW hw) mX6_light k426 rfl rfl ⟨(Nat.le_of_ble_eq_true rfl), (Nat.le_of_ble_eq_true rfl)⟩ (Nat.le_of_ble_eq_true rfl) ⟨(Nat.le_of_ble_eq_true rfl), (Nat.le_of_ble_eq_true rfl)⟩ dL_lights_135 (fun r_135 b_135 hp_135 _ => ?_)
                  obtain ⟨q_135, hW2⟩ := hp_135
                  rw [ol_9 h3 hik hk] at q_135
                  subst q_135
                  have hW : CW g a T b_135 := by rw [oLight_2] at hW2; exact hW2
                  dsimp only [jrepl, List.set, jstk]
                  refine j_iload hC dL_lights_138 rfl ?_
                  refine j_icmp_ne hC dL_lights_140 (tgt := 182) (by decide) (fun c_140 => ?_) (fun c_140 => ?_)
                  · exact absurd h6.symm c_140
                  · skip
                    refine j_aload_n hC dL_lights_143 rfl rfl ?_
                    refine j_iload_n hC dL_lights_144 rfl rfl ?_
                    refine j_bipush hC (10) dL_lights_145 (by decide) ?_
                    refine j_callCW hC hW (c_X6_light g a T _ x3 10 hW hw) mX6_light k426 rfl rfl ⟨(Nat.le_of_ble_eq_true rfl), (Nat.le_of_ble_eq_true rfl)⟩ (Nat.le_of_ble_eq_true rfl) ⟨(Nat.le_of_ble_eq_true rfl), (Nat.le_of_ble_eq_true rfl)⟩ dL_lights_147 (fun r_147 b_147 hp_147 _ => ?_)
                    obtain ⟨q_147, hW2⟩ := hp_147
                    rw [ol_10 h3 hik hk] at q_147
                    subst q_147
                    have hW : CW g a T b_147 := by rw [oLight_2] at hW2; exact hW2
                    dsimp only [jrepl, List.set, jstk]
                    refine j_iload hC dL_lights_150 rfl ?_
                    refine j_if_eq hC dL_lights_152 (tgt := 159) (by decide) (fun c_152 => ?_) (fun c_152 => ?_)
                    · skip
                      refine j_iconst hC (0) dL_lights_159 (by decide) ?_
                      refine j_icmp_ne hC dL_lights_160 (tgt := 182) (by decide) (fun c_160 => ?_) (fun c_160 => ?_)
                      · first | exact absurd (if_pos (by rw [← h6]; exact Int32.not_lt.mp c_84)) c_160 | exact absurd (if_neg (by rw [← h6]; exact Int32.not_le.mpr c_84)) c_160
                      · skip
                        refine j_aload_n hC dL_lights_163 rfl rfl ?_
                        refine j_iload_n hC dL_lights_164 rfl rfl ?_
                        refine j_bipush hC (11) dL_lights_165 (by decide) ?_
                        refine j_callCW hC hW (c_X6_light g a T _ x3 11 hW hw) mX6_light k426 rfl rfl ⟨(Nat.le_of_ble_eq_true rfl), (Nat.le_of_ble_eq_true rfl)⟩ (Nat.le_of_ble_eq_true rfl) ⟨(Nat.le_of_ble_eq_true rfl), (Nat.le_of_ble_eq_true rfl)⟩ dL_lights_167 (fun r_167 b_167 hp_167 _ => ?_)
                        obtain ⟨q_167, hW2⟩ := hp_167
                        rw [ol_11 h3 hik hk] at q_167
                        subst q_167
                        have hW : CW g a T b_167 := by rw [oLight_2] at hW2; exact hW2
                        dsimp only [jrepl, List.set, jstk]
                        refine j_aload_n hC dL_lights_170 rfl rfl ?_
                        refine j_iload_n hC dL_lights_171 rfl rfl ?_
                        refine j_iconst hC (2) dL_lights_172 (by decide) ?_
                        refine j_callCW hC hW (c_X6_light g a T _ x3 2 hW hw) mX6_light k426 rfl rfl ⟨(Nat.le_of_ble_eq_true rfl), (Nat.le_of_ble_eq_true rfl)⟩ (Nat.le_of_ble_eq_true rfl) ⟨(Nat.le_of_ble_eq_true rfl), (Nat.le_of_ble_eq_true rfl)⟩ dL_lights_173 (fun r_173 b_173 hp_173 _ => ?_)
                        obtain ⟨q_173, hW2⟩ := hp_173
                        rw [ol_2 h3 hik hk] at q_173
                        subst q_173
                        have hW : CW g a T b_173 := by rw [oLight_2] at hW2; exact hW2
                        dsimp only [jrepl, List.set, jstk]
                        refine j_callSR hC [] (c_L_rated g _ b0 he2 hb3) mL_rated k485 rfl rfl rfl ⟨(Nat.le_of_ble_eq_true rfl), (Nat.le_of_ble_eq_true rfl)⟩ (Nat.le_of_ble_eq_true rfl) ⟨(Nat.le_of_ble_eq_true rfl), (Nat.le_of_ble_eq_true rfl)⟩ dL_lights_176 ?_
                        dsimp only [jrepl, List.set, jstk]
                        refine j_icmp_le hC dL_lights_179 (tgt := 184) (by decide) (fun c_179 => ?_) (fun c_179 => ?_)
                        · skip
                          refine j_iload_n hC dL_lights_184 rfl rfl ?_
                          refine j_iload hC dL_lights_185 rfl ?_
                          refine j_if_eq hC dL_lights_187 (tgt := 194) (by decide) (fun c_187 => ?_) (fun c_187 => ?_)
                          · skip
                            refine j_iconst hC (0) dL_lights_194 (by decide) ?_
                            refine j_iadd hC dL_lights_195 ?_
                            refine j_istore_n hC dL_lights_196 rfl rfl rfl rfl (fun v_196 e_196 => ?_)
                            refine j_iload_n hC dL_lights_197 rfl rfl ?_
                            refine j_aload_n hC dL_lights_198 rfl rfl ?_
                            refine j_iload_n hC dL_lights_199 rfl rfl ?_
                            refine j_bipush hC (8) dL_lights_200 (by decide) ?_
                            refine j_callCW hC hW (c_X6_light g a T _ x3 8 hW hw) mX6_light k426 rfl rfl ⟨(Nat.le_of_ble_eq_true rfl), (Nat.le_of_ble_eq_true rfl)⟩ (Nat.le_of_ble_eq_true rfl) ⟨(Nat.le_of_ble_eq_true rfl), (Nat.le_of_ble_eq_true rfl)⟩ dL_lights_202 (fun r_202 b_202 hp_202 _ => ?_)
                            obtain ⟨q_202, hW2⟩ := hp_202
                            rw [ol_8 h3 hik hk] at q_202
                            subst q_202
                            have hW : CW g a T b_202 := by rw [oLight_2] at hW2; exact hW2
                            dsimp only [jrepl, List.set, jstk]
                            refine j_if_ne hC dL_lights_205 (tgt := 212) (by decide) (fun c_205 => ?_) (fun c_205 => ?_)
                            · skip
                              refine j_iconst hC (0) dL_lights_212 (by decide) ?_
                              refine j_iadd hC dL_lights_213 ?_
                              refine j_istore_n hC dL_lights_214 rfl rfl rfl rfl (fun v_214 e_214 => ?_)
                              refine j_iinc hC (1) dL_lights_215 rfl rfl rfl rfl rfl (fun v_215 e_215 => ?_)
                              refine j_goto hC dL_lights_218 (tgt := 6) (by decide) ?_
                              refine j_pick [0, 1, 2, 3] ?_
                              exact ih_6 (i + 1) _ _ _ _ (by omega) (by omega) (by rw [e_196, jit_s, ← h1]; first | exact (if_pos (by rw [← h6]; exact Int32.not_lt.mp c_84)).symm | (rw [Int32.add_zero]; exact (if_neg (by rw [← h6]; exact Int32.not_le.mpr c_84)).symm)) (by rw [e_214, jit_s, ← h2]; first | exact (if_pos c_205).symm | (rw [Int32.add_zero]; exact (if_neg c_205).symm)) (jsucc e_215 h3) hW
                            · skip
                              refine j_iconst hC (1) dL_lights_208 (by decide) ?_
                              refine j_goto hC dL_lights_209 (tgt := 213) (by decide) ?_
                              refine j_iadd hC dL_lights_213 ?_
                              refine j_istore_n hC dL_lights_214 rfl rfl rfl rfl (fun v_214 e_214 => ?_)
                              refine j_iinc hC (1) dL_lights_215 rfl rfl rfl rfl rfl (fun v_215 e_215 => ?_)
                              refine j_goto hC dL_lights_218 (tgt := 6) (by decide) ?_
                              refine j_pick [0, 1, 2, 3] ?_
                              exact ih_6 (i + 1) _ _ _ _ (by omega) (by omega) (by rw [e_196, jit_s, ← h1]; first | exact (if_pos (by rw [← h6]; exact Int32.not_lt.mp c_84)).symm | (rw [Int32.add_zero]; exact (if_neg (by rw [← h6]; exact Int32.not_le.mpr c_84)).symm)) (by rw [e_214, jit_s, ← h2]; first | exact (if_pos c_205).symm | (rw [Int32.add_zero]; exact (if_neg c_205).symm)) (jsucc e_215 h3) hW
                          · exact absurd c_187 (by rw [e_92]; decide)
                        · exact absurd (WL_res hL) c_179
                    · exact absurd c_152 (by rw [e_92]; decide)
          · skip
            refine j_iconst hC (1) dL_lights_87 (by decide) ?_
            refine j_goto hC dL_lights_88 (tgt := 92) (by decide) ?_
            refine j_istore hC dL_lights_92 rfl rfl rfl (fun v_92 e_92 => ?_)
            refine j_aload_n hC dL_lights_94 rfl rfl ?_
            refine j_iload_n hC dL_lights_95 rfl rfl ?_
            refine j_bipush hC (6) dL_lights_96 (by decide) ?_
            refine j_callCW hC hW (c_X6_light g a T _ x3 6 hW hw) mX6_light k426 rfl rfl ⟨(Nat.le_of_ble_eq_true rfl), (Nat.le_of_ble_eq_true rfl)⟩ (Nat.le_of_ble_eq_true rfl) ⟨(Nat.le_of_ble_eq_true rfl), (Nat.le_of_ble_eq_true rfl)⟩ dL_lights_98 (fun r_98 b_98 hp_98 _ => ?_)
            obtain ⟨q_98, hW2⟩ := hp_98
            rw [ol_6 h3 hik hk] at q_98
            subst q_98
            have hW : CW g a T b_98 := by rw [oLight_2] at hW2; exact hW2
            dsimp only [jrepl, List.set, jstk]
            refine j_iload hC dL_lights_101 rfl ?_
            refine j_icmp_ne hC dL_lights_103 (tgt := 182) (by decide) (fun c_103 => ?_) (fun c_103 => ?_)
            · exact absurd h4.symm c_103
            · skip
              refine j_aload_n hC dL_lights_106 rfl rfl ?_
              refine j_iload_n hC dL_lights_107 rfl rfl ?_
              refine j_bipush hC (7) dL_lights_108 (by decide) ?_
              refine j_callCW hC hW (c_X6_light g a T _ x3 7 hW hw) mX6_light k426 rfl rfl ⟨(Nat.le_of_ble_eq_true rfl), (Nat.le_of_ble_eq_true rfl)⟩ (Nat.le_of_ble_eq_true rfl) ⟨(Nat.le_of_ble_eq_true rfl), (Nat.le_of_ble_eq_true rfl)⟩ dL_lights_110 (fun r_110 b_110 hp_110 _ => ?_)
              obtain ⟨q_110, hW2⟩ := hp_110
              rw [ol_7 h3 hik hk] at q_110
              subst q_110
              have hW : CW g a T b_110 := by rw [oLight_2] at hW2; exact hW2
              dsimp only [jrepl, List.set, jstk]
              refine j_bipush hC (24) dL_lights_113 (by decide) ?_
              refine j_iload hC dL_lights_115 rfl ?_
              refine j_imul hC dL_lights_117 ?_
              refine j_icmp_gt hC dL_lights_118 (tgt := 182) (by decide) (fun c_118 => ?_) (fun c_118 => ?_)
              · exact absurd (by rw [h4] at c_118; exact c_118) (WL_cap6 hL).1
              · skip
                refine j_aload_n hC dL_lights_121 rfl rfl ?_
                refine j_iload_n hC dL_lights_122 rfl rfl ?_
                refine j_bipush hC (7) dL_lights_123 (by decide) ?_
                refine j_callCW hC hW (c_X6_light g a T _ x3 7 hW hw) mX6_light k426 rfl rfl ⟨(Nat.le_of_ble_eq_true rfl), (Nat.le_of_ble_eq_true rfl)⟩ (Nat.le_of_ble_eq_true rfl) ⟨(Nat.le_of_ble_eq_true rfl), (Nat.le_of_ble_eq_true rfl)⟩ dL_lights_125 (fun r_125 b_125 hp_125 _ => ?_)
                obtain ⟨q_125, hW2⟩ := hp_125
                rw [ol_7 h3 hik hk] at q_125
                subst q_125
                have hW : CW g a T b_125 := by rw [oLight_2] at hW2; exact hW2
                dsimp only [jrepl, List.set, jstk]
                refine j_if_lt hC dL_lights_128 (tgt := 182) (by decide) (fun c_128 => ?_) (fun c_128 => ?_)
                · exact absurd c_128 (WL_cap6 hL).2
                · skip
                  refine j_aload_n hC dL_lights_131 rfl rfl ?_
                  refine j_iload_n hC dL_lights_132 rfl rfl ?_
                  refine j_bipush hC (9) dL_lights_133 (by decide) ?_
                  refine j_callCW hC hW (c_X6_light g a T _ x3 9 hW hw) mX6_light k426 rfl rfl ⟨(Nat.le_of_ble_eq_true rfl), (Nat.le_of_ble_eq_true rfl)⟩ (Nat.le_of_ble_eq_true rfl) ⟨(Nat.le_of_ble_eq_true rfl), (Nat.le_of_ble_eq_true rfl)⟩ dL_lights_135 (fun r_135 b_135 hp_135 _ => ?_)
                  obtain ⟨q_135, hW2⟩ := hp_135
                  rw [ol_9 h3 hik hk] at q_135
                  subst q_135
                  have hW : CW g a T b_135 := by rw [oLight_2] at hW2; exact hW2
                  dsimp only [jrepl, List.set, jstk]
                  refine j_iload hC dL_lights_138 rfl ?_
                  refine j_icmp_ne hC dL_lights_140 (tgt := 182) (by decide) (fun c_140 => ?_) (fun c_140 => ?_)
                  · exact absurd h6.symm c_140
                  · skip
                    refine j_aload_n hC dL_lights_143 rfl rfl ?_
                    refine j_iload_n hC dL_lights_144 rfl rfl ?_
                    refine j_bipush hC (10) dL_lights_145 (by decide) ?_
                    refine j_callCW hC hW (c_X6_light g a T _ x3 10 hW hw) mX6_light k426 rfl rfl ⟨(Nat.le_of_ble_eq_true rfl), (Nat.le_of_ble_eq_true rfl)⟩ (Nat.le_of_ble_eq_true rfl) ⟨(Nat.le_of_ble_eq_true rfl), (Nat.le_of_ble_eq_true rfl)⟩ dL_lights_147 (fun r_147 b_147 hp_147 _ => ?_)
                    obtain ⟨q_147, hW2⟩ := hp_147
                    rw [ol_10 h3 hik hk] at q_147
                    subst q_147
                    have hW : CW g a T b_147 := by rw [oLight_2] at hW2; exact hW2
                    dsimp only [jrepl, List.set, jstk]
                    refine j_iload hC dL_lights_150 rfl ?_
                    refine j_if_eq hC dL_lights_152 (tgt := 159) (by decide) (fun c_152 => ?_) (fun c_152 => ?_)
                    · exact absurd c_152 (by rw [e_92]; decide)
                    · skip
                      refine j_iconst hC (1) dL_lights_155 (by decide) ?_
                      refine j_goto hC dL_lights_156 (tgt := 160) (by decide) ?_
                      refine j_icmp_ne hC dL_lights_160 (tgt := 182) (by decide) (fun c_160 => ?_) (fun c_160 => ?_)
                      · first | exact absurd (if_pos (by rw [← h6]; exact Int32.not_lt.mp c_84)) c_160 | exact absurd (if_neg (by rw [← h6]; exact Int32.not_le.mpr c_84)) c_160
                      · skip
                        refine j_aload_n hC dL_lights_163 rfl rfl ?_
                        refine j_iload_n hC dL_lights_164 rfl rfl ?_
                        refine j_bipush hC (11) dL_lights_165 (by decide) ?_
                        refine j_callCW hC hW (c_X6_light g a T _ x3 11 hW hw) mX6_light k426 rfl rfl ⟨(Nat.le_of_ble_eq_true rfl), (Nat.le_of_ble_eq_true rfl)⟩ (Nat.le_of_ble_eq_true rfl) ⟨(Nat.le_of_ble_eq_true rfl), (Nat.le_of_ble_eq_true rfl)⟩ dL_lights_167 (fun r_167 b_167 hp_167 _ => ?_)
                        obtain ⟨q_167, hW2⟩ := hp_167
                        rw [ol_11 h3 hik hk] at q_167
                        subst q_167
                        have hW : CW g a T b_167 := by rw [oLight_2] at hW2; exact hW2
                        dsimp only [jrepl, List.set, jstk]
                        refine j_aload_n hC dL_lights_170 rfl rfl ?_
                        refine j_iload_n hC dL_lights_171 rfl rfl ?_
                        refine j_iconst hC (2) dL_lights_172 (by decide) ?_
                        refine j_callCW hC hW (c_X6_light g a T _ x3 2 hW hw) mX6_light k426 rfl rfl ⟨(Nat.le_of_ble_eq_true rfl), (Nat.le_of_ble_eq_true rfl)⟩ (Nat.le_of_ble_eq_true rfl) ⟨(Nat.le_of_ble_eq_true rfl), (Nat.le_of_ble_eq_true rfl)⟩ dL_lights_173 (fun r_173 b_173 hp_173 _ => ?_)
                        obtain ⟨q_173, hW2⟩ := hp_173
                        rw [ol_2 h3 hik hk] at q_173
                        subst q_173
                        have hW : CW g a T b_173 := by rw [oLight_2] at hW2; exact hW2
                        dsimp only [jrepl, List.set, jstk]
                        refine j_callSR hC [] (c_L_rated g _ b0 he2 hb3) mL_rated k485 rfl rfl rfl ⟨(Nat.le_of_ble_eq_true rfl), (Nat.le_of_ble_eq_true rfl)⟩ (Nat.le_of_ble_eq_true rfl) ⟨(Nat.le_of_ble_eq_true rfl), (Nat.le_of_ble_eq_true rfl)⟩ dL_lights_176 ?_
                        dsimp only [jrepl, List.set, jstk]
                        refine j_icmp_le hC dL_lights_179 (tgt := 184) (by decide) (fun c_179 => ?_) (fun c_179 => ?_)
                        · skip
                          refine j_iload_n hC dL_lights_184 rfl rfl ?_
                          refine j_iload hC dL_lights_185 rfl ?_
                          refine j_if_eq hC dL_lights_187 (tgt := 194) (by decide) (fun c_187 => ?_) (fun c_187 => ?_)
                          · exact absurd c_187 (by rw [e_92]; decide)
                          · skip
                            refine j_iconst hC (1) dL_lights_190 (by decide) ?_
                            refine j_goto hC dL_lights_191 (tgt := 195) (by decide) ?_
                            refine j_iadd hC dL_lights_195 ?_
                            refine j_istore_n hC dL_lights_196 rfl rfl rfl rfl (fun v_196 e_196 => ?_)
                            refine j_iload_n hC dL_lights_197 rfl rfl ?_
                            refine j_aload_n hC dL_lights_198 rfl rfl ?_
                            refine j_iload_n hC dL_lights_199 rfl rfl ?_
                            refine j_bipush hC (8) dL_lights_200 (by decide) ?_
                            refine j_callCW hC hW (c_X6_light g a T _ x3 8 hW hw) mX6_light k426 rfl rfl ⟨(Nat.le_of_ble_eq_true rfl), (Nat.le_of_ble_eq_true rfl)⟩ (Nat.le_of_ble_eq_true rfl) ⟨(Nat.le_of_ble_eq_true rfl), (Nat.le_of_ble_eq_true rfl)⟩ dL_lights_202 (fun r_202 b_202 hp_202 _ => ?_)
                            obtain ⟨q_202, hW2⟩ := hp_202
                            rw [ol_8 h3 hik hk] at q_202
                            subst q_202
                            have hW : CW g a T b_202 := by rw [oLight_2] at hW2; exact hW2
                            dsimp only [jrepl, List.set, jstk]
                            refine j_if_ne hC dL_lights_205 (tgt := 212) (by decide) (fun c_205 => ?_) (fun c_205 => ?_)
                            · skip
                              refine j_iconst hC (0) dL_lights_212 (by decide) ?_
                              refine j_iadd hC dL_lights_213 ?_
                              refine j_istore_n hC dL_lights_214 rfl rfl rfl rfl (fun v_214 e_214 => ?_)
                              refine j_iinc hC (1) dL_lights_215 rfl rfl rfl rfl rfl (fun v_215 e_215 => ?_)
                              refine j_goto hC dL_lights_218 (tgt := 6) (by decide) ?_
                              refine j_pick [0, 1, 2, 3] ?_
                              exact ih_6 (i + 1) _ _ _ _ (by omega) (by omega) (by rw [e_196, jit_s, ← h1]; first | exact (if_pos (by rw [← h6]; exact Int32.not_lt.mp c_84)).symm | (rw [Int32.add_zero]; exact (if_neg (by rw [← h6]; exact Int32.not_le.mpr c_84)).symm)) (by rw [e_214, jit_s, ← h2]; first | exact (if_pos c_205).symm | (rw [Int32.add_zero]; exact (if_neg c_205).symm)) (jsucc e_215 h3) hW
                            · skip
                              refine j_iconst hC (1) dL_lights_208 (by decide) ?_
                              refine j_goto hC dL_lights_209 (tgt := 213) (by decide) ?_
                              refine j_iadd hC dL_lights_213 ?_
                              refine j_istore_n hC dL_lights_214 rfl rfl rfl rfl (fun v_214 e_214 => ?_)
                              refine j_iinc hC (1) dL_lights_215 rfl rfl rfl rfl rfl (fun v_215 e_215 => ?_)
                              refine j_goto hC dL_lights_218 (tgt := 6) (by decide) ?_
                              refine j_pick [0, 1, 2, 3] ?_
                              exact ih_6 (i + 1) _ _ _ _ (by omega) (by omega) (by rw [e_196, jit_s, ← h1]; first | exact (if_pos (by rw [← h6]; exact Int32.not_lt.mp c_84)).symm | (rw [Int32.add_zero]; exact (if_neg (by rw [← h6]; exact Int32.not_le.mpr c_84)).symm)) (by rw [e_214, jit_s, ← h2]; first | exact (if_pos c_205).symm | (rw [Int32.add_zero]; exact (if_neg c_205).symm)) (jsucc e_215 h3) hW
                        · exact absurd (WL_res hL) c_179
        refine j_iload hC dL_lights_51 rfl ?_
        refine j_aload_n hC dL_lights_53 rfl rfl ?_
        refine j_iload_n hC dL_lights_54 rfl rfl ?_
        refine j_bipush hC (8) dL_lights_55 (by decide) ?_
        refine j_callCW hC hW (c_X6_light g a T _ x3 8 hW hw) mX6_light k426 rfl rfl ⟨(Nat.le_of_ble_eq_true rfl), (Nat.le_of_ble_eq_true rfl)⟩ (Nat.le_of_ble_eq_true rfl) ⟨(Nat.le_of_ble_eq_true rfl), (Nat.le_of_ble_eq_true rfl)⟩ dL_lights_57 (fun r_57 b_57 hp_57 _ => ?_)
        obtain ⟨q_57, hW2⟩ := hp_57
        rw [ol_8 h3 hik hk] at q_57
        subst q_57
        have hW : CW g a T b_57 := by rw [oLight_2] at hW2; exact hW2
        dsimp only [jrepl, List.set, jstk]
        refine j_icmp_ge hC dL_lights_60 (tgt := 68) (by decide) (fun c_60 => ?_) (fun c_60 => ?_)
        · skip
          refine j_aload_n hC dL_lights_68 rfl rfl ?_
          refine j_iload_n hC dL_lights_69 rfl rfl ?_
          refine j_bipush hC (8) dL_lights_70 (by decide) ?_
          refine j_callCW hC hW (c_X6_light g a T _ x3 8 hW hw) mX6_light k426 rfl rfl ⟨(Nat.le_of_ble_eq_true rfl), (Nat.le_of_ble_eq_true rfl)⟩ (Nat.le_of_ble_eq_true rfl) ⟨(Nat.le_of_ble_eq_true rfl), (Nat.le_of_ble_eq_true rfl)⟩ dL_lights_72 (fun r_72 b_72 hp_72 _ => ?_)
          obtain ⟨q_72, hW2⟩ := hp_72
          rw [ol_8 h3 hik hk] at q_72
          subst q_72
          have hW : CW g a T b_72 := by rw [oLight_2] at hW2; exact hW2
          dsimp only [jrepl, List.set, jstk]
          refine j_istore hC dL_lights_75 rfl rfl rfl (fun v_75 e_75 => ?_)
          refine j_pick [0, 1, 2, 3, 4, 6] ?_
          exact L_77 _ _ (by rw [e_75]; first | (rw [e_49]; exact (jmin_a (by rw [← e_49]; exact c_60)).symm) | exact (jmin_b (by rw [← e_49]; exact c_60)).symm) hW
        · skip
          refine j_iload hC dL_lights_63 rfl ?_
          refine j_goto hC dL_lights_65 (tgt := 75) (by decide) ?_
          refine j_istore hC dL_lights_75 rfl rfl rfl (fun v_75 e_75 => ?_)
          refine j_pick [0, 1, 2, 3, 4, 6] ?_
          exact L_77 _ _ (by rw [e_75]; first | (rw [e_49]; exact (jmin_a (by rw [← e_49]; exact c_60)).symm) | exact (jmin_b (by rw [← e_49]; exact c_60)).symm) hW
  refine j_pick [0, 1, 2, 3] ?_
  exact L_6 ((bLs T.1).length + 1) 0 _ _ _ _ (by omega) (by omega) e_1 e_3 (e_5.trans nI_0.symm) hW
set_option maxHeartbeats 1000000 in
set_option maxRecDepth 100000 in
theorem c_L_withoutCircuit (g : jG) (a : Nat) (T : St3) (b : List va_W) (c : Int32) (h : CW g a T b) (hk : (bLs T.1).length ≤ 10) (hwl : ∀ L ∈ bLs T.1, WL L) (hw : rswf (bRs T.1)) : Con g yL_withoutCircuit cL_withoutCircuit 4 (some .int) 6 144 0 0 [.ref a, .int c] b (fun rr bb => rr = some (.int (sWo T.1 c)) ∧ CW g a T bb) := by
  refine Con.of (own := RL) (lv := [(0, .ref a), (1, .int c)]) (by decide) rfl (Nat.le_of_ble_eq_true rfl) rfl ?_
  intro E hC hQ hN
  have hW := h
  refine j_iconst hC (0) dL_withoutCircuit_0 (by decide) ?_
  refine j_istore_n hC dL_withoutCircuit_1 rfl rfl rfl rfl (fun v_1 e_1 => ?_)
  refine j_iconst hC (0) dL_withoutCircuit_2 (by decide) ?_
  refine j_istore_n hC dL_withoutCircuit_3 rfl rfl rfl rfl (fun v_3 e_3 => ?_)
  have L_4 : ∀ (fu : Nat) (i : Nat) (x2 x3 : Int32) (bs : List va_W) (hfu : (bLs T.1).length + 1 ≤ i + fu) (hi : i ≤ (bLs T.1).length) (h2 : x2 = jiter (cOther (lsX (bLs T.1)) c) 0 i) (h3 : x3 = nI i) (hW : CW g a T bs), J g (jRm 6 144 0 0) E 4 4 [(0, .ref a), (1, .int c), (2, .int x2), (3, .int x3)] [] bs (0) (0) := by
    intro fu
    induction fu with
    | zero => intro i x2 x3 bs hfu hi h2 h3 hW; exact absurd hfu (by omega)
    | succ fu ih_4 =>
      intro i x2 x3 bs hfu hi h2 h3 hW
      refine j_iload_n hC dL_withoutCircuit_4 rfl rfl ?_
      refine j_aload_n hC dL_withoutCircuit_5 rfl rfl ?_
      refine j_iconst hC (0) dL_withoutCircuit_6 (by decide) ?_
      refine j_callCW hC hW (c_X6_told g a T _ 0 hW hw) mX6_told k405 rfl rfl ⟨(Nat.le_of_ble_eq_true rfl), (Nat.le_of_ble_eq_true rfl)⟩ (Nat.le_of_ble_eq_true rfl) ⟨(Nat.le_of_ble_eq_true rfl), (Nat.le_of_ble_eq_true rfl)⟩ dL_withoutCircuit_7 (fun r_7 b_7 hp_7 _ => ?_)
      obtain ⟨q_7, hW2⟩ := hp_7
      rw [tv_0] at q_7
      subst q_7
      have hW : CW g a T b_7 := by exact hW2
      dsimp only [jrepl, List.set, jstk]
      refine j_icmp_ge hC dL_withoutCircuit_10 (tgt := 39) (by decide) (fun c_10 => ?_) (fun c_10 => ?_)
      · skip
        have hie : i = (bLs T.1).length := Nat.le_antisymm hi (ge_of h3 (by omega) (by omega) c_10)
        refine j_iload_n hC dL_withoutCircuit_39 rfl rfl ?_
        refine j_iret hC hQ rfl rfl (Nat.le_of_ble_eq_true rfl) (Nat.le_of_ble_eq_true rfl) dL_withoutCircuit_40 ((CW_len hW).trans (CW_len h).symm) ?_
        exact ⟨by rw [h2, hie]; rfl, hW⟩
      · skip
        have hik : i < (bLs T.1).length := lt_of h3 (by omega) (by omega) c_10
        refine j_iload_n hC dL_withoutCircuit_13 rfl rfl ?_
        refine j_aload_n hC dL_withoutCircuit_14 rfl rfl ?_
        refine j_iload_n hC dL_withoutCircuit_15 rfl rfl ?_
        refine j_iconst hC (1) dL_withoutCircuit_16 (by decide) ?_
        refine j_callCW hC hW (c_X6_light g a T _ x3 1 hW hw) mX6_light k426 rfl rfl ⟨(Nat.le_of_ble_eq_true rfl), (Nat.le_of_ble_eq_true rfl)⟩ (Nat.le_of_ble_eq_true rfl) ⟨(Nat.le_of_ble_eq_true rfl), (Nat.le_of_ble_eq_true rfl)⟩ dL_withoutCircuit_17 (fun r_17 b_17 hp_17 _ => ?_)
        obtain ⟨q_17, hW2⟩ := hp_17
        rw [ol_1 h3 hik hk] at q_17
        subst q_17
        have hW : CW g a T b_17 := by rw [oLight_2] at hW2; exact hW2
        dsimp only [jrepl, List.set, jstk]
        refine j_iload_n hC dL_withoutCircuit_20 rfl rfl ?_
        refine j_icmp_ne hC dL_withoutCircuit_21 (tgt := 28) (by decide) (fun c_21 => ?_) (fun c_21 => ?_)
        · skip
          refine j_iconst hC (1) dL_withoutCircuit_28 (by decide) ?_
          refine j_iload_n hC dL_withoutCircuit_29 rfl rfl ?_
          refine j_ishl hC dL_withoutCircuit_30 ?_
          refine j_ior hC dL_withoutCircuit_31 ?_
          refine j_istore_n hC dL_withoutCircuit_32 rfl rfl rfl rfl (fun v_32 e_32 => ?_)
          refine j_iinc hC (1) dL_withoutCircuit_33 rfl rfl rfl rfl rfl (fun v_33 e_33 => ?_)
          refine j_goto hC dL_withoutCircuit_36 (tgt := 4) (by decide) ?_
          refine j_pick [0, 1, 2, 3] ?_
          exact ih_4 (i + 1) _ _ _ (by omega) (by omega) (by rw [e_32, jit_s, ← h2]; first | (rw [Int32.or_zero]; exact (if_pos c_21).symm) | (rw [h3]; exact (if_neg c_21).symm)) (jsucc e_33 h3) hW
        · skip
          refine j_iconst hC (0) dL_withoutCircuit_24 (by decide) ?_
          refine j_goto hC dL_withoutCircuit_25 (tgt := 31) (by decide) ?_
          refine j_ior hC dL_withoutCircuit_31 ?_
          refine j_istore_n hC dL_withoutCircuit_32 rfl rfl rfl rfl (fun v_32 e_32 => ?_)
          refine j_iinc hC (1) dL_withoutCircuit_33 rfl rfl rfl rfl rfl (fun v_33 e_33 => ?_)
          refine j_goto hC dL_withoutCircuit_36 (tgt := 4) (by decide) ?_
          refine j_pick [0, 1, 2, 3] ?_
          exact ih_4 (i + 1) _ _ _ (by omega) (by omega) (by rw [e_32, jit_s, ← h2]; first | (rw [Int32.or_zero]; exact (if_pos c_21).symm) | (rw [h3]; exact (if_neg c_21).symm)) (jsucc e_33 h3) hW
  refine j_pick [0, 1, 2, 3] ?_
  exact L_4 ((bLs T.1).length + 1) 0 _ _ _ (by omega) (by omega) e_1 (e_3.trans nI_0.symm) hW
