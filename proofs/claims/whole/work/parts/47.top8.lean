set_option maxHeartbeats 1000000 in
set_option maxRecDepth 100000 in
theorem c_X6_digest (g : jG) (a : Nat) (T : St3) (b : List va_W) (h : CW g a T b) (hw : rswf (bRs T.1)) : Con g yX6_digest cX6_digest 5 (some .long) 6 144 0 0 [.ref a] b (fun rr bb => rr = some (.long (oDigest T)) ∧ CW g a T bb) := by
  refine Con.of (own := RX6) (lv := [(0, .ref a)]) (by decide) rfl (Nat.le_of_ble_eq_true rfl) rfl ?_
  intro E hC hQ hN
  have hW := h
  refine j_ldc2 hC (18752) k710 dX6_digest_0 ?_
  refine j_lstore_n hC dX6_digest_3 rfl rfl rfl rfl rfl (fun v_3 e_3 => ?_)
  refine j_iconst hC (0) dX6_digest_4 (by decide) ?_
  refine j_istore_n hC dX6_digest_5 rfl rfl rfl rfl (fun v_5 e_5 => ?_)
  have L_6 : ∀ (fu : Nat) (i : Nat) (yl : Int64) (x3 : Int32) (bs : List va_W) (hfu : 15 ≤ i + fu) (hi : i ≤ 14) (hh : yl = dg1 T i) (h3 : x3 = nI i) (hW : CW g a T bs), J g (jRm 6 144 0 0) E 5 6 [(0, .ref a), (1, .long yl), (3, .int x3)] [] bs (0) (0) := by
    intro fu
    induction fu with
    | zero => intro i yl x3 bs hfu hi hh h3 hW; exact absurd hfu (by omega)
    | succ fu ih_6 =>
      intro i yl x3 bs hfu hi hh h3 hW
      refine j_iload_n hC dX6_digest_6 rfl rfl ?_
      refine j_bipush hC (13) dX6_digest_7 (by decide) ?_
      refine j_icmp_gt hC dX6_digest_9 (tgt := 31) (by decide) (fun c_9 => ?_) (fun c_9 => ?_)
      · skip
        have hie : i = 14 := by have q := jgt h3 (by omega) c_9; rw [show (13 : Int32).toInt = 13 by decide] at q; omega
        rw [hie] at hh
        refine j_iconst hC (0) dX6_digest_31 (by decide) ?_
        refine j_istore_n hC dX6_digest_32 rfl rfl rfl rfl (fun v_32 e_32 => ?_)
        have L_33 : ∀ (fu : Nat) (i : Nat) (yl : Int64) (x3 : Int32) (bs : List va_W) (hfu : (bLs T.1).length + 1 ≤ i + fu) (hi : i ≤ (bLs T.1).length) (hh : yl = dg2 T i) (h3 : x3 = nI i) (hW : CW g a T bs), J g (jRm 6 144 0 0) E 5 33 [(0, .ref a), (1, .long yl), (3, .int x3)] [] bs (0) (0) := by
          intro fu
          induction fu with
          | zero => intro i yl x3 bs hfu hi hh h3 hW; exact absurd hfu (by omega)
          | succ fu ih_33 =>
            intro i yl x3 bs hfu hi hh h3 hW
            refine j_iload_n hC dX6_digest_33 rfl rfl ?_
            obtain ⟨dt, dn, du, dh, dr, dp, It, ft, In, An, Xn, Iu, Au, Xu, Ih, K, Ar, Ip, Ap, rfl, hCI⟩ := hW
            obtain ⟨hB, hu, hH, hT, hp2, hp0, hpl⟩ := id hCI
            obtain ⟨⟨hg1, hg2, hg3, hg4⟩, hb2, hb3, hb5, hb6, hb7, hb8, hb9⟩ := id hB
            have hg1 : bok In Xn (bLs T.1).length := hg1
            have hg2 : In 4 = nI (bRs T.1).length := hg2
            have hk10 : (bLs T.1).length ≤ 10 := Nat.le_trans hg1.2.1 hg1.2.2
            refine j_aload_n hC dX6_digest_34 rfl rfl ?_
            refine j_get hC uX6 0 0 1 rfl rfl k191 rfl dX6_digest_35 ?_
            refine j_get hC uX0 2 0 1 rfl rfl k98 rfl dX6_digest_38 ?_
            refine j_icmp_ge hC dX6_digest_41 (tgt := 81) (by decide) (fun c_41 => ?_) (fun c_41 => ?_)
            · skip
              have hik : i = (bLs T.1).length := Nat.le_antisymm hi (jge hg1.1 h3 (by omega) (by omega) c_41)
              rw [hik] at hh
              refine j_iconst hC (0) dX6_digest_81 (by decide) ?_
              refine j_istore_n hC dX6_digest_82 rfl rfl rfl rfl (fun v_82 e_82 => ?_)
              have L_83 : ∀ (fu : Nat) (i : Nat) (yl : Int64) (x3 : Int32) (bs : List va_W) (hfu : (bRs T.1).length + 1 ≤ i + fu) (hi : i ≤ (bRs T.1).length) (hh : yl = dg3 T i) (h3 : x3 = nI i) (hW : CW g a T bs), J g (jRm 6 144 0 0) E 5 83 [(0, .ref a), (1, .long yl), (3, .int x3)] [] bs (0) (0) := by
                intro fu
                induction fu with
                | zero => intro i yl x3 bs hfu hi hh h3 hW; exact absurd hfu (by omega)
                | succ fu ih_83 =>
                  intro i yl x3 bs hfu hi hh h3 hW
                  refine j_iload_n hC dX6_digest_83 rfl rfl ?_
                  obtain ⟨dt, dn, du, dh, dr, dp, It, ft, In, An, Xn, Iu, Au, Xu, Ih, K, Ar, Ip, Ap, rfl, hCI⟩ := hW
                  obtain ⟨hB, hu, hH, hT, hp2, hp0, hpl⟩ := id hCI
                  obtain ⟨⟨hg1, hg2, hg3, hg4⟩, hb2, hb3, hb5, hb6, hb7, hb8, hb9⟩ := id hB
                  have hg1 : bok In Xn (bLs T.1).length := hg1
                  have hg2 : In 4 = nI (bRs T.1).length := hg2
                  have hk10 : (bLs T.1).length ≤ 10 := Nat.le_trans hg1.2.1 hg1.2.2
                  refine j_aload_n hC dX6_digest_84 rfl rfl ?_
                  refine j_get hC uX6 0 0 1 rfl rfl k191 rfl dX6_digest_85 ?_
                  refine j_get hC uX0 2 0 4 rfl rfl k103 rfl dX6_digest_88 ?_
                  refine j_icmp_ge hC dX6_digest_91 (tgt := 131) (by decide) (fun c_91 => ?_) (fun c_91 => ?_)
                  · skip
                    have hik : i = (bRs T.1).length := Nat.le_antisymm hi (jge hg2 h3 (by omega) (by omega) c_91)
                    rw [hik] at hh
                    have hd10 : dysN T.1 < 99 → dysN T.1 ≤ 10 := dys_10 hk10 (rsw_ok hB hw)
                    have hD10 := DN_le hd10
                    refine j_aload_n hC dX6_digest_131 rfl rfl ?_
                    refine j_callCW hC (CW.mk hCI) (c_X6_days g a T _ (CW.mk hCI) hw) mX6_days k715 rfl rfl ⟨(Nat.le_of_ble_eq_true rfl), (Nat.le_of_ble_eq_true rfl)⟩ (Nat.le_of_ble_eq_true rfl) ⟨(Nat.le_of_ble_eq_true rfl), (Nat.le_of_ble_eq_true rfl)⟩ dX6_digest_132 (fun r_132 b_132 hp_132 _ => ?_)
                    obtain ⟨rfl, hW2⟩ := hp_132
                    have hW : CW g a T b_132 := by exact hW2
                    dsimp only [jrepl, List.set, jstk]
                    refine j_istore_n hC dX6_digest_135 rfl rfl rfl rfl (fun v_135 e_135 => ?_)
                    refine j_ldc2 hC (31) k711 dX6_digest_136 ?_
                    refine j_lload_n hC dX6_digest_139 rfl rfl ?_
                    refine j_lmul hC dX6_digest_140 ?_
                    refine j_iload_n hC dX6_digest_141 rfl rfl ?_
                    refine j_i2l hC dX6_digest_142 ?_
                    refine j_ladd hC dX6_digest_143 ?_
                    refine j_lstore_n hC dX6_digest_144 rfl rfl rfl rfl rfl (fun v_144 e_144 => ?_)
                    refine j_iconst hC (0) dX6_digest_145 (by decide) ?_
                    refine j_istore hC dX6_digest_146 rfl rfl rfl (fun v_146 e_146 => ?_)
                    have L_148 : ∀ (fu : Nat) (t : Nat) (yl : Int64) (x4 : Int32) (bs : List va_W) (hfu : DN T.1 + 1 ≤ t + fu) (hi : t ≤ DN T.1) (hh : yl = dg5 T t) (h4 : x4 = nI t) (hW : CW g a T bs), J g (jRm 6 144 0 0) E 5 148 [(0, .ref a), (1, .long yl), (3, .int v_135), (4, .int x4)] [] bs (0) (0) := by
                      intro fu
                      induction fu with
                      | zero => intro t yl x4 bs hfu hi hh h4 hW; exact absurd hfu (by omega)
                      | succ fu ih_148 =>
                        intro t yl x4 bs hfu hi hh h4 hW
                        refine j_iload hC dX6_digest_148 rfl ?_
                        refine j_iload_n hC dX6_digest_150 rfl rfl ?_
                        refine j_icmp_ge hC dX6_digest_151 (tgt := 174) (by decide) (fun c_151 => ?_) (fun c_151 => ?_)
                        · skip
                          have hte : t = DN T.1 := Nat.le_antisymm hi (DN_ge hd10 (by omega) (by rw [← h4, ← show v_135 = dysV T.1 from e_135]; exact c_151))
                          rw [hte] at hh
                          refine j_iconst hC (0) dX6_digest_174 (by decide) ?_
                          refine j_istore hC dX6_digest_175 rfl rfl rfl (fun v_175 e_175 => ?_)
                          have L_177 : ∀ (fu : Nat) (t : Nat) (yl : Int64) (x4 : Int32) (bs : List va_W) (hfu : 42 ≤ t + fu) (hi : t ≤ 41) (hh : yl = dg6 T t) (h4 : x4 = nI (5 * t)) (hW : CW g a T bs), J g (jRm 6 144 0 0) E 5 177 [(0, .ref a), (1, .long yl), (4, .int x4)] [] bs (0) (0) := by
                            intro fu
                            induction fu with
                            | zero => intro t yl x4 bs hfu hi hh h4 hW; exact absurd hfu (by omega)
                            | succ fu ih_177 =>
                              intro t yl x4 bs hfu hi hh h4 hW
                              refine j_iload hC dX6_digest_177 rfl ?_
                              refine j_sipush hC (200) dX6_digest_179 (by decide) ?_
                              refine j_icmp_gt hC dX6_digest_182 (tgt := 221) (by decide) (fun c_182 => ?_) (fun c_182 => ?_)
                              · skip
                                have hte : t = 41 := by have q := jgt h4 (by omega) c_182; rw [show (200 : Int32).toInt = 200 by decide] at q; omega
                                rw [hte] at hh
                                refine j_lload_n hC dX6_digest_221 rfl rfl ?_
                                refine j_lret hC hQ rfl (Nat.le_of_ble_eq_true rfl) (Nat.le_of_ble_eq_true rfl) dX6_digest_222 ((CW_len hW).trans (CW_len h).symm) ?_
                                exact ⟨by rw [hh, oDig_e], hW⟩
                              · skip
                                have htn : t < 41 := by have q := jngt h4 (by omega) c_182; rw [show (200 : Int32).toInt = 200 by decide] at q; omega
                                refine j_ldc2 hC (31) k711 dX6_digest_185 ?_
                                refine j_lload_n hC dX6_digest_188 rfl rfl ?_
                                refine j_lmul hC dX6_digest_189 ?_
                                refine j_aload_n hC dX6_digest_190 rfl rfl ?_
                                refine j_iload hC dX6_digest_191 rfl ?_
                                refine j_iconst hC (0) dX6_digest_193 (by decide) ?_
                                refine j_callCW hC hW (c_X6_reaching g a T _ x4 0 hW) mX6_reaching k717 rfl rfl ⟨(Nat.le_of_ble_eq_true rfl), (Nat.le_of_ble_eq_true rfl)⟩ (Nat.le_of_ble_eq_true rfl) ⟨(Nat.le_of_ble_eq_true rfl), (Nat.le_of_ble_eq_true rfl)⟩ dX6_digest_194 (fun r_194 b_194 hp_194 _ => ?_)
                                obtain ⟨rfl, hW2⟩ := hp_194
                                have hW : CW g a T b_194 := by rw [oReaching_2] at hW2; exact hW2
                                dsimp only [jrepl, List.set, jstk]
                                refine j_i2l hC dX6_digest_197 ?_
                                refine j_ladd hC dX6_digest_198 ?_
                                refine j_lstore_n hC dX6_digest_199 rfl rfl rfl rfl rfl (fun v_199 e_199 => ?_)
                                refine j_ldc2 hC (31) k711 dX6_digest_200 ?_
                                refine j_lload_n hC dX6_digest_203 rfl rfl ?_
                                refine j_lmul hC dX6_digest_204 ?_
                                refine j_aload_n hC dX6_digest_205 rfl rfl ?_
                                refine j_iload hC dX6_digest_206 rfl ?_
                                refine j_iconst hC (1) dX6_digest_208 (by decide) ?_
                                refine j_callCW hC hW (c_X6_reaching g a T _ x4 1 hW) mX6_reaching k717 rfl rfl ⟨(Nat.le_of_ble_eq_true rfl), (Nat.le_of_ble_eq_true rfl)⟩ (Nat.le_of_ble_eq_true rfl) ⟨(Nat.le_of_ble_eq_true rfl), (Nat.le_of_ble_eq_true rfl)⟩ dX6_digest_209 (fun r_209 b_209 hp_209 _ => ?_)
                                obtain ⟨rfl, hW2⟩ := hp_209
                                have hW : CW g a T b_209 := by rw [oReaching_2] at hW2; exact hW2
                                dsimp only [jrepl, List.set, jstk]
                                refine j_i2l hC dX6_digest_212 ?_
                                refine j_ladd hC dX6_digest_213 ?_
                                refine j_lstore_n hC dX6_digest_214 rfl rfl rfl rfl rfl (fun v_214 e_214 => ?_)
                                refine j_iinc hC (5) dX6_digest_215 rfl rfl rfl rfl rfl (fun v_215 e_215 => ?_)
                                refine j_goto hC dX6_digest_218 (tgt := 177) (by decide) ?_
                                refine j_pick [0, 1, 4] ?_
                                exact ih_177 (t + 1) _ _ _ (by omega) (by omega) (by rw [e_214, e_199, hh, h4, dg6_s]) (nI_5 e_215 h4) hW
                          refine j_pick [0, 1, 4] ?_
                          exact L_177 (42) 0 _ _ _ (by omega) (by omega) (by rw [hh, dg6_0]) (e_175.trans nI_0.symm) hW
                        · skip
                          have htn : t < DN T.1 := DN_lt hd10 (by omega) (by rw [← h4, ← show v_135 = dysV T.1 from e_135]; exact c_151)
                          refine j_ldc2 hC (31) k711 dX6_digest_154 ?_
                          refine j_lload_n hC dX6_digest_157 rfl rfl ?_
                          refine j_lmul hC dX6_digest_158 ?_
                          refine j_aload_n hC dX6_digest_159 rfl rfl ?_
                          refine j_iload hC dX6_digest_160 rfl ?_
                          refine j_callCW hC hW (c_X6_day g a T _ x4 hW hw) mX6_day k716 rfl rfl ⟨(Nat.le_of_ble_eq_true rfl), (Nat.le_of_ble_eq_true rfl)⟩ (Nat.le_of_ble_eq_true rfl) ⟨(Nat.le_of_ble_eq_true rfl), (Nat.le_of_ble_eq_true rfl)⟩ dX6_digest_162 (fun r_162 b_162 hp_162 _ => ?_)
                          obtain ⟨rfl, hW2⟩ := hp_162
                          have hW : CW g a T b_162 := by rw [oDay_2] at hW2; exact hW2
                          dsimp only [jrepl, List.set, jstk]
                          refine j_i2l hC dX6_digest_165 ?_
                          refine j_ladd hC dX6_digest_166 ?_
                          refine j_lstore_n hC dX6_digest_167 rfl rfl rfl rfl rfl (fun v_167 e_167 => ?_)
                          refine j_iinc hC (1) dX6_digest_168 rfl rfl rfl rfl rfl (fun v_168 e_168 => ?_)
                          refine j_goto hC dX6_digest_171 (tgt := 148) (by decide) ?_
                          refine j_pick [0, 1, 3, 4] ?_
                          exact ih_148 (t + 1) _ _ _ (by omega) (by omega) (by rw [e_167, hh, h4, dg5_s]) (jsucc e_168 h4) hW
                    refine j_pick [0, 1, 3, 4] ?_
                    exact L_148 (DN T.1 + 1) 0 _ _ _ (by omega) (by omega) (by rw [e_144, e_135, hh, dg5_0]) (e_146.trans nI_0.symm) hW
                  · skip
                    have hik : i < (bRs T.1).length := jlt hg2 h3 (by omega) (by omega) c_91
                    refine j_iconst hC (0) dX6_digest_94 (by decide) ?_
                    refine j_istore hC dX6_digest_95 rfl rfl rfl (fun v_95 e_95 => ?_)
                    have L_97 : ∀ (fu : Nat) (w : Nat) (yl : Int64) (x4 : Int32) (bs : List va_W) (hfu : 8 ≤ w + fu) (hwi : w ≤ 7) (hh2 : yl = dgR T i (dg3 T i) w) (h4 : x4 = nI w) (hW : CW g a T bs), J g (jRm 6 144 0 0) E 5 97 [(0, .ref a), (1, .long yl), (3, .int x3), (4, .int x4)] [] bs (0) (0) := by
                      intro fu
                      induction fu with
                      | zero => intro w yl x4 bs hfu hwi hh2 h4 hW; exact absurd hfu (by omega)
                      | succ fu ih_97 =>
                        intro w yl x4 bs hfu hwi hh2 h4 hW
                        refine j_iload hC dX6_digest_97 rfl ?_
                        refine j_bipush hC (6) dX6_digest_99 (by decide) ?_
                        refine j_icmp_gt hC dX6_digest_101 (tgt := 125) (by decide) (fun c_101 => ?_) (fun c_101 => ?_)
                        · skip
                          have hwe : w = 7 := by have q := jgt h4 (by omega) c_101; rw [show (6 : Int32).toInt = 6 by decide] at q; omega
                          rw [hwe] at hh2
                          refine j_iinc hC (1) dX6_digest_125 rfl rfl rfl rfl rfl (fun v_125 e_125 => ?_)
                          refine j_goto hC dX6_digest_128 (tgt := 83) (by decide) ?_
                          refine j_pick [0, 1, 3] ?_
                          exact ih_83 (i + 1) _ _ _ (by omega) (by omega) (by rw [hh2, dg3_s]) (jsucc e_125 h3) hW
                        · skip
                          have hwn : w < 7 := by have q := jngt h4 (by omega) c_101; rw [show (6 : Int32).toInt = 6 by decide] at q; omega
                          refine j_ldc2 hC (31) k711 dX6_digest_104 ?_
                          refine j_lload_n hC dX6_digest_107 rfl rfl ?_
                          refine j_lmul hC dX6_digest_108 ?_
                          refine j_aload_n hC dX6_digest_109 rfl rfl ?_
                          refine j_iload_n hC dX6_digest_110 rfl rfl ?_
                          refine j_iload hC dX6_digest_111 rfl ?_
                          refine j_callCW hC hW (c_X6_routeAt g a T _ x3 x4 hW hw) mX6_routeAt k714 rfl rfl ⟨(Nat.le_of_ble_eq_true rfl), (Nat.le_of_ble_eq_true rfl)⟩ (Nat.le_of_ble_eq_true rfl) ⟨(Nat.le_of_ble_eq_true rfl), (Nat.le_of_ble_eq_true rfl)⟩ dX6_digest_113 (fun r_113 b_113 hp_113 _ => ?_)
                          obtain ⟨rfl, hW2⟩ := hp_113
                          have hW : CW g a T b_113 := by rw [oRouteAt_2] at hW2; exact hW2
                          dsimp only [jrepl, List.set, jstk]
                          refine j_i2l hC dX6_digest_116 ?_
                          refine j_ladd hC dX6_digest_117 ?_
                          refine j_lstore_n hC dX6_digest_118 rfl rfl rfl rfl rfl (fun v_118 e_118 => ?_)
                          refine j_iinc hC (1) dX6_digest_119 rfl rfl rfl rfl rfl (fun v_119 e_119 => ?_)
                          refine j_goto hC dX6_digest_122 (tgt := 97) (by decide) ?_
                          refine j_pick [0, 1, 3, 4] ?_
                          exact ih_97 (w + 1) _ _ _ (by omega) (by omega) (by rw [e_118, hh2, h3, h4, dgR_s]) (jsucc e_119 h4) hW
                    refine j_pick [0, 1, 3, 4] ?_
                    exact L_97 (8) 0 _ _ _ (by omega) (by omega) (by rw [hh, dgR_0]) (e_95.trans nI_0.symm) (CW.mk hCI)
              refine j_pick [0, 1, 3] ?_
              exact L_83 ((bRs T.1).length + 1) 0 _ _ _ (by omega) (by omega) (by rw [hh, dg3_0]) (e_82.trans nI_0.symm) (CW.mk hCI)
            · skip
              have hik : i < (bLs T.1).length := jlt hg1.1 h3 (by omega) (by omega) c_41
              refine j_iconst hC (0) dX6_digest_44 (by decide) ?_
              refine j_istore hC dX6_digest_45 rfl rfl rfl (fun v_45 e_45 => ?_)
              have L_47 : ∀ (fu : Nat) (w : Nat) (yl : Int64) (x4 : Int32) (bs : List va_W) (hfu : 14 ≤ w + fu) (hwi : w ≤ 13) (hh2 : yl = dgL T i (dg2 T i) w) (h4 : x4 = nI w) (hW : CW g a T bs), J g (jRm 6 144 0 0) E 5 47 [(0, .ref a), (1, .long yl), (3, .int x3), (4, .int x4)] [] bs (0) (0) := by
                intro fu
                induction fu with
                | zero => intro w yl x4 bs hfu hwi hh2 h4 hW; exact absurd hfu (by omega)
                | succ fu ih_47 =>
                  intro w yl x4 bs hfu hwi hh2 h4 hW
                  refine j_iload hC dX6_digest_47 rfl ?_
                  refine j_bipush hC (12) dX6_digest_49 (by decide) ?_
                  refine j_icmp_gt hC dX6_digest_51 (tgt := 75) (by decide) (fun c_51 => ?_) (fun c_51 => ?_)
                  · skip
                    have hwe : w = 13 := by have q := jgt h4 (by omega) c_51; rw [show (12 : Int32).toInt = 12 by decide] at q; omega
                    rw [hwe] at hh2
                    refine j_iinc hC (1) dX6_digest_75 rfl rfl rfl rfl rfl (fun v_75 e_75 => ?_)
                    refine j_goto hC dX6_digest_78 (tgt := 33) (by decide) ?_
                    refine j_pick [0, 1, 3] ?_
                    exact ih_33 (i + 1) _ _ _ (by omega) (by omega) (by rw [hh2, dg2_s]) (jsucc e_75 h3) hW
                  · skip
                    have hwn : w < 13 := by have q := jngt h4 (by omega) c_51; rw [show (12 : Int32).toInt = 12 by decide] at q; omega
                    refine j_ldc2 hC (31) k711 dX6_digest_54 ?_
                    refine j_lload_n hC dX6_digest_57 rfl rfl ?_
                    refine j_lmul hC dX6_digest_58 ?_
                    refine j_aload_n hC dX6_digest_59 rfl rfl ?_
                    refine j_iload_n hC dX6_digest_60 rfl rfl ?_
                    refine j_iload hC dX6_digest_61 rfl ?_
                    refine j_callCW hC hW (c_X6_light g a T _ x3 x4 hW hw) mX6_light k713 rfl rfl ⟨(Nat.le_of_ble_eq_true rfl), (Nat.le_of_ble_eq_true rfl)⟩ (Nat.le_of_ble_eq_true rfl) ⟨(Nat.le_of_ble_eq_true rfl), (Nat.le_of_ble_eq_true rfl)⟩ dX6_digest_63 (fun r_63 b_63 hp_63 _ => ?_)
                    obtain ⟨rfl, hW2⟩ := hp_63
                    have hW : CW g a T b_63 := by rw [oLight_2] at hW2; exact hW2
                    dsimp only [jrepl, List.set, jstk]
                    refine j_i2l hC dX6_digest_66 ?_
                    refine j_ladd hC dX6_digest_67 ?_
                    refine j_lstore_n hC dX6_digest_68 rfl rfl rfl rfl rfl (fun v_68 e_68 => ?_)
                    refine j_iinc hC (1) dX6_digest_69 rfl rfl rfl rfl rfl (fun v_69 e_69 => ?_)
                    refine j_goto hC dX6_digest_72 (tgt := 47) (by decide) ?_
                    refine j_pick [0, 1, 3, 4] ?_
                    exact ih_47 (w + 1) _ _ _ (by omega) (by omega) (by rw [e_68, hh2, h3, h4, dgL_s]) (jsucc e_69 h4) hW
              refine j_pick [0, 1, 3, 4] ?_
              exact L_47 (14) 0 _ _ _ (by omega) (by omega) (by rw [hh, dgL_0]) (e_45.trans nI_0.symm) (CW.mk hCI)
        refine j_pick [0, 1, 3] ?_
        exact L_33 ((bLs T.1).length + 1) 0 _ _ _ (by omega) (by omega) (by rw [hh, dg2_0]) (e_32.trans nI_0.symm) hW
      · skip
        have hin : i < 14 := by have q := jngt h3 (by omega) c_9; rw [show (13 : Int32).toInt = 13 by decide] at q; omega
        refine j_ldc2 hC (31) k711 dX6_digest_12 ?_
        refine j_lload_n hC dX6_digest_15 rfl rfl ?_
        refine j_lmul hC dX6_digest_16 ?_
        refine j_aload_n hC dX6_digest_17 rfl rfl ?_
        refine j_iload_n hC dX6_digest_18 rfl rfl ?_
        refine j_callCW hC hW (c_X6_told g a T _ x3 hW hw) mX6_told k712 rfl rfl ⟨(Nat.le_of_ble_eq_true rfl), (Nat.le_of_ble_eq_true rfl)⟩ (Nat.le_of_ble_eq_true rfl) ⟨(Nat.le_of_ble_eq_true rfl), (Nat.le_of_ble_eq_true rfl)⟩ dX6_digest_19 (fun r_19 b_19 hp_19 _ => ?_)
        obtain ⟨rfl, hW2⟩ := hp_19
        have hW : CW g a T b_19 := by exact hW2
        dsimp only [jrepl, List.set, jstk]
        refine j_i2l hC dX6_digest_22 ?_
        refine j_ladd hC dX6_digest_23 ?_
        refine j_lstore_n hC dX6_digest_24 rfl rfl rfl rfl rfl (fun v_24 e_24 => ?_)
        refine j_iinc hC (1) dX6_digest_25 rfl rfl rfl rfl rfl (fun v_25 e_25 => ?_)
        refine j_goto hC dX6_digest_28 (tgt := 6) (by decide) ?_
        refine j_pick [0, 1, 3] ?_
        exact ih_6 (i + 1) _ _ _ (by omega) (by omega) (by rw [e_24, hh, h3, dg1_s]) (jsucc e_25 h3) hW
  refine j_pick [0, 1, 3] ?_
  exact L_6 (15) 0 _ _ _ (by omega) (by omega) (by rw [e_3, dg1_0]) (e_5.trans nI_0.symm) hW
