/-! p31: the law builds its state -/
theorem QS_hr {T : St3} {n H : Nat} (h : QS T n H) (hH : H ≤ 100000) : ∃ m : Nat, bHrs T.1 = nI m ∧ m ≤ 100000 := by
  obtain ⟨a1, a2, a3, a4, ⟨hh, b1, b2⟩, a6⟩ := h
  exact ⟨hh, b1, by omega⟩
theorem QS_rs {T : St3} {n H : Nat} (h : QS T n H) : rswf (bRs T.1) := h.2.2.1.1
set_option maxHeartbeats 8000000 in
set_option maxRecDepth 100000 in
theorem c_L_sets (g : jG) (a : Nat) (b : List va_W) (s0 L : Nat) (xs : Nat → Int32) (h : CW g a T00 b) (hJ : L < 2 ^ 31) : ConS g s0 L xs yL_sets cL_sets 6 (some .boolean) 8 169 1000 9000 [.ref a, .ref s0] b (fun rr bb => rr = some (.int 1) ∧ ∃ T : St3, CW g a T bb ∧ WS T.1) := by
  refine ConS.of (own := RL) (lv := [(0, .ref a), (1, .ref s0)]) (by decide) rfl (Nat.le_of_ble_eq_true rfl) rfl ?_
  intro E hC hQ hN hX hbs hbA
  have hW := h
  refine j_iconst hC (1) dL_sets_0 (by decide) ?_
  refine j_aload_n hC dL_sets_1 rfl rfl ?_
  refine j_iconst hC (0) dL_sets_2 (by decide) ?_
  refine j_callSS hC hX hbs hbA [] (c_L_cell g s0 L xs _ (0) (show (0 : Int32) = nI 0 from rfl) (by omega) hJ) mL_cell k333 rfl rfl rfl ⟨(Nat.le_of_ble_eq_true rfl), (Nat.le_of_ble_eq_true rfl)⟩ (Nat.le_of_ble_eq_true rfl) ⟨by show _ ≤ 1000; omega, by show _ ≤ 9000; omega⟩ dL_sets_3 (fun r_3 b_3 hp_3 _ => ?_)
  obtain ⟨⟨j_3, hj_3, rfl⟩, rfl⟩ := hp_3
  dsimp only [jrepl, List.set, jstk]
  refine j_bipush hC (7) dL_sets_6 (by decide) ?_
  refine j_irem hC dL_sets_8 (by decide) ?_
  refine j_iadd hC dL_sets_9 ?_
  refine j_istore_n hC dL_sets_10 rfl rfl rfl rfl (fun v_10 e_10 => ?_)
  obtain ⟨m, hm, hm1, hm7⟩ : ∃ m, v_10 = nI m ∧ 1 ≤ m ∧ m ≤ 7 := ⟨1 + j_3 % 7, by rw [e_10, rem_of (z := 7) (d := 7) hj_3 rfl (by decide) (by decide)]; exact one_nI, by omega, by omega⟩
  have hm2 : 2 ^ 1 ≤ 2 ^ m := Nat.pow_le_pow_right (by decide) hm1
  have hm4 := pow_1024 (k := m) (by omega)
  have hm3 : 0 < 2 ^ m - 1 := by omega
  refine j_iconst hC (1) dL_sets_11 (by decide) ?_
  refine j_istore_n hC dL_sets_12 rfl rfl rfl rfl (fun v_12 e_12 => ?_)
  refine j_iconst hC (0) dL_sets_13 (by decide) ?_
  refine j_istore hC dL_sets_14 rfl rfl rfl (fun v_14 e_14 => ?_)
  have L_16 : ∀ (fu : Nat) (i : Nat) (x3 x4 : Int32) (T : St3) (bs : List va_W) (hfu : m + 1 ≤ i + fu) (hi : i ≤ m) (h3 : x3 = 1) (h4 : x4 = nI i) (hP : PS T i 0) (hW : CW g a T bs), J g (jRm 8 169 1000 9000) E 6 16 [(0, .ref a), (1, .ref s0), (2, .int v_10), (3, .int x3), (4, .int x4)] [] bs (31 * i) (259 * i) := by
    intro fu
    induction fu with
    | zero => intro i x3 x4 T bs hfu hi h3 h4 hP hW; exact absurd hfu (by omega)
    | succ fu ih_16 =>
      intro i x3 x4 T bs hfu hi h3 h4 hP hW
      refine j_iload hC dL_sets_16 rfl ?_
      refine j_iload_n hC dL_sets_18 rfl rfl ?_
      refine j_icmp_ge hC dL_sets_19 (tgt := 106) (by decide) (fun c_19 => ?_) (fun c_19 => ?_)
      · skip
        have hie : i = m := Nat.le_antisymm hi (ge_of h4 (by omega) (by omega) (by rw [← hm]; exact c_19))
        rw [hie] at hP
        refine j_iconst hC (0) dL_sets_106 (by decide) ?_
        refine j_istore hC dL_sets_107 rfl rfl rfl (fun v_107 e_107 => ?_)
        have L_109 : ∀ (fu : Nat) (r : Nat) (y3 x4 : Int32) (T2 : St3) (bs : List va_W) (hfu : 6 ≤ r + fu) (hr : r ≤ 4) (h3r : y3 = 1) (h4r : x4 = nI r) (hPr : PS T2 m r) (hW : CW g a T2 bs), J g (jRm 8 169 1000 9000) E 6 109 [(0, .ref a), (1, .ref s0), (2, .int v_10), (3, .int y3), (4, .int x4)] [] bs (217 + 15 * r) (1813 + 125 * r) := by
          intro fu
          induction fu with
          | zero => intro r y3 x4 T2 bs hfu hr h3r h4r hPr hW; exact absurd hfu (by omega)
          | succ fu ih_109 =>
            intro r y3 x4 T2 bs hfu hr h3r h4r hPr hW
            refine j_iload hC dL_sets_109 rfl ?_
            refine j_aload_n hC dL_sets_111 rfl rfl ?_
            refine j_bipush hC (8) dL_sets_112 (by decide) ?_
            refine j_callSS hC hX hbs hbA [] (c_L_cell g s0 L xs _ (8) (show (8 : Int32) = nI 8 from rfl) (by omega) hJ) mL_cell k333 rfl rfl rfl ⟨(Nat.le_of_ble_eq_true rfl), (Nat.le_of_ble_eq_true rfl)⟩ (Nat.le_of_ble_eq_true rfl) ⟨by show _ ≤ 1000; omega, by show _ ≤ 9000; omega⟩ dL_sets_114 (fun r_114 b_114 hp_114 _ => ?_)
            obtain ⟨⟨j_114, hj_114, rfl⟩, rfl⟩ := hp_114
            dsimp only [jrepl, List.set, jstk]
            refine j_iconst hC (5) dL_sets_117 (by decide) ?_
            refine j_irem hC dL_sets_118 (by decide) ?_
            refine j_icmp_ge hC dL_sets_119 (tgt := 176) (by decide) (fun c_119 => ?_) (fun c_119 => ?_)
            · skip
              refine j_iload_n hC dL_sets_176 rfl rfl ?_
              refine j_if_eq hC dL_sets_177 (tgt := 222) (by decide) (fun c_177 => ?_) (fun c_177 => ?_)
              · exact absurd (h3r.symm.trans c_177) (by decide)
              · skip
                refine j_aload_n hC dL_sets_180 rfl rfl ?_
                refine j_iconst hC (1) dL_sets_181 (by decide) ?_
                refine j_aload_n hC dL_sets_182 rfl rfl ?_
                refine j_bipush hC (14) dL_sets_183 (by decide) ?_
                refine j_callSS hC hX hbs hbA [] (c_L_cell g s0 L xs _ (14) (show (14 : Int32) = nI 14 from rfl) (by omega) hJ) mL_cell k333 rfl rfl rfl ⟨(Nat.le_of_ble_eq_true rfl), (Nat.le_of_ble_eq_true rfl)⟩ (Nat.le_of_ble_eq_true rfl) ⟨by show _ ≤ 1000; omega, by show _ ≤ 9000; omega⟩ dL_sets_185 (fun r_185 b_185 hp_185 _ => ?_)
                obtain ⟨⟨j_185, hj_185, rfl⟩, rfl⟩ := hp_185
                dsimp only [jrepl, List.set, jstk]
                refine j_bipush hC (100) dL_sets_188 (by decide) ?_
                refine j_irem hC dL_sets_190 (by decide) ?_
                refine j_iadd hC dL_sets_191 ?_
                obtain ⟨nz, hnz, enz⟩ := rem_lt (z := 100) (d := 100) ⟨j_185, hj_185, rfl⟩ rfl (by decide) (by decide)
                rw [enz, one_nI]
                refine j_callCW hC hW (c_X6_setNeed g a T2 _ _ hW) mX6_setNeed k371 rfl rfl ⟨(Nat.le_of_ble_eq_true rfl), (Nat.le_of_ble_eq_true rfl)⟩ (Nat.le_of_ble_eq_true rfl) ⟨by show _ ≤ 1000; omega, by show _ ≤ 9000; omega⟩ dL_sets_192 (fun r_192 b_192 hp_192 _ => ?_)
                obtain ⟨q_192, hW2⟩ := hp_192
                obtain ⟨T4, ht4, hQ4⟩ := need_PS (d := 1 + nz) hPr (by omega) (by omega) (by omega)
                rw [ht4] at q_192 hW2
                have q_192 : r_192 = some (Value.int (60)) := q_192
                subst q_192
                have hW : CW g a T4 b_192 := hW2
                dsimp only [jrepl, List.set, jstk]
                refine j_bipush hC (60) dL_sets_195 (by decide) ?_
                refine j_icmp_ne hC dL_sets_197 (tgt := 222) (by decide) (fun c_197 => ?_) (fun c_197 => ?_)
                · exact absurd rfl c_197
                · skip
                  refine j_aload_n hC dL_sets_200 rfl rfl ?_
                  refine j_iconst hC (1) dL_sets_201 (by decide) ?_
                  refine j_aload_n hC dL_sets_202 rfl rfl ?_
                  refine j_bipush hC (15) dL_sets_203 (by decide) ?_
                  refine j_callSS hC hX hbs hbA [] (c_L_cell g s0 L xs _ (15) (show (15 : Int32) = nI 15 from rfl) (by omega) hJ) mL_cell k333 rfl rfl rfl ⟨(Nat.le_of_ble_eq_true rfl), (Nat.le_of_ble_eq_true rfl)⟩ (Nat.le_of_ble_eq_true rfl) ⟨by show _ ≤ 1000; omega, by show _ ≤ 9000; omega⟩ dL_sets_205 (fun r_205 b_205 hp_205 _ => ?_)
                  obtain ⟨⟨j_205, hj_205, rfl⟩, rfl⟩ := hp_205
                  dsimp only [jrepl, List.set, jstk]
                  refine j_bipush hC (60) dL_sets_208 (by decide) ?_
                  refine j_irem hC dL_sets_210 (by decide) ?_
                  refine j_iadd hC dL_sets_211 ?_
                  obtain ⟨nh, hnh, enh⟩ := rem_lt (z := 60) (d := 60) ⟨j_205, hj_205, rfl⟩ rfl (by decide) (by decide)
                  rw [enh, one_nI]
                  refine j_callCW hC hW (c_X6_pass g a T4 _ _ hW (QS_hr hQ4 (by omega))) mX6_pass k375 rfl rfl ⟨(Nat.le_of_ble_eq_true rfl), (Nat.le_of_ble_eq_true rfl)⟩ (Nat.le_of_ble_eq_true rfl) ⟨by show _ ≤ 1000; omega, by show _ ≤ 9000; omega⟩ dL_sets_212 (fun r_212 b_212 hp_212 _ => ?_)
                  obtain ⟨q_212, hW2⟩ := hp_212
                  obtain ⟨T5, c5, ht5, hc5, hQ5⟩ := pass_QS (s := 1 + nh) hQ4 (by omega) (by omega) (by omega) (by omega)
                  rw [ht5] at q_212 hW2
                  have q_212 : r_212 = some (Value.int (nI c5)) := q_212
                  subst q_212
                  have hW : CW g a T5 b_212 := hW2
                  dsimp only [jrepl, List.set, jstk]
                  refine j_if_lt hC dL_sets_215 (tgt := 222) (by decide) (fun c_215 => ?_) (fun c_215 => ?_)
                  · exact absurd c_215 (nI_pos hc5)
                  · skip
                    refine j_iconst hC (1) dL_sets_218 (by decide) ?_
                    refine j_goto hC dL_sets_219 (tgt := 223) (by decide) ?_
                    refine j_istore_n hC dL_sets_223 rfl rfl rfl rfl (fun v_223 e_223 => ?_)
                    refine j_iconst hC (0) dL_sets_224 (by decide) ?_
                    refine j_istore hC dL_sets_225 rfl rfl rfl (fun v_225 e_225 => ?_)
                    have L_227 : ∀ (fu : Nat) (kk : Nat) (y3 x4 : Int32) (T6 : St3) (bs : List va_W) (hfu : 4 ≤ kk + fu) (hkk : kk ≤ 2) (h3k : y3 = 1) (h4k : x4 = nI kk) (hQk : QS T6 m (60 + 20 * kk)) (hW : CW g a T6 bs), J g (jRm 8 169 1000 9000) E 6 227 [(0, .ref a), (1, .ref s0), (2, .int v_10), (3, .int y3), (4, .int x4)] [] bs (307 + 30 * kk) (2563 + 250 * kk) := by
                      intro fu
                      induction fu with
                      | zero => intro kk y3 x4 T6 bs hfu hkk h3k h4k hQk hW; exact absurd hfu (by omega)
                      | succ fu ih_227 =>
                        intro kk y3 x4 T6 bs hfu hkk h3k h4k hQk hW
                        refine j_iload hC dL_sets_227 rfl ?_
                        refine j_aload_n hC dL_sets_229 rfl rfl ?_
                        refine j_bipush hC (16) dL_sets_230 (by decide) ?_
                        refine j_callSS hC hX hbs hbA [] (c_L_cell g s0 L xs _ (16) (show (16 : Int32) = nI 16 from rfl) (by omega) hJ) mL_cell k333 rfl rfl rfl ⟨(Nat.le_of_ble_eq_true rfl), (Nat.le_of_ble_eq_true rfl)⟩ (Nat.le_of_ble_eq_true rfl) ⟨by show _ ≤ 1000; omega, by show _ ≤ 9000; omega⟩ dL_sets_232 (fun r_232 b_232 hp_232 _ => ?_)
                        obtain ⟨⟨j_232, hj_232, rfl⟩, rfl⟩ := hp_232
                        dsimp only [jrepl, List.set, jstk]
                        refine j_iconst hC (3) dL_sets_235 (by decide) ?_
                        refine j_irem hC dL_sets_236 (by decide) ?_
                        refine j_icmp_ge hC dL_sets_237 (tgt := 306) (by decide) (fun c_237 => ?_) (fun c_237 => ?_)
                        · skip
                          refine j_iload_n hC dL_sets_306 rfl rfl ?_
                          refine j_iret hC hQ rfl (by rw [h3k]; rfl) (by omega) (by omega) dL_sets_307 ((CW_len hW).trans (CW_len h).symm) ?_
                          exact ⟨by rw [h3k], T6, hW, QS_WS (QS_up hQk (by omega)) hm1 hm7⟩
                        · skip
                          have hkr : kk < j_232 % 3 := lt_of h4k (by omega) (by omega) (by rw [← rem_of (z := 3) (d := 3) hj_232 rfl (by decide) (by decide)]; exact c_237)
                          refine j_iload_n hC dL_sets_240 rfl rfl ?_
                          refine j_if_eq hC dL_sets_241 (tgt := 306) (by decide) (fun c_241 => ?_) (fun c_241 => ?_)
                          · exact absurd (h3k.symm.trans c_241) (by decide)
                          · skip
                            refine j_iconst hC (1) dL_sets_244 (by decide) ?_
                            refine j_aload_n hC dL_sets_245 rfl rfl ?_
                            refine j_bipush hC (17) dL_sets_246 (by decide) ?_
                            refine j_iload hC dL_sets_248 rfl ?_
                            refine j_iadd hC dL_sets_250 ?_
                            refine j_callSS hC hX hbs hbA [] (c_L_cell g s0 L xs _ (17 + kk) (by rw [h4k]; exact nI_add 17 kk) (by omega) hJ) mL_cell k333 rfl rfl rfl ⟨(Nat.le_of_ble_eq_true rfl), (Nat.le_of_ble_eq_true rfl)⟩ (Nat.le_of_ble_eq_true rfl) ⟨by show _ ≤ 1000; omega, by show _ ≤ 9000; omega⟩ dL_sets_251 (fun r_251 b_251 hp_251 _ => ?_)
                            obtain ⟨⟨j_251, hj_251, rfl⟩, rfl⟩ := hp_251
                            dsimp only [jrepl, List.set, jstk]
                            refine j_iconst hC (1) dL_sets_254 (by decide) ?_
                            refine j_iload_n hC dL_sets_255 rfl rfl ?_
                            refine j_ishl hC dL_sets_256 ?_
                            refine j_iconst hC (1) dL_sets_257 (by decide) ?_
                            refine j_isub hC dL_sets_258 ?_
                            refine j_irem hC dL_sets_259 (by rw [hm, full_k m (by omega)]; exact nI_ne0 hm3 (by omega)) ?_
                            refine j_iadd hC dL_sets_260 ?_
                            refine j_istore hC dL_sets_261 rfl rfl rfl (fun v_261 e_261 => ?_)
                            obtain ⟨ts, hts1, hts2, hts3⟩ := set_of (n := m) (v := (1 <<< (v_10 &&& 31)) - 1) (by rw [hm]; exact full_k m (by omega)) hj_251 (by omega) (by omega)
                            have hts : v_261 = nI ts := e_261.trans hts3
                            refine j_aload_n hC dL_sets_263 rfl rfl ?_
                            refine j_iload hC dL_sets_264 rfl ?_
                            refine j_iconst hC (1) dL_sets_266 (by decide) ?_
                            refine j_callCW hC hW (c_X6_test g a T6 _ v_261 1 hW (QS_rs hQk)) mX6_test k161 rfl rfl ⟨(Nat.le_of_ble_eq_true rfl), (Nat.le_of_ble_eq_true rfl)⟩ (Nat.le_of_ble_eq_true rfl) ⟨by show _ ≤ 1000; omega, by show _ ≤ 9000; omega⟩ dL_sets_267 (fun r_267 b_267 hp_267 _ => ?_)
                            obtain ⟨q_267, hW2⟩ := hp_267
                            obtain ⟨T7, c7, ht7, hc7, hQ7⟩ := test_QS hQk (by omega) hts hts1 hts2
                            rw [ht7] at q_267 hW2
                            have q_267 : r_267 = some (Value.int (nI c7)) := q_267
                            subst q_267
                            have hW : CW g a T7 b_267 := hW2
                            dsimp only [jrepl, List.set, jstk]
                            refine j_if_lt hC dL_sets_270 (tgt := 298) (by decide) (fun c_270 => ?_) (fun c_270 => ?_)
                            · exact absurd c_270 (nI_pos hc7)
                            · skip
                              refine j_aload_n hC dL_sets_273 rfl rfl ?_
                              refine j_iconst hC (1) dL_sets_274 (by decide) ?_
                              refine j_aload_n hC dL_sets_275 rfl rfl ?_
                              refine j_bipush hC (20) dL_sets_276 (by decide) ?_
                              refine j_iload hC dL_sets_278 rfl ?_
                              refine j_iadd hC dL_sets_280 ?_
                              refine j_callSS hC hX hbs hbA [] (c_L_cell g s0 L xs _ (20 + kk) (by rw [h4k]; exact nI_add 20 kk) (by omega) hJ) mL_cell k333 rfl rfl rfl ⟨(Nat.le_of_ble_eq_true rfl), (Nat.le_of_ble_eq_true rfl)⟩ (Nat.le_of_ble_eq_true rfl) ⟨by show _ ≤ 1000; omega, by show _ ≤ 9000; omega⟩ dL_sets_281 (fun r_281 b_281 hp_281 _ => ?_)
                              obtain ⟨⟨j_281, hj_281, rfl⟩, rfl⟩ := hp_281
                              dsimp only [jrepl, List.set, jstk]
                              refine j_bipush hC (20) dL_sets_284 (by decide) ?_
                              refine j_irem hC dL_sets_286 (by decide) ?_
                              refine j_iadd hC dL_sets_287 ?_
                              obtain ⟨np, hnp, enp⟩ := rem_lt (z := 20) (d := 20) ⟨j_281, hj_281, rfl⟩ rfl (by decide) (by decide)
                              rw [enp, one_nI]
                              refine j_callCW hC hW (c_X6_pass g a T7 _ _ hW (QS_hr hQ7 (by omega))) mX6_pass k375 rfl rfl ⟨(Nat.le_of_ble_eq_true rfl), (Nat.le_of_ble_eq_true rfl)⟩ (Nat.le_of_ble_eq_true rfl) ⟨by show _ ≤ 1000; omega, by show _ ≤ 9000; omega⟩ dL_sets_288 (fun r_288 b_288 hp_288 _ => ?_)
                              obtain ⟨q_288, hW2⟩ := hp_288
                              obtain ⟨T8, c8, ht8, hc8, hQ8⟩ := pass_QS (s := 1 + np) hQ7 (by omega) (by omega) (by omega) (by omega)
                              rw [ht8] at q_288 hW2
                              have q_288 : r_288 = some (Value.int (nI c8)) := q_288
                              subst q_288
                              have hW : CW g a T8 b_288 := hW2
                              dsimp only [jrepl, List.set, jstk]
                              refine j_if_lt hC dL_sets_291 (tgt := 298) (by decide) (fun c_291 => ?_) (fun c_291 => ?_)
                              · exact absurd c_291 (nI_pos hc8)
                              · skip
                                refine j_iconst hC (1) dL_sets_294 (by decide) ?_
                                refine j_goto hC dL_sets_295 (tgt := 299) (by decide) ?_
                                refine j_istore_n hC dL_sets_299 rfl rfl rfl rfl (fun v_299 e_299 => ?_)
                                refine j_iinc hC (1) dL_sets_300 rfl rfl rfl rfl rfl (fun v_300 e_300 => ?_)
                                refine j_goto hC dL_sets_303 (tgt := 227) (by decide) ?_
                                refine j_pick [0, 1, 2, 3, 4] ?_
                                refine j_widen (k' := 307 + 30 * (kk + 1)) (n' := 2563 + 250 * (kk + 1)) (by omega) (by omega) ?_
                                exact ih_227 (kk + 1) _ _ _ _ (by omega) (by omega) e_299 (jsucc e_300 h4k) (QS_up hQ8 (by omega)) hW
                    refine j_pick [0, 1, 2, 3, 4] ?_
                    refine j_widen (k' := 307 + 30 * 0) (n' := 2563 + 250 * 0) (by omega) (by omega) ?_
                    exact L_227 (4) 0 _ _ _ _ (by omega) (by omega) e_223 (e_225.trans nI_0.symm) (QS_up hQ5 (by omega)) hW
            · skip
              have hrr : r < j_114 % 5 := lt_of h4r (by omega) (by omega) (by rw [← rem_of (z := 5) (d := 5) hj_114 rfl (by decide) (by decide)]; exact c_119)
              refine j_iload_n hC dL_sets_122 rfl rfl ?_
              refine j_if_eq hC dL_sets_123 (tgt := 176) (by decide) (fun c_123 => ?_) (fun c_123 => ?_)
              · exact absurd (h3r.symm.trans c_123) (by decide)
              · skip
                refine j_aload_n hC dL_sets_126 rfl rfl ?_
                refine j_bipush hC (9) dL_sets_127 (by decide) ?_
                refine j_iload hC dL_sets_129 rfl ?_
                refine j_iadd hC dL_sets_131 ?_
                refine j_callSS hC hX hbs hbA [] (c_L_cell g s0 L xs _ (9 + r) (by rw [h4r]; exact nI_add 9 r) (by omega) hJ) mL_cell k333 rfl rfl rfl ⟨(Nat.le_of_ble_eq_true rfl), (Nat.le_of_ble_eq_true rfl)⟩ (Nat.le_of_ble_eq_true rfl) ⟨by show _ ≤ 1000; omega, by show _ ≤ 9000; omega⟩ dL_sets_132 (fun r_132 b_132 hp_132 _ => ?_)
                obtain ⟨⟨j_132, hj_132, rfl⟩, rfl⟩ := hp_132
                dsimp only [jrepl, List.set, jstk]
                refine j_istore hC dL_sets_135 rfl rfl rfl (fun v_135 e_135 => ?_)
                subst e_135
                refine j_aload_n hC dL_sets_137 rfl rfl ?_
                refine j_iload hC dL_sets_138 rfl ?_
                refine j_bipush hC (20) dL_sets_140 (by decide) ?_
                refine j_irem hC dL_sets_142 (by decide) ?_
                refine j_iload hC dL_sets_143 rfl ?_
                refine j_bipush hC (20) dL_sets_145 (by decide) ?_
                refine j_irem hC dL_sets_147 (by decide) ?_
                refine j_iload hC dL_sets_148 rfl ?_
                refine j_iconst hC (5) dL_sets_150 (by decide) ?_
                refine j_ishr hC dL_sets_151 ?_
                refine j_bipush hC (12) dL_sets_152 (by decide) ?_
                refine j_irem hC dL_sets_154 (by decide) ?_
                refine j_iadd hC dL_sets_155 ?_
                obtain ⟨ra, hra, era⟩ := rem_lt (z := 20) (d := 20) ⟨j_132, hj_132, rfl⟩ rfl (by decide) (by decide)
                obtain ⟨rb, hrb, erb⟩ := rem_lt (z := 12) (d := 12) (shr_of (z := 5) (k := 5) hj_132 (by decide)) rfl (by decide) (by decide)
                rw [era, erb, nI_add]
                refine j_callCW hC hW (c_X6_route g a T2 _ _ _ hW) mX6_route k366 rfl rfl ⟨(Nat.le_of_ble_eq_true rfl), (Nat.le_of_ble_eq_true rfl)⟩ (Nat.le_of_ble_eq_true rfl) ⟨by show _ ≤ 1000; omega, by show _ ≤ 9000; omega⟩ dL_sets_156 (fun r_156 b_156 hp_156 _ => ?_)
                obtain ⟨q_156, hW2⟩ := hp_156
                obtain ⟨T3, ht3, hP3⟩ := route_PS (a := ra) (b := ra + rb) hPr (by omega) (by omega) (by omega)
                rw [ht3] at q_156 hW2
                have q_156 : r_156 = some (Value.int (nI r)) := q_156
                subst q_156
                have hW : CW g a T3 b_156 := hW2
                dsimp only [jrepl, List.set, jstk]
                refine j_iload hC dL_sets_159 rfl ?_
                refine j_icmp_ne hC dL_sets_161 (tgt := 168) (by decide) (fun c_161 => ?_) (fun c_161 => ?_)
                · exact absurd h4r.symm c_161
                · skip
                  refine j_iconst hC (1) dL_sets_164 (by decide) ?_
                  refine j_goto hC dL_sets_165 (tgt := 169) (by decide) ?_
                  refine j_istore_n hC dL_sets_169 rfl rfl rfl rfl (fun v_169 e_169 => ?_)
                  refine j_iinc hC (1) dL_sets_170 rfl rfl rfl rfl rfl (fun v_170 e_170 => ?_)
                  refine j_goto hC dL_sets_173 (tgt := 109) (by decide) ?_
                  refine j_pick [0, 1, 2, 3, 4] ?_
                  refine j_widen (k' := 217 + 15 * (r + 1)) (n' := 1813 + 125 * (r + 1)) (by omega) (by omega) ?_
                  exact ih_109 (r + 1) _ _ _ _ (by omega) (by omega) e_169 (jsucc e_170 h4r) hP3 hW
        refine j_pick [0, 1, 2, 3, 4] ?_
        refine j_widen (k' := 217 + 15 * 0) (n' := 1813 + 125 * 0) (by omega) (by omega) ?_
        exact L_109 (6) 0 _ _ _ _ (by omega) (by omega) h3 (e_107.trans nI_0.symm) hP hW
      · skip
        have hik : i < m := lt_of h4 (by omega) (by omega) (by rw [← hm]; exact c_19)
        refine j_iload_n hC dL_sets_22 rfl rfl ?_
        refine j_if_eq hC dL_sets_23 (tgt := 106) (by decide) (fun c_23 => ?_) (fun c_23 => ?_)
        · exact absurd (h3.symm.trans c_23) (by decide)
        · skip
          refine j_aload_n hC dL_sets_26 rfl rfl ?_
          refine j_iconst hC (1) dL_sets_27 (by decide) ?_
          refine j_iload hC dL_sets_28 rfl ?_
          refine j_iadd hC dL_sets_30 ?_
          refine j_callSS hC hX hbs hbA [] (c_L_cell g s0 L xs _ (1 + i) (by rw [h4]; exact one_nI) (by omega) hJ) mL_cell k333 rfl rfl rfl ⟨(Nat.le_of_ble_eq_true rfl), (Nat.le_of_ble_eq_true rfl)⟩ (Nat.le_of_ble_eq_true rfl) ⟨by show _ ≤ 1000; omega, by show _ ≤ 9000; omega⟩ dL_sets_31 (fun r_31 b_31 hp_31 _ => ?_)
          obtain ⟨⟨j_31, hj_31, rfl⟩, rfl⟩ := hp_31
          dsimp only [jrepl, List.set, jstk]
          refine j_istore hC dL_sets_34 rfl rfl rfl (fun v_34 e_34 => ?_)
          subst e_34
          refine j_aload_n hC dL_sets_36 rfl rfl ?_
          refine j_iload hC dL_sets_37 rfl ?_
          refine j_bipush hC (25) dL_sets_39 (by decide) ?_
          refine j_irem hC dL_sets_41 (by decide) ?_
          refine j_iload hC dL_sets_42 rfl ?_
          refine j_iconst hC (5) dL_sets_44 (by decide) ?_
          refine j_ishr hC dL_sets_45 ?_
          refine j_iconst hC (4) dL_sets_46 (by decide) ?_
          refine j_irem hC dL_sets_47 (by decide) ?_
          refine j_iload hC dL_sets_48 rfl ?_
          refine j_bipush hC (7) dL_sets_50 (by decide) ?_
          refine j_ishr hC dL_sets_52 ?_
          refine j_iconst hC (4) dL_sets_53 (by decide) ?_
          refine j_irem hC dL_sets_54 (by decide) ?_
          refine j_iload hC dL_sets_55 rfl ?_
          refine j_bipush hC (9) dL_sets_57 (by decide) ?_
          refine j_ishr hC dL_sets_59 ?_
          refine j_iconst hC (3) dL_sets_60 (by decide) ?_
          refine j_irem hC dL_sets_61 (by decide) ?_
          obtain ⟨ap, hap, eap⟩ := rem_lt (z := 25) (d := 25) ⟨j_31, hj_31, rfl⟩ rfl (by decide) (by decide)
          obtain ⟨ac, hac, eac⟩ := rem_lt (z := 4) (d := 4) (shr_of (z := 5) (k := 5) hj_31 (by decide)) rfl (by decide) (by decide)
          obtain ⟨ab, hab, eab⟩ := rem_lt (z := 4) (d := 4) (shr_of (z := 7) (k := 7) hj_31 (by decide)) rfl (by decide) (by decide)
          obtain ⟨al, hal, eal⟩ := rem_lt (z := 3) (d := 3) (shr_of (z := 9) (k := 9) hj_31 (by decide)) rfl (by decide) (by decide)
          rw [eap, eac, eab, eal]
          refine j_callCW hC hW (c_X6_add g a T _ _ _ _ _ hW) mX6_add k338 rfl rfl ⟨(Nat.le_of_ble_eq_true rfl), (Nat.le_of_ble_eq_true rfl)⟩ (Nat.le_of_ble_eq_true rfl) ⟨by show _ ≤ 1000; omega, by show _ ≤ 9000; omega⟩ dL_sets_62 (fun r_62 b_62 hp_62 _ => ?_)
          obtain ⟨q_62, hW2⟩ := hp_62
          obtain ⟨T1, ht1, hP1, hP4⟩ := add_PS (p := ap) (c := ac) (b := ab) (l := al) hP (by omega) (by omega) (by omega) (by omega) (by omega)
          rw [ht1] at q_62 hW2
          have q_62 : r_62 = some (Value.int (nI i)) := q_62
          subst q_62
          have hW : CW g a T1 b_62 := hW2
          dsimp only [jrepl, List.set, jstk]
          refine j_iload hC dL_sets_65 rfl ?_
          refine j_icmp_ne hC dL_sets_67 (tgt := 98) (by decide) (fun c_67 => ?_) (fun c_67 => ?_)
          · exact absurd h4.symm c_67
          · skip
            have L_88 : ∀ (y : Int32) (bs : List va_W) (hy : y = 0 ∨ y = 1) (hW : CW g a T1 bs), J g (jRm 8 169 1000 9000) E 6 88 [(0, .ref a), (1, .ref s0), (2, .int v_10), (4, .int x4)] [.int y, .int x4, .ref a] bs (31 * i + 16) (259 * i + 134) := by
              intro y bs hy hW
              refine j_callCW hC hW (c_X6_maintain g a T1 _ x4 y hW hy) mX6_maintain k361 rfl rfl ⟨(Nat.le_of_ble_eq_true rfl), (Nat.le_of_ble_eq_true rfl)⟩ (Nat.le_of_ble_eq_true rfl) ⟨by show _ ≤ 1000; omega, by show _ ≤ 9000; omega⟩ dL_sets_88 (fun r_88 b_88 hp_88 _ => ?_)
              obtain ⟨q_88, hW2⟩ := hp_88
              obtain ⟨T2, ht2, hP2⟩ := main_PS hP1 hP4 (by omega) h4 hy
              rw [ht2] at q_88 hW2
              have q_88 : r_88 = some (Value.int (0)) := q_88
              subst q_88
              have hW : CW g a T2 b_88 := hW2
              dsimp only [jrepl, List.set, jstk]
              refine j_if_ne hC dL_sets_91 (tgt := 98) (by decide) (fun c_91 => ?_) (fun c_91 => ?_)
              · exact absurd rfl c_91
              · skip
                refine j_iconst hC (1) dL_sets_94 (by decide) ?_
                refine j_goto hC dL_sets_95 (tgt := 99) (by decide) ?_
                refine j_istore_n hC dL_sets_99 rfl rfl rfl rfl (fun v_99 e_99 => ?_)
                refine j_iinc hC (1) dL_sets_100 rfl rfl rfl rfl rfl (fun v_100 e_100 => ?_)
                refine j_goto hC dL_sets_103 (tgt := 16) (by decide) ?_
                refine j_pick [0, 1, 2, 3, 4] ?_
                refine j_widen (k' := 31 * (i + 1)) (n' := 259 * (i + 1)) (by omega) (by omega) ?_
                exact ih_16 (i + 1) _ _ _ _ (by omega) (by omega) e_99 (jsucc e_100 h4) hP2 hW
            refine j_aload_n hC dL_sets_70 rfl rfl ?_
            refine j_iload hC dL_sets_71 rfl ?_
            refine j_iload hC dL_sets_73 rfl ?_
            refine j_bipush hC (11) dL_sets_75 (by decide) ?_
            refine j_ishr hC dL_sets_77 ?_
            refine j_iconst hC (4) dL_sets_78 (by decide) ?_
            refine j_irem hC dL_sets_79 (by decide) ?_
            refine j_if_ne hC dL_sets_80 (tgt := 87) (by decide) (fun c_80 => ?_) (fun c_80 => ?_)
            · skip
              refine j_iconst hC (0) dL_sets_87 (by decide) ?_
              refine j_pick [0, 1, 2, 4] ?_
              exact L_88 _ _ (Or.inl rfl) hW
            · skip
              refine j_iconst hC (1) dL_sets_83 (by decide) ?_
              refine j_goto hC dL_sets_84 (tgt := 88) (by decide) ?_
              refine j_pick [0, 1, 2, 4] ?_
              exact L_88 _ _ (Or.inr rfl) hW
  refine j_pick [0, 1, 2, 3, 4] ?_
  refine j_widen (k' := 31 * 0) (n' := 259 * 0) (by omega) (by omega) ?_
  exact L_16 (m + 1) 0 _ _ _ _ (by omega) (by omega) e_12 (e_14.trans nI_0.symm) PS_00 hW
