/-! p31: the law's check of the plans -/
theorem al_nn {S : BS} {s : Nat} (h : ¬ (if alS S s = true then (1 : Int32) else 0) = 0) : alS S s = true := by
  by_cases c : alS S s = true
  · exact c
  · exact absurd (if_neg c) h
set_option maxHeartbeats 4000000 in
set_option maxRecDepth 100000 in
theorem c_L_plans (g : jG) (a : Nat) (T : St3) (b : List va_W) (s0 L : Nat) (xs : Nat → Int32) (h : CW g a T b) (hk : (bLs T.1).length ≤ 10) (hwl : ∀ L ∈ bLs T.1, WL L) (hw : rswf (bRs T.1)) (hn : 0 < (bLs T.1).length) (hJ : L < 2 ^ 31) (nh : ∃ n : Nat, bHrs T.1 = nI n ∧ n ≤ 100000) : ConS g s0 L xs yL_plans cL_plans 10 (some .boolean) 8 167 15 125 [.ref a, .ref s0] b (fun rr bb => rr = some (.int 1) ∧ CW g a T bb) := by
  refine ConS.of (own := RL) (lv := [(0, .ref a), (1, .ref s0)]) (by decide) rfl (Nat.le_of_ble_eq_true rfl) rfl ?_
  intro E hC hQ hN hX hbs hbA
  have hW := h
  refine j_iconst hC (1) dL_plans_0 (by decide) ?_
  refine j_aload_n hC dL_plans_1 rfl rfl ?_
  refine j_iconst hC (0) dL_plans_2 (by decide) ?_
  refine j_callCW hC hW (c_X6_told g a T _ 0 hW hw) mX6_told k405 rfl rfl ⟨(Nat.le_of_ble_eq_true rfl), (Nat.le_of_ble_eq_true rfl)⟩ (Nat.le_of_ble_eq_true rfl) ⟨(Nat.le_of_ble_eq_true rfl), (Nat.le_of_ble_eq_true rfl)⟩ dL_plans_3 (fun r_3 b_3 hp_3 _ => ?_)
  obtain ⟨q_3, hW2⟩ := hp_3
  rw [tv_0] at q_3
  subst q_3
  have hW : CW g a T b_3 := by exact hW2
  dsimp only [jrepl, List.set, jstk]
  refine j_ishl hC dL_plans_6 ?_
  refine j_iconst hC (1) dL_plans_7 (by decide) ?_
  refine j_isub hC dL_plans_8 ?_
  refine j_istore_n hC dL_plans_9 rfl rfl rfl rfl (fun v_9 e_9 => ?_)
  refine j_iconst hC (1) dL_plans_10 (by decide) ?_
  refine j_istore_n hC dL_plans_11 rfl rfl rfl rfl (fun v_11 e_11 => ?_)
  refine j_iconst hC (0) dL_plans_12 (by decide) ?_
  refine j_istore hC dL_plans_13 rfl rfl rfl (fun v_13 e_13 => ?_)
  have hall : v_9 = nI (2 ^ (bLs T.1).length - 1) := by rw [e_9]; exact full_k _ (by omega)
  have hf0 : 0 < 2 ^ (bLs T.1).length := Nat.two_pow_pos _
  have hf1 := pow_1024 hk
  have L_15 : ∀ (fu : Nat) (i : Nat) (x3 x4 : Int32) (bs : List va_W) (hfu : (bLs T.1).length + 1 ≤ i + fu) (hi : i ≤ (bLs T.1).length) (h3 : (x3 = 1 ∧ ∀ j, j < i → alS T.1 (2 ^ j) = true) ∨ (x3 = 0 ∧ ¬ ∀ j, j < (bLs T.1).length → alS T.1 (2 ^ j) = true)) (h4 : x4 = nI i) (hW : CW g a T bs), J g (jRm 8 167 15 125) E 10 15 [(0, .ref a), (1, .ref s0), (2, .int v_9), (3, .int x3), (4, .int x4)] [] bs (0) (0) := by
    intro fu
    induction fu with
    | zero => intro i x3 x4 bs hfu hi h3 h4 hW; exact absurd hfu (by omega)
    | succ fu ih_15 =>
      intro i x3 x4 bs hfu hi h3 h4 hW
      refine j_iload hC dL_plans_15 rfl ?_
      refine j_aload_n hC dL_plans_17 rfl rfl ?_
      refine j_iconst hC (0) dL_plans_18 (by decide) ?_
      refine j_callCW hC hW (c_X6_told g a T _ 0 hW hw) mX6_told k405 rfl rfl ⟨(Nat.le_of_ble_eq_true rfl), (Nat.le_of_ble_eq_true rfl)⟩ (Nat.le_of_ble_eq_true rfl) ⟨(Nat.le_of_ble_eq_true rfl), (Nat.le_of_ble_eq_true rfl)⟩ dL_plans_19 (fun r_19 b_19 hp_19 _ => ?_)
      obtain ⟨q_19, hW2⟩ := hp_19
      rw [tv_0] at q_19
      subst q_19
      have hW : CW g a T b_19 := by exact hW2
      dsimp only [jrepl, List.set, jstk]
      refine j_icmp_ge hC dL_plans_22 (tgt := 53) (by decide) (fun c_22 => ?_) (fun c_22 => ?_)
      · skip
        have hie : i = (bLs T.1).length := Nat.le_antisymm hi (ge_of h4 (by omega) (by omega) c_22)
        rw [hie] at h3
        refine j_iconst hC (0) dL_plans_53 (by decide) ?_
        refine j_istore hC dL_plans_54 rfl rfl rfl (fun v_54 e_54 => ?_)
        have L_56 : ∀ (fu : Nat) (k6 : Nat) (x4 : Int32) (bs : List va_W) (hfu : 7 ≤ k6 + fu) (hk6 : k6 ≤ 6) (h4 : x4 = nI k6) (hW : CW g a T bs), J g (jRm 8 167 15 125) E 10 56 [(0, .ref a), (1, .ref s0), (2, .int v_9), (3, .int x3), (4, .int x4)] [] bs (0) (0) := by
          intro fu
          induction fu with
          | zero => intro k6 x4 bs hfu hk6 h4 hW; exact absurd hfu (by omega)
          | succ fu ih_56 =>
            intro k6 x4 bs hfu hk6 h4 hW
            refine j_iload hC dL_plans_56 rfl ?_
            refine j_bipush hC (6) dL_plans_58 (by decide) ?_
            refine j_icmp_ge hC dL_plans_60 (tgt := 117) (by decide) (fun c_60 => ?_) (fun c_60 => ?_)
            · skip
              refine j_aload_n hC dL_plans_117 rfl rfl ?_
              refine j_callCW hC hW (c_X6_days g a T _  hW hw) mX6_days k543 rfl rfl ⟨(Nat.le_of_ble_eq_true rfl), (Nat.le_of_ble_eq_true rfl)⟩ (Nat.le_of_ble_eq_true rfl) ⟨(Nat.le_of_ble_eq_true rfl), (Nat.le_of_ble_eq_true rfl)⟩ dL_plans_118 (fun r_118 b_118 hp_118 _ => ?_)
              obtain ⟨q_118, hW2⟩ := hp_118
              rw [(show (oDays T).1 = dysV T.1 from rfl)] at q_118
              subst q_118
              have hW : CW g a T b_118 := by exact hW2
              dsimp only [jrepl, List.set, jstk]
              refine j_istore hC dL_plans_121 rfl rfl rfl (fun v_121 e_121 => ?_)
              refine j_iload_n hC dL_plans_123 rfl rfl ?_
              refine j_if_ne hC dL_plans_124 (tgt := 180) (by decide) (fun c_124 => ?_) (fun c_124 => ?_)
              · skip
                have hyes : ∀ j, j < (bLs T.1).length → alS T.1 (2 ^ j) = true := h3.elim (fun w => w.2) (fun w => absurd w.1 c_124)
                obtain ⟨hD1, hDn, hDv⟩ := pl_yes hk hn hyes
                refine j_iload_n hC dL_plans_180 rfl rfl ?_
                refine j_istore hC dL_plans_181 rfl rfl rfl (fun v_181 e_181 => ?_)
                refine j_iconst hC (0) dL_plans_183 (by decide) ?_
                refine j_istore hC dL_plans_184 rfl rfl rfl (fun v_184 e_184 => ?_)
                have L_186 : ∀ (fu : Nat) (d : Nat) (x5 x6 : Int32) (bs : List va_W) (hfu : dysN T.1 + 1 ≤ d + fu) (hd : d ≤ dysN T.1) (h5 : x5 = nI (lefS T.1 d)) (h6 : x6 = nI d) (hW : CW g a T bs), J g (jRm 8 167 15 125) E 10 186 [(0, .ref a), (1, .ref s0), (2, .int v_9), (4, .int v_121), (5, .int x5), (6, .int x6)] [] bs (0) (0) := by
                  intro fu
                  induction fu with
                  | zero => intro d x5 x6 bs hfu hd h5 h6 hW; exact absurd hfu (by omega)
                  | succ fu ih_186 =>
                    intro d x5 x6 bs hfu hd h5 h6 hW
                    refine j_iload hC dL_plans_186 rfl ?_
                    refine j_iload hC dL_plans_188 rfl ?_
                    refine j_icmp_ge hC dL_plans_190 (tgt := 297) (by decide) (fun c_190 => ?_) (fun c_190 => ?_)
                    · skip
                      have hdE : d = dysN T.1 := Nat.le_antisymm hd (ge_of (n := dysN T.1) h6 (by omega) (by omega) (by rw [← hDv, ← e_121]; exact c_190))
                      refine j_iload hC dL_plans_297 rfl ?_
                      refine j_if_ne hC dL_plans_299 (tgt := 358) (by decide) (fun c_299 => ?_) (fun c_299 => ?_)
                      · exact absurd (by rw [h5, hdE, pl_end hk hyes]; rfl) c_299
                      · skip
                        refine j_iload hC dL_plans_302 rfl ?_
                        refine j_iconst hC (1) dL_plans_304 (by decide) ?_
                        refine j_icmp_lt hC dL_plans_305 (tgt := 358) (by decide) (fun c_305 => ?_) (fun c_305 => ?_)
                        · exact absurd c_305 (by rw [e_121, hDv]; exact nI_nlt (a := dysN T.1) (b := 1) hD1 (by omega))
                        · skip
                          refine j_iload hC dL_plans_308 rfl ?_
                          refine j_aload_n hC dL_plans_310 rfl rfl ?_
                          refine j_iconst hC (0) dL_plans_311 (by decide) ?_
                          refine j_callCW hC hW (c_X6_told g a T _ 0 hW hw) mX6_told k405 rfl rfl ⟨(Nat.le_of_ble_eq_true rfl), (Nat.le_of_ble_eq_true rfl)⟩ (Nat.le_of_ble_eq_true rfl) ⟨(Nat.le_of_ble_eq_true rfl), (Nat.le_of_ble_eq_true rfl)⟩ dL_plans_312 (fun r_312 b_312 hp_312 _ => ?_)
                          obtain ⟨q_312, hW2⟩ := hp_312
                          rw [tv_0] at q_312
                          subst q_312
                          have hW : CW g a T b_312 := by exact hW2
                          dsimp only [jrepl, List.set, jstk]
                          refine j_icmp_gt hC dL_plans_315 (tgt := 358) (by decide) (fun c_315 => ?_) (fun c_315 => ?_)
                          · exact absurd c_315 (by rw [e_121, hDv]; exact nI_nlt hDn (by omega))
                          · skip
                            refine j_aload_n hC dL_plans_318 rfl rfl ?_
                            refine j_iload hC dL_plans_319 rfl ?_
                            refine j_callCW hC hW (c_X6_day g a T _ v_121 hW hw) mX6_day k547 rfl rfl ⟨(Nat.le_of_ble_eq_true rfl), (Nat.le_of_ble_eq_true rfl)⟩ (Nat.le_of_ble_eq_true rfl) ⟨(Nat.le_of_ble_eq_true rfl), (Nat.le_of_ble_eq_true rfl)⟩ dL_plans_321 (fun r_321 b_321 hp_321 _ => ?_)
                            obtain ⟨q_321, hW2⟩ := hp_321
                            rw [od_no (by rw [e_121, hDv]; exact nI_pos' (by omega)) (by rw [e_121]; exact Int32.le_refl _)] at q_321
                            subst q_321
                            have hW : CW g a T b_321 := by rw [oDay_2] at hW2; exact hW2
                            dsimp only [jrepl, List.set, jstk]
                            refine j_bipush hC (-9) dL_plans_324 (by decide) ?_
                            refine j_icmp_ne hC dL_plans_326 (tgt := 358) (by decide) (fun c_326 => ?_) (fun c_326 => ?_)
                            · exact absurd rfl c_326
                            · skip
                              refine j_aload_n hC dL_plans_329 rfl rfl ?_
                              refine j_iload_n hC dL_plans_330 rfl rfl ?_
                              refine j_iconst hC (1) dL_plans_331 (by decide) ?_
                              refine j_iadd hC dL_plans_332 ?_
                              refine j_callCW hC hW (c_X6_allowed g a T _ _ hW hw) mX6_allowed k542 rfl rfl ⟨(Nat.le_of_ble_eq_true rfl), (Nat.le_of_ble_eq_true rfl)⟩ (Nat.le_of_ble_eq_true rfl) ⟨(Nat.le_of_ble_eq_true rfl), (Nat.le_of_ble_eq_true rfl)⟩ dL_plans_333 (fun r_333 b_333 hp_333 _ => ?_)
                              obtain ⟨q_333, hW2⟩ := hp_333
                              rw [ov_alBad hk (show v_9 + 1 = nI (2 ^ (bLs T.1).length) by rw [hall, nI_1, Nat.sub_add_cancel hf0])] at q_333
                              subst q_333
                              have hW : CW g a T b_333 := by rw [oAllowed_2] at hW2; exact hW2
                              dsimp only [jrepl, List.set, jstk]
                              refine j_iconst hC (-1) dL_plans_336 (by decide) ?_
                              refine j_icmp_ne hC dL_plans_337 (tgt := 358) (by decide) (fun c_337 => ?_) (fun c_337 => ?_)
                              · exact absurd rfl c_337
                              · skip
                                refine j_aload_n hC dL_plans_340 rfl rfl ?_
                                refine j_iload_n hC dL_plans_341 rfl rfl ?_
                                refine j_callCW hC hW (c_X6_allowed g a T _ _ hW hw) mX6_allowed k542 rfl rfl ⟨(Nat.le_of_ble_eq_true rfl), (Nat.le_of_ble_eq_true rfl)⟩ (Nat.le_of_ble_eq_true rfl) ⟨(Nat.le_of_ble_eq_true rfl), (Nat.le_of_ble_eq_true rfl)⟩ dL_plans_342 (fun r_342 b_342 hp_342 _ => ?_)
                                obtain ⟨q_342, hW2⟩ := hp_342
                                rw [ov_al hk hall (by omega)] at q_342
                                subst q_342
                                have hW : CW g a T b_342 := by rw [oAllowed_2] at hW2; exact hW2
                                dsimp only [jrepl, List.set, jstk]
                                refine j_if_eq hC dL_plans_345 (tgt := 354) (by decide) (fun c_345 => ?_) (fun c_345 => ?_)
                                · skip
                                  refine j_iconst hC (1) dL_plans_354 (by decide) ?_
                                  refine j_goto hC dL_plans_355 (tgt := 359) (by decide) ?_
                                  refine j_iret hC hQ rfl (by first | rfl | (subst_vars; rfl) | (split <;> rfl)) (Nat.le_of_ble_eq_true rfl) (Nat.le_of_ble_eq_true rfl) dL_plans_359 ((CW_len hW).trans (CW_len h).symm) ?_
                                  exact ⟨rfl, hW⟩
                                · skip
                                  refine j_iload hC dL_plans_348 rfl ?_
                                  refine j_iconst hC (1) dL_plans_350 (by decide) ?_
                                  refine j_icmp_ne hC dL_plans_351 (tgt := 358) (by decide) (fun c_351 => ?_) (fun c_351 => ?_)
                                  · exact absurd (by rw [e_121, hDv, show dysN T.1 = 1 from (dP_one (show 0 < 2 ^ (bLs T.1).length - 1 by have : 2 ^ 1 ≤ 2 ^ (bLs T.1).length := Nat.pow_le_pow_right (by decide) hn; omega) (allS_lt hk)).mpr (al_nn c_345)]; rfl) c_351
                                  · skip
                                    refine j_iconst hC (1) dL_plans_354 (by decide) ?_
                                    refine j_goto hC dL_plans_355 (tgt := 359) (by decide) ?_
                                    refine j_iret hC hQ rfl (by first | rfl | (subst_vars; rfl) | (split <;> rfl)) (Nat.le_of_ble_eq_true rfl) (Nat.le_of_ble_eq_true rfl) dL_plans_359 ((CW_len hW).trans (CW_len h).symm) ?_
                                    exact ⟨rfl, hW⟩
                    · skip
                      have hdD : d < dysN T.1 := lt_of (n := dysN T.1) h6 (by omega) (by omega) (by rw [← hDv, ← e_121]; exact c_190)
                      refine j_aload_n hC dL_plans_193 rfl rfl ?_
                      refine j_iload hC dL_plans_194 rfl ?_
                      refine j_callCW hC hW (c_X6_day g a T _ x6 hW hw) mX6_day k547 rfl rfl ⟨(Nat.le_of_ble_eq_true rfl), (Nat.le_of_ble_eq_true rfl)⟩ (Nat.le_of_ble_eq_true rfl) ⟨(Nat.le_of_ble_eq_true rfl), (Nat.le_of_ble_eq_true rfl)⟩ dL_plans_196 (fun r_196 b_196 hp_196 _ => ?_)
                      obtain ⟨q_196, hW2⟩ := hp_196
                      rw [od_at hk hDv (by omega) h6 hdD] at q_196
                      subst q_196
                      have hW : CW g a T b_196 := by rw [oDay_2] at hW2; exact hW2
                      dsimp only [jrepl, List.set, jstk]
                      refine j_istore hC dL_plans_199 rfl rfl rfl (fun v_199 e_199 => ?_)
                      refine j_iload hC dL_plans_201 rfl ?_
                      refine j_iload hC dL_plans_203 rfl ?_
                      refine j_ineg hC dL_plans_205 ?_
                      refine j_iand hC dL_plans_206 ?_
                      refine j_istore hC dL_plans_207 rfl rfl rfl (fun v_207 e_207 => ?_)
                      obtain ⟨hv, hv2, hv3⟩ := pl_day hk hyes hdD
                      obtain ⟨ho1, ho2⟩ := on_lt hk hyes hdD
                      have hAl := allS_lt (S := T.1) hk
                      refine j_aload_n hC dL_plans_209 rfl rfl ?_
                      refine j_iload hC dL_plans_210 rfl ?_
                      refine j_callCW hC hW (c_X6_allowed g a T _ _ hW hw) mX6_allowed k542 rfl rfl ⟨(Nat.le_of_ble_eq_true rfl), (Nat.le_of_ble_eq_true rfl)⟩ (Nat.le_of_ble_eq_true rfl) ⟨(Nat.le_of_ble_eq_true rfl), (Nat.le_of_ble_eq_true rfl)⟩ dL_plans_212 (fun r_212 b_212 hp_212 _ => ?_)
                      obtain ⟨q_212, hW2⟩ := hp_212
                      rw [ov_al hk e_199 ho1] at q_212
                      subst q_212
                      have hW : CW g a T b_212 := by rw [oAllowed_2] at hW2; exact hW2
                      dsimp only [jrepl, List.set, jstk]
                      refine j_iconst hC (1) dL_plans_215 (by decide) ?_
                      refine j_icmp_ne hC dL_plans_216 (tgt := 237) (by decide) (fun c_216 => ?_) (fun c_216 => ?_)
                      · exact absurd (if_pos hv.2.2) c_216
                      · skip
                        refine j_iload hC dL_plans_219 rfl ?_
                        refine j_iload hC dL_plans_221 rfl ?_
                        refine j_iconst hC (-1) dL_plans_223 (by decide) ?_
                        refine j_ixor hC dL_plans_224 ?_
                        refine j_iand hC dL_plans_225 ?_
                        refine j_if_ne hC dL_plans_226 (tgt := 237) (by decide) (fun c_226 => ?_) (fun c_226 => ?_)
                        · exact absurd (by rw [e_199, h5]; exact (and_not (by omega) (by omega)).mpr hv.1) c_226
                        · skip
                          refine j_iload hC dL_plans_229 rfl ?_
                          refine j_iload hC dL_plans_231 rfl ?_
                          refine j_iand hC dL_plans_233 ?_
                          refine j_if_ne hC dL_plans_234 (tgt := 239) (by decide) (fun c_234 => ?_) (fun c_234 => ?_)
                          · skip
                            refine j_iload hC dL_plans_239 rfl ?_
                            refine j_iload hC dL_plans_241 rfl ?_
                            refine j_ixor hC dL_plans_243 ?_
                            refine j_istore hC dL_plans_244 rfl rfl rfl (fun v_244 e_244 => ?_)
                            have h5n : v_244 = nI (lefS T.1 (d + 1)) := by rw [e_244, h5, e_199, lef_s]; exact nI_xor _ _
                            refine j_iconst hC (0) dL_plans_246 (by decide) ?_
                            refine j_istore hC dL_plans_247 rfl rfl rfl (fun v_247 e_247 => ?_)
                            have L_249 : ∀ (fu : Nat) (i : Nat) (x9 : Int32) (bs : List va_W) (hfu : (bLs T.1).length + 1 ≤ i + fu) (hi : i ≤ (bLs T.1).length) (h9 : x9 = nI i) (hW : CW g a T bs), J g (jRm 8 167 15 125) E 10 249 [(0, .ref a), (1, .ref s0), (2, .int v_9), (4, .int v_121), (5, .int v_244), (6, .int x6), (7, .int v_199), (9, .int x9)] [] bs (0) (0) := by
                              intro fu
                              induction fu with
                              | zero => intro i x9 bs hfu hi h9 hW; exact absurd hfu (by omega)
                              | succ fu ih_249 =>
                                intro i x9 bs hfu hi h9 hW
                                refine j_iload hC dL_plans_249 rfl ?_
                                refine j_aload_n hC dL_plans_251 rfl rfl ?_
                                refine j_iconst hC (0) dL_plans_252 (by decide) ?_
                                refine j_callCW hC hW (c_X6_told g a T _ 0 hW hw) mX6_told k405 rfl rfl ⟨(Nat.le_of_ble_eq_true rfl), (Nat.le_of_ble_eq_true rfl)⟩ (Nat.le_of_ble_eq_true rfl) ⟨(Nat.le_of_ble_eq_true rfl), (Nat.le_of_ble_eq_true rfl)⟩ dL_plans_253 (fun r_253 b_253 hp_253 _ => ?_)
                                obtain ⟨q_253, hW2⟩ := hp_253
                                rw [tv_0] at q_253
                                subst q_253
                                have hW : CW g a T b_253 := by exact hW2
                                dsimp only [jrepl, List.set, jstk]
                                refine j_icmp_ge hC dL_plans_256 (tgt := 291) (by decide) (fun c_256 => ?_) (fun c_256 => ?_)
                                · skip
                                  refine j_iinc hC (1) dL_plans_291 rfl rfl rfl rfl rfl (fun v_291 e_291 => ?_)
                                  refine j_goto hC dL_plans_294 (tgt := 186) (by decide) ?_
                                  refine j_pick [0, 1, 2, 4, 5, 6] ?_
                                  exact ih_186 (d + 1) _ _ _ (by omega) (by omega) h5n (jsucc e_291 h6) hW
                                · skip
                                  have hik : i < (bLs T.1).length := lt_of h9 (by omega) (by omega) c_256
                                  refine j_iload hC dL_plans_259 rfl ?_
                                  refine j_iload hC dL_plans_261 rfl ?_
                                  refine j_ishr hC dL_plans_263 ?_
                                  refine j_iconst hC (1) dL_plans_264 (by decide) ?_
                                  refine j_iand hC dL_plans_265 ?_
                                  refine j_iconst hC (1) dL_plans_266 (by decide) ?_
                                  refine j_icmp_ne hC dL_plans_267 (tgt := 285) (by decide) (fun c_267 => ?_) (fun c_267 => ?_)
                                  · skip
                                    refine j_iinc hC (1) dL_plans_285 rfl rfl rfl rfl rfl (fun v_285 e_285 => ?_)
                                    refine j_goto hC dL_plans_288 (tgt := 249) (by decide) ?_
                                    refine j_pick [0, 1, 2, 4, 5, 6, 7, 9] ?_
                                    exact ih_249 (i + 1) _ _ (by omega) (by omega) (jsucc e_285 h9) hW
                                  · skip
                                    refine j_aload_n hC dL_plans_270 rfl rfl ?_
                                    refine j_iload hC dL_plans_271 rfl ?_
                                    refine j_bipush hC (12) dL_plans_273 (by decide) ?_
                                    refine j_callCW hC hW (c_X6_light g a T _ x9 12 hW hw) mX6_light k426 rfl rfl ⟨(Nat.le_of_ble_eq_true rfl), (Nat.le_of_ble_eq_true rfl)⟩ (Nat.le_of_ble_eq_true rfl) ⟨(Nat.le_of_ble_eq_true rfl), (Nat.le_of_ble_eq_true rfl)⟩ dL_plans_275 (fun r_275 b_275 hp_275 _ => ?_)
                                    obtain ⟨q_275, hW2⟩ := hp_275
                                    rw [ol_12 h9 hik hk] at q_275
                                    subst q_275
                                    have hW : CW g a T b_275 := by rw [oLight_2] at hW2; exact hW2
                                    dsimp only [jrepl, List.set, jstk]
                                    refine j_iload hC dL_plans_278 rfl ?_
                                    refine j_icmp_eq hC dL_plans_280 (tgt := 285) (by decide) (fun c_280 => ?_) (fun c_280 => ?_)
                                    · skip
                                      refine j_iinc hC (1) dL_plans_285 rfl rfl rfl rfl rfl (fun v_285 e_285 => ?_)
                                      refine j_goto hC dL_plans_288 (tgt := 249) (by decide) ?_
                                      refine j_pick [0, 1, 2, 4, 5, 6, 7, 9] ?_
                                      exact ih_249 (i + 1) _ _ (by omega) (by omega) (jsucc e_285 h9) hW
                                    · exact absurd (by rw [h6]; exact dayS_at hk hyes hDv (by omega) (by omega) hdD ((bits_tb i (by omega) _ (by omega)).mp (by rw [← h9, ← e_199]; exact c_267)) 11 0 (by omega) (by omega)) c_280
                            refine j_pick [0, 1, 2, 4, 5, 6, 7, 9] ?_
                            exact L_249 ((bLs T.1).length + 1) 0 _ _ (by omega) (by omega) (e_247.trans nI_0.symm) hW
                          · exact absurd c_234 (by rw [e_199, e_207, h5]; exact low_and hv2 (by omega) hv.2.1)
                refine j_pick [0, 1, 2, 4, 5, 6] ?_
                exact L_186 (dysN T.1 + 1) 0 _ _ _ (by omega) (by omega) (e_181.trans hall) (e_184.trans nI_0.symm) hW
              · skip
                have hno : dysV T.1 = -9 := (pl_or hw hk hn).elim (fun q => q.1) (fun q => absurd q.1 (h3.elim (fun w => absurd (w.1.symm.trans c_124) (by decide)) (fun w => w.2)))
                refine j_iload hC dL_plans_127 rfl ?_
                refine j_bipush hC (-9) dL_plans_129 (by decide) ?_
                refine j_icmp_ne hC dL_plans_131 (tgt := 178) (by decide) (fun c_131 => ?_) (fun c_131 => ?_)
                · exact absurd (e_121.trans hno) c_131
                · skip
                  refine j_aload_n hC dL_plans_134 rfl rfl ?_
                  refine j_iconst hC (0) dL_plans_135 (by decide) ?_
                  refine j_callCW hC hW (c_X6_day g a T _ _ hW hw) mX6_day k547 rfl rfl ⟨(Nat.le_of_ble_eq_true rfl), (Nat.le_of_ble_eq_true rfl)⟩ (Nat.le_of_ble_eq_true rfl) ⟨(Nat.le_of_ble_eq_true rfl), (Nat.le_of_ble_eq_true rfl)⟩ dL_plans_136 (fun r_136 b_136 hp_136 _ => ?_)
                  obtain ⟨q_136, hW2⟩ := hp_136
                  rw [(od_no (T := T) (x := 0) (by decide) (by rw [hno]; decide))] at q_136
                  subst q_136
                  have hW : CW g a T b_136 := by rw [oDay_2] at hW2; exact hW2
                  dsimp only [jrepl, List.set, jstk]
                  refine j_bipush hC (-9) dL_plans_139 (by decide) ?_
                  refine j_icmp_ne hC dL_plans_141 (tgt := 178) (by decide) (fun c_141 => ?_) (fun c_141 => ?_)
                  · exact absurd rfl c_141
                  · skip
                    refine j_aload_n hC dL_plans_144 rfl rfl ?_
                    refine j_iconst hC (0) dL_plans_145 (by decide) ?_
                    refine j_bipush hC (12) dL_plans_146 (by decide) ?_
                    refine j_callCW hC hW (c_X6_light g a T _ _ 12 hW hw) mX6_light k426 rfl rfl ⟨(Nat.le_of_ble_eq_true rfl), (Nat.le_of_ble_eq_true rfl)⟩ (Nat.le_of_ble_eq_true rfl) ⟨(Nat.le_of_ble_eq_true rfl), (Nat.le_of_ble_eq_true rfl)⟩ dL_plans_148 (fun r_148 b_148 hp_148 _ => ?_)
                    obtain ⟨q_148, hW2⟩ := hp_148
                    rw [((ol_12 (x := 0) (i := 0) rfl hn hk).trans (dayS_no hno))] at q_148
                    subst q_148
                    have hW : CW g a T b_148 := by rw [oLight_2] at hW2; exact hW2
                    dsimp only [jrepl, List.set, jstk]
                    refine j_bipush hC (-9) dL_plans_151 (by decide) ?_
                    refine j_icmp_ne hC dL_plans_153 (tgt := 178) (by decide) (fun c_153 => ?_) (fun c_153 => ?_)
                    · exact absurd rfl c_153
                    · skip
                      refine j_aload_n hC dL_plans_156 rfl rfl ?_
                      refine j_callCW hC hW (c_X6_carryOut g a T _ hW hw nh) mX6_carryOut k552 rfl rfl ⟨(Nat.le_of_ble_eq_true rfl), (Nat.le_of_ble_eq_true rfl)⟩ (Nat.le_of_ble_eq_true rfl) ⟨(Nat.le_of_ble_eq_true rfl), (Nat.le_of_ble_eq_true rfl)⟩ dL_plans_157 (fun r_157 b_157 hp_157 _ => ?_)
                      obtain ⟨q_157, hW2⟩ := hp_157
                      rw [co_no hn hno] at q_157 hW2
                      subst q_157
                      have hW : CW g a T b_157 := hW2
                      dsimp only [jrepl, List.set, jstk]
                      refine j_bipush hC (-2) dL_plans_160 (by decide) ?_
                      refine j_icmp_ne hC dL_plans_162 (tgt := 178) (by decide) (fun c_162 => ?_) (fun c_162 => ?_)
                      · exact absurd rfl c_162
                      · skip
                        refine j_aload_n hC dL_plans_165 rfl rfl ?_
                        refine j_iconst hC (0) dL_plans_166 (by decide) ?_
                        refine j_callCW hC hW (c_X6_allowed g a T _ _ hW hw) mX6_allowed k542 rfl rfl ⟨(Nat.le_of_ble_eq_true rfl), (Nat.le_of_ble_eq_true rfl)⟩ (Nat.le_of_ble_eq_true rfl) ⟨(Nat.le_of_ble_eq_true rfl), (Nat.le_of_ble_eq_true rfl)⟩ dL_plans_167 (fun r_167 b_167 hp_167 _ => ?_)
                        obtain ⟨q_167, hW2⟩ := hp_167
                        rw [ov_al hk (show (0 : Int32) = nI 0 from rfl) (Nat.two_pow_pos _)] at q_167
                        subst q_167
                        have hW : CW g a T b_167 := by rw [oAllowed_2] at hW2; exact hW2
                        dsimp only [jrepl, List.set, jstk]
                        refine j_iconst hC (1) dL_plans_170 (by decide) ?_
                        refine j_icmp_ne hC dL_plans_171 (tgt := 178) (by decide) (fun c_171 => ?_) (fun c_171 => ?_)
                        · exact absurd (if_pos (al_zero hw hk)) c_171
                        · skip
                          refine j_iconst hC (1) dL_plans_174 (by decide) ?_
                          refine j_goto hC dL_plans_175 (tgt := 179) (by decide) ?_
                          refine j_iret hC hQ rfl (by first | rfl | (subst_vars; rfl) | (split <;> rfl)) (Nat.le_of_ble_eq_true rfl) (Nat.le_of_ble_eq_true rfl) dL_plans_179 ((CW_len hW).trans (CW_len h).symm) ?_
                          exact ⟨rfl, hW⟩
            · skip
              have hk5 : k6 < 6 := lt_of (n := 6) h4 (by omega) (by omega) c_60
              refine j_aload_n hC dL_plans_63 rfl rfl ?_
              refine j_bipush hC (30) dL_plans_64 (by decide) ?_
              refine j_iload hC dL_plans_66 rfl ?_
              refine j_iadd hC dL_plans_68 ?_
              refine j_callSS hC hX hbs hbA [] (c_L_cell g s0 L xs _ (30 + k6) (by rw [h4]; exact nI_add 30 k6) (by omega) hJ) mL_cell k333 rfl rfl rfl ⟨(Nat.le_of_ble_eq_true rfl), (Nat.le_of_ble_eq_true rfl)⟩ (Nat.le_of_ble_eq_true rfl) ⟨(Nat.le_of_ble_eq_true rfl), (Nat.le_of_ble_eq_true rfl)⟩ dL_plans_69 (fun r_69 b_69 hp_69 _ => ?_)
              obtain ⟨⟨j_69, hj_69, rfl⟩, rfl⟩ := hp_69
              dsimp only [jrepl, List.set, jstk]
              refine j_iload_n hC dL_plans_72 rfl rfl ?_
              refine j_iand hC dL_plans_73 ?_
              refine j_istore hC dL_plans_74 rfl rfl rfl (fun v_74 e_74 => ?_)
              obtain ⟨s5, hs5, es5⟩ := and_mask (j := j_69) (k := (bLs T.1).length) hk
              have e5 : v_74 = nI s5 := by rw [e_74, hall]; exact es5
              refine j_iload hC dL_plans_76 rfl ?_
              refine j_aload_n hC dL_plans_78 rfl rfl ?_
              refine j_bipush hC (36) dL_plans_79 (by decide) ?_
              refine j_iload hC dL_plans_81 rfl ?_
              refine j_iadd hC dL_plans_83 ?_
              refine j_callSS hC hX hbs hbA [] (c_L_cell g s0 L xs _ (36 + k6) (by rw [h4]; exact nI_add 36 k6) (by omega) hJ) mL_cell k333 rfl rfl rfl ⟨(Nat.le_of_ble_eq_true rfl), (Nat.le_of_ble_eq_true rfl)⟩ (Nat.le_of_ble_eq_true rfl) ⟨(Nat.le_of_ble_eq_true rfl), (Nat.le_of_ble_eq_true rfl)⟩ dL_plans_84 (fun r_84 b_84 hp_84 _ => ?_)
              obtain ⟨⟨j_84, hj_84, rfl⟩, rfl⟩ := hp_84
              dsimp only [jrepl, List.set, jstk]
              refine j_iand hC dL_plans_87 ?_
              refine j_istore hC dL_plans_88 rfl rfl rfl (fun v_88 e_88 => ?_)
              have e6 : v_88 = nI (s5 &&& j_84) := by rw [e_88, e5]; exact nI_and _ _
              refine j_aload_n hC dL_plans_90 rfl rfl ?_
              refine j_iload hC dL_plans_91 rfl ?_
              refine j_callCW hC hW (c_X6_allowed g a T _ _ hW hw) mX6_allowed k542 rfl rfl ⟨(Nat.le_of_ble_eq_true rfl), (Nat.le_of_ble_eq_true rfl)⟩ (Nat.le_of_ble_eq_true rfl) ⟨(Nat.le_of_ble_eq_true rfl), (Nat.le_of_ble_eq_true rfl)⟩ dL_plans_93 (fun r_93 b_93 hp_93 _ => ?_)
              obtain ⟨q_93, hW2⟩ := hp_93
              rw [ov_al hk e5 hs5] at q_93
              subst q_93
              have hW : CW g a T b_93 := by rw [oAllowed_2] at hW2; exact hW2
              dsimp only [jrepl, List.set, jstk]
              refine j_iconst hC (1) dL_plans_96 (by decide) ?_
              refine j_icmp_ne hC dL_plans_97 (tgt := 111) (by decide) (fun c_97 => ?_) (fun c_97 => ?_)
              · skip
                refine j_iinc hC (1) dL_plans_111 rfl rfl rfl rfl rfl (fun v_111 e_111 => ?_)
                refine j_goto hC dL_plans_114 (tgt := 56) (by decide) ?_
                refine j_pick [0, 1, 2, 3, 4] ?_
                exact ih_56 (k6 + 1) _ _ (by omega) (by omega) (jsucc e_111 h4) hW
              · skip
                refine j_aload_n hC dL_plans_100 rfl rfl ?_
                refine j_iload hC dL_plans_101 rfl ?_
                refine j_callCW hC hW (c_X6_allowed g a T _ _ hW hw) mX6_allowed k542 rfl rfl ⟨(Nat.le_of_ble_eq_true rfl), (Nat.le_of_ble_eq_true rfl)⟩ (Nat.le_of_ble_eq_true rfl) ⟨(Nat.le_of_ble_eq_true rfl), (Nat.le_of_ble_eq_true rfl)⟩ dL_plans_103 (fun r_103 b_103 hp_103 _ => ?_)
                obtain ⟨q_103, hW2⟩ := hp_103
                rw [ov_al hk e6 (Nat.lt_of_le_of_lt Nat.and_le_left hs5)] at q_103
                subst q_103
                have hW : CW g a T b_103 := by rw [oAllowed_2] at hW2; exact hW2
                dsimp only [jrepl, List.set, jstk]
                refine j_if_ne hC dL_plans_106 (tgt := 111) (by decide) (fun c_106 => ?_) (fun c_106 => ?_)
                · skip
                  refine j_iinc hC (1) dL_plans_111 rfl rfl rfl rfl rfl (fun v_111 e_111 => ?_)
                  refine j_goto hC dL_plans_114 (tgt := 56) (by decide) ?_
                  refine j_pick [0, 1, 2, 3, 4] ?_
                  exact ih_56 (k6 + 1) _ _ (by omega) (by omega) (jsucc e_111 h4) hW
                · exact absurd (al_sub hw hk hs5 (al_1 c_97)) (al_0 c_106)
        refine j_pick [0, 1, 2, 3, 4] ?_
        exact L_56 (7) 0 _ _ (by omega) (by omega) (e_54.trans nI_0.symm) hW
      · skip
        have hik : i < (bLs T.1).length := lt_of h4 (by omega) (by omega) c_22
        refine j_iload_n hC dL_plans_25 rfl rfl ?_
        refine j_if_eq hC dL_plans_26 (tgt := 45) (by decide) (fun c_26 => ?_) (fun c_26 => ?_)
        · skip
          refine j_iconst hC (0) dL_plans_45 (by decide) ?_
          refine j_istore_n hC dL_plans_46 rfl rfl rfl rfl (fun v_46 e_46 => ?_)
          refine j_iinc hC (1) dL_plans_47 rfl rfl rfl rfl rfl (fun v_47 e_47 => ?_)
          refine j_goto hC dL_plans_50 (tgt := 15) (by decide) ?_
          have hall : v_9 = nI (2 ^ (bLs T.1).length - 1) := by rw [e_9]; exact full_k _ (by omega)
          have hf0 : 0 < 2 ^ (bLs T.1).length := Nat.two_pow_pos _
          have hf1 := pow_1024 hk
          refine j_pick [0, 1, 2, 3, 4] ?_
          exact ih_15 (i + 1) _ _ _ (by omega) (by omega) (Or.inr ⟨e_46, h3.elim (fun q => absurd (q.1.symm.trans c_26) (by decide)) (fun q => q.2)⟩) (jsucc e_47 h4) hW
        · skip
          refine j_aload_n hC dL_plans_29 rfl rfl ?_
          refine j_iconst hC (1) dL_plans_30 (by decide) ?_
          refine j_iload hC dL_plans_31 rfl ?_
          refine j_ishl hC dL_plans_33 ?_
          refine j_callCW hC hW (c_X6_allowed g a T _ _ hW hw) mX6_allowed k542 rfl rfl ⟨(Nat.le_of_ble_eq_true rfl), (Nat.le_of_ble_eq_true rfl)⟩ (Nat.le_of_ble_eq_true rfl) ⟨(Nat.le_of_ble_eq_true rfl), (Nat.le_of_ble_eq_true rfl)⟩ dL_plans_34 (fun r_34 b_34 hp_34 _ => ?_)
          obtain ⟨q_34, hW2⟩ := hp_34
          rw [ov_al hk (show 1 <<< (x4 &&& 31) = nI (2 ^ i) by rw [h4]; exact bits_sh i (by omega)) (Nat.pow_lt_pow_right (by decide) hik)] at q_34
          subst q_34
          have hW : CW g a T b_34 := by rw [oAllowed_2] at hW2; exact hW2
          dsimp only [jrepl, List.set, jstk]
          refine j_iconst hC (1) dL_plans_37 (by decide) ?_
          refine j_icmp_ne hC dL_plans_38 (tgt := 45) (by decide) (fun c_38 => ?_) (fun c_38 => ?_)
          · skip
            refine j_iconst hC (0) dL_plans_45 (by decide) ?_
            refine j_istore_n hC dL_plans_46 rfl rfl rfl rfl (fun v_46 e_46 => ?_)
            refine j_iinc hC (1) dL_plans_47 rfl rfl rfl rfl rfl (fun v_47 e_47 => ?_)
            refine j_goto hC dL_plans_50 (tgt := 15) (by decide) ?_
            have hall : v_9 = nI (2 ^ (bLs T.1).length - 1) := by rw [e_9]; exact full_k _ (by omega)
            have hf0 : 0 < 2 ^ (bLs T.1).length := Nat.two_pow_pos _
            have hf1 := pow_1024 hk
            refine j_pick [0, 1, 2, 3, 4] ?_
            exact ih_15 (i + 1) _ _ _ (by omega) (by omega) (Or.inr ⟨e_46, fun q => al_n c_38 (q i hik)⟩) (jsucc e_47 h4) hW
          · skip
            refine j_iconst hC (1) dL_plans_41 (by decide) ?_
            refine j_goto hC dL_plans_42 (tgt := 46) (by decide) ?_
            refine j_istore_n hC dL_plans_46 rfl rfl rfl rfl (fun v_46 e_46 => ?_)
            refine j_iinc hC (1) dL_plans_47 rfl rfl rfl rfl rfl (fun v_47 e_47 => ?_)
            refine j_goto hC dL_plans_50 (tgt := 15) (by decide) ?_
            have hall : v_9 = nI (2 ^ (bLs T.1).length - 1) := by rw [e_9]; exact full_k _ (by omega)
            have hf0 : 0 < 2 ^ (bLs T.1).length := Nat.two_pow_pos _
            have hf1 := pow_1024 hk
            refine j_pick [0, 1, 2, 3, 4] ?_
            exact ih_15 (i + 1) _ _ _ (by omega) (by omega) (Or.inl (h3.elim (fun q => ⟨e_46, fun j hj => (Nat.lt_or_ge j i).elim (q.2 j) (fun z => by rw [show j = i by omega]; exact al_1 c_38)⟩) (fun q => absurd q.1 c_26))) (jsucc e_47 h4) hW
  refine j_pick [0, 1, 2, 3, 4] ?_
  exact L_15 ((bLs T.1).length + 1) 0 _ _ _ (by omega) (by omega) (Or.inl ⟨e_11, fun j hj => absurd hj (Nat.not_lt_zero j)⟩) (e_13.trans nI_0.symm) hW
