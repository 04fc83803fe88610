/-! p31: the law's check of the tests -/
set_option maxHeartbeats 4000000 in
set_option maxRecDepth 100000 in
theorem c_L_tests (g : jG) (a : Nat) (T : St3) (b : List va_W) (s0 L : Nat) (xs : Nat → Int32) (h : CW g a T b) (hk : (bLs T.1).length ≤ 10) (hwl : ∀ L ∈ bLs T.1, WL L) (hw : rswf (bRs T.1)) (hn : 0 < (bLs T.1).length) (hJ : L < 2 ^ 31) (hn7 : (bLs T.1).length ≤ 7) : ConS g s0 L xs yL_tests cL_tests 14 (some .boolean) 8 167 31 274 [.ref a, .ref s0] b (fun rr bb => rr = some (.int 1) ∧ ∃ T2 : St3, CW g a T2 bb ∧ T2.1 = T.1) := by
  refine ConS.of (own := RL) (lv := [(0, .ref a), (1, .ref s0)]) (by decide) rfl (Nat.le_of_ble_eq_true rfl) rfl ?_
  intro E hC hQ hN hX hbs hbA
  have hW := h
  refine j_iconst hC (1) dL_tests_0 (by decide) ?_
  refine j_aload_n hC dL_tests_1 rfl rfl ?_
  refine j_iconst hC (0) dL_tests_2 (by decide) ?_
  refine j_callCW hC hW (c_X6_told g a T _ 0 hW hw) mX6_told k405 rfl rfl ⟨(Nat.le_of_ble_eq_true rfl), (Nat.le_of_ble_eq_true rfl)⟩ (Nat.le_of_ble_eq_true rfl) ⟨(Nat.le_of_ble_eq_true rfl), (Nat.le_of_ble_eq_true rfl)⟩ dL_tests_3 (fun r_3 b_3 hp_3 _ => ?_)
  obtain ⟨q_3, hW2⟩ := hp_3
  rw [tv_0] at q_3
  subst q_3
  have hW : CW g a T b_3 := by exact hW2
  dsimp only [jrepl, List.set, jstk]
  refine j_ishl hC dL_tests_6 ?_
  refine j_iconst hC (1) dL_tests_7 (by decide) ?_
  refine j_isub hC dL_tests_8 ?_
  refine j_istore_n hC dL_tests_9 rfl rfl rfl rfl (fun v_9 e_9 => ?_)
  have hall : v_9 = nI (2 ^ (bLs T.1).length - 1) := by rw [e_9]; exact full_k _ (by omega)
  have hf0 : 2 ^ 1 ≤ 2 ^ (bLs T.1).length := Nat.pow_le_pow_right (by decide) hn
  have hf1 := pow_1024 hk
  have hf2 : 0 < 2 ^ (bLs T.1).length - 1 := by omega
  refine j_iconst hC (1) dL_tests_10 (by decide) ?_
  refine j_aload_n hC dL_tests_11 rfl rfl ?_
  refine j_bipush hC (42) dL_tests_12 (by decide) ?_
  refine j_callSS hC hX hbs hbA [] (c_L_cell g s0 L xs _ (42) (show (42 : Int32) = nI 42 from rfl) (by omega) hJ) mL_cell k333 rfl rfl rfl ⟨(Nat.le_of_ble_eq_true rfl), (Nat.le_of_ble_eq_true rfl)⟩ (Nat.le_of_ble_eq_true rfl) ⟨(Nat.le_of_ble_eq_true rfl), (Nat.le_of_ble_eq_true rfl)⟩ dL_tests_14 (fun r_14 b_14 hp_14 _ => ?_)
  obtain ⟨⟨j_14, hj_14, rfl⟩, rfl⟩ := hp_14
  dsimp only [jrepl, List.set, jstk]
  refine j_iload_n hC dL_tests_17 rfl rfl ?_
  refine j_irem hC dL_tests_18 (by rw [hall]; exact nI_ne0 hf2 (by omega)) ?_
  refine j_iadd hC dL_tests_19 ?_
  refine j_istore_n hC dL_tests_20 rfl rfl rfl rfl (fun v_20 e_20 => ?_)
  obtain ⟨s20, hs1, hs2, hs3⟩ := set_of (j := j_14) hall (by omega) hn hk
  have hs20 : v_20 = nI s20 := e_20.trans hs3
  refine j_aload_n hC dL_tests_21 rfl rfl ?_
  refine j_iload_n hC dL_tests_22 rfl rfl ?_
  refine j_callCW hC hW (c_X6_allowed g a T _ _ hW hw) mX6_allowed k542 rfl rfl ⟨(Nat.le_of_ble_eq_true rfl), (Nat.le_of_ble_eq_true rfl)⟩ (Nat.le_of_ble_eq_true rfl) ⟨(Nat.le_of_ble_eq_true rfl), (Nat.le_of_ble_eq_true rfl)⟩ dL_tests_23 (fun r_23 b_23 hp_23 _ => ?_)
  obtain ⟨q_23, hW2⟩ := hp_23
  rw [ov_al hk hs20 hs2] at q_23
  subst q_23
  have hW : CW g a T b_23 := by rw [oAllowed_2] at hW2; exact hW2
  dsimp only [jrepl, List.set, jstk]
  refine j_istore hC dL_tests_26 rfl rfl rfl (fun v_26 e_26 => ?_)
  refine j_bipush hC (24) dL_tests_28 (by decide) ?_
  refine j_newa hC 1 24 rfl rfl k89 (fun _ => rfl) (by decide) (by decide) (by decide) (Nat.le_of_ble_eq_true rfl) (Nat.le_of_ble_eq_true rfl) dL_tests_30 (fun q_30 => ?_)
  refine j_astore hC dL_tests_32 rfl rfl rfl ?_
  refine j_iconst hC (0) dL_tests_34 (by decide) ?_
  refine j_istore hC dL_tests_35 rfl rfl rfl (fun v_35 e_35 => ?_)
  refine j_iconst hC (0) dL_tests_37 (by decide) ?_
  refine j_istore hC dL_tests_38 rfl rfl rfl (fun v_38 e_38 => ?_)
  have L_40 : ∀ (fu : Nat) (i : Nat) (x6 x7 : Int32) (f : jF) (bs : List va_W) (hfu : (bLs T.1).length + 1 ≤ i + fu) (hi : i ≤ (bLs T.1).length) (h6 : x6 = dueN T.1 v_20 i) (h7 : x7 = nI i) (hf : hadOk T.1 f i) (hW : CW g a T bs), J g (jRm 8 167 31 274) E 14 40 [(0, .ref a), (2, .int v_9), (3, .int v_20), (4, .int v_26), (5, .ref q_30), (6, .int x6), (7, .int x7)] [] (bs ++ [[(q_30, .inl (g.2.2 1, 24, .inl f))]]) (1) (24) := by
    intro fu
    induction fu with
    | zero => intro i x6 x7 f bs hfu hi h6 h7 hf hW; exact absurd hfu (by omega)
    | succ fu ih_40 =>
      intro i x6 x7 f bs hfu hi h6 h7 hf hW
      refine j_iload hC dL_tests_40 rfl ?_
      refine j_aload_n hC dL_tests_42 rfl rfl ?_
      refine j_iconst hC (0) dL_tests_43 (by decide) ?_
      refine j_lawC hC hW (c_X6_told g a T _ 0 hW hw) mX6_told k405 rfl rfl ⟨(Nat.le_of_ble_eq_true rfl), (Nat.le_of_ble_eq_true rfl)⟩ (Nat.le_of_ble_eq_true rfl) ⟨(Nat.le_of_ble_eq_true rfl), (Nat.le_of_ble_eq_true rfl)⟩ dL_tests_44 (fun r_44 b_44 hp_44 _ => ?_)
      obtain ⟨q_44, hW2⟩ := hp_44
      rw [tv_0] at q_44
      subst q_44
      have hW : CW g a T b_44 := by exact hW2
      dsimp only [jrepl, List.set, jstk]
      refine j_icmp_ge hC dL_tests_47 (tgt := 145) (by decide) (fun c_47 => ?_) (fun c_47 => ?_)
      · skip
        have hie : i = (bLs T.1).length := Nat.le_antisymm hi (ge_of h7 (by omega) (by omega) c_47)
        rw [hie] at hf h6
        refine j_aload_n hC dL_tests_145 rfl rfl ?_
        refine j_bipush hC (10) dL_tests_146 (by decide) ?_
        refine j_lawC hC hW (c_X6_told g a T _ 10 hW hw) mX6_told k405 rfl rfl ⟨(Nat.le_of_ble_eq_true rfl), (Nat.le_of_ble_eq_true rfl)⟩ (Nat.le_of_ble_eq_true rfl) ⟨(Nat.le_of_ble_eq_true rfl), (Nat.le_of_ble_eq_true rfl)⟩ dL_tests_148 (fun r_148 b_148 hp_148 _ => ?_)
        obtain ⟨q_148, hW2⟩ := hp_148
        rw [tv_10] at q_148
        subst q_148
        have hW : CW g a T b_148 := by exact hW2
        dsimp only [jrepl, List.set, jstk]
        refine j_istore hC dL_tests_151 rfl rfl rfl (fun v_151 e_151 => ?_)
        refine j_aload_n hC dL_tests_153 rfl rfl ?_
        refine j_iload_n hC dL_tests_154 rfl rfl ?_
        refine j_iconst hC (0) dL_tests_155 (by decide) ?_
        refine j_lawC hC hW (c_X6_test g a T _ v_20 0 hW hw) mX6_test k161 rfl rfl ⟨(Nat.le_of_ble_eq_true rfl), (Nat.le_of_ble_eq_true rfl)⟩ (Nat.le_of_ble_eq_true rfl) ⟨(Nat.le_of_ble_eq_true rfl), (Nat.le_of_ble_eq_true rfl)⟩ dL_tests_156 (fun r_156 b_156 hp_156 _ => ?_)
        obtain ⟨rfl, hW2⟩ := hp_156
        dsimp only [jrepl, List.set, jstk]
        refine j_istore hC dL_tests_159 rfl rfl rfl (fun v_159 e_159 => ?_)
        refine j_iload hC dL_tests_161 rfl ?_
        refine j_if_ne hC dL_tests_163 (tgt := 190) (by decide) (fun c_163 => ?_) (fun c_163 => ?_)
        · skip
          have hya : alS T.1 s20 = true := al_nn (fun q => c_163 (e_26.trans q))
          have hot := ot_yes (f := 0) hk hs20 hs1 hs2 (Or.inr hya)
          rw [hot] at hW2
          have hW : CW g a (oPush T (burS v_20 T.1)) b_156 := hW2
          refine j_iload hC dL_tests_190 rfl ?_
          refine j_iload hC dL_tests_192 rfl ?_
          refine j_icmp_ne hC dL_tests_194 (tgt := 215) (by decide) (fun c_194 => ?_) (fun c_194 => ?_)
          · exact absurd ((e_159.trans (congrArg Prod.fst hot)).trans h6.symm) c_194
          · skip
            refine j_aload_n hC dL_tests_197 rfl rfl ?_
            refine j_bipush hC (10) dL_tests_198 (by decide) ?_
            refine j_lawC hC hW (c_X6_told g a (oPush T (burS v_20 T.1)) _ 10 hW hw) mX6_told k405 rfl rfl ⟨(Nat.le_of_ble_eq_true rfl), (Nat.le_of_ble_eq_true rfl)⟩ (Nat.le_of_ble_eq_true rfl) ⟨(Nat.le_of_ble_eq_true rfl), (Nat.le_of_ble_eq_true rfl)⟩ dL_tests_200 (fun r_200 b_200 hp_200 _ => ?_)
            obtain ⟨q_200, hW2⟩ := hp_200
            rw [(show (oTold (oPush T (burS v_20 T.1)) 10).1 = bPa (burS v_20 T.1) from rfl)] at q_200
            subst q_200
            have hW : CW g a (oPush T (burS v_20 T.1)) b_200 := by exact hW2
            dsimp only [jrepl, List.set, jstk]
            refine j_iload hC dL_tests_203 rfl ?_
            refine j_iload hC dL_tests_205 rfl ?_
            refine j_iadd hC dL_tests_207 ?_
            refine j_icmp_ne hC dL_tests_208 (tgt := 215) (by decide) (fun c_208 => ?_) (fun c_208 => ?_)
            · exact absurd (by rw [pa_bur, h6, e_151]) c_208
            · skip
              refine j_iconst hC (1) dL_tests_211 (by decide) ?_
              refine j_goto hC dL_tests_212 (tgt := 216) (by decide) ?_
              refine j_istore hC dL_tests_216 rfl rfl rfl (fun v_216 e_216 => ?_)
              refine j_iconst hC (0) dL_tests_218 (by decide) ?_
              refine j_istore hC dL_tests_219 rfl rfl rfl (fun v_219 e_219 => ?_)
              have L_221 : ∀ (fu : Nat) (i : Nat) (x9 x10 : Int32) (bs : List va_W) (hfu : (bLs T.1).length + 1 ≤ i + fu) (hi : i ≤ (bLs T.1).length) (h9 : x9 = 1) (h10 : x10 = nI i) (hW : CW g a (oPush T (burS v_20 T.1)) bs), J g (jRm 8 167 31 274) E 14 221 [(0, .ref a), (2, .int v_9), (3, .int v_20), (4, .int v_26), (5, .ref q_30), (7, .int v_151), (9, .int x9), (10, .int x10)] [] (bs ++ [[(q_30, .inl (g.2.2 1, 24, .inl f))]]) (1 + 15) (24 + 125) := by
                intro fu
                induction fu with
                | zero => intro i x9 x10 bs hfu hi h9 h10 hW; exact absurd hfu (by omega)
                | succ fu ih_221 =>
                  intro i x9 x10 bs hfu hi h9 h10 hW
                  refine j_iload hC dL_tests_221 rfl ?_
                  refine j_aload_n hC dL_tests_223 rfl rfl ?_
                  refine j_iconst hC (0) dL_tests_224 (by decide) ?_
                  refine j_lawC hC hW (c_X6_told g a (oPush T (burS v_20 T.1)) _ 0 hW hw) mX6_told k405 rfl rfl ⟨(Nat.le_of_ble_eq_true rfl), (Nat.le_of_ble_eq_true rfl)⟩ (Nat.le_of_ble_eq_true rfl) ⟨(Nat.le_of_ble_eq_true rfl), (Nat.le_of_ble_eq_true rfl)⟩ dL_tests_225 (fun r_225 b_225 hp_225 _ => ?_)
                  obtain ⟨q_225, hW2⟩ := hp_225
                  rw [tv_b0] at q_225
                  subst q_225
                  have hW : CW g a (oPush T (burS v_20 T.1)) b_225 := by exact hW2
                  dsimp only [jrepl, List.set, jstk]
                  refine j_icmp_ge hC dL_tests_228 (tgt := 418) (by decide) (fun c_228 => ?_) (fun c_228 => ?_)
                  · skip
                    refine j_iload hC dL_tests_418 rfl ?_
                    refine j_if_eq hC dL_tests_420 (tgt := 459) (by decide) (fun c_420 => ?_) (fun c_420 => ?_)
                    · exact absurd (h9.symm.trans c_420) (by decide)
                    · skip
                      refine j_aload_n hC dL_tests_423 rfl rfl ?_
                      refine j_lawC hC hW (c_X6_undo g a (oPush T (burS v_20 T.1)) _ hW) mX6_undo k559 rfl rfl ⟨(Nat.le_of_ble_eq_true rfl), (Nat.le_of_ble_eq_true rfl)⟩ (Nat.le_of_ble_eq_true rfl) ⟨(Nat.le_of_ble_eq_true rfl), (Nat.le_of_ble_eq_true rfl)⟩ dL_tests_424 (fun r_424 b_424 hp_424 _ => ?_)
                      obtain ⟨q_424, hW2⟩ := hp_424
                      rw [ou_push] at q_424 hW2
                      subst q_424
                      have hW : CW g a (T.1, T.2.1.take 7, T.2.2) b_424 := hW2
                      dsimp only [jrepl, List.set, jstk]
                      refine j_if_lt hC dL_tests_427 (tgt := 459) (by decide) (fun c_427 => ?_) (fun c_427 => ?_)
                      · exact absurd c_427 (nI_pos (Nat.lt_of_le_of_lt take7 (by decide)))
                      · skip
                        refine j_aload_n hC dL_tests_430 rfl rfl ?_
                        refine j_bipush hC (10) dL_tests_431 (by decide) ?_
                        refine j_lawC hC hW (c_X6_told g a (T.1, T.2.1.take 7, T.2.2) _ 10 hW hw) mX6_told k405 rfl rfl ⟨(Nat.le_of_ble_eq_true rfl), (Nat.le_of_ble_eq_true rfl)⟩ (Nat.le_of_ble_eq_true rfl) ⟨(Nat.le_of_ble_eq_true rfl), (Nat.le_of_ble_eq_true rfl)⟩ dL_tests_433 (fun r_433 b_433 hp_433 _ => ?_)
                        obtain ⟨q_433, hW2⟩ := hp_433
                        rw [(show (oTold (T.1, T.2.1.take 7, T.2.2) 10).1 = bPa T.1 from rfl)] at q_433
                        subst q_433
                        have hW : CW g a (T.1, T.2.1.take 7, T.2.2) b_433 := by exact hW2
                        dsimp only [jrepl, List.set, jstk]
                        refine j_iload hC dL_tests_436 rfl ?_
                        refine j_icmp_ne hC dL_tests_438 (tgt := 459) (by decide) (fun c_438 => ?_) (fun c_438 => ?_)
                        · exact absurd e_151.symm c_438
                        · skip
                          refine j_aload_n hC dL_tests_441 rfl rfl ?_
                          refine j_iconst hC (0) dL_tests_442 (by decide) ?_
                          refine j_bipush hC (7) dL_tests_443 (by decide) ?_
                          refine j_lawC hC hW (c_X6_light g a (T.1, T.2.1.take 7, T.2.2) _ 0 7 hW hw) mX6_light k426 rfl rfl ⟨(Nat.le_of_ble_eq_true rfl), (Nat.le_of_ble_eq_true rfl)⟩ (Nat.le_of_ble_eq_true rfl) ⟨(Nat.le_of_ble_eq_true rfl), (Nat.le_of_ble_eq_true rfl)⟩ dL_tests_445 (fun r_445 b_445 hp_445 _ => ?_)
                          obtain ⟨q_445, hW2⟩ := hp_445
                          rw [(show (oLight (T.1, T.2.1.take 7, T.2.2) 0 7).1 = lI T.1 0 6 from ol_7 (T := (T.1, T.2.1.take 7, T.2.2)) (i := 0) rfl hn hk)] at q_445
                          subst q_445
                          have hW : CW g a (T.1, T.2.1.take 7, T.2.2) b_445 := by rw [oLight_2] at hW2; exact hW2
                          dsimp only [jrepl, List.set, jstk]
                          refine j_aload hC dL_tests_448 rfl ?_
                          refine j_iconst hC (1) dL_tests_450 (by decide) ?_
                          refine j_hald hC (CW_len hW) (vp_in_nI (n := 1) (by decide) (by decide)) dL_tests_451 ?_
                          rw [show f (1 : Int32).toNatClampNeg = lI T.1 0 6 from (hf 0 hn).2.1]
                          refine j_icmp_ne hC dL_tests_452 (tgt := 459) (by decide) (fun c_452 => ?_) (fun c_452 => ?_)
                          · exact absurd rfl c_452
                          · skip
                            refine j_iconst hC (1) dL_tests_455 (by decide) ?_
                            refine j_goto hC dL_tests_456 (tgt := 460) (by decide) ?_
                            refine j_forget ?_
                            refine j_iret hC hQ rfl (by first | rfl | (subst_vars; rfl) | (split <;> rfl)) (Nat.le_of_ble_eq_true rfl) (Nat.le_of_ble_eq_true rfl) dL_tests_460 ((CW_len hW).trans (CW_len h).symm) ?_
                            exact ⟨rfl, _, hW, rfl⟩
                  · skip
                    have hik : i < (bLs T.1).length := lt_of h10 (by omega) (by omega) c_228
                    have hL := WS_L hwl hik
                    obtain ⟨b0, hb3, he2⟩ := WL_bat hL
                    have m3 := mul3 h10
                    have L_299 : ∀ (x11 x12 : Int32) (bs : List va_W) (h11 : (x11 = 1 ∧ bitS v_20 i ∧ x12 = burnMin (lI T.1 i)) ∨ (x11 = 0 ∧ ¬ bitS v_20 i ∧ x12 = 0)) (hW : CW g a (oPush T (burS v_20 T.1)) bs), J g (jRm 8 167 31 274) E 14 299 [(0, .ref a), (2, .int v_9), (3, .int v_20), (4, .int v_26), (5, .ref q_30), (7, .int v_151), (9, .int x9), (10, .int x10), (11, .int x11), (12, .int x12)] [] (bs ++ [[(q_30, .inl (g.2.2 1, 24, .inl f))]]) (1 + 15) (24 + 125) := by
                      intro x11 x12 bs h11 hW
                      have hB := bF_facts hL (h11.elim (fun q => Or.inl q.2) (fun q => Or.inr q.2))
                      refine j_aload hC dL_tests_299 rfl ?_
                      refine j_iconst hC (3) dL_tests_301 (by decide) ?_
                      refine j_iload hC dL_tests_302 rfl ?_
                      refine j_imul hC dL_tests_304 ?_
                      refine j_iconst hC (1) dL_tests_305 (by decide) ?_
                      refine j_iadd hC dL_tests_306 ?_
                      refine j_hald hC (CW_len hW) (had_in (d := 1) m3.2.1 (by omega) (by omega)) dL_tests_307 ?_
                      rw [had_1 hf hik hk m3.2.1]
                      refine j_bipush hC (24) dL_tests_308 (by decide) ?_
                      refine j_iload hC dL_tests_310 rfl ?_
                      refine j_imul hC dL_tests_312 ?_
                      refine j_isub hC dL_tests_313 ?_
                      refine j_istore hC dL_tests_314 rfl rfl rfl (fun v_314 e_314 => ?_)
                      refine j_iload hC dL_tests_316 rfl ?_
                      refine j_if_eq hC dL_tests_318 (tgt := 409) (by decide) (fun c_318 => ?_) (fun c_318 => ?_)
                      · exact absurd (h9.symm.trans c_318) (by decide)
                      · skip
                        refine j_iload hC dL_tests_321 rfl ?_
                        refine j_if_eq hC dL_tests_323 (tgt := 339) (by decide) (fun c_323 => ?_) (fun c_323 => ?_)
                        · skip
                          refine j_aload_n hC dL_tests_339 rfl rfl ?_
                          refine j_iload hC dL_tests_340 rfl ?_
                          refine j_bipush hC (8) dL_tests_342 (by decide) ?_
                          refine j_lawC hC hW (c_X6_light g a (oPush T (burS v_20 T.1)) _ x10 8 hW hw) mX6_light k426 rfl rfl ⟨(Nat.le_of_ble_eq_true rfl), (Nat.le_of_ble_eq_true rfl)⟩ (Nat.le_of_ble_eq_true rfl) ⟨(Nat.le_of_ble_eq_true rfl), (Nat.le_of_ble_eq_true rfl)⟩ dL_tests_344 (fun r_344 b_344 hp_344 _ => ?_)
                          obtain ⟨q_344, hW2⟩ := hp_344
                          rw [ol_b8 h10 hik hk] at q_344
                          subst q_344
                          have hW : CW g a (oPush T (burS v_20 T.1)) b_344 := by rw [oLight_2] at hW2; exact hW2
                          dsimp only [jrepl, List.set, jstk]
                          refine j_aload hC dL_tests_347 rfl ?_
                          refine j_iconst hC (3) dL_tests_349 (by decide) ?_
                          refine j_iload hC dL_tests_350 rfl ?_
                          refine j_imul hC dL_tests_352 ?_
                          refine j_iconst hC (2) dL_tests_353 (by decide) ?_
                          refine j_iadd hC dL_tests_354 ?_
                          refine j_hald hC (CW_len hW) (had_in (d := 2) m3.2.2 (by omega) (by omega)) dL_tests_355 ?_
                          rw [had_2 hf hik hk m3.2.2]
                          refine j_iload hC dL_tests_356 rfl ?_
                          refine j_isub hC dL_tests_358 ?_
                          refine j_icmp_ne hC dL_tests_359 (tgt := 409) (by decide) (fun c_359 => ?_) (fun c_359 => ?_)
                          · exact absurd hB.1 c_359
                          · skip
                            refine j_aload_n hC dL_tests_362 rfl rfl ?_
                            refine j_iload hC dL_tests_363 rfl ?_
                            refine j_bipush hC (7) dL_tests_365 (by decide) ?_
                            refine j_lawC hC hW (c_X6_light g a (oPush T (burS v_20 T.1)) _ x10 7 hW hw) mX6_light k426 rfl rfl ⟨(Nat.le_of_ble_eq_true rfl), (Nat.le_of_ble_eq_true rfl)⟩ (Nat.le_of_ble_eq_true rfl) ⟨(Nat.le_of_ble_eq_true rfl), (Nat.le_of_ble_eq_true rfl)⟩ dL_tests_367 (fun r_367 b_367 hp_367 _ => ?_)
                            obtain ⟨q_367, hW2⟩ := hp_367
                            rw [ol_b7 h10 hik hk] at q_367
                            subst q_367
                            have hW : CW g a (oPush T (burS v_20 T.1)) b_367 := by rw [oLight_2] at hW2; exact hW2
                            dsimp only [jrepl, List.set, jstk]
                            refine j_iload hC dL_tests_370 rfl ?_
                            refine j_bipush hC (24) dL_tests_372 (by decide) ?_
                            refine j_aload_n hC dL_tests_374 rfl rfl ?_
                            refine j_iload hC dL_tests_375 rfl ?_
                            refine j_bipush hC (6) dL_tests_377 (by decide) ?_
                            refine j_lawC hC hW (c_X6_light g a (oPush T (burS v_20 T.1)) _ x10 6 hW hw) mX6_light k426 rfl rfl ⟨(Nat.le_of_ble_eq_true rfl), (Nat.le_of_ble_eq_true rfl)⟩ (Nat.le_of_ble_eq_true rfl) ⟨(Nat.le_of_ble_eq_true rfl), (Nat.le_of_ble_eq_true rfl)⟩ dL_tests_379 (fun r_379 b_379 hp_379 _ => ?_)
                            obtain ⟨q_379, hW2⟩ := hp_379
                            rw [ol_b6 h10 hik hk] at q_379
                            subst q_379
                            have hW : CW g a (oPush T (burS v_20 T.1)) b_379 := by rw [oLight_2] at hW2; exact hW2
                            dsimp only [jrepl, List.set, jstk]
                            refine j_imul hC dL_tests_382 ?_
                            refine j_icmp_ge hC dL_tests_383 (tgt := 391) (by decide) (fun c_383 => ?_) (fun c_383 => ?_)
                            · skip
                              refine j_bipush hC (24) dL_tests_391 (by decide) ?_
                              refine j_aload_n hC dL_tests_393 rfl rfl ?_
                              refine j_iload hC dL_tests_394 rfl ?_
                              refine j_bipush hC (6) dL_tests_396 (by decide) ?_
                              refine j_lawC hC hW (c_X6_light g a (oPush T (burS v_20 T.1)) _ x10 6 hW hw) mX6_light k426 rfl rfl ⟨(Nat.le_of_ble_eq_true rfl), (Nat.le_of_ble_eq_true rfl)⟩ (Nat.le_of_ble_eq_true rfl) ⟨(Nat.le_of_ble_eq_true rfl), (Nat.le_of_ble_eq_true rfl)⟩ dL_tests_398 (fun r_398 b_398 hp_398 _ => ?_)
                              obtain ⟨q_398, hW2⟩ := hp_398
                              rw [ol_b6 h10 hik hk] at q_398
                              subst q_398
                              have hW : CW g a (oPush T (burS v_20 T.1)) b_398 := by rw [oLight_2] at hW2; exact hW2
                              dsimp only [jrepl, List.set, jstk]
                              refine j_imul hC dL_tests_401 ?_
                              refine j_icmp_ne hC dL_tests_402 (tgt := 409) (by decide) (fun c_402 => ?_) (fun c_402 => ?_)
                              · exact absurd (by rw [hB.2.1]; exact jmin_b (by rw [← e_314]; exact c_383)) c_402
                              · skip
                                refine j_iconst hC (1) dL_tests_405 (by decide) ?_
                                refine j_goto hC dL_tests_406 (tgt := 410) (by decide) ?_
                                refine j_istore hC dL_tests_410 rfl rfl rfl (fun v_410 e_410 => ?_)
                                refine j_iinc hC (1) dL_tests_412 rfl rfl rfl rfl rfl (fun v_412 e_412 => ?_)
                                refine j_goto hC dL_tests_415 (tgt := 221) (by decide) ?_
                                refine j_pick [0, 2, 3, 4, 5, 7, 9, 10] ?_
                                exact ih_221 (i + 1) _ _ _ (by omega) (by omega) e_410 (jsucc e_412 h10) hW
                            · skip
                              refine j_iload hC dL_tests_386 rfl ?_
                              refine j_goto hC dL_tests_388 (tgt := 402) (by decide) ?_
                              refine j_icmp_ne hC dL_tests_402 (tgt := 409) (by decide) (fun c_402 => ?_) (fun c_402 => ?_)
                              · exact absurd (by rw [hB.2.1, e_314]; exact jmin_a (by rw [← e_314]; exact c_383)) c_402
                              · skip
                                refine j_iconst hC (1) dL_tests_405 (by decide) ?_
                                refine j_goto hC dL_tests_406 (tgt := 410) (by decide) ?_
                                refine j_istore hC dL_tests_410 rfl rfl rfl (fun v_410 e_410 => ?_)
                                refine j_iinc hC (1) dL_tests_412 rfl rfl rfl rfl rfl (fun v_412 e_412 => ?_)
                                refine j_goto hC dL_tests_415 (tgt := 221) (by decide) ?_
                                refine j_pick [0, 2, 3, 4, 5, 7, 9, 10] ?_
                                exact ih_221 (i + 1) _ _ _ (by omega) (by omega) e_410 (jsucc e_412 h10) hW
                        · skip
                          have hbi : bitS v_20 i := h11.elim (fun q => q.2.1) (fun q => absurd q.1 c_323)
                          refine j_aload_n hC dL_tests_326 rfl rfl ?_
                          refine j_iload hC dL_tests_327 rfl ?_
                          refine j_bipush hC (11) dL_tests_329 (by decide) ?_
                          refine j_lawC hC hW (c_X6_light g a (oPush T (burS v_20 T.1)) _ x10 11 hW hw) mX6_light k426 rfl rfl ⟨(Nat.le_of_ble_eq_true rfl), (Nat.le_of_ble_eq_true rfl)⟩ (Nat.le_of_ble_eq_true rfl) ⟨(Nat.le_of_ble_eq_true rfl), (Nat.le_of_ble_eq_true rfl)⟩ dL_tests_331 (fun r_331 b_331 hp_331 _ => ?_)
                          obtain ⟨q_331, hW2⟩ := hp_331
                          rw [ol_b11 h10 hik hk] at q_331
                          subst q_331
                          have hW : CW g a (oPush T (burS v_20 T.1)) b_331 := by rw [oLight_2] at hW2; exact hW2
                          dsimp only [jrepl, List.set, jstk]
                          refine j_iload hC dL_tests_334 rfl ?_
                          refine j_icmp_ne hC dL_tests_336 (tgt := 409) (by decide) (fun c_336 => ?_) (fun c_336 => ?_)
                          · exact absurd (hB.2.2 hbi) c_336
                          · skip
                            refine j_aload_n hC dL_tests_339 rfl rfl ?_
                            refine j_iload hC dL_tests_340 rfl ?_
                            refine j_bipush hC (8) dL_tests_342 (by decide) ?_
                            refine j_lawC hC hW (c_X6_light g a (oPush T (burS v_20 T.1)) _ x10 8 hW hw) mX6_light k426 rfl rfl ⟨(Nat.le_of_ble_eq_true rfl), (Nat.le_of_ble_eq_true rfl)⟩ (Nat.le_of_ble_eq_true rfl) ⟨(Nat.le_of_ble_eq_true rfl), (Nat.le_of_ble_eq_true rfl)⟩ dL_tests_344 (fun r_344 b_344 hp_344 _ => ?_)
                            obtain ⟨q_344, hW2⟩ := hp_344
                            rw [ol_b8 h10 hik hk] at q_344
                            subst q_344
                            have hW : CW g a (oPush T (burS v_20 T.1)) b_344 := by rw [oLight_2] at hW2; exact hW2
                            dsimp only [jrepl, List.set, jstk]
                            refine j_aload hC dL_tests_347 rfl ?_
                            refine j_iconst hC (3) dL_tests_349 (by decide) ?_
                            refine j_iload hC dL_tests_350 rfl ?_
                            refine j_imul hC dL_tests_352 ?_
                            refine j_iconst hC (2) dL_tests_353 (by decide) ?_
                            refine j_iadd hC dL_tests_354 ?_
                            refine j_hald hC (CW_len hW) (had_in (d := 2) m3.2.2 (by omega) (by omega)) dL_tests_355 ?_
                            rw [had_2 hf hik hk m3.2.2]
                            refine j_iload hC dL_tests_356 rfl ?_
                            refine j_isub hC dL_tests_358 ?_
                            refine j_icmp_ne hC dL_tests_359 (tgt := 409) (by decide) (fun c_359 => ?_) (fun c_359 => ?_)
                            · exact absurd hB.1 c_359
                            · skip
                              refine j_aload_n hC dL_tests_362 rfl rfl ?_
                              refine j_iload hC dL_tests_363 rfl ?_
                              refine j_bipush hC (7) dL_tests_365 (by decide) ?_
                              refine j_lawC hC hW (c_X6_light g a (oPush T (burS v_20 T.1)) _ x10 7 hW hw) mX6_light k426 rfl rfl ⟨(Nat.le_of_ble_eq_true rfl), (Nat.le_of_ble_eq_true rfl)⟩ (Nat.le_of_ble_eq_true rfl) ⟨(Nat.le_of_ble_eq_true rfl), (Nat.le_of_ble_eq_true rfl)⟩ dL_tests_367 (fun r_367 b_367 hp_367 _ => ?_)
                              obtain ⟨q_367, hW2⟩ := hp_367
                              rw [ol_b7 h10 hik hk] at q_367
                              subst q_367
                              have hW : CW g a (oPush T (burS v_20 T.1)) b_367 := by rw [oLight_2] at hW2; exact hW2
                              dsimp only [jrepl, List.set, jstk]
                              refine j_iload hC dL_tests_370 rfl ?_
                              refine j_bipush hC (24) dL_tests_372 (by decide) ?_
                              refine j_aload_n hC dL_tests_374 rfl rfl ?_
                              refine j_iload hC dL_tests_375 rfl ?_
                              refine j_bipush hC (6) dL_tests_377 (by decide) ?_
                              refine j_lawC hC hW (c_X6_light g a (oPush T (burS v_20 T.1)) _ x10 6 hW hw) mX6_light k426 rfl rfl ⟨(Nat.le_of_ble_eq_true rfl), (Nat.le_of_ble_eq_true rfl)⟩ (Nat.le_of_ble_eq_true rfl) ⟨(Nat.le_of_ble_eq_true rfl), (Nat.le_of_ble_eq_true rfl)⟩ dL_tests_379 (fun r_379 b_379 hp_379 _ => ?_)
                              obtain ⟨q_379, hW2⟩ := hp_379
                              rw [ol_b6 h10 hik hk] at q_379
                              subst q_379
                              have hW : CW g a (oPush T (burS v_20 T.1)) b_379 := by rw [oLight_2] at hW2; exact hW2
                              dsimp only [jrepl, List.set, jstk]
                              refine j_imul hC dL_tests_382 ?_
                              refine j_icmp_ge hC dL_tests_383 (tgt := 391) (by decide) (fun c_383 => ?_) (fun c_383 => ?_)
                              · skip
                                refine j_bipush hC (24) dL_tests_391 (by decide) ?_
                                refine j_aload_n hC dL_tests_393 rfl rfl ?_
                                refine j_iload hC dL_tests_394 rfl ?_
                                refine j_bipush hC (6) dL_tests_396 (by decide) ?_
                                refine j_lawC hC hW (c_X6_light g a (oPush T (burS v_20 T.1)) _ x10 6 hW hw) mX6_light k426 rfl rfl ⟨(Nat.le_of_ble_eq_true rfl), (Nat.le_of_ble_eq_true rfl)⟩ (Nat.le_of_ble_eq_true rfl) ⟨(Nat.le_of_ble_eq_true rfl), (Nat.le_of_ble_eq_true rfl)⟩ dL_tests_398 (fun r_398 b_398 hp_398 _ => ?_)
                                obtain ⟨q_398, hW2⟩ := hp_398
                                rw [ol_b6 h10 hik hk] at q_398
                                subst q_398
                                have hW : CW g a (oPush T (burS v_20 T.1)) b_398 := by rw [oLight_2] at hW2; exact hW2
                                dsimp only [jrepl, List.set, jstk]
                                refine j_imul hC dL_tests_401 ?_
                                refine j_icmp_ne hC dL_tests_402 (tgt := 409) (by decide) (fun c_402 => ?_) (fun c_402 => ?_)
                                · exact absurd (by rw [hB.2.1]; exact jmin_b (by rw [← e_314]; exact c_383)) c_402
                                · skip
                                  refine j_iconst hC (1) dL_tests_405 (by decide) ?_
                                  refine j_goto hC dL_tests_406 (tgt := 410) (by decide) ?_
                                  refine j_istore hC dL_tests_410 rfl rfl rfl (fun v_410 e_410 => ?_)
                                  refine j_iinc hC (1) dL_tests_412 rfl rfl rfl rfl rfl (fun v_412 e_412 => ?_)
                                  refine j_goto hC dL_tests_415 (tgt := 221) (by decide) ?_
                                  refine j_pick [0, 2, 3, 4, 5, 7, 9, 10] ?_
                                  exact ih_221 (i + 1) _ _ _ (by omega) (by omega) e_410 (jsucc e_412 h10) hW
                              · skip
                                refine j_iload hC dL_tests_386 rfl ?_
                                refine j_goto hC dL_tests_388 (tgt := 402) (by decide) ?_
                                refine j_icmp_ne hC dL_tests_402 (tgt := 409) (by decide) (fun c_402 => ?_) (fun c_402 => ?_)
                                · exact absurd (by rw [hB.2.1, e_314]; exact jmin_a (by rw [← e_314]; exact c_383)) c_402
                                · skip
                                  refine j_iconst hC (1) dL_tests_405 (by decide) ?_
                                  refine j_goto hC dL_tests_406 (tgt := 410) (by decide) ?_
                                  refine j_istore hC dL_tests_410 rfl rfl rfl (fun v_410 e_410 => ?_)
                                  refine j_iinc hC (1) dL_tests_412 rfl rfl rfl rfl rfl (fun v_412 e_412 => ?_)
                                  refine j_goto hC dL_tests_415 (tgt := 221) (by decide) ?_
                                  refine j_pick [0, 2, 3, 4, 5, 7, 9, 10] ?_
                                  exact ih_221 (i + 1) _ _ _ (by omega) (by omega) e_410 (jsucc e_412 h10) hW
                    refine j_iload_n hC dL_tests_231 rfl rfl ?_
                    refine j_iload hC dL_tests_232 rfl ?_
                    refine j_ishr hC dL_tests_234 ?_
                    refine j_iconst hC (1) dL_tests_235 (by decide) ?_
                    refine j_iand hC dL_tests_236 ?_
                    refine j_iconst hC (1) dL_tests_237 (by decide) ?_
                    refine j_icmp_ne hC dL_tests_238 (tgt := 245) (by decide) (fun c_238 => ?_) (fun c_238 => ?_)
                    · skip
                      refine j_iconst hC (0) dL_tests_245 (by decide) ?_
                      refine j_istore hC dL_tests_246 rfl rfl rfl (fun v_246 e_246 => ?_)
                      refine j_iload hC dL_tests_248 rfl ?_
                      refine j_if_eq hC dL_tests_250 (tgt := 296) (by decide) (fun c_250 => ?_) (fun c_250 => ?_)
                      · skip
                        refine j_iconst hC (0) dL_tests_296 (by decide) ?_
                        refine j_istore hC dL_tests_297 rfl rfl rfl (fun v_297 e_297 => ?_)
                        refine j_pick [0, 2, 3, 4, 5, 7, 9, 10, 11, 12] ?_
                        exact L_299 _ _ _ (Or.inr ⟨e_246, by rw [h10] at c_238; exact c_238, e_297⟩) hW
                      · exact absurd c_250 (by rw [e_246]; decide)
                    · skip
                      refine j_iconst hC (1) dL_tests_241 (by decide) ?_
                      refine j_goto hC dL_tests_242 (tgt := 246) (by decide) ?_
                      refine j_istore hC dL_tests_246 rfl rfl rfl (fun v_246 e_246 => ?_)
                      refine j_iload hC dL_tests_248 rfl ?_
                      refine j_if_eq hC dL_tests_250 (tgt := 296) (by decide) (fun c_250 => ?_) (fun c_250 => ?_)
                      · exact absurd c_250 (by rw [e_246]; decide)
                      · skip
                        refine j_aload hC dL_tests_253 rfl ?_
                        refine j_iconst hC (3) dL_tests_255 (by decide) ?_
                        refine j_iload hC dL_tests_256 rfl ?_
                        refine j_imul hC dL_tests_258 ?_
                        refine j_hald hC (CW_len hW) (had_in (d := 0) m3.1 (by omega) (by omega)) dL_tests_259 ?_
                        rw [had_0 hf hik hk m3.1]
                        refine j_aload_n hC dL_tests_260 rfl rfl ?_
                        refine j_iload hC dL_tests_261 rfl ?_
                        refine j_iconst hC (2) dL_tests_263 (by decide) ?_
                        refine j_lawC hC hW (c_X6_light g a (oPush T (burS v_20 T.1)) _ x10 2 hW hw) mX6_light k426 rfl rfl ⟨(Nat.le_of_ble_eq_true rfl), (Nat.le_of_ble_eq_true rfl)⟩ (Nat.le_of_ble_eq_true rfl) ⟨(Nat.le_of_ble_eq_true rfl), (Nat.le_of_ble_eq_true rfl)⟩ dL_tests_264 (fun r_264 b_264 hp_264 _ => ?_)
                        obtain ⟨q_264, hW2⟩ := hp_264
                        rw [ol_b2 h10 hik hk] at q_264
                        subst q_264
                        have hW : CW g a (oPush T (burS v_20 T.1)) b_264 := by rw [oLight_2] at hW2; exact hW2
                        dsimp only [jrepl, List.set, jstk]
                        refine j_callSR hC [] (c_L_rated g _ b0 he2 hb3) mL_rated k485 rfl rfl rfl ⟨(Nat.le_of_ble_eq_true rfl), (Nat.le_of_ble_eq_true rfl)⟩ (Nat.le_of_ble_eq_true rfl) ⟨(Nat.le_of_ble_eq_true rfl), (Nat.le_of_ble_eq_true rfl)⟩ dL_tests_267 ?_
                        dsimp only [jrepl, List.set, jstk]
                        refine j_icmp_ge hC dL_tests_270 (tgt := 283) (by decide) (fun c_270 => ?_) (fun c_270 => ?_)
                        · skip
                          refine j_aload_n hC dL_tests_283 rfl rfl ?_
                          refine j_iload hC dL_tests_284 rfl ?_
                          refine j_iconst hC (2) dL_tests_286 (by decide) ?_
                          refine j_lawC hC hW (c_X6_light g a (oPush T (burS v_20 T.1)) _ x10 2 hW hw) mX6_light k426 rfl rfl ⟨(Nat.le_of_ble_eq_true rfl), (Nat.le_of_ble_eq_true rfl)⟩ (Nat.le_of_ble_eq_true rfl) ⟨(Nat.le_of_ble_eq_true rfl), (Nat.le_of_ble_eq_true rfl)⟩ dL_tests_287 (fun r_287 b_287 hp_287 _ => ?_)
                          obtain ⟨q_287, hW2⟩ := hp_287
                          rw [ol_b2 h10 hik hk] at q_287
                          subst q_287
                          have hW : CW g a (oPush T (burS v_20 T.1)) b_287 := by rw [oLight_2] at hW2; exact hW2
                          dsimp only [jrepl, List.set, jstk]
                          refine j_callSR hC [] (c_L_rated g _ b0 he2 hb3) mL_rated k485 rfl rfl rfl ⟨(Nat.le_of_ble_eq_true rfl), (Nat.le_of_ble_eq_true rfl)⟩ (Nat.le_of_ble_eq_true rfl) ⟨(Nat.le_of_ble_eq_true rfl), (Nat.le_of_ble_eq_true rfl)⟩ dL_tests_290 ?_
                          dsimp only [jrepl, List.set, jstk]
                          refine j_goto hC dL_tests_293 (tgt := 297) (by decide) ?_
                          refine j_istore hC dL_tests_297 rfl rfl rfl (fun v_297 e_297 => ?_)
                          refine j_pick [0, 2, 3, 4, 5, 7, 9, 10, 11, 12] ?_
                          exact L_299 _ _ _ (Or.inl ⟨e_246, by rw [h10] at c_238; exact c_238, e_297.trans (jmin_b c_270).symm⟩) hW
                        · skip
                          refine j_aload hC dL_tests_273 rfl ?_
                          refine j_iconst hC (3) dL_tests_275 (by decide) ?_
                          refine j_iload hC dL_tests_276 rfl ?_
                          refine j_imul hC dL_tests_278 ?_
                          refine j_hald hC (CW_len hW) (had_in (d := 0) m3.1 (by omega) (by omega)) dL_tests_279 ?_
                          rw [had_0 hf hik hk m3.1]
                          refine j_goto hC dL_tests_280 (tgt := 297) (by decide) ?_
                          refine j_istore hC dL_tests_297 rfl rfl rfl (fun v_297 e_297 => ?_)
                          refine j_pick [0, 2, 3, 4, 5, 7, 9, 10, 11, 12] ?_
                          exact L_299 _ _ _ (Or.inl ⟨e_246, by rw [h10] at c_238; exact c_238, e_297.trans (jmin_a c_270).symm⟩) hW
              refine j_pick [0, 2, 3, 4, 5, 7, 9, 10] ?_
              exact L_221 ((bLs T.1).length + 1) 0 _ _ _ (by omega) (by omega) e_216 (e_219.trans nI_0.symm) hW
        · skip
          have hna : ¬ alS T.1 s20 = true := al_0 (e_26.symm.trans c_163)
          rw [ot_no hk hs20 hs1 hs2 hna] at hW2
          have hW : CW g a T b_156 := hW2
          refine j_iload hC dL_tests_166 rfl ?_
          refine j_bipush hC (-2) dL_tests_168 (by decide) ?_
          refine j_icmp_ne hC dL_tests_170 (tgt := 188) (by decide) (fun c_170 => ?_) (fun c_170 => ?_)
          · exact absurd (e_159.trans (congrArg Prod.fst (ot_no hk hs20 hs1 hs2 hna))) c_170
          · skip
            refine j_aload_n hC dL_tests_173 rfl rfl ?_
            refine j_bipush hC (10) dL_tests_174 (by decide) ?_
            refine j_lawC hC hW (c_X6_told g a T _ 10 hW hw) mX6_told k405 rfl rfl ⟨(Nat.le_of_ble_eq_true rfl), (Nat.le_of_ble_eq_true rfl)⟩ (Nat.le_of_ble_eq_true rfl) ⟨(Nat.le_of_ble_eq_true rfl), (Nat.le_of_ble_eq_true rfl)⟩ dL_tests_176 (fun r_176 b_176 hp_176 _ => ?_)
            obtain ⟨q_176, hW2⟩ := hp_176
            rw [tv_10] at q_176
            subst q_176
            have hW : CW g a T b_176 := by exact hW2
            dsimp only [jrepl, List.set, jstk]
            refine j_iload hC dL_tests_179 rfl ?_
            refine j_icmp_ne hC dL_tests_181 (tgt := 188) (by decide) (fun c_181 => ?_) (fun c_181 => ?_)
            · exact absurd e_151.symm c_181
            · skip
              refine j_iconst hC (1) dL_tests_184 (by decide) ?_
              refine j_goto hC dL_tests_185 (tgt := 189) (by decide) ?_
              refine j_forget ?_
              refine j_iret hC hQ rfl (by first | rfl | (subst_vars; rfl) | (split <;> rfl)) (Nat.le_of_ble_eq_true rfl) (Nat.le_of_ble_eq_true rfl) dL_tests_189 ((CW_len hW).trans (CW_len h).symm) ?_
              exact ⟨rfl, T, hW, rfl⟩
      · skip
        have hik : i < (bLs T.1).length := lt_of h7 (by omega) (by omega) c_47
        have hL := WS_L hwl hik
        obtain ⟨b0, hb3, he2⟩ := WL_bat hL
        have m3 := mul3 h7
        refine j_aload hC dL_tests_50 rfl ?_
        refine j_iconst hC (3) dL_tests_52 (by decide) ?_
        refine j_iload hC dL_tests_53 rfl ?_
        refine j_imul hC dL_tests_55 ?_
        refine j_aload_n hC dL_tests_56 rfl rfl ?_
        refine j_iload hC dL_tests_57 rfl ?_
        refine j_bipush hC (9) dL_tests_59 (by decide) ?_
        refine j_lawC hC hW (c_X6_light g a T _ x7 9 hW hw) mX6_light k426 rfl rfl ⟨(Nat.le_of_ble_eq_true rfl), (Nat.le_of_ble_eq_true rfl)⟩ (Nat.le_of_ble_eq_true rfl) ⟨(Nat.le_of_ble_eq_true rfl), (Nat.le_of_ble_eq_true rfl)⟩ dL_tests_61 (fun r_61 b_61 hp_61 _ => ?_)
        obtain ⟨q_61, hW2⟩ := hp_61
        rw [ol_9 h7 hik hk] at q_61
        subst q_61
        have hW : CW g a T b_61 := by rw [oLight_2] at hW2; exact hW2
        dsimp only [jrepl, List.set, jstk]
        refine j_hast hC (CW_len hW) (had_in (d := 0) m3.1 (by omega) (by omega)) dL_tests_64 ?_
        refine j_aload hC dL_tests_65 rfl ?_
        refine j_iconst hC (3) dL_tests_67 (by decide) ?_
        refine j_iload hC dL_tests_68 rfl ?_
        refine j_imul hC dL_tests_70 ?_
        refine j_iconst hC (1) dL_tests_71 (by decide) ?_
        refine j_iadd hC dL_tests_72 ?_
        refine j_aload_n hC dL_tests_73 rfl rfl ?_
        refine j_iload hC dL_tests_74 rfl ?_
        refine j_bipush hC (7) dL_tests_76 (by decide) ?_
        refine j_lawC hC hW (c_X6_light g a T _ x7 7 hW hw) mX6_light k426 rfl rfl ⟨(Nat.le_of_ble_eq_true rfl), (Nat.le_of_ble_eq_true rfl)⟩ (Nat.le_of_ble_eq_true rfl) ⟨(Nat.le_of_ble_eq_true rfl), (Nat.le_of_ble_eq_true rfl)⟩ dL_tests_78 (fun r_78 b_78 hp_78 _ => ?_)
        obtain ⟨q_78, hW2⟩ := hp_78
        rw [ol_7 h7 hik hk] at q_78
        subst q_78
        have hW : CW g a T b_78 := by rw [oLight_2] at hW2; exact hW2
        dsimp only [jrepl, List.set, jstk]
        refine j_hast hC (CW_len hW) (had_in (d := 1) m3.2.1 (by omega) (by omega)) dL_tests_81 ?_
        refine j_aload hC dL_tests_82 rfl ?_
        refine j_iconst hC (3) dL_tests_84 (by decide) ?_
        refine j_iload hC dL_tests_85 rfl ?_
        refine j_imul hC dL_tests_87 ?_
        refine j_iconst hC (2) dL_tests_88 (by decide) ?_
        refine j_iadd hC dL_tests_89 ?_
        refine j_aload_n hC dL_tests_90 rfl rfl ?_
        refine j_iload hC dL_tests_91 rfl ?_
        refine j_bipush hC (8) dL_tests_93 (by decide) ?_
        refine j_lawC hC hW (c_X6_light g a T _ x7 8 hW hw) mX6_light k426 rfl rfl ⟨(Nat.le_of_ble_eq_true rfl), (Nat.le_of_ble_eq_true rfl)⟩ (Nat.le_of_ble_eq_true rfl) ⟨(Nat.le_of_ble_eq_true rfl), (Nat.le_of_ble_eq_true rfl)⟩ dL_tests_95 (fun r_95 b_95 hp_95 _ => ?_)
        obtain ⟨q_95, hW2⟩ := hp_95
        rw [ol_8 h7 hik hk] at q_95
        subst q_95
        have hW : CW g a T b_95 := by rw [oLight_2] at hW2; exact hW2
        dsimp only [jrepl, List.set, jstk]
        refine j_hast hC (CW_len hW) (had_in (d := 2) m3.2.2 (by omega) (by omega)) dL_tests_98 ?_
        generalize hfe : upd (upd (upd f (3 * x7).toNatClampNeg (endL (lI T.1 i))) (3 * x7 + 1).toNatClampNeg (lI T.1 i 6)) (3 * x7 + 2).toNatClampNeg (lI T.1 i 7) = f2
        have hf3 : hadOk T.1 f2 (i + 1) := by rw [← hfe]; exact had_step m3.1 m3.2.1 m3.2.2 (by omega) hf
        refine j_iload hC dL_tests_99 rfl ?_
        refine j_iload_n hC dL_tests_101 rfl rfl ?_
        refine j_iload hC dL_tests_102 rfl ?_
        refine j_ishr hC dL_tests_104 ?_
        refine j_iconst hC (1) dL_tests_105 (by decide) ?_
        refine j_iand hC dL_tests_106 ?_
        refine j_iconst hC (1) dL_tests_107 (by decide) ?_
        refine j_icmp_ne hC dL_tests_108 (tgt := 135) (by decide) (fun c_108 => ?_) (fun c_108 => ?_)
        · skip
          refine j_iconst hC (0) dL_tests_135 (by decide) ?_
          refine j_iadd hC dL_tests_136 ?_
          refine j_istore hC dL_tests_137 rfl rfl rfl (fun v_137 e_137 => ?_)
          refine j_iinc hC (1) dL_tests_139 rfl rfl rfl rfl rfl (fun v_139 e_139 => ?_)
          refine j_goto hC dL_tests_142 (tgt := 40) (by decide) ?_
          refine j_pick [0, 2, 3, 4, 5, 6, 7] ?_
          exact ih_40 (i + 1) _ _ _ _ (by omega) (by omega) (by rw [e_137, due_s, ← h6, Int32.add_zero]; exact (if_neg (fun q => absurd q.1 (by rw [h7] at c_108; exact c_108))).symm) (jsucc e_139 h7) hf3 hW
        · skip
          refine j_aload hC dL_tests_111 rfl ?_
          refine j_iconst hC (3) dL_tests_113 (by decide) ?_
          refine j_iload hC dL_tests_114 rfl ?_
          refine j_imul hC dL_tests_116 ?_
          refine j_hald hC (CW_len hW) (had_in (d := 0) m3.1 (by omega) (by omega)) dL_tests_117 ?_
          rw [had_0 hf3 (by omega) (by omega) m3.1]
          refine j_aload_n hC dL_tests_118 rfl rfl ?_
          refine j_iload hC dL_tests_119 rfl ?_
          refine j_iconst hC (2) dL_tests_121 (by decide) ?_
          refine j_lawC hC hW (c_X6_light g a T _ x7 2 hW hw) mX6_light k426 rfl rfl ⟨(Nat.le_of_ble_eq_true rfl), (Nat.le_of_ble_eq_true rfl)⟩ (Nat.le_of_ble_eq_true rfl) ⟨(Nat.le_of_ble_eq_true rfl), (Nat.le_of_ble_eq_true rfl)⟩ dL_tests_122 (fun r_122 b_122 hp_122 _ => ?_)
          obtain ⟨q_122, hW2⟩ := hp_122
          rw [ol_2 h7 hik hk] at q_122
          subst q_122
          have hW : CW g a T b_122 := by rw [oLight_2] at hW2; exact hW2
          dsimp only [jrepl, List.set, jstk]
          refine j_callSR hC [] (c_L_rated g _ b0 he2 hb3) mL_rated k485 rfl rfl rfl ⟨(Nat.le_of_ble_eq_true rfl), (Nat.le_of_ble_eq_true rfl)⟩ (Nat.le_of_ble_eq_true rfl) ⟨(Nat.le_of_ble_eq_true rfl), (Nat.le_of_ble_eq_true rfl)⟩ dL_tests_125 ?_
          dsimp only [jrepl, List.set, jstk]
          refine j_icmp_lt hC dL_tests_128 (tgt := 135) (by decide) (fun c_128 => ?_) (fun c_128 => ?_)
          · skip
            refine j_iconst hC (0) dL_tests_135 (by decide) ?_
            refine j_iadd hC dL_tests_136 ?_
            refine j_istore hC dL_tests_137 rfl rfl rfl (fun v_137 e_137 => ?_)
            refine j_iinc hC (1) dL_tests_139 rfl rfl rfl rfl rfl (fun v_139 e_139 => ?_)
            refine j_goto hC dL_tests_142 (tgt := 40) (by decide) ?_
            refine j_pick [0, 2, 3, 4, 5, 6, 7] ?_
            exact ih_40 (i + 1) _ _ _ _ (by omega) (by omega) (by rw [e_137, due_s, ← h6, Int32.add_zero]; exact (if_neg (fun q => q.2 c_128)).symm) (jsucc e_139 h7) hf3 hW
          · skip
            refine j_iconst hC (1) dL_tests_131 (by decide) ?_
            refine j_goto hC dL_tests_132 (tgt := 136) (by decide) ?_
            refine j_iadd hC dL_tests_136 ?_
            refine j_istore hC dL_tests_137 rfl rfl rfl (fun v_137 e_137 => ?_)
            refine j_iinc hC (1) dL_tests_139 rfl rfl rfl rfl rfl (fun v_139 e_139 => ?_)
            refine j_goto hC dL_tests_142 (tgt := 40) (by decide) ?_
            refine j_pick [0, 2, 3, 4, 5, 6, 7] ?_
            exact ih_40 (i + 1) _ _ _ _ (by omega) (by omega) (by rw [e_137, due_s, ← h6]; exact (if_pos ⟨by rw [h7] at c_108; exact c_108, c_128⟩).symm) (jsucc e_139 h7) hf3 hW
  refine j_pick [0, 2, 3, 4, 5, 6, 7] ?_
  exact L_40 ((bLs T.1).length + 1) 0 _ _ _ _ (by omega) (by omega) e_35 (e_38.trans nI_0.symm) (fun j hj => absurd hj (Nat.not_lt_zero j)) hW
