set_option maxHeartbeats 16000000 in
set_option maxRecDepth 100000 in
theorem law_body {g : jG} {p : Program} {e : Env} {s : State} {m : MethodId} {below : List Frame} {meth : Method} {c : Code} {b L : Nat} {xs : Nat → Int32} {E : jE} (hE : E = lawE p e s m below meth c b) (hC : jC g room_1 E code RL 4) (hr : meth.sig.returnType = ret) (hL : L ≤ 2560) (hX : va_X b L xs (jEs E) (jEs E).heap) (hbl : b < (jEs E).heap.size) (hbA : ¬ jEA E b) : J g room_1 E 4 0 [(0, .ref b)] [] [] 0 0 := by
  refine j_new hC uX6 (fs := [.null, .null, .null, .null, .null, .null]) dfn6 k57 k58 k48 (Nat.le_of_ble_eq_true rfl) (Nat.le_of_ble_eq_true rfl) dL_law_0 (fun a => ?_)
  dsimp only [List.cons_append, List.nil_append]
  refine j_dup hC dL_law_3 rfl ?_
  refine j_callI hC [0] (c_X6_init g a) mX6_init k59 rfl rfl rfl ⟨(Nat.le_of_ble_eq_true rfl), (Nat.le_of_ble_eq_true rfl)⟩ (Nat.le_of_ble_eq_true rfl) ⟨(Nat.le_of_ble_eq_true rfl), (Nat.le_of_ble_eq_true rfl)⟩ dL_law_4 (fun r_4 b_4 hp_4 _ => ?_)
  obtain ⟨rfl, dt, dn, du, dh, dr, dp, rfl⟩ := hp_4
  dsimp only [jrepl, List.set, jstk]
  refine j_eqfl [xo a dt dn du dh dr dp, tc g dt (fun _ => 0) (fun _ => 0), bc g dn newI newA (lrf []), lts [], bc g du newI newA (lrf []), lts [], hc g dh (fun _ => 0) (kr (fun _ => none)), kb g (fun _ => none), rc g dr (fun _ _ => 0), pcc g dp (fun _ => 0) (fun _ _ => 0)] rfl ?_
  refine j_astore_n hC dL_law_7 rfl rfl rfl rfl ?_
  refine j_new hC uX7 (fs := [.null, .int 0, .null, .int 0, .int 0, .int 0, .null, .null, .int 0, .int 0, .null, .null, .null, .null, .null, .null]) dfn7 k718 k719 k54 (Nat.le_of_ble_eq_true rfl) (Nat.le_of_ble_eq_true rfl) dL_law_8 (fun qm => ?_)
  dsimp only [List.cons_append, List.nil_append]
  refine j_dup hC dL_law_11 rfl ?_
  refine j_callI hC [10] (c_X7_init g qm) mX7_init k720 rfl rfl rfl ⟨(Nat.le_of_ble_eq_true rfl), (Nat.le_of_ble_eq_true rfl)⟩ (Nat.le_of_ble_eq_true rfl) ⟨(Nat.le_of_ble_eq_true rfl), (Nat.le_of_ble_eq_true rfl)⟩ dL_law_12 (fun r_12 b_12 hp_12 _ => ?_)
  obtain ⟨rfl, d, hd, hW0⟩ := hp_12
  obtain ⟨I0, A0, rfl, hMI0⟩ := hW0
  subst hd
  dsimp only [jrepl, List.set, jstk]
  refine j_astore_n hC dL_law_15 rfl rfl rfl rfl ?_
  refine j_iconst hC (0) dL_law_16 (by decide) ?_
  refine j_istore_n hC dL_law_17 rfl rfl rfl rfl (fun v_17 e_17 => ?_)
  have L_18 : ∀ (fu : Nat) (cq : Nat) (x3 : Int32) (T : St3) (b1 b2 : List va_W) (hfu : 514 ≤ cq + fu) (hi : cq ≤ 512) (h3 : x3 = nI (5 * cq)) (hCW : CW g a T b1) (hMW : MW g d T b2), J g room_1 E 4 18 [(0, .ref b), (1, .ref a), (2, .ref (d 0)), (3, .int x3)] [] (b1 ++ b2) (40 + 100 * cq) (6500 + 900 * cq) := by
    intro fu
    induction fu with
    | zero => intro cq x3 T b1 b2 hfu hi h3 hCW hMW; exact absurd hfu (by omega)
    | succ fu ih_18 =>
      intro cq x3 T b1 b2 hfu hi h3 hCW hMW
      refine j_iload_n hC dL_law_18 rfl rfl ?_
      refine j_aload_n hC dL_law_19 rfl rfl ?_
      refine j_slen hC hX hbl hbA dL_law_20 ?_
      refine j_iconst hC (5) dL_law_21 (by decide) ?_
      refine j_isub hC dL_law_22 ?_
      refine j_icmp_gt hC dL_law_23 (tgt := 929) (by decide) (fun c_23 => ?_) (fun c_23 => ?_)
      · skip
        refine j_iconst hC (1) dL_law_929 (by decide) ?_
        subst hE; exact law_end hC hr (by omega) (by omega)
      · skip
        have hiL := law_lt h3 (by omega) hL c_23
        have hc511 : cq ≤ 511 := by omega
        have hin0 : vp_in x3 L := by rw [h3]; exact vp_in_nI (by omega) (by omega)
        have hin1 : vp_in (x3 + 1) L := law_ix (j := 1) h3 (by omega) hiL hL
        have hin2 : vp_in (x3 + 2) L := law_ix (j := 2) h3 (by omega) hiL hL
        have hin3 : vp_in (x3 + 3) L := law_ix (j := 3) h3 (by omega) hiL hL
        have hin4 : vp_in (x3 + 4) L := law_ix (j := 4) h3 (by omega) hiL hL
        have hw := MW_rs hMW
        have nh := MW_hrs hMW
        refine j_aload_n hC dL_law_26 rfl rfl ?_
        refine j_iload_n hC dL_law_27 rfl rfl ?_
        refine j_sld hC hX hbl hbA (by first | exact hin0 | exact hin1 | exact hin2 | exact hin3 | exact hin4) dL_law_28 ?_
        refine j_bipush hC (31) dL_law_29 (by decide) ?_
        refine j_iand hC dL_law_31 ?_
        refine j_case (0) (fun s_32_0 => ?_) (fun s_32_0 => ?_)
        · refine j_tableIn hC dL_law_32 (by rw [s_32_0]; decide) (by rw [s_32_0]; decide) (off := 128) (by rw [s_32_0]; rfl) (tgt := 160) (by decide) ?_
          refine j_aload_n hC dL_law_160 rfl rfl ?_
          refine j_aload_n hC dL_law_161 rfl rfl ?_
          refine j_iload_n hC dL_law_162 rfl rfl ?_
          refine j_iconst hC (1) dL_law_163 (by decide) ?_
          refine j_iadd hC dL_law_164 ?_
          refine j_sld hC hX hbl hbA (by first | exact hin0 | exact hin1 | exact hin2 | exact hin3 | exact hin4) dL_law_165 ?_
          refine j_lawC hC hCW (c_X6_type g a T b1 _ hCW) mX6_type k209 rfl rfl ⟨(Nat.le_of_ble_eq_true rfl), (Nat.le_of_ble_eq_true rfl)⟩ (Nat.le_of_ble_eq_true rfl) ⟨by show _ ≤ 600000; omega, by show _ ≤ 7302249; omega⟩ dL_law_166 (fun r_166 b_166 hp_166 _ => ?_)
          obtain ⟨rfl, hN_166⟩ := hp_166
          have hl1 : b_166.length = 10 := CW_len hN_166
          dsimp only [jrepl, List.set, jstk]
          refine j_aload_n hC dL_law_169 rfl rfl ?_
          refine j_aload_n hC dL_law_170 rfl rfl ?_
          refine j_iload_n hC dL_law_171 rfl rfl ?_
          refine j_iconst hC (1) dL_law_172 (by decide) ?_
          refine j_iadd hC dL_law_173 ?_
          refine j_sld hC hX hbl hbA (by first | exact hin0 | exact hin1 | exact hin2 | exact hin3 | exact hin4) dL_law_174 ?_
          refine j_lawM hC hMW hl1 (c_X7_type g d T b2 _ hMW) mX7_type k847 rfl rfl ⟨(Nat.le_of_ble_eq_true rfl), (Nat.le_of_ble_eq_true rfl)⟩ (Nat.le_of_ble_eq_true rfl) ⟨by show _ ≤ 600000; omega, by show _ ≤ 7302249; omega⟩ dL_law_175 (fun r_175 b_175 hp_175 _ => ?_)
          obtain ⟨rfl, hM_175⟩ := hp_175
          dsimp only [jrepl, List.set, jstk]
          refine j_icmp_eq hC dL_law_178 (tgt := 923) (by decide) (fun c_178 => ?_) (fun c_178 => ?_)
          · skip
            refine j_iinc hC (5) dL_law_923 rfl rfl rfl rfl rfl (fun v_923 e_923 => ?_)
            refine j_goto hC dL_law_926 (tgt := 18) (by decide) ?_
            refine j_pick [0, 1, 2, 3] ?_
            refine j_widen (k' := 40 + 100 * (cq + 1)) (n' := 6500 + 900 * (cq + 1)) (by omega) (by omega) ?_
            exact ih_18 (cq + 1) _ _ _ _ (by omega) (by omega) (nI_5 e_923 h3) hN_166 hM_175
          · exact absurd rfl c_178
        refine j_case (1) (fun s_32_1 => ?_) (fun s_32_1 => ?_)
        · refine j_tableIn hC dL_law_32 (by rw [s_32_1]; decide) (by rw [s_32_1]; decide) (off := 151) (by rw [s_32_1]; rfl) (tgt := 183) (by decide) ?_
          refine j_aload_n hC dL_law_183 rfl rfl ?_
          refine j_lawC hC hCW (c_X6_clear g a T b1 hCW) mX6_clear k217 rfl rfl ⟨(Nat.le_of_ble_eq_true rfl), (Nat.le_of_ble_eq_true rfl)⟩ (Nat.le_of_ble_eq_true rfl) ⟨by show _ ≤ 600000; omega, by show _ ≤ 7302249; omega⟩ dL_law_184 (fun r_184 b_184 hp_184 _ => ?_)
          obtain ⟨rfl, hN_184⟩ := hp_184
          have hl1 : b_184.length = 10 := CW_len hN_184
          dsimp only [jrepl, List.set, jstk]
          refine j_aload_n hC dL_law_187 rfl rfl ?_
          refine j_lawM hC hMW hl1 (c_X7_clear g d T b2 hMW) mX7_clear k851 rfl rfl ⟨(Nat.le_of_ble_eq_true rfl), (Nat.le_of_ble_eq_true rfl)⟩ (Nat.le_of_ble_eq_true rfl) ⟨by show _ ≤ 600000; omega, by show _ ≤ 7302249; omega⟩ dL_law_188 (fun r_188 b_188 hp_188 _ => ?_)
          obtain ⟨rfl, hM_188⟩ := hp_188
          dsimp only [jrepl, List.set, jstk]
          refine j_icmp_eq hC dL_law_191 (tgt := 923) (by decide) (fun c_191 => ?_) (fun c_191 => ?_)
          · skip
            refine j_iinc hC (5) dL_law_923 rfl rfl rfl rfl rfl (fun v_923 e_923 => ?_)
            refine j_goto hC dL_law_926 (tgt := 18) (by decide) ?_
            refine j_pick [0, 1, 2, 3] ?_
            refine j_widen (k' := 40 + 100 * (cq + 1)) (n' := 6500 + 900 * (cq + 1)) (by omega) (by omega) ?_
            exact ih_18 (cq + 1) _ _ _ _ (by omega) (by omega) (nI_5 e_923 h3) hN_184 hM_188
          · exact absurd rfl c_191
        refine j_case (2) (fun s_32_2 => ?_) (fun s_32_2 => ?_)
        · refine j_tableIn hC dL_law_32 (by rw [s_32_2]; decide) (by rw [s_32_2]; decide) (off := 164) (by rw [s_32_2]; rfl) (tgt := 196) (by decide) ?_
          refine j_aload_n hC dL_law_196 rfl rfl ?_
          refine j_lawC hC hCW (c_X6_load g a T b1 hCW) mX6_load k221 rfl rfl ⟨(Nat.le_of_ble_eq_true rfl), (Nat.le_of_ble_eq_true rfl)⟩ (Nat.le_of_ble_eq_true rfl) ⟨by show _ ≤ 600000; omega, by show _ ≤ 7302249; omega⟩ dL_law_197 (fun r_197 b_197 hp_197 _ => ?_)
          obtain ⟨rfl, hN_197⟩ := hp_197
          have hl1 : b_197.length = 10 := CW_len hN_197
          dsimp only [jrepl, List.set, jstk]
          refine j_aload_n hC dL_law_200 rfl rfl ?_
          refine j_lawM hC hMW hl1 (c_X7_load g d T b2 hMW) mX7_load k855 rfl rfl ⟨(Nat.le_of_ble_eq_true rfl), (Nat.le_of_ble_eq_true rfl)⟩ (Nat.le_of_ble_eq_true rfl) ⟨by show _ ≤ 600000; omega, by show _ ≤ 7302249; omega⟩ dL_law_201 (fun r_201 b_201 hp_201 _ => ?_)
          obtain ⟨rfl, hM_201⟩ := hp_201
          dsimp only [jrepl, List.set, jstk]
          refine j_icmp_eq hC dL_law_204 (tgt := 923) (by decide) (fun c_204 => ?_) (fun c_204 => ?_)
          · skip
            refine j_iinc hC (5) dL_law_923 rfl rfl rfl rfl rfl (fun v_923 e_923 => ?_)
            refine j_goto hC dL_law_926 (tgt := 18) (by decide) ?_
            refine j_pick [0, 1, 2, 3] ?_
            refine j_widen (k' := 40 + 100 * (cq + 1)) (n' := 6500 + 900 * (cq + 1)) (by omega) (by omega) ?_
            exact ih_18 (cq + 1) _ _ _ _ (by omega) (by omega) (nI_5 e_923 h3) hN_197 hM_201
          · exact absurd rfl c_204
        refine j_case (3) (fun s_32_3 => ?_) (fun s_32_3 => ?_)
        · refine j_tableIn hC dL_law_32 (by rw [s_32_3]; decide) (by rw [s_32_3]; decide) (off := 177) (by rw [s_32_3]; rfl) (tgt := 209) (by decide) ?_
          refine j_aload_n hC dL_law_209 rfl rfl ?_
          refine j_aload_n hC dL_law_210 rfl rfl ?_
          refine j_iload_n hC dL_law_211 rfl rfl ?_
          refine j_iconst hC (1) dL_law_212 (by decide) ?_
          refine j_iadd hC dL_law_213 ?_
          refine j_sld hC hX hbl hbA (by first | exact hin0 | exact hin1 | exact hin2 | exact hin3 | exact hin4) dL_law_214 ?_
          refine j_aload_n hC dL_law_215 rfl rfl ?_
          refine j_iload_n hC dL_law_216 rfl rfl ?_
          refine j_iconst hC (2) dL_law_217 (by decide) ?_
          refine j_iadd hC dL_law_218 ?_
          refine j_sld hC hX hbl hbA (by first | exact hin0 | exact hin1 | exact hin2 | exact hin3 | exact hin4) dL_law_219 ?_
          refine j_aload_n hC dL_law_220 rfl rfl ?_
          refine j_iload_n hC dL_law_221 rfl rfl ?_
          refine j_iconst hC (3) dL_law_222 (by decide) ?_
          refine j_iadd hC dL_law_223 ?_
          refine j_sld hC hX hbl hbA (by first | exact hin0 | exact hin1 | exact hin2 | exact hin3 | exact hin4) dL_law_224 ?_
          refine j_aload_n hC dL_law_225 rfl rfl ?_
          refine j_iload_n hC dL_law_226 rfl rfl ?_
          refine j_iconst hC (4) dL_law_227 (by decide) ?_
          refine j_iadd hC dL_law_228 ?_
          refine j_sld hC hX hbl hbA (by first | exact hin0 | exact hin1 | exact hin2 | exact hin3 | exact hin4) dL_law_229 ?_
          refine j_lawC hC hCW (c_X6_add g a T b1 _ _ _ _ hCW) mX6_add k383 rfl rfl ⟨(Nat.le_of_ble_eq_true rfl), (Nat.le_of_ble_eq_true rfl)⟩ (Nat.le_of_ble_eq_true rfl) ⟨by show _ ≤ 600000; omega, by show _ ≤ 7302249; omega⟩ dL_law_230 (fun r_230 b_230 hp_230 _ => ?_)
          obtain ⟨rfl, hN_230⟩ := hp_230
          have hl1 : b_230.length = 10 := CW_len hN_230
          dsimp only [jrepl, List.set, jstk]
          refine j_aload_n hC dL_law_233 rfl rfl ?_
          refine j_aload_n hC dL_law_234 rfl rfl ?_
          refine j_iload_n hC dL_law_235 rfl rfl ?_
          refine j_iconst hC (1) dL_law_236 (by decide) ?_
          refine j_iadd hC dL_law_237 ?_
          refine j_sld hC hX hbl hbA (by first | exact hin0 | exact hin1 | exact hin2 | exact hin3 | exact hin4) dL_law_238 ?_
          refine j_aload_n hC dL_law_239 rfl rfl ?_
          refine j_iload_n hC dL_law_240 rfl rfl ?_
          refine j_iconst hC (2) dL_law_241 (by decide) ?_
          refine j_iadd hC dL_law_242 ?_
          refine j_sld hC hX hbl hbA (by first | exact hin0 | exact hin1 | exact hin2 | exact hin3 | exact hin4) dL_law_243 ?_
          refine j_aload_n hC dL_law_244 rfl rfl ?_
          refine j_iload_n hC dL_law_245 rfl rfl ?_
          refine j_iconst hC (3) dL_law_246 (by decide) ?_
          refine j_iadd hC dL_law_247 ?_
          refine j_sld hC hX hbl hbA (by first | exact hin0 | exact hin1 | exact hin2 | exact hin3 | exact hin4) dL_law_248 ?_
          refine j_aload_n hC dL_law_249 rfl rfl ?_
          refine j_iload_n hC dL_law_250 rfl rfl ?_
          refine j_iconst hC (4) dL_law_251 (by decide) ?_
          refine j_iadd hC dL_law_252 ?_
          refine j_sld hC hX hbl hbA (by first | exact hin0 | exact hin1 | exact hin2 | exact hin3 | exact hin4) dL_law_253 ?_
          refine j_lawM hC hMW hl1 (c_X7_add g d T b2 _ _ _ _ hMW) mX7_add k774 rfl rfl ⟨(Nat.le_of_ble_eq_true rfl), (Nat.le_of_ble_eq_true rfl)⟩ (Nat.le_of_ble_eq_true rfl) ⟨by show _ ≤ 600000; omega, by show _ ≤ 7302249; omega⟩ dL_law_254 (fun r_254 b_254 hp_254 _ => ?_)
          obtain ⟨rfl, hM_254⟩ := hp_254
          dsimp only [jrepl, List.set, jstk]
          refine j_icmp_eq hC dL_law_257 (tgt := 923) (by decide) (fun c_257 => ?_) (fun c_257 => ?_)
          · skip
            refine j_iinc hC (5) dL_law_923 rfl rfl rfl rfl rfl (fun v_923 e_923 => ?_)
            refine j_goto hC dL_law_926 (tgt := 18) (by decide) ?_
            refine j_pick [0, 1, 2, 3] ?_
            refine j_widen (k' := 40 + 100 * (cq + 1)) (n' := 6500 + 900 * (cq + 1)) (by omega) (by omega) ?_
            exact ih_18 (cq + 1) _ _ _ _ (by omega) (by omega) (nI_5 e_923 h3) hN_230 hM_254
          · exact absurd rfl c_257
        refine j_case (4) (fun s_32_4 => ?_) (fun s_32_4 => ?_)
        · refine j_tableIn hC dL_law_32 (by rw [s_32_4]; decide) (by rw [s_32_4]; decide) (off := 230) (by rw [s_32_4]; rfl) (tgt := 262) (by decide) ?_
          refine j_aload_n hC dL_law_262 rfl rfl ?_
          refine j_aload_n hC dL_law_263 rfl rfl ?_
          refine j_iload_n hC dL_law_264 rfl rfl ?_
          refine j_iconst hC (1) dL_law_265 (by decide) ?_
          refine j_iadd hC dL_law_266 ?_
          refine j_sld hC hX hbl hbA (by first | exact hin0 | exact hin1 | exact hin2 | exact hin3 | exact hin4) dL_law_267 ?_
          refine j_lawC hC hCW (c_X6_drop g a T b1 _ hCW) mX6_drop k395 rfl rfl ⟨(Nat.le_of_ble_eq_true rfl), (Nat.le_of_ble_eq_true rfl)⟩ (Nat.le_of_ble_eq_true rfl) ⟨by show _ ≤ 600000; omega, by show _ ≤ 7302249; omega⟩ dL_law_268 (fun r_268 b_268 hp_268 _ => ?_)
          obtain ⟨rfl, hN_268⟩ := hp_268
          have hl1 : b_268.length = 10 := CW_len hN_268
          dsimp only [jrepl, List.set, jstk]
          refine j_aload_n hC dL_law_271 rfl rfl ?_
          refine j_aload_n hC dL_law_272 rfl rfl ?_
          refine j_iload_n hC dL_law_273 rfl rfl ?_
          refine j_iconst hC (1) dL_law_274 (by decide) ?_
          refine j_iadd hC dL_law_275 ?_
          refine j_sld hC hX hbl hbA (by first | exact hin0 | exact hin1 | exact hin2 | exact hin3 | exact hin4) dL_law_276 ?_
          refine j_lawM hC hMW hl1 (c_X7_drop g d T b2 _ hMW) mX7_drop k815 rfl rfl ⟨(Nat.le_of_ble_eq_true rfl), (Nat.le_of_ble_eq_true rfl)⟩ (Nat.le_of_ble_eq_true rfl) ⟨by show _ ≤ 600000; omega, by show _ ≤ 7302249; omega⟩ dL_law_277 (fun r_277 b_277 hp_277 _ => ?_)
          obtain ⟨rfl, hM_277⟩ := hp_277
          dsimp only [jrepl, List.set, jstk]
          refine j_icmp_eq hC dL_law_280 (tgt := 923) (by decide) (fun c_280 => ?_) (fun c_280 => ?_)
          · skip
            refine j_iinc hC (5) dL_law_923 rfl rfl rfl rfl rfl (fun v_923 e_923 => ?_)
            refine j_goto hC dL_law_926 (tgt := 18) (by decide) ?_
            refine j_pick [0, 1, 2, 3] ?_
            refine j_widen (k' := 40 + 100 * (cq + 1)) (n' := 6500 + 900 * (cq + 1)) (by omega) (by omega) ?_
            exact ih_18 (cq + 1) _ _ _ _ (by omega) (by omega) (nI_5 e_923 h3) hN_268 hM_277
          · exact absurd rfl c_280
        refine j_case (5) (fun s_32_5 => ?_) (fun s_32_5 => ?_)
        · refine j_tableIn hC dL_law_32 (by rw [s_32_5]; decide) (by rw [s_32_5]; decide) (off := 253) (by rw [s_32_5]; rfl) (tgt := 285) (by decide) ?_
          refine j_aload_n hC dL_law_285 rfl rfl ?_
          refine j_aload_n hC dL_law_286 rfl rfl ?_
          refine j_iload_n hC dL_law_287 rfl rfl ?_
          refine j_iconst hC (1) dL_law_288 (by decide) ?_
          refine j_iadd hC dL_law_289 ?_
          refine j_sld hC hX hbl hbA (by first | exact hin0 | exact hin1 | exact hin2 | exact hin3 | exact hin4) dL_law_290 ?_
          refine j_aload_n hC dL_law_291 rfl rfl ?_
          refine j_iload_n hC dL_law_292 rfl rfl ?_
          refine j_iconst hC (2) dL_law_293 (by decide) ?_
          refine j_iadd hC dL_law_294 ?_
          refine j_sld hC hX hbl hbA (by first | exact hin0 | exact hin1 | exact hin2 | exact hin3 | exact hin4) dL_law_295 ?_
          refine j_if_eq hC dL_law_296 (tgt := 303) (by decide) (fun c_296 => ?_) (fun c_296 => ?_)
          · skip
            refine j_iconst hC (0) dL_law_303 (by decide) ?_
            refine j_lawC hC hCW (c_X6_maintain g a T b1 _ _ hCW (by first | exact Or.inl rfl | exact Or.inr rfl)) mX6_maintain k404 rfl rfl ⟨(Nat.le_of_ble_eq_true rfl), (Nat.le_of_ble_eq_true rfl)⟩ (Nat.le_of_ble_eq_true rfl) ⟨by show _ ≤ 600000; omega, by show _ ≤ 7302249; omega⟩ dL_law_304 (fun r_304 b_304 hp_304 _ => ?_)
            obtain ⟨rfl, hN_304⟩ := hp_304
            have hl1 : b_304.length = 10 := CW_len hN_304
            dsimp only [jrepl, List.set, jstk]
            refine j_aload_n hC dL_law_307 rfl rfl ?_
            refine j_aload_n hC dL_law_308 rfl rfl ?_
            refine j_iload_n hC dL_law_309 rfl rfl ?_
            refine j_iconst hC (1) dL_law_310 (by decide) ?_
            refine j_iadd hC dL_law_311 ?_
            refine j_sld hC hX hbl hbA (by first | exact hin0 | exact hin1 | exact hin2 | exact hin3 | exact hin4) dL_law_312 ?_
            refine j_aload_n hC dL_law_313 rfl rfl ?_
            refine j_iload_n hC dL_law_314 rfl rfl ?_
            refine j_iconst hC (2) dL_law_315 (by decide) ?_
            refine j_iadd hC dL_law_316 ?_
            refine j_sld hC hX hbl hbA (by first | exact hin0 | exact hin1 | exact hin2 | exact hin3 | exact hin4) dL_law_317 ?_
            refine j_if_eq hC dL_law_318 (tgt := 325) (by decide) (fun c_318 => ?_) (fun c_318 => ?_)
            · skip
              refine j_iconst hC (0) dL_law_325 (by decide) ?_
              refine j_lawM hC hMW hl1 (c_X7_maintain g d T b2 _ _ hMW (by first | exact Or.inl rfl | exact Or.inr rfl)) mX7_maintain k823 rfl rfl ⟨(Nat.le_of_ble_eq_true rfl), (Nat.le_of_ble_eq_true rfl)⟩ (Nat.le_of_ble_eq_true rfl) ⟨by show _ ≤ 600000; omega, by show _ ≤ 7302249; omega⟩ dL_law_326 (fun r_326 b_326 hp_326 _ => ?_)
              obtain ⟨rfl, hM_326⟩ := hp_326
              dsimp only [jrepl, List.set, jstk]
              refine j_icmp_eq hC dL_law_329 (tgt := 923) (by decide) (fun c_329 => ?_) (fun c_329 => ?_)
              · skip
                refine j_iinc hC (5) dL_law_923 rfl rfl rfl rfl rfl (fun v_923 e_923 => ?_)
                refine j_goto hC dL_law_926 (tgt := 18) (by decide) ?_
                refine j_pick [0, 1, 2, 3] ?_
                refine j_widen (k' := 40 + 100 * (cq + 1)) (n' := 6500 + 900 * (cq + 1)) (by omega) (by omega) ?_
                exact ih_18 (cq + 1) _ _ _ _ (by omega) (by omega) (nI_5 e_923 h3) hN_304 hM_326
              · exact absurd rfl c_329
            · exact absurd c_296 c_318
          · skip
            refine j_iconst hC (1) dL_law_299 (by decide) ?_
            refine j_goto hC dL_law_300 (tgt := 304) (by decide) ?_
            refine j_lawC hC hCW (c_X6_maintain g a T b1 _ _ hCW (by first | exact Or.inl rfl | exact Or.inr rfl)) mX6_maintain k404 rfl rfl ⟨(Nat.le_of_ble_eq_true rfl), (Nat.le_of_ble_eq_true rfl)⟩ (Nat.le_of_ble_eq_true rfl) ⟨by show _ ≤ 600000; omega, by show _ ≤ 7302249; omega⟩ dL_law_304 (fun r_304 b_304 hp_304 _ => ?_)
            obtain ⟨rfl, hN_304⟩ := hp_304
            have hl1 : b_304.length = 10 := CW_len hN_304
            dsimp only [jrepl, List.set, jstk]
            refine j_aload_n hC dL_law_307 rfl rfl ?_
            refine j_aload_n hC dL_law_308 rfl rfl ?_
            refine j_iload_n hC dL_law_309 rfl rfl ?_
            refine j_iconst hC (1) dL_law_310 (by decide) ?_
            refine j_iadd hC dL_law_311 ?_
            refine j_sld hC hX hbl hbA (by first | exact hin0 | exact hin1 | exact hin2 | exact hin3 | exact hin4) dL_law_312 ?_
            refine j_aload_n hC dL_law_313 rfl rfl ?_
            refine j_iload_n hC dL_law_314 rfl rfl ?_
            refine j_iconst hC (2) dL_law_315 (by decide) ?_
            refine j_iadd hC dL_law_316 ?_
            refine j_sld hC hX hbl hbA (by first | exact hin0 | exact hin1 | exact hin2 | exact hin3 | exact hin4) dL_law_317 ?_
            refine j_if_eq hC dL_law_318 (tgt := 325) (by decide) (fun c_318 => ?_) (fun c_318 => ?_)
            · exact absurd c_318 c_296
            · skip
              refine j_iconst hC (1) dL_law_321 (by decide) ?_
              refine j_goto hC dL_law_322 (tgt := 326) (by decide) ?_
              refine j_lawM hC hMW hl1 (c_X7_maintain g d T b2 _ _ hMW (by first | exact Or.inl rfl | exact Or.inr rfl)) mX7_maintain k823 rfl rfl ⟨(Nat.le_of_ble_eq_true rfl), (Nat.le_of_ble_eq_true rfl)⟩ (Nat.le_of_ble_eq_true rfl) ⟨by show _ ≤ 600000; omega, by show _ ≤ 7302249; omega⟩ dL_law_326 (fun r_326 b_326 hp_326 _ => ?_)
              obtain ⟨rfl, hM_326⟩ := hp_326
              dsimp only [jrepl, List.set, jstk]
              refine j_icmp_eq hC dL_law_329 (tgt := 923) (by decide) (fun c_329 => ?_) (fun c_329 => ?_)
              · skip
                refine j_iinc hC (5) dL_law_923 rfl rfl rfl rfl rfl (fun v_923 e_923 => ?_)
                refine j_goto hC dL_law_926 (tgt := 18) (by decide) ?_
                refine j_pick [0, 1, 2, 3] ?_
                refine j_widen (k' := 40 + 100 * (cq + 1)) (n' := 6500 + 900 * (cq + 1)) (by omega) (by omega) ?_
                exact ih_18 (cq + 1) _ _ _ _ (by omega) (by omega) (nI_5 e_923 h3) hN_304 hM_326
              · exact absurd rfl c_329
        refine j_case (6) (fun s_32_6 => ?_) (fun s_32_6 => ?_)
        · refine j_tableIn hC dL_law_32 (by rw [s_32_6]; decide) (by rw [s_32_6]; decide) (off := 302) (by rw [s_32_6]; rfl) (tgt := 334) (by decide) ?_
          refine j_aload_n hC dL_law_334 rfl rfl ?_
          refine j_aload_n hC dL_law_335 rfl rfl ?_
          refine j_iload_n hC dL_law_336 rfl rfl ?_
          refine j_iconst hC (1) dL_law_337 (by decide) ?_
          refine j_iadd hC dL_law_338 ?_
          refine j_sld hC hX hbl hbA (by first | exact hin0 | exact hin1 | exact hin2 | exact hin3 | exact hin4) dL_law_339 ?_
          refine j_aload_n hC dL_law_340 rfl rfl ?_
          refine j_iload_n hC dL_law_341 rfl rfl ?_
          refine j_iconst hC (2) dL_law_342 (by decide) ?_
          refine j_iadd hC dL_law_343 ?_
          refine j_sld hC hX hbl hbA (by first | exact hin0 | exact hin1 | exact hin2 | exact hin3 | exact hin4) dL_law_344 ?_
          refine j_lawC hC hCW (c_X6_route g a T b1 _ _ hCW) mX6_route k408 rfl rfl ⟨(Nat.le_of_ble_eq_true rfl), (Nat.le_of_ble_eq_true rfl)⟩ (Nat.le_of_ble_eq_true rfl) ⟨by show _ ≤ 600000; omega, by show _ ≤ 7302249; omega⟩ dL_law_345 (fun r_345 b_345 hp_345 _ => ?_)
          obtain ⟨rfl, hN_345⟩ := hp_345
          have hl1 : b_345.length = 10 := CW_len hN_345
          dsimp only [jrepl, List.set, jstk]
          refine j_aload_n hC dL_law_348 rfl rfl ?_
          refine j_aload_n hC dL_law_349 rfl rfl ?_
          refine j_iload_n hC dL_law_350 rfl rfl ?_
          refine j_iconst hC (1) dL_law_351 (by decide) ?_
          refine j_iadd hC dL_law_352 ?_
          refine j_sld hC hX hbl hbA (by first | exact hin0 | exact hin1 | exact hin2 | exact hin3 | exact hin4) dL_law_353 ?_
          refine j_aload_n hC dL_law_354 rfl rfl ?_
          refine j_iload_n hC dL_law_355 rfl rfl ?_
          refine j_iconst hC (2) dL_law_356 (by decide) ?_
          refine j_iadd hC dL_law_357 ?_
          refine j_sld hC hX hbl hbA (by first | exact hin0 | exact hin1 | exact hin2 | exact hin3 | exact hin4) dL_law_358 ?_
          refine j_lawM hC hMW hl1 (c_X7_route g d T b2 _ _ hMW) mX7_route k827 rfl rfl ⟨(Nat.le_of_ble_eq_true rfl), (Nat.le_of_ble_eq_true rfl)⟩ (Nat.le_of_ble_eq_true rfl) ⟨by show _ ≤ 600000; omega, by show _ ≤ 7302249; omega⟩ dL_law_359 (fun r_359 b_359 hp_359 _ => ?_)
          obtain ⟨rfl, hM_359⟩ := hp_359
          dsimp only [jrepl, List.set, jstk]
          refine j_icmp_eq hC dL_law_362 (tgt := 923) (by decide) (fun c_362 => ?_) (fun c_362 => ?_)
          · skip
            refine j_iinc hC (5) dL_law_923 rfl rfl rfl rfl rfl (fun v_923 e_923 => ?_)
            refine j_goto hC dL_law_926 (tgt := 18) (by decide) ?_
            refine j_pick [0, 1, 2, 3] ?_
            refine j_widen (k' := 40 + 100 * (cq + 1)) (n' := 6500 + 900 * (cq + 1)) (by omega) (by omega) ?_
            exact ih_18 (cq + 1) _ _ _ _ (by omega) (by omega) (nI_5 e_923 h3) hN_345 hM_359
          · exact absurd rfl c_362
        refine j_case (7) (fun s_32_7 => ?_) (fun s_32_7 => ?_)
        · refine j_tableIn hC dL_law_32 (by rw [s_32_7]; decide) (by rw [s_32_7]; decide) (off := 335) (by rw [s_32_7]; rfl) (tgt := 367) (by decide) ?_
          refine j_aload_n hC dL_law_367 rfl rfl ?_
          refine j_aload_n hC dL_law_368 rfl rfl ?_
          refine j_iload_n hC dL_law_369 rfl rfl ?_
          refine j_iconst hC (1) dL_law_370 (by decide) ?_
          refine j_iadd hC dL_law_371 ?_
          refine j_sld hC hX hbl hbA (by first | exact hin0 | exact hin1 | exact hin2 | exact hin3 | exact hin4) dL_law_372 ?_
          refine j_lawC hC hCW (c_X6_dropRoute g a T b1 _ hCW) mX6_dropRoute k413 rfl rfl ⟨(Nat.le_of_ble_eq_true rfl), (Nat.le_of_ble_eq_true rfl)⟩ (Nat.le_of_ble_eq_true rfl) ⟨by show _ ≤ 600000; omega, by show _ ≤ 7302249; omega⟩ dL_law_373 (fun r_373 b_373 hp_373 _ => ?_)
          obtain ⟨rfl, hN_373⟩ := hp_373
          have hl1 : b_373.length = 10 := CW_len hN_373
          dsimp only [jrepl, List.set, jstk]
          refine j_aload_n hC dL_law_376 rfl rfl ?_
          refine j_aload_n hC dL_law_377 rfl rfl ?_
          refine j_iload_n hC dL_law_378 rfl rfl ?_
          refine j_iconst hC (1) dL_law_379 (by decide) ?_
          refine j_iadd hC dL_law_380 ?_
          refine j_sld hC hX hbl hbA (by first | exact hin0 | exact hin1 | exact hin2 | exact hin3 | exact hin4) dL_law_381 ?_
          refine j_lawM hC hMW hl1 (c_X7_dropRoute g d T b2 _ hMW) mX7_dropRoute k831 rfl rfl ⟨(Nat.le_of_ble_eq_true rfl), (Nat.le_of_ble_eq_true rfl)⟩ (Nat.le_of_ble_eq_true rfl) ⟨by show _ ≤ 600000; omega, by show _ ≤ 7302249; omega⟩ dL_law_382 (fun r_382 b_382 hp_382 _ => ?_)
          obtain ⟨rfl, hM_382⟩ := hp_382
          dsimp only [jrepl, List.set, jstk]
          refine j_icmp_eq hC dL_law_385 (tgt := 923) (by decide) (fun c_385 => ?_) (fun c_385 => ?_)
          · skip
            refine j_iinc hC (5) dL_law_923 rfl rfl rfl rfl rfl (fun v_923 e_923 => ?_)
            refine j_goto hC dL_law_926 (tgt := 18) (by decide) ?_
            refine j_pick [0, 1, 2, 3] ?_
            refine j_widen (k' := 40 + 100 * (cq + 1)) (n' := 6500 + 900 * (cq + 1)) (by omega) (by omega) ?_
            exact ih_18 (cq + 1) _ _ _ _ (by omega) (by omega) (nI_5 e_923 h3) hN_373 hM_382
          · exact absurd rfl c_385
        refine j_case (8) (fun s_32_8 => ?_) (fun s_32_8 => ?_)
        · refine j_tableIn hC dL_law_32 (by rw [s_32_8]; decide) (by rw [s_32_8]; decide) (off := 358) (by rw [s_32_8]; rfl) (tgt := 390) (by decide) ?_
          refine j_aload_n hC dL_law_390 rfl rfl ?_
          refine j_aload_n hC dL_law_391 rfl rfl ?_
          refine j_iload_n hC dL_law_392 rfl rfl ?_
          refine j_iconst hC (1) dL_law_393 (by decide) ?_
          refine j_iadd hC dL_law_394 ?_
          refine j_sld hC hX hbl hbA (by first | exact hin0 | exact hin1 | exact hin2 | exact hin3 | exact hin4) dL_law_395 ?_
          refine j_lawC hC hCW (c_X6_setNeed g a T b1 _ hCW) mX6_setNeed k422 rfl rfl ⟨(Nat.le_of_ble_eq_true rfl), (Nat.le_of_ble_eq_true rfl)⟩ (Nat.le_of_ble_eq_true rfl) ⟨by show _ ≤ 600000; omega, by show _ ≤ 7302249; omega⟩ dL_law_396 (fun r_396 b_396 hp_396 _ => ?_)
          obtain ⟨rfl, hN_396⟩ := hp_396
          have hl1 : b_396.length = 10 := CW_len hN_396
          dsimp only [jrepl, List.set, jstk]
          refine j_aload_n hC dL_law_399 rfl rfl ?_
          refine j_aload_n hC dL_law_400 rfl rfl ?_
          refine j_iload_n hC dL_law_401 rfl rfl ?_
          refine j_iconst hC (1) dL_law_402 (by decide) ?_
          refine j_iadd hC dL_law_403 ?_
          refine j_sld hC hX hbl hbA (by first | exact hin0 | exact hin1 | exact hin2 | exact hin3 | exact hin4) dL_law_404 ?_
          refine j_lawM hC hMW hl1 (c_X7_setNeed g d T b2 _ hMW) mX7_setNeed k839 rfl rfl ⟨(Nat.le_of_ble_eq_true rfl), (Nat.le_of_ble_eq_true rfl)⟩ (Nat.le_of_ble_eq_true rfl) ⟨by show _ ≤ 600000; omega, by show _ ≤ 7302249; omega⟩ dL_law_405 (fun r_405 b_405 hp_405 _ => ?_)
          obtain ⟨rfl, hM_405⟩ := hp_405
          dsimp only [jrepl, List.set, jstk]
          refine j_icmp_eq hC dL_law_408 (tgt := 923) (by decide) (fun c_408 => ?_) (fun c_408 => ?_)
          · skip
            refine j_iinc hC (5) dL_law_923 rfl rfl rfl rfl rfl (fun v_923 e_923 => ?_)
            refine j_goto hC dL_law_926 (tgt := 18) (by decide) ?_
            refine j_pick [0, 1, 2, 3] ?_
            refine j_widen (k' := 40 + 100 * (cq + 1)) (n' := 6500 + 900 * (cq + 1)) (by omega) (by omega) ?_
            exact ih_18 (cq + 1) _ _ _ _ (by omega) (by omega) (nI_5 e_923 h3) hN_396 hM_405
          · exact absurd rfl c_408
        refine j_case (9) (fun s_32_9 => ?_) (fun s_32_9 => ?_)
        · refine j_tableIn hC dL_law_32 (by rw [s_32_9]; decide) (by rw [s_32_9]; decide) (off := 381) (by rw [s_32_9]; rfl) (tgt := 413) (by decide) ?_
          refine j_aload_n hC dL_law_413 rfl rfl ?_
          refine j_aload_n hC dL_law_414 rfl rfl ?_
          refine j_iload_n hC dL_law_415 rfl rfl ?_
          refine j_iconst hC (1) dL_law_416 (by decide) ?_
          refine j_iadd hC dL_law_417 ?_
          refine j_sld hC hX hbl hbA (by first | exact hin0 | exact hin1 | exact hin2 | exact hin3 | exact hin4) dL_law_418 ?_
          refine j_aload_n hC dL_law_419 rfl rfl ?_
          refine j_iload_n hC dL_law_420 rfl rfl ?_
          refine j_iconst hC (2) dL_law_421 (by decide) ?_
          refine j_iadd hC dL_law_422 ?_
          refine j_sld hC hX hbl hbA (by first | exact hin0 | exact hin1 | exact hin2 | exact hin3 | exact hin4) dL_law_423 ?_
          refine j_lawC hC hCW (c_X6_setStock g a T b1 _ _ hCW) mX6_setStock k426 rfl rfl ⟨(Nat.le_of_ble_eq_true rfl), (Nat.le_of_ble_eq_true rfl)⟩ (Nat.le_of_ble_eq_true rfl) ⟨by show _ ≤ 600000; omega, by show _ ≤ 7302249; omega⟩ dL_law_424 (fun r_424 b_424 hp_424 _ => ?_)
          obtain ⟨rfl, hN_424⟩ := hp_424
          have hl1 : b_424.length = 10 := CW_len hN_424
          dsimp only [jrepl, List.set, jstk]
          refine j_aload_n hC dL_law_427 rfl rfl ?_
          refine j_aload_n hC dL_law_428 rfl rfl ?_
          refine j_iload_n hC dL_law_429 rfl rfl ?_
          refine j_iconst hC (1) dL_law_430 (by decide) ?_
          refine j_iadd hC dL_law_431 ?_
          refine j_sld hC hX hbl hbA (by first | exact hin0 | exact hin1 | exact hin2 | exact hin3 | exact hin4) dL_law_432 ?_
          refine j_aload_n hC dL_law_433 rfl rfl ?_
          refine j_iload_n hC dL_law_434 rfl rfl ?_
          refine j_iconst hC (2) dL_law_435 (by decide) ?_
          refine j_iadd hC dL_law_436 ?_
          refine j_sld hC hX hbl hbA (by first | exact hin0 | exact hin1 | exact hin2 | exact hin3 | exact hin4) dL_law_437 ?_
          refine j_lawM hC hMW hl1 (c_X7_setStock g d T b2 _ _ hMW) mX7_setStock k843 rfl rfl ⟨(Nat.le_of_ble_eq_true rfl), (Nat.le_of_ble_eq_true rfl)⟩ (Nat.le_of_ble_eq_true rfl) ⟨by show _ ≤ 600000; omega, by show _ ≤ 7302249; omega⟩ dL_law_438 (fun r_438 b_438 hp_438 _ => ?_)
          obtain ⟨rfl, hM_438⟩ := hp_438
          dsimp only [jrepl, List.set, jstk]
          refine j_icmp_eq hC dL_law_441 (tgt := 923) (by decide) (fun c_441 => ?_) (fun c_441 => ?_)
          · skip
            refine j_iinc hC (5) dL_law_923 rfl rfl rfl rfl rfl (fun v_923 e_923 => ?_)
            refine j_goto hC dL_law_926 (tgt := 18) (by decide) ?_
            refine j_pick [0, 1, 2, 3] ?_
            refine j_widen (k' := 40 + 100 * (cq + 1)) (n' := 6500 + 900 * (cq + 1)) (by omega) (by omega) ?_
            exact ih_18 (cq + 1) _ _ _ _ (by omega) (by omega) (nI_5 e_923 h3) hN_424 hM_438
          · exact absurd rfl c_441
        refine j_case (10) (fun s_32_10 => ?_) (fun s_32_10 => ?_)
        · refine j_tableIn hC dL_law_32 (by rw [s_32_10]; decide) (by rw [s_32_10]; decide) (off := 414) (by rw [s_32_10]; rfl) (tgt := 446) (by decide) ?_
          refine j_aload_n hC dL_law_446 rfl rfl ?_
          refine j_aload_n hC dL_law_447 rfl rfl ?_
          refine j_iload_n hC dL_law_448 rfl rfl ?_
          refine j_iconst hC (1) dL_law_449 (by decide) ?_
          refine j_iadd hC dL_law_450 ?_
          refine j_sld hC hX hbl hbA (by first | exact hin0 | exact hin1 | exact hin2 | exact hin3 | exact hin4) dL_law_451 ?_
          refine j_aload_n hC dL_law_452 rfl rfl ?_
          refine j_iload_n hC dL_law_453 rfl rfl ?_
          refine j_iconst hC (2) dL_law_454 (by decide) ?_
          refine j_iadd hC dL_law_455 ?_
          refine j_sld hC hX hbl hbA (by first | exact hin0 | exact hin1 | exact hin2 | exact hin3 | exact hin4) dL_law_456 ?_
          refine j_lawC hC hCW (c_X6_light g a T b1 _ _ hCW hw) mX6_light k439 rfl rfl ⟨(Nat.le_of_ble_eq_true rfl), (Nat.le_of_ble_eq_true rfl)⟩ (Nat.le_of_ble_eq_true rfl) ⟨by show _ ≤ 600000; omega, by show _ ≤ 7302249; omega⟩ dL_law_457 (fun r_457 b_457 hp_457 _ => ?_)
          obtain ⟨rfl, hN_457⟩ := hp_457
          have hl1 : b_457.length = 10 := CW_len hN_457
          dsimp only [jrepl, List.set, jstk]
          refine j_aload_n hC dL_law_460 rfl rfl ?_
          refine j_aload_n hC dL_law_461 rfl rfl ?_
          refine j_iload_n hC dL_law_462 rfl rfl ?_
          refine j_iconst hC (1) dL_law_463 (by decide) ?_
          refine j_iadd hC dL_law_464 ?_
          refine j_sld hC hX hbl hbA (by first | exact hin0 | exact hin1 | exact hin2 | exact hin3 | exact hin4) dL_law_465 ?_
          refine j_aload_n hC dL_law_466 rfl rfl ?_
          refine j_iload_n hC dL_law_467 rfl rfl ?_
          refine j_iconst hC (2) dL_law_468 (by decide) ?_
          refine j_iadd hC dL_law_469 ?_
          refine j_sld hC hX hbl hbA (by first | exact hin0 | exact hin1 | exact hin2 | exact hin3 | exact hin4) dL_law_470 ?_
          refine j_lawM hC hMW hl1 (c_X7_light g d T b2 _ _ hMW) mX7_light k1035 rfl rfl ⟨(Nat.le_of_ble_eq_true rfl), (Nat.le_of_ble_eq_true rfl)⟩ (Nat.le_of_ble_eq_true rfl) ⟨by show _ ≤ 600000; omega, by show _ ≤ 7302249; omega⟩ dL_law_471 (fun r_471 b_471 hp_471 _ => ?_)
          obtain ⟨rfl, hM_471⟩ := hp_471
          dsimp only [jrepl, List.set, jstk]
          refine j_icmp_eq hC dL_law_474 (tgt := 923) (by decide) (fun c_474 => ?_) (fun c_474 => ?_)
          · skip
            refine j_iinc hC (5) dL_law_923 rfl rfl rfl rfl rfl (fun v_923 e_923 => ?_)
            refine j_goto hC dL_law_926 (tgt := 18) (by decide) ?_
            refine j_pick [0, 1, 2, 3] ?_
            refine j_widen (k' := 40 + 100 * (cq + 1)) (n' := 6500 + 900 * (cq + 1)) (by omega) (by omega) ?_
            exact ih_18 (cq + 1) _ _ _ _ (by omega) (by omega) (nI_5 e_923 h3) hN_457 hM_471
          · exact absurd rfl c_474
        refine j_case (11) (fun s_32_11 => ?_) (fun s_32_11 => ?_)
        · refine j_tableIn hC dL_law_32 (by rw [s_32_11]; decide) (by rw [s_32_11]; decide) (off := 447) (by rw [s_32_11]; rfl) (tgt := 479) (by decide) ?_
          refine j_aload_n hC dL_law_479 rfl rfl ?_
          refine j_aload_n hC dL_law_480 rfl rfl ?_
          refine j_iload_n hC dL_law_481 rfl rfl ?_
          refine j_iconst hC (1) dL_law_482 (by decide) ?_
          refine j_iadd hC dL_law_483 ?_
          refine j_sld hC hX hbl hbA (by first | exact hin0 | exact hin1 | exact hin2 | exact hin3 | exact hin4) dL_law_484 ?_
          refine j_aload_n hC dL_law_485 rfl rfl ?_
          refine j_iload_n hC dL_law_486 rfl rfl ?_
          refine j_iconst hC (2) dL_law_487 (by decide) ?_
          refine j_iadd hC dL_law_488 ?_
          refine j_sld hC hX hbl hbA (by first | exact hin0 | exact hin1 | exact hin2 | exact hin3 | exact hin4) dL_law_489 ?_
          refine j_lawC hC hCW (c_X6_swap g a T b1 _ _ hCW) mX6_swap k529 rfl rfl ⟨(Nat.le_of_ble_eq_true rfl), (Nat.le_of_ble_eq_true rfl)⟩ (Nat.le_of_ble_eq_true rfl) ⟨by show _ ≤ 600000; omega, by show _ ≤ 7302249; omega⟩ dL_law_490 (fun r_490 b_490 hp_490 _ => ?_)
          obtain ⟨rfl, hN_490⟩ := hp_490
          have hl1 : b_490.length = 10 := CW_len hN_490
          dsimp only [jrepl, List.set, jstk]
          refine j_aload_n hC dL_law_493 rfl rfl ?_
          refine j_aload_n hC dL_law_494 rfl rfl ?_
          refine j_iload_n hC dL_law_495 rfl rfl ?_
          refine j_iconst hC (1) dL_law_496 (by decide) ?_
          refine j_iadd hC dL_law_497 ?_
          refine j_sld hC hX hbl hbA (by first | exact hin0 | exact hin1 | exact hin2 | exact hin3 | exact hin4) dL_law_498 ?_
          refine j_aload_n hC dL_law_499 rfl rfl ?_
          refine j_iload_n hC dL_law_500 rfl rfl ?_
          refine j_iconst hC (2) dL_law_501 (by decide) ?_
          refine j_iadd hC dL_law_502 ?_
          refine j_sld hC hX hbl hbA (by first | exact hin0 | exact hin1 | exact hin2 | exact hin3 | exact hin4) dL_law_503 ?_
          refine j_lawM hC hMW hl1 (c_X7_swap g d T b2 _ _ hMW) mX7_swap k883 rfl rfl ⟨(Nat.le_of_ble_eq_true rfl), (Nat.le_of_ble_eq_true rfl)⟩ (Nat.le_of_ble_eq_true rfl) ⟨by show _ ≤ 600000; omega, by show _ ≤ 7302249; omega⟩ dL_law_504 (fun r_504 b_504 hp_504 _ => ?_)
          obtain ⟨rfl, hM_504⟩ := hp_504
          dsimp only [jrepl, List.set, jstk]
          refine j_icmp_eq hC dL_law_507 (tgt := 923) (by decide) (fun c_507 => ?_) (fun c_507 => ?_)
          · skip
            refine j_iinc hC (5) dL_law_923 rfl rfl rfl rfl rfl (fun v_923 e_923 => ?_)
            refine j_goto hC dL_law_926 (tgt := 18) (by decide) ?_
            refine j_pick [0, 1, 2, 3] ?_
            refine j_widen (k' := 40 + 100 * (cq + 1)) (n' := 6500 + 900 * (cq + 1)) (by omega) (by omega) ?_
            exact ih_18 (cq + 1) _ _ _ _ (by omega) (by omega) (nI_5 e_923 h3) hN_490 hM_504
          · exact absurd rfl c_507
        refine j_case (12) (fun s_32_12 => ?_) (fun s_32_12 => ?_)
        · refine j_tableIn hC dL_law_32 (by rw [s_32_12]; decide) (by rw [s_32_12]; decide) (off := 480) (by rw [s_32_12]; rfl) (tgt := 512) (by decide) ?_
          refine j_aload_n hC dL_law_512 rfl rfl ?_
          refine j_aload_n hC dL_law_513 rfl rfl ?_
          refine j_iload_n hC dL_law_514 rfl rfl ?_
          refine j_iconst hC (1) dL_law_515 (by decide) ?_
          refine j_iadd hC dL_law_516 ?_
          refine j_sld hC hX hbl hbA (by first | exact hin0 | exact hin1 | exact hin2 | exact hin3 | exact hin4) dL_law_517 ?_
          refine j_lawC hC hCW (c_X6_swapAll g a T b1 _ hCW) mX6_swapAll k534 rfl rfl ⟨(Nat.le_of_ble_eq_true rfl), (Nat.le_of_ble_eq_true rfl)⟩ (Nat.le_of_ble_eq_true rfl) ⟨by show _ ≤ 600000; omega, by show _ ≤ 7302249; omega⟩ dL_law_518 (fun r_518 b_518 hp_518 _ => ?_)
          obtain ⟨rfl, hN_518⟩ := hp_518
          have hl1 : b_518.length = 10 := CW_len hN_518
          dsimp only [jrepl, List.set, jstk]
          refine j_aload_n hC dL_law_521 rfl rfl ?_
          refine j_aload_n hC dL_law_522 rfl rfl ?_
          refine j_iload_n hC dL_law_523 rfl rfl ?_
          refine j_iconst hC (1) dL_law_524 (by decide) ?_
          refine j_iadd hC dL_law_525 ?_
          refine j_sld hC hX hbl hbA (by first | exact hin0 | exact hin1 | exact hin2 | exact hin3 | exact hin4) dL_law_526 ?_
          refine j_lawM hC hMW hl1 (c_X7_swapAll g d T b2 _ hMW) mX7_swapAll k891 rfl rfl ⟨(Nat.le_of_ble_eq_true rfl), (Nat.le_of_ble_eq_true rfl)⟩ (Nat.le_of_ble_eq_true rfl) ⟨by show _ ≤ 600000; omega, by show _ ≤ 7302249; omega⟩ dL_law_527 (fun r_527 b_527 hp_527 _ => ?_)
          obtain ⟨rfl, hM_527⟩ := hp_527
          dsimp only [jrepl, List.set, jstk]
          refine j_icmp_eq hC dL_law_530 (tgt := 923) (by decide) (fun c_530 => ?_) (fun c_530 => ?_)
          · skip
            refine j_iinc hC (5) dL_law_923 rfl rfl rfl rfl rfl (fun v_923 e_923 => ?_)
            refine j_goto hC dL_law_926 (tgt := 18) (by decide) ?_
            refine j_pick [0, 1, 2, 3] ?_
            refine j_widen (k' := 40 + 100 * (cq + 1)) (n' := 6500 + 900 * (cq + 1)) (by omega) (by omega) ?_
            exact ih_18 (cq + 1) _ _ _ _ (by omega) (by omega) (nI_5 e_923 h3) hN_518 hM_527
          · exact absurd rfl c_530
        refine j_case (13) (fun s_32_13 => ?_) (fun s_32_13 => ?_)
        · refine j_tableIn hC dL_law_32 (by rw [s_32_13]; decide) (by rw [s_32_13]; decide) (off := 503) (by rw [s_32_13]; rfl) (tgt := 535) (by decide) ?_
          refine j_aload_n hC dL_law_535 rfl rfl ?_
          refine j_aload_n hC dL_law_536 rfl rfl ?_
          refine j_iload_n hC dL_law_537 rfl rfl ?_
          refine j_iconst hC (1) dL_law_538 (by decide) ?_
          refine j_iadd hC dL_law_539 ?_
          refine j_sld hC hX hbl hbA (by first | exact hin0 | exact hin1 | exact hin2 | exact hin3 | exact hin4) dL_law_540 ?_
          refine j_lawC hC hCW (c_X6_renew g a T b1 _ hCW) mX6_renew k550 rfl rfl ⟨(Nat.le_of_ble_eq_true rfl), (Nat.le_of_ble_eq_true rfl)⟩ (Nat.le_of_ble_eq_true rfl) ⟨by show _ ≤ 600000; omega, by show _ ≤ 7302249; omega⟩ dL_law_541 (fun r_541 b_541 hp_541 _ => ?_)
          obtain ⟨rfl, hN_541⟩ := hp_541
          have hl1 : b_541.length = 10 := CW_len hN_541
          dsimp only [jrepl, List.set, jstk]
          refine j_aload_n hC dL_law_544 rfl rfl ?_
          refine j_aload_n hC dL_law_545 rfl rfl ?_
          refine j_iload_n hC dL_law_546 rfl rfl ?_
          refine j_iconst hC (1) dL_law_547 (by decide) ?_
          refine j_iadd hC dL_law_548 ?_
          refine j_sld hC hX hbl hbA (by first | exact hin0 | exact hin1 | exact hin2 | exact hin3 | exact hin4) dL_law_549 ?_
          refine j_lawM hC hMW hl1 (c_X7_renew g d T b2 _ hMW) mX7_renew k906 rfl rfl ⟨(Nat.le_of_ble_eq_true rfl), (Nat.le_of_ble_eq_true rfl)⟩ (Nat.le_of_ble_eq_true rfl) ⟨by show _ ≤ 600000; omega, by show _ ≤ 7302249; omega⟩ dL_law_550 (fun r_550 b_550 hp_550 _ => ?_)
          obtain ⟨rfl, hM_550⟩ := hp_550
          dsimp only [jrepl, List.set, jstk]
          refine j_icmp_eq hC dL_law_553 (tgt := 923) (by decide) (fun c_553 => ?_) (fun c_553 => ?_)
          · skip
            refine j_iinc hC (5) dL_law_923 rfl rfl rfl rfl rfl (fun v_923 e_923 => ?_)
            refine j_goto hC dL_law_926 (tgt := 18) (by decide) ?_
            refine j_pick [0, 1, 2, 3] ?_
            refine j_widen (k' := 40 + 100 * (cq + 1)) (n' := 6500 + 900 * (cq + 1)) (by omega) (by omega) ?_
            exact ih_18 (cq + 1) _ _ _ _ (by omega) (by omega) (nI_5 e_923 h3) hN_541 hM_550
          · exact absurd rfl c_553
        refine j_case (14) (fun s_32_14 => ?_) (fun s_32_14 => ?_)
        · refine j_tableIn hC dL_law_32 (by rw [s_32_14]; decide) (by rw [s_32_14]; decide) (off := 526) (by rw [s_32_14]; rfl) (tgt := 558) (by decide) ?_
          refine j_aload_n hC dL_law_558 rfl rfl ?_
          refine j_aload_n hC dL_law_559 rfl rfl ?_
          refine j_iload_n hC dL_law_560 rfl rfl ?_
          refine j_iconst hC (1) dL_law_561 (by decide) ?_
          refine j_iadd hC dL_law_562 ?_
          refine j_sld hC hX hbl hbA (by first | exact hin0 | exact hin1 | exact hin2 | exact hin3 | exact hin4) dL_law_563 ?_
          refine j_lawC hC hCW (c_X6_pass g a T b1 _ hCW nh) mX6_pass k554 rfl rfl ⟨(Nat.le_of_ble_eq_true rfl), (Nat.le_of_ble_eq_true rfl)⟩ (Nat.le_of_ble_eq_true rfl) ⟨by show _ ≤ 600000; omega, by show _ ≤ 7302249; omega⟩ dL_law_564 (fun r_564 b_564 hp_564 _ => ?_)
          obtain ⟨rfl, hN_564⟩ := hp_564
          have hl1 : b_564.length = 10 := CW_len hN_564
          dsimp only [jrepl, List.set, jstk]
          refine j_aload_n hC dL_law_567 rfl rfl ?_
          refine j_aload_n hC dL_law_568 rfl rfl ?_
          refine j_iload_n hC dL_law_569 rfl rfl ?_
          refine j_iconst hC (1) dL_law_570 (by decide) ?_
          refine j_iadd hC dL_law_571 ?_
          refine j_sld hC hX hbl hbA (by first | exact hin0 | exact hin1 | exact hin2 | exact hin3 | exact hin4) dL_law_572 ?_
          refine j_lawM hC hMW hl1 (c_X7_pass g d T b2 _ hMW) mX7_pass k910 rfl rfl ⟨(Nat.le_of_ble_eq_true rfl), (Nat.le_of_ble_eq_true rfl)⟩ (Nat.le_of_ble_eq_true rfl) ⟨by show _ ≤ 600000; omega, by show _ ≤ 7302249; omega⟩ dL_law_573 (fun r_573 b_573 hp_573 _ => ?_)
          obtain ⟨rfl, hM_573⟩ := hp_573
          dsimp only [jrepl, List.set, jstk]
          refine j_icmp_eq hC dL_law_576 (tgt := 923) (by decide) (fun c_576 => ?_) (fun c_576 => ?_)
          · skip
            refine j_iinc hC (5) dL_law_923 rfl rfl rfl rfl rfl (fun v_923 e_923 => ?_)
            refine j_goto hC dL_law_926 (tgt := 18) (by decide) ?_
            refine j_pick [0, 1, 2, 3] ?_
            refine j_widen (k' := 40 + 100 * (cq + 1)) (n' := 6500 + 900 * (cq + 1)) (by omega) (by omega) ?_
            exact ih_18 (cq + 1) _ _ _ _ (by omega) (by omega) (nI_5 e_923 h3) hN_564 hM_573
          · exact absurd rfl c_576
        refine j_case (15) (fun s_32_15 => ?_) (fun s_32_15 => ?_)
        · refine j_tableIn hC dL_law_32 (by rw [s_32_15]; decide) (by rw [s_32_15]; decide) (off := 549) (by rw [s_32_15]; rfl) (tgt := 581) (by decide) ?_
          refine j_aload_n hC dL_law_581 rfl rfl ?_
          refine j_aload_n hC dL_law_582 rfl rfl ?_
          refine j_iload_n hC dL_law_583 rfl rfl ?_
          refine j_iconst hC (1) dL_law_584 (by decide) ?_
          refine j_iadd hC dL_law_585 ?_
          refine j_sld hC hX hbl hbA (by first | exact hin0 | exact hin1 | exact hin2 | exact hin3 | exact hin4) dL_law_586 ?_
          refine j_aload_n hC dL_law_587 rfl rfl ?_
          refine j_iload_n hC dL_law_588 rfl rfl ?_
          refine j_iconst hC (2) dL_law_589 (by decide) ?_
          refine j_iadd hC dL_law_590 ?_
          refine j_sld hC hX hbl hbA (by first | exact hin0 | exact hin1 | exact hin2 | exact hin3 | exact hin4) dL_law_591 ?_
          refine j_if_eq hC dL_law_592 (tgt := 599) (by decide) (fun c_592 => ?_) (fun c_592 => ?_)
          · skip
            refine j_iconst hC (0) dL_law_599 (by decide) ?_
            refine j_lawC hC hCW (c_X6_test g a T b1 _ _ hCW hw) mX6_test k582 rfl rfl ⟨(Nat.le_of_ble_eq_true rfl), (Nat.le_of_ble_eq_true rfl)⟩ (Nat.le_of_ble_eq_true rfl) ⟨by show _ ≤ 600000; omega, by show _ ≤ 7302249; omega⟩ dL_law_600 (fun r_600 b_600 hp_600 _ => ?_)
            obtain ⟨rfl, hN_600⟩ := hp_600
            have hl1 : b_600.length = 10 := CW_len hN_600
            dsimp only [jrepl, List.set, jstk]
            refine j_aload_n hC dL_law_603 rfl rfl ?_
            refine j_aload_n hC dL_law_604 rfl rfl ?_
            refine j_iload_n hC dL_law_605 rfl rfl ?_
            refine j_iconst hC (1) dL_law_606 (by decide) ?_
            refine j_iadd hC dL_law_607 ?_
            refine j_sld hC hX hbl hbA (by first | exact hin0 | exact hin1 | exact hin2 | exact hin3 | exact hin4) dL_law_608 ?_
            refine j_aload_n hC dL_law_609 rfl rfl ?_
            refine j_iload_n hC dL_law_610 rfl rfl ?_
            refine j_iconst hC (2) dL_law_611 (by decide) ?_
            refine j_iadd hC dL_law_612 ?_
            refine j_sld hC hX hbl hbA (by first | exact hin0 | exact hin1 | exact hin2 | exact hin3 | exact hin4) dL_law_613 ?_
            refine j_if_eq hC dL_law_614 (tgt := 621) (by decide) (fun c_614 => ?_) (fun c_614 => ?_)
            · skip
              refine j_iconst hC (0) dL_law_621 (by decide) ?_
              refine j_lawM hC hMW hl1 (c_X7_test g d T b2 _ _ hMW) mX7_test k963 rfl rfl ⟨(Nat.le_of_ble_eq_true rfl), (Nat.le_of_ble_eq_true rfl)⟩ (Nat.le_of_ble_eq_true rfl) ⟨by show _ ≤ 600000; omega, by show _ ≤ 7302249; omega⟩ dL_law_622 (fun r_622 b_622 hp_622 _ => ?_)
              obtain ⟨rfl, hM_622⟩ := hp_622
              dsimp only [jrepl, List.set, jstk]
              refine j_icmp_eq hC dL_law_625 (tgt := 923) (by decide) (fun c_625 => ?_) (fun c_625 => ?_)
              · skip
                refine j_iinc hC (5) dL_law_923 rfl rfl rfl rfl rfl (fun v_923 e_923 => ?_)
                refine j_goto hC dL_law_926 (tgt := 18) (by decide) ?_
                refine j_pick [0, 1, 2, 3] ?_
                refine j_widen (k' := 40 + 100 * (cq + 1)) (n' := 6500 + 900 * (cq + 1)) (by omega) (by omega) ?_
                exact ih_18 (cq + 1) _ _ _ _ (by omega) (by omega) (nI_5 e_923 h3) hN_600 hM_622
              · exact absurd rfl c_625
            · exact absurd c_592 c_614
          · skip
            refine j_iconst hC (1) dL_law_595 (by decide) ?_
            refine j_goto hC dL_law_596 (tgt := 600) (by decide) ?_
            refine j_lawC hC hCW (c_X6_test g a T b1 _ _ hCW hw) mX6_test k582 rfl rfl ⟨(Nat.le_of_ble_eq_true rfl), (Nat.le_of_ble_eq_true rfl)⟩ (Nat.le_of_ble_eq_true rfl) ⟨by show _ ≤ 600000; omega, by show _ ≤ 7302249; omega⟩ dL_law_600 (fun r_600 b_600 hp_600 _ => ?_)
            obtain ⟨rfl, hN_600⟩ := hp_600
            have hl1 : b_600.length = 10 := CW_len hN_600
            dsimp only [jrepl, List.set, jstk]
            refine j_aload_n hC dL_law_603 rfl rfl ?_
            refine j_aload_n hC dL_law_604 rfl rfl ?_
            refine j_iload_n hC dL_law_605 rfl rfl ?_
            refine j_iconst hC (1) dL_law_606 (by decide) ?_
            refine j_iadd hC dL_law_607 ?_
            refine j_sld hC hX hbl hbA (by first | exact hin0 | exact hin1 | exact hin2 | exact hin3 | exact hin4) dL_law_608 ?_
            refine j_aload_n hC dL_law_609 rfl rfl ?_
            refine j_iload_n hC dL_law_610 rfl rfl ?_
            refine j_iconst hC (2) dL_law_611 (by decide) ?_
            refine j_iadd hC dL_law_612 ?_
            refine j_sld hC hX hbl hbA (by first | exact hin0 | exact hin1 | exact hin2 | exact hin3 | exact hin4) dL_law_613 ?_
            refine j_if_eq hC dL_law_614 (tgt := 621) (by decide) (fun c_614 => ?_) (fun c_614 => ?_)
            · exact absurd c_614 c_592
            · skip
              refine j_iconst hC (1) dL_law_617 (by decide) ?_
              refine j_goto hC dL_law_618 (tgt := 622) (by decide) ?_
              refine j_lawM hC hMW hl1 (c_X7_test g d T b2 _ _ hMW) mX7_test k963 rfl rfl ⟨(Nat.le_of_ble_eq_true rfl), (Nat.le_of_ble_eq_true rfl)⟩ (Nat.le_of_ble_eq_true rfl) ⟨by show _ ≤ 600000; omega, by show _ ≤ 7302249; omega⟩ dL_law_622 (fun r_622 b_622 hp_622 _ => ?_)
              obtain ⟨rfl, hM_622⟩ := hp_622
              dsimp only [jrepl, List.set, jstk]
              refine j_icmp_eq hC dL_law_625 (tgt := 923) (by decide) (fun c_625 => ?_) (fun c_625 => ?_)
              · skip
                refine j_iinc hC (5) dL_law_923 rfl rfl rfl rfl rfl (fun v_923 e_923 => ?_)
                refine j_goto hC dL_law_926 (tgt := 18) (by decide) ?_
                refine j_pick [0, 1, 2, 3] ?_
                refine j_widen (k' := 40 + 100 * (cq + 1)) (n' := 6500 + 900 * (cq + 1)) (by omega) (by omega) ?_
                exact ih_18 (cq + 1) _ _ _ _ (by omega) (by omega) (nI_5 e_923 h3) hN_600 hM_622
              · exact absurd rfl c_625
        refine j_case (16) (fun s_32_16 => ?_) (fun s_32_16 => ?_)
        · refine j_tableIn hC dL_law_32 (by rw [s_32_16]; decide) (by rw [s_32_16]; decide) (off := 598) (by rw [s_32_16]; rfl) (tgt := 630) (by decide) ?_
          refine j_aload_n hC dL_law_630 rfl rfl ?_
          refine j_lawC hC hCW (c_X6_carryOut g a T b1 hCW hw nh) mX6_carryOut k611 rfl rfl ⟨(Nat.le_of_ble_eq_true rfl), (Nat.le_of_ble_eq_true rfl)⟩ (Nat.le_of_ble_eq_true rfl) ⟨by show _ ≤ 600000; omega, by show _ ≤ 7302249; omega⟩ dL_law_631 (fun r_631 b_631 hp_631 _ => ?_)
          obtain ⟨rfl, hN_631⟩ := hp_631
          have hl1 : b_631.length = 10 := CW_len hN_631
          dsimp only [jrepl, List.set, jstk]
          refine j_aload_n hC dL_law_634 rfl rfl ?_
          refine j_lawM hC hMW hl1 (c_X7_carryOut g d T b2 hMW) mX7_carryOut k995 rfl rfl ⟨(Nat.le_of_ble_eq_true rfl), (Nat.le_of_ble_eq_true rfl)⟩ (Nat.le_of_ble_eq_true rfl) ⟨by show _ ≤ 600000; omega, by show _ ≤ 7302249; omega⟩ dL_law_635 (fun r_635 b_635 hp_635 _ => ?_)
          obtain ⟨rfl, hM_635⟩ := hp_635
          dsimp only [jrepl, List.set, jstk]
          refine j_icmp_eq hC dL_law_638 (tgt := 923) (by decide) (fun c_638 => ?_) (fun c_638 => ?_)
          · skip
            refine j_iinc hC (5) dL_law_923 rfl rfl rfl rfl rfl (fun v_923 e_923 => ?_)
            refine j_goto hC dL_law_926 (tgt := 18) (by decide) ?_
            refine j_pick [0, 1, 2, 3] ?_
            refine j_widen (k' := 40 + 100 * (cq + 1)) (n' := 6500 + 900 * (cq + 1)) (by omega) (by omega) ?_
            exact ih_18 (cq + 1) _ _ _ _ (by omega) (by omega) (nI_5 e_923 h3) hN_631 hM_635
          · exact absurd rfl c_638
        refine j_case (17) (fun s_32_17 => ?_) (fun s_32_17 => ?_)
        · refine j_tableIn hC dL_law_32 (by rw [s_32_17]; decide) (by rw [s_32_17]; decide) (off := 611) (by rw [s_32_17]; rfl) (tgt := 643) (by decide) ?_
          refine j_aload_n hC dL_law_643 rfl rfl ?_
          refine j_aload_n hC dL_law_644 rfl rfl ?_
          refine j_iload_n hC dL_law_645 rfl rfl ?_
          refine j_iconst hC (1) dL_law_646 (by decide) ?_
          refine j_iadd hC dL_law_647 ?_
          refine j_sld hC hX hbl hbA (by first | exact hin0 | exact hin1 | exact hin2 | exact hin3 | exact hin4) dL_law_648 ?_
          refine j_aload_n hC dL_law_649 rfl rfl ?_
          refine j_iload_n hC dL_law_650 rfl rfl ?_
          refine j_iconst hC (2) dL_law_651 (by decide) ?_
          refine j_iadd hC dL_law_652 ?_
          refine j_sld hC hX hbl hbA (by first | exact hin0 | exact hin1 | exact hin2 | exact hin3 | exact hin4) dL_law_653 ?_
          refine j_lawC hC hCW (c_X6_routeAt g a T b1 _ _ hCW hw) mX6_routeAt k616 rfl rfl ⟨(Nat.le_of_ble_eq_true rfl), (Nat.le_of_ble_eq_true rfl)⟩ (Nat.le_of_ble_eq_true rfl) ⟨by show _ ≤ 600000; omega, by show _ ≤ 7302249; omega⟩ dL_law_654 (fun r_654 b_654 hp_654 _ => ?_)
          obtain ⟨rfl, hN_654⟩ := hp_654
          have hl1 : b_654.length = 10 := CW_len hN_654
          dsimp only [jrepl, List.set, jstk]
          refine j_aload_n hC dL_law_657 rfl rfl ?_
          refine j_aload_n hC dL_law_658 rfl rfl ?_
          refine j_iload_n hC dL_law_659 rfl rfl ?_
          refine j_iconst hC (1) dL_law_660 (by decide) ?_
          refine j_iadd hC dL_law_661 ?_
          refine j_sld hC hX hbl hbA (by first | exact hin0 | exact hin1 | exact hin2 | exact hin3 | exact hin4) dL_law_662 ?_
          refine j_aload_n hC dL_law_663 rfl rfl ?_
          refine j_iload_n hC dL_law_664 rfl rfl ?_
          refine j_iconst hC (2) dL_law_665 (by decide) ?_
          refine j_iadd hC dL_law_666 ?_
          refine j_sld hC hX hbl hbA (by first | exact hin0 | exact hin1 | exact hin2 | exact hin3 | exact hin4) dL_law_667 ?_
          refine j_lawM hC hMW hl1 (c_X7_routeAt g d T b2 _ _ hMW) mX7_routeAt k1019 rfl rfl ⟨(Nat.le_of_ble_eq_true rfl), (Nat.le_of_ble_eq_true rfl)⟩ (Nat.le_of_ble_eq_true rfl) ⟨by show _ ≤ 600000; omega, by show _ ≤ 7302249; omega⟩ dL_law_668 (fun r_668 b_668 hp_668 _ => ?_)
          obtain ⟨rfl, hM_668⟩ := hp_668
          dsimp only [jrepl, List.set, jstk]
          refine j_icmp_eq hC dL_law_671 (tgt := 923) (by decide) (fun c_671 => ?_) (fun c_671 => ?_)
          · skip
            refine j_iinc hC (5) dL_law_923 rfl rfl rfl rfl rfl (fun v_923 e_923 => ?_)
            refine j_goto hC dL_law_926 (tgt := 18) (by decide) ?_
            refine j_pick [0, 1, 2, 3] ?_
            refine j_widen (k' := 40 + 100 * (cq + 1)) (n' := 6500 + 900 * (cq + 1)) (by omega) (by omega) ?_
            exact ih_18 (cq + 1) _ _ _ _ (by omega) (by omega) (nI_5 e_923 h3) hN_654 hM_668
          · exact absurd rfl c_671
        refine j_case (18) (fun s_32_18 => ?_) (fun s_32_18 => ?_)
        · refine j_tableIn hC dL_law_32 (by rw [s_32_18]; decide) (by rw [s_32_18]; decide) (off := 644) (by rw [s_32_18]; rfl) (tgt := 676) (by decide) ?_
          refine j_aload_n hC dL_law_676 rfl rfl ?_
          refine j_aload_n hC dL_law_677 rfl rfl ?_
          refine j_iload_n hC dL_law_678 rfl rfl ?_
          refine j_iconst hC (1) dL_law_679 (by decide) ?_
          refine j_iadd hC dL_law_680 ?_
          refine j_sld hC hX hbl hbA (by first | exact hin0 | exact hin1 | exact hin2 | exact hin3 | exact hin4) dL_law_681 ?_
          refine j_aload_n hC dL_law_682 rfl rfl ?_
          refine j_iload_n hC dL_law_683 rfl rfl ?_
          refine j_iconst hC (2) dL_law_684 (by decide) ?_
          refine j_iadd hC dL_law_685 ?_
          refine j_sld hC hX hbl hbA (by first | exact hin0 | exact hin1 | exact hin2 | exact hin3 | exact hin4) dL_law_686 ?_
          refine j_lawC hC hCW (c_X6_lasts g a T b1 _ _ hCW hw) mX6_lasts k643 rfl rfl ⟨(Nat.le_of_ble_eq_true rfl), (Nat.le_of_ble_eq_true rfl)⟩ (Nat.le_of_ble_eq_true rfl) ⟨by show _ ≤ 600000; omega, by show _ ≤ 7302249; omega⟩ dL_law_687 (fun r_687 b_687 hp_687 _ => ?_)
          obtain ⟨rfl, hN_687⟩ := hp_687
          have hl1 : b_687.length = 10 := CW_len hN_687
          dsimp only [jrepl, List.set, jstk]
          refine j_aload_n hC dL_law_690 rfl rfl ?_
          refine j_aload_n hC dL_law_691 rfl rfl ?_
          refine j_iload_n hC dL_law_692 rfl rfl ?_
          refine j_iconst hC (1) dL_law_693 (by decide) ?_
          refine j_iadd hC dL_law_694 ?_
          refine j_sld hC hX hbl hbA (by first | exact hin0 | exact hin1 | exact hin2 | exact hin3 | exact hin4) dL_law_695 ?_
          refine j_aload_n hC dL_law_696 rfl rfl ?_
          refine j_iload_n hC dL_law_697 rfl rfl ?_
          refine j_iconst hC (2) dL_law_698 (by decide) ?_
          refine j_iadd hC dL_law_699 ?_
          refine j_sld hC hX hbl hbA (by first | exact hin0 | exact hin1 | exact hin2 | exact hin3 | exact hin4) dL_law_700 ?_
          refine j_lawM hC hMW hl1 (c_X7_lasts g d T b2 _ _ hMW) mX7_lasts k1011 rfl rfl ⟨(Nat.le_of_ble_eq_true rfl), (Nat.le_of_ble_eq_true rfl)⟩ (Nat.le_of_ble_eq_true rfl) ⟨by show _ ≤ 600000; omega, by show _ ≤ 7302249; omega⟩ dL_law_701 (fun r_701 b_701 hp_701 _ => ?_)
          obtain ⟨rfl, hM_701⟩ := hp_701
          dsimp only [jrepl, List.set, jstk]
          refine j_icmp_eq hC dL_law_704 (tgt := 923) (by decide) (fun c_704 => ?_) (fun c_704 => ?_)
          · skip
            refine j_iinc hC (5) dL_law_923 rfl rfl rfl rfl rfl (fun v_923 e_923 => ?_)
            refine j_goto hC dL_law_926 (tgt := 18) (by decide) ?_
            refine j_pick [0, 1, 2, 3] ?_
            refine j_widen (k' := 40 + 100 * (cq + 1)) (n' := 6500 + 900 * (cq + 1)) (by omega) (by omega) ?_
            exact ih_18 (cq + 1) _ _ _ _ (by omega) (by omega) (nI_5 e_923 h3) hN_687 hM_701
          · exact absurd rfl c_704
        refine j_case (19) (fun s_32_19 => ?_) (fun s_32_19 => ?_)
        · refine j_tableIn hC dL_law_32 (by rw [s_32_19]; decide) (by rw [s_32_19]; decide) (off := 677) (by rw [s_32_19]; rfl) (tgt := 709) (by decide) ?_
          refine j_aload_n hC dL_law_709 rfl rfl ?_
          refine j_aload_n hC dL_law_710 rfl rfl ?_
          refine j_iload_n hC dL_law_711 rfl rfl ?_
          refine j_iconst hC (1) dL_law_712 (by decide) ?_
          refine j_iadd hC dL_law_713 ?_
          refine j_sld hC hX hbl hbA (by first | exact hin0 | exact hin1 | exact hin2 | exact hin3 | exact hin4) dL_law_714 ?_
          refine j_aload_n hC dL_law_715 rfl rfl ?_
          refine j_iload_n hC dL_law_716 rfl rfl ?_
          refine j_iconst hC (2) dL_law_717 (by decide) ?_
          refine j_iadd hC dL_law_718 ?_
          refine j_sld hC hX hbl hbA (by first | exact hin0 | exact hin1 | exact hin2 | exact hin3 | exact hin4) dL_law_719 ?_
          refine j_if_eq hC dL_law_720 (tgt := 727) (by decide) (fun c_720 => ?_) (fun c_720 => ?_)
          · skip
            refine j_iconst hC (0) dL_law_727 (by decide) ?_
            refine j_lawC hC hCW (c_X6_reaching g a T b1 _ _ hCW) mX6_reaching k647 rfl rfl ⟨(Nat.le_of_ble_eq_true rfl), (Nat.le_of_ble_eq_true rfl)⟩ (Nat.le_of_ble_eq_true rfl) ⟨by show _ ≤ 600000; omega, by show _ ≤ 7302249; omega⟩ dL_law_728 (fun r_728 b_728 hp_728 _ => ?_)
            obtain ⟨rfl, hN_728⟩ := hp_728
            have hl1 : b_728.length = 10 := CW_len hN_728
            dsimp only [jrepl, List.set, jstk]
            refine j_aload_n hC dL_law_731 rfl rfl ?_
            refine j_aload_n hC dL_law_732 rfl rfl ?_
            refine j_iload_n hC dL_law_733 rfl rfl ?_
            refine j_iconst hC (1) dL_law_734 (by decide) ?_
            refine j_iadd hC dL_law_735 ?_
            refine j_sld hC hX hbl hbA (by first | exact hin0 | exact hin1 | exact hin2 | exact hin3 | exact hin4) dL_law_736 ?_
            refine j_aload_n hC dL_law_737 rfl rfl ?_
            refine j_iload_n hC dL_law_738 rfl rfl ?_
            refine j_iconst hC (2) dL_law_739 (by decide) ?_
            refine j_iadd hC dL_law_740 ?_
            refine j_sld hC hX hbl hbA (by first | exact hin0 | exact hin1 | exact hin2 | exact hin3 | exact hin4) dL_law_741 ?_
            refine j_if_eq hC dL_law_742 (tgt := 749) (by decide) (fun c_742 => ?_) (fun c_742 => ?_)
            · skip
              refine j_iconst hC (0) dL_law_749 (by decide) ?_
              refine j_lawM hC hMW hl1 (c_X7_reaching g d T b2 _ _ hMW) mX7_reaching k1031 rfl rfl ⟨(Nat.le_of_ble_eq_true rfl), (Nat.le_of_ble_eq_true rfl)⟩ (Nat.le_of_ble_eq_true rfl) ⟨by show _ ≤ 600000; omega, by show _ ≤ 7302249; omega⟩ dL_law_750 (fun r_750 b_750 hp_750 _ => ?_)
              obtain ⟨rfl, hM_750⟩ := hp_750
              dsimp only [jrepl, List.set, jstk]
              refine j_icmp_eq hC dL_law_753 (tgt := 923) (by decide) (fun c_753 => ?_) (fun c_753 => ?_)
              · skip
                refine j_iinc hC (5) dL_law_923 rfl rfl rfl rfl rfl (fun v_923 e_923 => ?_)
                refine j_goto hC dL_law_926 (tgt := 18) (by decide) ?_
                refine j_pick [0, 1, 2, 3] ?_
                refine j_widen (k' := 40 + 100 * (cq + 1)) (n' := 6500 + 900 * (cq + 1)) (by omega) (by omega) ?_
                exact ih_18 (cq + 1) _ _ _ _ (by omega) (by omega) (nI_5 e_923 h3) hN_728 hM_750
              · exact absurd rfl c_753
            · exact absurd c_720 c_742
          · skip
            refine j_iconst hC (1) dL_law_723 (by decide) ?_
            refine j_goto hC dL_law_724 (tgt := 728) (by decide) ?_
            refine j_lawC hC hCW (c_X6_reaching g a T b1 _ _ hCW) mX6_reaching k647 rfl rfl ⟨(Nat.le_of_ble_eq_true rfl), (Nat.le_of_ble_eq_true rfl)⟩ (Nat.le_of_ble_eq_true rfl) ⟨by show _ ≤ 600000; omega, by show _ ≤ 7302249; omega⟩ dL_law_728 (fun r_728 b_728 hp_728 _ => ?_)
            obtain ⟨rfl, hN_728⟩ := hp_728
            have hl1 : b_728.length = 10 := CW_len hN_728
            dsimp only [jrepl, List.set, jstk]
            refine j_aload_n hC dL_law_731 rfl rfl ?_
            refine j_aload_n hC dL_law_732 rfl rfl ?_
            refine j_iload_n hC dL_law_733 rfl rfl ?_
            refine j_iconst hC (1) dL_law_734 (by decide) ?_
            refine j_iadd hC dL_law_735 ?_
            refine j_sld hC hX hbl hbA (by first | exact hin0 | exact hin1 | exact hin2 | exact hin3 | exact hin4) dL_law_736 ?_
            refine j_aload_n hC dL_law_737 rfl rfl ?_
            refine j_iload_n hC dL_law_738 rfl rfl ?_
            refine j_iconst hC (2) dL_law_739 (by decide) ?_
            refine j_iadd hC dL_law_740 ?_
            refine j_sld hC hX hbl hbA (by first | exact hin0 | exact hin1 | exact hin2 | exact hin3 | exact hin4) dL_law_741 ?_
            refine j_if_eq hC dL_law_742 (tgt := 749) (by decide) (fun c_742 => ?_) (fun c_742 => ?_)
            · exact absurd c_742 c_720
            · skip
              refine j_iconst hC (1) dL_law_745 (by decide) ?_
              refine j_goto hC dL_law_746 (tgt := 750) (by decide) ?_
              refine j_lawM hC hMW hl1 (c_X7_reaching g d T b2 _ _ hMW) mX7_reaching k1031 rfl rfl ⟨(Nat.le_of_ble_eq_true rfl), (Nat.le_of_ble_eq_true rfl)⟩ (Nat.le_of_ble_eq_true rfl) ⟨by show _ ≤ 600000; omega, by show _ ≤ 7302249; omega⟩ dL_law_750 (fun r_750 b_750 hp_750 _ => ?_)
              obtain ⟨rfl, hM_750⟩ := hp_750
              dsimp only [jrepl, List.set, jstk]
              refine j_icmp_eq hC dL_law_753 (tgt := 923) (by decide) (fun c_753 => ?_) (fun c_753 => ?_)
              · skip
                refine j_iinc hC (5) dL_law_923 rfl rfl rfl rfl rfl (fun v_923 e_923 => ?_)
                refine j_goto hC dL_law_926 (tgt := 18) (by decide) ?_
                refine j_pick [0, 1, 2, 3] ?_
                refine j_widen (k' := 40 + 100 * (cq + 1)) (n' := 6500 + 900 * (cq + 1)) (by omega) (by omega) ?_
                exact ih_18 (cq + 1) _ _ _ _ (by omega) (by omega) (nI_5 e_923 h3) hN_728 hM_750
              · exact absurd rfl c_753
        refine j_case (20) (fun s_32_20 => ?_) (fun s_32_20 => ?_)
        · refine j_tableIn hC dL_law_32 (by rw [s_32_20]; decide) (by rw [s_32_20]; decide) (off := 726) (by rw [s_32_20]; rfl) (tgt := 758) (by decide) ?_
          refine j_aload_n hC dL_law_758 rfl rfl ?_
          refine j_aload_n hC dL_law_759 rfl rfl ?_
          refine j_iload_n hC dL_law_760 rfl rfl ?_
          refine j_iconst hC (1) dL_law_761 (by decide) ?_
          refine j_iadd hC dL_law_762 ?_
          refine j_sld hC hX hbl hbA (by first | exact hin0 | exact hin1 | exact hin2 | exact hin3 | exact hin4) dL_law_763 ?_
          refine j_lawC hC hCW (c_X6_allowed g a T b1 _ hCW hw) mX6_allowed k663 rfl rfl ⟨(Nat.le_of_ble_eq_true rfl), (Nat.le_of_ble_eq_true rfl)⟩ (Nat.le_of_ble_eq_true rfl) ⟨by show _ ≤ 600000; omega, by show _ ≤ 7302249; omega⟩ dL_law_764 (fun r_764 b_764 hp_764 _ => ?_)
          obtain ⟨rfl, hN_764⟩ := hp_764
          have hl1 : b_764.length = 10 := CW_len hN_764
          dsimp only [jrepl, List.set, jstk]
          refine j_aload_n hC dL_law_767 rfl rfl ?_
          refine j_aload_n hC dL_law_768 rfl rfl ?_
          refine j_iload_n hC dL_law_769 rfl rfl ?_
          refine j_iconst hC (1) dL_law_770 (by decide) ?_
          refine j_iadd hC dL_law_771 ?_
          refine j_sld hC hX hbl hbA (by first | exact hin0 | exact hin1 | exact hin2 | exact hin3 | exact hin4) dL_law_772 ?_
          refine j_lawM hC hMW hl1 (c_X7_allowed g d T b2 _ hMW) mX7_allowed k939 rfl rfl ⟨(Nat.le_of_ble_eq_true rfl), (Nat.le_of_ble_eq_true rfl)⟩ (Nat.le_of_ble_eq_true rfl) ⟨by show _ ≤ 600000; omega, by show _ ≤ 7302249; omega⟩ dL_law_773 (fun r_773 b_773 hp_773 _ => ?_)
          obtain ⟨rfl, hM_773⟩ := hp_773
          dsimp only [jrepl, List.set, jstk]
          refine j_icmp_eq hC dL_law_776 (tgt := 923) (by decide) (fun c_776 => ?_) (fun c_776 => ?_)
          · skip
            refine j_iinc hC (5) dL_law_923 rfl rfl rfl rfl rfl (fun v_923 e_923 => ?_)
            refine j_goto hC dL_law_926 (tgt := 18) (by decide) ?_
            refine j_pick [0, 1, 2, 3] ?_
            refine j_widen (k' := 40 + 100 * (cq + 1)) (n' := 6500 + 900 * (cq + 1)) (by omega) (by omega) ?_
            exact ih_18 (cq + 1) _ _ _ _ (by omega) (by omega) (nI_5 e_923 h3) hN_764 hM_773
          · exact absurd rfl c_776
        refine j_case (21) (fun s_32_21 => ?_) (fun s_32_21 => ?_)
        · refine j_tableIn hC dL_law_32 (by rw [s_32_21]; decide) (by rw [s_32_21]; decide) (off := 749) (by rw [s_32_21]; rfl) (tgt := 781) (by decide) ?_
          refine j_aload_n hC dL_law_781 rfl rfl ?_
          refine j_lawC hC hCW (c_X6_days g a T b1 hCW hw) mX6_days k664 rfl rfl ⟨(Nat.le_of_ble_eq_true rfl), (Nat.le_of_ble_eq_true rfl)⟩ (Nat.le_of_ble_eq_true rfl) ⟨by show _ ≤ 600000; omega, by show _ ≤ 7302249; omega⟩ dL_law_782 (fun r_782 b_782 hp_782 _ => ?_)
          obtain ⟨rfl, hN_782⟩ := hp_782
          have hl1 : b_782.length = 10 := CW_len hN_782
          dsimp only [jrepl, List.set, jstk]
          refine j_aload_n hC dL_law_785 rfl rfl ?_
          refine j_lawM hC hMW hl1 (c_X7_days g d T b2 hMW) mX7_days k971 rfl rfl ⟨(Nat.le_of_ble_eq_true rfl), (Nat.le_of_ble_eq_true rfl)⟩ (Nat.le_of_ble_eq_true rfl) ⟨by show _ ≤ 600000; omega, by show _ ≤ 7302249; omega⟩ dL_law_786 (fun r_786 b_786 hp_786 _ => ?_)
          obtain ⟨rfl, hM_786⟩ := hp_786
          dsimp only [jrepl, List.set, jstk]
          refine j_icmp_eq hC dL_law_789 (tgt := 923) (by decide) (fun c_789 => ?_) (fun c_789 => ?_)
          · skip
            refine j_iinc hC (5) dL_law_923 rfl rfl rfl rfl rfl (fun v_923 e_923 => ?_)
            refine j_goto hC dL_law_926 (tgt := 18) (by decide) ?_
            refine j_pick [0, 1, 2, 3] ?_
            refine j_widen (k' := 40 + 100 * (cq + 1)) (n' := 6500 + 900 * (cq + 1)) (by omega) (by omega) ?_
            exact ih_18 (cq + 1) _ _ _ _ (by omega) (by omega) (nI_5 e_923 h3) hN_782 hM_786
          · exact absurd rfl c_789
        refine j_case (22) (fun s_32_22 => ?_) (fun s_32_22 => ?_)
        · refine j_tableIn hC dL_law_32 (by rw [s_32_22]; decide) (by rw [s_32_22]; decide) (off := 762) (by rw [s_32_22]; rfl) (tgt := 794) (by decide) ?_
          refine j_aload_n hC dL_law_794 rfl rfl ?_
          refine j_aload_n hC dL_law_795 rfl rfl ?_
          refine j_iload_n hC dL_law_796 rfl rfl ?_
          refine j_iconst hC (1) dL_law_797 (by decide) ?_
          refine j_iadd hC dL_law_798 ?_
          refine j_sld hC hX hbl hbA (by first | exact hin0 | exact hin1 | exact hin2 | exact hin3 | exact hin4) dL_law_799 ?_
          refine j_lawC hC hCW (c_X6_day g a T b1 _ hCW hw) mX6_day k668 rfl rfl ⟨(Nat.le_of_ble_eq_true rfl), (Nat.le_of_ble_eq_true rfl)⟩ (Nat.le_of_ble_eq_true rfl) ⟨by show _ ≤ 600000; omega, by show _ ≤ 7302249; omega⟩ dL_law_800 (fun r_800 b_800 hp_800 _ => ?_)
          obtain ⟨rfl, hN_800⟩ := hp_800
          have hl1 : b_800.length = 10 := CW_len hN_800
          dsimp only [jrepl, List.set, jstk]
          refine j_aload_n hC dL_law_803 rfl rfl ?_
          refine j_aload_n hC dL_law_804 rfl rfl ?_
          refine j_iload_n hC dL_law_805 rfl rfl ?_
          refine j_iconst hC (1) dL_law_806 (by decide) ?_
          refine j_iadd hC dL_law_807 ?_
          refine j_sld hC hX hbl hbA (by first | exact hin0 | exact hin1 | exact hin2 | exact hin3 | exact hin4) dL_law_808 ?_
          refine j_lawM hC hMW hl1 (c_X7_day g d T b2 _ hMW) mX7_day k987 rfl rfl ⟨(Nat.le_of_ble_eq_true rfl), (Nat.le_of_ble_eq_true rfl)⟩ (Nat.le_of_ble_eq_true rfl) ⟨by show _ ≤ 600000; omega, by show _ ≤ 7302249; omega⟩ dL_law_809 (fun r_809 b_809 hp_809 _ => ?_)
          obtain ⟨rfl, hM_809⟩ := hp_809
          dsimp only [jrepl, List.set, jstk]
          refine j_icmp_eq hC dL_law_812 (tgt := 923) (by decide) (fun c_812 => ?_) (fun c_812 => ?_)
          · skip
            refine j_iinc hC (5) dL_law_923 rfl rfl rfl rfl rfl (fun v_923 e_923 => ?_)
            refine j_goto hC dL_law_926 (tgt := 18) (by decide) ?_
            refine j_pick [0, 1, 2, 3] ?_
            refine j_widen (k' := 40 + 100 * (cq + 1)) (n' := 6500 + 900 * (cq + 1)) (by omega) (by omega) ?_
            exact ih_18 (cq + 1) _ _ _ _ (by omega) (by omega) (nI_5 e_923 h3) hN_800 hM_809
          · exact absurd rfl c_812
        refine j_case (23) (fun s_32_23 => ?_) (fun s_32_23 => ?_)
        · refine j_tableIn hC dL_law_32 (by rw [s_32_23]; decide) (by rw [s_32_23]; decide) (off := 785) (by rw [s_32_23]; rfl) (tgt := 817) (by decide) ?_
          refine j_aload_n hC dL_law_817 rfl rfl ?_
          refine j_aload_n hC dL_law_818 rfl rfl ?_
          refine j_iload_n hC dL_law_819 rfl rfl ?_
          refine j_iconst hC (1) dL_law_820 (by decide) ?_
          refine j_iadd hC dL_law_821 ?_
          refine j_sld hC hX hbl hbA (by first | exact hin0 | exact hin1 | exact hin2 | exact hin3 | exact hin4) dL_law_822 ?_
          refine j_aload_n hC dL_law_823 rfl rfl ?_
          refine j_iload_n hC dL_law_824 rfl rfl ?_
          refine j_iconst hC (2) dL_law_825 (by decide) ?_
          refine j_iadd hC dL_law_826 ?_
          refine j_sld hC hX hbl hbA (by first | exact hin0 | exact hin1 | exact hin2 | exact hin3 | exact hin4) dL_law_827 ?_
          refine j_lawC hC hCW (c_X6_ifLamp g a T b1 _ _ hCW hw) mX6_ifLamp k672 rfl rfl ⟨(Nat.le_of_ble_eq_true rfl), (Nat.le_of_ble_eq_true rfl)⟩ (Nat.le_of_ble_eq_true rfl) ⟨by show _ ≤ 600000; omega, by show _ ≤ 7302249; omega⟩ dL_law_828 (fun r_828 b_828 hp_828 _ => ?_)
          obtain ⟨rfl, hN_828⟩ := hp_828
          have hl1 : b_828.length = 10 := CW_len hN_828
          dsimp only [jrepl, List.set, jstk]
          refine j_aload_n hC dL_law_831 rfl rfl ?_
          refine j_aload_n hC dL_law_832 rfl rfl ?_
          refine j_iload_n hC dL_law_833 rfl rfl ?_
          refine j_iconst hC (1) dL_law_834 (by decide) ?_
          refine j_iadd hC dL_law_835 ?_
          refine j_sld hC hX hbl hbA (by first | exact hin0 | exact hin1 | exact hin2 | exact hin3 | exact hin4) dL_law_836 ?_
          refine j_aload_n hC dL_law_837 rfl rfl ?_
          refine j_iload_n hC dL_law_838 rfl rfl ?_
          refine j_iconst hC (2) dL_law_839 (by decide) ?_
          refine j_iadd hC dL_law_840 ?_
          refine j_sld hC hX hbl hbA (by first | exact hin0 | exact hin1 | exact hin2 | exact hin3 | exact hin4) dL_law_841 ?_
          refine j_lawM hC hMW hl1 (c_X7_ifLamp g d T b2 _ _ hMW) mX7_ifLamp k999 rfl rfl ⟨(Nat.le_of_ble_eq_true rfl), (Nat.le_of_ble_eq_true rfl)⟩ (Nat.le_of_ble_eq_true rfl) ⟨by show _ ≤ 600000; omega, by show _ ≤ 7302249; omega⟩ dL_law_842 (fun r_842 b_842 hp_842 _ => ?_)
          obtain ⟨rfl, hM_842⟩ := hp_842
          dsimp only [jrepl, List.set, jstk]
          refine j_icmp_eq hC dL_law_845 (tgt := 923) (by decide) (fun c_845 => ?_) (fun c_845 => ?_)
          · skip
            refine j_iinc hC (5) dL_law_923 rfl rfl rfl rfl rfl (fun v_923 e_923 => ?_)
            refine j_goto hC dL_law_926 (tgt := 18) (by decide) ?_
            refine j_pick [0, 1, 2, 3] ?_
            refine j_widen (k' := 40 + 100 * (cq + 1)) (n' := 6500 + 900 * (cq + 1)) (by omega) (by omega) ?_
            exact ih_18 (cq + 1) _ _ _ _ (by omega) (by omega) (nI_5 e_923 h3) hN_828 hM_842
          · exact absurd rfl c_845
        refine j_case (24) (fun s_32_24 => ?_) (fun s_32_24 => ?_)
        · refine j_tableIn hC dL_law_32 (by rw [s_32_24]; decide) (by rw [s_32_24]; decide) (off := 818) (by rw [s_32_24]; rfl) (tgt := 850) (by decide) ?_
          refine j_aload_n hC dL_law_850 rfl rfl ?_
          refine j_aload_n hC dL_law_851 rfl rfl ?_
          refine j_iload_n hC dL_law_852 rfl rfl ?_
          refine j_iconst hC (1) dL_law_853 (by decide) ?_
          refine j_iadd hC dL_law_854 ?_
          refine j_sld hC hX hbl hbA (by first | exact hin0 | exact hin1 | exact hin2 | exact hin3 | exact hin4) dL_law_855 ?_
          refine j_lawC hC hCW (c_X6_bestSwap g a T b1 _ hCW hw) mX6_bestSwap k682 rfl rfl ⟨(Nat.le_of_ble_eq_true rfl), (Nat.le_of_ble_eq_true rfl)⟩ (Nat.le_of_ble_eq_true rfl) ⟨by show _ ≤ 600000; omega, by show _ ≤ 7302249; omega⟩ dL_law_856 (fun r_856 b_856 hp_856 _ => ?_)
          obtain ⟨rfl, hN_856⟩ := hp_856
          have hl1 : b_856.length = 10 := CW_len hN_856
          dsimp only [jrepl, List.set, jstk]
          refine j_aload_n hC dL_law_859 rfl rfl ?_
          refine j_aload_n hC dL_law_860 rfl rfl ?_
          refine j_iload_n hC dL_law_861 rfl rfl ?_
          refine j_iconst hC (1) dL_law_862 (by decide) ?_
          refine j_iadd hC dL_law_863 ?_
          refine j_sld hC hX hbl hbA (by first | exact hin0 | exact hin1 | exact hin2 | exact hin3 | exact hin4) dL_law_864 ?_
          refine j_lawM hC hMW hl1 (c_X7_bestSwap g d T b2 _ hMW) mX7_bestSwap k1007 rfl rfl ⟨(Nat.le_of_ble_eq_true rfl), (Nat.le_of_ble_eq_true rfl)⟩ (Nat.le_of_ble_eq_true rfl) ⟨by show _ ≤ 600000; omega, by show _ ≤ 7302249; omega⟩ dL_law_865 (fun r_865 b_865 hp_865 _ => ?_)
          obtain ⟨rfl, hM_865⟩ := hp_865
          dsimp only [jrepl, List.set, jstk]
          refine j_icmp_eq hC dL_law_868 (tgt := 923) (by decide) (fun c_868 => ?_) (fun c_868 => ?_)
          · skip
            refine j_iinc hC (5) dL_law_923 rfl rfl rfl rfl rfl (fun v_923 e_923 => ?_)
            refine j_goto hC dL_law_926 (tgt := 18) (by decide) ?_
            refine j_pick [0, 1, 2, 3] ?_
            refine j_widen (k' := 40 + 100 * (cq + 1)) (n' := 6500 + 900 * (cq + 1)) (by omega) (by omega) ?_
            exact ih_18 (cq + 1) _ _ _ _ (by omega) (by omega) (nI_5 e_923 h3) hN_856 hM_865
          · exact absurd rfl c_868
        refine j_case (25) (fun s_32_25 => ?_) (fun s_32_25 => ?_)
        · refine j_tableIn hC dL_law_32 (by rw [s_32_25]; decide) (by rw [s_32_25]; decide) (off := 841) (by rw [s_32_25]; rfl) (tgt := 873) (by decide) ?_
          refine j_aload_n hC dL_law_873 rfl rfl ?_
          refine j_aload_n hC dL_law_874 rfl rfl ?_
          refine j_iload_n hC dL_law_875 rfl rfl ?_
          refine j_iconst hC (1) dL_law_876 (by decide) ?_
          refine j_iadd hC dL_law_877 ?_
          refine j_sld hC hX hbl hbA (by first | exact hin0 | exact hin1 | exact hin2 | exact hin3 | exact hin4) dL_law_878 ?_
          refine j_lawC hC hCW (c_X6_told g a T b1 _ hCW hw) mX6_told k686 rfl rfl ⟨(Nat.le_of_ble_eq_true rfl), (Nat.le_of_ble_eq_true rfl)⟩ (Nat.le_of_ble_eq_true rfl) ⟨by show _ ≤ 600000; omega, by show _ ≤ 7302249; omega⟩ dL_law_879 (fun r_879 b_879 hp_879 _ => ?_)
          obtain ⟨rfl, hN_879⟩ := hp_879
          have hl1 : b_879.length = 10 := CW_len hN_879
          dsimp only [jrepl, List.set, jstk]
          refine j_aload_n hC dL_law_882 rfl rfl ?_
          refine j_aload_n hC dL_law_883 rfl rfl ?_
          refine j_iload_n hC dL_law_884 rfl rfl ?_
          refine j_iconst hC (1) dL_law_885 (by decide) ?_
          refine j_iadd hC dL_law_886 ?_
          refine j_sld hC hX hbl hbA (by first | exact hin0 | exact hin1 | exact hin2 | exact hin3 | exact hin4) dL_law_887 ?_
          refine j_lawM hC hMW hl1 (c_X7_told g d T b2 _ hMW) mX7_told k1043 rfl rfl ⟨(Nat.le_of_ble_eq_true rfl), (Nat.le_of_ble_eq_true rfl)⟩ (Nat.le_of_ble_eq_true rfl) ⟨by show _ ≤ 600000; omega, by show _ ≤ 7302249; omega⟩ dL_law_888 (fun r_888 b_888 hp_888 _ => ?_)
          obtain ⟨rfl, hM_888⟩ := hp_888
          dsimp only [jrepl, List.set, jstk]
          refine j_icmp_eq hC dL_law_891 (tgt := 923) (by decide) (fun c_891 => ?_) (fun c_891 => ?_)
          · skip
            refine j_iinc hC (5) dL_law_923 rfl rfl rfl rfl rfl (fun v_923 e_923 => ?_)
            refine j_goto hC dL_law_926 (tgt := 18) (by decide) ?_
            refine j_pick [0, 1, 2, 3] ?_
            refine j_widen (k' := 40 + 100 * (cq + 1)) (n' := 6500 + 900 * (cq + 1)) (by omega) (by omega) ?_
            exact ih_18 (cq + 1) _ _ _ _ (by omega) (by omega) (nI_5 e_923 h3) hN_879 hM_888
          · exact absurd rfl c_891
        refine j_case (26) (fun s_32_26 => ?_) (fun s_32_26 => ?_)
        · refine j_tableIn hC dL_law_32 (by rw [s_32_26]; decide) (by rw [s_32_26]; decide) (off := 864) (by rw [s_32_26]; rfl) (tgt := 896) (by decide) ?_
          refine j_aload_n hC dL_law_896 rfl rfl ?_
          refine j_lawC hC hCW (c_X6_undo g a T b1 hCW) mX6_undo k698 rfl rfl ⟨(Nat.le_of_ble_eq_true rfl), (Nat.le_of_ble_eq_true rfl)⟩ (Nat.le_of_ble_eq_true rfl) ⟨by show _ ≤ 600000; omega, by show _ ≤ 7302249; omega⟩ dL_law_897 (fun r_897 b_897 hp_897 _ => ?_)
          obtain ⟨rfl, hN_897⟩ := hp_897
          have hl1 : b_897.length = 10 := CW_len hN_897
          dsimp only [jrepl, List.set, jstk]
          refine j_aload_n hC dL_law_900 rfl rfl ?_
          refine j_lawM hC hMW hl1 (c_X7_undo g d T b2 hMW) mX7_undo k1055 rfl rfl ⟨(Nat.le_of_ble_eq_true rfl), (Nat.le_of_ble_eq_true rfl)⟩ (Nat.le_of_ble_eq_true rfl) ⟨by show _ ≤ 600000; omega, by show _ ≤ 7302249; omega⟩ dL_law_901 (fun r_901 b_901 hp_901 _ => ?_)
          obtain ⟨rfl, hM_901⟩ := hp_901
          dsimp only [jrepl, List.set, jstk]
          refine j_icmp_eq hC dL_law_904 (tgt := 923) (by decide) (fun c_904 => ?_) (fun c_904 => ?_)
          · skip
            refine j_iinc hC (5) dL_law_923 rfl rfl rfl rfl rfl (fun v_923 e_923 => ?_)
            refine j_goto hC dL_law_926 (tgt := 18) (by decide) ?_
            refine j_pick [0, 1, 2, 3] ?_
            refine j_widen (k' := 40 + 100 * (cq + 1)) (n' := 6500 + 900 * (cq + 1)) (by omega) (by omega) ?_
            exact ih_18 (cq + 1) _ _ _ _ (by omega) (by omega) (nI_5 e_923 h3) hN_897 hM_901
          · exact absurd rfl c_904
        refine j_case (27) (fun s_32_27 => ?_) (fun s_32_27 => ?_)
        · refine j_tableIn hC dL_law_32 (by rw [s_32_27]; decide) (by rw [s_32_27]; decide) (off := 877) (by rw [s_32_27]; rfl) (tgt := 909) (by decide) ?_
          refine j_aload_n hC dL_law_909 rfl rfl ?_
          refine j_lawC hC hCW (c_X6_digest g a T b1 hCW hw) mX6_digest k706 rfl rfl ⟨(Nat.le_of_ble_eq_true rfl), (Nat.le_of_ble_eq_true rfl)⟩ (Nat.le_of_ble_eq_true rfl) ⟨by show _ ≤ 600000; omega, by show _ ≤ 7302249; omega⟩ dL_law_910 (fun r_910 b_910 hp_910 _ => ?_)
          obtain ⟨rfl, hN_910⟩ := hp_910
          have hl1 : b_910.length = 10 := CW_len hN_910
          dsimp only [jrepl, List.set, jstk]
          refine j_aload_n hC dL_law_913 rfl rfl ?_
          refine j_lawM hC hMW hl1 (c_X7_digest g d T b2 hMW) mX7_digest k1059 rfl rfl ⟨(Nat.le_of_ble_eq_true rfl), (Nat.le_of_ble_eq_true rfl)⟩ (Nat.le_of_ble_eq_true rfl) ⟨by show _ ≤ 600000; omega, by show _ ≤ 7302249; omega⟩ dL_law_914 (fun r_914 b_914 hp_914 _ => ?_)
          obtain ⟨rfl, hM_914⟩ := hp_914
          dsimp only [jrepl, List.set, jstk]
          refine j_lcmp hC dL_law_917 ?_
          refine j_if_eq hC dL_law_918 (tgt := 923) (by decide) (fun c_918 => ?_) (fun c_918 => ?_)
          · skip
            refine j_iinc hC (5) dL_law_923 rfl rfl rfl rfl rfl (fun v_923 e_923 => ?_)
            refine j_goto hC dL_law_926 (tgt := 18) (by decide) ?_
            refine j_pick [0, 1, 2, 3] ?_
            refine j_widen (k' := 40 + 100 * (cq + 1)) (n' := 6500 + 900 * (cq + 1)) (by omega) (by omega) ?_
            exact ih_18 (cq + 1) _ _ _ _ (by omega) (by omega) (nI_5 e_923 h3) hN_910 hM_914
          · exact absurd (lg_same _) c_918
        refine j_tableOut hC dL_law_32 (jout28 s_32_0 s_32_1 s_32_2 s_32_3 s_32_4 s_32_5 s_32_6 s_32_7 s_32_8 s_32_9 s_32_10 s_32_11 s_32_12 s_32_13 s_32_14 s_32_15 s_32_16 s_32_17 s_32_18 s_32_19 s_32_20 s_32_21 s_32_22 s_32_23 s_32_24 s_32_25 s_32_26 s_32_27) (tgt := 923) (by decide) ?_
        refine j_iinc hC (5) dL_law_923 rfl rfl rfl rfl rfl (fun v_923 e_923 => ?_)
        refine j_goto hC dL_law_926 (tgt := 18) (by decide) ?_
        refine j_pick [0, 1, 2, 3] ?_
        refine j_widen (k' := 40 + 100 * (cq + 1)) (n' := 6500 + 900 * (cq + 1)) (by omega) (by omega) ?_
        exact ih_18 (cq + 1) _ _ _ _ (by omega) (by omega) (nI_5 e_923 h3) hCW hMW
  refine j_pick [0, 1, 2, 3] ?_
  refine j_widen (k' := 40 + 100 * 0) (n' := 6500 + 900 * 0) (by omega) (by omega) ?_
  exact L_18 (514) 0 _ T00 [xo a dt dn du dh dr dp, tc g dt (fun _ => 0) (fun _ => 0), bc g dn newI newA (lrf []), lts [], bc g du newI newA (lrf []), lts [], hc g dh (fun _ => 0) (kr (fun _ => none)), kb g (fun _ => none), rc g dr (fun _ _ => 0), pcc g dp (fun _ => 0) (fun _ _ => 0)] [mc g d I0 A0] (by omega) (by omega) e_17 CW_00 ⟨I0, A0, rfl, hMI0⟩
theorem whole_start {p : Program} {e : Env} {s : State} {m : MethodId} {below : List Frame} {meth : Method} {c : Code} (l : Launch) (hflags : l.flags = flags0) {b L : Nat} {xs : Nat → Int32} (hL : L ≤ 2560) (C0 : lw_At p s m meth c b L xs) : W p l e room_1 s m #[Value.ref b] below meth c s.heap [] 0 0 (lw_Z below #[Value.ref b] s) (entryFrame m ([Value.ref b] : List Value).toArray 4) := by
  obtain ⟨hx, hb, hr, hml, hown, hts, hX, hbl, hlocks, -⟩ := C0
  obtain ⟨D, tC, hK⟩ := law_K l hts
  have hC : jC (l, D, tC) room_1 (lawE p e s m below meth c b) code RL 4 := ⟨hx, hb, hml, hown, fun w h => hts w (jT_sub w h), hK, fun q h => h, hlocks⟩
  have h := law_body rfl hC hr hL hX hbl (Nat.not_le.mpr hbl)
  have hl := lv_entry ([.ref b]) (n := 4) (Nat.le_of_ble_eq_true rfl)
  rw [lg_entry_eq]
  have hP : jP (l, D, tC) (fun q => s.heap.size ≤ q) ([] : List va_W).flatten s.heap := ⟨fun k q h => by simp at h, fun i j p q h => by simp at h, fun k q h => by simp at h⟩
  exact h s.heap [] _ hP va_S.rf hl
