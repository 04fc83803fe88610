/-! p31: the law's check of the routes -/
theorem ov_lastsY {T : St3} {x y : Int32} {r s : Nat} (hx : x = nI r) (hr : r < (bRs T.1).length) (h6 : (bRs T.1).length ≤ 6) (hk : (bLs T.1).length ≤ 10) (hy : y = nI s) (hs : s < 2 ^ (bLs T.1).length) : (oLasts T x y).1 = sMin T.1 (nI s) (raS T.1 r) (rbS T.1 r) := by
  rw [hy]
  exact ov_lasts hx hr h6 hk hs
theorem ov_lastsW {T : St3} {x c : Int32} {r : Nat} (hx : x = nI r) (hr : r < (bRs T.1).length) (h6 : (bRs T.1).length ≤ 6) (hk : (bLs T.1).length ≤ 10) : (oLasts T x (sWo T.1 c)).1 = sMin T.1 (sWo T.1 c) (raS T.1 r) (rbS T.1 r) := by
  obtain ⟨w, hw, e⟩ := wo_nat (X := lsX (bLs T.1)) (c := c) (bLs T.1).length hk
  have e : sWo T.1 c = nI w := e
  rw [e]
  exact ov_lasts hx hr h6 hk hw
theorem ov_lasts0 {T : St3} {x : Int32} {r : Nat} (hx : x = nI r) (hr : r < (bRs T.1).length) (h6 : (bRs T.1).length ≤ 6) (hk : (bLs T.1).length ≤ 10) : (oLasts T x 0).1 = sMin T.1 0 (raS T.1 r) (rbS T.1 r) :=
  ov_lastsY (s := 0) hx hr h6 hk rfl (Nat.two_pow_pos _)
theorem drk_s {S : BS} {a m : Nat} : drk S a (m + 1) = if sReach S (nI (a + m)) 1 = 0 then drk S a m + 1 else drk S a m := rfl
theorem dark_nn {S : BS} (hwl : ∀ L ∈ bLs S, WL L) (hk : (bLs S).length ≤ 10) {a b : Nat} (hb : b ≤ 200) (h : ¬ 0 < sDark S a b 1023) : sDark S a b 1023 = 0 := by
  obtain ⟨c, c1, c2, -⟩ := dark_no hwl hk (a := a) hb
  rw [c1] at h ⊢
  rw [← nI_0, nI_ltI (by omega) (by omega)] at h
  have : c = 0 := by omega
  rw [this]; rfl
set_option maxHeartbeats 4000000 in
set_option maxRecDepth 100000 in
theorem c_L_routes (g : jG) (a : Nat) (T : St3) (b : List va_W) (h : CW g a T b) (hk : (bLs T.1).length ≤ 10) (hwl : ∀ L ∈ bLs T.1, WL L) (hw : rswf (bRs T.1)) (hr6 : (bRs T.1).length ≤ 6) (hnd : ∃ d : Nat, bNeed T.1 = nI d ∧ 1 ≤ d ∧ d ≤ 180) : Con g yL_routes cL_routes 11 (some .boolean) 7 167 0 0 [.ref a] b (fun rr bb => rr = some (.int 1) ∧ CW g a T bb) := by
  refine Con.of (own := RL) (lv := [(0, .ref a)]) (by decide) rfl (Nat.le_of_ble_eq_true rfl) rfl ?_
  intro E hC hQ hN
  have hW := h
  obtain ⟨nd, hnd1, hnd2, hnd3⟩ := hnd
  refine j_iconst hC (1) dL_routes_0 (by decide) ?_
  refine j_aload_n hC dL_routes_1 rfl rfl ?_
  refine j_iconst hC (0) dL_routes_2 (by decide) ?_
  refine j_callCW hC hW (c_X6_told g a T _ 0 hW hw) mX6_told k405 rfl rfl ⟨(Nat.le_of_ble_eq_true rfl), (Nat.le_of_ble_eq_true rfl)⟩ (Nat.le_of_ble_eq_true rfl) ⟨(Nat.le_of_ble_eq_true rfl), (Nat.le_of_ble_eq_true rfl)⟩ dL_routes_3 (fun r_3 b_3 hp_3 _ => ?_)
  obtain ⟨q_3, hW2⟩ := hp_3
  rw [tv_0] at q_3
  subst q_3
  have hW : CW g a T b_3 := by exact hW2
  dsimp only [jrepl, List.set, jstk]
  refine j_ishl hC dL_routes_6 ?_
  refine j_iconst hC (1) dL_routes_7 (by decide) ?_
  refine j_isub hC dL_routes_8 ?_
  refine j_istore_n hC dL_routes_9 rfl rfl rfl rfl (fun v_9 e_9 => ?_)
  refine j_iconst hC (0) dL_routes_10 (by decide) ?_
  refine j_istore_n hC dL_routes_11 rfl rfl rfl rfl (fun v_11 e_11 => ?_)
  refine j_iconst hC (0) dL_routes_12 (by decide) ?_
  refine j_istore_n hC dL_routes_13 rfl rfl rfl rfl (fun v_13 e_13 => ?_)
  have hall : v_9 = nI (2 ^ (bLs T.1).length - 1) := by rw [e_9]; exact full_k _ (by omega)
  have hf0 : 0 < 2 ^ (bLs T.1).length := Nat.two_pow_pos _
  have hfl : 2 ^ (bLs T.1).length - 1 < 2 ^ (bLs T.1).length := by omega
  have L_14 : ∀ (fu : Nat) (r : Nat) (x2 x3 : Int32) (bs : List va_W) (hfu : (bRs T.1).length + 1 ≤ r + fu) (hr : r ≤ (bRs T.1).length) (h2 : x2 = jiter (fun j n => if sDark T.1 (raS T.1 j) (rbS T.1 j) 1023 = 0 then n + 1 else n) 0 r) (h3 : x3 = nI r) (hW : CW g a T bs), J g (jRm 7 167 0 0) E 11 14 [(0, .ref a), (1, .int v_9), (2, .int x2), (3, .int x3)] [] bs (0) (0) := by
    intro fu
    induction fu with
    | zero => intro r x2 x3 bs hfu hr h2 h3 hW; exact absurd hfu (by omega)
    | succ fu ih_14 =>
      intro r x2 x3 bs hfu hr h2 h3 hW
      refine j_iload_n hC dL_routes_14 rfl rfl ?_
      refine j_aload_n hC dL_routes_15 rfl rfl ?_
      refine j_iconst hC (2) dL_routes_16 (by decide) ?_
      refine j_callCW hC hW (c_X6_told g a T _ 2 hW hw) mX6_told k405 rfl rfl ⟨(Nat.le_of_ble_eq_true rfl), (Nat.le_of_ble_eq_true rfl)⟩ (Nat.le_of_ble_eq_true rfl) ⟨(Nat.le_of_ble_eq_true rfl), (Nat.le_of_ble_eq_true rfl)⟩ dL_routes_17 (fun r_17 b_17 hp_17 _ => ?_)
      obtain ⟨q_17, hW2⟩ := hp_17
      rw [tv_2] at q_17
      subst q_17
      have hW : CW g a T b_17 := by exact hW2
      dsimp only [jrepl, List.set, jstk]
      refine j_icmp_ge hC dL_routes_20 (tgt := 473) (by decide) (fun c_20 => ?_) (fun c_20 => ?_)
      · skip
        have hre : r = (bRs T.1).length := Nat.le_antisymm hr (ge_of h3 (by omega) (by omega) c_20)
        refine j_aload_n hC dL_routes_473 rfl rfl ?_
        refine j_iconst hC (3) dL_routes_474 (by decide) ?_
        refine j_callCW hC hW (c_X6_told g a T _ 3 hW hw) mX6_told k405 rfl rfl ⟨(Nat.le_of_ble_eq_true rfl), (Nat.le_of_ble_eq_true rfl)⟩ (Nat.le_of_ble_eq_true rfl) ⟨(Nat.le_of_ble_eq_true rfl), (Nat.le_of_ble_eq_true rfl)⟩ dL_routes_475 (fun r_475 b_475 hp_475 _ => ?_)
        obtain ⟨q_475, hW2⟩ := hp_475
        rw [tv_3] at q_475
        subst q_475
        have hW : CW g a T b_475 := by exact hW2
        dsimp only [jrepl, List.set, jstk]
        refine j_iload_n hC dL_routes_478 rfl rfl ?_
        refine j_icmp_ne hC dL_routes_479 (tgt := 486) (by decide) (fun c_479 => ?_) (fun c_479 => ?_)
        · exact absurd (by rw [h2, hre]; rfl) c_479
        · skip
          refine j_iconst hC (1) dL_routes_482 (by decide) ?_
          refine j_goto hC dL_routes_483 (tgt := 487) (by decide) ?_
          refine j_iret hC hQ rfl (by first | rfl | (subst_vars; rfl) | (split <;> rfl)) (Nat.le_of_ble_eq_true rfl) (Nat.le_of_ble_eq_true rfl) dL_routes_487 ((CW_len hW).trans (CW_len h).symm) ?_
          exact ⟨rfl, hW⟩
      · skip
        have hrr : r < (bRs T.1).length := lt_of h3 (by omega) (by omega) c_20
        obtain ⟨hab, hb2⟩ := rs_ab hw hrr
        refine j_iconst hC (0) dL_routes_23 (by decide) ?_
        refine j_istore hC dL_routes_24 rfl rfl rfl (fun v_24 e_24 => ?_)
        refine j_aload_n hC dL_routes_26 rfl rfl ?_
        refine j_iload_n hC dL_routes_27 rfl rfl ?_
        refine j_iconst hC (0) dL_routes_28 (by decide) ?_
        refine j_callCW hC hW (c_X6_routeAt g a T _ x3 0 hW hw) mX6_routeAt k491 rfl rfl ⟨(Nat.le_of_ble_eq_true rfl), (Nat.le_of_ble_eq_true rfl)⟩ (Nat.le_of_ble_eq_true rfl) ⟨(Nat.le_of_ble_eq_true rfl), (Nat.le_of_ble_eq_true rfl)⟩ dL_routes_29 (fun r_29 b_29 hp_29 _ => ?_)
        obtain ⟨q_29, hW2⟩ := hp_29
        rw [ra_0 h3 hrr hr6] at q_29
        subst q_29
        have hW : CW g a T b_29 := by rw [oRouteAt_2] at hW2; exact hW2
        dsimp only [jrepl, List.set, jstk]
        refine j_istore hC dL_routes_32 rfl rfl rfl (fun v_32 e_32 => ?_)
        have L_34 : ∀ (fu : Nat) (t : Nat) (x4 x5 : Int32) (bs : List va_W) (hfu : (rbS T.1 r) + 2 ≤ (raS T.1 r) + t + fu) (ht : t ≤ (rbS T.1 r) + 1 - (raS T.1 r)) (h4 : x4 = drk T.1 (raS T.1 r) t) (h5 : x5 = nI ((raS T.1 r) + t)) (hW : CW g a T bs), J g (jRm 7 167 0 0) E 11 34 [(0, .ref a), (1, .int v_9), (2, .int x2), (3, .int x3), (4, .int x4), (5, .int x5)] [] bs (0) (0) := by
          intro fu
          induction fu with
          | zero => intro t x4 x5 bs hfu ht h4 h5 hW; exact absurd hfu (by omega)
          | succ fu ih_34 =>
            intro t x4 x5 bs hfu ht h4 h5 hW
            refine j_iload hC dL_routes_34 rfl ?_
            refine j_aload_n hC dL_routes_36 rfl rfl ?_
            refine j_iload_n hC dL_routes_37 rfl rfl ?_
            refine j_iconst hC (1) dL_routes_38 (by decide) ?_
            refine j_callCW hC hW (c_X6_routeAt g a T _ x3 1 hW hw) mX6_routeAt k491 rfl rfl ⟨(Nat.le_of_ble_eq_true rfl), (Nat.le_of_ble_eq_true rfl)⟩ (Nat.le_of_ble_eq_true rfl) ⟨(Nat.le_of_ble_eq_true rfl), (Nat.le_of_ble_eq_true rfl)⟩ dL_routes_39 (fun r_39 b_39 hp_39 _ => ?_)
            obtain ⟨q_39, hW2⟩ := hp_39
            rw [ra_1 h3 hrr hr6] at q_39
            subst q_39
            have hW : CW g a T b_39 := by rw [oRouteAt_2] at hW2; exact hW2
            dsimp only [jrepl, List.set, jstk]
            refine j_icmp_gt hC dL_routes_42 (tgt := 235) (by decide) (fun c_42 => ?_) (fun c_42 => ?_)
            · skip
              have hte : t = rbS T.1 r + 1 - raS T.1 r := by rw [h5, nI_ltI (by omega) (by omega)] at c_42; omega
              have hdk : x4 = sDark T.1 (raS T.1 r) (rbS T.1 r) 1023 := by rw [h4, hte]; exact drk_dark hwl hk hb2
              have L_265 : ∀ (bs : List va_W) (hW : CW g a T bs), J g (jRm 7 167 0 0) E 11 265 [(0, .ref a), (1, .int v_9), (2, .int x2), (3, .int x3), (4, .int x4)] [] bs (0) (0) := by
                intro bs hW
                refine j_aload_n hC dL_routes_265 rfl rfl ?_
                refine j_iload_n hC dL_routes_266 rfl rfl ?_
                refine j_iconst hC (4) dL_routes_267 (by decide) ?_
                refine j_callCW hC hW (c_X6_routeAt g a T _ x3 4 hW hw) mX6_routeAt k491 rfl rfl ⟨(Nat.le_of_ble_eq_true rfl), (Nat.le_of_ble_eq_true rfl)⟩ (Nat.le_of_ble_eq_true rfl) ⟨(Nat.le_of_ble_eq_true rfl), (Nat.le_of_ble_eq_true rfl)⟩ dL_routes_268 (fun r_268 b_268 hp_268 _ => ?_)
                obtain ⟨q_268, hW2⟩ := hp_268
                rw [ra_4 h3 hrr hr6] at q_268
                subst q_268
                have hW : CW g a T b_268 := by rw [oRouteAt_2] at hW2; exact hW2
                dsimp only [jrepl, List.set, jstk]
                refine j_aload_n hC dL_routes_271 rfl rfl ?_
                refine j_iload_n hC dL_routes_272 rfl rfl ?_
                refine j_iload_n hC dL_routes_273 rfl rfl ?_
                refine j_callCW hC hW (c_X6_lasts g a T _ x3 v_9 hW hw) mX6_lasts k531 rfl rfl ⟨(Nat.le_of_ble_eq_true rfl), (Nat.le_of_ble_eq_true rfl)⟩ (Nat.le_of_ble_eq_true rfl) ⟨(Nat.le_of_ble_eq_true rfl), (Nat.le_of_ble_eq_true rfl)⟩ dL_routes_274 (fun r_274 b_274 hp_274 _ => ?_)
                obtain ⟨q_274, hW2⟩ := hp_274
                rw [ov_lastsY h3 hrr hr6 hk hall hfl] at q_274
                subst q_274
                have hW : CW g a T b_274 := by rw [oLasts_2] at hW2; exact hW2
                dsimp only [jrepl, List.set, jstk]
                refine j_icmp_ne hC dL_routes_277 (tgt := 293) (by decide) (fun c_277 => ?_) (fun c_277 => ?_)
                · exact absurd (sMin_all hwl hk hab hb2) c_277
                · skip
                  refine j_aload_n hC dL_routes_280 rfl rfl ?_
                  refine j_iload_n hC dL_routes_281 rfl rfl ?_
                  refine j_iconst hC (0) dL_routes_282 (by decide) ?_
                  refine j_callCW hC hW (c_X6_lasts g a T _ x3 0 hW hw) mX6_lasts k531 rfl rfl ⟨(Nat.le_of_ble_eq_true rfl), (Nat.le_of_ble_eq_true rfl)⟩ (Nat.le_of_ble_eq_true rfl) ⟨(Nat.le_of_ble_eq_true rfl), (Nat.le_of_ble_eq_true rfl)⟩ dL_routes_283 (fun r_283 b_283 hp_283 _ => ?_)
                  obtain ⟨q_283, hW2⟩ := hp_283
                  rw [ov_lasts0 h3 hrr hr6 hk] at q_283
                  subst q_283
                  have hW : CW g a T b_283 := by rw [oLasts_2] at hW2; exact hW2
                  dsimp only [jrepl, List.set, jstk]
                  refine j_if_ne hC dL_routes_286 (tgt := 293) (by decide) (fun c_286 => ?_) (fun c_286 => ?_)
                  · exact absurd (sMin_0 hwl hk hab hb2) c_286
                  · skip
                    refine j_iconst hC (1) dL_routes_289 (by decide) ?_
                    refine j_goto hC dL_routes_290 (tgt := 294) (by decide) ?_
                    refine j_istore hC dL_routes_294 rfl rfl rfl (fun v_294 e_294 => ?_)
                    refine j_iload hC dL_routes_296 rfl ?_
                    refine j_if_eq hC dL_routes_298 (tgt := 343) (by decide) (fun c_298 => ?_) (fun c_298 => ?_)
                    · exact absurd c_298 (by rw [e_294]; decide)
                    · skip
                      have hdz : x4 = 0 ↔ bNeed T.1 ≤ sMin T.1 1023 (raS T.1 r) (rbS T.1 r) := by rw [hdk]; exact min_need hwl hk hnd1 hnd2 hnd3 hab hb2
                      have hd0 : ¬ 0 < x4 → x4 = 0 := by rw [hdk]; exact dark_nn hwl hk hb2
                      have L_346 : ∀ (y5 : Int32) (bs : List va_W) (h5e : y5 = 1) (hW : CW g a T bs), J g (jRm 7 167 0 0) E 11 346 [(0, .ref a), (1, .int v_9), (2, .int x2), (3, .int x3), (4, .int x4), (5, .int y5)] [] bs (0) (0) := by
                        intro y5 bs h5e hW
                        refine j_ldc hC (1000000) k535 dL_routes_346 ?_
                        refine j_istore hC dL_routes_348 rfl rfl rfl (fun v_348 e_348 => ?_)
                        refine j_iconst hC (-1) dL_routes_350 (by decide) ?_
                        refine j_istore hC dL_routes_351 rfl rfl rfl (fun v_351 e_351 => ?_)
                        refine j_iconst hC (0) dL_routes_353 (by decide) ?_
                        refine j_istore hC dL_routes_354 rfl rfl rfl (fun v_354 e_354 => ?_)
                        have L_356 : ∀ (fu : Nat) (c : Nat) (x6 x7 x8 : Int32) (bs : List va_W) (hfu : 5 ≤ c + fu) (hc : c ≤ 4) (h67 : (x7, x6) = wcG T.1 (raS T.1 r) (rbS T.1 r) c) (h8 : x8 = nI c) (hW : CW g a T bs), J g (jRm 7 167 0 0) E 11 356 [(0, .ref a), (1, .int v_9), (2, .int x2), (3, .int x3), (4, .int x4), (5, .int y5), (6, .int x6), (7, .int x7), (8, .int x8)] [] bs (0) (0) := by
                          intro fu
                          induction fu with
                          | zero => intro c x6 x7 x8 bs hfu hc h67 h8 hW; exact absurd hfu (by omega)
                          | succ fu ih_356 =>
                            intro c x6 x7 x8 bs hfu hc h67 h8 hW
                            refine j_iload hC dL_routes_356 rfl ?_
                            refine j_iconst hC (4) dL_routes_358 (by decide) ?_
                            refine j_icmp_ge hC dL_routes_359 (tgt := 413) (by decide) (fun c_359 => ?_) (fun c_359 => ?_)
                            · skip
                              have hce : c = 4 := Nat.le_antisymm hc (ge_of (n := 4) h8 (by omega) (by omega) c_359)
                              have h7e : x7 = (wcG T.1 (raS T.1 r) (rbS T.1 r) 4).1 := by rw [hce] at h67; exact congrArg Prod.fst h67
                              have h6e : x6 = (wcG T.1 (raS T.1 r) (rbS T.1 r) 4).2 := by rw [hce] at h67; exact congrArg Prod.snd h67
                              refine j_iload hC dL_routes_413 rfl ?_
                              refine j_if_eq hC dL_routes_415 (tgt := 452) (by decide) (fun c_415 => ?_) (fun c_415 => ?_)
                              · exact absurd (h5e.symm.trans c_415) (by decide)
                              · skip
                                refine j_aload_n hC dL_routes_418 rfl rfl ?_
                                refine j_iload_n hC dL_routes_419 rfl rfl ?_
                                refine j_iconst hC (5) dL_routes_420 (by decide) ?_
                                refine j_callCW hC hW (c_X6_routeAt g a T _ x3 5 hW hw) mX6_routeAt k491 rfl rfl ⟨(Nat.le_of_ble_eq_true rfl), (Nat.le_of_ble_eq_true rfl)⟩ (Nat.le_of_ble_eq_true rfl) ⟨(Nat.le_of_ble_eq_true rfl), (Nat.le_of_ble_eq_true rfl)⟩ dL_routes_421 (fun r_421 b_421 hp_421 _ => ?_)
                                obtain ⟨q_421, hW2⟩ := hp_421
                                rw [ra_5 h3 hrr hr6] at q_421
                                subst q_421
                                have hW : CW g a T b_421 := by rw [oRouteAt_2] at hW2; exact hW2
                                dsimp only [jrepl, List.set, jstk]
                                refine j_iload hC dL_routes_424 rfl ?_
                                refine j_icmp_ne hC dL_routes_426 (tgt := 452) (by decide) (fun c_426 => ?_) (fun c_426 => ?_)
                                · exact absurd ((wc_end hwl hab hb2).2.trans h6e.symm) c_426
                                · skip
                                  refine j_aload_n hC dL_routes_429 rfl rfl ?_
                                  refine j_iload_n hC dL_routes_430 rfl rfl ?_
                                  refine j_bipush hC (6) dL_routes_431 (by decide) ?_
                                  refine j_callCW hC hW (c_X6_routeAt g a T _ x3 6 hW hw) mX6_routeAt k491 rfl rfl ⟨(Nat.le_of_ble_eq_true rfl), (Nat.le_of_ble_eq_true rfl)⟩ (Nat.le_of_ble_eq_true rfl) ⟨(Nat.le_of_ble_eq_true rfl), (Nat.le_of_ble_eq_true rfl)⟩ dL_routes_433 (fun r_433 b_433 hp_433 _ => ?_)
                                  obtain ⟨q_433, hW2⟩ := hp_433
                                  rw [ra_6 h3 hrr hr6] at q_433
                                  subst q_433
                                  have hW : CW g a T b_433 := by rw [oRouteAt_2] at hW2; exact hW2
                                  dsimp only [jrepl, List.set, jstk]
                                  refine j_iload hC dL_routes_436 rfl ?_
                                  refine j_icmp_ne hC dL_routes_438 (tgt := 452) (by decide) (fun c_438 => ?_) (fun c_438 => ?_)
                                  · exact absurd ((wc_end hwl hab hb2).1.trans h7e.symm) c_438
                                  · skip
                                    refine j_iload hC dL_routes_441 rfl ?_
                                    refine j_aload_n hC dL_routes_443 rfl rfl ?_
                                    refine j_iload_n hC dL_routes_444 rfl rfl ?_
                                    refine j_iconst hC (4) dL_routes_445 (by decide) ?_
                                    refine j_callCW hC hW (c_X6_routeAt g a T _ x3 4 hW hw) mX6_routeAt k491 rfl rfl ⟨(Nat.le_of_ble_eq_true rfl), (Nat.le_of_ble_eq_true rfl)⟩ (Nat.le_of_ble_eq_true rfl) ⟨(Nat.le_of_ble_eq_true rfl), (Nat.le_of_ble_eq_true rfl)⟩ dL_routes_446 (fun r_446 b_446 hp_446 _ => ?_)
                                    obtain ⟨q_446, hW2⟩ := hp_446
                                    rw [ra_4 h3 hrr hr6] at q_446
                                    subst q_446
                                    have hW : CW g a T b_446 := by rw [oRouteAt_2] at hW2; exact hW2
                                    dsimp only [jrepl, List.set, jstk]
                                    refine j_icmp_le hC dL_routes_449 (tgt := 454) (by decide) (fun c_449 => ?_) (fun c_449 => ?_)
                                    · skip
                                      refine j_iload_n hC dL_routes_454 rfl rfl ?_
                                      refine j_iload hC dL_routes_455 rfl ?_
                                      refine j_if_ne hC dL_routes_457 (tgt := 464) (by decide) (fun c_457 => ?_) (fun c_457 => ?_)
                                      · skip
                                        refine j_iconst hC (0) dL_routes_464 (by decide) ?_
                                        refine j_iadd hC dL_routes_465 ?_
                                        refine j_istore_n hC dL_routes_466 rfl rfl rfl rfl (fun v_466 e_466 => ?_)
                                        refine j_iinc hC (1) dL_routes_467 rfl rfl rfl rfl rfl (fun v_467 e_467 => ?_)
                                        refine j_goto hC dL_routes_470 (tgt := 14) (by decide) ?_
                                        have hall : v_9 = nI (2 ^ (bLs T.1).length - 1) := by rw [e_9]; exact full_k _ (by omega)
                                        have hf0 : 0 < 2 ^ (bLs T.1).length := Nat.two_pow_pos _
                                        have hfl : 2 ^ (bLs T.1).length - 1 < 2 ^ (bLs T.1).length := by omega
                                        refine j_pick [0, 1, 2, 3] ?_
                                        exact ih_14 (r + 1) _ _ _ (by omega) (by omega) (by rw [e_466, jit_s, ← h2, Int32.add_zero]; exact (if_neg (by rw [← hdk]; exact c_457)).symm) (jsucc e_467 h3) hW
                                      · skip
                                        refine j_iconst hC (1) dL_routes_460 (by decide) ?_
                                        refine j_goto hC dL_routes_461 (tgt := 465) (by decide) ?_
                                        refine j_iadd hC dL_routes_465 ?_
                                        refine j_istore_n hC dL_routes_466 rfl rfl rfl rfl (fun v_466 e_466 => ?_)
                                        refine j_iinc hC (1) dL_routes_467 rfl rfl rfl rfl rfl (fun v_467 e_467 => ?_)
                                        refine j_goto hC dL_routes_470 (tgt := 14) (by decide) ?_
                                        have hall : v_9 = nI (2 ^ (bLs T.1).length - 1) := by rw [e_9]; exact full_k _ (by omega)
                                        have hf0 : 0 < 2 ^ (bLs T.1).length := Nat.two_pow_pos _
                                        have hfl : 2 ^ (bLs T.1).length - 1 < 2 ^ (bLs T.1).length := by omega
                                        refine j_pick [0, 1, 2, 3] ?_
                                        exact ih_14 (r + 1) _ _ _ (by omega) (by omega) (by rw [e_466, jit_s, ← h2]; exact (if_pos (by rw [← hdk]; exact c_457)).symm) (jsucc e_467 h3) hW
                                    · exact absurd (by rw [h6e]; exact Int32.not_lt.mp (wc_le hwl hk hab hb2)) c_449
                            · skip
                              have hc4 : c < 4 := lt_of (n := 4) h8 (by omega) (by omega) c_359
                              refine j_aload_n hC dL_routes_362 rfl rfl ?_
                              refine j_iload_n hC dL_routes_363 rfl rfl ?_
                              refine j_aload_n hC dL_routes_364 rfl rfl ?_
                              refine j_iload hC dL_routes_365 rfl ?_
                              refine j_callCS hC hW (c_L_withoutCircuit g a T _ x8 hW hk hwl hw) mL_withoutCircuit k536 rfl ⟨(Nat.le_of_ble_eq_true rfl), (Nat.le_of_ble_eq_true rfl)⟩ (Nat.le_of_ble_eq_true rfl) ⟨(Nat.le_of_ble_eq_true rfl), (Nat.le_of_ble_eq_true rfl)⟩ dL_routes_367 (fun r_367 b_367 hp_367 _ => ?_)
                              obtain ⟨rfl, hW2⟩ := hp_367
                              have hW : CW g a T b_367 := hW2
                              dsimp only [jrepl, List.set, jstk]
                              refine j_callCW hC hW (c_X6_lasts g a T _ x3 (sWo T.1 x8) hW hw) mX6_lasts k531 rfl rfl ⟨(Nat.le_of_ble_eq_true rfl), (Nat.le_of_ble_eq_true rfl)⟩ (Nat.le_of_ble_eq_true rfl) ⟨(Nat.le_of_ble_eq_true rfl), (Nat.le_of_ble_eq_true rfl)⟩ dL_routes_370 (fun r_370 b_370 hp_370 _ => ?_)
                              obtain ⟨q_370, hW2⟩ := hp_370
                              rw [ov_lastsW h3 hrr hr6 hk] at q_370
                              subst q_370
                              have hW : CW g a T b_370 := by rw [oLasts_2] at hW2; exact hW2
                              dsimp only [jrepl, List.set, jstk]
                              refine j_istore hC dL_routes_373 rfl rfl rfl (fun v_373 e_373 => ?_)
                              have hits : v_373 = sWm T.1 (raS T.1 r) (rbS T.1 r) c := by rw [e_373, h8]
                              refine j_iload hC dL_routes_375 rfl ?_
                              refine j_iload hC dL_routes_377 rfl ?_
                              refine j_icmp_ge hC dL_routes_379 (tgt := 387) (by decide) (fun c_379 => ?_) (fun c_379 => ?_)
                              · skip
                                refine j_iload hC dL_routes_387 rfl ?_
                                refine j_istore hC dL_routes_389 rfl rfl rfl (fun v_389 e_389 => ?_)
                                refine j_iload hC dL_routes_391 rfl ?_
                                refine j_iload hC dL_routes_393 rfl ?_
                                refine j_icmp_ge hC dL_routes_395 (tgt := 403) (by decide) (fun c_395 => ?_) (fun c_395 => ?_)
                                · skip
                                  refine j_iload hC dL_routes_403 rfl ?_
                                  refine j_istore hC dL_routes_405 rfl rfl rfl (fun v_405 e_405 => ?_)
                                  refine j_iinc hC (1) dL_routes_407 rfl rfl rfl rfl rfl (fun v_407 e_407 => ?_)
                                  refine j_goto hC dL_routes_410 (tgt := 356) (by decide) ?_
                                  refine j_pick [0, 1, 2, 3, 4, 5, 6, 7, 8] ?_
                                  exact ih_356 (c + 1) _ _ _ _ (by omega) (by omega) (by rw [wcG_s, ← h67]; exact (congr (congrArg Prod.mk e_389) e_405).trans (if_neg (fun z => Int32.not_lt.mpr c_379 (by rw [hits]; exact z))).symm) (jsucc e_407 h8) hW
                                · exact absurd c_379 c_395
                              · skip
                                refine j_iload hC dL_routes_382 rfl ?_
                                refine j_goto hC dL_routes_384 (tgt := 389) (by decide) ?_
                                refine j_istore hC dL_routes_389 rfl rfl rfl (fun v_389 e_389 => ?_)
                                refine j_iload hC dL_routes_391 rfl ?_
                                refine j_iload hC dL_routes_393 rfl ?_
                                refine j_icmp_ge hC dL_routes_395 (tgt := 403) (by decide) (fun c_395 => ?_) (fun c_395 => ?_)
                                · exact absurd c_395 c_379
                                · skip
                                  refine j_iload hC dL_routes_398 rfl ?_
                                  refine j_goto hC dL_routes_400 (tgt := 405) (by decide) ?_
                                  refine j_istore hC dL_routes_405 rfl rfl rfl (fun v_405 e_405 => ?_)
                                  refine j_iinc hC (1) dL_routes_407 rfl rfl rfl rfl rfl (fun v_407 e_407 => ?_)
                                  refine j_goto hC dL_routes_410 (tgt := 356) (by decide) ?_
                                  refine j_pick [0, 1, 2, 3, 4, 5, 6, 7, 8] ?_
                                  exact ih_356 (c + 1) _ _ _ _ (by omega) (by omega) (by rw [wcG_s, ← h67]; exact (congr (congrArg Prod.mk (e_389.trans h8)) (e_405.trans hits)).trans (if_pos (show sWm T.1 (raS T.1 r) (rbS T.1 r) c < x6 by rw [← hits]; exact Int32.not_le.mp c_379)).symm) (jsucc e_407 h8) hW
                        refine j_pick [0, 1, 2, 3, 4, 5, 6, 7, 8] ?_
                        exact L_356 (5) 0 _ _ _ _ (by omega) (by omega) (by rw [e_351, e_348]; rfl) (e_354.trans nI_0.symm) hW
                      refine j_iload hC dL_routes_301 rfl ?_
                      refine j_if_gt hC dL_routes_303 (tgt := 320) (by decide) (fun c_303 => ?_) (fun c_303 => ?_)
                      · skip
                        refine j_iload hC dL_routes_320 rfl ?_
                        refine j_if_eq hC dL_routes_322 (tgt := 339) (by decide) (fun c_322 => ?_) (fun c_322 => ?_)
                        · skip
                          refine j_iconst hC (1) dL_routes_339 (by decide) ?_
                          refine j_goto hC dL_routes_340 (tgt := 344) (by decide) ?_
                          refine j_istore hC dL_routes_344 rfl rfl rfl (fun v_344 e_344 => ?_)
                          refine j_pick [0, 1, 2, 3, 4, 5] ?_
                          exact L_346 _ _ e_344 hW
                        · skip
                          refine j_aload_n hC dL_routes_325 rfl rfl ?_
                          refine j_iload_n hC dL_routes_326 rfl rfl ?_
                          refine j_iconst hC (4) dL_routes_327 (by decide) ?_
                          refine j_callCW hC hW (c_X6_routeAt g a T _ x3 4 hW hw) mX6_routeAt k491 rfl rfl ⟨(Nat.le_of_ble_eq_true rfl), (Nat.le_of_ble_eq_true rfl)⟩ (Nat.le_of_ble_eq_true rfl) ⟨(Nat.le_of_ble_eq_true rfl), (Nat.le_of_ble_eq_true rfl)⟩ dL_routes_328 (fun r_328 b_328 hp_328 _ => ?_)
                          obtain ⟨q_328, hW2⟩ := hp_328
                          rw [ra_4 h3 hrr hr6] at q_328
                          subst q_328
                          have hW : CW g a T b_328 := by rw [oRouteAt_2] at hW2; exact hW2
                          dsimp only [jrepl, List.set, jstk]
                          refine j_aload_n hC dL_routes_331 rfl rfl ?_
                          refine j_iconst hC (4) dL_routes_332 (by decide) ?_
                          refine j_callCW hC hW (c_X6_told g a T _ 4 hW hw) mX6_told k405 rfl rfl ⟨(Nat.le_of_ble_eq_true rfl), (Nat.le_of_ble_eq_true rfl)⟩ (Nat.le_of_ble_eq_true rfl) ⟨(Nat.le_of_ble_eq_true rfl), (Nat.le_of_ble_eq_true rfl)⟩ dL_routes_333 (fun r_333 b_333 hp_333 _ => ?_)
                          obtain ⟨q_333, hW2⟩ := hp_333
                          rw [tv_4] at q_333
                          subst q_333
                          have hW : CW g a T b_333 := by exact hW2
                          dsimp only [jrepl, List.set, jstk]
                          refine j_icmp_ge hC dL_routes_336 (tgt := 343) (by decide) (fun c_336 => ?_) (fun c_336 => ?_)
                          · exact absurd (hdz.mpr c_336) c_322
                          · skip
                            refine j_iconst hC (1) dL_routes_339 (by decide) ?_
                            refine j_goto hC dL_routes_340 (tgt := 344) (by decide) ?_
                            refine j_istore hC dL_routes_344 rfl rfl rfl (fun v_344 e_344 => ?_)
                            refine j_pick [0, 1, 2, 3, 4, 5] ?_
                            exact L_346 _ _ e_344 hW
                      · skip
                        refine j_aload_n hC dL_routes_306 rfl rfl ?_
                        refine j_iload_n hC dL_routes_307 rfl rfl ?_
                        refine j_iconst hC (4) dL_routes_308 (by decide) ?_
                        refine j_callCW hC hW (c_X6_routeAt g a T _ x3 4 hW hw) mX6_routeAt k491 rfl rfl ⟨(Nat.le_of_ble_eq_true rfl), (Nat.le_of_ble_eq_true rfl)⟩ (Nat.le_of_ble_eq_true rfl) ⟨(Nat.le_of_ble_eq_true rfl), (Nat.le_of_ble_eq_true rfl)⟩ dL_routes_309 (fun r_309 b_309 hp_309 _ => ?_)
                        obtain ⟨q_309, hW2⟩ := hp_309
                        rw [ra_4 h3 hrr hr6] at q_309
                        subst q_309
                        have hW : CW g a T b_309 := by rw [oRouteAt_2] at hW2; exact hW2
                        dsimp only [jrepl, List.set, jstk]
                        refine j_aload_n hC dL_routes_312 rfl rfl ?_
                        refine j_iconst hC (4) dL_routes_313 (by decide) ?_
                        refine j_callCW hC hW (c_X6_told g a T _ 4 hW hw) mX6_told k405 rfl rfl ⟨(Nat.le_of_ble_eq_true rfl), (Nat.le_of_ble_eq_true rfl)⟩ (Nat.le_of_ble_eq_true rfl) ⟨(Nat.le_of_ble_eq_true rfl), (Nat.le_of_ble_eq_true rfl)⟩ dL_routes_314 (fun r_314 b_314 hp_314 _ => ?_)
                        obtain ⟨q_314, hW2⟩ := hp_314
                        rw [tv_4] at q_314
                        subst q_314
                        have hW : CW g a T b_314 := by exact hW2
                        dsimp only [jrepl, List.set, jstk]
                        refine j_icmp_lt hC dL_routes_317 (tgt := 343) (by decide) (fun c_317 => ?_) (fun c_317 => ?_)
                        · exact absurd c_317 (Int32.not_lt.mpr (hdz.mp (hd0 c_303)))
                        · skip
                          refine j_iload hC dL_routes_320 rfl ?_
                          refine j_if_eq hC dL_routes_322 (tgt := 339) (by decide) (fun c_322 => ?_) (fun c_322 => ?_)
                          · skip
                            refine j_iconst hC (1) dL_routes_339 (by decide) ?_
                            refine j_goto hC dL_routes_340 (tgt := 344) (by decide) ?_
                            refine j_istore hC dL_routes_344 rfl rfl rfl (fun v_344 e_344 => ?_)
                            refine j_pick [0, 1, 2, 3, 4, 5] ?_
                            exact L_346 _ _ e_344 hW
                          · skip
                            refine j_aload_n hC dL_routes_325 rfl rfl ?_
                            refine j_iload_n hC dL_routes_326 rfl rfl ?_
                            refine j_iconst hC (4) dL_routes_327 (by decide) ?_
                            refine j_callCW hC hW (c_X6_routeAt g a T _ x3 4 hW hw) mX6_routeAt k491 rfl rfl ⟨(Nat.le_of_ble_eq_true rfl), (Nat.le_of_ble_eq_true rfl)⟩ (Nat.le_of_ble_eq_true rfl) ⟨(Nat.le_of_ble_eq_true rfl), (Nat.le_of_ble_eq_true rfl)⟩ dL_routes_328 (fun r_328 b_328 hp_328 _ => ?_)
                            obtain ⟨q_328, hW2⟩ := hp_328
                            rw [ra_4 h3 hrr hr6] at q_328
                            subst q_328
                            have hW : CW g a T b_328 := by rw [oRouteAt_2] at hW2; exact hW2
                            dsimp only [jrepl, List.set, jstk]
                            refine j_aload_n hC dL_routes_331 rfl rfl ?_
                            refine j_iconst hC (4) dL_routes_332 (by decide) ?_
                            refine j_callCW hC hW (c_X6_told g a T _ 4 hW hw) mX6_told k405 rfl rfl ⟨(Nat.le_of_ble_eq_true rfl), (Nat.le_of_ble_eq_true rfl)⟩ (Nat.le_of_ble_eq_true rfl) ⟨(Nat.le_of_ble_eq_true rfl), (Nat.le_of_ble_eq_true rfl)⟩ dL_routes_333 (fun r_333 b_333 hp_333 _ => ?_)
                            obtain ⟨q_333, hW2⟩ := hp_333
                            rw [tv_4] at q_333
                            subst q_333
                            have hW : CW g a T b_333 := by exact hW2
                            dsimp only [jrepl, List.set, jstk]
                            refine j_icmp_ge hC dL_routes_336 (tgt := 343) (by decide) (fun c_336 => ?_) (fun c_336 => ?_)
                            · exact absurd (hdz.mpr c_336) c_322
                            · skip
                              refine j_iconst hC (1) dL_routes_339 (by decide) ?_
                              refine j_goto hC dL_routes_340 (tgt := 344) (by decide) ?_
                              refine j_istore hC dL_routes_344 rfl rfl rfl (fun v_344 e_344 => ?_)
                              refine j_pick [0, 1, 2, 3, 4, 5] ?_
                              exact L_346 _ _ e_344 hW
              refine j_aload_n hC dL_routes_235 rfl rfl ?_
              refine j_iload_n hC dL_routes_236 rfl rfl ?_
              refine j_iconst hC (2) dL_routes_237 (by decide) ?_
              refine j_callCW hC hW (c_X6_routeAt g a T _ x3 2 hW hw) mX6_routeAt k491 rfl rfl ⟨(Nat.le_of_ble_eq_true rfl), (Nat.le_of_ble_eq_true rfl)⟩ (Nat.le_of_ble_eq_true rfl) ⟨(Nat.le_of_ble_eq_true rfl), (Nat.le_of_ble_eq_true rfl)⟩ dL_routes_238 (fun r_238 b_238 hp_238 _ => ?_)
              obtain ⟨q_238, hW2⟩ := hp_238
              rw [ra_2 h3 hrr hr6] at q_238
              subst q_238
              have hW : CW g a T b_238 := by rw [oRouteAt_2] at hW2; exact hW2
              dsimp only [jrepl, List.set, jstk]
              refine j_iload hC dL_routes_241 rfl ?_
              refine j_icmp_ne hC dL_routes_243 (tgt := 293) (by decide) (fun c_243 => ?_) (fun c_243 => ?_)
              · exact absurd hdk.symm c_243
              · skip
                refine j_aload_n hC dL_routes_246 rfl rfl ?_
                refine j_iload_n hC dL_routes_247 rfl rfl ?_
                refine j_iconst hC (3) dL_routes_248 (by decide) ?_
                refine j_callCW hC hW (c_X6_routeAt g a T _ x3 3 hW hw) mX6_routeAt k491 rfl rfl ⟨(Nat.le_of_ble_eq_true rfl), (Nat.le_of_ble_eq_true rfl)⟩ (Nat.le_of_ble_eq_true rfl) ⟨(Nat.le_of_ble_eq_true rfl), (Nat.le_of_ble_eq_true rfl)⟩ dL_routes_249 (fun r_249 b_249 hp_249 _ => ?_)
                obtain ⟨q_249, hW2⟩ := hp_249
                rw [ra_3 h3 hrr hr6] at q_249
                subst q_249
                have hW : CW g a T b_249 := by rw [oRouteAt_2] at hW2; exact hW2
                dsimp only [jrepl, List.set, jstk]
                refine j_iload hC dL_routes_252 rfl ?_
                refine j_if_ne hC dL_routes_254 (tgt := 261) (by decide) (fun c_254 => ?_) (fun c_254 => ?_)
                · skip
                  refine j_iconst hC (0) dL_routes_261 (by decide) ?_
                  refine j_icmp_ne hC dL_routes_262 (tgt := 293) (by decide) (fun c_262 => ?_) (fun c_262 => ?_)
                  · exact absurd (if_neg (by rw [← hdk]; exact c_254)) c_262
                  · skip
                    refine j_pick [0, 1, 2, 3, 4] ?_
                    exact L_265 _ hW
                · skip
                  refine j_iconst hC (1) dL_routes_257 (by decide) ?_
                  refine j_goto hC dL_routes_258 (tgt := 262) (by decide) ?_
                  refine j_icmp_ne hC dL_routes_262 (tgt := 293) (by decide) (fun c_262 => ?_) (fun c_262 => ?_)
                  · exact absurd (if_pos (by rw [← hdk]; exact c_254)) c_262
                  · skip
                    refine j_pick [0, 1, 2, 3, 4] ?_
                    exact L_265 _ hW
            · skip
              have hq1 : raS T.1 r + t ≤ rbS T.1 r := by rw [h5, nI_ltI (by omega) (by omega)] at c_42; omega
              have hq200 : raS T.1 r + t ≤ 200 := by omega
              refine j_iconst hC (0) dL_routes_45 (by decide) ?_
              refine j_istore hC dL_routes_46 rfl rfl rfl (fun v_46 e_46 => ?_)
              refine j_iconst hC (0) dL_routes_48 (by decide) ?_
              refine j_istore hC dL_routes_49 rfl rfl rfl (fun v_49 e_49 => ?_)
              refine j_iconst hC (0) dL_routes_51 (by decide) ?_
              refine j_istore hC dL_routes_52 rfl rfl rfl (fun v_52 e_52 => ?_)
              have L_54 : ∀ (fu : Nat) (i : Nat) (x6 x7 x8 : Int32) (bs : List va_W) (hfu : (bLs T.1).length + 1 ≤ i + fu) (hi : i ≤ (bLs T.1).length) (h6 : x6 = jiter (cReach (bNeed T.1) (lsX (bLs T.1)) x5 0) 0 i) (h7 : x7 = jiter (cReach (bNeed T.1) (lsX (bLs T.1)) x5 1) 0 i) (h8 : x8 = nI i) (hW : CW g a T bs), J g (jRm 7 167 0 0) E 11 54 [(0, .ref a), (1, .int v_9), (2, .int x2), (3, .int x3), (4, .int x4), (5, .int x5), (6, .int x6), (7, .int x7), (8, .int x8)] [] bs (0) (0) := by
                intro fu
                induction fu with
                | zero => intro i x6 x7 x8 bs hfu hi h6 h7 h8 hW; exact absurd hfu (by omega)
                | succ fu ih_54 =>
                  intro i x6 x7 x8 bs hfu hi h6 h7 h8 hW
                  refine j_iload hC dL_routes_54 rfl ?_
                  refine j_aload_n hC dL_routes_56 rfl rfl ?_
                  refine j_iconst hC (0) dL_routes_57 (by decide) ?_
                  refine j_callCW hC hW (c_X6_told g a T _ 0 hW hw) mX6_told k405 rfl rfl ⟨(Nat.le_of_ble_eq_true rfl), (Nat.le_of_ble_eq_true rfl)⟩ (Nat.le_of_ble_eq_true rfl) ⟨(Nat.le_of_ble_eq_true rfl), (Nat.le_of_ble_eq_true rfl)⟩ dL_routes_58 (fun r_58 b_58 hp_58 _ => ?_)
                  obtain ⟨q_58, hW2⟩ := hp_58
                  rw [tv_0] at q_58
                  subst q_58
                  have hW : CW g a T b_58 := by exact hW2
                  dsimp only [jrepl, List.set, jstk]
                  refine j_icmp_ge hC dL_routes_61 (tgt := 188) (by decide) (fun c_61 => ?_) (fun c_61 => ?_)
                  · skip
                    have hie : i = (bLs T.1).length := Nat.le_antisymm hi (ge_of h8 (by omega) (by omega) c_61)
                    refine j_aload_n hC dL_routes_188 rfl rfl ?_
                    refine j_iload hC dL_routes_189 rfl ?_
                    refine j_iconst hC (0) dL_routes_191 (by decide) ?_
                    refine j_callCW hC hW (c_X6_reaching g a T _ x5 0 hW) mX6_reaching k515 rfl rfl ⟨(Nat.le_of_ble_eq_true rfl), (Nat.le_of_ble_eq_true rfl)⟩ (Nat.le_of_ble_eq_true rfl) ⟨(Nat.le_of_ble_eq_true rfl), (Nat.le_of_ble_eq_true rfl)⟩ dL_routes_192 (fun r_192 b_192 hp_192 _ => ?_)
                    obtain ⟨q_192, hW2⟩ := hp_192
                    rw [ov_reach h5 hq200] at q_192
                    subst q_192
                    have hW : CW g a T b_192 := by rw [oReaching_2] at hW2; exact hW2
                    dsimp only [jrepl, List.set, jstk]
                    refine j_iload hC dL_routes_195 rfl ?_
                    refine j_icmp_ne hC dL_routes_197 (tgt := 212) (by decide) (fun c_197 => ?_) (fun c_197 => ?_)
                    · exact absurd (by rw [h6, hie]; rfl) c_197
                    · skip
                      refine j_aload_n hC dL_routes_200 rfl rfl ?_
                      refine j_iload hC dL_routes_201 rfl ?_
                      refine j_iconst hC (1) dL_routes_203 (by decide) ?_
                      refine j_callCW hC hW (c_X6_reaching g a T _ x5 1 hW) mX6_reaching k515 rfl rfl ⟨(Nat.le_of_ble_eq_true rfl), (Nat.le_of_ble_eq_true rfl)⟩ (Nat.le_of_ble_eq_true rfl) ⟨(Nat.le_of_ble_eq_true rfl), (Nat.le_of_ble_eq_true rfl)⟩ dL_routes_204 (fun r_204 b_204 hp_204 _ => ?_)
                      obtain ⟨q_204, hW2⟩ := hp_204
                      rw [ov_reach h5 hq200] at q_204
                      subst q_204
                      have hW : CW g a T b_204 := by rw [oReaching_2] at hW2; exact hW2
                      dsimp only [jrepl, List.set, jstk]
                      refine j_iload hC dL_routes_207 rfl ?_
                      refine j_icmp_eq hC dL_routes_209 (tgt := 214) (by decide) (fun c_209 => ?_) (fun c_209 => ?_)
                      · skip
                        have hx7 : x7 = sReach T.1 (nI (raS T.1 r + t)) 1 := by rw [h7, hie, h5]; rfl
                        refine j_iload hC dL_routes_214 rfl ?_
                        refine j_iload hC dL_routes_216 rfl ?_
                        refine j_if_ne hC dL_routes_218 (tgt := 225) (by decide) (fun c_218 => ?_) (fun c_218 => ?_)
                        · skip
                          refine j_iconst hC (0) dL_routes_225 (by decide) ?_
                          refine j_iadd hC dL_routes_226 ?_
                          refine j_istore hC dL_routes_227 rfl rfl rfl (fun v_227 e_227 => ?_)
                          refine j_iinc hC (1) dL_routes_229 rfl rfl rfl rfl rfl (fun v_229 e_229 => ?_)
                          refine j_goto hC dL_routes_232 (tgt := 34) (by decide) ?_
                          refine j_pick [0, 1, 2, 3, 4, 5] ?_
                          exact ih_34 (t + 1) _ _ _ (by omega) (by omega) (by rw [e_227, drk_s, ← h4, Int32.add_zero]; exact (if_neg (by rw [← hx7]; exact c_218)).symm) (jsucc e_229 h5) hW
                        · skip
                          refine j_iconst hC (1) dL_routes_221 (by decide) ?_
                          refine j_goto hC dL_routes_222 (tgt := 226) (by decide) ?_
                          refine j_iadd hC dL_routes_226 ?_
                          refine j_istore hC dL_routes_227 rfl rfl rfl (fun v_227 e_227 => ?_)
                          refine j_iinc hC (1) dL_routes_229 rfl rfl rfl rfl rfl (fun v_229 e_229 => ?_)
                          refine j_goto hC dL_routes_232 (tgt := 34) (by decide) ?_
                          refine j_pick [0, 1, 2, 3, 4, 5] ?_
                          exact ih_34 (t + 1) _ _ _ (by omega) (by omega) (by rw [e_227, drk_s, ← h4]; exact (if_pos (by rw [← hx7]; exact c_218)).symm) (jsucc e_229 h5) hW
                      · exact absurd (by rw [h7, hie]; rfl) c_209
                  · skip
                    have hik : i < (bLs T.1).length := lt_of h8 (by omega) (by omega) c_61
                    have hL := WS_L hwl hik
                    have L_101 : ∀ (x9 : Int32) (bs : List va_W) (h9 : x9 = jabs (x5 - lI T.1 i 0)) (hW : CW g a T bs), J g (jRm 7 167 0 0) E 11 101 [(0, .ref a), (1, .int v_9), (2, .int x2), (3, .int x3), (4, .int x4), (5, .int x5), (6, .int x6), (7, .int x7), (8, .int x8), (9, .int x9)] [] bs (0) (0) := by
                      intro x9 bs h9 hW
                      have L_135 : ∀ (xw : Int32) (bs : List va_W) (hxw : xw = widthOf (lI T.1 i 3)) (hW : CW g a T bs), J g (jRm 7 167 0 0) E 11 135 [(0, .ref a), (1, .int v_9), (2, .int x2), (3, .int x3), (4, .int x4), (5, .int x5), (6, .int x6), (7, .int x7), (8, .int x8), (9, .int x9)] [.int xw, .int x9] bs (0) (0) := by
                        intro xw bs hxw hW
                        refine j_icmp_gt hC dL_routes_135 (tgt := 142) (by decide) (fun c_135 => ?_) (fun c_135 => ?_)
                        · skip
                          refine j_iconst hC (0) dL_routes_142 (by decide) ?_
                          refine j_istore hC dL_routes_143 rfl rfl rfl (fun v_143 e_143 => ?_)
                          refine j_iload hC dL_routes_145 rfl ?_
                          refine j_iload hC dL_routes_147 rfl ?_
                          refine j_if_eq hC dL_routes_149 (tgt := 156) (by decide) (fun c_149 => ?_) (fun c_149 => ?_)
                          · skip
                            refine j_iconst hC (0) dL_routes_156 (by decide) ?_
                            refine j_iadd hC dL_routes_157 ?_
                            refine j_istore hC dL_routes_158 rfl rfl rfl (fun v_158 e_158 => ?_)
                            refine j_iload hC dL_routes_160 rfl ?_
                            refine j_iload hC dL_routes_162 rfl ?_
                            refine j_if_eq hC dL_routes_164 (tgt := 178) (by decide) (fun c_164 => ?_) (fun c_164 => ?_)
                            · skip
                              refine j_iconst hC (0) dL_routes_178 (by decide) ?_
                              refine j_iadd hC dL_routes_179 ?_
                              refine j_istore hC dL_routes_180 rfl rfl rfl (fun v_180 e_180 => ?_)
                              refine j_iinc hC (1) dL_routes_182 rfl rfl rfl rfl rfl (fun v_182 e_182 => ?_)
                              refine j_goto hC dL_routes_185 (tgt := 54) (by decide) ?_
                              refine j_pick [0, 1, 2, 3, 4, 5, 6, 7, 8] ?_
                              exact ih_54 (i + 1) _ _ _ _ (by omega) (by omega) (by rw [e_158, jit_s, ← h6, Int32.add_zero]; exact (cr_2 (fun z => Int32.not_le.mpr c_135 (by rw [h9, hxw]; exact z))).symm) (by rw [e_180, jit_s, ← h7, Int32.add_zero]; exact (cr_2 (fun z => Int32.not_le.mpr c_135 (by rw [h9, hxw]; exact z))).symm) (jsucc e_182 h8) hW
                            · exact absurd c_164 (by rw [e_143]; decide)
                          · exact absurd c_149 (by rw [e_143]; decide)
                        · skip
                          refine j_iconst hC (1) dL_routes_138 (by decide) ?_
                          refine j_goto hC dL_routes_139 (tgt := 143) (by decide) ?_
                          refine j_istore hC dL_routes_143 rfl rfl rfl (fun v_143 e_143 => ?_)
                          refine j_iload hC dL_routes_145 rfl ?_
                          refine j_iload hC dL_routes_147 rfl ?_
                          refine j_if_eq hC dL_routes_149 (tgt := 156) (by decide) (fun c_149 => ?_) (fun c_149 => ?_)
                          · exact absurd c_149 (by rw [e_143]; decide)
                          · skip
                            refine j_iconst hC (1) dL_routes_152 (by decide) ?_
                            refine j_goto hC dL_routes_153 (tgt := 157) (by decide) ?_
                            refine j_iadd hC dL_routes_157 ?_
                            refine j_istore hC dL_routes_158 rfl rfl rfl (fun v_158 e_158 => ?_)
                            refine j_iload hC dL_routes_160 rfl ?_
                            refine j_iload hC dL_routes_162 rfl ?_
                            refine j_if_eq hC dL_routes_164 (tgt := 178) (by decide) (fun c_164 => ?_) (fun c_164 => ?_)
                            · exact absurd c_164 (by rw [e_143]; decide)
                            · skip
                              refine j_aload_n hC dL_routes_167 rfl rfl ?_
                              refine j_iload hC dL_routes_168 rfl ?_
                              refine j_bipush hC (10) dL_routes_170 (by decide) ?_
                              refine j_callCW hC hW (c_X6_light g a T _ x8 10 hW hw) mX6_light k426 rfl rfl ⟨(Nat.le_of_ble_eq_true rfl), (Nat.le_of_ble_eq_true rfl)⟩ (Nat.le_of_ble_eq_true rfl) ⟨(Nat.le_of_ble_eq_true rfl), (Nat.le_of_ble_eq_true rfl)⟩ dL_routes_172 (fun r_172 b_172 hp_172 _ => ?_)
                              obtain ⟨q_172, hW2⟩ := hp_172
                              rw [ol_10 h8 hik hk] at q_172
                              subst q_172
                              have hW : CW g a T b_172 := by rw [oLight_2] at hW2; exact hW2
                              dsimp only [jrepl, List.set, jstk]
                              refine j_goto hC dL_routes_175 (tgt := 179) (by decide) ?_
                              refine j_iadd hC dL_routes_179 ?_
                              refine j_istore hC dL_routes_180 rfl rfl rfl (fun v_180 e_180 => ?_)
                              refine j_iinc hC (1) dL_routes_182 rfl rfl rfl rfl rfl (fun v_182 e_182 => ?_)
                              refine j_goto hC dL_routes_185 (tgt := 54) (by decide) ?_
                              refine j_pick [0, 1, 2, 3, 4, 5, 6, 7, 8] ?_
                              exact ih_54 (i + 1) _ _ _ _ (by omega) (by omega) (by rw [e_158, jit_s, ← h6]; exact (cr_1 (show jabs (x5 - lI T.1 i 0) ≤ widthOf (lI T.1 i 3) by rw [← h9, ← hxw]; exact Int32.not_lt.mp c_135) rfl).symm) (by rw [e_180, jit_s, ← h7]; exact (cr_3 (show jabs (x5 - lI T.1 i 0) ≤ widthOf (lI T.1 i 3) by rw [← h9, ← hxw]; exact Int32.not_lt.mp c_135)).symm) (jsucc e_182 h8) hW
                      refine j_iload hC dL_routes_101 rfl ?_
                      refine j_aload_n hC dL_routes_103 rfl rfl ?_
                      refine j_iload hC dL_routes_104 rfl ?_
                      refine j_iconst hC (3) dL_routes_106 (by decide) ?_
                      refine j_callCW hC hW (c_X6_light g a T _ x8 3 hW hw) mX6_light k426 rfl rfl ⟨(Nat.le_of_ble_eq_true rfl), (Nat.le_of_ble_eq_true rfl)⟩ (Nat.le_of_ble_eq_true rfl) ⟨(Nat.le_of_ble_eq_true rfl), (Nat.le_of_ble_eq_true rfl)⟩ dL_routes_107 (fun r_107 b_107 hp_107 _ => ?_)
                      obtain ⟨q_107, hW2⟩ := hp_107
                      rw [ol_3 h8 hik hk] at q_107
                      subst q_107
                      have hW : CW g a T b_107 := by rw [oLight_2] at hW2; exact hW2
                      dsimp only [jrepl, List.set, jstk]
                      refine j_if_ne hC dL_routes_110 (tgt := 117) (by decide) (fun c_110 => ?_) (fun c_110 => ?_)
                      · skip
                        refine j_aload_n hC dL_routes_117 rfl rfl ?_
                        refine j_iload hC dL_routes_118 rfl ?_
                        refine j_iconst hC (3) dL_routes_120 (by decide) ?_
                        refine j_callCW hC hW (c_X6_light g a T _ x8 3 hW hw) mX6_light k426 rfl rfl ⟨(Nat.le_of_ble_eq_true rfl), (Nat.le_of_ble_eq_true rfl)⟩ (Nat.le_of_ble_eq_true rfl) ⟨(Nat.le_of_ble_eq_true rfl), (Nat.le_of_ble_eq_true rfl)⟩ dL_routes_121 (fun r_121 b_121 hp_121 _ => ?_)
                        obtain ⟨q_121, hW2⟩ := hp_121
                        rw [ol_3 h8 hik hk] at q_121
                        subst q_121
                        have hW : CW g a T b_121 := by rw [oLight_2] at hW2; exact hW2
                        dsimp only [jrepl, List.set, jstk]
                        refine j_iconst hC (1) dL_routes_124 (by decide) ?_
                        refine j_icmp_ne hC dL_routes_125 (tgt := 133) (by decide) (fun c_125 => ?_) (fun c_125 => ?_)
                        · skip
                          refine j_bipush hC (9) dL_routes_133 (by decide) ?_
                          refine j_pick [0, 1, 2, 3, 4, 5, 6, 7, 8, 9] ?_
                          exact L_135 _ _ ((if_neg c_110).trans (if_neg c_125)).symm hW
                        · skip
                          refine j_bipush hC (6) dL_routes_128 (by decide) ?_
                          refine j_goto hC dL_routes_130 (tgt := 135) (by decide) ?_
                          refine j_pick [0, 1, 2, 3, 4, 5, 6, 7, 8, 9] ?_
                          exact L_135 _ _ ((if_neg c_110).trans (if_pos c_125)).symm hW
                      · skip
                        refine j_iconst hC (4) dL_routes_113 (by decide) ?_
                        refine j_goto hC dL_routes_114 (tgt := 135) (by decide) ?_
                        refine j_pick [0, 1, 2, 3, 4, 5, 6, 7, 8, 9] ?_
                        exact L_135 _ _ (if_pos c_110).symm hW
                    refine j_aload_n hC dL_routes_64 rfl rfl ?_
                    refine j_iload hC dL_routes_65 rfl ?_
                    refine j_iconst hC (0) dL_routes_67 (by decide) ?_
                    refine j_callCW hC hW (c_X6_light g a T _ x8 0 hW hw) mX6_light k426 rfl rfl ⟨(Nat.le_of_ble_eq_true rfl), (Nat.le_of_ble_eq_true rfl)⟩ (Nat.le_of_ble_eq_true rfl) ⟨(Nat.le_of_ble_eq_true rfl), (Nat.le_of_ble_eq_true rfl)⟩ dL_routes_68 (fun r_68 b_68 hp_68 _ => ?_)
                    obtain ⟨q_68, hW2⟩ := hp_68
                    rw [ol_0 h8 hik hk] at q_68
                    subst q_68
                    have hW : CW g a T b_68 := by rw [oLight_2] at hW2; exact hW2
                    dsimp only [jrepl, List.set, jstk]
                    refine j_iload hC dL_routes_71 rfl ?_
                    refine j_icmp_le hC dL_routes_73 (tgt := 89) (by decide) (fun c_73 => ?_) (fun c_73 => ?_)
                    · skip
                      refine j_iload hC dL_routes_89 rfl ?_
                      refine j_aload_n hC dL_routes_91 rfl rfl ?_
                      refine j_iload hC dL_routes_92 rfl ?_
                      refine j_iconst hC (0) dL_routes_94 (by decide) ?_
                      refine j_callCW hC hW (c_X6_light g a T _ x8 0 hW hw) mX6_light k426 rfl rfl ⟨(Nat.le_of_ble_eq_true rfl), (Nat.le_of_ble_eq_true rfl)⟩ (Nat.le_of_ble_eq_true rfl) ⟨(Nat.le_of_ble_eq_true rfl), (Nat.le_of_ble_eq_true rfl)⟩ dL_routes_95 (fun r_95 b_95 hp_95 _ => ?_)
                      obtain ⟨q_95, hW2⟩ := hp_95
                      rw [ol_0 h8 hik hk] at q_95
                      subst q_95
                      have hW : CW g a T b_95 := by rw [oLight_2] at hW2; exact hW2
                      dsimp only [jrepl, List.set, jstk]
                      refine j_isub hC dL_routes_98 ?_
                      refine j_istore hC dL_routes_99 rfl rfl rfl (fun v_99 e_99 => ?_)
                      refine j_pick [0, 1, 2, 3, 4, 5, 6, 7, 8, 9] ?_
                      exact L_101 _ _ (e_99.trans (away_b hL h5 hq200 c_73)) hW
                    · skip
                      refine j_aload_n hC dL_routes_76 rfl rfl ?_
                      refine j_iload hC dL_routes_77 rfl ?_
                      refine j_iconst hC (0) dL_routes_79 (by decide) ?_
                      refine j_callCW hC hW (c_X6_light g a T _ x8 0 hW hw) mX6_light k426 rfl rfl ⟨(Nat.le_of_ble_eq_true rfl), (Nat.le_of_ble_eq_true rfl)⟩ (Nat.le_of_ble_eq_true rfl) ⟨(Nat.le_of_ble_eq_true rfl), (Nat.le_of_ble_eq_true rfl)⟩ dL_routes_80 (fun r_80 b_80 hp_80 _ => ?_)
                      obtain ⟨q_80, hW2⟩ := hp_80
                      rw [ol_0 h8 hik hk] at q_80
                      subst q_80
                      have hW : CW g a T b_80 := by rw [oLight_2] at hW2; exact hW2
                      dsimp only [jrepl, List.set, jstk]
                      refine j_iload hC dL_routes_83 rfl ?_
                      refine j_isub hC dL_routes_85 ?_
                      refine j_goto hC dL_routes_86 (tgt := 99) (by decide) ?_
                      refine j_istore hC dL_routes_99 rfl rfl rfl (fun v_99 e_99 => ?_)
                      refine j_pick [0, 1, 2, 3, 4, 5, 6, 7, 8, 9] ?_
                      exact L_101 _ _ (e_99.trans (away_a hL h5 hq200 c_73)) hW
              refine j_pick [0, 1, 2, 3, 4, 5, 6, 7, 8] ?_
              exact L_54 ((bLs T.1).length + 1) 0 _ _ _ _ (by omega) (by omega) e_46 e_49 (e_52.trans nI_0.symm) hW
        refine j_pick [0, 1, 2, 3, 4, 5] ?_
        exact L_34 ((rbS T.1 r) + 2) 0 _ _ _ (by omega) (by omega) e_24 e_32 hW
  refine j_pick [0, 1, 2, 3] ?_
  exact L_14 ((bRs T.1).length + 1) 0 _ _ _ (by omega) (by omega) e_11 (e_13.trans nI_0.symm) hW
