/-! swaps of all, hours, tests -/
def sMap (S : BS) (f : Nat → jF → jF) (h pa fa : Int32) : BS := ((bLs S).mapIdx f, bRs S, bNeed S, h, bSt S, pa, fa)
theorem isB_map {d : Nat → Nat} {I I1 : jF} {A : Nat → jF} {X Y : List (Nat × jF)} {S : BS} {f : Nat → jF → jF} {hh pa fa : Int32} (h : isB (d, I, A, X) S) (hf : ∀ q, q ≠ 6 → q ≠ 8 → q ≠ 9 → I1 q = I q) (e6 : I1 6 = hh) (e8 : I1 8 = pa) (e9 : I1 9 = fa) (hY : Y.length = X.length) (hl : ∀ j, j < (bLs S).length → jL Y j = f j (jL X j)) (h4 : ∀ j L, f j L 4 = L 4) : isB (d, I1, A, Y) (sMap S f hh pa fa) := by
  obtain ⟨⟨⟨g1, g2, g3⟩, g4, g5, g6⟩, h2, h3, h4', h5, h6, h7, h8⟩ := h
  have hk : (bLs (sMap S f hh pa fa)).length = (bLs S).length := by show ((bLs S).mapIdx f).length = _; rw [List.length_mapIdx]
  have g2 : (bLs S).length ≤ X.length := g2
  have g3 : X.length ≤ 10 := g3
  refine ⟨⟨⟨?_, ?_, ?_⟩, (hf 4 (by decide) (by decide) (by decide)).trans g4, g5, ?_⟩, ?_, h3, (hf 5 (by decide) (by decide) (by decide)).trans h4', e6, h6, e8, e9⟩
  · rw [hk]; exact (hf 1 (by decide) (by decide) (by decide)).trans g1
  · show _ ≤ Y.length
    rw [hk, hY]; exact g2
  · show Y.length ≤ 10
    rw [hY]; exact g3
  · intro j hj
    rw [hk] at hj
    show jL Y j 4 = 0 ∨ jL Y j 4 = 1
    rw [hl j hj, h4]
    exact g6 j hj
  · intro j hj
    rw [hk] at hj
    show ((bLs S).mapIdx f)[j]? = some (jL Y j)
    rw [hl j hj, List.getElem?_mapIdx, h2 j hj]
    rfl
/-! the stock by itself -/
def stkO (st : Int32 × Int32 × Int32) (x : Int32) : Int32 := if okLamp x then stk st x else 0
def stDec (st : Int32 × Int32 × Int32) (x : Int32) : Int32 × Int32 × Int32 := if okLamp x then stTo st x (stk st x + -1) else st
def stA (A B : Nat → jF) (st : Int32 × Int32 × Int32) : Prop := A 0 = B 0 ∧ A 1 = B 1 ∧ (A 2 0, A 2 1, A 2 2) = st
theorem stA_of {A B : Nat → jF} {st : Int32 × Int32 × Int32} {x : Int32} (h : stA A B st) : stockOf A x = stkO st x := by
  obtain ⟨-, -, h⟩ := h
  unfold stockOf stkO
  by_cases q : okLamp x
  · rw [if_pos q, if_pos q, ← h]
    rcases okLamp_cases q with rfl | rfl | rfl <;> rfl
  · rw [if_neg q, if_neg q]
theorem stA_dec {A B : Nat → jF} {st : Int32 × Int32 × Int32} {x : Int32} (h : stA A B st) : stA (stockTo A x (-1)) B (stDec st x) := by
  obtain ⟨h0, h1, h⟩ := h
  unfold stockTo stDec
  by_cases q : okLamp x
  · rw [if_pos q, if_pos q, ← h]
    refine ⟨h0, h1, ?_⟩
    rcases okLamp_cases q with rfl | rfl | rfl <;> rfl
  · rw [if_neg q, if_neg q]
    exact ⟨h0, h1, h⟩
def lipS (st : Int32 × Int32 × Int32) (x : Int32) : Int32 := if ¬ stkO st x ≤ 0 then x else if ¬ stkO st 2 ≤ 0 then (if widthOf 2 < widthOf x then -9 else 2) else if ¬ stkO st 1 ≤ 0 then (if widthOf 1 < widthOf x then -9 else 1) else if ¬ stkO st 0 ≤ 0 then (if widthOf 0 < widthOf x then -9 else 0) else -9
theorem lipo_st {A B : Nat → jF} {st : Int32 × Int32 × Int32} {x : Int32} (h : stA A B st) : lipo A x = lipS st x := by
  unfold lipo lipS
  rw [stA_of h, stA_of h, stA_of h, stA_of h]
def swStep (x : Int32) (S : BS) (j : Nat) (s : (Int32 × Int32 × Int32) × Int32) : (Int32 × Int32 × Int32) × Int32 := if x ≤ jL (lsX (bLs S)) j 7 then s else if lipS s.1 (jL (lsX (bLs S)) j 3) = -9 then s else (stDec s.1 (lipS s.1 (jL (lsX (bLs S)) j 3)), s.2 + 1)
def swA (x : Int32) (S : BS) (j : Nat) : (Int32 × Int32 × Int32) × Int32 := jiter (swStep x S) (bSt S, 0) j
def swL (x : Int32) (st : Int32 × Int32 × Int32) (L : jF) : jF := if x ≤ L 7 then L else if lipS st (L 3) = -9 then L else putL L (lipS st (L 3))
theorem plL_st {x : Int32} {A B : Nat → jF} {st : Int32 × Int32 × Int32} {L : jF} (h : stA A B st) : plL x A L = swL x st L := by
  unfold plL swL
  rw [lipo_st h]
theorem sw_st {x : Int32} {A : Nat → jF} {S : BS} {X : List (Nat × jF)} (hA : stA A A (bSt S)) (hx : xeq X (lsX (bLs S)) (bLs S).length) : ∀ i, i ≤ (bLs S).length → stA (jiter (plStep x X) (A, 0) i).1 A (swA x S i).1 ∧ (jiter (plStep x X) (A, 0) i).2 = (swA x S i).2
  | 0, _ => ⟨hA, rfl⟩
  | i + 1, hi => by
    obtain ⟨h1, h2⟩ := sw_st hA hx i (by omega)
    have e : jiter (plStep x X) (A, 0) (i + 1) = plStep x X i (jiter (plStep x X) (A, 0) i) := rfl
    have e2 : swA x S (i + 1) = swStep x S i (swA x S i) := rfl
    rw [e, e2]
    generalize jiter (plStep x X) (A, 0) i = P at h1 h2 ⊢
    generalize swA x S i = Q at h1 h2 ⊢
    unfold plStep swStep
    rw [hx i (by omega), lipo_st h1]
    by_cases c : x ≤ jL (lsX (bLs S)) i 7
    · rw [if_pos c, if_pos c]; exact ⟨h1, h2⟩
    · rw [if_neg c, if_neg c]
      by_cases c2 : lipS Q.1 (jL (lsX (bLs S)) i 3) = -9
      · rw [if_pos c2, if_pos c2]; exact ⟨h1, h2⟩
      · rw [if_neg c2, if_neg c2]
        exact ⟨stA_dec h1, by rw [h2]⟩
def swS (x : Int32) (S : BS) : BS := sSt (sMap S (fun j L => swL x (swA x S j).1 L) (bHrs S) (bPa S) (bFa S)) (swA x S (bLs S).length).1
def oSwapAll (T : St3) (x : Int32) : Int32 × St3 := if x < 1 then (-1, T) else if x ≤ 9000 then ((swA x T.1 (bLs T.1).length).2, oPush T (swS x T.1)) else (-1, T)
theorem putL_4 {L : jF} {c : Int32} : putL L c 4 = L 4 := rfl
theorem swL_4 {x : Int32} {st : Int32 × Int32 × Int32} {L : jF} : swL x st L 4 = L 4 := by
  unfold swL
  by_cases c : x ≤ L 7
  · rw [if_pos c]
  · rw [if_neg c]
    by_cases c2 : lipS st (L 3) = -9
    · rw [if_pos c2]
    · rw [if_neg c2]; rfl
theorem isB_stA {d : Nat → Nat} {I : jF} {A B : Nat → jF} {X : List (Nat × jF)} {S : BS} {st : Int32 × Int32 × Int32} (h : isB (d, I, A, X) S) (hs : stA B A st) : isB (d, I, B, X) (sSt S st) := by
  obtain ⟨g, h2, h3, h4, h5, h6, h7, h8⟩ := h
  refine ⟨g, h2, fun t ht => ?_, h4, h5, hs.2.2, h7, h8⟩
  show _ = some (B 0 t, B 1 t)
  rw [hs.1, hs.2.1]
  exact h3 t ht
theorem isB_sw {d : Nat → Nat} {I : jF} {A : Nat → jF} {X : List (Nat × jF)} {S : BS} {x : Int32} (h : isB (d, I, A, X) S) : isB (d, I, (jiter (plStep x X) (A, 0) (bLs S).length).1, lmap (lpre (bLs S).length (fun j => plL x (jiter (plStep x X) (A, 0) j).1)) X) (swS x S) ∧ (jiter (plStep x X) (A, 0) (bLs S).length).2 = (swA x S (bLs S).length).2 := by
  have hA : stA A A (bSt S) := ⟨rfl, rfl, h.2.2.2.2.2.1⟩
  have hk : (bLs S).length ≤ X.length := h.1.1.2.1
  have hs := sw_st (x := x) hA (isB_xeq h)
  refine ⟨isB_stA (isB_map h (fun _ _ _ _ => rfl) h.2.2.2.2.1 h.2.2.2.2.2.2.1 h.2.2.2.2.2.2.2 lmap_len (fun j hj => ?_) (fun j L => swL_4)) (hs _ (Nat.le_refl _)).1, (hs _ (Nat.le_refl _)).2⟩
  rw [jL_lmap (by omega)]
  unfold lpre
  rw [if_pos hj]
  exact plL_st (hs j (by omega)).1
/-! hours -/
theorem hoursL_4 {L : jF} {h : Int32} : hoursL L h 4 = L 4 := by
  show restPass L h 4 = L 4
  unfold restPass
  by_cases c : L 4 = 0
  · rw [if_pos c]
  · rw [if_neg c]; rfl
theorem ageL_4 {L : jF} {p : Int32} : ageL L p 4 = L 4 := by
  unfold ageL upd
  rw [if_neg (by decide), if_neg (by decide)]
theorem strL_4 {h x : Int32} {L : jF} : strL h x L 4 = L 4 := by
  unfold strL
  by_cases c : ¬ h - h / 1000 * 1000 = 0
  · rw [if_pos c]; exact hoursL_4
  · rw [if_neg c, ageL_4]; exact hoursL_4
theorem lhp_4 : ∀ (f : Nat) {l h : Int32} {L : jF}, lhp f l h L 4 = L 4
  | 0, _, _, _ => rfl
  | f + 1, l, h, L => by
    by_cases c : l ≤ 0
    · rw [lhp_0 c]
    · rw [lhp_1 c, lhp_4 f, strL_4]
def pasL (h x : Int32) (L : jF) : jF := lhp 4 (x - jmin x (1000 - (h - h / 1000 * 1000))) (h + jmin x (1000 - (h - h / 1000 * 1000))) (strL (h + jmin x (1000 - (h - h / 1000 * 1000))) (jmin x (1000 - (h - h / 1000 * 1000))) L)
def pasS (x : Int32) (S : BS) : BS := sMap S (fun _ L => pasL (bHrs S) x L) (bHrs S + x) (bPa S) (bFa S)
def oPass (T : St3) (x : Int32) : Int32 × St3 := if x < 1 then (-1, T) else if x ≤ 2000 then (if bHrs T.1 + x ≤ 100000 then (sRdy (pasS x T.1), oPush T (pasS x T.1)) else (-3, T)) else (-1, T)
theorem hmod {n : Nat} (h : n ≤ 100000) : nI n - nI n / 1000 * 1000 = nI (n % 1000) := by
  have k1 : (1000 : Int32).toInt = 1000 := by decide
  have e1 : nI n / 1000 = nI (n / 1000) := by
    rw [← Int32.toInt_inj, Int32.toInt_div, k1, nI_toInt (by omega), nI_toInt (by omega), Int.tdiv_eq_ediv_of_nonneg (by omega)]
    rw [Int.bmod_eq_of_le (by omega) (by omega)]
    omega
  rw [e1, ← Int32.toInt_inj, Int32.toInt_sub, Int32.toInt_mul, k1, nI_toInt (by omega), nI_toInt (by omega), nI_toInt (by omega)]
  rw [Int.bmod_eq_of_le (n := (↑(n / 1000) * 1000)) (by omega) (by omega)]
  rw [Int.bmod_eq_of_le (by omega) (by omega)]
  omega
theorem pas_lo {x : Int32} {n : Nat} {h : Int32} (hh : h = nI n) (hn : n ≤ 100000) (h1 : ¬ x < 1) (h2 : x ≤ 2000) : (x - jmin x (1000 - (h - h / 1000 * 1000))).toInt ≤ 3000 ∧ 0 ≤ (x - jmin x (1000 - (h - h / 1000 * 1000))).toInt := by
  have k1 : (1000 : Int32).toInt = 1000 := by decide
  rw [Int32.lt_iff_toInt_lt, show (1 : Int32).toInt = 1 by decide] at h1
  rw [Int32.le_iff_toInt_le, show (2000 : Int32).toInt = 2000 by decide] at h2
  have hr : n % 1000 < 1000 := Nat.mod_lt _ (by decide)
  rw [hh, hmod hn, Int32.toInt_sub, jmin_toInt, Int32.toInt_sub, k1, nI_toInt (by omega)]
  rw [Int.bmod_eq_of_le (n := (1000 - ↑(n % 1000))) (by omega) (by omega)]
  rw [Int.bmod_eq_of_le (by omega) (by omega)]
  omega
set_option maxHeartbeats 1000000 in
set_option maxRecDepth 100000 in
theorem c_X6_pass (g : jG) (a : Nat) (T : St3) (b : List va_W) (x : Int32) (h : CW g a T b) (nh : ∃ n : Nat, bHrs T.1 = nI n ∧ n ≤ 100000) : Con g yX6_pass cX6_pass 2 (some .int) 7 144 15 125 [.ref a, .int x] b (fun rr bb => rr = some (.int (oPass T x).1) ∧ CW g a (oPass T x).2 bb) := by
  obtain ⟨dt, dn, du, dh, dr, dp, It, ft, In, An, Xn, Iu, Au, Xu, Ih, K, Ar, Ip, Ap, rfl, hCI⟩ := h
  obtain ⟨hB, hu, hH, hT, hp2, hp0, hpl⟩ := id hCI
  obtain ⟨⟨hg1, hg2, hg3, hg4⟩, hb2, hb3, hb5, hb6, hb7, hb8, hb9⟩ := id hB
  have hg1 : bok In Xn (bLs T.1).length := hg1
  have hg2 : In 4 = nI (bRs T.1).length := hg2
  have hb5 : In 5 = bNeed T.1 := hb5
  have hk10 : (bLs T.1).length ≤ 10 := Nat.le_trans hg1.2.1 hg1.2.2
  refine Con.of (own := RX6) (lv := [(0, .ref a), (1, .int x)]) (by decide) rfl (Nat.le_of_ble_eq_true rfl) rfl ?_
  intro E hC hQ hN
  refine j_iload_n hC dX6_pass_0 rfl rfl ?_
  refine j_iconst hC (1) dX6_pass_1 (by decide) ?_
  refine j_icmp_lt hC dX6_pass_2 (tgt := 12) (by decide) (fun c_2 => ?_) (fun c_2 => ?_)
  · skip
    refine j_iconst hC (-1) dX6_pass_12 (by decide) ?_
    refine j_iret hC hQ rfl rfl (Nat.le_of_ble_eq_true rfl) (Nat.le_of_ble_eq_true rfl) dX6_pass_13 rfl ?_
    first | exact cw_o (T := T) (by unfold oPass; rw [if_pos c_2]) (CW.mk hCI) | exact cw_o (T := T) (by unfold oPass; rw [if_neg c_2, if_neg c_9]) (CW.mk hCI) | exact cw_o (T := T) (by unfold oPass; rw [if_neg c_2, if_pos c_9, if_neg (by rw [← show In 6 = bHrs T.1 from hb6]; exact c_25)]) (CW.mk hCI) | exact cw_o (T := oPush T (pasS x T.1)) (by unfold oPass; rw [if_neg c_2, if_pos c_9, if_pos (by rw [← show In 6 = bHrs T.1 from hb6]; exact c_25)]; exact congrArg (fun z => (z, _)) (isB_rdy hB2).symm) (CW.mk ⟨hB2, hu, hH1, hT, hp2, hp0, Or.inl rfl⟩)
  · skip
    refine j_iload_n hC dX6_pass_5 rfl rfl ?_
    refine j_sipush hC (2000) dX6_pass_6 (by decide) ?_
    refine j_icmp_le hC dX6_pass_9 (tgt := 14) (by decide) (fun c_9 => ?_) (fun c_9 => ?_)
    · skip
      refine j_aload_n hC dX6_pass_14 rfl rfl ?_
      refine j_get hC uX6 0 0 1 rfl rfl k143 rfl dX6_pass_15 ?_
      refine j_get hC uX0 2 0 6 rfl rfl k62 rfl dX6_pass_18 ?_
      refine j_iload_n hC dX6_pass_21 rfl rfl ?_
      refine j_iadd hC dX6_pass_22 ?_
      refine j_ldc hC (100000) k379 dX6_pass_23 ?_
      refine j_icmp_le hC dX6_pass_25 (tgt := 31) (by decide) (fun c_25 => ?_) (fun c_25 => ?_)
      · skip
        refine j_aload_n hC dX6_pass_31 rfl rfl ?_
        refine j_callV hC [0, 1, 2, 3, 4, 5, 6, 7, 8, 9] (c_X6_remember g _ _ _ _ _ _ _ _ _ _ _ _ _ _ _ _ _ _ _ _ T.1 T.2.1 hB hH) mX6_remember k219 rfl rfl rfl rfl rfl ⟨(Nat.le_of_ble_eq_true rfl), (Nat.le_of_ble_eq_true rfl)⟩ (Nat.le_of_ble_eq_true rfl) ⟨(Nat.le_of_ble_eq_true rfl), (Nat.le_of_ble_eq_true rfl)⟩ dX6_pass_32 (fun r_32 b_32 hp_32 _ => ?_)
        obtain ⟨rfl, Ih1, K1, rfl, hH1⟩ := hp_32
        dsimp only [jrepl, List.set, jstk]
        obtain ⟨hn, hn1, hn2⟩ := nh
        have hps := pas_lo (x := x) (show In 6 = nI hn from hb6.trans hn1) hn2 c_2 c_9
        refine j_aload_n hC dX6_pass_35 rfl rfl ?_
        refine j_get hC uX6 0 0 1 rfl rfl k143 rfl dX6_pass_36 ?_
        refine j_iload_n hC dX6_pass_39 rfl rfl ?_
        refine j_callV hC [2, 3] (c_X0_letHoursPass g _ In An Xn (bLs T.1).length x hg1 hps.1 hps.2) mX0_letHoursPass k380 rfl rfl rfl rfl rfl ⟨(Nat.le_of_ble_eq_true rfl), (Nat.le_of_ble_eq_true rfl)⟩ (Nat.le_of_ble_eq_true rfl) ⟨(Nat.le_of_ble_eq_true rfl), (Nat.le_of_ble_eq_true rfl)⟩ dX6_pass_40 (fun r_40 b_40 hp_40 _ => ?_)
        obtain ⟨rfl, I1, Y, rfl, hY1, hY2, hI, hI6, hY3⟩ := hp_40
        have hB2 : isB (dn, I1, An, Y) (pasS x T.1) := isB_map hB (fun q w _ _ => hI q w) (hI6.trans (congrArg (fun z => z + x) hb6)) ((hI 8 (by decide)).trans hb8) ((hI 9 (by decide)).trans hb9) hY2 (fun j hj => by rw [hY3 j hj, show In 6 = bHrs T.1 from hb6]; rfl) (fun j L => by show pasL _ _ _ 4 = _; unfold pasL; rw [lhp_4, strL_4])
        dsimp only [jrepl, List.set, jstk]
        refine j_aload_n hC dX6_pass_43 rfl rfl ?_
        refine j_get hC uX6 0 0 1 rfl rfl k143 rfl dX6_pass_44 ?_
        refine j_callVR hC [2, 3] (c_X0_countReady g _ I1 _ Y (bLs (pasS x T.1)).length hB2.1.1) mX0_countReady k394 rfl rfl rfl rfl rfl ⟨(Nat.le_of_ble_eq_true rfl), (Nat.le_of_ble_eq_true rfl)⟩ (Nat.le_of_ble_eq_true rfl) ⟨(Nat.le_of_ble_eq_true rfl), (Nat.le_of_ble_eq_true rfl)⟩ dX6_pass_47 ?_
        dsimp only [jrepl, List.set, jstk]
        refine j_iret hC hQ rfl rfl (Nat.le_of_ble_eq_true rfl) (Nat.le_of_ble_eq_true rfl) dX6_pass_50 rfl ?_
        first | exact cw_o (T := T) (by unfold oPass; rw [if_pos c_2]) (CW.mk hCI) | exact cw_o (T := T) (by unfold oPass; rw [if_neg c_2, if_neg c_9]) (CW.mk hCI) | exact cw_o (T := T) (by unfold oPass; rw [if_neg c_2, if_pos c_9, if_neg (by rw [← show In 6 = bHrs T.1 from hb6]; exact c_25)]) (CW.mk hCI) | exact cw_o (T := oPush T (pasS x T.1)) (by unfold oPass; rw [if_neg c_2, if_pos c_9, if_pos (by rw [← show In 6 = bHrs T.1 from hb6]; exact c_25)]; exact congrArg (fun z => (z, _)) (isB_rdy hB2).symm) (CW.mk ⟨hB2, hu, hH1, hT, hp2, hp0, Or.inl rfl⟩)
      · skip
        refine j_bipush hC (-3) dX6_pass_28 (by decide) ?_
        refine j_iret hC hQ rfl rfl (Nat.le_of_ble_eq_true rfl) (Nat.le_of_ble_eq_true rfl) dX6_pass_30 rfl ?_
        first | exact cw_o (T := T) (by unfold oPass; rw [if_pos c_2]) (CW.mk hCI) | exact cw_o (T := T) (by unfold oPass; rw [if_neg c_2, if_neg c_9]) (CW.mk hCI) | exact cw_o (T := T) (by unfold oPass; rw [if_neg c_2, if_pos c_9, if_neg (by rw [← show In 6 = bHrs T.1 from hb6]; exact c_25)]) (CW.mk hCI) | exact cw_o (T := oPush T (pasS x T.1)) (by unfold oPass; rw [if_neg c_2, if_pos c_9, if_pos (by rw [← show In 6 = bHrs T.1 from hb6]; exact c_25)]; exact congrArg (fun z => (z, _)) (isB_rdy hB2).symm) (CW.mk ⟨hB2, hu, hH1, hT, hp2, hp0, Or.inl rfl⟩)
    · skip
      refine j_iconst hC (-1) dX6_pass_12 (by decide) ?_
      refine j_iret hC hQ rfl rfl (Nat.le_of_ble_eq_true rfl) (Nat.le_of_ble_eq_true rfl) dX6_pass_13 rfl ?_
      first | exact cw_o (T := T) (by unfold oPass; rw [if_pos c_2]) (CW.mk hCI) | exact cw_o (T := T) (by unfold oPass; rw [if_neg c_2, if_neg c_9]) (CW.mk hCI) | exact cw_o (T := T) (by unfold oPass; rw [if_neg c_2, if_pos c_9, if_neg (by rw [← show In 6 = bHrs T.1 from hb6]; exact c_25)]) (CW.mk hCI) | exact cw_o (T := oPush T (pasS x T.1)) (by unfold oPass; rw [if_neg c_2, if_pos c_9, if_pos (by rw [← show In 6 = bHrs T.1 from hb6]; exact c_25)]; exact congrArg (fun z => (z, _)) (isB_rdy hB2).symm) (CW.mk ⟨hB2, hu, hH1, hT, hp2, hp0, Or.inl rfl⟩)
theorem oAllowed_2 {T : St3} {s : Int32} : (oAllowed T s).2 = T := by
  unfold oAllowed
  by_cases h : hldS T.1 s
  · rw [if_pos h]
  · rw [if_neg h]
theorem oAllowed_1 {T : St3} {s : Int32} (h : hldS T.1 s) (w : alw T.1 s = true) : ¬ (oAllowed T s).1 = 0 := by
  unfold oAllowed
  rw [if_pos h, if_pos w]
  show ¬ (1 : Int32) = 0
  decide
theorem oAllowed_3 {T : St3} {s : Int32} (h : hldS T.1 s) (c : ¬ (oAllowed T s).1 = 0) : alw T.1 s = true := by
  by_cases w : alw T.1 s = true
  · exact w
  · unfold oAllowed at c
    rw [if_pos h, if_neg w] at c
    exact absurd rfl c
theorem and_a {p q : Prop} (h : ¬ p) : ¬ (p ∧ ¬ q) := fun w => h w.1
theorem and_b {p q : Prop} (h : q) : ¬ (p ∧ ¬ q) := fun w => w.2 h
theorem or_b {p q r : Prop} (h : ¬ r) (e : r ↔ q) : p ∨ ¬ q := Or.inr (fun w => h (e.mpr w))
def burA (s : Int32) (S : BS) : Int32 × Int32 := jiter (bStep s (lsX (bLs S))) (bPa S, bFa S) (bLs S).length
def burS (s : Int32) (S : BS) : BS := sMap S (bF s) (bHrs S) (burA s S).1 (burA s S).2
def oTest (T : St3) (s f : Int32) : Int32 × St3 := if s = 0 ∨ ¬ hldS T.1 s then (-1, T) else if f = 0 ∧ ¬ alw T.1 s = true then (-2, T) else (bPa (burS s T.1) - bPa T.1, oPush T (burS s T.1))
theorem updN {f : jF} {i j : Nat} {v : Int32} (h : j ≠ i) : upd f i v j = f j := by
  unfold upd
  rw [if_neg h]
theorem burnL_4 {L : jF} : burnL L 4 = L 4 := by
  unfold burnL
  rw [updN (by decide), ageL_4]
  unfold burnL0
  rw [updN (by decide), updN (by decide)]
theorem bF_4 {s : Int32} {j : Nat} {L : jF} : bF s j L 4 = L 4 := by
  unfold bF
  by_cases c : ¬ (s >>> (nI j &&& 31)) &&& 1 = 1
  · rw [if_pos c]
  · rw [if_neg c, burnL_4]
theorem bur_eq {d : Nat → Nat} {I : jF} {A : Nat → jF} {X : List (Nat × jF)} {S : BS} {s : Int32} (h : isB (d, I, A, X) S) : jiter (bStep s X) (I 8, I 9) (bLs S).length = burA s S := by
  unfold burA
  rw [show I 8 = bPa S from h.2.2.2.2.2.2.1, show I 9 = bFa S from h.2.2.2.2.2.2.2]
  exact jiter_congr (fun i hi x => by unfold bStep; rw [show jL X i = jL (lsX (bLs S)) i from isB_xeq h i hi])
theorem bur_ans {d : Nat → Nat} {I I1 : jF} {A : Nat → jF} {X : List (Nat × jF)} {S : BS} {s : Int32} (h : isB (d, I, A, X) S) (h1 : (I1 8, I1 9) = jiter (bStep s X) (I 8, I 9) (bLs S).length) : I1 8 - I 8 = bPa (burS s S) - bPa S := by
  rw [bur_eq h] at h1
  rw [show I 8 = bPa S from h.2.2.2.2.2.2.1, show I1 8 = (burA s S).1 from congrArg Prod.fst h1]
  rfl
theorem isB_bur {d : Nat → Nat} {I I1 : jF} {A : Nat → jF} {X : List (Nat × jF)} {S : BS} {s : Int32} (h : isB (d, I, A, X) S) (h1 : (I1 8, I1 9) = jiter (bStep s X) (I 8, I 9) (bLs S).length) (hI : ∀ f, f ≠ 8 → f ≠ 9 → I1 f = I f) : isB (d, I1, A, lmap (lpre (bLs S).length (bF s)) X) (burS s S) := by
  have hk : (bLs S).length ≤ X.length := h.1.1.2.1
  rw [bur_eq h] at h1
  refine isB_map h (fun q _ w1 w2 => hI q w1 w2) ((hI 6 (by decide) (by decide)).trans h.2.2.2.2.1) (congrArg Prod.fst h1) (congrArg Prod.snd h1) lmap_len (fun j hj => ?_) (fun j L => bF_4)
  rw [jL_lmap (by omega)]
  unfold lpre
  rw [if_pos hj]
set_option maxHeartbeats 1000000 in
set_option maxRecDepth 100000 in
theorem c_X6_test (g : jG) (a : Nat) (T : St3) (b : List va_W) (s f : Int32) (h : CW g a T b) (hw : rswf (bRs T.1)) : Con g yX6_test cX6_test 4 (some .int) 7 144 15 125 [.ref a, .int s, .int f] b (fun rr bb => rr = some (.int (oTest T s f).1) ∧ CW g a (oTest T s f).2 bb) := by
  obtain ⟨dt, dn, du, dh, dr, dp, It, ft, In, An, Xn, Iu, Au, Xu, Ih, K, Ar, Ip, Ap, rfl, hCI⟩ := h
  obtain ⟨hB, hu, hH, hT, hp2, hp0, hpl⟩ := id hCI
  obtain ⟨⟨hg1, hg2, hg3, hg4⟩, hb2, hb3, hb5, hb6, hb7, hb8, hb9⟩ := id hB
  have hg1 : bok In Xn (bLs T.1).length := hg1
  have hg2 : In 4 = nI (bRs T.1).length := hg2
  have hb5 : In 5 = bNeed T.1 := hb5
  have hk10 : (bLs T.1).length ≤ 10 := Nat.le_trans hg1.2.1 hg1.2.2
  refine Con.of (own := RX6) (lv := [(0, .ref a), (1, .int s), (2, .int f)]) (by decide) rfl (Nat.le_of_ble_eq_true rfl) rfl ?_
  intro E hC hQ hN
  refine j_iload_n hC dX6_test_0 rfl rfl ?_
  refine j_if_eq hC dX6_test_1 (tgt := 15) (by decide) (fun c_1 => ?_) (fun c_1 => ?_)
  · skip
    refine j_iconst hC (-1) dX6_test_15 (by decide) ?_
    refine j_iret hC hQ rfl rfl (Nat.le_of_ble_eq_true rfl) (Nat.le_of_ble_eq_true rfl) dX6_test_16 rfl ?_
    first | exact cw_o (T := T) (by unfold oTest; rw [if_pos (Or.inl c_1)]) (CW.mk hCI) | exact cw_o (T := T) (by unfold oTest; rw [if_pos (or_b (jb0 c_12) (hlds_of hg1.1))]) (CW.mk hCI)
  · skip
    refine j_aload_n hC dX6_test_4 rfl rfl ?_
    refine j_get hC uX6 0 0 1 rfl rfl k143 rfl dX6_test_5 ?_
    refine j_iload_n hC dX6_test_8 rfl rfl ?_
    refine j_callVR hC [2] (c_X0_holds g _ _ _ _ _) mX0_holds k165 rfl rfl rfl rfl rfl ⟨(Nat.le_of_ble_eq_true rfl), (Nat.le_of_ble_eq_true rfl)⟩ (Nat.le_of_ble_eq_true rfl) ⟨(Nat.le_of_ble_eq_true rfl), (Nat.le_of_ble_eq_true rfl)⟩ dX6_test_9 ?_
    dsimp only [jrepl, List.set, jstk]
    refine j_if_ne hC dX6_test_12 (tgt := 17) (by decide) (fun c_12 => ?_) (fun c_12 => ?_)
    · skip
      have hld : hldS T.1 s := (hlds_of hg1.1).mp (jb1 c_12)
      refine j_iload_n hC dX6_test_17 rfl rfl ?_
      refine j_if_ne hC dX6_test_18 (tgt := 32) (by decide) (fun c_18 => ?_) (fun c_18 => ?_)
      · skip
        have hnb : ¬ (f = 0 ∧ ¬ alw T.1 s = true) := by first | exact and_a c_18 | exact and_b (oAllowed_3 hld c_26)
        refine j_aload_n hC dX6_test_32 rfl rfl ?_
        refine j_callV hC [0, 1, 2, 3, 4, 5, 6, 7, 8, 9] (c_X6_remember g _ _ _ _ _ _ _ _ _ _ _ _ _ _ _ _ _ _ _ _ T.1 T.2.1 hB hH) mX6_remember k219 rfl rfl rfl rfl rfl ⟨(Nat.le_of_ble_eq_true rfl), (Nat.le_of_ble_eq_true rfl)⟩ (Nat.le_of_ble_eq_true rfl) ⟨(Nat.le_of_ble_eq_true rfl), (Nat.le_of_ble_eq_true rfl)⟩ dX6_test_33 (fun r_33 b_33 hp_33 _ => ?_)
        obtain ⟨rfl, Ih1, K1, rfl, hH1⟩ := hp_33
        dsimp only [jrepl, List.set, jstk]
        refine j_aload_n hC dX6_test_36 rfl rfl ?_
        refine j_get hC uX6 0 0 1 rfl rfl k143 rfl dX6_test_37 ?_
        refine j_get hC uX0 2 0 8 rfl rfl k65 rfl dX6_test_40 ?_
        refine j_istore_n hC dX6_test_43 rfl rfl rfl rfl (fun v_43 e_43 => ?_)
        refine j_aload_n hC dX6_test_44 rfl rfl ?_
        refine j_get hC uX6 0 0 1 rfl rfl k143 rfl dX6_test_45 ?_
        refine j_iload_n hC dX6_test_48 rfl rfl ?_
        refine j_callV hC [2, 3] (c_X0_burn g _ _ _ _ _ _ hg1) mX0_burn k300 rfl rfl rfl rfl rfl ⟨(Nat.le_of_ble_eq_true rfl), (Nat.le_of_ble_eq_true rfl)⟩ (Nat.le_of_ble_eq_true rfl) ⟨(Nat.le_of_ble_eq_true rfl), (Nat.le_of_ble_eq_true rfl)⟩ dX6_test_49 (fun r_49 b_49 hp_49 _ => ?_)
        obtain ⟨rfl, I1, rfl, hI89, hI⟩ := hp_49
        dsimp only [jrepl, List.set, jstk]
        refine j_aload_n hC dX6_test_52 rfl rfl ?_
        refine j_get hC uX6 0 0 1 rfl rfl k143 rfl dX6_test_53 ?_
        refine j_get hC uX0 2 0 8 rfl rfl k65 rfl dX6_test_56 ?_
        refine j_iload_n hC dX6_test_59 rfl rfl ?_
        refine j_isub hC dX6_test_60 ?_
        refine j_iret hC hQ rfl rfl (Nat.le_of_ble_eq_true rfl) (Nat.le_of_ble_eq_true rfl) dX6_test_61 rfl ?_
        exact cw_o (T := oPush T (burS s T.1)) (by unfold oTest; rw [if_neg (fun q => q.elim c_1 (fun w => w hld)), if_neg hnb]; rw [e_43]; exact congrArg (fun z => (z, _)) (bur_ans hB hI89).symm) (CW.mk ⟨isB_bur hB hI89 hI, hu, hH1, hT, hp2, hp0, Or.inl rfl⟩)
      · skip
        refine j_aload_n hC dX6_test_21 rfl rfl ?_
        refine j_iload_n hC dX6_test_22 rfl rfl ?_
        refine j_callV hC [0, 1, 2, 3, 4, 5, 6, 7, 8, 9] (c_X6_allowed g a T _ s (CW.mk hCI) hw) mX6_allowed k169 rfl rfl rfl rfl rfl ⟨(Nat.le_of_ble_eq_true rfl), (Nat.le_of_ble_eq_true rfl)⟩ (Nat.le_of_ble_eq_true rfl) ⟨(Nat.le_of_ble_eq_true rfl), (Nat.le_of_ble_eq_true rfl)⟩ dX6_test_23 (fun r_23 b_23 hp_23 _ => ?_)
        obtain ⟨rfl, hW2⟩ := hp_23
        rw [oAllowed_2] at hW2
        clear hg1 hg2 hb5 hk10
        obtain ⟨dt, dn, du, dh, dr, dp, It, ft, In, An, Xn, Iu, Au, Xu, Ih, K, Ar, Ip, Ap, rfl, hCI⟩ := hW2
        obtain ⟨hB, hu, hH, hT, hp2, hp0, hpl⟩ := id hCI
        obtain ⟨⟨hg1, hg2, hg3, hg4⟩, hb2, hb3, hb5, hb6, hb7, hb8, hb9⟩ := id hB
        have hg1 : bok In Xn (bLs T.1).length := hg1
        have hg2 : In 4 = nI (bRs T.1).length := hg2
        have hb5 : In 5 = bNeed T.1 := hb5
        have hk10 : (bLs T.1).length ≤ 10 := Nat.le_trans hg1.2.1 hg1.2.2
        dsimp only [jrepl, List.set, jstk]
        refine j_if_ne hC dX6_test_26 (tgt := 32) (by decide) (fun c_26 => ?_) (fun c_26 => ?_)
        · skip
          have hnb : ¬ (f = 0 ∧ ¬ alw T.1 s = true) := by first | exact and_a c_18 | exact and_b (oAllowed_3 hld c_26)
          refine j_aload_n hC dX6_test_32 rfl rfl ?_
          refine j_callV hC [0, 1, 2, 3, 4, 5, 6, 7, 8, 9] (c_X6_remember g _ _ _ _ _ _ _ _ _ _ _ _ _ _ _ _ _ _ _ _ T.1 T.2.1 hB hH) mX6_remember k219 rfl rfl rfl rfl rfl ⟨(Nat.le_of_ble_eq_true rfl), (Nat.le_of_ble_eq_true rfl)⟩ (Nat.le_of_ble_eq_true rfl) ⟨(Nat.le_of_ble_eq_true rfl), (Nat.le_of_ble_eq_true rfl)⟩ dX6_test_33 (fun r_33 b_33 hp_33 _ => ?_)
          obtain ⟨rfl, Ih1, K1, rfl, hH1⟩ := hp_33
          dsimp only [jrepl, List.set, jstk]
          refine j_aload_n hC dX6_test_36 rfl rfl ?_
          refine j_get hC uX6 0 0 1 rfl rfl k143 rfl dX6_test_37 ?_
          refine j_get hC uX0 2 0 8 rfl rfl k65 rfl dX6_test_40 ?_
          refine j_istore_n hC dX6_test_43 rfl rfl rfl rfl (fun v_43 e_43 => ?_)
          refine j_aload_n hC dX6_test_44 rfl rfl ?_
          refine j_get hC uX6 0 0 1 rfl rfl k143 rfl dX6_test_45 ?_
          refine j_iload_n hC dX6_test_48 rfl rfl ?_
          refine j_callV hC [2, 3] (c_X0_burn g _ _ _ _ _ _ hg1) mX0_burn k300 rfl rfl rfl rfl rfl ⟨(Nat.le_of_ble_eq_true rfl), (Nat.le_of_ble_eq_true rfl)⟩ (Nat.le_of_ble_eq_true rfl) ⟨(Nat.le_of_ble_eq_true rfl), (Nat.le_of_ble_eq_true rfl)⟩ dX6_test_49 (fun r_49 b_49 hp_49 _ => ?_)
          obtain ⟨rfl, I1, rfl, hI89, hI⟩ := hp_49
          dsimp only [jrepl, List.set, jstk]
          refine j_aload_n hC dX6_test_52 rfl rfl ?_
          refine j_get hC uX6 0 0 1 rfl rfl k143 rfl dX6_test_53 ?_
          refine j_get hC uX0 2 0 8 rfl rfl k65 rfl dX6_test_56 ?_
          refine j_iload_n hC dX6_test_59 rfl rfl ?_
          refine j_isub hC dX6_test_60 ?_
          refine j_iret hC hQ rfl rfl (Nat.le_of_ble_eq_true rfl) (Nat.le_of_ble_eq_true rfl) dX6_test_61 rfl ?_
          exact cw_o (T := oPush T (burS s T.1)) (by unfold oTest; rw [if_neg (fun q => q.elim c_1 (fun w => w hld)), if_neg hnb]; rw [e_43]; exact congrArg (fun z => (z, _)) (bur_ans hB hI89).symm) (CW.mk ⟨isB_bur hB hI89 hI, hu, hH1, hT, hp2, hp0, Or.inl rfl⟩)
        · skip
          refine j_bipush hC (-2) dX6_test_29 (by decide) ?_
          refine j_iret hC hQ rfl rfl (Nat.le_of_ble_eq_true rfl) (Nat.le_of_ble_eq_true rfl) dX6_test_31 rfl ?_
          exact cw_o (T := T) (by unfold oTest; rw [if_neg (fun q => q.elim c_1 (fun w => w hld)), if_pos ⟨c_18, fun w => oAllowed_1 hld w c_26⟩]) (CW.mk hCI)
    · skip
      refine j_iconst hC (-1) dX6_test_15 (by decide) ?_
      refine j_iret hC hQ rfl rfl (Nat.le_of_ble_eq_true rfl) (Nat.le_of_ble_eq_true rfl) dX6_test_16 rfl ?_
      first | exact cw_o (T := T) (by unfold oTest; rw [if_pos (Or.inl c_1)]) (CW.mk hCI) | exact cw_o (T := T) (by unfold oTest; rw [if_pos (or_b (jb0 c_12) (hlds_of hg1.1))]) (CW.mk hCI)
