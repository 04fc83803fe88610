/-! what a text says does not depend on how it is held -/
def tEq (n : Nat) (I J : jF) : Prop := I 1 = nI n ∧ J 1 = nI n ∧ I 2 = J 2 ∧ I 3 = J 3
def fEq (n : Nat) (f h : jF) : Prop := ∀ i, i < n → f i = h i
theorem tPk_cg {n : Nat} {I J f h : jF} (hn : n ≤ 80) (he : tEq n I J) (hf : fEq n f h) : tPk I f = tPk J h := by
  obtain ⟨e1, e2, e3, e4⟩ := he
  unfold tPk
  rw [e1, e2, e3]
  by_cases c : ¬ J 2 < 0 ∧ ¬ nI n ≤ J 2 ∧ ¬ 80 ≤ J 2
  · rw [if_pos c, if_pos c]
    obtain ⟨j, hj, hx⟩ := hLX_nat (x := J 2) (n := n) (by omega) ⟨c.1, c.2.1⟩
    rw [hx, nI_cl (by omega)]
    exact hf j hj
  · rw [if_neg c, if_neg c]
theorem tFl_cg {n : Nat} {I J : jF} {w : Int32} (he : tEq n I J) : tEq n (tFl I w) (tFl J w) := by
  obtain ⟨e1, e2, e3, e4⟩ := he
  unfold tFl
  rw [e4]
  by_cases c : J 3 = -1
  · rw [if_pos c, if_pos c]; exact ⟨e1, e2, e3, rfl⟩
  · rw [if_neg c, if_neg c]; exact ⟨e1, e2, e3, e4⟩
theorem tUp_cg {n : Nat} {I J : jF} (he : tEq n I J) : tEq n (upd I 2 (I 2 + 1)) (upd J 2 (J 2 + 1)) := by
  obtain ⟨e1, e2, e3, e4⟩ := he
  rw [e3]
  exact ⟨e1, e2, rfl, e4⟩
theorem tEx_cg {n : Nat} {I J f h : jF} {c : Int32} (hn : n ≤ 80) (he : tEq n I J) (hf : fEq n f h) : tEq n (tEx I f c) (tEx J h c) := by
  unfold tEx
  rw [tPk_cg hn he hf]
  by_cases q : tPk J h = c
  · rw [if_pos q, if_pos q]; exact tUp_cg he
  · rw [if_neg q, if_neg q, he.2.2.1]; exact tFl_cg he
theorem rnl_cg {n : Nat} {f h : jF} (hn : n ≤ 80) (hf : fEq n f h) : ∀ (m : Nat) (I J : jF) (v : Int32), tEq n I J → tEq n (rnl f m I v).1 (rnl h m J v).1 ∧ (rnl f m I v).2 = (rnl h m J v).2
  | 0, I, J, v, he => ⟨he, rfl⟩
  | m + 1, I, J, v, he => by
    have hp := tPk_cg hn he hf
    by_cases c : tDig J h
    · have c2 : tDig I f := by show ¬ tPk I f < 48 ∧ ¬ 57 < tPk I f; rw [hp]; exact c
      rw [rnl_1 c, rnl_1 c2, hp]
      exact rnl_cg hn hf m _ _ _ (tUp_cg he)
    · have c2 : ¬ tDig I f := by show ¬ (¬ tPk I f < 48 ∧ ¬ 57 < tPk I f); rw [hp]; exact c
      rw [rnl_2 c, rnl_2 c2]
      exact ⟨he, rfl⟩
theorem rnF_cg {n m : Nat} {I J f h : jF} {lo hi : Int32} (hn : n ≤ 80) (he : tEq n I J) (hf : fEq n f h) : tEq n (rnF I f m lo hi) (rnF J h m lo hi) := by
  obtain ⟨h1, h2⟩ := rnl_cg hn hf m I J 0 he
  have hp := tPk_cg hn h1 hf
  unfold rnF
  have d : tDig (rnl f m I 0).1 f = tDig (rnl h m J 0).1 h := by
    show (¬ tPk (rnl f m I 0).1 f < 48 ∧ ¬ 57 < tPk (rnl f m I 0).1 f) = _
    rw [hp]
  rw [h1.2.2.1, h2, he.2.2.1]
  by_cases c : (rnl h m J 0).1 2 = J 2 ∨ tDig (rnl h m J 0).1 h
  · rw [if_pos c, if_pos (by rw [d]; exact c)]; exact tFl_cg h1
  · rw [if_neg c, if_neg (by rw [d]; exact c)]
    by_cases c2 : (rnl h m J 0).2 < lo ∨ ¬ (rnl h m J 0).2 ≤ hi
    · rw [if_pos c2, if_pos c2]; exact tFl_cg h1
    · rw [if_neg c2, if_neg c2]; exact h1
theorem lE_cg {n m : Nat} {I J f h : jF} {c lo hi : Int32} (hn : n ≤ 80) (he : tEq n I J) (hf : fEq n f h) : tEq n (lE I f c m lo hi) (lE J h c m lo hi) := rnF_cg hn (tEx_cg hn he hf) hf
theorem lV_cg {n m : Nat} {I J f h : jF} {c : Int32} (hn : n ≤ 80) (he : tEq n I J) (hf : fEq n f h) : lV I f c m = lV J h c m := (rnl_cg hn hf m _ _ 0 (tEx_cg hn he hf)).2
theorem rl_cg {n : Nat} {I J f h : jF} (hn : n ≤ 80) (he : tEq n I J) (hf : fEq n f h) : tEq n (rlZ I f) (rlZ J h) ∧ rlL I f = rlL J h := by
  have hA : tEq n (rlA I f) (rlA J h) := lE_cg hn he hf
  have hB : tEq n (rlB I f) (rlB J h) := lE_cg hn hA hf
  have hC : tEq n (rlC I f) (rlC J h) := lE_cg hn hB hf
  have hD : tEq n (rlD I f) (rlD J h) := lE_cg hn hC hf
  have hp := tPk_cg hn hD hf
  have hM : rlM I f = rlM J h := by unfold rlM; rw [hp]
  refine ⟨?_, ?_⟩
  · unfold rlZ
    rw [hp]
    by_cases q : tPk (rlD J h) h = 109
    · rw [if_pos q, if_pos q]; exact tEx_cg hn (tEx_cg hn hD hf) hf
    · rw [if_neg q, if_neg q]; exact tEx_cg hn hD hf
  · unfold rlL
    rw [hM, lV_cg hn he hf, lV_cg hn hA hf, lV_cg hn hB hf, lV_cg hn hC hf]
theorem rr_cg {n : Nat} {I J f h : jF} (hn : n ≤ 80) (he : tEq n I J) (hf : fEq n f h) : tEq n (rrZ I f) (rrZ J h) ∧ rrF I f = rrF J h ∧ rrT I f = rrT J h := by
  have hA : tEq n (rrA I f) (rrA J h) := lE_cg hn he hf
  refine ⟨?_, lV_cg hn he hf, lV_cg hn hA hf⟩
  unfold rrZ
  rw [lV_cg hn he hf]
  exact tEx_cg hn (lE_cg hn hA hf) hf
theorem rInto_cg {n : Nat} {f h : jF} (hn : n ≤ 80) (hf : fEq n f h) : ∀ (fu : Nat) (I J : jF) (ls : List jF) (rs : List (Int32 × Int32)), tEq n I J → tEq n (rInto f fu I ls rs).1 (rInto h fu J ls rs).1 ∧ (rInto f fu I ls rs).2 = (rInto h fu J ls rs).2
  | 0, I, J, ls, rs, he => ⟨he, rfl⟩
  | fu + 1, I, J, ls, rs, he => by
    have hp := tPk_cg hn he hf
    obtain ⟨l1, l2⟩ := rl_cg hn he hf
    obtain ⟨r1, r2, r3⟩ := rr_cg hn he hf
    by_cases c : ¬ J 1 ≤ J 2 ∧ J 3 = -1
    · have cI : ¬ I 1 ≤ I 2 ∧ I 3 = -1 := by rw [he.1, he.2.2.1, he.2.2.2, ← he.2.1]; exact c
      by_cases c2 : tPk J h = 112 ∧ ls.length < 10
      · have c2I : tPk I f = 112 ∧ ls.length < 10 := by rw [hp]; exact c2
        rw [rInto_a c c2, rInto_a cI c2I, l1.2.2.2, l2]
        exact rInto_cg hn hf fu _ _ _ _ l1
      · have c2I : ¬ (tPk I f = 112 ∧ ls.length < 10) := by rw [hp]; exact c2
        by_cases c3 : tPk J h = 114 ∧ rs.length < 6
        · have c3I : tPk I f = 114 ∧ rs.length < 6 := by rw [hp]; exact c3
          rw [rInto_b c c2 c3, rInto_b cI c2I c3I, r1.2.2.2, r2, r3]
          exact rInto_cg hn hf fu _ _ _ _ r1
        · have c3I : ¬ (tPk I f = 114 ∧ rs.length < 6) := by rw [hp]; exact c3
          rw [rInto_c c c2 c3, rInto_c cI c2I c3I, he.2.2.1]
          exact rInto_cg hn hf fu _ _ _ _ (tFl_cg he)
    · have cI : ¬ (¬ I 1 ≤ I 2 ∧ I 3 = -1) := by rw [he.1, he.2.2.1, he.2.2.2, ← he.2.1]; exact c
      rw [rInto_0 c, rInto_0 cI]
      exact ⟨he, rfl⟩
theorem rInto_m {f : jF} : ∀ (fu : Nat) (I : jF) (ls : List jF) (rs : List (Int32 × Int32)), (∀ L ∈ ls, L 4 = 0 ∨ L 4 = 1) → ∀ L ∈ (rInto f fu I ls rs).2.1, L 4 = 0 ∨ L 4 = 1
  | 0, I, ls, rs, h => h
  | fu + 1, I, ls, rs, h => by
    by_cases c : ¬ I 1 ≤ I 2 ∧ I 3 = -1
    · by_cases c2 : tPk I f = 112 ∧ ls.length < 10
      · rw [rInto_a c c2]
        refine rInto_m fu _ _ _ ?_
        by_cases z : rlZ I f 3 = -1
        · rw [if_pos z]
          intro L hL
          rcases List.mem_append.mp hL with q | q
          · exact h L q
          · rw [List.mem_singleton.mp q]
            show rlM I f = 0 ∨ rlM I f = 1
            unfold rlM
            by_cases w : tPk (rlD I f) f = 109
            · rw [if_pos w]; exact Or.inr rfl
            · rw [if_neg w]; exact Or.inl rfl
        · rw [if_neg z]; exact h
      · by_cases c3 : tPk I f = 114 ∧ rs.length < 6
        · rw [rInto_b c c2 c3]; exact rInto_m fu _ _ _ h
        · rw [rInto_c c c2 c3]; exact rInto_m fu _ _ _ h
    · rw [rInto_0 c]; exact h
/-- what is read of a text -/
def txF (ts : List Int32) : jF := fun i => ts.getD i 0
def txI (ts : List Int32) : jF := fun i => if i = 1 then nI ts.length else if i = 3 then -1 else 0
def rdT (ts : List Int32) : jF × List jF × List (Int32 × Int32) := rInto (txF ts) 80 (txI ts) [] []
theorem rdT_of {It ft : jF} {ts : List Int32} (h : ctext It ft ts) : tEq ts.length (rInto ft 80 (upd (upd It 2 0) 3 (-1)) [] []).1 (rdT ts).1 ∧ (rInto ft 80 (upd (upd It 2 0) 3 (-1)) [] []).2 = (rdT ts).2 := by
  obtain ⟨h1, h2, h3⟩ := h
  refine rInto_cg h2 (fun i hi => ?_) 80 _ _ [] [] ⟨h1, rfl, rfl, rfl⟩
  unfold txF
  rw [List.getD_eq_getElem?_getD, h3 i hi, Option.getD_some]
def oLoad (T : St3) : Int32 × St3 := if (rdT T.2.2).1 3 = -1 then (nI (rdT T.2.2).2.1.length + 100 * nI (rdT T.2.2).2.2.length, oPush T (sRs (sLs T.1 (rdT T.2.2).2.1) (rdT T.2.2).2.2)) else (-10 - (rdT T.2.2).1 3, T)
theorem isB_laid {d : Nat → Nat} {I : jF} {A : Nat → jF} {X : List (Nat × jF)} {S : BS} {I1 : jF} {A1 : Nat → jF} {Y : List (Nat × jF)} {Iu I2 : jF} {Au A2 : Nat → jF} {X2 : List (Nat × jF)} {ls : List jF} {rs : List (Int32 × Int32)} (h : isB (d, I, A, X) S) (hb : blaid Iu Au I2 A2 X2 ls rs) (hm : ∀ L ∈ ls, L 4 = 0 ∨ L 4 = 1)
    (e1 : I1 1 = I2 1) (e4 : I1 4 = I2 4) (eo : ∀ f, f ≠ 1 → f ≠ 4 → I1 f = I f) (hY : lsame Y X2 ls.length) (eA : ∀ t, t < rs.length → A1 0 t = A2 0 t ∧ A1 1 t = A2 1 t) (e2 : A1 2 = A 2) : isB (d, I1, A1, Y) (sRs (sLs S ls) rs) := by
  obtain ⟨g, h2, h3, h4, h5, h6, h7, h8⟩ := h
  obtain ⟨⟨b1, b2, b3⟩, b4, b5, b6, b7, b8, -⟩ := hb
  refine ⟨⟨⟨e1.trans b1, hY.1, hY.2.1⟩, e4.trans b6, b7, fun j hj => ?_⟩, fun j hj => ?_, fun t ht => ?_, (eo 5 (by decide) (by decide)).trans h4, (eo 6 (by decide) (by decide)).trans h5, ?_, (eo 8 (by decide) (by decide)).trans h7, (eo 9 (by decide) (by decide)).trans h8⟩
  · show jL Y j 4 = 0 ∨ jL Y j 4 = 1
    rw [hY.2.2 j hj]
    exact hm _ (List.mem_of_getElem? (b5 j hj))
  · show ls[j]? = some (jL Y j)
    rw [hY.2.2 j hj]
    exact b5 j hj
  · show rs[t]? = some (A1 0 t, A1 1 t)
    rw [(eA t ht).1, (eA t ht).2]
    exact b8 t ht
  · show (A1 2 0, A1 2 1, A1 2 2) = _
    rw [e2]; exact h6
set_option maxHeartbeats 1000000 in
set_option maxRecDepth 100000 in
theorem c_X6_load (g : jG) (a : Nat) (T : St3) (b : List va_W) (h : CW g a T b) : Con g yX6_load cX6_load 2 (some .int) 7 144 36 314 [.ref a] b (fun rr bb => rr = some (.int (oLoad T).1) ∧ CW g a (oLoad T).2 bb) := by
  obtain ⟨dt, dn, du, dh, dr, dp, It, ft, In, An, Xn, Iu, Au, Xu, Ih, K, Ar, Ip, Ap, rfl, hCI⟩ := h
  obtain ⟨hB, hu, hH, hT, hp2, hp0, hpl⟩ := id hCI
  obtain ⟨⟨hg1, hg2, hg3, hg4⟩, hb2, hb3, hb5, hb6, hb7, hb8, hb9⟩ := id hB
  have hg1 : bok In Xn (bLs T.1).length := hg1
  have hg2 : In 4 = nI (bRs T.1).length := hg2
  have hb5 : In 5 = bNeed T.1 := hb5
  have hk10 : (bLs T.1).length ≤ 10 := Nat.le_trans hg1.2.1 hg1.2.2
  refine Con.of (own := RX6) (lv := [(0, .ref a)]) (by decide) rfl (Nat.le_of_ble_eq_true rfl) rfl ?_
  intro E hC hQ hN
  refine j_aload_n hC dX6_load_0 rfl rfl ?_
  refine j_get hC uX6 0 0 0 rfl rfl k190 rfl dX6_load_1 ?_
  refine j_aload_n hC dX6_load_4 rfl rfl ?_
  refine j_get hC uX6 0 0 2 rfl rfl k192 rfl dX6_load_5 ?_
  refine j_callV hC [1, 4, 5] (c_X5_readInto g _ It ft _ Iu Au Xu hu) mX5_readInto k225 rfl rfl rfl rfl rfl ⟨(Nat.le_of_ble_eq_true rfl), (Nat.le_of_ble_eq_true rfl)⟩ (Nat.le_of_ble_eq_true rfl) ⟨(Nat.le_of_ble_eq_true rfl), (Nat.le_of_ble_eq_true rfl)⟩ dX6_load_8 (fun r_8 b_8 hp_8 _ => ?_)
  obtain ⟨I1, A1, Y, rfl, rfl, hbl⟩ := hp_8
  have hcg := rdT_of hT
  have hm := rInto_m (f := ft) 80 (upd (upd It 2 0) 3 (-1)) [] [] (fun L hL => absurd hL List.not_mem_nil)
  generalize hP : rInto ft 80 (upd (upd It 2 0) 3 (-1)) [] [] = P at hbl hcg hm ⊢
  dsimp only [jrepl, List.set, jstk]
  refine j_istore_n hC dX6_load_11 rfl rfl rfl rfl (fun v_11 e_11 => ?_)
  refine j_iload_n hC dX6_load_12 rfl rfl ?_
  refine j_iconst hC (-1) dX6_load_13 (by decide) ?_
  refine j_icmp_eq hC dX6_load_14 (tgt := 22) (by decide) (fun c_14 => ?_) (fun c_14 => ?_)
  · skip
    refine j_aload_n hC dX6_load_22 rfl rfl ?_
    refine j_callV hC [0, 1, 2, 3, 4, 5, 6, 7, 8, 9] (c_X6_remember g _ _ _ _ _ _ _ _ _ _ _ _ _ _ _ _ _ _ _ _ T.1 T.2.1 hB hH) mX6_remember k329 rfl rfl rfl rfl rfl ⟨(Nat.le_of_ble_eq_true rfl), (Nat.le_of_ble_eq_true rfl)⟩ (Nat.le_of_ble_eq_true rfl) ⟨(Nat.le_of_ble_eq_true rfl), (Nat.le_of_ble_eq_true rfl)⟩ dX6_load_23 (fun r_23 b_23 hp_23 _ => ?_)
    obtain ⟨rfl, Ih1, K1, rfl, hH1⟩ := hp_23
    dsimp only [jrepl, List.set, jstk]
    refine j_aload_n hC dX6_load_26 rfl rfl ?_
    refine j_get hC uX6 0 0 1 rfl rfl k191 rfl dX6_load_27 ?_
    refine j_aload_n hC dX6_load_30 rfl rfl ?_
    refine j_get hC uX6 0 0 2 rfl rfl k192 rfl dX6_load_31 ?_
    have hmm : ∀ j, j < P.2.1.length → jL Y j 4 = 0 ∨ jL Y j 4 = 1 := fun j hj => hm _ (List.mem_of_getElem? (hbl.2.2.1 j hj))
    refine j_callV hC [2, 3, 4, 5] (c_X0_copyLayout g _ _ _ _ _ _ _ _ P.2.1.length P.2.2.length hbl.1 hg1.2.2 hbl.2.2.2.1 hbl.2.2.2.2.1 hmm) mX0_copyLayout k382 rfl rfl rfl rfl rfl ⟨(Nat.le_of_ble_eq_true rfl), (Nat.le_of_ble_eq_true rfl)⟩ (Nat.le_of_ble_eq_true rfl) ⟨(Nat.le_of_ble_eq_true rfl), (Nat.le_of_ble_eq_true rfl)⟩ dX6_load_34 (fun r_34 b_34 hp_34 _ => ?_)
    obtain ⟨rfl, I2, A2, Z, rfl, q1, q4, qo, qY, qA, q2⟩ := hp_34
    dsimp only [jrepl, List.set, jstk]
    refine j_aload_n hC dX6_load_37 rfl rfl ?_
    refine j_get hC uX6 0 0 1 rfl rfl k191 rfl dX6_load_38 ?_
    refine j_get hC uX0 2 0 1 rfl rfl k98 rfl dX6_load_41 ?_
    refine j_bipush hC (100) dX6_load_44 (by decide) ?_
    refine j_aload_n hC dX6_load_46 rfl rfl ?_
    refine j_get hC uX6 0 0 1 rfl rfl k191 rfl dX6_load_47 ?_
    refine j_get hC uX0 2 0 4 rfl rfl k103 rfl dX6_load_50 ?_
    refine j_imul hC dX6_load_53 ?_
    refine j_iadd hC dX6_load_54 ?_
    refine j_iret hC hQ rfl rfl (Nat.le_of_ble_eq_true rfl) (Nat.le_of_ble_eq_true rfl) dX6_load_55 rfl ?_
    exact cw_o (T := oPush T (sRs (sLs T.1 P.2.1) P.2.2)) (by unfold oLoad; rw [if_pos (by rw [← hcg.1.2.2.2, ← e_11]; exact c_14), ← hcg.2, q1, q4, hbl.1.1, hbl.2.2.2.1]) (CW.mk ⟨isB_laid hB hbl hm q1 q4 qo qY qA q2, hbl.1.2.2, hH1, ⟨hcg.1.1, hT.2.1, hT.2.2⟩, hp2, hp0, Or.inl rfl⟩)
  · skip
    refine j_bipush hC (-10) dX6_load_17 (by decide) ?_
    refine j_iload_n hC dX6_load_19 rfl rfl ?_
    refine j_isub hC dX6_load_20 ?_
    refine j_iret hC hQ rfl rfl (Nat.le_of_ble_eq_true rfl) (Nat.le_of_ble_eq_true rfl) dX6_load_21 rfl ?_
    exact cw_o (T := T) (by unfold oLoad; rw [if_neg (by rw [← hcg.1.2.2.2, ← e_11]; exact c_14), e_11, hcg.1.2.2.2]) (CW.mk ⟨hB, hbl.1.2.2, hH, ⟨hcg.1.1, hT.2.1, hT.2.2⟩, hp2, hp0, hpl⟩)
