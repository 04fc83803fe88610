/-! what a text says does not depend on how it is held -/
def tEq (n : Nat) (I J : jF) : Prop := I 1 = nI n ∧ J 1 = nI n ∧ I 2 = J 2 ∧ I 3 = J 3
def fEq (n : Nat) (f h : jF) : Prop := ∀ i, i < n → f i = h i
theorem tPk_cg {n : Nat} {I J f h : jF} (hn : n ≤ 80) (he : tEq n I J) (hf : fEq n f h) : tPk I f = tPk J h := by
  obtain ⟨e1, e2, e3, e4⟩ := he
  unfold tPk
  rw [e1, e2, e3]
  by_cases c : ¬ J 2 < 0 ∧ ¬ nI n ≤ J 2 ∧ ¬ 80 ≤ J 2
  · rw [if_pos c, if_pos c]
    obtain ⟨j, hj, hx⟩ := hLX_nat (x := J 2) (n := n) (by omega) ⟨c.1, c.2.1⟩
    rw [hx, nI_cl (by omega)]
    exact hf j hj
  · rw [if_neg c, if_neg c]
theorem tFl_cg {n : Nat} {I J : jF} {w : Int32} (he : tEq n I J) : tEq n (tFl I w) (tFl J w) := by
  obtain ⟨e1, e2, e3, e4⟩ := he
  unfold tFl
  rw [e4]
  by_cases c : J 3 = -1
  · rw [if_pos c, if_pos c]; exact ⟨e1, e2, e3, rfl⟩
  · rw [if_neg c, if_neg c]; exact ⟨e1, e2, e3, e4⟩
theorem tUp_cg {n : Nat} {I J : jF} (he : tEq n I J) : tEq n (upd I 2 (I 2 + 1)) (upd J 2 (J 2 + 1)) := by
  obtain ⟨e1, e2, e3, e4⟩ := he
  rw [e3]
  exact ⟨e1, e2, rfl, e4⟩
theorem tEx_cg {n : Nat} {I J f h : jF} {c : Int32} (hn : n ≤ 80) (he : tEq n I J) (hf : fEq n f h) : tEq n (tEx I f c) (tEx J h c) := by
  unfold tEx
  rw [tPk_cg hn he hf]
  by_cases q : tPk J h = c
  · rw [if_pos q, if_pos q]; exact tUp_cg he
  · rw [if_neg q, if_neg q, he.2.2.1]; exact tFl_cg he
theorem rnl_cg {n : Nat} {f h : jF} (hn : n ≤ 80) (hf : fEq n f h) : ∀ (m : Nat) (I J : jF) (v : Int32), tEq n I J → tEq n (rnl f m I v).1 (rnl h m J v).1 ∧ (rnl f m I v).2 = (rnl h m J v).2
  | 0, I, J, v, he => ⟨he, rfl⟩
  | m + 1, I, J, v, he => by
    have hp := tPk_cg hn he hf
    by_cases c : tDig J h
    · have c2 : tDig I f := by show ¬ tPk I f < 48 ∧ ¬ 57 < tPk I f; rw [hp]; exact c
      rw [rnl_1 c, rnl_1 c2, hp]
      exact rnl_cg hn hf m _ _ _ (tUp_cg he)
    · have c2 : ¬ tDig I f := by show ¬ (¬ tPk I f < 48 ∧ ¬ 57 < tPk I f); rw [hp]; exact c
      rw [rnl_2 c, rnl_2 c2]
      exact ⟨he, rfl⟩
theorem rnF_cg {n m : Nat} {I J f h : jF} {lo hi : Int32} (hn : n ≤ 80) (he : tEq n I J) (hf : fEq n f h) : tEq n (rnF I f m lo hi) (rnF J h m lo hi) := by
  obtain ⟨h1, h2⟩ := rnl_cg hn hf m I J 0 he
  have hp := tPk_cg hn h1 hf
  unfold rnF
  have d : tDig (rnl f m I 0).1 f = tDig (rnl h m J 0).1 h := by
    show (¬ tPk (rnl f m I 0).1 f < 48 ∧ ¬ 57 < tPk (rnl f m I 0).1 f) = _
    rw [hp]
  rw [h1.2.2.1, h2, he.2.2.1]
  by_cases c : (rnl h m J 0).1 2 = J 2 ∨ tDig (rnl h m J 0).1 h
  · rw [if_pos c, if_pos (by rw [d]; exact c)]; exact tFl_cg h1
  · rw [if_neg c, if_neg (by rw [d]; exact c)]
    by_cases c2 : (rnl h m J 0).2 < lo ∨ ¬ (rnl h m J 0).2 ≤ hi
    · rw [if_pos c2, if_pos c2]; exact tFl_cg h1
    · rw [if_neg c2, if_neg c2]; exact h1
theorem lE_cg {n m : Nat} {I J f h : jF} {c lo hi : Int32} (hn : n ≤ 80) (he : tEq n I J) (hf : fEq n f h) : tEq n (lE I f c m lo hi) (lE J h c m lo hi) := rnF_cg hn (tEx_cg hn he hf) hf
theorem lV_cg {n m : Nat} {I J f h : jF} {c : Int32} (hn : n ≤ 80) (he : tEq n I J) (hf : fEq n f h) : lV I f c m = lV J h c m := (rnl_cg hn hf m _ _ 0 (tEx_cg hn he hf)).2
theorem rl_cg {n : Nat} {I J f h : jF} (hn : n ≤ 80) (he : tEq n I J) (hf : fEq n f h) : tEq n (rlZ I f) (rlZ J h) ∧ rlL I f = rlL J h := by
  have hA : tEq n (rlA I f) (rlA J h) := lE_cg hn he hf
  have hB : tEq n (rlB I f) (rlB J h) := lE_cg hn hA hf
  have hC : tEq n (rlC I f) (rlC J h) := lE_cg hn hB hf
  have hD : tEq n (rlD I f) (rlD J h) := lE_cg hn hC hf
  have hp := tPk_cg hn hD hf
  have hM : rlM I f = rlM J h := by unfold rlM; rw [hp]
  refine ⟨?_, ?_⟩
  · unfold rlZ
    rw [hp]
    by_cases q : tPk (rlD J h) h = 109
    · rw [if_pos q, if_pos q]; exact tEx_cg hn (tEx_cg hn hD hf) hf
    · rw [if_neg q, if_neg q]; exact tEx_cg hn hD hf
  · unfold rlL
    rw [hM, lV_cg hn he hf, lV_cg hn hA hf, lV_cg hn hB hf, lV_cg hn hC hf]
theorem rr_cg {n : Nat} {I J f h : jF} (hn : n ≤ 80) (he : tEq n I J) (hf : fEq n f h) : tEq n (rrZ I f) (rrZ J h) ∧ rrF I f = rrF J h ∧ rrT I f = rrT J h := by
  have hA : tEq n (rrA I f) (rrA J h) := lE_cg hn he hf
  refine ⟨?_, lV_cg hn he hf, lV_cg hn hA hf⟩
  unfold rrZ
  rw [lV_cg hn he hf]
  exact tEx_cg hn (lE_cg hn hA hf) hf
theorem rInto_cg {n : Nat} {f h : jF} (hn : n ≤ 80) (hf : fEq n f h) : ∀ (fu : Nat) (I J : jF) (ls : List jF) (rs : List (Int32 × Int32)), tEq n I J → tEq n (rInto f fu I ls rs).1 (rInto h fu J ls rs).1 ∧ (rInto f fu I ls rs).2 = (rInto h fu J ls rs).2
  | 0, I, J, ls, rs, he => ⟨he, rfl⟩
  | fu + 1, I, J, ls, rs, he => by
    have hp := tPk_cg hn he hf
    obtain ⟨l1, l2⟩ := rl_cg hn he hf
    obtain ⟨r1, r2, r3⟩ := rr_cg hn he hf
    by_cases c : ¬ J 1 ≤ J 2 ∧ J 3 = -1
    · have cI : ¬ I 1 ≤ I 2 ∧ I 3 = -1 := by rw [he.1, he.2.2.1, he.2.2.2, ← he.2.1]; exact c
      by_cases c2 : tPk J h = 112 ∧ ls.length < 10
      · have c2I : tPk I f = 112 ∧ ls.length < 10 := by rw [hp]; exact c2
        rw [rInto_a c c2, rInto_a cI c2I, l1.2.2.2, l2]
        exact rInto_cg hn hf fu _ _ _ _ l1
      · have c2I : ¬ (tPk I f = 112 ∧ ls.length < 10) := by rw [hp]; exact c2
        by_cases c3 : tPk J h = 114 ∧ rs.length < 6
        · have c3I : tPk I f = 114 ∧ rs.length < 6 := by rw [hp]; exact c3
          rw [rInto_b c c2 c3, rInto_b cI c2I c3I, r1.2.2.2, r2, r3]
          exact rInto_cg hn hf fu _ _ _ _ r1
        · have c3I : ¬ (tPk I f = 114 ∧ rs.length < 6) := by rw [hp]; exact c3
          rw [rInto_c c c2 c3, rInto_c cI c2I c3I, he.2.2.1]
          exact rInto_cg hn hf fu _ _ _ _ (tFl_cg he)
    · have cI : ¬ (¬ I 1 ≤ I 2 ∧ I 3 = -1) := by rw [he.1, he.2.2.1, he.2.2.2, ← he.2.1]; exact c
      rw [rInto_0 c, rInto_0 cI]
      exact ⟨he, rfl⟩
theorem rInto_m {f : jF} : ∀ (fu : Nat) (I : jF) (ls : List jF) (rs : List (Int32 × Int32)), (∀ L ∈ ls, L 4 = 0 ∨ L 4 = 1) → ∀ L ∈ (rInto f fu I ls rs).2.1, L 4 = 0 ∨ L 4 = 1
  | 0, I, ls, rs, h => h
  | fu + 1, I, ls, rs, h => by
    by_cases c : ¬ I 1 ≤ I 2 ∧ I 3 = -1
    · by_cases c2 : tPk I f = 112 ∧ ls.length < 10
      · rw [rInto_a c c2]
        refine rInto_m fu _ _ _ ?_
        by_cases z : rlZ I f 3 = -1
        · rw [if_pos z]
          intro L hL
          rcases List.mem_append.mp hL with q | q
          · exact h L q
          · rw [List.mem_singleton.mp q]
            show rlM I f = 0 ∨ rlM I f = 1
            unfold rlM
            by_cases w : tPk (rlD I f) f = 109
            · rw [if_pos w]; exact Or.inr rfl
            · rw [if_neg w]; exact Or.inl rfl
        · rw [if_neg z]; exact h
      · by_cases c3 : tPk I f = 114 ∧ rs.length < 6
        · rw [rInto_b c c2 c3]; exact rInto_m fu _ _ _ h
        · rw [rInto_c c c2 c3]; exact rInto_m fu _ _ _ h
    · rw [rInto_0 c]; exact h
/-- what is read of a text -/
def txF (ts : List Int32) : jF := fun i => ts.getD i 0
def txI (ts : List Int32) : jF := fun i => if i = 1 then nI ts.length else if i = 3 then -1 else 0
def rdT (ts : List Int32) : jF × List jF × List (Int32 × Int32) := rInto (txF ts) 80 (txI ts) [] []
theorem rdT_of {It ft : jF} {ts : List Int32} (h : ctext It ft ts) : tEq ts.length (rInto ft 80 (upd (upd It 2 0) 3 (-1)) [] []).1 (rdT ts).1 ∧ (rInto ft 80 (upd (upd It 2 0) 3 (-1)) [] []).2 = (rdT ts).2 := by
  obtain ⟨h1, h2, h3⟩ := h
  refine rInto_cg h2 (fun i hi => ?_) 80 _ _ [] [] ⟨h1, rfl, rfl, rfl⟩
  unfold txF
  rw [List.getD_eq_getElem?_getD, h3 i hi, Option.getD_some]
def oLoad (T : St3) : Int32 × St3 := if (rdT T.2.2).1 3 = -1 then (nI (rdT T.2.2).2.1.length + 100 * nI (rdT T.2.2).2.2.length, oPush T (sRs (sLs T.1 (rdT T.2.2).2.1) (rdT T.2.2).2.2)) else (-10 - (rdT T.2.2).1 3, T)
theorem isB_laid {d : Nat → Nat} {I : jF} {A : Nat → jF} {X : List (Nat × jF)} {S : BS} {I1 : jF} {A1 : Nat → jF} {Y : List (Nat × jF)} {Iu I2 : jF} {Au A2 : Nat → jF} {X2 : List (Nat × jF)} {ls : List jF} {rs : List (Int32 × Int32)} (h : isB (d, I, A, X) S) (hb : blaid Iu Au I2 A2 X2 ls rs) (hm : ∀ L ∈ ls, L 4 = 0 ∨ L 4 = 1)
    (e1 : I1 1 = I2 1) (e4 : I1 4 = I2 4) (eo : ∀ f, f ≠ 1 → f ≠ 4 → I1 f = I f) (hY : lsame Y X2 ls.length) (eA : ∀ t, t < rs.length → A1 0 t = A2 0 t ∧ A1 1 t = A2 1 t) (e2 : A1 2 = A 2) : isB (d, I1, A1, Y) (sRs (sLs S ls) rs) := by
  obtain ⟨g, h2, h3, h4, h5, h6, h7, h8⟩ := h
  obtain ⟨⟨b1, b2, b3⟩, b4, b5, b6, b7, b8, -⟩ := hb
  refine ⟨⟨⟨e1.trans b1, hY.1, hY.2.1⟩, e4.trans b6, b7, fun j hj => ?_⟩, fun j hj => ?_, fun t ht => ?_, (eo 5 (by decide) (by decide)).trans h4, (eo 6 (by decide) (by decide)).trans h5, ?_, (eo 8 (by decide) (by decide)).trans h7, (eo 9 (by decide) (by decide)).trans h8⟩
  · show jL Y j 4 = 0 ∨ jL Y j 4 = 1
    rw [hY.2.2 j hj]
    exact hm _ (List.mem_of_getElem? (b5 j hj))
  · show ls[j]? = some (jL Y j)
    rw [hY.2.2 j hj]
    exact b5 j hj
  · show rs[t]? = some (A1 0 t, A1 1 t)
    rw [(eA t ht).1, (eA t ht).2]
    exact b8 t ht
  · show (A1 2 0, A1 2 1, A1 2 2) = _
    rw [e2]; exact h6
