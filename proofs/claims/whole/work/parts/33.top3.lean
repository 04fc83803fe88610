/-! counts and times, of the state alone -/
theorem lookN_congr {need : Int32} {X Y : List (Nat × jF)} {k q : Nat} (h : xeq X Y k) : lookN need X k q = lookN need Y k q := jiter_congr (fun i hi x => by unfold lookStep; rw [h i hi])
theorem minG_congr {X Y : List (Nat × jF)} {k q : Nat} {s : Int32} (h : xeq X Y k) : minG X k s q = minG Y k s q := jiter_congr (fun i hi x => by unfold minStep; rw [h i hi])
theorem minN_congr {X Y : List (Nat × jF)} {k a b : Nat} {s : Int32} (h : xeq X Y k) : minN X k s a b = minN Y k s a b := by
  unfold minN
  rw [minG_congr h]
  exact jiter_congr (fun i hi x => by rw [minG_congr h])
theorem darkX_congr {need : Int32} {X Y : List (Nat × jF)} {k a b : Nat} {s : Int32} (h : xeq X Y k) : darkX need X k a b s = darkX need Y k a b s := jiter_congr (fun i hi x => by rw [lookN_congr h])
def sRdy (S : BS) : Int32 := jiter (cReady (bNeed S) (lsX (bLs S))) 0 (bLs S).length
def sBurnt (S : BS) : Int32 := jiter (cBurnt (lsX (bLs S))) 0 (bLs S).length
def sReach (S : BS) (p r : Int32) : Int32 := jiter (cReach (bNeed S) (lsX (bLs S)) p r) 0 (bLs S).length
def sDark (S : BS) (a b : Nat) (s : Int32) : Int32 := darkX (bNeed S) (lsX (bLs S)) (bLs S).length a b s
def sMin (S : BS) (s : Int32) (a b : Nat) : Int32 := minN (lsX (bLs S)) (bLs S).length s a b
def sWo (S : BS) (c : Int32) : Int32 := jiter (cOther (lsX (bLs S)) c) 0 (bLs S).length
def sWc (S : BS) (a b : Nat) : Int32 := (jiter (fun t (s : Int32 × Int32) => if sMin S (sWo S (nI (t + 1))) a b < s.2 then (nI (t + 1), sMin S (sWo S (nI (t + 1))) a b) else s) (0, sMin S (sWo S 0) a b) 3).1
def sSafe (S : BS) : Int32 := jiter (fun j n => if sDark S (raS S j) (rbS S j) 1023 = 0 then n + 1 else n) 0 (bRs S).length
abbrev hldS (S : BS) (s : Int32) : Prop := ¬ s < 0 ∧ ¬ (1 <<< (nI (bLs S).length &&& 31)) ≤ s
abbrev alwAt (S : BS) (s : Int32) (r : Nat) : Prop := ¬ (sDark S (raS S r) (rbS S r) 1023 = 0 ∧ 0 < sDark S (raS S r) (rbS S r) (s ^^^ -1))
def alw (S : BS) (s : Int32) : Bool := (List.range (bRs S).length).all (fun r => decide (alwAt S s r))
theorem isB_rdy {d : Nat → Nat} {I : jF} {A : Nat → jF} {X : List (Nat × jF)} {S : BS} (h : isB (d, I, A, X) S) : jiter (cReady (I 5) X) 0 (bLs S).length = sRdy S := jiter_congr (fun i hi x => by unfold cReady; rw [show jL X i = jL (lsX (bLs S)) i from isB_xeq h i hi, show I 5 = bNeed S from h.2.2.2.1])
theorem isB_burnt {d : Nat → Nat} {I : jF} {A : Nat → jF} {X : List (Nat × jF)} {S : BS} (h : isB (d, I, A, X) S) : jiter (cBurnt X) 0 (bLs S).length = sBurnt S := jiter_congr (fun i hi x => by unfold cBurnt; rw [show jL X i = jL (lsX (bLs S)) i from isB_xeq h i hi])
theorem isB_reach {d : Nat → Nat} {I : jF} {A : Nat → jF} {X : List (Nat × jF)} {S : BS} {p r : Int32} (h : isB (d, I, A, X) S) : jiter (cReach (I 5) X p r) 0 (bLs S).length = sReach S p r := jiter_congr (fun i hi x => by unfold cReach; rw [show jL X i = jL (lsX (bLs S)) i from isB_xeq h i hi, show I 5 = bNeed S from h.2.2.2.1])
theorem isB_dark {d : Nat → Nat} {I : jF} {A : Nat → jF} {X : List (Nat × jF)} {S : BS} {a b : Nat} {s : Int32} (h : isB (d, I, A, X) S) : darkX (I 5) X (bLs S).length a b s = sDark S a b s := by
  rw [show I 5 = bNeed S from h.2.2.2.1]; exact darkX_congr (isB_xeq h)
theorem isB_min {d : Nat → Nat} {I : jF} {A : Nat → jF} {X : List (Nat × jF)} {S : BS} {a b : Nat} {s : Int32} (h : isB (d, I, A, X) S) : minN X (bLs S).length s a b = sMin S s a b := minN_congr (isB_xeq h)
theorem isB_wo {d : Nat → Nat} {I : jF} {A : Nat → jF} {X : List (Nat × jF)} {S : BS} {c : Int32} (h : isB (d, I, A, X) S) : jiter (cOther X c) 0 (bLs S).length = sWo S c := jiter_congr (fun i hi x => by unfold cOther; rw [show jL X i = jL (lsX (bLs S)) i from isB_xeq h i hi])
theorem isB_safe {d : Nat → Nat} {I : jF} {A : Nat → jF} {X : List (Nat × jF)} {S : BS} (h : isB (d, I, A, X) S) : jiter (fun j n => if darkX (I 5) X (bLs S).length (raS S j) (rbS S j) 1023 = 0 then n + 1 else n) 0 (bRs S).length = sSafe S := jiter_congr (fun i hi x => by rw [isB_dark h])
def oReaching (T : St3) (p r : Int32) : Int32 × St3 := if okPlace p then (sReach T.1 p r, T) else (-1, T)
def oLasts (T : St3) (r s : Int32) : Int32 × St3 := if hLX r (bRs T.1).length ∧ hldS T.1 s then (sMin T.1 s (raS T.1 r.toNatClampNeg) (rbS T.1 r.toNatClampNeg), T) else (-1, T)
def oAllowed (T : St3) (s : Int32) : Int32 × St3 := if hldS T.1 s then (if alw T.1 s = true then 1 else 0, T) else (-1, T)
def raV (S : BS) (x w : Int32) : Int32 := if w = 0 then nI (raS S x.toNatClampNeg) else if w = 1 then nI (rbS S x.toNatClampNeg) else if w = 2 then sDark S (raS S x.toNatClampNeg) (rbS S x.toNatClampNeg) 1023 else if w = 3 then (if sDark S (raS S x.toNatClampNeg) (rbS S x.toNatClampNeg) 1023 = 0 then 1 else 0) else if w = 4 then sMin S 1023 (raS S x.toNatClampNeg) (rbS S x.toNatClampNeg) else if w = 5 then sMin S (sWo S (sWc S (raS S x.toNatClampNeg) (rbS S x.toNatClampNeg))) (raS S x.toNatClampNeg) (rbS S x.toNatClampNeg) else sWc S (raS S x.toNatClampNeg) (rbS S x.toNatClampNeg)
def oRouteAt (T : St3) (x w : Int32) : Int32 × St3 := if hLX x (bRs T.1).length ∧ ¬ w < 0 ∧ ¬ 6 < w then (raV T.1 x w, T) else (-1, T)
def oUndo (T : St3) : Int32 × St3 := match T.2.1 with
  | [] => (-2, T)
  | S :: hs => (nI hs.length, (S, hs, T.2.2))
theorem hlds_of {I : jF} {S : BS} {s : Int32} (h : I 1 = nI (bLs S).length) : holdsP I s ↔ hldS S s := by
  show (¬ s < 0 ∧ ¬ (1 <<< (I 1 &&& 31)) ≤ s) ↔ _
  rw [h]
set_option maxHeartbeats 1000000 in
set_option maxRecDepth 100000 in
theorem c_X6_reaching (g : jG) (a : Nat) (T : St3) (b : List va_W) (p r : Int32) (h : CW g a T b) : Con g yX6_reaching cX6_reaching 3 (some .int) 4 86 0 0 [.ref a, .int p, .int r] b (fun rr bb => rr = some (.int (oReaching T p r).1) ∧ CW g a (oReaching T p r).2 bb) := by
  obtain ⟨dt, dn, du, dh, dr, dp, It, ft, In, An, Xn, Iu, Au, Xu, Ih, K, Ar, Ip, Ap, rfl, hCI⟩ := h
  obtain ⟨hB, hu, hH, hT, hp2, hp0, hpl⟩ := id hCI
  obtain ⟨⟨hg1, hg2, hg3, hg4⟩, hb2, hb3, hb5, hb6, hb7, hb8, hb9⟩ := id hB
  have hg1 : bok In Xn (bLs T.1).length := hg1
  have hg2 : In 4 = nI (bRs T.1).length := hg2
  have hb5 : In 5 = bNeed T.1 := hb5
  have hk10 : (bLs T.1).length ≤ 10 := Nat.le_trans hg1.2.1 hg1.2.2
  refine Con.of (own := RX6) (lv := [(0, .ref a), (1, .int p), (2, .int r)]) (by decide) rfl (Nat.le_of_ble_eq_true rfl) rfl ?_
  intro E hC hQ hN
  refine j_iload_n hC dX6_reaching_0 rfl rfl ?_
  refine j_callSR hC [] (c_X6_isPlace g _) mX6_isPlace k387 rfl rfl rfl ⟨(Nat.le_of_ble_eq_true rfl), (Nat.le_of_ble_eq_true rfl)⟩ (Nat.le_of_ble_eq_true rfl) ⟨(Nat.le_of_ble_eq_true rfl), (Nat.le_of_ble_eq_true rfl)⟩ dX6_reaching_1 ?_
  dsimp only [jrepl, List.set, jstk]
  refine j_if_eq hC dX6_reaching_4 (tgt := 19) (by decide) (fun c_4 => ?_) (fun c_4 => ?_)
  · skip
    refine j_iconst hC (-1) dX6_reaching_19 (by decide) ?_
    refine j_iret hC hQ rfl rfl (Nat.le_of_ble_eq_true rfl) (Nat.le_of_ble_eq_true rfl) dX6_reaching_20 rfl ?_
    first | (have hp := jb1 c_4; rw [show jiter (cReach (In 5) Xn p r) 0 (bLs T.1).length = sReach T.1 p r from isB_reach hB]; exact cw_o (T := T) (by unfold oReaching; rw [if_pos hp]) (CW.mk hCI)) | exact cw_o (T := T) (by unfold oReaching; rw [if_neg (jb0 c_4)]) (CW.mk hCI)
  · skip
    refine j_aload_n hC dX6_reaching_7 rfl rfl ?_
    refine j_get hC uX6 0 0 1 rfl rfl k191 rfl dX6_reaching_8 ?_
    refine j_iload_n hC dX6_reaching_11 rfl rfl ?_
    refine j_iload_n hC dX6_reaching_12 rfl rfl ?_
    refine j_callVR hC [2, 3] (c_X0_countReaching g _ _ _ _ _ _ _ hg1) mX0_countReaching k651 rfl rfl rfl rfl rfl ⟨(Nat.le_of_ble_eq_true rfl), (Nat.le_of_ble_eq_true rfl)⟩ (Nat.le_of_ble_eq_true rfl) ⟨(Nat.le_of_ble_eq_true rfl), (Nat.le_of_ble_eq_true rfl)⟩ dX6_reaching_13 ?_
    dsimp only [jrepl, List.set, jstk]
    refine j_goto hC dX6_reaching_16 (tgt := 20) (by decide) ?_
    refine j_iret hC hQ rfl rfl (Nat.le_of_ble_eq_true rfl) (Nat.le_of_ble_eq_true rfl) dX6_reaching_20 rfl ?_
    first | (have hp := jb1 c_4; rw [show jiter (cReach (In 5) Xn p r) 0 (bLs T.1).length = sReach T.1 p r from isB_reach hB]; exact cw_o (T := T) (by unfold oReaching; rw [if_pos hp]) (CW.mk hCI)) | exact cw_o (T := T) (by unfold oReaching; rw [if_neg (jb0 c_4)]) (CW.mk hCI)
set_option maxHeartbeats 1000000 in
set_option maxRecDepth 100000 in
theorem c_X6_lasts (g : jG) (a : Nat) (T : St3) (b : List va_W) (x s : Int32) (h : CW g a T b) (hw : rswf (bRs T.1)) : Con g yX6_lasts cX6_lasts 3 (some .int) 4 94 0 0 [.ref a, .int x, .int s] b (fun rr bb => rr = some (.int (oLasts T x s).1) ∧ CW g a (oLasts T x s).2 bb) := by
  obtain ⟨dt, dn, du, dh, dr, dp, It, ft, In, An, Xn, Iu, Au, Xu, Ih, K, Ar, Ip, Ap, rfl, hCI⟩ := h
  obtain ⟨hB, hu, hH, hT, hp2, hp0, hpl⟩ := id hCI
  obtain ⟨⟨hg1, hg2, hg3, hg4⟩, hb2, hb3, hb5, hb6, hb7, hb8, hb9⟩ := id hB
  have hg1 : bok In Xn (bLs T.1).length := hg1
  have hg2 : In 4 = nI (bRs T.1).length := hg2
  have hb5 : In 5 = bNeed T.1 := hb5
  have hk10 : (bLs T.1).length ≤ 10 := Nat.le_trans hg1.2.1 hg1.2.2
  refine Con.of (own := RX6) (lv := [(0, .ref a), (1, .int x), (2, .int s)]) (by decide) rfl (Nat.le_of_ble_eq_true rfl) rfl ?_
  intro E hC hQ hN
  refine j_aload_n hC dX6_lasts_0 rfl rfl ?_
  refine j_get hC uX6 0 0 1 rfl rfl k191 rfl dX6_lasts_1 ?_
  refine j_iload_n hC dX6_lasts_4 rfl rfl ?_
  refine j_callVR hC [2] (c_X0_hasRoute g _ _ _ _ _) mX0_hasRoute k417 rfl rfl rfl rfl rfl ⟨(Nat.le_of_ble_eq_true rfl), (Nat.le_of_ble_eq_true rfl)⟩ (Nat.le_of_ble_eq_true rfl) ⟨(Nat.le_of_ble_eq_true rfl), (Nat.le_of_ble_eq_true rfl)⟩ dX6_lasts_5 ?_
  dsimp only [jrepl, List.set, jstk]
  refine j_if_eq hC dX6_lasts_8 (tgt := 22) (by decide) (fun c_8 => ?_) (fun c_8 => ?_)
  · skip
    refine j_iconst hC (-1) dX6_lasts_22 (by decide) ?_
    refine j_iret hC hQ rfl rfl (Nat.le_of_ble_eq_true rfl) (Nat.le_of_ble_eq_true rfl) dX6_lasts_23 rfl ?_
    first | exact cw_o (T := T) (by unfold oLasts; rw [if_neg (fun q => jb0 c_8 (hLX_hasR hg2 hg3 q.1))]) (CW.mk hCI) | exact cw_o (T := T) (by unfold oLasts; rw [if_neg (fun q => jb0 c_19 ((hlds_of hg1.1).mpr q.2))]) (CW.mk hCI) | exact cw_o (T := T) (by unfold oLasts; rw [if_pos ⟨hlx, (hlds_of hg1.1).mp (jb1 c_19)⟩, hcl]; exact congrArg (fun z => (z, T)) (isB_min hB).symm) (CW.mk hCI)
  · skip
    refine j_aload_n hC dX6_lasts_11 rfl rfl ?_
    refine j_get hC uX6 0 0 1 rfl rfl k191 rfl dX6_lasts_12 ?_
    refine j_iload_n hC dX6_lasts_15 rfl rfl ?_
    refine j_callVR hC [2] (c_X0_holds g _ _ _ _ _) mX0_holds k586 rfl rfl rfl rfl rfl ⟨(Nat.le_of_ble_eq_true rfl), (Nat.le_of_ble_eq_true rfl)⟩ (Nat.le_of_ble_eq_true rfl) ⟨(Nat.le_of_ble_eq_true rfl), (Nat.le_of_ble_eq_true rfl)⟩ dX6_lasts_16 ?_
    dsimp only [jrepl, List.set, jstk]
    refine j_if_ne hC dX6_lasts_19 (tgt := 24) (by decide) (fun c_19 => ?_) (fun c_19 => ?_)
    · skip
      have hlx : hLX x (bRs T.1).length := ⟨(jb1 c_8).1, by rw [← hg2]; exact (jb1 c_8).2.1⟩
      obtain ⟨j, hj, hx⟩ := hLX_nat (by omega) hlx
      have hcl : x.toNatClampNeg = j := by rw [hx, nI_cl (by omega)]
      obtain ⟨hr1, hr2, hr3, hr4⟩ := isB_rok hB hw j hj
      have hff := (firstP_nat (A := An) hg2 hg3 hj hx).trans hr1
      have hll := (lastP_nat (A := An) hg2 hg3 hj hx).trans hr2
      refine j_aload_n hC dX6_lasts_24 rfl rfl ?_
      refine j_get hC uX6 0 0 4 rfl rfl k194 rfl dX6_lasts_25 ?_
      refine j_aload_n hC dX6_lasts_28 rfl rfl ?_
      refine j_get hC uX6 0 0 1 rfl rfl k191 rfl dX6_lasts_29 ?_
      refine j_iload_n hC dX6_lasts_32 rfl rfl ?_
      refine j_iload_n hC dX6_lasts_33 rfl rfl ?_
      refine j_callV hC [8, 2, 3] (c_X4_minutes g _ _ _ _ _ _ _ (raS T.1 j) (rbS T.1 j) _ _ hg1 hff hll hr3 hr4) mX4_minutes k624 rfl rfl rfl rfl rfl ⟨(Nat.le_of_ble_eq_true rfl), (Nat.le_of_ble_eq_true rfl)⟩ (Nat.le_of_ble_eq_true rfl) ⟨(Nat.le_of_ble_eq_true rfl), (Nat.le_of_ble_eq_true rfl)⟩ dX6_lasts_34 (fun r_34 b_34 hp_34 _ => ?_)
      obtain ⟨A1, rfl, rfl, hA1⟩ := hp_34
      dsimp only [jrepl, List.set, jstk]
      refine j_iret hC hQ rfl rfl (Nat.le_of_ble_eq_true rfl) (Nat.le_of_ble_eq_true rfl) dX6_lasts_37 rfl ?_
      first | exact cw_o (T := T) (by unfold oLasts; rw [if_neg (fun q => jb0 c_8 (hLX_hasR hg2 hg3 q.1))]) (CW.mk hCI) | exact cw_o (T := T) (by unfold oLasts; rw [if_neg (fun q => jb0 c_19 ((hlds_of hg1.1).mpr q.2))]) (CW.mk hCI) | exact cw_o (T := T) (by unfold oLasts; rw [if_pos ⟨hlx, (hlds_of hg1.1).mp (jb1 c_19)⟩, hcl]; exact congrArg (fun z => (z, T)) (isB_min hB).symm) (CW.mk hCI)
    · skip
      refine j_iconst hC (-1) dX6_lasts_22 (by decide) ?_
      refine j_iret hC hQ rfl rfl (Nat.le_of_ble_eq_true rfl) (Nat.le_of_ble_eq_true rfl) dX6_lasts_23 rfl ?_
      first | exact cw_o (T := T) (by unfold oLasts; rw [if_neg (fun q => jb0 c_8 (hLX_hasR hg2 hg3 q.1))]) (CW.mk hCI) | exact cw_o (T := T) (by unfold oLasts; rw [if_neg (fun q => jb0 c_19 ((hlds_of hg1.1).mpr q.2))]) (CW.mk hCI) | exact cw_o (T := T) (by unfold oLasts; rw [if_pos ⟨hlx, (hlds_of hg1.1).mp (jb1 c_19)⟩, hcl]; exact congrArg (fun z => (z, T)) (isB_min hB).symm) (CW.mk hCI)
