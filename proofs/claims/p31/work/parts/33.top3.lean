/-! counts and times, of the state alone -/
theorem lookN_congr {need : Int32} {X Y : List (Nat × jF)} {k q : Nat} (h : xeq X Y k) : lookN need X k q = lookN need Y k q := jiter_congr (fun i hi x => by unfold lookStep; rw [h i hi])
theorem minG_congr {X Y : List (Nat × jF)} {k q : Nat} {s : Int32} (h : xeq X Y k) : minG X k s q = minG Y k s q := jiter_congr (fun i hi x => by unfold minStep; rw [h i hi])
theorem minN_congr {X Y : List (Nat × jF)} {k a b : Nat} {s : Int32} (h : xeq X Y k) : minN X k s a b = minN Y k s a b := by
  unfold minN
  rw [minG_congr h]
  exact jiter_congr (fun i hi x => by rw [minG_congr h])
theorem darkX_congr {need : Int32} {X Y : List (Nat × jF)} {k a b : Nat} {s : Int32} (h : xeq X Y k) : darkX need X k a b s = darkX need Y k a b s := jiter_congr (fun i hi x => by rw [lookN_congr h])
def sRdy (S : BS) : Int32 := jiter (cReady (bNeed S) (lsX (bLs S))) 0 (bLs S).length
def sBurnt (S : BS) : Int32 := jiter (cBurnt (lsX (bLs S))) 0 (bLs S).length
def sReach (S : BS) (p r : Int32) : Int32 := jiter (cReach (bNeed S) (lsX (bLs S)) p r) 0 (bLs S).length
def sDark (S : BS) (a b : Nat) (s : Int32) : Int32 := darkX (bNeed S) (lsX (bLs S)) (bLs S).length a b s
def sMin (S : BS) (s : Int32) (a b : Nat) : Int32 := minN (lsX (bLs S)) (bLs S).length s a b
def sWo (S : BS) (c : Int32) : Int32 := jiter (cOther (lsX (bLs S)) c) 0 (bLs S).length
def sWc (S : BS) (a b : Nat) : Int32 := (jiter (fun t (s : Int32 × Int32) => if sMin S (sWo S (nI (t + 1))) a b < s.2 then (nI (t + 1), sMin S (sWo S (nI (t + 1))) a b) else s) (0, sMin S (sWo S 0) a b) 3).1
def sSafe (S : BS) : Int32 := jiter (fun j n => if sDark S (raS S j) (rbS S j) 1023 = 0 then n + 1 else n) 0 (bRs S).length
abbrev hldS (S : BS) (s : Int32) : Prop := ¬ s < 0 ∧ ¬ (1 <<< (nI (bLs S).length &&& 31)) ≤ s
abbrev alwAt (S : BS) (s : Int32) (r : Nat) : Prop := ¬ (sDark S (raS S r) (rbS S r) 1023 = 0 ∧ 0 < sDark S (raS S r) (rbS S r) (s ^^^ -1))
def alw (S : BS) (s : Int32) : Bool := (List.range (bRs S).length).all (fun r => decide (alwAt S s r))
theorem isB_rdy {d : Nat → Nat} {I : jF} {A : Nat → jF} {X : List (Nat × jF)} {S : BS} (h : isB (d, I, A, X) S) : jiter (cReady (I 5) X) 0 (bLs S).length = sRdy S := jiter_congr (fun i hi x => by unfold cReady; rw [show jL X i = jL (lsX (bLs S)) i from isB_xeq h i hi, show I 5 = bNeed S from h.2.2.2.1])
theorem isB_burnt {d : Nat → Nat} {I : jF} {A : Nat → jF} {X : List (Nat × jF)} {S : BS} (h : isB (d, I, A, X) S) : jiter (cBurnt X) 0 (bLs S).length = sBurnt S := jiter_congr (fun i hi x => by unfold cBurnt; rw [show jL X i = jL (lsX (bLs S)) i from isB_xeq h i hi])
theorem isB_reach {d : Nat → Nat} {I : jF} {A : Nat → jF} {X : List (Nat × jF)} {S : BS} {p r : Int32} (h : isB (d, I, A, X) S) : jiter (cReach (I 5) X p r) 0 (bLs S).length = sReach S p r := jiter_congr (fun i hi x => by unfold cReach; rw [show jL X i = jL (lsX (bLs S)) i from isB_xeq h i hi, show I 5 = bNeed S from h.2.2.2.1])
theorem isB_dark {d : Nat → Nat} {I : jF} {A : Nat → jF} {X : List (Nat × jF)} {S : BS} {a b : Nat} {s : Int32} (h : isB (d, I, A, X) S) : darkX (I 5) X (bLs S).length a b s = sDark S a b s := by
  rw [show I 5 = bNeed S from h.2.2.2.1]; exact darkX_congr (isB_xeq h)
theorem isB_min {d : Nat → Nat} {I : jF} {A : Nat → jF} {X : List (Nat × jF)} {S : BS} {a b : Nat} {s : Int32} (h : isB (d, I, A, X) S) : minN X (bLs S).length s a b = sMin S s a b := minN_congr (isB_xeq h)
theorem isB_wo {d : Nat → Nat} {I : jF} {A : Nat → jF} {X : List (Nat × jF)} {S : BS} {c : Int32} (h : isB (d, I, A, X) S) : jiter (cOther X c) 0 (bLs S).length = sWo S c := jiter_congr (fun i hi x => by unfold cOther; rw [show jL X i = jL (lsX (bLs S)) i from isB_xeq h i hi])
theorem isB_safe {d : Nat → Nat} {I : jF} {A : Nat → jF} {X : List (Nat × jF)} {S : BS} (h : isB (d, I, A, X) S) : jiter (fun j n => if darkX (I 5) X (bLs S).length (raS S j) (rbS S j) 1023 = 0 then n + 1 else n) 0 (bRs S).length = sSafe S := jiter_congr (fun i hi x => by rw [isB_dark h])
def oReaching (T : St3) (p r : Int32) : Int32 × St3 := if okPlace p then (sReach T.1 p r, T) else (-1, T)
def oLasts (T : St3) (r s : Int32) : Int32 × St3 := if hLX r (bRs T.1).length ∧ hldS T.1 s then (sMin T.1 s (raS T.1 r.toNatClampNeg) (rbS T.1 r.toNatClampNeg), T) else (-1, T)
def oAllowed (T : St3) (s : Int32) : Int32 × St3 := if hldS T.1 s then (if alw T.1 s = true then 1 else 0, T) else (-1, T)
def raV (S : BS) (x w : Int32) : Int32 := if w = 0 then nI (raS S x.toNatClampNeg) else if w = 1 then nI (rbS S x.toNatClampNeg) else if w = 2 then sDark S (raS S x.toNatClampNeg) (rbS S x.toNatClampNeg) 1023 else if w = 3 then (if sDark S (raS S x.toNatClampNeg) (rbS S x.toNatClampNeg) 1023 = 0 then 1 else 0) else if w = 4 then sMin S 1023 (raS S x.toNatClampNeg) (rbS S x.toNatClampNeg) else if w = 5 then sMin S (sWo S (sWc S (raS S x.toNatClampNeg) (rbS S x.toNatClampNeg))) (raS S x.toNatClampNeg) (rbS S x.toNatClampNeg) else sWc S (raS S x.toNatClampNeg) (rbS S x.toNatClampNeg)
def oRouteAt (T : St3) (x w : Int32) : Int32 × St3 := if hLX x (bRs T.1).length ∧ ¬ w < 0 ∧ ¬ 6 < w then (raV T.1 x w, T) else (-1, T)
def oUndo (T : St3) : Int32 × St3 := match T.2.1 with
  | [] => (-2, T)
  | S :: hs => (nI hs.length, (S, hs, T.2.2))
theorem hlds_of {I : jF} {S : BS} {s : Int32} (h : I 1 = nI (bLs S).length) : holdsP I s ↔ hldS S s := by
  show (¬ s < 0 ∧ ¬ (1 <<< (I 1 &&& 31)) ≤ s) ↔ _
  rw [h]
theorem isB_wc {d : Nat → Nat} {I : jF} {A : Nat → jF} {X : List (Nat × jF)} {S : BS} {a b : Nat} (h : isB (d, I, A, X) S) : (jiter (fun t (s : Int32 × Int32) => if minN X (bLs S).length (jiter (cOther X (nI (t + 1))) 0 (bLs S).length) a b < s.2 then (nI (t + 1), minN X (bLs S).length (jiter (cOther X (nI (t + 1))) 0 (bLs S).length) a b) else s) ((0 : Int32), minN X (bLs S).length (jiter (cOther X 0) 0 (bLs S).length) a b) 3).1 = sWc S a b := by
  unfold sWc
  rw [isB_wo h, isB_min h]
  exact congrArg Prod.fst (jiter_congr (fun i hi x => by rw [isB_wo h, isB_min h]))
theorem alw_t {S : BS} {s : Int32} (h : ∀ r, r < (bRs S).length → alwAt S s r) : alw S s = true := by
  unfold alw
  rw [List.all_eq_true]
  intro r hr
  rw [List.mem_range] at hr
  exact decide_eq_true (h r hr)
theorem alw_f {S : BS} {s : Int32} {r : Nat} (hr : r < (bRs S).length) (h : ¬ alwAt S s r) : ¬ alw S s = true := by
  unfold alw
  rw [List.all_eq_true]
  intro q
  exact h (of_decide_eq_true (q r (List.mem_range.mpr hr)))
def toldV (T : St3) (x : Int32) : Int32 := if x = 0 then nI (bLs T.1).length else if x = 1 then sRdy T.1 else if x = 2 then nI (bRs T.1).length else if x = 3 then sSafe T.1 else if x = 4 then bNeed T.1 else if x = 5 then bHrs T.1 else if x = 6 then (bSt T.1).1 else if x = 7 then (bSt T.1).2.1 else if x = 8 then (bSt T.1).2.2 else if x = 9 then sBurnt T.1 else if x = 10 then bPa T.1 else if x = 11 then bFa T.1 else if x = 12 then nI T.2.2.length else if x = 13 then nI T.2.1.length else -1
def oTold (T : St3) (x : Int32) : Int32 × St3 := (toldV T x, T)
theorem oUndo_nil {T : St3} (h : T.2.1.length = 0) : oUndo T = (-2, T) := by
  unfold oUndo
  rw [List.length_eq_zero_iff.mp h]
theorem oUndo_cons {T : St3} {S : BS} {hs : List BS} (h : T.2.1 = S :: hs) : oUndo T = (nI hs.length, (S, hs, T.2.2)) := by
  unfold oUndo
  rw [h]
theorem chist_pop {Ih : jF} {K : Nat → Option BV} {hs tl : List BS} {S : BS} {nx : Nat} (hnx : nx < 8) (h8 : hs.length ≤ 8) (h5 : ∀ i, i < hs.length → ∃ (V : BV) (S : BS), K ((nx + 7 - i) % 8) = some V ∧ hs[i]? = some S ∧ isB V S) (h6 : ∀ j V, K j = some V → V.2.2.2.length ≤ 10) (he : hs = S :: tl) : chist (upd (upd Ih 1 (nI ((nx + 7) % 8))) 2 (nI (hs.length - 1))) K tl := by
  subst he
  rw [List.length_cons] at h8
  refine ⟨(nx + 7) % 8, Nat.mod_lt _ (by decide), rfl, rfl, by omega, fun i hi => ?_, h6⟩
  obtain ⟨V, S2, q1, q2, q3⟩ := h5 (i + 1) (by rw [List.length_cons]; omega)
  exact ⟨V, S2, by rw [← q1, show ((nx + 7) % 8 + 7 - i) % 8 = (nx + 7 - (i + 1)) % 8 by omega], q2, q3⟩
theorem nI_injN {a b : Nat} (ha : a < 2 ^ 31) (hb : b < 2 ^ 31) (q : nI a = nI b) : a = b := by
  have := congrArg Int32.toNatClampNeg q
  rw [nI_cl ha, nI_cl hb] at this
  exact this
theorem and3b {p q r : Prop} (h : q) : ¬ (p ∧ ¬ q ∧ r) := fun z => z.2.1 h
theorem and3c {p q r : Prop} (h : r) : ¬ (p ∧ q ∧ ¬ r) := fun z => z.2.2 h
theorem jhead {α : Type} {l : List α} {x : α} (h : l[0]? = some x) : ∃ t, l = x :: t := by
  cases l with
  | nil => cases h
  | cons y t => exact ⟨t, by cases h; rfl⟩
set_option maxHeartbeats 1000000 in
set_option maxRecDepth 100000 in
theorem c_X6_reaching (g : jG) (a : Nat) (T : St3) (b : List va_W) (p r : Int32) (h : CW g a T b) : Con g yX6_reaching cX6_reaching 3 (some .int) 4 86 0 0 [.ref a, .int p, .int r] b (fun rr bb => rr = some (.int (oReaching T p r).1) ∧ CW g a (oReaching T p r).2 bb) := by
  obtain ⟨dt, dn, du, dh, dr, dp, It, ft, In, An, Xn, Iu, Au, Xu, Ih, K, Ar, Ip, Ap, rfl, hCI⟩ := h
  obtain ⟨hB, hu, hH, hT, hp2, hp0, hpl⟩ := id hCI
  obtain ⟨⟨hg1, hg2, hg3, hg4⟩, hb2, hb3, hb5, hb6, hb7, hb8, hb9⟩ := id hB
  have hg1 : bok In Xn (bLs T.1).length := hg1
  have hg2 : In 4 = nI (bRs T.1).length := hg2
  have hb5 : In 5 = bNeed T.1 := hb5
  have hk10 : (bLs T.1).length ≤ 10 := Nat.le_trans hg1.2.1 hg1.2.2
  refine Con.of (own := RX6) (lv := [(0, .ref a), (1, .int p), (2, .int r)]) (by decide) rfl (Nat.le_of_ble_eq_true rfl) rfl ?_
  intro E hC hQ hN
  refine j_iload_n hC dX6_reaching_0 rfl rfl ?_
  refine j_callSR hC [] (c_X6_isPlace g _) mX6_isPlace k342 rfl rfl rfl ⟨(Nat.le_of_ble_eq_true rfl), (Nat.le_of_ble_eq_true rfl)⟩ (Nat.le_of_ble_eq_true rfl) ⟨(Nat.le_of_ble_eq_true rfl), (Nat.le_of_ble_eq_true rfl)⟩ dX6_reaching_1 ?_
  dsimp only [jrepl, List.set, jstk]
  refine j_if_eq hC dX6_reaching_4 (tgt := 19) (by decide) (fun c_4 => ?_) (fun c_4 => ?_)
  · skip
    refine j_iconst hC (-1) dX6_reaching_19 (by decide) ?_
    refine j_iret hC hQ rfl rfl (Nat.le_of_ble_eq_true rfl) (Nat.le_of_ble_eq_true rfl) dX6_reaching_20 rfl ?_
    first | (have hp := jb1 c_4; rw [show jiter (cReach (In 5) Xn p r) 0 (bLs T.1).length = sReach T.1 p r from isB_reach hB]; exact cw_o (T := T) (by unfold oReaching; rw [if_pos hp]) (CW.mk hCI)) | exact cw_o (T := T) (by unfold oReaching; rw [if_neg (jb0 c_4)]) (CW.mk hCI)
  · skip
    refine j_aload_n hC dX6_reaching_7 rfl rfl ?_
    refine j_get hC uX6 0 0 1 rfl rfl k143 rfl dX6_reaching_8 ?_
    refine j_iload_n hC dX6_reaching_11 rfl rfl ?_
    refine j_iload_n hC dX6_reaching_12 rfl rfl ?_
    refine j_callVR hC [2, 3] (c_X0_countReaching g _ _ _ _ _ _ _ hg1) mX0_countReaching k519 rfl rfl rfl rfl rfl ⟨(Nat.le_of_ble_eq_true rfl), (Nat.le_of_ble_eq_true rfl)⟩ (Nat.le_of_ble_eq_true rfl) ⟨(Nat.le_of_ble_eq_true rfl), (Nat.le_of_ble_eq_true rfl)⟩ dX6_reaching_13 ?_
    dsimp only [jrepl, List.set, jstk]
    refine j_goto hC dX6_reaching_16 (tgt := 20) (by decide) ?_
    refine j_iret hC hQ rfl rfl (Nat.le_of_ble_eq_true rfl) (Nat.le_of_ble_eq_true rfl) dX6_reaching_20 rfl ?_
    first | (have hp := jb1 c_4; rw [show jiter (cReach (In 5) Xn p r) 0 (bLs T.1).length = sReach T.1 p r from isB_reach hB]; exact cw_o (T := T) (by unfold oReaching; rw [if_pos hp]) (CW.mk hCI)) | exact cw_o (T := T) (by unfold oReaching; rw [if_neg (jb0 c_4)]) (CW.mk hCI)
set_option maxHeartbeats 1000000 in
set_option maxRecDepth 100000 in
theorem c_X6_lasts (g : jG) (a : Nat) (T : St3) (b : List va_W) (x s : Int32) (h : CW g a T b) (hw : rswf (bRs T.1)) : Con g yX6_lasts cX6_lasts 3 (some .int) 4 94 0 0 [.ref a, .int x, .int s] b (fun rr bb => rr = some (.int (oLasts T x s).1) ∧ CW g a (oLasts T x s).2 bb) := by
  obtain ⟨dt, dn, du, dh, dr, dp, It, ft, In, An, Xn, Iu, Au, Xu, Ih, K, Ar, Ip, Ap, rfl, hCI⟩ := h
  obtain ⟨hB, hu, hH, hT, hp2, hp0, hpl⟩ := id hCI
  obtain ⟨⟨hg1, hg2, hg3, hg4⟩, hb2, hb3, hb5, hb6, hb7, hb8, hb9⟩ := id hB
  have hg1 : bok In Xn (bLs T.1).length := hg1
  have hg2 : In 4 = nI (bRs T.1).length := hg2
  have hb5 : In 5 = bNeed T.1 := hb5
  have hk10 : (bLs T.1).length ≤ 10 := Nat.le_trans hg1.2.1 hg1.2.2
  refine Con.of (own := RX6) (lv := [(0, .ref a), (1, .int x), (2, .int s)]) (by decide) rfl (Nat.le_of_ble_eq_true rfl) rfl ?_
  intro E hC hQ hN
  refine j_aload_n hC dX6_lasts_0 rfl rfl ?_
  refine j_get hC uX6 0 0 1 rfl rfl k143 rfl dX6_lasts_1 ?_
  refine j_iload_n hC dX6_lasts_4 rfl rfl ?_
  refine j_callVR hC [2] (c_X0_hasRoute g _ _ _ _ _) mX0_hasRoute k495 rfl rfl rfl rfl rfl ⟨(Nat.le_of_ble_eq_true rfl), (Nat.le_of_ble_eq_true rfl)⟩ (Nat.le_of_ble_eq_true rfl) ⟨(Nat.le_of_ble_eq_true rfl), (Nat.le_of_ble_eq_true rfl)⟩ dX6_lasts_5 ?_
  dsimp only [jrepl, List.set, jstk]
  refine j_if_eq hC dX6_lasts_8 (tgt := 22) (by decide) (fun c_8 => ?_) (fun c_8 => ?_)
  · skip
    refine j_iconst hC (-1) dX6_lasts_22 (by decide) ?_
    refine j_iret hC hQ rfl rfl (Nat.le_of_ble_eq_true rfl) (Nat.le_of_ble_eq_true rfl) dX6_lasts_23 rfl ?_
    first | exact cw_o (T := T) (by unfold oLasts; rw [if_neg (fun q => jb0 c_8 (hLX_hasR hg2 hg3 q.1))]) (CW.mk hCI) | exact cw_o (T := T) (by unfold oLasts; rw [if_neg (fun q => jb0 c_19 ((hlds_of hg1.1).mpr q.2))]) (CW.mk hCI) | exact cw_o (T := T) (by unfold oLasts; rw [if_pos ⟨hlx, (hlds_of hg1.1).mp (jb1 c_19)⟩, hcl]; exact congrArg (fun z => (z, T)) (isB_min hB).symm) (CW.mk hCI)
  · skip
    refine j_aload_n hC dX6_lasts_11 rfl rfl ?_
    refine j_get hC uX6 0 0 1 rfl rfl k143 rfl dX6_lasts_12 ?_
    refine j_iload_n hC dX6_lasts_15 rfl rfl ?_
    refine j_callVR hC [2] (c_X0_holds g _ _ _ _ _) mX0_holds k165 rfl rfl rfl rfl rfl ⟨(Nat.le_of_ble_eq_true rfl), (Nat.le_of_ble_eq_true rfl)⟩ (Nat.le_of_ble_eq_true rfl) ⟨(Nat.le_of_ble_eq_true rfl), (Nat.le_of_ble_eq_true rfl)⟩ dX6_lasts_16 ?_
    dsimp only [jrepl, List.set, jstk]
    refine j_if_ne hC dX6_lasts_19 (tgt := 24) (by decide) (fun c_19 => ?_) (fun c_19 => ?_)
    · skip
      have hlx : hLX x (bRs T.1).length := ⟨(jb1 c_8).1, by rw [← hg2]; exact (jb1 c_8).2.1⟩
      obtain ⟨j, hj, hx⟩ := hLX_nat (by omega) hlx
      have hcl : x.toNatClampNeg = j := by rw [hx, nI_cl (by omega)]
      obtain ⟨hr1, hr2, hr3, hr4⟩ := isB_rok hB hw j hj
      have hff := (firstP_nat (A := An) hg2 hg3 hj hx).trans hr1
      have hll := (lastP_nat (A := An) hg2 hg3 hj hx).trans hr2
      refine j_aload_n hC dX6_lasts_24 rfl rfl ?_
      refine j_get hC uX6 0 0 4 rfl rfl k146 rfl dX6_lasts_25 ?_
      refine j_aload_n hC dX6_lasts_28 rfl rfl ?_
      refine j_get hC uX6 0 0 1 rfl rfl k143 rfl dX6_lasts_29 ?_
      refine j_iload_n hC dX6_lasts_32 rfl rfl ?_
      refine j_iload_n hC dX6_lasts_33 rfl rfl ?_
      refine j_callV hC [8, 2, 3] (c_X4_minutes g _ _ _ _ _ _ _ (raS T.1 j) (rbS T.1 j) _ _ hg1 hff hll hr3 hr4) mX4_minutes k496 rfl rfl rfl rfl rfl ⟨(Nat.le_of_ble_eq_true rfl), (Nat.le_of_ble_eq_true rfl)⟩ (Nat.le_of_ble_eq_true rfl) ⟨(Nat.le_of_ble_eq_true rfl), (Nat.le_of_ble_eq_true rfl)⟩ dX6_lasts_34 (fun r_34 b_34 hp_34 _ => ?_)
      obtain ⟨A1, rfl, rfl, hA1⟩ := hp_34
      dsimp only [jrepl, List.set, jstk]
      refine j_iret hC hQ rfl rfl (Nat.le_of_ble_eq_true rfl) (Nat.le_of_ble_eq_true rfl) dX6_lasts_37 rfl ?_
      first | exact cw_o (T := T) (by unfold oLasts; rw [if_neg (fun q => jb0 c_8 (hLX_hasR hg2 hg3 q.1))]) (CW.mk hCI) | exact cw_o (T := T) (by unfold oLasts; rw [if_neg (fun q => jb0 c_19 ((hlds_of hg1.1).mpr q.2))]) (CW.mk hCI) | exact cw_o (T := T) (by unfold oLasts; rw [if_pos ⟨hlx, (hlds_of hg1.1).mp (jb1 c_19)⟩, hcl]; exact congrArg (fun z => (z, T)) (isB_min hB).symm) (CW.mk hCI)
    · skip
      refine j_iconst hC (-1) dX6_lasts_22 (by decide) ?_
      refine j_iret hC hQ rfl rfl (Nat.le_of_ble_eq_true rfl) (Nat.le_of_ble_eq_true rfl) dX6_lasts_23 rfl ?_
      first | exact cw_o (T := T) (by unfold oLasts; rw [if_neg (fun q => jb0 c_8 (hLX_hasR hg2 hg3 q.1))]) (CW.mk hCI) | exact cw_o (T := T) (by unfold oLasts; rw [if_neg (fun q => jb0 c_19 ((hlds_of hg1.1).mpr q.2))]) (CW.mk hCI) | exact cw_o (T := T) (by unfold oLasts; rw [if_pos ⟨hlx, (hlds_of hg1.1).mp (jb1 c_19)⟩, hcl]; exact congrArg (fun z => (z, T)) (isB_min hB).symm) (CW.mk hCI)
set_option maxHeartbeats 1000000 in
set_option maxRecDepth 100000 in
theorem c_X6_allowed (g : jG) (a : Nat) (T : St3) (b : List va_W) (s : Int32) (h : CW g a T b) (hw : rswf (bRs T.1)) : Con g yX6_allowed cX6_allowed 5 (some .int) 3 66 0 0 [.ref a, .int s] b (fun rr bb => rr = some (.int (oAllowed T s).1) ∧ CW g a (oAllowed T s).2 bb) := by
  obtain ⟨dt, dn, du, dh, dr, dp, It, ft, In, An, Xn, Iu, Au, Xu, Ih, K, Ar, Ip, Ap, rfl, hCI⟩ := h
  obtain ⟨hB, hu, hH, hT, hp2, hp0, hpl⟩ := id hCI
  obtain ⟨⟨hg1, hg2, hg3, hg4⟩, hb2, hb3, hb5, hb6, hb7, hb8, hb9⟩ := id hB
  have hg1 : bok In Xn (bLs T.1).length := hg1
  have hg2 : In 4 = nI (bRs T.1).length := hg2
  have hb5 : In 5 = bNeed T.1 := hb5
  have hk10 : (bLs T.1).length ≤ 10 := Nat.le_trans hg1.2.1 hg1.2.2
  refine Con.of (own := RX6) (lv := [(0, .ref a), (1, .int s)]) (by decide) rfl (Nat.le_of_ble_eq_true rfl) rfl ?_
  intro E hC hQ hN
  refine j_aload_n hC dX6_allowed_0 rfl rfl ?_
  refine j_get hC uX6 0 0 1 rfl rfl k143 rfl dX6_allowed_1 ?_
  refine j_iload_n hC dX6_allowed_4 rfl rfl ?_
  refine j_callVR hC [2] (c_X0_holds g _ _ _ _ _) mX0_holds k165 rfl rfl rfl rfl rfl ⟨(Nat.le_of_ble_eq_true rfl), (Nat.le_of_ble_eq_true rfl)⟩ (Nat.le_of_ble_eq_true rfl) ⟨(Nat.le_of_ble_eq_true rfl), (Nat.le_of_ble_eq_true rfl)⟩ dX6_allowed_5 ?_
  dsimp only [jrepl, List.set, jstk]
  refine j_if_ne hC dX6_allowed_8 (tgt := 13) (by decide) (fun c_8 => ?_) (fun c_8 => ?_)
  · skip
    refine j_aload_n hC dX6_allowed_13 rfl rfl ?_
    refine j_get hC uX6 0 0 4 rfl rfl k146 rfl dX6_allowed_14 ?_
    refine j_aload_n hC dX6_allowed_17 rfl rfl ?_
    refine j_get hC uX6 0 0 1 rfl rfl k143 rfl dX6_allowed_18 ?_
    refine j_callV hC [8, 2, 3] (c_X4_look g _ _ _ _ _ _ _ hg1) mX4_look k173 rfl rfl rfl rfl rfl ⟨(Nat.le_of_ble_eq_true rfl), (Nat.le_of_ble_eq_true rfl)⟩ (Nat.le_of_ble_eq_true rfl) ⟨(Nat.le_of_ble_eq_true rfl), (Nat.le_of_ble_eq_true rfl)⟩ dX6_allowed_21 (fun r_21 b_21 hp_21 _ => ?_)
    obtain ⟨rfl, A1, rfl, hA1, hN⟩ := hp_21
    dsimp only [jrepl, List.set, jstk]
    refine j_iconst hC (0) dX6_allowed_24 (by decide) ?_
    refine j_istore_n hC dX6_allowed_25 rfl rfl rfl rfl (fun v_25 e_25 => ?_)
    have L_26 : ∀ (fu : Nat) (i : Nat) (x2 : Int32) (hfu : (bRs T.1).length + 1 ≤ i + fu) (hi : i ≤ (bRs T.1).length) (h2 : x2 = nI i) (ha : ∀ r, r < i → alwAt T.1 s r), J g (jRm 3 66 0 0) E 5 26 [(0, .ref a), (1, .int s), (2, .int x2)] [] [xo a dt dn du dh dr dp, tc g dt It ft, bc g dn In An (lrf Xn), lts Xn, bc g du Iu Au (lrf Xu), lts Xu, hc g dh Ih (kr K), kb g K, rc g dr A1, pcc g dp Ip Ap] (0) (0) := by
      intro fu
      induction fu with
      | zero => intro i x2 hfu hi h2 ha; exact absurd hfu (by omega)
      | succ fu ih_26 =>
        intro i x2 hfu hi h2 ha
        refine j_iload_n hC dX6_allowed_26 rfl rfl ?_
        refine j_aload_n hC dX6_allowed_27 rfl rfl ?_
        refine j_get hC uX6 0 0 1 rfl rfl k143 rfl dX6_allowed_28 ?_
        refine j_get hC uX0 2 0 4 rfl rfl k57 rfl dX6_allowed_31 ?_
        refine j_icmp_ge hC dX6_allowed_34 (tgt := 96) (by decide) (fun c_34 => ?_) (fun c_34 => ?_)
        · skip
          have hik : i = (bRs T.1).length := Nat.le_antisymm hi (jge hg2 h2 (by omega) (by omega) c_34)
          refine j_iconst hC (1) dX6_allowed_96 (by decide) ?_
          refine j_iret hC hQ rfl rfl (Nat.le_of_ble_eq_true rfl) (Nat.le_of_ble_eq_true rfl) dX6_allowed_97 rfl ?_
          exact cw_o (T := T) (by unfold oAllowed; rw [if_pos ((hlds_of hg1.1).mp (jb1 c_8)), if_pos (alw_t (fun r hr => ha r (by omega)))]) (CW.mk hCI)
        · skip
          have hik : i < (bRs T.1).length := jlt hg2 h2 (by omega) (by omega) c_34
          obtain ⟨hr1, hr2, hr3, hr4⟩ := isB_rok hB hw i hik
          refine j_aload_n hC dX6_allowed_37 rfl rfl ?_
          refine j_get hC uX6 0 0 1 rfl rfl k143 rfl dX6_allowed_38 ?_
          refine j_iload_n hC dX6_allowed_41 rfl rfl ?_
          refine j_callVR hC [2] (c_X0_firstPlace g _ _ _ _ _) mX0_firstPlace k199 rfl rfl rfl rfl rfl ⟨(Nat.le_of_ble_eq_true rfl), (Nat.le_of_ble_eq_true rfl)⟩ (Nat.le_of_ble_eq_true rfl) ⟨(Nat.le_of_ble_eq_true rfl), (Nat.le_of_ble_eq_true rfl)⟩ dX6_allowed_42 ?_
          dsimp only [jrepl, List.set, jstk]
          refine j_istore_n hC dX6_allowed_45 rfl rfl rfl rfl (fun v_45 e_45 => ?_)
          refine j_aload_n hC dX6_allowed_46 rfl rfl ?_
          refine j_get hC uX6 0 0 1 rfl rfl k143 rfl dX6_allowed_47 ?_
          refine j_iload_n hC dX6_allowed_50 rfl rfl ?_
          refine j_callVR hC [2] (c_X0_lastPlace g _ _ _ _ _) mX0_lastPlace k207 rfl rfl rfl rfl rfl ⟨(Nat.le_of_ble_eq_true rfl), (Nat.le_of_ble_eq_true rfl)⟩ (Nat.le_of_ble_eq_true rfl) ⟨(Nat.le_of_ble_eq_true rfl), (Nat.le_of_ble_eq_true rfl)⟩ dX6_allowed_51 ?_
          dsimp only [jrepl, List.set, jstk]
          refine j_istore hC dX6_allowed_54 rfl rfl rfl (fun v_54 e_54 => ?_)
          refine j_aload_n hC dX6_allowed_56 rfl rfl ?_
          refine j_get hC uX6 0 0 4 rfl rfl k146 rfl dX6_allowed_57 ?_
          refine j_iload_n hC dX6_allowed_60 rfl rfl ?_
          refine j_iload hC dX6_allowed_61 rfl ?_
          refine j_sipush hC (1023) dX6_allowed_63 (by decide) ?_
          refine j_callVR hC [8] (c_X4_dark g _ _ (raS T.1 i) (rbS T.1 i) _ _ _ (e_45.trans ((firstP_nat (A := An) hg2 hg3 hik h2).trans hr1)) (e_54.trans ((lastP_nat (A := An) hg2 hg3 hik h2).trans hr2)) hr3 hr4) mX4_dark k211 rfl rfl rfl rfl rfl ⟨(Nat.le_of_ble_eq_true rfl), (Nat.le_of_ble_eq_true rfl)⟩ (Nat.le_of_ble_eq_true rfl) ⟨(Nat.le_of_ble_eq_true rfl), (Nat.le_of_ble_eq_true rfl)⟩ dX6_allowed_66 ?_
          dsimp only [jrepl, List.set, jstk]
          rw [darkN_look (a := raS T.1 i) (s := 1023) hN hr4, show darkX (In 5) Xn (bLs T.1).length (raS T.1 i) (rbS T.1 i) 1023 = _ from isB_dark hB]
          refine j_if_ne hC dX6_allowed_69 (tgt := 90) (by decide) (fun c_69 => ?_) (fun c_69 => ?_)
          · skip
            refine j_iinc hC (1) dX6_allowed_90 rfl rfl rfl rfl rfl (fun v_90 e_90 => ?_)
            refine j_goto hC dX6_allowed_93 (tgt := 26) (by decide) ?_
            refine j_pick [0, 1, 2] ?_
            exact ih_26 (i + 1) _ (by omega) (by omega) (jsucc e_90 h2) (fun r hr => (Nat.lt_or_ge r i).elim (ha r) (fun q => (show r = i by omega) ▸ (by first | exact fun w => c_69 w.1 | exact fun w => Int32.not_le.mpr w.2 c_85)))
          · skip
            refine j_aload_n hC dX6_allowed_72 rfl rfl ?_
            refine j_get hC uX6 0 0 4 rfl rfl k146 rfl dX6_allowed_73 ?_
            refine j_iload_n hC dX6_allowed_76 rfl rfl ?_
            refine j_iload hC dX6_allowed_77 rfl ?_
            refine j_iload_n hC dX6_allowed_79 rfl rfl ?_
            refine j_iconst hC (-1) dX6_allowed_80 (by decide) ?_
            refine j_ixor hC dX6_allowed_81 ?_
            refine j_callVR hC [8] (c_X4_dark g _ _ (raS T.1 i) (rbS T.1 i) _ _ _ (e_45.trans ((firstP_nat (A := An) hg2 hg3 hik h2).trans hr1)) (e_54.trans ((lastP_nat (A := An) hg2 hg3 hik h2).trans hr2)) hr3 hr4) mX4_dark k211 rfl rfl rfl rfl rfl ⟨(Nat.le_of_ble_eq_true rfl), (Nat.le_of_ble_eq_true rfl)⟩ (Nat.le_of_ble_eq_true rfl) ⟨(Nat.le_of_ble_eq_true rfl), (Nat.le_of_ble_eq_true rfl)⟩ dX6_allowed_82 ?_
            dsimp only [jrepl, List.set, jstk]
            rw [darkN_look (a := raS T.1 i) (s := s ^^^ -1) hN hr4, show darkX (In 5) Xn (bLs T.1).length (raS T.1 i) (rbS T.1 i) (s ^^^ -1) = _ from isB_dark hB]
            refine j_if_le hC dX6_allowed_85 (tgt := 90) (by decide) (fun c_85 => ?_) (fun c_85 => ?_)
            · skip
              refine j_iinc hC (1) dX6_allowed_90 rfl rfl rfl rfl rfl (fun v_90 e_90 => ?_)
              refine j_goto hC dX6_allowed_93 (tgt := 26) (by decide) ?_
              refine j_pick [0, 1, 2] ?_
              exact ih_26 (i + 1) _ (by omega) (by omega) (jsucc e_90 h2) (fun r hr => (Nat.lt_or_ge r i).elim (ha r) (fun q => (show r = i by omega) ▸ (by first | exact fun w => c_69 w.1 | exact fun w => Int32.not_le.mpr w.2 c_85)))
            · skip
              refine j_iconst hC (0) dX6_allowed_88 (by decide) ?_
              refine j_iret hC hQ rfl rfl (Nat.le_of_ble_eq_true rfl) (Nat.le_of_ble_eq_true rfl) dX6_allowed_89 rfl ?_
              exact cw_o (T := T) (by unfold oAllowed; rw [if_pos ((hlds_of hg1.1).mp (jb1 c_8)), if_neg (alw_f hik (fun w => w ⟨c_69, Int32.not_le.mp c_85⟩))]) (CW.mk hCI)
    refine j_pick [0, 1, 2] ?_
    exact L_26 ((bRs T.1).length + 1) 0 _ (by omega) (by omega) (e_25.trans nI_0.symm) (fun r hr => absurd hr (Nat.not_lt_zero r))
  · skip
    refine j_iconst hC (-1) dX6_allowed_11 (by decide) ?_
    refine j_iret hC hQ rfl rfl (Nat.le_of_ble_eq_true rfl) (Nat.le_of_ble_eq_true rfl) dX6_allowed_12 rfl ?_
    exact cw_o (T := T) (by unfold oAllowed; rw [if_neg (fun q => jb0 c_8 ((hlds_of hg1.1).mpr q))]) (CW.mk hCI)
set_option maxHeartbeats 1000000 in
set_option maxRecDepth 100000 in
theorem c_X6_told (g : jG) (a : Nat) (T : St3) (b : List va_W) (x : Int32) (h : CW g a T b) (hw : rswf (bRs T.1)) : Con g yX6_told cX6_told 2 (some .int) 5 109 0 0 [.ref a, .int x] b (fun rr bb => rr = some (.int (oTold T x).1) ∧ CW g a (oTold T x).2 bb) := by
  obtain ⟨dt, dn, du, dh, dr, dp, It, ft, In, An, Xn, Iu, Au, Xu, Ih, K, Ar, Ip, Ap, rfl, hCI⟩ := h
  obtain ⟨hB, hu, hH, hT, hp2, hp0, hpl⟩ := id hCI
  obtain ⟨⟨hg1, hg2, hg3, hg4⟩, hb2, hb3, hb5, hb6, hb7, hb8, hb9⟩ := id hB
  have hg1 : bok In Xn (bLs T.1).length := hg1
  have hg2 : In 4 = nI (bRs T.1).length := hg2
  have hb5 : In 5 = bNeed T.1 := hb5
  have hk10 : (bLs T.1).length ≤ 10 := Nat.le_trans hg1.2.1 hg1.2.2
  refine Con.of (own := RX6) (lv := [(0, .ref a), (1, .int x)]) (by decide) rfl (Nat.le_of_ble_eq_true rfl) rfl ?_
  intro E hC hQ hN
  obtain ⟨nx, hnx, hh1, hh2, hh3, hh4, hh5⟩ := id hH
  refine j_iload_n hC dX6_told_0 rfl rfl ?_
  refine j_case (0) (fun s_1_0 => ?_) (fun s_1_0 => ?_)
  · refine j_tableIn hC dX6_told_1 (by rw [s_1_0]; decide) (by rw [s_1_0]; decide) (off := 71) (by rw [s_1_0]; rfl) (tgt := 72) (by decide) ?_
    refine j_aload_n hC dX6_told_72 rfl rfl ?_
    refine j_get hC uX6 0 0 1 rfl rfl k143 rfl dX6_told_73 ?_
    refine j_get hC uX0 2 0 1 rfl rfl k52 rfl dX6_told_76 ?_
    refine j_iret hC hQ rfl rfl (Nat.le_of_ble_eq_true rfl) (Nat.le_of_ble_eq_true rfl) dX6_told_79 rfl ?_
    exact cw_o (T := T) (by unfold oTold; rw [s_1_0]; exact congrArg (fun z => (z, T)) (hg1.1.symm)) (CW.mk hCI)
  refine j_case (1) (fun s_1_1 => ?_) (fun s_1_1 => ?_)
  · refine j_tableIn hC dX6_told_1 (by rw [s_1_1]; decide) (by rw [s_1_1]; decide) (off := 79) (by rw [s_1_1]; rfl) (tgt := 80) (by decide) ?_
    refine j_aload_n hC dX6_told_80 rfl rfl ?_
    refine j_get hC uX6 0 0 1 rfl rfl k143 rfl dX6_told_81 ?_
    refine j_callVR hC [2, 3] (c_X0_countReady g _ _ _ _ _ hg1) mX0_countReady k394 rfl rfl rfl rfl rfl ⟨(Nat.le_of_ble_eq_true rfl), (Nat.le_of_ble_eq_true rfl)⟩ (Nat.le_of_ble_eq_true rfl) ⟨(Nat.le_of_ble_eq_true rfl), (Nat.le_of_ble_eq_true rfl)⟩ dX6_told_84 ?_
    dsimp only [jrepl, List.set, jstk]
    refine j_iret hC hQ rfl rfl (Nat.le_of_ble_eq_true rfl) (Nat.le_of_ble_eq_true rfl) dX6_told_87 rfl ?_
    exact cw_o (T := T) (by unfold oTold; rw [s_1_1]; exact congrArg (fun z => (z, T)) ((isB_rdy hB).symm)) (CW.mk hCI)
  refine j_case (2) (fun s_1_2 => ?_) (fun s_1_2 => ?_)
  · refine j_tableIn hC dX6_told_1 (by rw [s_1_2]; decide) (by rw [s_1_2]; decide) (off := 87) (by rw [s_1_2]; rfl) (tgt := 88) (by decide) ?_
    refine j_aload_n hC dX6_told_88 rfl rfl ?_
    refine j_get hC uX6 0 0 1 rfl rfl k143 rfl dX6_told_89 ?_
    refine j_get hC uX0 2 0 4 rfl rfl k57 rfl dX6_told_92 ?_
    refine j_iret hC hQ rfl rfl (Nat.le_of_ble_eq_true rfl) (Nat.le_of_ble_eq_true rfl) dX6_told_95 rfl ?_
    exact cw_o (T := T) (by unfold oTold; rw [s_1_2]; exact congrArg (fun z => (z, T)) (hg2.symm)) (CW.mk hCI)
  refine j_case (3) (fun s_1_3 => ?_) (fun s_1_3 => ?_)
  · refine j_tableIn hC dX6_told_1 (by rw [s_1_3]; decide) (by rw [s_1_3]; decide) (off := 95) (by rw [s_1_3]; rfl) (tgt := 96) (by decide) ?_
    refine j_aload_n hC dX6_told_96 rfl rfl ?_
    refine j_callV hC [0, 1, 2, 3, 4, 5, 6, 7, 8, 9] (c_X6_countSafe g _ _ _ _ _ _ _ _ _ _ _ _ _ _ _ _ _ _ _ _ T.1 hB hw) mX6_countSafe k409 rfl rfl rfl rfl rfl ⟨(Nat.le_of_ble_eq_true rfl), (Nat.le_of_ble_eq_true rfl)⟩ (Nat.le_of_ble_eq_true rfl) ⟨(Nat.le_of_ble_eq_true rfl), (Nat.le_of_ble_eq_true rfl)⟩ dX6_told_97 (fun r_97 b_97 hp_97 _ => ?_)
    obtain ⟨A1, rfl, rfl⟩ := hp_97
    dsimp only [jrepl, List.set, jstk]
    refine j_iret hC hQ rfl rfl (Nat.le_of_ble_eq_true rfl) (Nat.le_of_ble_eq_true rfl) dX6_told_100 rfl ?_
    exact cw_o (T := T) (by unfold oTold; rw [s_1_3]; exact congrArg (fun z => (z, T)) ((isB_safe hB).symm)) (CW.mk hCI)
  refine j_case (4) (fun s_1_4 => ?_) (fun s_1_4 => ?_)
  · refine j_tableIn hC dX6_told_1 (by rw [s_1_4]; decide) (by rw [s_1_4]; decide) (off := 100) (by rw [s_1_4]; rfl) (tgt := 101) (by decide) ?_
    refine j_aload_n hC dX6_told_101 rfl rfl ?_
    refine j_get hC uX6 0 0 1 rfl rfl k143 rfl dX6_told_102 ?_
    refine j_get hC uX0 2 0 5 rfl rfl k60 rfl dX6_told_105 ?_
    refine j_iret hC hQ rfl rfl (Nat.le_of_ble_eq_true rfl) (Nat.le_of_ble_eq_true rfl) dX6_told_108 rfl ?_
    exact cw_o (T := T) (by unfold oTold; rw [s_1_4]; exact congrArg (fun z => (z, T)) (hb5.symm)) (CW.mk hCI)
  refine j_case (5) (fun s_1_5 => ?_) (fun s_1_5 => ?_)
  · refine j_tableIn hC dX6_told_1 (by rw [s_1_5]; decide) (by rw [s_1_5]; decide) (off := 108) (by rw [s_1_5]; rfl) (tgt := 109) (by decide) ?_
    refine j_aload_n hC dX6_told_109 rfl rfl ?_
    refine j_get hC uX6 0 0 1 rfl rfl k143 rfl dX6_told_110 ?_
    refine j_get hC uX0 2 0 6 rfl rfl k62 rfl dX6_told_113 ?_
    refine j_iret hC hQ rfl rfl (Nat.le_of_ble_eq_true rfl) (Nat.le_of_ble_eq_true rfl) dX6_told_116 rfl ?_
    exact cw_o (T := T) (by unfold oTold; rw [s_1_5]; exact congrArg (fun z => (z, T)) (hb6.symm)) (CW.mk hCI)
  refine j_case (6) (fun s_1_6 => ?_) (fun s_1_6 => ?_)
  · refine j_tableIn hC dX6_told_1 (by rw [s_1_6]; decide) (by rw [s_1_6]; decide) (off := 116) (by rw [s_1_6]; rfl) (tgt := 117) (by decide) ?_
    refine j_aload_n hC dX6_told_117 rfl rfl ?_
    refine j_get hC uX6 0 0 1 rfl rfl k143 rfl dX6_told_118 ?_
    refine j_iconst hC (0) dX6_told_121 (by decide) ?_
    refine j_callVR hC [2] (c_X0_stockOf g _ _ _ _ _) mX0_stockOf k417 rfl rfl rfl rfl rfl ⟨(Nat.le_of_ble_eq_true rfl), (Nat.le_of_ble_eq_true rfl)⟩ (Nat.le_of_ble_eq_true rfl) ⟨(Nat.le_of_ble_eq_true rfl), (Nat.le_of_ble_eq_true rfl)⟩ dX6_told_122 ?_
    dsimp only [jrepl, List.set, jstk]
    refine j_iret hC hQ rfl rfl (Nat.le_of_ble_eq_true rfl) (Nat.le_of_ble_eq_true rfl) dX6_told_125 rfl ?_
    exact cw_o (T := T) (by unfold oTold; rw [s_1_6]; exact congrArg (fun z => (z, T)) ((isB_stock hB (show okLamp 0 by decide)).symm)) (CW.mk hCI)
  refine j_case (7) (fun s_1_7 => ?_) (fun s_1_7 => ?_)
  · refine j_tableIn hC dX6_told_1 (by rw [s_1_7]; decide) (by rw [s_1_7]; decide) (off := 125) (by rw [s_1_7]; rfl) (tgt := 126) (by decide) ?_
    refine j_aload_n hC dX6_told_126 rfl rfl ?_
    refine j_get hC uX6 0 0 1 rfl rfl k143 rfl dX6_told_127 ?_
    refine j_iconst hC (1) dX6_told_130 (by decide) ?_
    refine j_callVR hC [2] (c_X0_stockOf g _ _ _ _ _) mX0_stockOf k417 rfl rfl rfl rfl rfl ⟨(Nat.le_of_ble_eq_true rfl), (Nat.le_of_ble_eq_true rfl)⟩ (Nat.le_of_ble_eq_true rfl) ⟨(Nat.le_of_ble_eq_true rfl), (Nat.le_of_ble_eq_true rfl)⟩ dX6_told_131 ?_
    dsimp only [jrepl, List.set, jstk]
    refine j_iret hC hQ rfl rfl (Nat.le_of_ble_eq_true rfl) (Nat.le_of_ble_eq_true rfl) dX6_told_134 rfl ?_
    exact cw_o (T := T) (by unfold oTold; rw [s_1_7]; exact congrArg (fun z => (z, T)) ((isB_stock hB (show okLamp 1 by decide)).symm)) (CW.mk hCI)
  refine j_case (8) (fun s_1_8 => ?_) (fun s_1_8 => ?_)
  · refine j_tableIn hC dX6_told_1 (by rw [s_1_8]; decide) (by rw [s_1_8]; decide) (off := 134) (by rw [s_1_8]; rfl) (tgt := 135) (by decide) ?_
    refine j_aload_n hC dX6_told_135 rfl rfl ?_
    refine j_get hC uX6 0 0 1 rfl rfl k143 rfl dX6_told_136 ?_
    refine j_iconst hC (2) dX6_told_139 (by decide) ?_
    refine j_callVR hC [2] (c_X0_stockOf g _ _ _ _ _) mX0_stockOf k417 rfl rfl rfl rfl rfl ⟨(Nat.le_of_ble_eq_true rfl), (Nat.le_of_ble_eq_true rfl)⟩ (Nat.le_of_ble_eq_true rfl) ⟨(Nat.le_of_ble_eq_true rfl), (Nat.le_of_ble_eq_true rfl)⟩ dX6_told_140 ?_
    dsimp only [jrepl, List.set, jstk]
    refine j_iret hC hQ rfl rfl (Nat.le_of_ble_eq_true rfl) (Nat.le_of_ble_eq_true rfl) dX6_told_143 rfl ?_
    exact cw_o (T := T) (by unfold oTold; rw [s_1_8]; exact congrArg (fun z => (z, T)) ((isB_stock hB (show okLamp 2 by decide)).symm)) (CW.mk hCI)
  refine j_case (9) (fun s_1_9 => ?_) (fun s_1_9 => ?_)
  · refine j_tableIn hC dX6_told_1 (by rw [s_1_9]; decide) (by rw [s_1_9]; decide) (off := 143) (by rw [s_1_9]; rfl) (tgt := 144) (by decide) ?_
    refine j_aload_n hC dX6_told_144 rfl rfl ?_
    refine j_get hC uX6 0 0 1 rfl rfl k143 rfl dX6_told_145 ?_
    refine j_callVR hC [2, 3] (c_X0_countBurntOut g _ _ _ _ _ hg1) mX0_countBurntOut k422 rfl rfl rfl rfl rfl ⟨(Nat.le_of_ble_eq_true rfl), (Nat.le_of_ble_eq_true rfl)⟩ (Nat.le_of_ble_eq_true rfl) ⟨(Nat.le_of_ble_eq_true rfl), (Nat.le_of_ble_eq_true rfl)⟩ dX6_told_148 ?_
    dsimp only [jrepl, List.set, jstk]
    refine j_iret hC hQ rfl rfl (Nat.le_of_ble_eq_true rfl) (Nat.le_of_ble_eq_true rfl) dX6_told_151 rfl ?_
    exact cw_o (T := T) (by unfold oTold; rw [s_1_9]; exact congrArg (fun z => (z, T)) ((isB_burnt hB).symm)) (CW.mk hCI)
  refine j_case (10) (fun s_1_10 => ?_) (fun s_1_10 => ?_)
  · refine j_tableIn hC dX6_told_1 (by rw [s_1_10]; decide) (by rw [s_1_10]; decide) (off := 151) (by rw [s_1_10]; rfl) (tgt := 152) (by decide) ?_
    refine j_aload_n hC dX6_told_152 rfl rfl ?_
    refine j_get hC uX6 0 0 1 rfl rfl k143 rfl dX6_told_153 ?_
    refine j_get hC uX0 2 0 8 rfl rfl k65 rfl dX6_told_156 ?_
    refine j_iret hC hQ rfl rfl (Nat.le_of_ble_eq_true rfl) (Nat.le_of_ble_eq_true rfl) dX6_told_159 rfl ?_
    exact cw_o (T := T) (by unfold oTold; rw [s_1_10]; exact congrArg (fun z => (z, T)) (hb8.symm)) (CW.mk hCI)
  refine j_case (11) (fun s_1_11 => ?_) (fun s_1_11 => ?_)
  · refine j_tableIn hC dX6_told_1 (by rw [s_1_11]; decide) (by rw [s_1_11]; decide) (off := 159) (by rw [s_1_11]; rfl) (tgt := 160) (by decide) ?_
    refine j_aload_n hC dX6_told_160 rfl rfl ?_
    refine j_get hC uX6 0 0 1 rfl rfl k143 rfl dX6_told_161 ?_
    refine j_get hC uX0 2 0 9 rfl rfl k67 rfl dX6_told_164 ?_
    refine j_iret hC hQ rfl rfl (Nat.le_of_ble_eq_true rfl) (Nat.le_of_ble_eq_true rfl) dX6_told_167 rfl ?_
    exact cw_o (T := T) (by unfold oTold; rw [s_1_11]; exact congrArg (fun z => (z, T)) (hb9.symm)) (CW.mk hCI)
  refine j_case (12) (fun s_1_12 => ?_) (fun s_1_12 => ?_)
  · refine j_tableIn hC dX6_told_1 (by rw [s_1_12]; decide) (by rw [s_1_12]; decide) (off := 167) (by rw [s_1_12]; rfl) (tgt := 168) (by decide) ?_
    refine j_aload_n hC dX6_told_168 rfl rfl ?_
    refine j_get hC uX6 0 0 0 rfl rfl k142 rfl dX6_told_169 ?_
    refine j_get hC uX5 1 0 1 rfl rfl k29 rfl dX6_told_172 ?_
    refine j_iret hC hQ rfl rfl (Nat.le_of_ble_eq_true rfl) (Nat.le_of_ble_eq_true rfl) dX6_told_175 rfl ?_
    exact cw_o (T := T) (by unfold oTold; rw [s_1_12]; exact congrArg (fun z => (z, T)) (hT.1.symm)) (CW.mk hCI)
  refine j_case (13) (fun s_1_13 => ?_) (fun s_1_13 => ?_)
  · refine j_tableIn hC dX6_told_1 (by rw [s_1_13]; decide) (by rw [s_1_13]; decide) (off := 175) (by rw [s_1_13]; rfl) (tgt := 176) (by decide) ?_
    refine j_aload_n hC dX6_told_176 rfl rfl ?_
    refine j_get hC uX6 0 0 3 rfl rfl k145 rfl dX6_told_177 ?_
    refine j_get hC uX1 6 0 2 rfl rfl k101 rfl dX6_told_180 ?_
    refine j_iret hC hQ rfl rfl (Nat.le_of_ble_eq_true rfl) (Nat.le_of_ble_eq_true rfl) dX6_told_183 rfl ?_
    exact cw_o (T := T) (by unfold oTold; rw [s_1_13]; exact congrArg (fun z => (z, T)) (hh2.symm)) (CW.mk hCI)
  refine j_tableOut hC dX6_told_1 (jout14 s_1_0 s_1_1 s_1_2 s_1_3 s_1_4 s_1_5 s_1_6 s_1_7 s_1_8 s_1_9 s_1_10 s_1_11 s_1_12 s_1_13) (tgt := 184) (by decide) ?_
  refine j_iconst hC (-1) dX6_told_184 (by decide) ?_
  refine j_iret hC hQ rfl rfl (Nat.le_of_ble_eq_true rfl) (Nat.le_of_ble_eq_true rfl) dX6_told_185 rfl ?_
  exact cw_o (T := T) (by unfold oTold toldV; rw [if_neg s_1_0, if_neg s_1_1, if_neg s_1_2, if_neg s_1_3, if_neg s_1_4, if_neg s_1_5, if_neg s_1_6, if_neg s_1_7, if_neg s_1_8, if_neg s_1_9, if_neg s_1_10, if_neg s_1_11, if_neg s_1_12, if_neg s_1_13]) (CW.mk hCI)
set_option maxHeartbeats 1000000 in
set_option maxRecDepth 100000 in
theorem c_X6_undo (g : jG) (a : Nat) (T : St3) (b : List va_W) (h : CW g a T b) : Con g yX6_undo cX6_undo 1 (some .int) 6 124 15 125 [.ref a] b (fun rr bb => rr = some (.int (oUndo T).1) ∧ CW g a (oUndo T).2 bb) := by
  obtain ⟨dt, dn, du, dh, dr, dp, It, ft, In, An, Xn, Iu, Au, Xu, Ih, K, Ar, Ip, Ap, rfl, hCI⟩ := h
  obtain ⟨hB, hu, hH, hT, hp2, hp0, hpl⟩ := id hCI
  obtain ⟨⟨hg1, hg2, hg3, hg4⟩, hb2, hb3, hb5, hb6, hb7, hb8, hb9⟩ := id hB
  have hg1 : bok In Xn (bLs T.1).length := hg1
  have hg2 : In 4 = nI (bRs T.1).length := hg2
  have hb5 : In 5 = bNeed T.1 := hb5
  have hk10 : (bLs T.1).length ≤ 10 := Nat.le_trans hg1.2.1 hg1.2.2
  refine Con.of (own := RX6) (lv := [(0, .ref a)]) (by decide) rfl (Nat.le_of_ble_eq_true rfl) rfl ?_
  intro E hC hQ hN
  obtain ⟨nx, hnx, hh1, hh2, hh3, hh4, hh5⟩ := id hH
  refine j_aload_n hC dX6_undo_0 rfl rfl ?_
  refine j_get hC uX6 0 0 3 rfl rfl k145 rfl dX6_undo_1 ?_
  refine j_get hC uX1 6 0 2 rfl rfl k101 rfl dX6_undo_4 ?_
  refine j_if_ne hC dX6_undo_7 (tgt := 13) (by decide) (fun c_7 => ?_) (fun c_7 => ?_)
  · skip
    have hm0 : 0 < T.2.1.length := Nat.pos_of_ne_zero (fun q => c_7 (by rw [hh2, q]; exact nI_0))
    obtain ⟨V, S0, hKV, hS0, hV⟩ := hh4 0 hm0
    obtain ⟨tl, hcons⟩ := jhead hS0
    refine j_aload_n hC dX6_undo_13 rfl rfl ?_
    refine j_get hC uX6 0 0 3 rfl rfl k145 rfl dX6_undo_14 ?_
    refine j_aload_n hC dX6_undo_17 rfl rfl ?_
    refine j_get hC uX6 0 0 1 rfl rfl k143 rfl dX6_undo_18 ?_
    refine j_callV hC [6, 7, 2, 3] (c_X1_restore g _ _ K _ _ _ _ _ _ nx T.2.1.length V hg1.2.2 hnx hm0 hh3 hh1 hh2 hKV hV.1) mX1_restore k563 rfl rfl rfl rfl rfl ⟨(Nat.le_of_ble_eq_true rfl), (Nat.le_of_ble_eq_true rfl)⟩ (Nat.le_of_ble_eq_true rfl) ⟨(Nat.le_of_ble_eq_true rfl), (Nat.le_of_ble_eq_true rfl)⟩ dX6_undo_21 (fun r_21 b_21 hp_21 _ => ?_)
    obtain ⟨rfl, I1, A1, Y, rfl, hbeq⟩ := hp_21
    dsimp only [jrepl, List.set, jstk]
    refine j_aload_n hC dX6_undo_24 rfl rfl ?_
    refine j_get hC uX6 0 0 5 rfl rfl k147 rfl dX6_undo_25 ?_
    refine j_callVR hC [9] (c_X3_forget g _ _ _) mX3_forget k296 rfl rfl rfl rfl rfl ⟨(Nat.le_of_ble_eq_true rfl), (Nat.le_of_ble_eq_true rfl)⟩ (Nat.le_of_ble_eq_true rfl) ⟨(Nat.le_of_ble_eq_true rfl), (Nat.le_of_ble_eq_true rfl)⟩ dX6_undo_28 ?_
    dsimp only [jrepl, List.set, jstk]
    refine j_aload_n hC dX6_undo_31 rfl rfl ?_
    refine j_get hC uX6 0 0 3 rfl rfl k145 rfl dX6_undo_32 ?_
    refine j_get hC uX1 6 0 2 rfl rfl k101 rfl dX6_undo_35 ?_
    refine j_iret hC hQ rfl rfl (Nat.le_of_ble_eq_true rfl) (Nat.le_of_ble_eq_true rfl) dX6_undo_38 rfl ?_
    exact cw_o (T := (S0, tl, T.2.2)) (by rw [oUndo_cons hcons]; exact congrArg (fun z => (z, _)) (show nI tl.length = nI (T.2.1.length - 1) by rw [hcons]; rfl)) (CW.mk ⟨isB_beq hbeq hV, hu, chist_pop hnx hh3 hh4 hh5 hcons, hT, hp2, hp0, Or.inl rfl⟩)
  · skip
    refine j_bipush hC (-2) dX6_undo_10 (by decide) ?_
    refine j_iret hC hQ rfl rfl (Nat.le_of_ble_eq_true rfl) (Nat.le_of_ble_eq_true rfl) dX6_undo_12 rfl ?_
    exact cw_o (T := T) (oUndo_nil (by have q := c_7; rw [hh2, ← nI_0] at q; exact nI_injN (by omega) (by omega) q)) (CW.mk hCI)
set_option maxHeartbeats 1000000 in
set_option maxRecDepth 100000 in
theorem c_X6_routeAt (g : jG) (a : Nat) (T : St3) (b : List va_W) (x w : Int32) (h : CW g a T b) (hw : rswf (bRs T.1)) : Con g yX6_routeAt cX6_routeAt 3 (some .int) 5 119 0 0 [.ref a, .int x, .int w] b (fun rr bb => rr = some (.int (oRouteAt T x w).1) ∧ CW g a (oRouteAt T x w).2 bb) := by
  obtain ⟨dt, dn, du, dh, dr, dp, It, ft, In, An, Xn, Iu, Au, Xu, Ih, K, Ar, Ip, Ap, rfl, hCI⟩ := h
  obtain ⟨hB, hu, hH, hT, hp2, hp0, hpl⟩ := id hCI
  obtain ⟨⟨hg1, hg2, hg3, hg4⟩, hb2, hb3, hb5, hb6, hb7, hb8, hb9⟩ := id hB
  have hg1 : bok In Xn (bLs T.1).length := hg1
  have hg2 : In 4 = nI (bRs T.1).length := hg2
  have hb5 : In 5 = bNeed T.1 := hb5
  have hk10 : (bLs T.1).length ≤ 10 := Nat.le_trans hg1.2.1 hg1.2.2
  refine Con.of (own := RX6) (lv := [(0, .ref a), (1, .int x), (2, .int w)]) (by decide) rfl (Nat.le_of_ble_eq_true rfl) rfl ?_
  intro E hC hQ hN
  refine j_aload_n hC dX6_routeAt_0 rfl rfl ?_
  refine j_get hC uX6 0 0 1 rfl rfl k143 rfl dX6_routeAt_1 ?_
  refine j_iload_n hC dX6_routeAt_4 rfl rfl ?_
  refine j_callVR hC [2] (c_X0_hasRoute g _ _ _ _ _) mX0_hasRoute k495 rfl rfl rfl rfl rfl ⟨(Nat.le_of_ble_eq_true rfl), (Nat.le_of_ble_eq_true rfl)⟩ (Nat.le_of_ble_eq_true rfl) ⟨(Nat.le_of_ble_eq_true rfl), (Nat.le_of_ble_eq_true rfl)⟩ dX6_routeAt_5 ?_
  dsimp only [jrepl, List.set, jstk]
  refine j_if_eq hC dX6_routeAt_8 (tgt := 21) (by decide) (fun c_8 => ?_) (fun c_8 => ?_)
  · skip
    refine j_iconst hC (-1) dX6_routeAt_21 (by decide) ?_
    refine j_iret hC hQ rfl rfl (Nat.le_of_ble_eq_true rfl) (Nat.le_of_ble_eq_true rfl) dX6_routeAt_22 rfl ?_
    first | exact cw_o (T := T) (by unfold oRouteAt; rw [if_neg (fun q => jb0 c_8 (hLX_hasR hg2 hg3 q.1))]) (CW.mk hCI) | exact cw_o (T := T) (by unfold oRouteAt; rw [if_neg (and3b c_12)]) (CW.mk hCI) | exact cw_o (T := T) (by unfold oRouteAt; rw [if_neg (and3c (Int32.not_le.mp c_18))]) (CW.mk hCI)
  · skip
    refine j_iload_n hC dX6_routeAt_11 rfl rfl ?_
    refine j_if_lt hC dX6_routeAt_12 (tgt := 21) (by decide) (fun c_12 => ?_) (fun c_12 => ?_)
    · skip
      refine j_iconst hC (-1) dX6_routeAt_21 (by decide) ?_
      refine j_iret hC hQ rfl rfl (Nat.le_of_ble_eq_true rfl) (Nat.le_of_ble_eq_true rfl) dX6_routeAt_22 rfl ?_
      first | exact cw_o (T := T) (by unfold oRouteAt; rw [if_neg (fun q => jb0 c_8 (hLX_hasR hg2 hg3 q.1))]) (CW.mk hCI) | exact cw_o (T := T) (by unfold oRouteAt; rw [if_neg (and3b c_12)]) (CW.mk hCI) | exact cw_o (T := T) (by unfold oRouteAt; rw [if_neg (and3c (Int32.not_le.mp c_18))]) (CW.mk hCI)
    · skip
      refine j_iload_n hC dX6_routeAt_15 rfl rfl ?_
      refine j_bipush hC (6) dX6_routeAt_16 (by decide) ?_
      refine j_icmp_le hC dX6_routeAt_18 (tgt := 23) (by decide) (fun c_18 => ?_) (fun c_18 => ?_)
      · skip
        have hlx : hLX x (bRs T.1).length := ⟨(jb1 c_8).1, by rw [← hg2]; exact (jb1 c_8).2.1⟩
        obtain ⟨j, hj, hx⟩ := hLX_nat (by omega) hlx
        have hcl : x.toNatClampNeg = j := by rw [hx, nI_cl (by omega)]
        obtain ⟨hr1, hr2, hr3, hr4⟩ := isB_rok hB hw j hj
        have hff := (firstP_nat (A := An) hg2 hg3 hj hx).trans hr1
        have hll := (lastP_nat (A := An) hg2 hg3 hj hx).trans hr2
        have c_18b : ¬ 6 < w := Int32.not_lt.mpr c_18
        refine j_iload_n hC dX6_routeAt_23 rfl rfl ?_
        refine j_case (0) (fun s_24_0 => ?_) (fun s_24_0 => ?_)
        · refine j_tableIn hC dX6_routeAt_24 (by rw [s_24_0]; decide) (by rw [s_24_0]; decide) (off := 40) (by rw [s_24_0]; rfl) (tgt := 64) (by decide) ?_
          refine j_aload_n hC dX6_routeAt_64 rfl rfl ?_
          refine j_get hC uX6 0 0 1 rfl rfl k143 rfl dX6_routeAt_65 ?_
          refine j_iload_n hC dX6_routeAt_68 rfl rfl ?_
          refine j_callVR hC [2] (c_X0_firstPlace g _ _ _ _ _) mX0_firstPlace k199 rfl rfl rfl rfl rfl ⟨(Nat.le_of_ble_eq_true rfl), (Nat.le_of_ble_eq_true rfl)⟩ (Nat.le_of_ble_eq_true rfl) ⟨(Nat.le_of_ble_eq_true rfl), (Nat.le_of_ble_eq_true rfl)⟩ dX6_routeAt_69 ?_
          dsimp only [jrepl, List.set, jstk]
          refine j_iret hC hQ rfl rfl (Nat.le_of_ble_eq_true rfl) (Nat.le_of_ble_eq_true rfl) dX6_routeAt_72 rfl ?_
          exact cw_o (T := T) (by unfold oRouteAt raV; rw [if_pos ⟨hlx, c_12, c_18b⟩, hcl, s_24_0]; exact congrArg (fun z => (z, T)) (hff.symm)) (CW.mk hCI)
        refine j_case (1) (fun s_24_1 => ?_) (fun s_24_1 => ?_)
        · refine j_tableIn hC dX6_routeAt_24 (by rw [s_24_1]; decide) (by rw [s_24_1]; decide) (off := 49) (by rw [s_24_1]; rfl) (tgt := 73) (by decide) ?_
          refine j_aload_n hC dX6_routeAt_73 rfl rfl ?_
          refine j_get hC uX6 0 0 1 rfl rfl k143 rfl dX6_routeAt_74 ?_
          refine j_iload_n hC dX6_routeAt_77 rfl rfl ?_
          refine j_callVR hC [2] (c_X0_lastPlace g _ _ _ _ _) mX0_lastPlace k207 rfl rfl rfl rfl rfl ⟨(Nat.le_of_ble_eq_true rfl), (Nat.le_of_ble_eq_true rfl)⟩ (Nat.le_of_ble_eq_true rfl) ⟨(Nat.le_of_ble_eq_true rfl), (Nat.le_of_ble_eq_true rfl)⟩ dX6_routeAt_78 ?_
          dsimp only [jrepl, List.set, jstk]
          refine j_iret hC hQ rfl rfl (Nat.le_of_ble_eq_true rfl) (Nat.le_of_ble_eq_true rfl) dX6_routeAt_81 rfl ?_
          exact cw_o (T := T) (by unfold oRouteAt raV; rw [if_pos ⟨hlx, c_12, c_18b⟩, hcl, s_24_1]; exact congrArg (fun z => (z, T)) (hll.symm)) (CW.mk hCI)
        refine j_case (2) (fun s_24_2 => ?_) (fun s_24_2 => ?_)
        · refine j_tableIn hC dX6_routeAt_24 (by rw [s_24_2]; decide) (by rw [s_24_2]; decide) (off := 58) (by rw [s_24_2]; rfl) (tgt := 82) (by decide) ?_
          refine j_aload_n hC dX6_routeAt_82 rfl rfl ?_
          refine j_iload_n hC dX6_routeAt_83 rfl rfl ?_
          refine j_callV hC [0, 1, 2, 3, 4, 5, 6, 7, 8, 9] (c_X6_darkPlaces g _ _ _ _ _ _ _ _ _ _ _ _ _ _ _ _ _ _ _ _ T.1 j x hB hw hj hx) mX6_darkPlaces k413 rfl rfl rfl rfl rfl ⟨(Nat.le_of_ble_eq_true rfl), (Nat.le_of_ble_eq_true rfl)⟩ (Nat.le_of_ble_eq_true rfl) ⟨(Nat.le_of_ble_eq_true rfl), (Nat.le_of_ble_eq_true rfl)⟩ dX6_routeAt_84 (fun r_84 b_84 hp_84 _ => ?_)
          obtain ⟨A1, rfl, rfl⟩ := hp_84
          dsimp only [jrepl, List.set, jstk]
          rw [show darkX (In 5) Xn (bLs T.1).length (raS T.1 j) (rbS T.1 j) 1023 = _ from isB_dark hB]
          refine j_iret hC hQ rfl rfl (Nat.le_of_ble_eq_true rfl) (Nat.le_of_ble_eq_true rfl) dX6_routeAt_87 rfl ?_
          exact cw_o (T := T) (by unfold oRouteAt raV; rw [if_pos ⟨hlx, c_12, c_18b⟩, hcl, s_24_2]; exact congrArg (fun z => (z, T)) (rfl)) (CW.mk hCI)
        refine j_case (3) (fun s_24_3 => ?_) (fun s_24_3 => ?_)
        · refine j_tableIn hC dX6_routeAt_24 (by rw [s_24_3]; decide) (by rw [s_24_3]; decide) (off := 64) (by rw [s_24_3]; rfl) (tgt := 88) (by decide) ?_
          refine j_aload_n hC dX6_routeAt_88 rfl rfl ?_
          refine j_iload_n hC dX6_routeAt_89 rfl rfl ?_
          refine j_callV hC [0, 1, 2, 3, 4, 5, 6, 7, 8, 9] (c_X6_darkPlaces g _ _ _ _ _ _ _ _ _ _ _ _ _ _ _ _ _ _ _ _ T.1 j x hB hw hj hx) mX6_darkPlaces k413 rfl rfl rfl rfl rfl ⟨(Nat.le_of_ble_eq_true rfl), (Nat.le_of_ble_eq_true rfl)⟩ (Nat.le_of_ble_eq_true rfl) ⟨(Nat.le_of_ble_eq_true rfl), (Nat.le_of_ble_eq_true rfl)⟩ dX6_routeAt_90 (fun r_90 b_90 hp_90 _ => ?_)
          obtain ⟨A1, rfl, rfl⟩ := hp_90
          dsimp only [jrepl, List.set, jstk]
          rw [show darkX (In 5) Xn (bLs T.1).length (raS T.1 j) (rbS T.1 j) 1023 = _ from isB_dark hB]
          refine j_if_ne hC dX6_routeAt_93 (tgt := 100) (by decide) (fun c_93 => ?_) (fun c_93 => ?_)
          · skip
            refine j_iconst hC (0) dX6_routeAt_100 (by decide) ?_
            refine j_iret hC hQ rfl rfl (Nat.le_of_ble_eq_true rfl) (Nat.le_of_ble_eq_true rfl) dX6_routeAt_101 rfl ?_
            first | exact cw_o (T := T) (by unfold oRouteAt raV; rw [if_pos ⟨hlx, c_12, c_18b⟩, hcl, s_24_3]; exact congrArg (fun z => (z, T)) ((if_pos c_93 : (if _ then (1 : Int32) else 0) = _))) (CW.mk hCI) | exact cw_o (T := T) (by unfold oRouteAt raV; rw [if_pos ⟨hlx, c_12, c_18b⟩, hcl, s_24_3]; exact congrArg (fun z => (z, T)) ((if_neg c_93 : (if _ then (1 : Int32) else 0) = _))) (CW.mk hCI)
          · skip
            refine j_iconst hC (1) dX6_routeAt_96 (by decide) ?_
            refine j_goto hC dX6_routeAt_97 (tgt := 101) (by decide) ?_
            refine j_iret hC hQ rfl rfl (Nat.le_of_ble_eq_true rfl) (Nat.le_of_ble_eq_true rfl) dX6_routeAt_101 rfl ?_
            first | exact cw_o (T := T) (by unfold oRouteAt raV; rw [if_pos ⟨hlx, c_12, c_18b⟩, hcl, s_24_3]; exact congrArg (fun z => (z, T)) ((if_pos c_93 : (if _ then (1 : Int32) else 0) = _))) (CW.mk hCI) | exact cw_o (T := T) (by unfold oRouteAt raV; rw [if_pos ⟨hlx, c_12, c_18b⟩, hcl, s_24_3]; exact congrArg (fun z => (z, T)) ((if_neg c_93 : (if _ then (1 : Int32) else 0) = _))) (CW.mk hCI)
        refine j_case (4) (fun s_24_4 => ?_) (fun s_24_4 => ?_)
        · refine j_tableIn hC dX6_routeAt_24 (by rw [s_24_4]; decide) (by rw [s_24_4]; decide) (off := 78) (by rw [s_24_4]; rfl) (tgt := 102) (by decide) ?_
          refine j_aload_n hC dX6_routeAt_102 rfl rfl ?_
          refine j_get hC uX6 0 0 4 rfl rfl k146 rfl dX6_routeAt_103 ?_
          refine j_aload_n hC dX6_routeAt_106 rfl rfl ?_
          refine j_get hC uX6 0 0 1 rfl rfl k143 rfl dX6_routeAt_107 ?_
          refine j_iload_n hC dX6_routeAt_110 rfl rfl ?_
          refine j_sipush hC (1023) dX6_routeAt_111 (by decide) ?_
          refine j_callV hC [8, 2, 3] (c_X4_minutes g _ _ _ _ _ _ _ (raS T.1 j) (rbS T.1 j) _ _ hg1 hff hll hr3 hr4) mX4_minutes k496 rfl rfl rfl rfl rfl ⟨(Nat.le_of_ble_eq_true rfl), (Nat.le_of_ble_eq_true rfl)⟩ (Nat.le_of_ble_eq_true rfl) ⟨(Nat.le_of_ble_eq_true rfl), (Nat.le_of_ble_eq_true rfl)⟩ dX6_routeAt_114 (fun r_114 b_114 hp_114 _ => ?_)
          obtain ⟨A2, rfl, rfl, hA2⟩ := hp_114
          dsimp only [jrepl, List.set, jstk]
          rw [isB_min hB]
          refine j_iret hC hQ rfl rfl (Nat.le_of_ble_eq_true rfl) (Nat.le_of_ble_eq_true rfl) dX6_routeAt_117 rfl ?_
          exact cw_o (T := T) (by unfold oRouteAt raV; rw [if_pos ⟨hlx, c_12, c_18b⟩, hcl, s_24_4]; exact congrArg (fun z => (z, T)) (rfl)) (CW.mk hCI)
        refine j_case (5) (fun s_24_5 => ?_) (fun s_24_5 => ?_)
        · refine j_tableIn hC dX6_routeAt_24 (by rw [s_24_5]; decide) (by rw [s_24_5]; decide) (off := 94) (by rw [s_24_5]; rfl) (tgt := 118) (by decide) ?_
          refine j_aload_n hC dX6_routeAt_118 rfl rfl ?_
          refine j_get hC uX6 0 0 4 rfl rfl k146 rfl dX6_routeAt_119 ?_
          refine j_aload_n hC dX6_routeAt_122 rfl rfl ?_
          refine j_get hC uX6 0 0 1 rfl rfl k143 rfl dX6_routeAt_123 ?_
          refine j_iload_n hC dX6_routeAt_126 rfl rfl ?_
          refine j_aload_n hC dX6_routeAt_127 rfl rfl ?_
          refine j_get hC uX6 0 0 1 rfl rfl k143 rfl dX6_routeAt_128 ?_
          refine j_aload_n hC dX6_routeAt_131 rfl rfl ?_
          refine j_iload_n hC dX6_routeAt_132 rfl rfl ?_
          refine j_callV hC [0, 1, 2, 3, 4, 5, 6, 7, 8, 9] (c_X6_worstCircuit g _ _ _ _ _ _ _ _ _ _ _ _ _ _ _ _ _ _ _ _ T.1 j x hB hw hj hx) mX6_worstCircuit k507 rfl rfl rfl rfl rfl ⟨(Nat.le_of_ble_eq_true rfl), (Nat.le_of_ble_eq_true rfl)⟩ (Nat.le_of_ble_eq_true rfl) ⟨(Nat.le_of_ble_eq_true rfl), (Nat.le_of_ble_eq_true rfl)⟩ dX6_routeAt_133 (fun r_133 b_133 hp_133 _ => ?_)
          obtain ⟨A1, rfl, rfl⟩ := hp_133
          dsimp only [jrepl, List.set, jstk]
          rw [isB_wc hB]
          refine j_callVR hC [2, 3] (c_X0_withoutCircuit g _ _ _ _ _ _ hg1) mX0_withoutCircuit k511 rfl rfl rfl rfl rfl ⟨(Nat.le_of_ble_eq_true rfl), (Nat.le_of_ble_eq_true rfl)⟩ (Nat.le_of_ble_eq_true rfl) ⟨(Nat.le_of_ble_eq_true rfl), (Nat.le_of_ble_eq_true rfl)⟩ dX6_routeAt_136 ?_
          dsimp only [jrepl, List.set, jstk]
          rw [isB_wo hB]
          refine j_callV hC [8, 2, 3] (c_X4_minutes g _ _ _ _ _ _ _ (raS T.1 j) (rbS T.1 j) _ _ hg1 hff hll hr3 hr4) mX4_minutes k496 rfl rfl rfl rfl rfl ⟨(Nat.le_of_ble_eq_true rfl), (Nat.le_of_ble_eq_true rfl)⟩ (Nat.le_of_ble_eq_true rfl) ⟨(Nat.le_of_ble_eq_true rfl), (Nat.le_of_ble_eq_true rfl)⟩ dX6_routeAt_139 (fun r_139 b_139 hp_139 _ => ?_)
          obtain ⟨A2, rfl, rfl, hA2⟩ := hp_139
          dsimp only [jrepl, List.set, jstk]
          rw [isB_min hB]
          refine j_iret hC hQ rfl rfl (Nat.le_of_ble_eq_true rfl) (Nat.le_of_ble_eq_true rfl) dX6_routeAt_142 rfl ?_
          exact cw_o (T := T) (by unfold oRouteAt raV; rw [if_pos ⟨hlx, c_12, c_18b⟩, hcl, s_24_5]; exact congrArg (fun z => (z, T)) (rfl)) (CW.mk hCI)
        refine j_tableOut hC dX6_routeAt_24 (jout6 s_24_0 s_24_1 s_24_2 s_24_3 s_24_4 s_24_5) (tgt := 143) (by decide) ?_
        refine j_aload_n hC dX6_routeAt_143 rfl rfl ?_
        refine j_iload_n hC dX6_routeAt_144 rfl rfl ?_
        refine j_callV hC [0, 1, 2, 3, 4, 5, 6, 7, 8, 9] (c_X6_worstCircuit g _ _ _ _ _ _ _ _ _ _ _ _ _ _ _ _ _ _ _ _ T.1 j x hB hw hj hx) mX6_worstCircuit k507 rfl rfl rfl rfl rfl ⟨(Nat.le_of_ble_eq_true rfl), (Nat.le_of_ble_eq_true rfl)⟩ (Nat.le_of_ble_eq_true rfl) ⟨(Nat.le_of_ble_eq_true rfl), (Nat.le_of_ble_eq_true rfl)⟩ dX6_routeAt_145 (fun r_145 b_145 hp_145 _ => ?_)
        obtain ⟨A1, rfl, rfl⟩ := hp_145
        dsimp only [jrepl, List.set, jstk]
        rw [isB_wc hB]
        refine j_iret hC hQ rfl rfl (Nat.le_of_ble_eq_true rfl) (Nat.le_of_ble_eq_true rfl) dX6_routeAt_148 rfl ?_
        exact cw_o (T := T) (by unfold oRouteAt raV; rw [if_pos ⟨hlx, c_12, c_18b⟩, hcl, if_neg s_24_0, if_neg s_24_1, if_neg s_24_2, if_neg s_24_3, if_neg s_24_4, if_neg s_24_5]) (CW.mk hCI)
      · skip
        refine j_iconst hC (-1) dX6_routeAt_21 (by decide) ?_
        refine j_iret hC hQ rfl rfl (Nat.le_of_ble_eq_true rfl) (Nat.le_of_ble_eq_true rfl) dX6_routeAt_22 rfl ?_
        first | exact cw_o (T := T) (by unfold oRouteAt; rw [if_neg (fun q => jb0 c_8 (hLX_hasR hg2 hg3 q.1))]) (CW.mk hCI) | exact cw_o (T := T) (by unfold oRouteAt; rw [if_neg (and3b c_12)]) (CW.mk hCI) | exact cw_o (T := T) (by unfold oRouteAt; rw [if_neg (and3c (Int32.not_le.mp c_18))]) (CW.mk hCI)
