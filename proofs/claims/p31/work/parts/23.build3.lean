/-! hours, copies -/
theorem strL_a {h x : Int32} {L : jF} (c : ¬ h - h / 1000 * 1000 = 0) : strL h x L = hoursL L x := if_pos c
theorem strL_b {h x : Int32} {L : jF} (c : h - h / 1000 * 1000 = 0) : strL h x L = ageL (hoursL L x) 1 := if_neg (fun q => q c)
theorem jmaxN0 {x : Int32} (c : x ≤ 0) : jmax 0 x = 0 := if_neg (Int32.not_lt.mpr c)
theorem jback {x : Int32} : 1000 + (x + -1000) = x := by rw [Int32.add_comm, Int32.add_assoc, show (-1000 : Int32) + 1000 = 0 by decide, Int32.add_zero]
theorem jfirst {h x m : Int32} (q : 0 ≤ (x - m).toInt) : h + m + jmax 0 (x - m) = h + x := by
  have e : jmax 0 (x - m) = x - m := by
    unfold jmax
    by_cases w : 0 < x - m
    · rw [if_pos w]
    · rw [if_neg w]
      rw [Int32.lt_iff_toInt_lt, show (0 : Int32).toInt = 0 by decide] at w
      rw [← Int32.toInt_inj, show (0 : Int32).toInt = 0 by decide]; omega
  rw [e, Int32.add_assoc, Int32.add_comm m, Int32.sub_add_cancel]
theorem lhp_0 {f : Nat} {left h : Int32} {L : jF} (c : left ≤ 0) : lhp f left h L = L := by
  cases f with
  | zero => rfl
  | succ f => exact if_pos c
theorem lhp_1 {f : Nat} {left h : Int32} {L : jF} (c : ¬ left ≤ 0) : lhp (f + 1) left h L = lhp f (left + -1000) (h + jmin left 1000) (strL (h + jmin left 1000) (jmin left 1000) L) := if_neg c
theorem jToInt1000 : (1000 : Int32).toInt = 1000 := by decide
theorem jleft {x : Int32} (h1 : ¬ x ≤ 0) : (x + -1000).toInt = x.toInt - 1000 := by
  simp only [Int32.le_iff_toInt_le, Int32.toInt_zero] at h1
  have h2 := Int32.toInt_lt x
  rw [Int32.toInt_add, show (-1000 : Int32).toInt = -1000 by decide]
  rw [Int.bmod_eq_of_le] <;> omega
theorem jstretch {h x : Int32} (c : ¬ x ≤ 0) : h + jmin x 1000 + jmax 0 (x + -1000) = h + jmax 0 x := by
  have e : jmax 0 x = x := if_pos (Int32.not_le.mp c)
  have hl := jleft c
  rw [Int32.add_assoc, e]
  have k0 : (0 : Int32).toInt = 0 := by decide
  have k1 : (1000 : Int32).toInt = 1000 := by decide
  refine congrArg (fun z => h + z) ?_
  by_cases q : 1000 < x
  · rw [show jmin x 1000 = 1000 from if_pos q]
    have q2 := q
    rw [Int32.lt_iff_toInt_lt, k1] at q2
    by_cases w : 0 < x + -1000
    · rw [show jmax 0 (x + -1000) = x + -1000 from if_pos w]; exact jback
    · exact absurd (by rw [Int32.lt_iff_toInt_lt, k0, hl]; omega) w
  · rw [show jmin x 1000 = x from if_neg q]
    rw [Int32.lt_iff_toInt_lt, k1] at q
    rw [jmaxN0 (by rw [Int32.le_iff_toInt_le, hl, k0]; omega), Int32.add_zero]
/-- the lights of one row are those of another, as far as k -/
def lsame (X Y : List (Nat × jF)) (k : Nat) : Prop := k ≤ X.length ∧ X.length ≤ 10 ∧ ∀ j, j < k → jL X j = jL Y j
def onlyAt (I1 I : jF) (f : Nat → Prop) : Prop := ∀ i, ¬ f i → I1 i = I i
set_option maxHeartbeats 1000000 in
set_option maxRecDepth 100000 in
theorem c_X0_letStretchPass (g : jG) (d : Nat → Nat) (I : jF) (A : Nat → jF) (X : List (Nat × jF)) (k : Nat) (x : Int32) (h : bok I X k) : Con g yX0_letStretchPass cX0_letStretchPass 4 none 4 81 0 0 [.ref (d 0), .int x] [bc g d I A (lrf X), lts X] (jR (none) [bc g d (upd I 6 (I 6 + x)) A (lrf (lmap (lpre k (fun _ => strL (I 6 + x) x)) X)), lts (lmap (lpre k (fun _ => strL (I 6 + x) x)) X)]) := by
  refine Con.of (own := RX0) (lv := [(0, .ref (d 0)), (1, .int x)]) (by decide) rfl (Nat.le_of_ble_eq_true rfl) rfl ?_
  intro E hC hQ hN
  obtain ⟨hk1, hk2, hk3⟩ := id h
  have hb1 : bok (upd I 6 (I 6 + x)) X k := ⟨hk1, hk2, hk3⟩
  refine j_aload_n hC dX0_letStretchPass_0 rfl rfl ?_
  refine j_dup hC dX0_letStretchPass_1 rfl ?_
  refine j_get hC uX0 0 0 6 rfl rfl k61 rfl dX0_letStretchPass_2 ?_
  refine j_iload_n hC dX0_letStretchPass_5 rfl rfl ?_
  refine j_iadd hC dX0_letStretchPass_6 ?_
  refine j_put_0_6 (bi := 0) hC rfl k61 dX0_letStretchPass_7 ?_
  dsimp only [List.set]
  refine j_iconst hC (0) dX0_letStretchPass_10 (by decide) ?_
  refine j_istore_n hC dX0_letStretchPass_11 rfl rfl rfl rfl (fun v_11 e_11 => ?_)
  have L_12 : ∀ (fu : Nat) (i : Nat) (x2 : Int32) (hfu : k + 1 ≤ i + fu) (hi : i ≤ k) (h2 : x2 = nI i), J g (jRm 4 81 0 0) E 4 12 [(0, .ref (d 0)), (1, .int x), (2, .int x2)] [] [bc g d (upd I 6 (I 6 + x)) A (lrf X), lts (lmap (lpre i (fun _ => strL (I 6 + x) x)) X)] (0) (0) := by
    intro fu
    induction fu with
    | zero => intro i x2 hfu hi h2; exact absurd hfu (by omega)
    | succ fu ih_12 =>
      intro i x2 hfu hi h2
      refine j_iload_n hC dX0_letStretchPass_12 rfl rfl ?_
      refine j_aload_n hC dX0_letStretchPass_13 rfl rfl ?_
      refine j_get hC uX0 0 0 1 rfl rfl k49 rfl dX0_letStretchPass_14 ?_
      refine j_icmp_ge hC dX0_letStretchPass_17 (tgt := 57) (by decide) (fun c_17 => ?_) (fun c_17 => ?_)
      · skip
        have hik : i = k := Nat.le_antisymm hi (jge hk1 h2 (by omega) (by omega) c_17)
        subst hik
        refine j_vret hC hQ rfl (Nat.le_of_ble_eq_true rfl) (Nat.le_of_ble_eq_true rfl) dX0_letStretchPass_57 rfl ⟨?_, ?_⟩
        · rfl
        · rw [lrf_lmap]
      · skip
        have hik : i < k := jlt hk1 h2 (by omega) (by omega) c_17
        refine j_aload_n hC dX0_letStretchPass_20 rfl rfl ?_
        refine j_iload_n hC dX0_letStretchPass_21 rfl rfl ?_
        refine j_callVR hC [0] (c_X0_find_in g _ _ _ _ _ _ _ hb1 hik h2) mX0_find k243 rfl rfl rfl rfl rfl ⟨(Nat.le_of_ble_eq_true rfl), (Nat.le_of_ble_eq_true rfl)⟩ (Nat.le_of_ble_eq_true rfl) ⟨(Nat.le_of_ble_eq_true rfl), (Nat.le_of_ble_eq_true rfl)⟩ dX0_letStretchPass_22 ?_
        dsimp only [jrepl, List.set, jstk]
        refine j_focus i 1 (lmap_cur (f := (fun _ => strL (I 6 + x) x)) (X := X) (i := i) (by omega)) rfl ?_
        dsimp only [List.set, List.cons_append, List.nil_append]
        refine j_astore_n hC dX0_letStretchPass_25 rfl rfl rfl rfl ?_
        refine j_aload_n hC dX0_letStretchPass_26 rfl rfl ?_
        refine j_ifnull hC dX0_letStretchPass_27 ?_
        refine j_aload_n hC dX0_letStretchPass_30 rfl rfl ?_
        refine j_iload_n hC dX0_letStretchPass_31 rfl rfl ?_
        refine j_callVR hC [2] (c_X2_letHoursPass g _ _ _) mX2_letHoursPass k389 rfl rfl rfl rfl rfl ⟨(Nat.le_of_ble_eq_true rfl), (Nat.le_of_ble_eq_true rfl)⟩ (Nat.le_of_ble_eq_true rfl) ⟨(Nat.le_of_ble_eq_true rfl), (Nat.le_of_ble_eq_true rfl)⟩ dX0_letStretchPass_32 ?_
        dsimp only [jrepl, List.set, jstk]
        refine j_aload_n hC dX0_letStretchPass_35 rfl rfl ?_
        refine j_get hC uX0 0 0 6 rfl rfl k61 rfl dX0_letStretchPass_36 ?_
        refine j_sipush hC (1000) dX0_letStretchPass_39 (by decide) ?_
        refine j_irem hC dX0_letStretchPass_42 (by decide) ?_
        refine j_if_ne hC dX0_letStretchPass_43 (tgt := 51) (by decide) (fun c_43 => ?_) (fun c_43 => ?_)
        · skip
          refine j_iinc hC (1) dX0_letStretchPass_51 rfl rfl rfl rfl rfl (fun v_51 e_51 => ?_)
          refine j_goto hC dX0_letStretchPass_54 (tgt := 12) (by decide) ?_
          refine j_pick [0, 1, 2] ?_
          refine j_unfocus i 1 (lmap_cur (f := (fun _ => strL (I 6 + x) x)) (X := X) (i := i) (by omega)) rfl rfl rfl ?_
          dsimp only [List.set, List.dropLast]
          first | rw [lmap_next (by omega) (strL_a c_43).symm] | rw [lmap_next (by omega) (strL_b c_43).symm]
          exact ih_12 (i + 1) _ (by omega) (by omega) (jsucc e_51 h2)
        · skip
          refine j_aload_n hC dX0_letStretchPass_46 rfl rfl ?_
          refine j_iconst hC (1) dX0_letStretchPass_47 (by decide) ?_
          refine j_callVR hC [2] (c_X2_age g _ _ _) mX2_age k393 rfl rfl rfl rfl rfl ⟨(Nat.le_of_ble_eq_true rfl), (Nat.le_of_ble_eq_true rfl)⟩ (Nat.le_of_ble_eq_true rfl) ⟨(Nat.le_of_ble_eq_true rfl), (Nat.le_of_ble_eq_true rfl)⟩ dX0_letStretchPass_48 ?_
          dsimp only [jrepl, List.set, jstk]
          refine j_iinc hC (1) dX0_letStretchPass_51 rfl rfl rfl rfl rfl (fun v_51 e_51 => ?_)
          refine j_goto hC dX0_letStretchPass_54 (tgt := 12) (by decide) ?_
          refine j_pick [0, 1, 2] ?_
          refine j_unfocus i 1 (lmap_cur (f := (fun _ => strL (I 6 + x) x)) (X := X) (i := i) (by omega)) rfl rfl rfl ?_
          dsimp only [List.set, List.dropLast]
          first | rw [lmap_next (by omega) (strL_a c_43).symm] | rw [lmap_next (by omega) (strL_b c_43).symm]
          exact ih_12 (i + 1) _ (by omega) (by omega) (jsucc e_51 h2)
  refine j_pick [0, 1, 2] ?_
  rw [show lts X = lts (lmap (lpre 0 (fun _ => strL (I 6 + x) x)) X) by rw [lmap_0]]
  exact L_12 (k + 1) 0 _ (by omega) (by omega) (e_11.trans nI_0.symm)
set_option maxHeartbeats 1000000 in
set_option maxRecDepth 100000 in
theorem c_X0_letHoursPass (g : jG) (d : Nat → Nat) (I : jF) (A : Nat → jF) (X : List (Nat × jF)) (k : Nat) (x : Int32) (h : bok I X k) (hx : (x - jmin x (1000 - (I 6 - I 6 / 1000 * 1000))).toInt ≤ 3000) (hx0 : 0 ≤ (x - jmin x (1000 - (I 6 - I 6 / 1000 * 1000))).toInt) : Con g yX0_letHoursPass cX0_letHoursPass 4 none 5 104 0 0 [.ref (d 0), .int x] [bc g d I A (lrf X), lts X] (fun r b => r = none ∧ ∃ (I1 : jF) (Y : List (Nat × jF)), b = [bc g d I1 A (lrf Y), lts Y] ∧ lrf Y = lrf X ∧ Y.length = X.length ∧ (∀ f, f ≠ 6 → I1 f = I f) ∧ I1 6 = I 6 + x ∧ (∀ j, j < k → jL Y j = lhp 4 (x - jmin x (1000 - (I 6 - I 6 / 1000 * 1000))) (I 6 + jmin x (1000 - (I 6 - I 6 / 1000 * 1000))) (strL (I 6 + jmin x (1000 - (I 6 - I 6 / 1000 * 1000))) (jmin x (1000 - (I 6 - I 6 / 1000 * 1000))) (jL X j)))) := by
  refine Con.of (own := RX0) (lv := [(0, .ref (d 0)), (1, .int x)]) (by decide) rfl (Nat.le_of_ble_eq_true rfl) rfl ?_
  intro E hC hQ hN
  obtain ⟨hk1, hk2, hk3⟩ := id h
  refine j_iload_n hC dX0_letHoursPass_0 rfl rfl ?_
  refine j_sipush hC (1000) dX0_letHoursPass_1 (by decide) ?_
  refine j_aload_n hC dX0_letHoursPass_4 rfl rfl ?_
  refine j_get hC uX0 0 0 6 rfl rfl k61 rfl dX0_letHoursPass_5 ?_
  refine j_sipush hC (1000) dX0_letHoursPass_8 (by decide) ?_
  refine j_irem hC dX0_letHoursPass_11 (by decide) ?_
  refine j_isub hC dX0_letHoursPass_12 ?_
  refine j_min hC k384 k186 k12 k187 (Nat.le_of_ble_eq_true rfl) (Nat.le_of_ble_eq_true rfl) (Nat.le_of_ble_eq_true rfl) (Nat.le_of_ble_eq_true rfl) dX0_letHoursPass_13 ?_
  refine j_istore_n hC dX0_letHoursPass_16 rfl rfl rfl rfl (fun v_16 e_16 => ?_)
  refine j_aload_n hC dX0_letHoursPass_17 rfl rfl ?_
  refine j_iload_n hC dX0_letHoursPass_18 rfl rfl ?_
  refine j_callVR hC [0, 1] (c_X0_letStretchPass g _ _ _ _ _ _ h) mX0_letStretchPass k385 rfl rfl rfl rfl rfl ⟨(Nat.le_of_ble_eq_true rfl), (Nat.le_of_ble_eq_true rfl)⟩ (Nat.le_of_ble_eq_true rfl) ⟨(Nat.le_of_ble_eq_true rfl), (Nat.le_of_ble_eq_true rfl)⟩ dX0_letHoursPass_19 ?_
  dsimp only [jrepl, List.set, jstk]
  refine j_iload_n hC dX0_letHoursPass_22 rfl rfl ?_
  refine j_iload_n hC dX0_letHoursPass_23 rfl rfl ?_
  refine j_isub hC dX0_letHoursPass_24 ?_
  refine j_istore_n hC dX0_letHoursPass_25 rfl rfl rfl rfl (fun v_25 e_25 => ?_)
  have L_26 : ∀ (fu : Nat) (x3 : Int32) (I1 : jF) (Y : List (Nat × jF)) (hfu : x3.toInt + 1000 ≤ 1000 * (fu : Int)) (hlo : -1000 < x3.toInt) (hY1 : lrf Y = lrf X) (hY2 : Y.length = X.length) (hI : ∀ f, f ≠ 6 → I1 f = I f) (hH : I1 6 + jmax 0 x3 = I 6 + x) (hY3 : ∀ j, j < k → lhp fu x3 (I1 6) (jL Y j) = lhp 4 (x - jmin x (1000 - (I 6 - I 6 / 1000 * 1000))) (I 6 + jmin x (1000 - (I 6 - I 6 / 1000 * 1000))) (strL (I 6 + jmin x (1000 - (I 6 - I 6 / 1000 * 1000))) (jmin x (1000 - (I 6 - I 6 / 1000 * 1000))) (jL X j))), J g (jRm 5 104 0 0) E 4 26 [(0, .ref (d 0)), (3, .int x3)] [] [bc g d I1 A (lrf Y), lts Y] (0) (0) := by
    intro fu
    induction fu with
    | zero => intro x3 I1 Y hfu hlo hY1 hY2 hI hH hY3; exact absurd hfu (by omega)
    | succ fu ih_26 =>
      intro x3 I1 Y hfu hlo hY1 hY2 hI hH hY3
      have hb1 : bok I1 Y k := ⟨(hI 1 (by decide)).trans hk1, by omega, by omega⟩
      refine j_iload_n hC dX0_letHoursPass_26 rfl rfl ?_
      refine j_if_le hC dX0_letHoursPass_27 (tgt := 50) (by decide) (fun c_27 => ?_) (fun c_27 => ?_)
      · skip
        refine j_vret hC hQ rfl (Nat.le_of_ble_eq_true rfl) (Nat.le_of_ble_eq_true rfl) dX0_letHoursPass_50 rfl ?_
        exact ⟨rfl, I1, Y, rfl, hY1, hY2, hI, by rw [jmaxN0 c_27, Int32.add_zero] at hH; exact hH, fun j hj => by have := hY3 j hj; rw [lhp_0 c_27] at this; exact this⟩
      · skip
        refine j_aload_n hC dX0_letHoursPass_30 rfl rfl ?_
        refine j_iload_n hC dX0_letHoursPass_31 rfl rfl ?_
        refine j_sipush hC (1000) dX0_letHoursPass_32 (by decide) ?_
        refine j_min hC k384 k186 k12 k187 (Nat.le_of_ble_eq_true rfl) (Nat.le_of_ble_eq_true rfl) (Nat.le_of_ble_eq_true rfl) (Nat.le_of_ble_eq_true rfl) dX0_letHoursPass_35 ?_
        refine j_callVR hC [0, 1] (c_X0_letStretchPass g _ _ _ _ _ _ hb1) mX0_letStretchPass k385 rfl rfl rfl rfl rfl ⟨(Nat.le_of_ble_eq_true rfl), (Nat.le_of_ble_eq_true rfl)⟩ (Nat.le_of_ble_eq_true rfl) ⟨(Nat.le_of_ble_eq_true rfl), (Nat.le_of_ble_eq_true rfl)⟩ dX0_letHoursPass_38 ?_
        dsimp only [jrepl, List.set, jstk]
        refine j_iincW hC (-1000) dX0_letHoursPass_41 rfl rfl rfl rfl rfl (fun v_41 e_41 => ?_)
        refine j_goto hC dX0_letHoursPass_47 (tgt := 26) (by decide) ?_
        refine j_pick [0, 3] ?_
        have hq : ∀ j, j < k → jL (lmap (lpre k (fun _ => strL (I1 6 + jmin x3 1000) (jmin x3 1000))) Y) j = strL (I1 6 + jmin x3 1000) (jmin x3 1000) (jL Y j) := fun j hj => by rw [jL_lmap (by omega)]; unfold lpre; rw [if_pos hj]
        have hlf := jleft c_27
        exact ih_26 _ _ _ (by rw [e_41, hlf]; omega) (by have q := c_27; simp only [Int32.le_iff_toInt_le, Int32.toInt_zero] at q; rw [e_41, hlf]; omega) (lrf_lmap.trans hY1) (lmap_len.trans hY2) (fun f hf => by show (if f = 6 then _ else I1 f) = I f; rw [if_neg hf]; exact hI f hf) (by rw [e_41]; exact (jstretch c_27).trans hH) (fun j hj => (congrArg (fun z => lhp fu v_41 _ z) (hq j hj)).trans (by have := hY3 j hj; rw [lhp_1 c_27] at this; rw [e_41]; exact this))
  refine j_pick [0, 3] ?_
  have hq : ∀ j, j < k → jL (lmap (lpre k (fun _ => strL (I 6 + v_16) v_16)) X) j = strL (I 6 + v_16) v_16 (jL X j) := fun j hj => by rw [jL_lmap (by omega)]; unfold lpre; rw [if_pos hj]
  have e16 : v_16 = jmin x (1000 - (I 6 - I 6 / 1000 * 1000)) := e_16
  exact L_26 (4) _ _ _ (by rw [e_25, e16]; omega) (by rw [e_25, e16]; omega) lrf_lmap lmap_len (fun f hf => by show (if f = 6 then _ else I f) = I f; rw [if_neg hf]) (by rw [e_25, e16]; exact jfirst hx0) (fun j hj => by rw [hq j hj, e_25, e16]; rfl)
theorem lrf_set {X : List (Nat × jF)} {i : Nat} {L : jF} (h : i < X.length) : lrf X = lrf (X.set i (jAd X i, L)) := by
  funext j
  unfold lrf
  by_cases hj : i = j
  · subst hj
    rw [List.getElem?_set_self h, jX_get h]
    rfl
  · rw [List.getElem?_set_ne hj]
theorem jL_set {X : List (Nat × jF)} {i a : Nat} {L : jF} (h : i < X.length) : jL (X.set i (a, L)) i = L := by
  unfold jL
  rw [List.getElem?_set_self h]
theorem jL_set_ne {X : List (Nat × jF)} {i j a : Nat} {L : jF} (h : i ≠ j) : jL (X.set i (a, L)) j = jL X j := by
  unfold jL
  rw [List.getElem?_set_ne h]
theorem jL_of {X Y : List (Nat × jF)} {j : Nat} (h : X[j]? = Y[j]?) : jL X j = jL Y j := by unfold jL; rw [h]
theorem hasR_nat {I : jF} {n t : Nat} {x : Int32} (hn : I 4 = nI n) (hn6 : n ≤ 6) (ht : t < n) (hx : x = nI t) : hasR I x := by
  show ¬ x < 0 ∧ ¬ I 4 ≤ x ∧ ¬ 6 ≤ x
  rw [hx, hn]
  exact ⟨by rw [← nI_0, nI_ltI (by omega) (by omega)]; omega, by rw [nI_leI (by omega) (by omega)]; omega, by show ¬ nI 6 ≤ nI t; rw [nI_leI (by omega) (by omega)]; omega⟩
theorem firstP_nat {I : jF} {A : Nat → jF} {n t : Nat} {x : Int32} (hn : I 4 = nI n) (hn6 : n ≤ 6) (ht : t < n) (hx : x = nI t) : firstP I A x = A 0 t := by
  unfold firstP
  rw [if_pos (hasR_nat hn hn6 ht hx), hx, nI_cl (by omega)]
theorem lastP_nat {I : jF} {A : Nat → jF} {n t : Nat} {x : Int32} (hn : I 4 = nI n) (hn6 : n ≤ 6) (ht : t < n) (hx : x = nI t) : lastP I A x = A 1 t := by
  unfold lastP
  rw [if_pos (hasR_nat hn hn6 ht hx), hx, nI_cl (by omega)]
theorem appA_get {A1 A2 : Nat → jF} {t : Nat} (h : ∀ u, u < t → A1 0 u = A2 0 u ∧ A1 1 u = A2 1 u) : ∀ u, u < t + 1 → appA A1 t (A2 0 t) (A2 1 t) 0 u = A2 0 u ∧ appA A1 t (A2 0 t) (A2 1 t) 1 u = A2 1 u := by
  intro u hu
  show (if u = t then _ else A1 0 u) = _ ∧ (if u = t then _ else A1 1 u) = _
  by_cases q : u = t
  · subst q; rw [if_pos rfl, if_pos rfl]; exact ⟨rfl, rfl⟩
  · rw [if_neg q, if_neg q]; exact h u (by omega)
set_option maxHeartbeats 1000000 in
set_option maxRecDepth 100000 in
theorem c_X0_copyLayout (g : jG) (d : Nat → Nat) (I : jF) (A : Nat → jF) (X : List (Nat × jF)) (d2 : Nat → Nat) (I2 : jF) (A2 : Nat → jF) (X2 : List (Nat × jF)) (k n : Nat) (h : bok I2 X2 k) (hX : X.length ≤ 10) (hn : I2 4 = nI n) (hn6 : n ≤ 6) (hm : ∀ j, j < k → jL X2 j 4 = 0 ∨ jL X2 j 4 = 1) : Con g yX0_copyLayout cX0_copyLayout 5 none 3 57 10 90 [.ref (d 0), .ref (d2 0)] [bc g d I A (lrf X), lts X, bc g d2 I2 A2 (lrf X2), lts X2] (fun r b => r = none ∧ ∃ (I1 : jF) (A1 : Nat → jF) (Y : List (Nat × jF)), b = [bc g d I1 A1 (lrf Y), lts Y, bc g d2 I2 A2 (lrf X2), lts X2] ∧ I1 1 = I2 1 ∧ I1 4 = I2 4 ∧ (∀ f, f ≠ 1 → f ≠ 4 → I1 f = I f) ∧ lsame Y X2 k ∧ (∀ t, t < n → A1 0 t = A2 0 t ∧ A1 1 t = A2 1 t) ∧ A1 2 = A 2) := by
  refine Con.of (own := RX0) (lv := [(0, .ref (d 0)), (1, .ref (d2 0))]) (by decide) rfl (Nat.le_of_ble_eq_true rfl) rfl ?_
  intro E hC hQ hN
  obtain ⟨hk1, hk2, hk3⟩ := id h
  refine j_aload_n hC dX0_copyLayout_0 rfl rfl ?_
  refine j_iconst hC (0) dX0_copyLayout_1 (by decide) ?_
  refine j_put_0_1 (bi := 0) hC rfl k49 dX0_copyLayout_2 ?_
  dsimp only [List.set]
  refine j_iconst hC (0) dX0_copyLayout_5 (by decide) ?_
  refine j_istore_n hC dX0_copyLayout_6 rfl rfl rfl rfl (fun v_6 e_6 => ?_)
  have L_7 : ∀ (fu : Nat) (i : Nat) (x2 : Int32) (I1 : jF) (Y : List (Nat × jF)) (hfu : k + 1 ≤ i + fu) (hi : i ≤ k) (h2 : x2 = nI i) (hI1 : I1 1 = nI i) (hI : ∀ f, f ≠ 1 → I1 f = I f) (hYi : i ≤ Y.length) (hY10 : Y.length ≤ 10) (hY : ∀ j, j < i → jL Y j = jL X2 j), J g (jRm 3 57 10 90) E 5 7 [(0, .ref (d 0)), (1, .ref (d2 0)), (2, .int x2)] [] [bc g d I1 A (lrf Y), lts Y, bc g d2 I2 A2 (lrf X2), lts X2] (i) (9 * i) := by
    intro fu
    induction fu with
    | zero => intro i x2 I1 Y hfu hi h2 hI1 hI hYi hY10 hY; exact absurd hfu (by omega)
    | succ fu ih_7 =>
      intro i x2 I1 Y hfu hi h2 hI1 hI hYi hY10 hY
      refine j_iload_n hC dX0_copyLayout_7 rfl rfl ?_
      refine j_aload_n hC dX0_copyLayout_8 rfl rfl ?_
      refine j_get hC uX0 2 0 1 rfl rfl k49 rfl dX0_copyLayout_9 ?_
      refine j_icmp_ge hC dX0_copyLayout_12 (tgt := 48) (by decide) (fun c_12 => ?_) (fun c_12 => ?_)
      · skip
        have hik : i = k := Nat.le_antisymm hi (jge hk1 h2 (by omega) (by omega) c_12)
        refine j_aload_n hC dX0_copyLayout_48 rfl rfl ?_
        refine j_iconst hC (0) dX0_copyLayout_49 (by decide) ?_
        refine j_put_0_4 (bi := 0) hC rfl k55 dX0_copyLayout_50 ?_
        dsimp only [List.set]
        refine j_iconst hC (0) dX0_copyLayout_53 (by decide) ?_
        refine j_istore_n hC dX0_copyLayout_54 rfl rfl rfl rfl (fun v_54 e_54 => ?_)
        have L_55 : ∀ (fu : Nat) (t : Nat) (x2t : Int32) (I3 : jF) (A1 : Nat → jF) (hfu : n + 1 ≤ t + fu) (ht : t ≤ n) (h2t : x2t = nI t) (hI4 : I3 4 = nI t) (hIo : ∀ f, f ≠ 4 → I3 f = I1 f) (hAr : ∀ u, u < t → A1 0 u = A2 0 u ∧ A1 1 u = A2 1 u) (hA2 : A1 2 = A 2), J g (jRm 3 57 10 90) E 5 55 [(0, .ref (d 0)), (1, .ref (d2 0)), (2, .int x2t)] [] [bc g d I3 A1 (lrf Y), lts Y, bc g d2 I2 A2 (lrf X2), lts X2] (i) (9 * i) := by
          intro fu
          induction fu with
          | zero => intro t x2t I3 A1 hfu ht h2t hI4 hIo hAr hA2; exact absurd hfu (by omega)
          | succ fu ih_55 =>
            intro t x2t I3 A1 hfu ht h2t hI4 hIo hAr hA2
            refine j_iload_n hC dX0_copyLayout_55 rfl rfl ?_
            refine j_aload_n hC dX0_copyLayout_56 rfl rfl ?_
            refine j_get hC uX0 2 0 4 rfl rfl k55 rfl dX0_copyLayout_57 ?_
            refine j_icmp_ge hC dX0_copyLayout_60 (tgt := 83) (by decide) (fun c_60 => ?_) (fun c_60 => ?_)
            · skip
              have ht2 : t = n := Nat.le_antisymm ht (jge hn h2t (by omega) (by omega) c_60)
              refine j_vret hC hQ rfl (by omega) (by omega) dX0_copyLayout_83 rfl ?_
              exact ⟨rfl, I3, A1, Y, rfl, by rw [hIo 1 (by decide)]; exact hI1.trans (by rw [hik, hk1]), (hI4.trans (by rw [ht2, hn])), fun f q1 q2 => (hIo f q2).trans (hI f q1), ⟨by omega, hY10, fun j hj => hY j (by omega)⟩, fun t ht3 => hAr t (by omega), hA2⟩
            · skip
              have htn : t < n := jlt hn h2t (by omega) (by omega) c_60
              refine j_aload_n hC dX0_copyLayout_63 rfl rfl ?_
              refine j_aload_n hC dX0_copyLayout_64 rfl rfl ?_
              refine j_iload_n hC dX0_copyLayout_65 rfl rfl ?_
              refine j_callVR hC [2] (c_X0_firstPlace g _ _ _ _ _) mX0_firstPlace k289 rfl rfl rfl rfl rfl ⟨(Nat.le_of_ble_eq_true rfl), (Nat.le_of_ble_eq_true rfl)⟩ (Nat.le_of_ble_eq_true rfl) ⟨by show i + 0 ≤ 10; omega, by show 9 * i + 0 ≤ 90; omega⟩ dX0_copyLayout_66 ?_
              dsimp only [jrepl, List.set, jstk]
              refine j_aload_n hC dX0_copyLayout_69 rfl rfl ?_
              refine j_iload_n hC dX0_copyLayout_70 rfl rfl ?_
              refine j_callVR hC [2] (c_X0_lastPlace g _ _ _ _ _) mX0_lastPlace k290 rfl rfl rfl rfl rfl ⟨(Nat.le_of_ble_eq_true rfl), (Nat.le_of_ble_eq_true rfl)⟩ (Nat.le_of_ble_eq_true rfl) ⟨by show i + 0 + 0 ≤ 10; omega, by show 9 * i + 0 + 0 ≤ 90; omega⟩ dX0_copyLayout_71 ?_
              dsimp only [jrepl, List.set, jstk]
              refine j_callVR hC [0] (c_X0_appendRoute g _ _ _ _ _ _ (by rw [hI4, ← nI_0, nI_ltI (by omega) (by omega)]; omega) (by rw [hI4]; show ¬ nI 6 ≤ nI t; rw [nI_leI (by omega) (by omega)]; omega)) mX0_appendRoute k291 rfl rfl rfl rfl rfl ⟨(Nat.le_of_ble_eq_true rfl), (Nat.le_of_ble_eq_true rfl)⟩ (Nat.le_of_ble_eq_true rfl) ⟨by show i + 0 + 0 + 0 ≤ 10; omega, by show 9 * i + 0 + 0 + 0 ≤ 90; omega⟩ dX0_copyLayout_74 ?_
              dsimp only [jrepl, List.set, jstk]
              refine j_iinc hC (1) dX0_copyLayout_77 rfl rfl rfl rfl rfl (fun v_77 e_77 => ?_)
              refine j_goto hC dX0_copyLayout_80 (tgt := 55) (by decide) ?_
              refine j_pick [0, 1, 2] ?_
              rw [show firstP I2 A2 x2t = A2 0 t from firstP_nat hn hn6 htn h2t, show lastP I2 A2 x2t = A2 1 t from lastP_nat hn hn6 htn h2t, hI4, nI_cl (j := t) (by omega)]
              exact ih_55 (t + 1) _ _ _ (by omega) (by omega) (jsucc e_77 h2t) (by show nI t + 1 = _; exact nI_1 t) (fun f hf => by show (if f = 4 then _ else I3 f) = I1 f; rw [if_neg hf]; exact hIo f hf) (appA_get hAr) hA2
        refine j_pick [0, 1, 2] ?_
        exact L_55 (n + 1) 0 _ _ _ (by omega) (by omega) (e_54.trans nI_0.symm) rfl (fun f hf => by show (if f = 4 then _ else I1 f) = I1 f; rw [if_neg hf]) (fun u hu => absurd hu (by omega)) rfl
      · skip
        have hik : i < k := jlt hk1 h2 (by omega) (by omega) c_12
        refine j_aload_n hC dX0_copyLayout_15 rfl rfl ?_
        refine j_iload_n hC dX0_copyLayout_16 rfl rfl ?_
        refine j_callVR hC [2] (c_X0_find_in g _ _ _ _ _ _ _ h hik h2) mX0_find k243 rfl rfl rfl rfl rfl ⟨(Nat.le_of_ble_eq_true rfl), (Nat.le_of_ble_eq_true rfl)⟩ (Nat.le_of_ble_eq_true rfl) ⟨by show i + 0 ≤ 10; omega, by show 9 * i + 0 ≤ 90; omega⟩ dX0_copyLayout_17 ?_
        dsimp only [jrepl, List.set, jstk]
        refine j_astore_n hC dX0_copyLayout_20 rfl rfl rfl rfl ?_
        refine j_aload_n hC dX0_copyLayout_21 rfl rfl ?_
        refine j_callV hC [0, 1] (c_X0_grow g _ _ _ _ i ⟨hI1, hYi, hY10⟩ (by omega)) mX0_grow k244 rfl rfl rfl rfl rfl ⟨(Nat.le_of_ble_eq_true rfl), (Nat.le_of_ble_eq_true rfl)⟩ (Nat.le_of_ble_eq_true rfl) ⟨by show i + 0 + 1 ≤ 10; omega, by show 9 * i + 0 + 9 ≤ 90; omega⟩ dX0_copyLayout_22 (fun r_22 b_22 hp_22 _ => ?_)
        obtain ⟨Z, rfl, rfl, hZ1, hZ2, hZ3, hZ4⟩ := hp_22
        dsimp only [jrepl, List.set, jstk]
        refine j_astore hC dX0_copyLayout_25 rfl rfl rfl ?_
        refine j_aload_n hC dX0_copyLayout_27 rfl rfl ?_
        refine j_ifnull hC dX0_copyLayout_28 ?_
        refine j_aload hC dX0_copyLayout_31 rfl ?_
        refine j_ifnull hC dX0_copyLayout_33 ?_
        refine j_aload hC dX0_copyLayout_36 rfl ?_
        refine j_aload_n hC dX0_copyLayout_38 rfl rfl ?_
        refine j_focus i 1 (jX_get (X := Z) (by omega)) rfl ?_
        dsimp only [List.set, List.cons_append, List.nil_append]
        refine j_focus i 3 (jX_get (X := X2) (by omega)) rfl ?_
        dsimp only [List.set, List.cons_append, List.nil_append]
        refine j_callVR hC [4, 5] (c_X2_copyFrom g _ _ _ _ (hm i hik)) mX2_copyFrom k285 rfl rfl rfl rfl rfl ⟨(Nat.le_of_ble_eq_true rfl), (Nat.le_of_ble_eq_true rfl)⟩ (Nat.le_of_ble_eq_true rfl) ⟨by show i + 0 + 1 + 0 ≤ 10; omega, by show 9 * i + 0 + 9 + 0 ≤ 90; omega⟩ dX0_copyLayout_39 ?_
        dsimp only [jrepl, List.set, jstk]
        refine j_unfocus i 3 (jX_get (X := X2) (by omega)) rfl rfl rfl ?_
        dsimp only [List.set, List.dropLast]
        rw [lts_same (jX_get (X := X2) (by omega))]
        refine j_unfocus i 1 (jX_get (X := Z) (by omega)) rfl rfl rfl ?_
        dsimp only [List.set, List.dropLast]
        refine j_iinc hC (1) dX0_copyLayout_42 rfl rfl rfl rfl rfl (fun v_42 e_42 => ?_)
        refine j_goto hC dX0_copyLayout_45 (tgt := 7) (by decide) ?_
        refine j_pick [0, 1, 2] ?_
        refine j_widen (k' := i + 1) (n' := 9 * (i + 1)) (by omega) (by omega) ?_
        rw [show lrf Z = lrf (Z.set i (jAd Z i, jL X2 i)) from lrf_set (by omega)]
        exact ih_7 (i + 1) _ _ _ (by omega) (by omega) (jsucc e_42 h2) (by show I1 1 + 1 = _; rw [hI1]; exact nI_1 i) (fun f hf => by show (if f = 1 then _ else I1 f) = I f; rw [if_neg hf]; exact hI f hf) (by rw [List.length_set]; omega) (by rw [List.length_set]; omega) (fun j hj => (Nat.lt_or_ge j i).elim (fun q => (jL_set_ne (by omega)).trans ((jL_of (hZ4 j q)).trans (hY j q))) (fun q => by have e : j = i := (by omega); rw [e]; exact jL_set (by omega)))
  refine j_pick [0, 1, 2] ?_
  refine j_widen (k' := 0) (n' := 9 * 0) (by omega) (by omega) ?_
  exact L_7 (k + 1) 0 _ _ _ (by omega) (by omega) (e_6.trans nI_0.symm) rfl (fun f hf => by show (if f = 1 then _ else I f) = I f; rw [if_neg hf]) (by omega) hX (fun j hj => absurd hj (by omega))
set_option maxHeartbeats 1000000 in
set_option maxRecDepth 100000 in
theorem c_X0_copyFrom (g : jG) (d : Nat → Nat) (I : jF) (A : Nat → jF) (X : List (Nat × jF)) (d2 : Nat → Nat) (I2 : jF) (A2 : Nat → jF) (X2 : List (Nat × jF)) (k n : Nat) (h : bok I2 X2 k) (hX : X.length ≤ 10) (hn : I2 4 = nI n) (hn6 : n ≤ 6) (hm : ∀ j, j < k → jL X2 j 4 = 0 ∨ jL X2 j 4 = 1) : Con g yX0_copyFrom cX0_copyFrom 3 none 4 81 10 90 [.ref (d 0), .ref (d2 0)] [bc g d I A (lrf X), lts X, bc g d2 I2 A2 (lrf X2), lts X2] (fun r b => r = none ∧ ∃ (I1 : jF) (A1 : Nat → jF) (Y : List (Nat × jF)), b = [bc g d I1 A1 (lrf Y), lts Y, bc g d2 I2 A2 (lrf X2), lts X2] ∧ (∀ f, f = 1 ∨ f = 4 ∨ f = 5 ∨ f = 6 ∨ f = 8 ∨ f = 9 → I1 f = I2 f) ∧ lsame Y X2 k ∧ (∀ t, t < n → A1 0 t = A2 0 t ∧ A1 1 t = A2 1 t) ∧ (∀ t, t < 3 → A1 2 t = A2 2 t)) := by
  refine Con.of (own := RX0) (lv := [(0, .ref (d 0)), (1, .ref (d2 0))]) (by decide) rfl (Nat.le_of_ble_eq_true rfl) rfl ?_
  intro E hC hQ hN
  refine j_aload_n hC dX0_copyFrom_0 rfl rfl ?_
  refine j_aload_n hC dX0_copyFrom_1 rfl rfl ?_
  refine j_callV hC [0, 1, 2, 3] (c_X0_copyLayout g _ _ _ _ _ _ _ _ _ _ h hX hn hn6 hm) mX0_copyLayout k239 rfl rfl rfl rfl rfl ⟨(Nat.le_of_ble_eq_true rfl), (Nat.le_of_ble_eq_true rfl)⟩ (Nat.le_of_ble_eq_true rfl) ⟨(Nat.le_of_ble_eq_true rfl), (Nat.le_of_ble_eq_true rfl)⟩ dX0_copyFrom_2 (fun r_2 b_2 hp_2 _ => ?_)
  obtain ⟨rfl, I1, A1, Y, rfl, hI1, hI4, hIo, hY, hAr, hA2⟩ := hp_2
  dsimp only [jrepl, List.set, jstk]
  refine j_aload_n hC dX0_copyFrom_5 rfl rfl ?_
  refine j_aload_n hC dX0_copyFrom_6 rfl rfl ?_
  refine j_get hC uX0 2 0 5 rfl rfl k58 rfl dX0_copyFrom_7 ?_
  refine j_put_0_5 (bi := 0) hC rfl k58 dX0_copyFrom_10 ?_
  dsimp only [List.set]
  refine j_aload_n hC dX0_copyFrom_13 rfl rfl ?_
  refine j_aload_n hC dX0_copyFrom_14 rfl rfl ?_
  refine j_get hC uX0 2 0 6 rfl rfl k61 rfl dX0_copyFrom_15 ?_
  refine j_put_0_6 (bi := 0) hC rfl k61 dX0_copyFrom_18 ?_
  dsimp only [List.set]
  refine j_aload_n hC dX0_copyFrom_21 rfl rfl ?_
  refine j_aload_n hC dX0_copyFrom_22 rfl rfl ?_
  refine j_get hC uX0 2 0 8 rfl rfl k64 rfl dX0_copyFrom_23 ?_
  refine j_put_0_8 (bi := 0) hC rfl k64 dX0_copyFrom_26 ?_
  dsimp only [List.set]
  refine j_aload_n hC dX0_copyFrom_29 rfl rfl ?_
  refine j_aload_n hC dX0_copyFrom_30 rfl rfl ?_
  refine j_get hC uX0 2 0 9 rfl rfl k66 rfl dX0_copyFrom_31 ?_
  refine j_put_0_9 (bi := 0) hC rfl k66 dX0_copyFrom_34 ?_
  dsimp only [List.set]
  refine j_iconst hC (0) dX0_copyFrom_37 (by decide) ?_
  refine j_istore_n hC dX0_copyFrom_38 rfl rfl rfl rfl (fun v_38 e_38 => ?_)
  refine j_iload_n hC dX0_copyFrom_39 rfl rfl ?_
  refine j_iconst hC (2) dX0_copyFrom_40 (by decide) ?_
  refine j_icmp_gt hC dX0_copyFrom_41 (tgt := 62) (by decide) (fun c_41 => ?_) (fun c_41 => ?_)
  · exact absurd c_41 (by rw [e_38]; decide)
  · skip
    refine j_aload_n hC dX0_copyFrom_44 rfl rfl ?_
    refine j_get hC uX0 0 0 7 rfl rfl k63 rfl dX0_copyFrom_45 ?_
    refine j_iload_n hC dX0_copyFrom_48 rfl rfl ?_
    refine j_aload_n hC dX0_copyFrom_49 rfl rfl ?_
    refine j_get hC uX0 2 0 7 rfl rfl k63 rfl dX0_copyFrom_50 ?_
    refine j_iload_n hC dX0_copyFrom_53 rfl rfl ?_
    refine j_iald hC 2 4 rfl (by rw [e_38]; exact vp_in_nI (n := 0) (by decide) (by decide)) dX0_copyFrom_54 ?_
    refine j_ast_0_2 (bi := 0) hC rfl (by rw [e_38]; exact vp_in_nI (n := 0) (by decide) (by decide)) dX0_copyFrom_55 ?_
    dsimp only [List.set]
    refine j_iinc hC (1) dX0_copyFrom_56 rfl rfl rfl rfl rfl (fun v_56 e_56 => ?_)
    refine j_goto hC dX0_copyFrom_59 (tgt := 39) (by decide) ?_
    refine j_iload_n hC dX0_copyFrom_39 rfl rfl ?_
    refine j_iconst hC (2) dX0_copyFrom_40 (by decide) ?_
    refine j_icmp_gt hC dX0_copyFrom_41 (tgt := 62) (by decide) (fun c_41x2 => ?_) (fun c_41x2 => ?_)
    · exact absurd c_41x2 (by rw [e_56, e_38]; decide)
    · skip
      refine j_aload_n hC dX0_copyFrom_44 rfl rfl ?_
      refine j_get hC uX0 0 0 7 rfl rfl k63 rfl dX0_copyFrom_45 ?_
      refine j_iload_n hC dX0_copyFrom_48 rfl rfl ?_
      refine j_aload_n hC dX0_copyFrom_49 rfl rfl ?_
      refine j_get hC uX0 2 0 7 rfl rfl k63 rfl dX0_copyFrom_50 ?_
      refine j_iload_n hC dX0_copyFrom_53 rfl rfl ?_
      refine j_iald hC 2 4 rfl (by rw [e_56, e_38]; exact vp_in_nI (n := 1) (by decide) (by decide)) dX0_copyFrom_54 ?_
      refine j_ast_0_2 (bi := 0) hC rfl (by rw [e_56, e_38]; exact vp_in_nI (n := 1) (by decide) (by decide)) dX0_copyFrom_55 ?_
      dsimp only [List.set]
      refine j_iinc hC (1) dX0_copyFrom_56 rfl rfl rfl rfl rfl (fun v_56x2 e_56x2 => ?_)
      refine j_goto hC dX0_copyFrom_59 (tgt := 39) (by decide) ?_
      refine j_iload_n hC dX0_copyFrom_39 rfl rfl ?_
      refine j_iconst hC (2) dX0_copyFrom_40 (by decide) ?_
      refine j_icmp_gt hC dX0_copyFrom_41 (tgt := 62) (by decide) (fun c_41x3 => ?_) (fun c_41x3 => ?_)
      · exact absurd c_41x3 (by rw [e_56x2, e_56, e_38]; decide)
      · skip
        refine j_aload_n hC dX0_copyFrom_44 rfl rfl ?_
        refine j_get hC uX0 0 0 7 rfl rfl k63 rfl dX0_copyFrom_45 ?_
        refine j_iload_n hC dX0_copyFrom_48 rfl rfl ?_
        refine j_aload_n hC dX0_copyFrom_49 rfl rfl ?_
        refine j_get hC uX0 2 0 7 rfl rfl k63 rfl dX0_copyFrom_50 ?_
        refine j_iload_n hC dX0_copyFrom_53 rfl rfl ?_
        refine j_iald hC 2 4 rfl (by rw [e_56x2, e_56, e_38]; exact vp_in_nI (n := 2) (by decide) (by decide)) dX0_copyFrom_54 ?_
        refine j_ast_0_2 (bi := 0) hC rfl (by rw [e_56x2, e_56, e_38]; exact vp_in_nI (n := 2) (by decide) (by decide)) dX0_copyFrom_55 ?_
        dsimp only [List.set]
        refine j_iinc hC (1) dX0_copyFrom_56 rfl rfl rfl rfl rfl (fun v_56x3 e_56x3 => ?_)
        refine j_goto hC dX0_copyFrom_59 (tgt := 39) (by decide) ?_
        refine j_iload_n hC dX0_copyFrom_39 rfl rfl ?_
        refine j_iconst hC (2) dX0_copyFrom_40 (by decide) ?_
        refine j_icmp_gt hC dX0_copyFrom_41 (tgt := 62) (by decide) (fun c_41x4 => ?_) (fun c_41x4 => ?_)
        · skip
          refine j_vret hC hQ rfl (Nat.le_of_ble_eq_true rfl) (Nat.le_of_ble_eq_true rfl) dX0_copyFrom_62 rfl ?_
          (subst_vars; exact ⟨rfl, _, _, Y, rfl, by intro f hf; rcases hf with rfl | rfl | rfl | rfl | rfl | rfl <;> first | rfl | exact hI1 | exact hI4, hY, fun t ht => hAr t ht, by intro t ht; match t, ht with | 0, _ => rfl | 1, _ => rfl | 2, _ => rfl⟩)
        · exact absurd c_41x4 (by rw [e_56x3, e_56x2, e_56, e_38]; decide)
