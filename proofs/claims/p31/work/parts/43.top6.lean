/-! the class's calls that speak of plans -/
theorem jmkR_congr {N : jF} {ra rb : Nat → Nat} {F : jF} {n : Nat} : mkR N ra rb F n = mkR N ra rb F n := rfl
theorem fdOut_congr {need : Int32} {X Y : List (Nat × jF)} {k n : Nat} {ra rb : Nat → Nat} {F F2 : jF} {v : Int32} (hx : xeq X Y k) (h : fdOut need X k n ra rb F F2 v) : fdOut need Y k n ra rb F F2 v := by
  obtain ⟨N, h1, h2⟩ := h
  exact ⟨N, fun q hq => (h1 q hq).trans (lookN_congr hx), h2⟩
theorem isB_fd {d : Nat → Nat} {I : jF} {A : Nat → jF} {X : List (Nat × jF)} {S : BS} {ra rb : Nat → Nat} {F F2 : jF} {v : Int32} {n : Nat} (h : isB (d, I, A, X) S) (q : fdOut (I 5) X (bLs S).length n ra rb F F2 v) : fdOut (bNeed S) (lsX (bLs S)) (bLs S).length n ra rb F F2 v := by
  rw [show I 5 = bNeed S from h.2.2.2.1] at q
  exact fdOut_congr (isB_xeq h) q
theorem rsw_ok {S : BS} {d : Nat → Nat} {I : jF} {A : Nat → jF} {X : List (Nat × jF)} (h : isB (d, I, A, X) S) (hw : rswf (bRs S)) : ∀ r, r < (bRs S).length → raS S r ≤ rbS S r ∧ rbS S r ≤ 200 := fun r hr => (isB_rok h hw r hr).2.2
theorem dysV_10 {S : BS} (h : dysN S < 99 → dysN S ≤ 10) : (dysV S).toInt ≤ 10 := by
  unfold dysV
  by_cases c : dysN S < 99
  · rw [if_pos c, nI_toInt (by omega)]
    have := h c
    omega
  · rw [if_neg c]; decide
/-- after follow: the plan is there -/
theorem follow_ci {dn : Nat → Nat} {In : jF} {An : Nat → jF} {Xn Xu : List (Nat × jF)} {It ft Ih : jF} {K : Nat → Option BV} {Ip : jF} {Ap A1 : Nat → jF} {T : St3} {v : Int32} {F2 : jF} (hCI : CI dn In An Xn Xu It ft Ih K Ip Ap T) (hw : rswf (bRs T.1)) (e : A1 0 = F2) (hf : fdOut (In 5) Xn (bLs T.1).length (bRs T.1).length (raS T.1) (rbS T.1) (Ap 0) F2 v) (hs : ∀ t : Nat, t < 10 → (t : Int) < v.toInt → A1 1 t = nI (fsN F2 (lft F2 (2 ^ (bLs T.1).length - 1) t))) :
    CI dn In An Xn Xu It ft Ih K (upd (upd Ip 2 v) 3 1) A1 T ∧ planOk T.1 (upd (upd Ip 2 v) 3 1) A1 := by
  obtain ⟨hB, hu, hH, hT, hp2, hp0, hpl⟩ := hCI
  have hk : (bLs T.1).length ≤ 10 := Nat.le_trans hB.1.1.2.1 hB.1.1.2.2
  have hr := rsw_ok hB hw
  have hf2 := isB_fd hB hf
  obtain ⟨e1, e2, e3⟩ := fd_out hk hr hp0 hf2
  have hp : planOk T.1 (upd (upd Ip 2 v) 3 1) A1 := ⟨Ap 0, F2, hp0, hf2, hs⟩
  refine ⟨⟨hB, hu, hH, hT, ?_, by rw [e]; exact e2, Or.inr hp⟩, hp⟩
  show v.toInt ≤ 10
  rw [e1]
  exact dysV_10 (fun q => (e3 q).1)
theorem plan_ans {dn : Nat → Nat} {In : jF} {An : Nat → jF} {Xn Xu : List (Nat × jF)} {It ft Ih : jF} {K : Nat → Option BV} {Ip : jF} {Ap : Nat → jF} {T : St3} (hCI : CI dn In An Xn Xu It ft Ih K Ip Ap T) (hw : rswf (bRs T.1)) (hp : planOk T.1 Ip Ap) : Ip 2 = dysV T.1 ∧ (dysN T.1 < 99 → dysN T.1 ≤ 10 ∧ ∀ t, t < dysN T.1 → Ap 1 t = nI (onN T.1 t)) := by
  have hB := hCI.1
  have hk : (bLs T.1).length ≤ 10 := Nat.le_trans hB.1.1.2.1 hB.1.1.2.2
  exact planned_eq hk (rsw_ok hB hw) hp
def oDays (T : St3) : Int32 × St3 := (dysV T.1, T)
/-- the set of a day, -9 on no day of the plan -/
def onV (S : BS) (x : Int32) : Int32 := if ¬ x < 0 ∧ ¬ dysV S ≤ x then nI (onN S x.toNatClampNeg) else -9
def oDay (T : St3) (x : Int32) : Int32 × St3 := if 0 ≤ x then (onV T.1 x, T) else (-1, T)
theorem soV_on {S : BS} {I : jF} {A : Nat → jF} {x : Int32} (h2 : I 2 = dysV S) (h : dysN S < 99 → dysN S ≤ 10 ∧ ∀ t, t < dysN S → A 1 t = nI (onN S t)) : soV I A x = onV S x := by
  unfold soV onV
  rw [h2]
  by_cases c : ¬ x < 0 ∧ ¬ dysV S ≤ x
  · rw [if_pos c]
    obtain ⟨j, hj, rfl⟩ := nI_of c.1
    by_cases d : dysN S < 99
    · obtain ⟨h10, h3⟩ := h d
      have c2 := c.2
      unfold dysV at c2
      rw [if_pos d, nI_leI (by omega) hj] at c2
      rw [if_pos ⟨c.1, c.2, by show ¬ nI 10 ≤ nI j; rw [nI_leI (by decide) hj]; omega⟩, nI_cl hj, h3 j (by omega)]
    · have c2 := c.2
      unfold dysV at c2
      rw [if_neg d] at c2
      refine absurd ?_ c2
      rw [Int32.le_iff_toInt_le, nI_toInt hj, show (-9 : Int32).toInt = -9 by decide]
      omega
  · rw [if_neg c, if_neg (fun q => c ⟨q.1, q.2.1⟩)]
def dayS (S : BS) (x : Int32) : Nat → Nat → Int32
  | 0, _ => -9
  | fu + 1, t => if dysV S ≤ nI t then -9 else if (onV S (nI t) >>> (x &&& 31)) &&& 1 = 1 then nI t else dayS S x fu (t + 1)
theorem doR_day {S : BS} {I : jF} {A : Nat → jF} {x : Int32} (h2 : I 2 = dysV S) (h : dysN S < 99 → dysN S ≤ 10 ∧ ∀ t, t < dysN S → A 1 t = nI (onN S t)) : ∀ fu t, doR I A x fu t = dayS S x fu t
  | 0, _ => rfl
  | fu + 1, t => by
    have e : doR I A x (fu + 1) t = if I 2 ≤ nI t then -9 else if (soV I A (nI t) >>> (x &&& 31)) &&& 1 = 1 then nI t else doR I A x fu (t + 1) := rfl
    have e2 : dayS S x (fu + 1) t = if dysV S ≤ nI t then -9 else if (onV S (nI t) >>> (x &&& 31)) &&& 1 = 1 then nI t else dayS S x fu (t + 1) := rfl
    rw [e, e2, h2, soV_on h2 h, doR_day h2 h fu (t + 1)]
def oLight (T : St3) (x w : Int32) : Int32 × St3 := if hLX x (bLs T.1).length ∧ ¬ w < 0 ∧ ¬ 12 < w then (if w = 12 then dayS T.1 x 11 0 else propL (lg T.1 x) w (bNeed T.1), T) else (-1, T)
theorem and3a {p q r : Prop} (h : ¬ p) : ¬ (p ∧ q ∧ r) := fun z => h z.1
/-- the fewest days if a light had another lamp -/
def lampS (S : BS) (x y : Int32) : BS := sLs S ((bLs S).set x.toNatClampNeg (putL (lg S x) y))
def oIfLamp (T : St3) (x y : Int32) : Int32 × St3 := if hLX x (bLs T.1).length ∧ okLamp y then (dysV (lampS T.1 x y), T) else (-1, T)
theorem lamp_v {d : Nat → Nat} {I : jF} {A : Nat → jF} {X Y : List (Nat × jF)} {S : BS} {j : Nat} {x y v : Int32} {F F2 : jF} (h : isB (d, I, A, X) S) (hw : rswf (bRs S)) (hj : j < (bLs S).length) (hx : x = nI j) (hY : ∀ i, i < (bLs S).length → jL Y i = if i = j then putL (jL X i) y else jL X i) (hF : F 0 = 0) (hf : fdOut (I 5) Y (bLs S).length (bRs S).length (raS S) (rbS S) F F2 v) : v = dysV (lampS S x y) ∧ F2 0 = 0 := by
  have hk : (bLs S).length ≤ 10 := Nat.le_trans h.1.1.2.1 h.1.1.2.2
  have hcl : x.toNatClampNeg = j := by rw [hx, nI_cl (by omega)]
  have hlg : lg S x = jL X j := lg_isB h hj hx
  have hlen : (bLs (lampS S x y)).length = (bLs S).length := by
    show ((bLs S).set _ _).length = _
    rw [List.length_set]
  have hxe : xeq Y (lsX (bLs (lampS S x y))) (bLs S).length := by
    intro i hi
    have hg : (bLs (lampS S x y))[i]? = some (jL Y i) := by
      show ((bLs S).set x.toNatClampNeg (putL (lg S x) y))[i]? = _
      rw [hcl, hlg, hY i hi]
      by_cases q : i = j
      · rw [if_pos q, q, List.getElem?_set_self hj]
      · rw [if_neg q, List.getElem?_set_ne (Ne.symm q)]
        exact h.2.1 i hi
    exact (lsX_get hg).symm
  rw [show I 5 = bNeed S from h.2.2.2.1] at hf
  have h2 := fdOut_congr hxe hf
  have hr := rsw_ok h hw
  have h3 := fd_out (S := lampS S x y) (by rw [hlen]; exact hk) hr hF (by rw [hlen]; exact h2)
  exact ⟨h3.1, h3.2.1⟩
theorem planOk_1 {S : BS} {Ip : jF} {A B : Nat → jF} (e : B 1 = A 1) (h : planOk S Ip A) : planOk S Ip B := by
  unfold planOk at h ⊢
  rw [e]; exact h
def bsW (S : BS) (y : Int32) (i : Nat) : Int32 := if dysV (lampS S (nI i) y) = -9 then 11 else dysV (lampS S (nI i) y)
def bsStep (S : BS) (y : Int32) (i : Nat) (s : Int32 × Int32) : Int32 × Int32 := if s.1 = -9 ∨ bsW S y i < s.2 then (nI i, bsW S y i) else s
def bsR (S : BS) (y : Int32) (i : Nat) : Int32 × Int32 := jiter (bsStep S y) (-9, 0) i
def oBestSwap (T : St3) (y : Int32) : Int32 × St3 := if okLamp y then ((bsR T.1 y (bLs T.1).length).1, T) else (-1, T)
theorem bs_skip {S : BS} {y x2 x3 w : Int32} {i : Nat} (h : (x2, x3) = bsR S y i) (c1 : ¬ x2 = -9) (c2 : x3 ≤ w) (hw : w = bsW S y i) : (x2, x3) = bsR S y (i + 1) := by
  have e : bsR S y (i + 1) = bsStep S y i (bsR S y i) := rfl
  rw [e, ← h]
  unfold bsStep
  rw [if_neg (fun q => q.elim c1 (fun z => by rw [← hw] at z; exact Int32.not_lt.mpr c2 z))]
theorem bs_take1 {S : BS} {y x2 x3 w v2 v3 : Int32} {i : Nat} (h : (x2, x3) = bsR S y i) (c : x2 = -9) (hw : w = bsW S y i) (e2 : v2 = nI i) (e3 : v3 = w) : (v2, v3) = bsR S y (i + 1) := by
  have e : bsR S y (i + 1) = bsStep S y i (bsR S y i) := rfl
  rw [e, ← h]
  unfold bsStep
  rw [if_pos (Or.inl c), e2, e3, hw]
theorem bs_take2 {S : BS} {y x2 x3 w v2 v3 : Int32} {i : Nat} (h : (x2, x3) = bsR S y i) (c : ¬ x3 ≤ w) (hw : w = bsW S y i) (e2 : v2 = nI i) (e3 : v3 = w) : (v2, v3) = bsR S y (i + 1) := by
  have e : bsR S y (i + 1) = bsStep S y i (bsR S y i) := rfl
  rw [e, ← h]
  unfold bsStep
  rw [if_pos (Or.inr (by rw [← hw]; exact Int32.not_le.mp c)), e2, e3, hw]
set_option maxHeartbeats 1000000 in
set_option maxRecDepth 100000 in
theorem c_X6_days (g : jG) (a : Nat) (T : St3) (b : List va_W) (h : CW g a T b) (hw : rswf (bRs T.1)) : Con g yX6_days cX6_days 1 (some .int) 5 121 0 0 [.ref a] b (fun rr bb => rr = some (.int (oDays T).1) ∧ CW g a (oDays T).2 bb) := by
  obtain ⟨dt, dn, du, dh, dr, dp, It, ft, In, An, Xn, Iu, Au, Xu, Ih, K, Ar, Ip, Ap, rfl, hCI⟩ := h
  obtain ⟨hB, hu, hH, hT, hp2, hp0, hpl⟩ := id hCI
  obtain ⟨⟨hg1, hg2, hg3, hg4⟩, hb2, hb3, hb5, hb6, hb7, hb8, hb9⟩ := id hB
  have hg1 : bok In Xn (bLs T.1).length := hg1
  have hg2 : In 4 = nI (bRs T.1).length := hg2
  have hb5 : In 5 = bNeed T.1 := hb5
  have hk10 : (bLs T.1).length ≤ 10 := Nat.le_trans hg1.2.1 hg1.2.2
  refine Con.of (own := RX6) (lv := [(0, .ref a)]) (by decide) rfl (Nat.le_of_ble_eq_true rfl) rfl ?_
  intro E hC hQ hN
  refine j_aload_n hC dX6_days_0 rfl rfl ?_
  refine j_get hC uX6 0 0 5 rfl rfl k147 rfl dX6_days_1 ?_
  refine j_aload_n hC dX6_days_4 rfl rfl ?_
  refine j_get hC uX6 0 0 1 rfl rfl k143 rfl dX6_days_5 ?_
  refine j_aload_n hC dX6_days_8 rfl rfl ?_
  refine j_get hC uX6 0 0 4 rfl rfl k146 rfl dX6_days_9 ?_
  refine j_callV hC [9, 2, 3, 8] (c_X3_follow g _ _ _ _ _ _ _ _ _ _ (bRs T.1).length (raS T.1) (rbS T.1) hg1 hg2 hg3 (isB_rok hB hw)) mX3_follow k430 rfl rfl rfl rfl rfl ⟨(Nat.le_of_ble_eq_true rfl), (Nat.le_of_ble_eq_true rfl)⟩ (Nat.le_of_ble_eq_true rfl) ⟨(Nat.le_of_ble_eq_true rfl), (Nat.le_of_ble_eq_true rfl)⟩ dX6_days_12 (fun r_12 b_12 hp_12 _ => ?_)
  obtain ⟨rfl, hp_12⟩ := hp_12
  have hfin : ∃ (Ip1 : jF) (Ap1 Ar1 : Nat → jF), b_12 = [pcc g dp Ip1 Ap1, bc g dn In An (lrf Xn), lts Xn, rc g dr Ar1] ∧ CI dn In An Xn Xu It ft Ih K Ip1 Ap1 T ∧ planOk T.1 Ip1 Ap1 := by
    rcases hp_12 with ⟨w1, w2⟩ | ⟨w1, v, F2, A1, A4, w2, w3, w4, w5⟩
    · exact ⟨Ip, Ap, Ar, w2, hCI, hpl.elim (fun z => absurd z w1) id⟩
    · exact ⟨_, A1, A4, w2, follow_ci hCI hw w3 w4 w5⟩
  clear hp_12
  obtain ⟨Ip1, Ap1, Ar1, rfl, hCI1, hpk⟩ := hfin
  obtain ⟨hd2, hdn⟩ := plan_ans hCI1 hw hpk
  dsimp only [jrepl, List.set, jstk]
  refine j_aload_n hC dX6_days_15 rfl rfl ?_
  refine j_get hC uX6 0 0 5 rfl rfl k147 rfl dX6_days_16 ?_
  refine j_get hC uX3 9 0 2 rfl rfl k131 rfl dX6_days_19 ?_
  refine j_iret hC hQ rfl rfl (Nat.le_of_ble_eq_true rfl) (Nat.le_of_ble_eq_true rfl) dX6_days_22 rfl ?_
  exact cw_o (T := T) (by unfold oDays; rw [hd2]) (CW.mk hCI1)
set_option maxHeartbeats 1000000 in
set_option maxRecDepth 100000 in
theorem c_X6_day (g : jG) (a : Nat) (T : St3) (b : List va_W) (x : Int32) (h : CW g a T b) (hw : rswf (bRs T.1)) : Con g yX6_day cX6_day 2 (some .int) 5 121 0 0 [.ref a, .int x] b (fun rr bb => rr = some (.int (oDay T x).1) ∧ CW g a (oDay T x).2 bb) := by
  obtain ⟨dt, dn, du, dh, dr, dp, It, ft, In, An, Xn, Iu, Au, Xu, Ih, K, Ar, Ip, Ap, rfl, hCI⟩ := h
  obtain ⟨hB, hu, hH, hT, hp2, hp0, hpl⟩ := id hCI
  obtain ⟨⟨hg1, hg2, hg3, hg4⟩, hb2, hb3, hb5, hb6, hb7, hb8, hb9⟩ := id hB
  have hg1 : bok In Xn (bLs T.1).length := hg1
  have hg2 : In 4 = nI (bRs T.1).length := hg2
  have hb5 : In 5 = bNeed T.1 := hb5
  have hk10 : (bLs T.1).length ≤ 10 := Nat.le_trans hg1.2.1 hg1.2.2
  refine Con.of (own := RX6) (lv := [(0, .ref a), (1, .int x)]) (by decide) rfl (Nat.le_of_ble_eq_true rfl) rfl ?_
  intro E hC hQ hN
  refine j_iload_n hC dX6_day_0 rfl rfl ?_
  refine j_if_ge hC dX6_day_1 (tgt := 6) (by decide) (fun c_1 => ?_) (fun c_1 => ?_)
  · skip
    refine j_aload_n hC dX6_day_6 rfl rfl ?_
    refine j_get hC uX6 0 0 5 rfl rfl k147 rfl dX6_day_7 ?_
    refine j_aload_n hC dX6_day_10 rfl rfl ?_
    refine j_get hC uX6 0 0 1 rfl rfl k143 rfl dX6_day_11 ?_
    refine j_aload_n hC dX6_day_14 rfl rfl ?_
    refine j_get hC uX6 0 0 4 rfl rfl k146 rfl dX6_day_15 ?_
    refine j_callV hC [9, 2, 3, 8] (c_X3_follow g _ _ _ _ _ _ _ _ _ _ (bRs T.1).length (raS T.1) (rbS T.1) hg1 hg2 hg3 (isB_rok hB hw)) mX3_follow k430 rfl rfl rfl rfl rfl ⟨(Nat.le_of_ble_eq_true rfl), (Nat.le_of_ble_eq_true rfl)⟩ (Nat.le_of_ble_eq_true rfl) ⟨(Nat.le_of_ble_eq_true rfl), (Nat.le_of_ble_eq_true rfl)⟩ dX6_day_18 (fun r_18 b_18 hp_18 _ => ?_)
    obtain ⟨rfl, hp_18⟩ := hp_18
    have hfin : ∃ (Ip1 : jF) (Ap1 Ar1 : Nat → jF), b_18 = [pcc g dp Ip1 Ap1, bc g dn In An (lrf Xn), lts Xn, rc g dr Ar1] ∧ CI dn In An Xn Xu It ft Ih K Ip1 Ap1 T ∧ planOk T.1 Ip1 Ap1 := by
      rcases hp_18 with ⟨w1, w2⟩ | ⟨w1, v, F2, A1, A4, w2, w3, w4, w5⟩
      · exact ⟨Ip, Ap, Ar, w2, hCI, hpl.elim (fun z => absurd z w1) id⟩
      · exact ⟨_, A1, A4, w2, follow_ci hCI hw w3 w4 w5⟩
    clear hp_18
    obtain ⟨Ip1, Ap1, Ar1, rfl, hCI1, hpk⟩ := hfin
    obtain ⟨hd2, hdn⟩ := plan_ans hCI1 hw hpk
    dsimp only [jrepl, List.set, jstk]
    refine j_aload_n hC dX6_day_21 rfl rfl ?_
    refine j_get hC uX6 0 0 5 rfl rfl k147 rfl dX6_day_22 ?_
    refine j_iload_n hC dX6_day_25 rfl rfl ?_
    refine j_callVR hC [9] (c_X3_setOn g _ _ _ _) mX3_setOn k551 rfl rfl rfl rfl rfl ⟨(Nat.le_of_ble_eq_true rfl), (Nat.le_of_ble_eq_true rfl)⟩ (Nat.le_of_ble_eq_true rfl) ⟨(Nat.le_of_ble_eq_true rfl), (Nat.le_of_ble_eq_true rfl)⟩ dX6_day_26 ?_
    dsimp only [jrepl, List.set, jstk]
    refine j_iret hC hQ rfl rfl (Nat.le_of_ble_eq_true rfl) (Nat.le_of_ble_eq_true rfl) dX6_day_29 rfl ?_
    first | exact cw_o (T := T) (by unfold oDay; rw [if_neg c_1]) (CW.mk hCI) | exact cw_o (T := T) (by unfold oDay; rw [if_pos c_1, soV_on hd2 hdn]) (CW.mk hCI1)
  · skip
    refine j_iconst hC (-1) dX6_day_4 (by decide) ?_
    refine j_iret hC hQ rfl rfl (Nat.le_of_ble_eq_true rfl) (Nat.le_of_ble_eq_true rfl) dX6_day_5 rfl ?_
    first | exact cw_o (T := T) (by unfold oDay; rw [if_neg c_1]) (CW.mk hCI) | exact cw_o (T := T) (by unfold oDay; rw [if_pos c_1, soV_on hd2 hdn]) (CW.mk hCI1)
set_option maxHeartbeats 1000000 in
set_option maxRecDepth 100000 in
theorem c_X6_light (g : jG) (a : Nat) (T : St3) (b : List va_W) (x w : Int32) (h : CW g a T b) (hw : rswf (bRs T.1)) : Con g yX6_light cX6_light 4 (some .int) 5 121 0 0 [.ref a, .int x, .int w] b (fun rr bb => rr = some (.int (oLight T x w).1) ∧ CW g a (oLight T x w).2 bb) := by
  obtain ⟨dt, dn, du, dh, dr, dp, It, ft, In, An, Xn, Iu, Au, Xu, Ih, K, Ar, Ip, Ap, rfl, hCI⟩ := h
  obtain ⟨hB, hu, hH, hT, hp2, hp0, hpl⟩ := id hCI
  obtain ⟨⟨hg1, hg2, hg3, hg4⟩, hb2, hb3, hb5, hb6, hb7, hb8, hb9⟩ := id hB
  have hg1 : bok In Xn (bLs T.1).length := hg1
  have hg2 : In 4 = nI (bRs T.1).length := hg2
  have hb5 : In 5 = bNeed T.1 := hb5
  have hk10 : (bLs T.1).length ≤ 10 := Nat.le_trans hg1.2.1 hg1.2.2
  refine Con.of (own := RX6) (lv := [(0, .ref a), (1, .int x), (2, .int w)]) (by decide) rfl (Nat.le_of_ble_eq_true rfl) rfl ?_
  intro E hC hQ hN
  refine j_aload_n hC dX6_light_0 rfl rfl ?_
  refine j_get hC uX6 0 0 1 rfl rfl k143 rfl dX6_light_1 ?_
  refine j_iload_n hC dX6_light_4 rfl rfl ?_
  refine j_callVR hC [2] (c_X0_find g _ _ _ _ _) mX0_find k365 rfl rfl rfl rfl rfl ⟨(Nat.le_of_ble_eq_true rfl), (Nat.le_of_ble_eq_true rfl)⟩ (Nat.le_of_ble_eq_true rfl) ⟨(Nat.le_of_ble_eq_true rfl), (Nat.le_of_ble_eq_true rfl)⟩ dX6_light_5 ?_
  dsimp only [jrepl, List.set, jstk]
  by_cases hin : hasL In x
  · skip
    obtain ⟨j, hj, hx⟩ := hasL_nat hg1 hin
    have hjX : j < Xn.length := by have := hg1.2; omega
    have hlx : hLX x (bLs T.1).length := hLX_of (by omega) hj hx
    have hcl : x.toNatClampNeg = j := by rw [hx, nI_cl (by omega)]
    have hlg : lg T.1 x = jL Xn j := lg_isB hB hj hx
    rw [if_pos hin, show va_rf (lrf Xn x.toNatClampNeg) = .ref (jAd Xn j) by rw [hcl, lrf_get hjX]; rfl]
    refine j_astore_n hC dX6_light_8 rfl rfl rfl rfl ?_
    refine j_aload_n hC dX6_light_9 rfl rfl ?_
    refine j_ifnull hC dX6_light_10 ?_
    refine j_iload_n hC dX6_light_13 rfl rfl ?_
    refine j_if_lt hC dX6_light_14 (tgt := 23) (by decide) (fun c_14 => ?_) (fun c_14 => ?_)
    · skip
      refine j_iconst hC (-1) dX6_light_23 (by decide) ?_
      refine j_iret hC hQ rfl rfl (Nat.le_of_ble_eq_true rfl) (Nat.le_of_ble_eq_true rfl) dX6_light_24 rfl ?_
      first | exact cw_o (T := T) (by unfold oLight; rw [if_neg (and3a (fun q => hin (hLX_hasL hg1 q)))]) (CW.mk hCI) | exact cw_o (T := T) (by unfold oLight; rw [if_neg (and3b c_14)]) (CW.mk hCI) | exact cw_o (T := T) (by unfold oLight; rw [if_neg (and3c (Int32.not_le.mp c_20))]) (CW.mk hCI)
    · skip
      refine j_iload_n hC dX6_light_17 rfl rfl ?_
      refine j_bipush hC (12) dX6_light_18 (by decide) ?_
      refine j_icmp_le hC dX6_light_20 (tgt := 25) (by decide) (fun c_20 => ?_) (fun c_20 => ?_)
      · skip
        refine j_iload_n hC dX6_light_25 rfl rfl ?_
        refine j_bipush hC (12) dX6_light_26 (by decide) ?_
        refine j_icmp_ne hC dX6_light_28 (tgt := 55) (by decide) (fun c_28 => ?_) (fun c_28 => ?_)
        · skip
          refine j_aload_n hC dX6_light_55 rfl rfl ?_
          refine j_iload_n hC dX6_light_56 rfl rfl ?_
          refine j_aload_n hC dX6_light_57 rfl rfl ?_
          refine j_get hC uX6 0 0 1 rfl rfl k143 rfl dX6_light_58 ?_
          refine j_get hC uX0 2 0 5 rfl rfl k60 rfl dX6_light_61 ?_
          refine j_focus j 3 (jX_get (X := Xn) hjX) rfl ?_
          dsimp only [List.set, List.cons_append, List.nil_append]
          refine j_callVR hC [10] (c_X2_property g _ (jL Xn j) w (In 5)) mX2_property k480 rfl rfl rfl rfl rfl ⟨(Nat.le_of_ble_eq_true rfl), (Nat.le_of_ble_eq_true rfl)⟩ (Nat.le_of_ble_eq_true rfl) ⟨(Nat.le_of_ble_eq_true rfl), (Nat.le_of_ble_eq_true rfl)⟩ dX6_light_64 ?_
          dsimp only [jrepl, List.set, jstk]
          refine j_unfocus j 3 (jX_get (X := Xn) hjX) rfl rfl rfl ?_
          dsimp only [List.set, List.dropLast]
          rw [lts_same (jX_get hjX)]
          refine j_iret hC hQ rfl rfl (Nat.le_of_ble_eq_true rfl) (Nat.le_of_ble_eq_true rfl) dX6_light_67 rfl ?_
          exact cw_o (T := T) (by unfold oLight; rw [if_pos ⟨hlx, c_14, Int32.not_lt.mpr c_20⟩, if_neg c_28, hlg, hb5]) (CW.mk hCI)
        · skip
          refine j_aload_n hC dX6_light_31 rfl rfl ?_
          refine j_get hC uX6 0 0 5 rfl rfl k147 rfl dX6_light_32 ?_
          refine j_aload_n hC dX6_light_35 rfl rfl ?_
          refine j_get hC uX6 0 0 1 rfl rfl k143 rfl dX6_light_36 ?_
          refine j_aload_n hC dX6_light_39 rfl rfl ?_
          refine j_get hC uX6 0 0 4 rfl rfl k146 rfl dX6_light_40 ?_
          refine j_callV hC [9, 2, 3, 8] (c_X3_follow g _ _ _ _ _ _ _ _ _ _ (bRs T.1).length (raS T.1) (rbS T.1) hg1 hg2 hg3 (isB_rok hB hw)) mX3_follow k430 rfl rfl rfl rfl rfl ⟨(Nat.le_of_ble_eq_true rfl), (Nat.le_of_ble_eq_true rfl)⟩ (Nat.le_of_ble_eq_true rfl) ⟨(Nat.le_of_ble_eq_true rfl), (Nat.le_of_ble_eq_true rfl)⟩ dX6_light_43 (fun r_43 b_43 hp_43 _ => ?_)
          obtain ⟨rfl, hp_43⟩ := hp_43
          have hfin : ∃ (Ip1 : jF) (Ap1 Ar1 : Nat → jF), b_43 = [pcc g dp Ip1 Ap1, bc g dn In An (lrf Xn), lts Xn, rc g dr Ar1] ∧ CI dn In An Xn Xu It ft Ih K Ip1 Ap1 T ∧ planOk T.1 Ip1 Ap1 := by
            rcases hp_43 with ⟨w1, w2⟩ | ⟨w1, v, F2, A1, A4, w2, w3, w4, w5⟩
            · exact ⟨Ip, Ap, Ar, w2, hCI, hpl.elim (fun z => absurd z w1) id⟩
            · exact ⟨_, A1, A4, w2, follow_ci hCI hw w3 w4 w5⟩
          clear hp_43
          obtain ⟨Ip1, Ap1, Ar1, rfl, hCI1, hpk⟩ := hfin
          obtain ⟨hd2, hdn⟩ := plan_ans hCI1 hw hpk
          dsimp only [jrepl, List.set, jstk]
          refine j_aload_n hC dX6_light_46 rfl rfl ?_
          refine j_get hC uX6 0 0 5 rfl rfl k147 rfl dX6_light_47 ?_
          refine j_iload_n hC dX6_light_50 rfl rfl ?_
          refine j_callVR hC [9] (c_X3_dayOf g _ Ip1 Ap1 x hCI1.2.2.2.2.1) mX3_dayOf k472 rfl rfl rfl rfl rfl ⟨(Nat.le_of_ble_eq_true rfl), (Nat.le_of_ble_eq_true rfl)⟩ (Nat.le_of_ble_eq_true rfl) ⟨(Nat.le_of_ble_eq_true rfl), (Nat.le_of_ble_eq_true rfl)⟩ dX6_light_51 ?_
          dsimp only [jrepl, List.set, jstk]
          refine j_iret hC hQ rfl rfl (Nat.le_of_ble_eq_true rfl) (Nat.le_of_ble_eq_true rfl) dX6_light_54 rfl ?_
          exact cw_o (T := T) (by unfold oLight; rw [if_pos ⟨hlx, c_14, Int32.not_lt.mpr c_20⟩, if_pos c_28, doR_day hd2 hdn]) (CW.mk hCI1)
      · skip
        refine j_iconst hC (-1) dX6_light_23 (by decide) ?_
        refine j_iret hC hQ rfl rfl (Nat.le_of_ble_eq_true rfl) (Nat.le_of_ble_eq_true rfl) dX6_light_24 rfl ?_
        first | exact cw_o (T := T) (by unfold oLight; rw [if_neg (and3a (fun q => hin (hLX_hasL hg1 q)))]) (CW.mk hCI) | exact cw_o (T := T) (by unfold oLight; rw [if_neg (and3b c_14)]) (CW.mk hCI) | exact cw_o (T := T) (by unfold oLight; rw [if_neg (and3c (Int32.not_le.mp c_20))]) (CW.mk hCI)
  · skip
    rw [if_neg hin]
    refine j_astore_nN hC dX6_light_8 rfl rfl rfl rfl ?_
    refine j_aload_nN hC dX6_light_9 rfl rfl ?_
    refine j_ifnullN hC dX6_light_10 (tgt := 23) (by decide) ?_
    refine j_iconst hC (-1) dX6_light_23 (by decide) ?_
    refine j_iret hC hQ rfl rfl (Nat.le_of_ble_eq_true rfl) (Nat.le_of_ble_eq_true rfl) dX6_light_24 rfl ?_
    first | exact cw_o (T := T) (by unfold oLight; rw [if_neg (and3a (fun q => hin (hLX_hasL hg1 q)))]) (CW.mk hCI) | exact cw_o (T := T) (by unfold oLight; rw [if_neg (and3b c_14)]) (CW.mk hCI) | exact cw_o (T := T) (by unfold oLight; rw [if_neg (and3c (Int32.not_le.mp c_20))]) (CW.mk hCI)
set_option maxHeartbeats 1000000 in
set_option maxRecDepth 100000 in
theorem c_X6_ifLamp (g : jG) (a : Nat) (T : St3) (b : List va_W) (x y : Int32) (h : CW g a T b) (hw : rswf (bRs T.1)) : Con g yX6_ifLamp cX6_ifLamp 3 (some .int) 6 126 10 90 [.ref a, .int x, .int y] b (fun rr bb => rr = some (.int (oIfLamp T x y).1) ∧ CW g a (oIfLamp T x y).2 bb) := by
  obtain ⟨dt, dn, du, dh, dr, dp, It, ft, In, An, Xn, Iu, Au, Xu, Ih, K, Ar, Ip, Ap, rfl, hCI⟩ := h
  obtain ⟨hB, hu, hH, hT, hp2, hp0, hpl⟩ := id hCI
  obtain ⟨⟨hg1, hg2, hg3, hg4⟩, hb2, hb3, hb5, hb6, hb7, hb8, hb9⟩ := id hB
  have hg1 : bok In Xn (bLs T.1).length := hg1
  have hg2 : In 4 = nI (bRs T.1).length := hg2
  have hb5 : In 5 = bNeed T.1 := hb5
  have hk10 : (bLs T.1).length ≤ 10 := Nat.le_trans hg1.2.1 hg1.2.2
  refine Con.of (own := RX6) (lv := [(0, .ref a), (1, .int x), (2, .int y)]) (by decide) rfl (Nat.le_of_ble_eq_true rfl) rfl ?_
  intro E hC hQ hN
  refine j_aload_n hC dX6_ifLamp_0 rfl rfl ?_
  refine j_get hC uX6 0 0 1 rfl rfl k143 rfl dX6_ifLamp_1 ?_
  refine j_iload_n hC dX6_ifLamp_4 rfl rfl ?_
  refine j_callVR hC [2] (c_X0_find g _ _ _ _ _) mX0_find k365 rfl rfl rfl rfl rfl ⟨(Nat.le_of_ble_eq_true rfl), (Nat.le_of_ble_eq_true rfl)⟩ (Nat.le_of_ble_eq_true rfl) ⟨(Nat.le_of_ble_eq_true rfl), (Nat.le_of_ble_eq_true rfl)⟩ dX6_ifLamp_5 ?_
  dsimp only [jrepl, List.set, jstk]
  by_cases hin : hasL In x
  · skip
    obtain ⟨j, hj, hx⟩ := hasL_nat hg1 hin
    have hjX : j < Xn.length := by have := hg1.2; omega
    have hlx : hLX x (bLs T.1).length := hLX_of (by omega) hj hx
    have hcl : x.toNatClampNeg = j := by rw [hx, nI_cl (by omega)]
    have hlg : lg T.1 x = jL Xn j := lg_isB hB hj hx
    rw [if_pos hin, show va_rf (lrf Xn x.toNatClampNeg) = .ref (jAd Xn j) by rw [hcl, lrf_get hjX]; rfl]
    refine j_ifnull hC dX6_ifLamp_8 ?_
    refine j_iload_n hC dX6_ifLamp_11 rfl rfl ?_
    refine j_callSR hC [] (c_X6_isLamp g _) mX6_isLamp k345 rfl rfl rfl ⟨(Nat.le_of_ble_eq_true rfl), (Nat.le_of_ble_eq_true rfl)⟩ (Nat.le_of_ble_eq_true rfl) ⟨(Nat.le_of_ble_eq_true rfl), (Nat.le_of_ble_eq_true rfl)⟩ dX6_ifLamp_12 ?_
    dsimp only [jrepl, List.set, jstk]
    refine j_if_ne hC dX6_ifLamp_15 (tgt := 20) (by decide) (fun c_15 => ?_) (fun c_15 => ?_)
    · skip
      refine j_aload_n hC dX6_ifLamp_20 rfl rfl ?_
      refine j_iload_n hC dX6_ifLamp_21 rfl rfl ?_
      refine j_iload_n hC dX6_ifLamp_22 rfl rfl ?_
      refine j_callV hC [0, 1, 2, 3, 4, 5, 6, 7, 8, 9] (c_X6_daysWithLamp g _ _ _ _ _ _ _ _ _ _ _ _ _ _ _ _ _ _ _ _ T.1 j x y hB hw hu hj hx) mX6_daysWithLamp k574 rfl rfl rfl rfl rfl ⟨(Nat.le_of_ble_eq_true rfl), (Nat.le_of_ble_eq_true rfl)⟩ (Nat.le_of_ble_eq_true rfl) ⟨(Nat.le_of_ble_eq_true rfl), (Nat.le_of_ble_eq_true rfl)⟩ dX6_ifLamp_23 (fun r_23 b_23 hp_23 _ => ?_)
      obtain ⟨v, Iu1, Au1, Y, A1, F2, rfl, rfl, hY1, hY2, hf⟩ := hp_23
      obtain ⟨hv, hF2⟩ := lamp_v hB hw hj hx hY2 hp0 hf
      dsimp only [jrepl, List.set, jstk]
      refine j_iret hC hQ rfl rfl (Nat.le_of_ble_eq_true rfl) (Nat.le_of_ble_eq_true rfl) dX6_ifLamp_26 rfl ?_
      exact cw_o (T := T) (by unfold oIfLamp; rw [if_pos ⟨hlx, jb1 c_15⟩, hv]) (CW.mk ⟨hB, hY1, hH, hT, hp2, hF2, hpl⟩)
    · skip
      refine j_iconst hC (-1) dX6_ifLamp_18 (by decide) ?_
      refine j_iret hC hQ rfl rfl (Nat.le_of_ble_eq_true rfl) (Nat.le_of_ble_eq_true rfl) dX6_ifLamp_19 rfl ?_
      first | exact cw_o (T := T) (by unfold oIfLamp; rw [if_neg (fun q => hin (hLX_hasL hg1 q.1))]) (CW.mk hCI) | exact cw_o (T := T) (by unfold oIfLamp; rw [if_neg (fun q => jb0 c_15 q.2)]) (CW.mk hCI)
  · skip
    rw [if_neg hin]
    refine j_ifnullN hC dX6_ifLamp_8 (tgt := 18) (by decide) ?_
    refine j_iconst hC (-1) dX6_ifLamp_18 (by decide) ?_
    refine j_iret hC hQ rfl rfl (Nat.le_of_ble_eq_true rfl) (Nat.le_of_ble_eq_true rfl) dX6_ifLamp_19 rfl ?_
    first | exact cw_o (T := T) (by unfold oIfLamp; rw [if_neg (fun q => hin (hLX_hasL hg1 q.1))]) (CW.mk hCI) | exact cw_o (T := T) (by unfold oIfLamp; rw [if_neg (fun q => jb0 c_15 q.2)]) (CW.mk hCI)
set_option maxHeartbeats 1000000 in
set_option maxRecDepth 100000 in
theorem c_X6_bestSwap (g : jG) (a : Nat) (T : St3) (b : List va_W) (y : Int32) (h : CW g a T b) (hw : rswf (bRs T.1)) : Con g yX6_bestSwap cX6_bestSwap 7 (some .int) 6 126 100 900 [.ref a, .int y] b (fun rr bb => rr = some (.int (oBestSwap T y).1) ∧ CW g a (oBestSwap T y).2 bb) := by
  obtain ⟨dt, dn, du, dh, dr, dp, It, ft, In, An, Xn, Iu, Au, Xu, Ih, K, Ar, Ip, Ap, rfl, hCI⟩ := h
  obtain ⟨hB, hu, hH, hT, hp2, hp0, hpl⟩ := id hCI
  obtain ⟨⟨hg1, hg2, hg3, hg4⟩, hb2, hb3, hb5, hb6, hb7, hb8, hb9⟩ := id hB
  have hg1 : bok In Xn (bLs T.1).length := hg1
  have hg2 : In 4 = nI (bRs T.1).length := hg2
  have hb5 : In 5 = bNeed T.1 := hb5
  have hk10 : (bLs T.1).length ≤ 10 := Nat.le_trans hg1.2.1 hg1.2.2
  refine Con.of (own := RX6) (lv := [(0, .ref a), (1, .int y)]) (by decide) rfl (Nat.le_of_ble_eq_true rfl) rfl ?_
  intro E hC hQ hN
  refine j_iload_n hC dX6_bestSwap_0 rfl rfl ?_
  refine j_callSR hC [] (c_X6_isLamp g _) mX6_isLamp k345 rfl rfl rfl ⟨(Nat.le_of_ble_eq_true rfl), (Nat.le_of_ble_eq_true rfl)⟩ (Nat.le_of_ble_eq_true rfl) ⟨(Nat.le_of_ble_eq_true rfl), (Nat.le_of_ble_eq_true rfl)⟩ dX6_bestSwap_1 ?_
  dsimp only [jrepl, List.set, jstk]
  refine j_if_ne hC dX6_bestSwap_4 (tgt := 9) (by decide) (fun c_4 => ?_) (fun c_4 => ?_)
  · skip
    refine j_bipush hC (-9) dX6_bestSwap_9 (by decide) ?_
    refine j_istore_n hC dX6_bestSwap_11 rfl rfl rfl rfl (fun v_11 e_11 => ?_)
    refine j_iconst hC (0) dX6_bestSwap_12 (by decide) ?_
    refine j_istore_n hC dX6_bestSwap_13 rfl rfl rfl rfl (fun v_13 e_13 => ?_)
    refine j_iconst hC (0) dX6_bestSwap_14 (by decide) ?_
    refine j_istore hC dX6_bestSwap_15 rfl rfl rfl (fun v_15 e_15 => ?_)
    have L_17 : ∀ (fu : Nat) (i : Nat) (x2 x3 x4 : Int32) (Iu1 : jF) (Au1 : Nat → jF) (Y : List (Nat × jF)) (A1 Ap1 : Nat → jF) (hfu : (bLs T.1).length + 1 ≤ i + fu) (hi : i ≤ (bLs T.1).length) (h23 : (x2, x3) = bsR T.1 y i) (h4 : x4 = nI i) (hYl : Y.length ≤ 10) (hA0 : Ap1 0 0 = 0) (hA1 : Ap1 1 = Ap 1), J g (jRm 6 126 100 900) E 7 17 [(0, .ref a), (1, .int y), (2, .int x2), (3, .int x3), (4, .int x4)] [] [xo a dt dn du dh dr dp, tc g dt It ft, bc g dn In An (lrf Xn), lts Xn, bc g du Iu1 Au1 (lrf Y), lts Y, hc g dh Ih (kr K), kb g K, rc g dr A1, pcc g dp Ip Ap1] (10 * i) (90 * i) := by
      intro fu
      induction fu with
      | zero => intro i x2 x3 x4 Iu1 Au1 Y A1 Ap1 hfu hi h23 h4 hYl hA0 hA1; exact absurd hfu (by omega)
      | succ fu ih_17 =>
        intro i x2 x3 x4 Iu1 Au1 Y A1 Ap1 hfu hi h23 h4 hYl hA0 hA1
        refine j_iload hC dX6_bestSwap_17 rfl ?_
        refine j_aload_n hC dX6_bestSwap_19 rfl rfl ?_
        refine j_get hC uX6 0 0 1 rfl rfl k143 rfl dX6_bestSwap_20 ?_
        refine j_get hC uX0 2 0 1 rfl rfl k52 rfl dX6_bestSwap_23 ?_
        refine j_icmp_ge hC dX6_bestSwap_26 (tgt := 78) (by decide) (fun c_26 => ?_) (fun c_26 => ?_)
        · skip
          have hik : i = (bLs T.1).length := Nat.le_antisymm hi (jge hg1.1 h4 (by omega) (by omega) c_26)
          refine j_iload_n hC dX6_bestSwap_78 rfl rfl ?_
          refine j_iret hC hQ rfl rfl (by omega) (by omega) dX6_bestSwap_79 rfl ?_
          exact cw_o (T := T) (by unfold oBestSwap; rw [if_pos (jb1 c_4), ← hik, ← h23]) (CW.mk ⟨hB, hYl, hH, hT, hp2, hA0, hpl.imp id (planOk_1 hA1)⟩)
        · skip
          have hik : i < (bLs T.1).length := jlt hg1.1 h4 (by omega) (by omega) c_26
          refine j_aload_n hC dX6_bestSwap_29 rfl rfl ?_
          refine j_iload hC dX6_bestSwap_30 rfl ?_
          refine j_iload_n hC dX6_bestSwap_32 rfl rfl ?_
          refine j_callV hC [0, 1, 2, 3, 4, 5, 6, 7, 8, 9] (c_X6_daysWithLamp g _ _ _ _ _ _ _ _ _ _ _ _ _ _ _ _ _ _ _ _ T.1 i x4 y hB hw hYl hik h4) mX6_daysWithLamp k574 rfl rfl rfl rfl rfl ⟨(Nat.le_of_ble_eq_true rfl), (Nat.le_of_ble_eq_true rfl)⟩ (Nat.le_of_ble_eq_true rfl) ⟨by show 10 * i + 10 ≤ 100; omega, by show 90 * i + 90 ≤ 900; omega⟩ dX6_bestSwap_33 (fun r_33 b_33 hp_33 _ => ?_)
          obtain ⟨v, Iu2, Au2, Y2, A2, F2, rfl, rfl, hY1, hY2, hf⟩ := hp_33
          obtain ⟨hv, hF2⟩ := lamp_v hB hw hik h4 hY2 hA0 hf
          dsimp only [jrepl, List.set, jstk]
          refine j_istore hC dX6_bestSwap_36 rfl rfl rfl (fun v_36 e_36 => ?_)
          refine j_iload hC dX6_bestSwap_38 rfl ?_
          refine j_bipush hC (-9) dX6_bestSwap_40 (by decide) ?_
          refine j_icmp_ne hC dX6_bestSwap_42 (tgt := 50) (by decide) (fun c_42 => ?_) (fun c_42 => ?_)
          · skip
            refine j_iload hC dX6_bestSwap_50 rfl ?_
            refine j_istore hC dX6_bestSwap_52 rfl rfl rfl (fun v_52 e_52 => ?_)
            have hwv : v_52 = bsW T.1 y i := by unfold bsW; rw [← h4, ← hv, ← e_36]; first | exact e_52.trans (if_pos c_42).symm | exact e_52.trans (if_neg c_42).symm
            refine j_iload_n hC dX6_bestSwap_54 rfl rfl ?_
            refine j_bipush hC (-9) dX6_bestSwap_55 (by decide) ?_
            refine j_icmp_eq hC dX6_bestSwap_57 (tgt := 66) (by decide) (fun c_57 => ?_) (fun c_57 => ?_)
            · skip
              refine j_iload hC dX6_bestSwap_66 rfl ?_
              refine j_istore_n hC dX6_bestSwap_68 rfl rfl rfl rfl (fun v_68 e_68 => ?_)
              refine j_iload hC dX6_bestSwap_69 rfl ?_
              refine j_istore_n hC dX6_bestSwap_71 rfl rfl rfl rfl (fun v_71 e_71 => ?_)
              refine j_iinc hC (1) dX6_bestSwap_72 rfl rfl rfl rfl rfl (fun v_72 e_72 => ?_)
              refine j_goto hC dX6_bestSwap_75 (tgt := 17) (by decide) ?_
              refine j_pick [0, 1, 2, 3, 4] ?_
              exact ih_17 (i + 1) _ _ _ _ _ _ _ _ (by omega) (by omega) (by first | exact bs_skip h23 c_57 c_63 hwv | exact bs_take1 h23 c_57 hwv (e_68.trans h4) e_71 | exact bs_take2 h23 c_63 hwv (e_68.trans h4) e_71) (jsucc e_72 h4) hY1 hF2 hA1
            · skip
              refine j_iload hC dX6_bestSwap_60 rfl ?_
              refine j_iload_n hC dX6_bestSwap_62 rfl rfl ?_
              refine j_icmp_ge hC dX6_bestSwap_63 (tgt := 72) (by decide) (fun c_63 => ?_) (fun c_63 => ?_)
              · skip
                refine j_iinc hC (1) dX6_bestSwap_72 rfl rfl rfl rfl rfl (fun v_72 e_72 => ?_)
                refine j_goto hC dX6_bestSwap_75 (tgt := 17) (by decide) ?_
                refine j_pick [0, 1, 2, 3, 4] ?_
                exact ih_17 (i + 1) _ _ _ _ _ _ _ _ (by omega) (by omega) (by first | exact bs_skip h23 c_57 c_63 hwv | exact bs_take1 h23 c_57 hwv (e_68.trans h4) e_71 | exact bs_take2 h23 c_63 hwv (e_68.trans h4) e_71) (jsucc e_72 h4) hY1 hF2 hA1
              · skip
                refine j_iload hC dX6_bestSwap_66 rfl ?_
                refine j_istore_n hC dX6_bestSwap_68 rfl rfl rfl rfl (fun v_68 e_68 => ?_)
                refine j_iload hC dX6_bestSwap_69 rfl ?_
                refine j_istore_n hC dX6_bestSwap_71 rfl rfl rfl rfl (fun v_71 e_71 => ?_)
                refine j_iinc hC (1) dX6_bestSwap_72 rfl rfl rfl rfl rfl (fun v_72 e_72 => ?_)
                refine j_goto hC dX6_bestSwap_75 (tgt := 17) (by decide) ?_
                refine j_pick [0, 1, 2, 3, 4] ?_
                exact ih_17 (i + 1) _ _ _ _ _ _ _ _ (by omega) (by omega) (by first | exact bs_skip h23 c_57 c_63 hwv | exact bs_take1 h23 c_57 hwv (e_68.trans h4) e_71 | exact bs_take2 h23 c_63 hwv (e_68.trans h4) e_71) (jsucc e_72 h4) hY1 hF2 hA1
          · skip
            refine j_bipush hC (11) dX6_bestSwap_45 (by decide) ?_
            refine j_goto hC dX6_bestSwap_47 (tgt := 52) (by decide) ?_
            refine j_istore hC dX6_bestSwap_52 rfl rfl rfl (fun v_52 e_52 => ?_)
            have hwv : v_52 = bsW T.1 y i := by unfold bsW; rw [← h4, ← hv, ← e_36]; first | exact e_52.trans (if_pos c_42).symm | exact e_52.trans (if_neg c_42).symm
            refine j_iload_n hC dX6_bestSwap_54 rfl rfl ?_
            refine j_bipush hC (-9) dX6_bestSwap_55 (by decide) ?_
            refine j_icmp_eq hC dX6_bestSwap_57 (tgt := 66) (by decide) (fun c_57 => ?_) (fun c_57 => ?_)
            · skip
              refine j_iload hC dX6_bestSwap_66 rfl ?_
              refine j_istore_n hC dX6_bestSwap_68 rfl rfl rfl rfl (fun v_68 e_68 => ?_)
              refine j_iload hC dX6_bestSwap_69 rfl ?_
              refine j_istore_n hC dX6_bestSwap_71 rfl rfl rfl rfl (fun v_71 e_71 => ?_)
              refine j_iinc hC (1) dX6_bestSwap_72 rfl rfl rfl rfl rfl (fun v_72 e_72 => ?_)
              refine j_goto hC dX6_bestSwap_75 (tgt := 17) (by decide) ?_
              refine j_pick [0, 1, 2, 3, 4] ?_
              exact ih_17 (i + 1) _ _ _ _ _ _ _ _ (by omega) (by omega) (by first | exact bs_skip h23 c_57 c_63 hwv | exact bs_take1 h23 c_57 hwv (e_68.trans h4) e_71 | exact bs_take2 h23 c_63 hwv (e_68.trans h4) e_71) (jsucc e_72 h4) hY1 hF2 hA1
            · skip
              refine j_iload hC dX6_bestSwap_60 rfl ?_
              refine j_iload_n hC dX6_bestSwap_62 rfl rfl ?_
              refine j_icmp_ge hC dX6_bestSwap_63 (tgt := 72) (by decide) (fun c_63 => ?_) (fun c_63 => ?_)
              · skip
                refine j_iinc hC (1) dX6_bestSwap_72 rfl rfl rfl rfl rfl (fun v_72 e_72 => ?_)
                refine j_goto hC dX6_bestSwap_75 (tgt := 17) (by decide) ?_
                refine j_pick [0, 1, 2, 3, 4] ?_
                exact ih_17 (i + 1) _ _ _ _ _ _ _ _ (by omega) (by omega) (by first | exact bs_skip h23 c_57 c_63 hwv | exact bs_take1 h23 c_57 hwv (e_68.trans h4) e_71 | exact bs_take2 h23 c_63 hwv (e_68.trans h4) e_71) (jsucc e_72 h4) hY1 hF2 hA1
              · skip
                refine j_iload hC dX6_bestSwap_66 rfl ?_
                refine j_istore_n hC dX6_bestSwap_68 rfl rfl rfl rfl (fun v_68 e_68 => ?_)
                refine j_iload hC dX6_bestSwap_69 rfl ?_
                refine j_istore_n hC dX6_bestSwap_71 rfl rfl rfl rfl (fun v_71 e_71 => ?_)
                refine j_iinc hC (1) dX6_bestSwap_72 rfl rfl rfl rfl rfl (fun v_72 e_72 => ?_)
                refine j_goto hC dX6_bestSwap_75 (tgt := 17) (by decide) ?_
                refine j_pick [0, 1, 2, 3, 4] ?_
                exact ih_17 (i + 1) _ _ _ _ _ _ _ _ (by omega) (by omega) (by first | exact bs_skip h23 c_57 c_63 hwv | exact bs_take1 h23 c_57 hwv (e_68.trans h4) e_71 | exact bs_take2 h23 c_63 hwv (e_68.trans h4) e_71) (jsucc e_72 h4) hY1 hF2 hA1
    refine j_pick [0, 1, 2, 3, 4] ?_
    exact L_17 ((bLs T.1).length + 1) 0 _ _ _ _ _ _ _ _ (by omega) (by omega) (by rw [e_11, e_13]; rfl) (e_15.trans nI_0.symm) hu hp0 rfl
  · skip
    refine j_iconst hC (-1) dX6_bestSwap_7 (by decide) ?_
    refine j_iret hC hQ rfl rfl (by omega) (by omega) dX6_bestSwap_8 rfl ?_
    exact cw_o (T := T) (by unfold oBestSwap; rw [if_neg (jb0 c_4)]) (CW.mk hCI)
