/-! p31: lamps put in for a try, and in truth; plans carried out -/
def WS (S : BS) : Prop := (0 < (bLs S).length ∧ (bLs S).length ≤ 7) ∧ (∀ L ∈ bLs S, WL L) ∧ (rswf (bRs S) ∧ (bRs S).length ≤ 6) ∧ (∃ d : Nat, bNeed S = nI d ∧ 1 ≤ d ∧ d ≤ 180) ∧ (∃ h : Nat, bHrs S = nI h ∧ h ≤ 100) ∧ bSt S = (0, 0, 0)
theorem dysV_cg {S S2 : BS} (h1 : bLs S = bLs S2) (h2 : bRs S = bRs S2) (h3 : bNeed S = bNeed S2) : dysV S = dysV S2 := by
  obtain ⟨a1, a2, a3, a4⟩ := S
  obtain ⟨b1, b2, b3, b4⟩ := S2
  have h1 : a1 = b1 := h1
  have h2 : a2 = b2 := h2
  have h3 : a3 = b3 := h3
  subst h1
  subst h2
  subst h3
  rfl
theorem okl : ∀ l, l < 3 → okLamp (nI l) := by decide
theorem oi_v {T : St3} {x y : Int32} {i l : Nat} (hx : x = nI i) (hi : i < (bLs T.1).length) (hk : (bLs T.1).length ≤ 10) (hy : y = nI l) (hl : l ≤ 2) : oIfLamp T x y = (dysV (lampS T.1 x y), T) := by
  unfold oIfLamp
  rw [if_pos ⟨hLX_of (by omega) hi hx, by rw [hy]; exact okl l (by omega)⟩]
theorem ob_v {T : St3} {y : Int32} {l : Nat} (hy : y = nI l) (hl : l ≤ 2) : oBestSwap T y = ((bsR T.1 y (bLs T.1).length).1, T) := by
  unfold oBestSwap
  rw [if_pos (by rw [hy]; exact okl l (by omega))]
theorem lamp_len {S : BS} {x y : Int32} : (bLs (lampS S x y)).length = (bLs S).length := List.length_set
theorem lamp_dys {S : BS} {x y : Int32} (hw : rswf (bRs S)) (hn : 0 < (bLs S).length) (h7 : (bLs S).length ≤ 7) : dysV (lampS S x y) = -9 ∨ ∃ d : Nat, dysV (lampS S x y) = nI d ∧ 1 ≤ d ∧ d ≤ 7 := by
  have hl := lamp_len (S := S) (x := x) (y := y)
  rcases pl_or (S := lampS S x y) hw (by omega) (by omega) with ⟨q, -⟩ | ⟨-, q1, q2, q3⟩
  · exact Or.inl q
  · exact Or.inr ⟨_, q3, q1, by omega⟩
theorem bs_char {S : BS} {y : Int32} : ∀ k, k < 100 → ∃ b, b < k + 1 ∧ bsR S y (k + 1) = (nI b, bsW S y b) ∧ ∀ i, i < k + 1 → (bsW S y b).toInt ≤ (bsW S y i).toInt
  | 0, _ => ⟨0, by omega, by have e : bsR S y 1 = bsStep S y 0 (-9, 0) := rfl; rw [show (0 : Nat) + 1 = 1 from rfl, e]; unfold bsStep; rw [if_pos (Or.inl rfl)], fun i hi => by rw [show i = 0 by omega]; exact Int.le_refl _⟩
  | k + 1, h => by
    obtain ⟨b, h1, h2, h3⟩ := bs_char (S := S) (y := y) k (by omega)
    have e : bsR S y (k + 1 + 1) = bsStep S y (k + 1) (bsR S y (k + 1)) := rfl
    rw [e, h2]
    unfold bsStep
    by_cases c : bsW S y (k + 1) < bsW S y b
    · rw [if_pos (Or.inr c)]
      rw [Int32.lt_iff_toInt_lt] at c
      refine ⟨k + 1, by omega, rfl, fun i hi => ?_⟩
      rcases Nat.lt_or_ge i (k + 1) with z | z
      · have := h3 i z
        omega
      · rw [show i = k + 1 by omega]; exact Int.le_refl _
    · have hb : ¬ (nI b = -9 ∨ bsW S y (k + 1) < bsW S y b) := by
        rintro (q | q)
        · have := congrArg Int32.toInt q
          rw [nI_toInt (by omega), show (-9 : Int32).toInt = -9 by decide] at this
          omega
        · exact c q
      rw [if_neg hb]
      rw [Int32.lt_iff_toInt_lt] at c
      refine ⟨b, by omega, rfl, fun i hi => ?_⟩
      rcases Nat.lt_or_ge i (k + 1) with z | z
      · exact h3 i z
      · rw [show i = k + 1 by omega]; omega
theorem bs_w {S : BS} {y : Int32} {i : Nat} (hw : rswf (bRs S)) (hn : 0 < (bLs S).length) (h7 : (bLs S).length ≤ 7) : (dysV (lampS S (nI i) y) = -9 ∧ (bsW S y i).toInt = 11) ∨ ((bsW S y i).toInt = (dysV (lampS S (nI i) y)).toInt ∧ 1 ≤ (bsW S y i).toInt ∧ (bsW S y i).toInt ≤ 7 ∧ ¬ dysV (lampS S (nI i) y) = -9) := by
  unfold bsW
  rcases lamp_dys (x := nI i) (y := y) hw hn h7 with q | ⟨d, q, q1, q2⟩
  · rw [if_pos q]
    exact Or.inl ⟨q, by decide⟩
  · have hne : ¬ dysV (lampS S (nI i) y) = -9 := by
      rw [q]
      intro z
      have := congrArg Int32.toInt z
      rw [nI_toInt (by omega), show (-9 : Int32).toInt = -9 by decide] at this
      omega
    rw [if_neg hne]
    refine Or.inr ⟨rfl, ?_, ?_, hne⟩ <;> rw [q, nI_toInt (by omega)] <;> omega
/-- the light that bestSwap tells: none gives fewer days -/
theorem bs_law {S : BS} {y : Int32} {i : Nat} (hw : rswf (bRs S)) (hi : i < (bLs S).length) (h7 : (bLs S).length ≤ 7) : ∃ b, b < (bLs S).length ∧ (bsR S y (bLs S).length).1 = nI b ∧ (dysV (lampS S (nI b) y) = -9 → dysV (lampS S (nI i) y) = -9) ∧ (¬ dysV (lampS S (nI i) y) = -9 → ¬ dysV (lampS S (nI i) y) < dysV (lampS S (nI b) y)) := by
  obtain ⟨k, hk⟩ : ∃ k, (bLs S).length = k + 1 := ⟨(bLs S).length - 1, by omega⟩
  obtain ⟨b, h1, h2, h3⟩ := bs_char (S := S) (y := y) k (by omega)
  have hb := bs_w (S := S) (y := y) (i := b) hw (by omega) h7
  have hv := bs_w (S := S) (y := y) (i := i) hw (by omega) h7
  have h4 := h3 i (by omega)
  refine ⟨b, by omega, by rw [hk, h2], fun q => ?_, fun q => ?_⟩
  · rcases hv with ⟨w, -⟩ | ⟨-, -, w, -⟩
    · exact w
    · rcases hb with ⟨-, z⟩ | ⟨-, -, -, z⟩
      · omega
      · exact absurd q z
  · rcases hv with ⟨w, -⟩ | ⟨w1, w2, w3, -⟩
    · exact absurd w q
    · rcases hb with ⟨-, z⟩ | ⟨z1, z2, z3, -⟩
      · omega
      · rw [Int32.lt_iff_toInt_lt]
        omega
theorem stk_to {st : Int32 × Int32 × Int32} {y v : Int32} : stk (stTo st y v) y = v := by
  unfold stk stTo
  by_cases h0 : y = 0
  · rw [if_pos h0, if_pos h0]
  · rw [if_neg h0, if_neg h0]
    by_cases h1 : y = 1
    · rw [if_pos h1, if_pos h1]
    · rw [if_neg h1, if_neg h1]
theorem stk_0 {y : Int32} : stk (0, 0, 0) y = 0 := by
  unfold stk
  by_cases h0 : y = 0
  · rw [if_pos h0]
  · rw [if_neg h0]
    by_cases h1 : y = 1
    · rw [if_pos h1]
    · rw [if_neg h1]
def stkS (S : BS) (y : Int32) : BS := sSt S (stTo (0, 0, 0) y 1)
def swpS (S : BS) (x y : Int32) : BS := sSt (sLs (stkS S y) ((bLs S).set x.toNatClampNeg (putL (lg S x) y))) (stTo (stTo (0, 0, 0) y 1) y 0)
theorem os_set {T : St3} {y : Int32} {l : Nat} (hy : y = nI l) (hl : l ≤ 2) (hst : bSt T.1 = (0, 0, 0)) : oSetStock T y 1 = (0, oPush T (stkS T.1 y)) := by
  have ho := okl l (by omega)
  rw [← hy] at ho
  unfold oSetStock
  rw [if_neg (fun q => q.elim (fun w => w ho) (fun w => w.elim (fun z => absurd z (by decide)) (fun z => absurd z (by decide)))), hst, stk_0]
  rfl
theorem ow_1 {T : St3} {x y : Int32} {i l : Nat} (hx : x = nI i) (hi : i < (bLs T.1).length) (hk : (bLs T.1).length ≤ 10) (hy : y = nI l) (hl : l ≤ 2) : oSwap (oPush T (stkS T.1 y)) x y = (0, oPush (oPush T (stkS T.1 y)) (swpS T.1 x y)) := by
  have ho := okl l (by omega)
  rw [← hy] at ho
  have e : stk (bSt (oPush T (stkS T.1 y)).1) y = 1 := stk_to
  unfold oSwap
  rw [if_neg (fun q => q.elim (fun w => w (hLX_of (n := (bLs T.1).length) (by omega) hi hx)) (fun w => w ho)), if_neg (by rw [e]; decide), e]
  rfl
theorem ow_2 {T T1 : St3} {x y : Int32} {i l : Nat} (hx : x = nI i) (hi : i < (bLs T.1).length) (hk : (bLs T.1).length ≤ 10) (hy : y = nI l) (hl : l ≤ 2) : oSwap (oPush T1 (swpS T.1 x y)) x y = (-2, oPush T1 (swpS T.1 x y)) := by
  have ho := okl l (by omega)
  rw [← hy] at ho
  have e : stk (bSt (oPush T1 (swpS T.1 x y)).1) y = 0 := stk_to
  have hlen : (bLs (oPush T1 (swpS T.1 x y)).1).length = (bLs T.1).length := List.length_set
  unfold oSwap
  rw [if_neg (fun q => q.elim (fun w => w (hLX_of (by omega) (by omega) hx)) (fun w => w ho)), if_pos e]
theorem swp_dys {S : BS} {x y : Int32} : dysV (swpS S x y) = dysV (lampS S x y) := dysV_cg rfl rfl rfl
theorem swp_lI {S : BS} {x y : Int32} {i : Nat} (hx : x = nI i) (hi : i < (bLs S).length) (hk : (bLs S).length ≤ 10) : lI (swpS S x y) i = putL (lI S i) y := by
  apply lI_of
  show ((bLs S).set x.toNatClampNeg (putL (lg S x) y))[i]? = _
  rw [lg_lI hx hi (by omega), hx, nI_cl (by omega), List.getElem?_set_self hi]
theorem ol_s3 {T T1 : St3} {x y : Int32} {i : Nat} (hx : x = nI i) (hi : i < (bLs T.1).length) (hk : (bLs T.1).length ≤ 10) : (oLight (oPush T1 (swpS T.1 x y)) x 3).1 = y := by
  have hlen : (bLs (oPush T1 (swpS T.1 x y)).1).length = (bLs T.1).length := List.length_set
  rw [ol_3 (T := oPush T1 (swpS T.1 x y)) hx (by omega) (by omega)]
  show lI (swpS T.1 x y) i 3 = _
  rw [swp_lI hx hi hk]
  rfl
theorem ol_s8 {T T1 : St3} {x y : Int32} {i : Nat} (hx : x = nI i) (hi : i < (bLs T.1).length) (hk : (bLs T.1).length ≤ 10) : (oLight (oPush T1 (swpS T.1 x y)) x 8).1 = lifeOf y := by
  have hlen : (bLs (oPush T1 (swpS T.1 x y)).1).length = (bLs T.1).length := List.length_set
  rw [ol_8 (T := oPush T1 (swpS T.1 x y)) hx (by omega) (by omega)]
  show lI (swpS T.1 x y) i 7 = _
  rw [swp_lI hx hi hk]
  rfl
theorem life_mul {y : Int32} {l : Nat} (hy : y = nI l) (hl : l ≤ 2) : lifeOf y = 3000 * (y + 1) := by
  have h : ∀ l, l < 3 → lifeOf (nI l) = 3000 * (nI l + 1) := by decide +kernel
  rw [hy]
  exact h l (by omega)
theorem ou_2 {T : St3} {S1 : BS} : oUndo ((oPush T S1).1, (oPush T S1).2.1.take 7, (oPush T S1).2.2) = (nI ((T.2.1.take 7).take 6).length, (T.1, (T.2.1.take 7).take 6, T.2.2)) := rfl
theorem tv_lamp {T : St3} {y : Int32} {l : Nat} (hy : y = nI l) (hl : l ≤ 2) (hst : bSt T.1 = (0, 0, 0)) : (oTold T (6 + y)).1 = 0 := by
  have e : ∀ l, l < 3 → (6 : Int32) + nI l = nI (6 + l) := by decide
  rw [hy, e l (by omega)]
  have h1 : (bSt T.1).1 = 0 := by rw [hst]
  have h2 : (bSt T.1).2.1 = 0 := by rw [hst]
  have h3 : (bSt T.1).2.2 = 0 := by rw [hst]
  match l, hl with
  | 0, _ => exact h1
  | 1, _ => exact h2
  | 2, _ => exact h3
/-! how many lights a set has -/
def cn (s : Nat) : Nat → Nat
  | 0 => 0
  | k + 1 => cn s k + (if s.testBit k = true then 1 else 0)
theorem cn_split {l o : Nat} (h : o &&& l = o) : ∀ k, cn l k = cn o k + cn (l ^^^ o) k
  | 0 => rfl
  | k + 1 => by
    have ih := cn_split h k
    have h1 := congrArg (fun z => z.testBit k) h
    simp only [Nat.testBit_and] at h1
    show cn l k + (if l.testBit k = true then 1 else 0) = cn o k + (if o.testBit k = true then 1 else 0) + (cn (l ^^^ o) k + (if (l ^^^ o).testBit k = true then 1 else 0))
    rw [Nat.testBit_xor]
    revert h1
    cases l.testBit k <;> cases o.testBit k <;> simp <;> omega
theorem cn_full {n : Nat} : ∀ k, k ≤ n → cn (2 ^ n - 1) k = k
  | 0, _ => rfl
  | k + 1, h => by
    have ih := cn_full (n := n) k (by omega)
    show cn (2 ^ n - 1) k + (if (2 ^ n - 1).testBit k = true then 1 else 0) = k + 1
    rw [ih, if_pos (full_bit h)]
theorem cn_zero : ∀ k, cn 0 k = 0
  | 0 => rfl
  | k + 1 => by
    have ih := cn_zero k
    show cn 0 k + (if (0 : Nat).testBit k = true then 1 else 0) = 0
    rw [ih, Nat.zero_testBit]
    rfl
theorem bur_cnt {X : List (Nat × jF)} {s : Nat} {p f : Int32} (hs : s < 1024) : ∀ k, k ≤ 10 → ∃ a b : Nat, jiter (bStep (nI s) X) (p, f) k = (p + nI a, f + nI b) ∧ a + b = cn s k
  | 0, _ => ⟨0, 0, by rw [jit_0, show nI 0 = (0 : Int32) from rfl, Int32.add_zero, Int32.add_zero], rfl⟩
  | k + 1, h => by
    obtain ⟨a, b, h1, h2⟩ := bur_cnt (X := X) (p := p) (f := f) hs k (by omega)
    have hb := bits_tb k (by omega) s hs
    rw [jit_s, h1]
    unfold bStep
    show ∃ a1 b1 : Nat, _ ∧ a1 + b1 = cn s k + (if s.testBit k = true then 1 else 0)
    by_cases c : s.testBit k = true
    · rw [if_neg (fun q => q (hb.mpr c)), if_pos c]
      by_cases d : burnMin (jL X k) = rated (jL X k 2)
      · rw [if_pos d]
        exact ⟨a + 1, b, by rw [← nI_1, Int32.add_assoc], by omega⟩
      · rw [if_neg d]
        exact ⟨a, b + 1, by rw [← nI_1, Int32.add_assoc], by omega⟩
    · rw [if_pos (fun q => c (hb.mp q)), if_neg c]
      exact ⟨a, b, rfl, by omega⟩
theorem pas_len {S : BS} {x : Int32} : (bLs (pasS x S)).length = (bLs S).length := List.length_mapIdx
/-- the plan carried out day by day -/
theorem co_all {S : BS} {h : Nat} (hk : (bLs S).length ≤ 7) (hwl : ∀ L ∈ bLs S, WL L) (hh : bHrs S = nI h) (h100 : h ≤ 100) (hy : ∀ i, i < (bLs S).length → alS S (2 ^ i) = true) (hv : dysV S = nI (dysN S)) (hD : dysN S ≤ 7) : ∀ t, t ≤ dysN S → (bLs (coS S t)).length = (bLs S).length ∧ (∀ L ∈ bLs (coS S t), WL L) ∧ bRs (coS S t) = bRs S ∧ ∃ a b : Nat, bPa (coS S t) = bPa S + nI a ∧ bFa (coS S t) = bFa S + nI b ∧ a + b + cn (lefS S t) (bLs S).length = (bLs S).length
  | 0, _ => ⟨rfl, hwl, rfl, 0, 0, (Int32.add_zero _).symm, (Int32.add_zero _).symm, by rw [lef_0, show allS S = 2 ^ (bLs S).length - 1 from rfl, cn_full _ (Nat.le_refl _)]; omega⟩
  | t + 1, ht => by
    obtain ⟨h1, h2, h3, a, b, h4, h5, h6⟩ := co_all hk hwl hh h100 hy hv hD t (by omega)
    have e : coS S (t + 1) = pasS 24 (burS (onV S (nI t)) (coS S t)) := rfl
    have hhr := co_hrs hh t
    have hlt := (on_lt (S := S) (by omega) hy (t := t) (by omega)).1
    have hp := pow_1024 (k := (bLs S).length) (by omega)
    obtain ⟨v, -, -⟩ := pl_day (S := S) (by omega) hy (t := t) (by omega)
    rw [e, onV_nat (by omega) hv (by omega) (by omega)]
    generalize hU : coS S t = U at h1 h2 h3 h4 h5 hhr
    obtain ⟨a1, b1, g1, g2⟩ := bur_cnt (X := lsX (bLs U)) (s := onN S t) (p := bPa U) (f := bFa U) (by omega) (bLs U).length (by omega)
    have hsp := cn_split v.1 (bLs S).length
    rw [lef_s]
    refine ⟨by rw [pas_len, len_bur]; exact h1, ?_, h3, a + a1, b + b1, ?_, ?_, ?_⟩
    · show ∀ L ∈ (bLs (burS (nI (onN S t)) U)).mapIdx (fun _ L => pasL (bHrs (burS (nI (onN S t)) U)) 24 L), WL L
      refine WLs_map ?_ (fun j L hL => ?_)
      · exact WLs_map h2 (fun j L hL => WL_bF hL)
      · show WL (pasL (bHrs U) (nI 24) L)
        rw [hhr, pas_small (by omega) (by omega)]
        exact WL_hours hL (by omega)
    · show (jiter (bStep (nI (onN S t)) (lsX (bLs U))) (bPa U, bFa U) (bLs U).length).1 = _
      rw [g1, h4]
      show bPa S + nI a + nI a1 = _
      rw [Int32.add_assoc, nI_add]
    · show (jiter (bStep (nI (onN S t)) (lsX (bLs U))) (bPa U, bFa U) (bLs U).length).2 = _
      rw [g1, h5]
      show bFa S + nI b + nI b1 = _
      rw [Int32.add_assoc, nI_add]
    · rw [h1] at g2
      omega
theorem co_yes {T : St3} {h : Nat} (hn : 0 < (bLs T.1).length) (hh : bHrs T.1 = nI h) (h100 : h ≤ 100) (hv : dysV T.1 = nI (dysN T.1)) (hD : dysN T.1 ≤ 7) : oCarryOut T = (bFa (coS T.1 (dysN T.1)) - bFa T.1, oPush T (coS T.1 (dysN T.1))) := by
  have e9 : ¬ dysV T.1 = -9 := by
    rw [hv]
    intro z
    have := congrArg Int32.toInt z
    rw [nI_toInt (by omega), show (-9 : Int32).toInt = -9 by decide] at this
    omega
  have e1 : bHrs T.1 + 24 * dysV T.1 ≤ 100000 := by
    rw [hh, hv, show (24 : Int32) * nI (dysN T.1) = nI (24 * dysN T.1) from pk_mul 24 _, nI_add]
    exact nI_le (b := 100000) (by omega) (by omega)
  unfold oCarryOut
  rw [if_neg (by omega), if_neg e9, if_pos e1]
theorem co_hr {S : BS} {h : Nat} (hh : bHrs S = nI h) (hv : dysV S = nI (dysN S)) : bHrs (coS S (dysN S)) = bHrs S + 24 * dysV S := by
  rw [co_hrs hh, hh, hv, show (24 : Int32) * nI (dysN S) = nI (24 * dysN S) from pk_mul 24 _, nI_add]
theorem i32_4 (a b x y : Int32) : (a + x) + (b + y) = (a + b) + (x + y) := by
  rw [Int32.add_assoc, Int32.add_assoc, ← Int32.add_assoc x b y, Int32.add_comm x b, Int32.add_assoc b x y]
/-- the end of the plan: each light was tested once -/
theorem co_end {S : BS} {h : Nat} (hk : (bLs S).length ≤ 7) (hwl : ∀ L ∈ bLs S, WL L) (hh : bHrs S = nI h) (h100 : h ≤ 100) (hy : ∀ i, i < (bLs S).length → alS S (2 ^ i) = true) (hv : dysV S = nI (dysN S)) (hD : dysN S ≤ 7) : (bLs (coS S (dysN S))).length = (bLs S).length ∧ (∀ L ∈ bLs (coS S (dysN S)), WL L) ∧ rswf (bRs (coS S (dysN S))) = rswf (bRs S) ∧ bPa (coS S (dysN S)) + bFa (coS S (dysN S)) = bPa S + bFa S + nI (bLs S).length ∧ ∃ b : Nat, bFa (coS S (dysN S)) - bFa S = nI b ∧ b ≤ (bLs S).length := by
  obtain ⟨h1, h2, h3, a, b, h4, h5, h6⟩ := co_all hk hwl hh h100 hy hv hD (dysN S) (Nat.le_refl _)
  rw [pl_end (by omega) hy, cn_zero] at h6
  refine ⟨h1, h2, by rw [h3], ?_, b, by rw [h5, i32_ac], by omega⟩
  rw [h4, h5, i32_4, nI_add, show a + b = (bLs S).length by omega]
