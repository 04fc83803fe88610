/-! which places the lights reach -/
abbrev fstR (L : jF) : Int32 := jmax 0 (L 0 - widthOf (L 3))
abbrev lstR (L : jF) : Int32 := jmin 200 (L 0 + widthOf (L 3))
abbrev inR (L : jF) (q : Nat) : Prop := (fstR L).toInt ≤ (q : Int) ∧ (q : Int) ≤ (lstR L).toInt
def lookStep (need : Int32) (X : List (Nat × jF)) (q i : Nat) (s : Int32) : Int32 := if ¬ endL (jL X i) < need ∧ inR (jL X i) q then s ||| (1 <<< (nI i &&& 31)) else s
def lookN (need : Int32) (X : List (Nat × jF)) (k q : Nat) : Int32 := jiter (lookStep need X q) 0 k
def nearT (N : jF) (x : Int32) : Int32 := if okPlace x then N x.toNatClampNeg else 0
def darkN (N : jF) (a b : Nat) (s : Int32) : Int32 := jiter (fun t n => if nearT N (nI (a + t)) &&& s = 0 then n + 1 else n) 0 (b + 1 - a)
def minStep (X : List (Nat × jF)) (s : Int32) (q i : Nat) (m : Int32) : Int32 := if (s >>> (nI i &&& 31)) &&& 1 = 1 ∧ inR (jL X i) q then jmax m (endL (jL X i)) else m
def minG (X : List (Nat × jF)) (k : Nat) (s : Int32) (q : Nat) : Int32 := jiter (minStep X s q) 0 k
def minN (X : List (Nat × jF)) (k : Nat) (s : Int32) (a b : Nat) : Int32 := jiter (fun t m => jmin m (minG X k s (a + 1 + t))) (minG X k s a) (b - a)
theorem jmax_toInt {x y : Int32} : (jmax x y).toInt = max x.toInt y.toInt := by
  unfold jmax
  by_cases h : x < y
  · rw [if_pos h]; rw [Int32.lt_iff_toInt_lt] at h; omega
  · rw [if_neg h]; rw [Int32.lt_iff_toInt_lt] at h; omega
theorem jmin_toInt {x y : Int32} : (jmin x y).toInt = min x.toInt y.toInt := by
  unfold jmin
  by_cases h : y < x
  · rw [if_pos h]; rw [Int32.lt_iff_toInt_lt] at h; omega
  · rw [if_neg h]; rw [Int32.lt_iff_toInt_lt] at h; omega
theorem jnat_of {x : Int32} (h : 0 ≤ x.toInt) : ∃ a : Nat, a < 2 ^ 31 ∧ x = nI a ∧ (a : Int) = x.toInt := by
  obtain ⟨a, ha, rfl⟩ := nI_of (x := x) (by rw [Int32.lt_iff_toInt_lt, Int32.toInt_zero]; omega)
  exact ⟨a, ha, rfl, (nI_toInt ha).symm⟩
theorem jlit200 : (200 : Int32).toInt = 200 := by decide
theorem jlit0 : (0 : Int32).toInt = 0 := by decide
theorem jgt {z x : Int32} {p : Nat} (hx : x = nI p) (hp : p < 2 ^ 31) (c : z < x) : z.toInt < (p : Int) := by
  rw [Int32.lt_iff_toInt_lt, hx, nI_toInt hp] at c; exact c
theorem jngt {z x : Int32} {p : Nat} (hx : x = nI p) (hp : p < 2 ^ 31) (c : ¬ z < x) : (p : Int) ≤ z.toInt := by
  rw [Int32.lt_iff_toInt_lt, hx, nI_toInt hp] at c; omega
theorem nearT_nat {N : jF} {q : Nat} (h : q ≤ 200) : nearT N (nI q) = N q := by
  unfold nearT
  rw [if_pos ⟨by rw [← nI_0, nI_ltI (by omega) (by omega)]; omega, by show ¬ nI 200 < nI q; rw [nI_ltI (by omega) (by omega)]; omega⟩, nI_cl (by omega)]
theorem jmax0 {a : Nat} (h : a < 2 ^ 31) : jmax 0 (nI a) = nI a := by
  apply Int32.toInt_inj.mp
  rw [jmax_toInt, nI_toInt h, jlit0]; omega
theorem jmin200 {a : Nat} (h : a ≤ 200) : jmin 200 (nI a) = nI a := by
  apply Int32.toInt_inj.mp
  rw [jmin_toInt, nI_toInt (by omega), jlit200]; omega
theorem inR_rel {L : jF} {a b q : Nat} (ha : a ≤ 200) (hb : b ≤ 200) : ((jmax (nI a) (L 0 - widthOf (L 3))).toInt ≤ (q : Int) ∧ (q : Int) ≤ (jmin (nI b) (L 0 + widthOf (L 3))).toInt) ↔ (a ≤ q ∧ q ≤ b ∧ inR L q) := by
  unfold inR fstR lstR
  rw [jmax_toInt, jmin_toInt, jmax_toInt, jmin_toInt, nI_toInt (by omega), nI_toInt (by omega), jlit0, jlit200]
  omega
theorem lenStep {A A1 : Nat → jF} {L : jF} {p0 p q : Nat} {v : Int32} (hpp : p0 ≤ p) (h : ∀ q, q ≤ 200 → A1 1 q = if p0 ≤ q ∧ q < p then jmax (A 1 q) (endL L) else A 1 q) (hq : q ≤ 200) (e : v = endL L) : va_up A1 1 (upd (A1 1) p (if A1 1 p < v then v else A1 1 p)) 1 q = if p0 ≤ q ∧ q < p + 1 then jmax (A 1 q) (endL L) else A 1 q := by
  show (if q = p then (if A1 1 p < v then v else A1 1 p) else A1 1 q) = _
  by_cases hqp : q = p
  · subst hqp
    have h1 := h q hq
    rw [if_neg (by omega)] at h1
    rw [if_pos rfl, h1, e, if_pos (show p0 ≤ q ∧ q < q + 1 by omega)]
    rfl
  · rw [if_neg hqp, h q hq]
    by_cases hc : p0 ≤ q ∧ q < p
    · rw [if_pos hc, if_pos (by omega)]
    · rw [if_neg hc, if_neg (by omega)]
set_option maxHeartbeats 1000000 in
set_option maxRecDepth 100000 in
theorem c_X4_nearTo (g : jG) (d : Nat → Nat) (A : Nat → jF) (x : Int32) : Con g yX4_nearTo cX4_nearTo 2 (some .int) 0 0 0 0 [.ref (d 0), .int x] [rc g d A] (jR (some (.int (nearT (A 0) x))) [rc g d A]) := by
  refine Con.of (own := RX4) (lv := [(0, .ref (d 0)), (1, .int x)]) (by decide) rfl (Nat.le_of_ble_eq_true rfl) rfl ?_
  intro E hC hQ hN
  refine j_iload_n hC dX4_nearTo_0 rfl rfl ?_
  refine j_if_lt hC dX4_nearTo_1 (tgt := 20) (by decide) (fun c_1 => ?_) (fun c_1 => ?_)
  · skip
    refine j_iconst hC (0) dX4_nearTo_20 (by decide) ?_
    refine j_iret hC hQ rfl rfl (Nat.le_of_ble_eq_true rfl) (Nat.le_of_ble_eq_true rfl) dX4_nearTo_21 rfl ⟨?_, ?_⟩
    · (simp [nearT, *])
    · rfl
  · skip
    refine j_iload_n hC dX4_nearTo_4 rfl rfl ?_
    refine j_sipush hC (200) dX4_nearTo_5 (by decide) ?_
    refine j_icmp_gt hC dX4_nearTo_8 (tgt := 20) (by decide) (fun c_8 => ?_) (fun c_8 => ?_)
    · skip
      refine j_iconst hC (0) dX4_nearTo_20 (by decide) ?_
      refine j_iret hC hQ rfl rfl (Nat.le_of_ble_eq_true rfl) (Nat.le_of_ble_eq_true rfl) dX4_nearTo_21 rfl ⟨?_, ?_⟩
      · (simp [nearT, *])
      · rfl
    · skip
      refine j_aload_n hC dX4_nearTo_11 rfl rfl ?_
      refine j_get hC uX4 0 0 0 rfl rfl k115 rfl dX4_nearTo_12 ?_
      refine j_iload_n hC dX4_nearTo_15 rfl rfl ?_
      refine j_iald hC 0 1 rfl (jin2 c_1 c_8 (by decide)) dX4_nearTo_16 ?_
      refine j_goto hC dX4_nearTo_17 (tgt := 21) (by decide) ?_
      refine j_iret hC hQ rfl rfl (Nat.le_of_ble_eq_true rfl) (Nat.le_of_ble_eq_true rfl) dX4_nearTo_21 rfl ⟨?_, ?_⟩
      · (simp [nearT, *])
      · rfl
set_option maxHeartbeats 1000000 in
set_option maxRecDepth 100000 in
theorem c_X4_dark (g : jG) (d : Nat → Nat) (A : Nat → jF) (a b : Nat) (x1 x2 s : Int32) (h1 : x1 = nI a) (h2 : x2 = nI b) (hab : a ≤ b) (hb : b ≤ 200) : Con g yX4_dark cX4_dark 6 (some .int) 1 21 0 0 [.ref (d 0), .int x1, .int x2, .int s] [rc g d A] (jR (some (.int (darkN (A 0) a b s))) [rc g d A]) := by
  refine Con.of (own := RX4) (lv := [(0, .ref (d 0)), (1, .int x1), (2, .int x2), (3, .int s)]) (by decide) rfl (Nat.le_of_ble_eq_true rfl) rfl ?_
  intro E hC hQ hN
  refine j_iconst hC (0) dX4_dark_0 (by decide) ?_
  refine j_istore hC dX4_dark_1 rfl rfl rfl (fun v_1 e_1 => ?_)
  refine j_iload_n hC dX4_dark_3 rfl rfl ?_
  refine j_istore hC dX4_dark_4 rfl rfl rfl (fun v_4 e_4 => ?_)
  have L_6 : ∀ (fu : Nat) (t : Nat) (x4 x5 : Int32) (hfu : b + 2 ≤ a + t + fu) (ht : a + t ≤ b + 1) (h4 : x4 = jiter (fun t n => if nearT (A 0) (nI (a + t)) &&& s = 0 then n + 1 else n) 0 t) (h5 : x5 = nI (a + t)), J g (jRm 1 21 0 0) E 6 6 [(0, .ref (d 0)), (2, .int x2), (3, .int s), (4, .int x4), (5, .int x5)] [] [rc g d A] (0) (0) := by
    intro fu
    induction fu with
    | zero => intro t x4 x5 hfu ht h4 h5; exact absurd hfu (by omega)
    | succ fu ih_6 =>
      intro t x4 x5 hfu ht h4 h5
      refine j_iload hC dX4_dark_6 rfl ?_
      refine j_iload_n hC dX4_dark_8 rfl rfl ?_
      refine j_icmp_gt hC dX4_dark_9 (tgt := 32) (by decide) (fun c_9 => ?_) (fun c_9 => ?_)
      · skip
        have hgt := jgt h5 (by omega) c_9
        rw [h2, nI_toInt (by omega)] at hgt
        refine j_iload hC dX4_dark_32 rfl ?_
        refine j_iret hC hQ rfl rfl (Nat.le_of_ble_eq_true rfl) (Nat.le_of_ble_eq_true rfl) dX4_dark_34 rfl ⟨?_, ?_⟩
        · (rw [h4, show t = b + 1 - a by omega]; rfl)
        · rfl
      · skip
        have hle := jngt h5 (by omega) c_9
        rw [h2, nI_toInt (by omega)] at hle
        refine j_aload_n hC dX4_dark_12 rfl rfl ?_
        refine j_iload hC dX4_dark_13 rfl ?_
        refine j_callVR hC [0] (c_X4_nearTo g _ _ _) mX4_nearTo k215 rfl rfl rfl rfl rfl ⟨(Nat.le_of_ble_eq_true rfl), (Nat.le_of_ble_eq_true rfl)⟩ (Nat.le_of_ble_eq_true rfl) ⟨(Nat.le_of_ble_eq_true rfl), (Nat.le_of_ble_eq_true rfl)⟩ dX4_dark_15 ?_
        dsimp only [jrepl, List.set, jstk]
        refine j_iload_n hC dX4_dark_18 rfl rfl ?_
        refine j_iand hC dX4_dark_19 ?_
        refine j_if_ne hC dX4_dark_20 (tgt := 26) (by decide) (fun c_20 => ?_) (fun c_20 => ?_)
        · skip
          refine j_iinc hC (1) dX4_dark_26 rfl rfl rfl rfl rfl (fun v_26 e_26 => ?_)
          refine j_goto hC dX4_dark_29 (tgt := 6) (by decide) ?_
          refine j_pick [0, 2, 3, 4, 5] ?_
          exact ih_6 (t + 1) _ _ (by omega) (by omega) (by show _ = (if nearT (A 0) (nI (a + t)) &&& s = 0 then _ else _); rw [← h4, ← h5]; first | exact e_23.trans (if_pos c_20).symm | exact (if_neg c_20).symm) (jsucc e_26 h5)
        · skip
          refine j_iinc hC (1) dX4_dark_23 rfl rfl rfl rfl rfl (fun v_23 e_23 => ?_)
          refine j_iinc hC (1) dX4_dark_26 rfl rfl rfl rfl rfl (fun v_26 e_26 => ?_)
          refine j_goto hC dX4_dark_29 (tgt := 6) (by decide) ?_
          refine j_pick [0, 2, 3, 4, 5] ?_
          exact ih_6 (t + 1) _ _ (by omega) (by omega) (by show _ = (if nearT (A 0) (nI (a + t)) &&& s = 0 then _ else _); rw [← h4, ← h5]; first | exact e_23.trans (if_pos c_20).symm | exact (if_neg c_20).symm) (jsucc e_26 h5)
  refine j_pick [0, 2, 3, 4, 5] ?_
  exact L_6 (b + 2) 0 _ _ (by omega) (by omega) e_1 (e_4.trans h1)
set_option maxHeartbeats 1000000 in
set_option maxRecDepth 100000 in
theorem c_X4_lengthen (g : jG) (d : Nat → Nat) (A : Nat → jF) (c : Nat) (L : jF) (a b : Nat) (x1 x2 : Int32) (h1 : x1 = nI a) (h2 : x2 = nI b) (ha : a ≤ 200) (hb : b ≤ 200) : Con g yX4_lengthen cX4_lengthen 8 none 2 40 0 0 [.ref (d 0), .ref c, .int x1, .int x2] [rc g d A, lb c L] (fun r b1 => r = none ∧ ∃ A1 : Nat → jF, b1 = [rc g d A1, lb c L] ∧ A1 0 = A 0 ∧ ∀ q, q ≤ 200 → A1 1 q = if a ≤ q ∧ q ≤ b ∧ inR L q then jmax (A 1 q) (endL L) else A 1 q) := by
  refine Con.of (own := RX4) (lv := [(0, .ref (d 0)), (1, .ref c), (2, .int x1), (3, .int x2)]) (by decide) rfl (Nat.le_of_ble_eq_true rfl) rfl ?_
  intro E hC hQ hN
  refine j_iload_n hC dX4_lengthen_0 rfl rfl ?_
  refine j_aload_n hC dX4_lengthen_1 rfl rfl ?_
  refine j_get hC uX2 1 0 0 rfl rfl k254 rfl dX4_lengthen_2 ?_
  refine j_aload_n hC dX4_lengthen_5 rfl rfl ?_
  refine j_callVR hC [1] (c_X2_width g _ _) mX2_width k188 rfl rfl rfl rfl rfl ⟨(Nat.le_of_ble_eq_true rfl), (Nat.le_of_ble_eq_true rfl)⟩ (Nat.le_of_ble_eq_true rfl) ⟨(Nat.le_of_ble_eq_true rfl), (Nat.le_of_ble_eq_true rfl)⟩ dX4_lengthen_6 ?_
  dsimp only [jrepl, List.set, jstk]
  refine j_isub hC dX4_lengthen_9 ?_
  refine j_max hC k195 k196 k12 k197 (Nat.le_of_ble_eq_true rfl) (Nat.le_of_ble_eq_true rfl) (Nat.le_of_ble_eq_true rfl) (Nat.le_of_ble_eq_true rfl) dX4_lengthen_10 ?_
  refine j_istore hC dX4_lengthen_13 rfl rfl rfl (fun v_13 e_13 => ?_)
  refine j_iload_n hC dX4_lengthen_15 rfl rfl ?_
  refine j_aload_n hC dX4_lengthen_16 rfl rfl ?_
  refine j_get hC uX2 1 0 0 rfl rfl k254 rfl dX4_lengthen_17 ?_
  refine j_aload_n hC dX4_lengthen_20 rfl rfl ?_
  refine j_callVR hC [1] (c_X2_width g _ _) mX2_width k188 rfl rfl rfl rfl rfl ⟨(Nat.le_of_ble_eq_true rfl), (Nat.le_of_ble_eq_true rfl)⟩ (Nat.le_of_ble_eq_true rfl) ⟨(Nat.le_of_ble_eq_true rfl), (Nat.le_of_ble_eq_true rfl)⟩ dX4_lengthen_21 ?_
  dsimp only [jrepl, List.set, jstk]
  refine j_iadd hC dX4_lengthen_24 ?_
  refine j_min hC k198 k186 k12 k187 (Nat.le_of_ble_eq_true rfl) (Nat.le_of_ble_eq_true rfl) (Nat.le_of_ble_eq_true rfl) (Nat.le_of_ble_eq_true rfl) dX4_lengthen_25 ?_
  refine j_istore hC dX4_lengthen_28 rfl rfl rfl (fun v_28 e_28 => ?_)
  refine j_aload_n hC dX4_lengthen_30 rfl rfl ?_
  refine j_callVR hC [1] (c_X2_endurance g _ _) mX2_endurance k181 rfl rfl rfl rfl rfl ⟨(Nat.le_of_ble_eq_true rfl), (Nat.le_of_ble_eq_true rfl)⟩ (Nat.le_of_ble_eq_true rfl) ⟨(Nat.le_of_ble_eq_true rfl), (Nat.le_of_ble_eq_true rfl)⟩ dX4_lengthen_31 ?_
  dsimp only [jrepl, List.set, jstk]
  refine j_istore hC dX4_lengthen_34 rfl rfl rfl (fun v_34 e_34 => ?_)
  refine j_iload hC dX4_lengthen_36 rfl ?_
  refine j_istore hC dX4_lengthen_38 rfl rfl rfl (fun v_38 e_38 => ?_)
  obtain ⟨p0, hp031, hp0, hp0'⟩ := jnat_of (x := v_13) (by have : v_13.toInt = (jmax x1 (L 0 - widthOf (L 3))).toInt := congrArg Int32.toInt e_13; rw [this, jmax_toInt, h1, nI_toInt (by omega)]; omega)
  have hz200 : v_28.toInt ≤ 200 := by have : v_28.toInt = (jmin x2 (L 0 + widthOf (L 3))).toInt := congrArg Int32.toInt e_28; rw [jmin_toInt, h2, nI_toInt (by omega)] at this; omega
  have L_40 : ∀ (fu : Nat) (p : Nat) (x7 : Int32) (A1 : Nat → jF) (hfu : 202 + p0 ≤ p + fu) (hpp : p0 ≤ p) (hpz : p = p0 ∨ (p : Int) ≤ v_28.toInt + 1) (hp31 : p < 2 ^ 31) (h7 : x7 = nI p) (hA0 : A1 0 = A 0) (hA1 : ∀ q, q ≤ 200 → A1 1 q = if p0 ≤ q ∧ q < p then jmax (A 1 q) (endL L) else A 1 q), J g (jRm 2 40 0 0) E 8 40 [(0, .ref (d 0)), (5, .int v_28), (6, .int v_34), (7, .int x7)] [] [rc g d A1, lb c L] (0) (0) := by
    intro fu
    induction fu with
    | zero => intro p x7 A1 hfu hpp hpz hp31 h7 hA0 hA1; exact absurd hfu (by omega)
    | succ fu ih_40 =>
      intro p x7 A1 hfu hpp hpz hp31 h7 hA0 hA1
      refine j_iload hC dX4_lengthen_40 rfl ?_
      refine j_iload hC dX4_lengthen_42 rfl ?_
      refine j_icmp_gt hC dX4_lengthen_44 (tgt := 80) (by decide) (fun c_44 => ?_) (fun c_44 => ?_)
      · skip
        refine j_vret hC hQ rfl (Nat.le_of_ble_eq_true rfl) (Nat.le_of_ble_eq_true rfl) dX4_lengthen_80 rfl ?_
        (refine ⟨rfl, A1, rfl, hA0, fun q hq => ?_⟩
         rw [hA1 q hq]
         have hrel := inR_rel (L := L) (q := q) ha hb
         rw [← h1, ← h2] at hrel
         have hgt := jgt h7 (by omega) c_44
         have h13 : (p0 : Int) = (jmax x1 (L 0 - widthOf (L 3))).toInt := by rw [hp0']; exact congrArg Int32.toInt e_13
         have h28 : v_28.toInt = (jmin x2 (L 0 + widthOf (L 3))).toInt := congrArg Int32.toInt e_28
         by_cases hc : p0 ≤ q ∧ q < p
         · rw [if_pos hc, if_pos (hrel.mp ⟨by omega, by omega⟩)]
         · rw [if_neg hc, if_neg (fun z => hc (by have := hrel.mpr z; omega))])
      · skip
        have hle := jngt h7 (by omega) c_44
        have hp200 : p ≤ 200 := by omega
        have hokp : okPlace x7 := by rw [h7]; exact ⟨by rw [← nI_0, nI_ltI (by omega) (by omega)]; omega, by show ¬ nI 200 < nI p; rw [nI_ltI (by omega) (by omega)]; omega⟩
        have hvp : vp_in x7 201 := by rw [h7]; exact vp_in_nI (by omega) (by decide)
        refine j_iload hC dX4_lengthen_47 rfl ?_
        refine j_callSNR hC [] (c_X6_isPlace g _) mX6_isPlace k506 rfl rfl rfl ⟨(Nat.le_of_ble_eq_true rfl), (Nat.le_of_ble_eq_true rfl)⟩ (Nat.le_of_ble_eq_true rfl) ⟨(Nat.le_of_ble_eq_true rfl), (Nat.le_of_ble_eq_true rfl)⟩ dX4_lengthen_49 ?_
        dsimp only [jrepl, List.set, jstk]
        refine j_if_eq hC dX4_lengthen_52 (tgt := 74) (by decide) (fun c_52 => ?_) (fun c_52 => ?_)
        · exact absurd hokp (jb0 c_52)
        · skip
          refine j_aload_n hC dX4_lengthen_55 rfl rfl ?_
          refine j_get hC uX4 0 0 1 rfl rfl k116 rfl dX4_lengthen_56 ?_
          refine j_iload hC dX4_lengthen_59 rfl ?_
          refine j_aload_n hC dX4_lengthen_61 rfl rfl ?_
          refine j_get hC uX4 0 0 1 rfl rfl k116 rfl dX4_lengthen_62 ?_
          refine j_iload hC dX4_lengthen_65 rfl ?_
          refine j_iald hC 0 2 rfl (by assumption) dX4_lengthen_67 ?_
          refine j_iload hC dX4_lengthen_68 rfl ?_
          refine j_max hC k195 k196 k12 k197 (Nat.le_of_ble_eq_true rfl) (Nat.le_of_ble_eq_true rfl) (Nat.le_of_ble_eq_true rfl) (Nat.le_of_ble_eq_true rfl) dX4_lengthen_70 ?_
          refine j_ast_4_1 (bi := 0) hC rfl (by assumption) dX4_lengthen_73 ?_
          dsimp only [List.set]
          refine j_iinc hC (1) dX4_lengthen_74 rfl rfl rfl rfl rfl (fun v_74 e_74 => ?_)
          refine j_goto hC dX4_lengthen_77 (tgt := 40) (by decide) ?_
          obtain ⟨p0, hp031, hp0, hp0'⟩ := jnat_of (x := v_13) (by have : v_13.toInt = (jmax x1 (L 0 - widthOf (L 3))).toInt := congrArg Int32.toInt e_13; rw [this, jmax_toInt, h1, nI_toInt (by omega)]; omega)
          have hz200 : v_28.toInt ≤ 200 := by have : v_28.toInt = (jmin x2 (L 0 + widthOf (L 3))).toInt := congrArg Int32.toInt e_28; rw [jmin_toInt, h2, nI_toInt (by omega)] at this; omega
          refine j_pick [0, 5, 6, 7] ?_
          rw [h7, nI_cl (j := p) (by omega)]
          exact ih_40 (p + 1) _ _ (by omega) (by omega) (Or.inr (by omega)) (by omega) (by rw [e_74, h7]; exact nI_1 p) hA0 (fun q hq => lenStep hpp hA1 hq e_34)
  refine j_pick [0, 5, 6, 7] ?_
  exact L_40 (202) p0 _ A (by omega) (Nat.le_refl _) (Or.inl rfl) hp031 (e_38.trans hp0) rfl (fun q hq => by rw [if_neg (by omega)])
theorem zStep0 {A1 : Nat → jF} {p : Nat} (h : ∀ q, q < p → A1 0 q = 0) : ∀ q, q < p + 1 → va_up A1 0 (upd (A1 0) p 0) 0 q = 0 := by
  intro q h2
  show (if q = p then (0 : Int32) else A1 0 q) = 0
  by_cases hqp : q = p
  · rw [if_pos hqp]
  · rw [if_neg hqp]; exact h q (by omega)
theorem orStep {A A1 : Nat → jF} {p0 p q : Nat} {v : Int32} (hpp : p0 ≤ p) (h : ∀ q, q ≤ 200 → A1 0 q = if p0 ≤ q ∧ q < p then A 0 q ||| v else A 0 q) (hq : q ≤ 200) : va_up A1 0 (upd (A1 0) p (A1 0 p ||| v)) 0 q = if p0 ≤ q ∧ q < p + 1 then A 0 q ||| v else A 0 q := by
  show (if q = p then A1 0 p ||| v else A1 0 q) = _
  by_cases hqp : q = p
  · subst hqp
    have h1 := h q hq
    rw [if_neg (by omega)] at h1
    rw [if_pos rfl, h1, if_pos (show p0 ≤ q ∧ q < q + 1 by omega)]
  · rw [if_neg hqp, h q hq]
    by_cases hc : p0 ≤ q ∧ q < p
    · rw [if_pos hc, if_pos (by omega)]
    · rw [if_neg hc, if_neg (by omega)]
theorem lookFin {A3 A2b : Nat → jF} {X : List (Nat × jF)} {need x2 z : Int32} {i p0 u : Nat} (hC0 : ∀ q, q ≤ 200 → A3 0 q = if p0 ≤ q ∧ q < u then A2b 0 q ||| (1 <<< (x2 &&& 31)) else A2b 0 q) (hB0 : ∀ q, q ≤ 200 → A2b 0 q = jiter (lookStep need X q) 0 i) (h2 : x2 = nI i) (c : ¬ endL (jL X i) < need)
    (hp0 : (p0 : Int) = (fstR (jL X i)).toInt) (hz : z.toInt = (lstR (jL X i)).toInt) (huz : u = p0 ∨ (u : Int) ≤ z.toInt + 1) (hgt : z.toInt < (u : Int)) : ∀ q, q ≤ 200 → A3 0 q = jiter (lookStep need X q) 0 (i + 1) := by
  intro q hq
  show _ = lookStep need X q i (jiter (lookStep need X q) 0 i)
  rw [hC0 q hq, ← hB0 q hq, h2]
  unfold lookStep
  by_cases hc : p0 ≤ q ∧ q < u
  · rw [if_pos hc, if_pos ⟨c, by omega⟩]
  · rw [if_neg hc, if_neg (fun w => hc (by have := w.2; omega))]
set_option maxHeartbeats 1000000 in
set_option maxRecDepth 100000 in
theorem c_X4_look (g : jG) (d : Nat → Nat) (A : Nat → jF) (d2 : Nat → Nat) (I2 : jF) (A2 : Nat → jF) (X : List (Nat × jF)) (k : Nat) (h : bok I2 X k) : Con g yX4_look cX4_look 7 none 2 40 0 0 [.ref (d 0), .ref (d2 0)] [rc g d A, bc g d2 I2 A2 (lrf X), lts X] (fun r b1 => r = none ∧ ∃ A1 : Nat → jF, b1 = [rc g d A1, bc g d2 I2 A2 (lrf X), lts X] ∧ A1 1 = A 1 ∧ ∀ q, q ≤ 200 → A1 0 q = lookN (I2 5) X k q) := by
  refine Con.of (own := RX4) (lv := [(0, .ref (d 0)), (1, .ref (d2 0))]) (by decide) rfl (Nat.le_of_ble_eq_true rfl) rfl ?_
  intro E hC hQ hN
  obtain ⟨hk1, hk2, hk3⟩ := id h
  refine j_iconst hC (0) dX4_look_0 (by decide) ?_
  refine j_istore_n hC dX4_look_1 rfl rfl rfl rfl (fun v_1 e_1 => ?_)
  have L_2 : ∀ (fu : Nat) (p : Nat) (x2 : Int32) (A1 : Nat → jF) (hfu : 202 ≤ p + fu) (hp : p ≤ 201) (h2 : x2 = nI p) (hA1 : A1 1 = A 1) (hA0 : ∀ q, q < p → A1 0 q = 0), J g (jRm 2 40 0 0) E 7 2 [(0, .ref (d 0)), (1, .ref (d2 0)), (2, .int x2)] [] [rc g d A1, bc g d2 I2 A2 (lrf X), lts X] (0) (0) := by
    intro fu
    induction fu with
    | zero => intro p x2 A1 hfu hp h2 hA1 hA0; exact absurd hfu (by omega)
    | succ fu ih_2 =>
      intro p x2 A1 hfu hp h2 hA1 hA0
      refine j_iload_n hC dX4_look_2 rfl rfl ?_
      refine j_sipush hC (200) dX4_look_3 (by decide) ?_
      refine j_icmp_gt hC dX4_look_6 (tgt := 22) (by decide) (fun c_6 => ?_) (fun c_6 => ?_)
      · skip
        have hp201 : 201 ≤ p := by have := jgt h2 (by omega) c_6; rw [jlit200] at this; omega
        refine j_iconst hC (0) dX4_look_22 (by decide) ?_
        refine j_istore_n hC dX4_look_23 rfl rfl rfl rfl (fun v_23 e_23 => ?_)
        have L_24 : ∀ (fu : Nat) (i : Nat) (x2 : Int32) (A2b : Nat → jF) (hfu : k + 1 ≤ i + fu) (hi : i ≤ k) (h2i : x2 = nI i) (hB1 : A2b 1 = A 1) (hB0 : ∀ q, q ≤ 200 → A2b 0 q = jiter (lookStep (I2 5) X q) 0 i), J g (jRm 2 40 0 0) E 7 24 [(0, .ref (d 0)), (1, .ref (d2 0)), (2, .int x2)] [] [rc g d A2b, bc g d2 I2 A2 (lrf X), lts X] (0) (0) := by
          intro fu
          induction fu with
          | zero => intro i x2 A2b hfu hi h2i hB1 hB0; exact absurd hfu (by omega)
          | succ fu ih_24 =>
            intro i x2 A2b hfu hi h2i hB1 hB0
            refine j_iload_n hC dX4_look_24 rfl rfl ?_
            refine j_aload_n hC dX4_look_25 rfl rfl ?_
            refine j_get hC uX0 1 0 1 rfl rfl k50 rfl dX4_look_26 ?_
            refine j_icmp_ge hC dX4_look_29 (tgt := 121) (by decide) (fun c_29 => ?_) (fun c_29 => ?_)
            · skip
              have hik : i = k := Nat.le_antisymm hi (jge hk1 h2i (by omega) (by omega) c_29)
              refine j_vret hC hQ rfl (Nat.le_of_ble_eq_true rfl) (Nat.le_of_ble_eq_true rfl) dX4_look_121 rfl ?_
              exact ⟨rfl, A2b, rfl, hB1, fun q hq => by rw [hB0 q hq, hik]; rfl⟩
            · skip
              have hik : i < k := jlt hk1 h2i (by omega) (by omega) c_29
              refine j_aload_n hC dX4_look_32 rfl rfl ?_
              refine j_iload_n hC dX4_look_33 rfl rfl ?_
              refine j_callVR hC [1] (c_X0_find_in g _ _ _ _ _ _ _ h hik h2i) mX0_find k177 rfl rfl rfl rfl rfl ⟨(Nat.le_of_ble_eq_true rfl), (Nat.le_of_ble_eq_true rfl)⟩ (Nat.le_of_ble_eq_true rfl) ⟨(Nat.le_of_ble_eq_true rfl), (Nat.le_of_ble_eq_true rfl)⟩ dX4_look_34 ?_
              dsimp only [jrepl, List.set, jstk]
              refine j_focus i 2 (jX_get (X := X) (by omega)) rfl ?_
              dsimp only [List.set, List.cons_append, List.nil_append]
              refine j_astore_n hC dX4_look_37 rfl rfl rfl rfl ?_
              refine j_aload_n hC dX4_look_38 rfl rfl ?_
              refine j_ifnull hC dX4_look_39 ?_
              refine j_aload_n hC dX4_look_42 rfl rfl ?_
              refine j_callVR hC [3] (c_X2_endurance g _ _) mX2_endurance k181 rfl rfl rfl rfl rfl ⟨(Nat.le_of_ble_eq_true rfl), (Nat.le_of_ble_eq_true rfl)⟩ (Nat.le_of_ble_eq_true rfl) ⟨(Nat.le_of_ble_eq_true rfl), (Nat.le_of_ble_eq_true rfl)⟩ dX4_look_43 ?_
              dsimp only [jrepl, List.set, jstk]
              refine j_aload_n hC dX4_look_46 rfl rfl ?_
              refine j_get hC uX0 1 0 5 rfl rfl k59 rfl dX4_look_47 ?_
              refine j_icmp_lt hC dX4_look_50 (tgt := 115) (by decide) (fun c_50 => ?_) (fun c_50 => ?_)
              · skip
                refine j_iinc hC (1) dX4_look_115 rfl rfl rfl rfl rfl (fun v_115 e_115 => ?_)
                refine j_goto hC dX4_look_118 (tgt := 24) (by decide) ?_
                refine j_pick [0, 1, 2] ?_
                refine j_unfocus i 2 (jX_get (X := X) (by omega)) rfl rfl rfl ?_
                dsimp only [List.set, List.dropLast]
                rw [lts_same (jX_get (by omega))]
                try have hgt := jgt h6 (by omega) c_93
                try have lookOut : ∀ q, q ≤ 200 → A3 0 q = jiter (lookStep (I2 5) X q) 0 (i + 1) := lookFin hC0 hB0 h2i c_50 (by omega) (by omega) huz hgt
                exact ih_24 (i + 1) _ _ (by omega) (by omega) (jsucc e_115 h2i) (by first | exact hC1 | exact hB1) (fun q hq => by first | exact lookOut q hq | exact (hB0 q hq).trans (if_neg (fun z => z.1 c_50)).symm)
              · skip
                refine j_iconst hC (0) dX4_look_53 (by decide) ?_
                refine j_aload_n hC dX4_look_54 rfl rfl ?_
                refine j_get hC uX2 3 0 0 rfl rfl k254 rfl dX4_look_55 ?_
                refine j_aload_n hC dX4_look_58 rfl rfl ?_
                refine j_callVR hC [3] (c_X2_width g _ _) mX2_width k188 rfl rfl rfl rfl rfl ⟨(Nat.le_of_ble_eq_true rfl), (Nat.le_of_ble_eq_true rfl)⟩ (Nat.le_of_ble_eq_true rfl) ⟨(Nat.le_of_ble_eq_true rfl), (Nat.le_of_ble_eq_true rfl)⟩ dX4_look_59 ?_
                dsimp only [jrepl, List.set, jstk]
                refine j_isub hC dX4_look_62 ?_
                refine j_max hC k195 k196 k12 k197 (Nat.le_of_ble_eq_true rfl) (Nat.le_of_ble_eq_true rfl) (Nat.le_of_ble_eq_true rfl) (Nat.le_of_ble_eq_true rfl) dX4_look_63 ?_
                refine j_istore hC dX4_look_66 rfl rfl rfl (fun v_66 e_66 => ?_)
                refine j_sipush hC (200) dX4_look_68 (by decide) ?_
                refine j_aload_n hC dX4_look_71 rfl rfl ?_
                refine j_get hC uX2 3 0 0 rfl rfl k254 rfl dX4_look_72 ?_
                refine j_aload_n hC dX4_look_75 rfl rfl ?_
                refine j_callVR hC [3] (c_X2_width g _ _) mX2_width k188 rfl rfl rfl rfl rfl ⟨(Nat.le_of_ble_eq_true rfl), (Nat.le_of_ble_eq_true rfl)⟩ (Nat.le_of_ble_eq_true rfl) ⟨(Nat.le_of_ble_eq_true rfl), (Nat.le_of_ble_eq_true rfl)⟩ dX4_look_76 ?_
                dsimp only [jrepl, List.set, jstk]
                refine j_iadd hC dX4_look_79 ?_
                refine j_min hC k198 k186 k12 k187 (Nat.le_of_ble_eq_true rfl) (Nat.le_of_ble_eq_true rfl) (Nat.le_of_ble_eq_true rfl) (Nat.le_of_ble_eq_true rfl) dX4_look_80 ?_
                refine j_istore hC dX4_look_83 rfl rfl rfl (fun v_83 e_83 => ?_)
                refine j_iload hC dX4_look_85 rfl ?_
                refine j_istore hC dX4_look_87 rfl rfl rfl (fun v_87 e_87 => ?_)
                have e66 : v_66.toInt = (fstR (jL X i)).toInt := congrArg Int32.toInt e_66
                have e83 : v_83.toInt = (lstR (jL X i)).toInt := congrArg Int32.toInt e_83
                obtain ⟨p0, hp031, hp0, hp0'⟩ := jnat_of (x := v_66) (by rw [e66, jmax_toInt, jlit0]; omega)
                have hz200 : v_83.toInt ≤ 200 := by rw [e83, jmin_toInt, jlit200]; omega
                have L_89 : ∀ (fu : Nat) (u : Nat) (x6 : Int32) (A3 : Nat → jF) (hfu : 202 + p0 ≤ u + fu) (hu : p0 ≤ u) (hu31 : u < 2 ^ 31) (huz : u = p0 ∨ (u : Int) ≤ v_83.toInt + 1) (h6 : x6 = nI u) (hC1 : A3 1 = A 1) (hC0 : ∀ q, q ≤ 200 → A3 0 q = if p0 ≤ q ∧ q < u then A2b 0 q ||| (1 <<< (x2 &&& 31)) else A2b 0 q), J g (jRm 2 40 0 0) E 7 89 [(0, .ref (d 0)), (1, .ref (d2 0)), (2, .int x2), (5, .int v_83), (6, .int x6)] [] [rc g d A3, bc g d2 I2 A2 (lrf X), lts (X.eraseIdx i), lb (jAd X i) (jL X i)] (0) (0) := by
                  intro fu
                  induction fu with
                  | zero => intro u x6 A3 hfu hu hu31 huz h6 hC1 hC0; exact absurd hfu (by omega)
                  | succ fu ih_89 =>
                    intro u x6 A3 hfu hu hu31 huz h6 hC1 hC0
                    refine j_iload hC dX4_look_89 rfl ?_
                    refine j_iload hC dX4_look_91 rfl ?_
                    refine j_icmp_gt hC dX4_look_93 (tgt := 115) (by decide) (fun c_93 => ?_) (fun c_93 => ?_)
                    · skip
                      refine j_iinc hC (1) dX4_look_115 rfl rfl rfl rfl rfl (fun v_115 e_115 => ?_)
                      refine j_goto hC dX4_look_118 (tgt := 24) (by decide) ?_
                      refine j_pick [0, 1, 2] ?_
                      refine j_unfocus i 2 (jX_get (X := X) (by omega)) rfl rfl rfl ?_
                      dsimp only [List.set, List.dropLast]
                      rw [lts_same (jX_get (by omega))]
                      try have hgt := jgt h6 (by omega) c_93
                      try have lookOut : ∀ q, q ≤ 200 → A3 0 q = jiter (lookStep (I2 5) X q) 0 (i + 1) := lookFin hC0 hB0 h2i c_50 (by omega) (by omega) huz hgt
                      exact ih_24 (i + 1) _ _ (by omega) (by omega) (jsucc e_115 h2i) (by first | exact hC1 | exact hB1) (fun q hq => by first | exact lookOut q hq | exact (hB0 q hq).trans (if_neg (fun z => z.1 c_50)).symm)
                    · skip
                      have hle := jngt h6 (by omega) c_93
                      have hu200 : u ≤ 200 := by omega
                      have hvu : vp_in x6 201 := by rw [h6]; exact vp_in_nI (by omega) (by decide)
                      refine j_aload_n hC dX4_look_96 rfl rfl ?_
                      refine j_get hC uX4 0 0 0 rfl rfl k115 rfl dX4_look_97 ?_
                      refine j_iload hC dX4_look_100 rfl ?_
                      refine j_dup2 hC dX4_look_102 rfl rfl ?_
                      refine j_iald hC 0 1 rfl hvu dX4_look_103 ?_
                      refine j_iconst hC (1) dX4_look_104 (by decide) ?_
                      refine j_iload_n hC dX4_look_105 rfl rfl ?_
                      refine j_ishl hC dX4_look_106 ?_
                      refine j_ior hC dX4_look_107 ?_
                      refine j_ast_4_0 (bi := 0) hC rfl hvu dX4_look_108 ?_
                      dsimp only [List.set]
                      refine j_iinc hC (1) dX4_look_109 rfl rfl rfl rfl rfl (fun v_109 e_109 => ?_)
                      refine j_goto hC dX4_look_112 (tgt := 89) (by decide) ?_
                      have e66 : v_66.toInt = (fstR (jL X i)).toInt := congrArg Int32.toInt e_66
                      have e83 : v_83.toInt = (lstR (jL X i)).toInt := congrArg Int32.toInt e_83
                      obtain ⟨p0, hp031, hp0, hp0'⟩ := jnat_of (x := v_66) (by rw [e66, jmax_toInt, jlit0]; omega)
                      have hz200 : v_83.toInt ≤ 200 := by rw [e83, jmin_toInt, jlit200]; omega
                      refine j_pick [0, 1, 2, 5, 6] ?_
                      rw [h6, nI_cl (j := u) (by omega)]
                      exact ih_89 (u + 1) _ _ (by omega) (by omega) (by omega) (Or.inr (by omega)) (by rw [e_109, h6]; exact nI_1 u) hC1 (fun q hq => orStep hu hC0 hq)
                refine j_pick [0, 1, 2, 5, 6] ?_
                exact L_89 (202) p0 _ _ (by omega) (Nat.le_refl _) hp031 (Or.inl rfl) (e_87.trans hp0) hB1 (fun q hq => by rw [if_neg (by omega)])
        refine j_pick [0, 1, 2] ?_
        exact L_24 (k + 1) 0 _ _ (by omega) (by omega) (e_23.trans nI_0.symm) hA1 (fun q hq => hA0 q (by omega))
      · skip
        have hp200 : p ≤ 200 := by have := jngt h2 (by omega) c_6; rw [jlit200] at this; omega
        refine j_aload_n hC dX4_look_9 rfl rfl ?_
        refine j_get hC uX4 0 0 0 rfl rfl k115 rfl dX4_look_10 ?_
        refine j_iload_n hC dX4_look_13 rfl rfl ?_
        refine j_iconst hC (0) dX4_look_14 (by decide) ?_
        refine j_ast_4_0 (bi := 0) hC rfl (by rw [h2]; exact vp_in_nI (by omega) (by decide)) dX4_look_15 ?_
        dsimp only [List.set]
        refine j_iinc hC (1) dX4_look_16 rfl rfl rfl rfl rfl (fun v_16 e_16 => ?_)
        refine j_goto hC dX4_look_19 (tgt := 2) (by decide) ?_
        refine j_pick [0, 1, 2] ?_
        rw [h2, nI_cl (j := p) (by omega)]
        exact ih_2 (p + 1) _ _ (by omega) (by omega) (by rw [e_16, h2]; exact nI_1 p) hA1 (zStep0 hA0)
  refine j_pick [0, 1, 2] ?_
  exact L_2 (202) 0 _ A (by omega) (by omega) (e_1.trans nI_0.symm) rfl (fun q hq => absurd hq (by omega))
theorem zStep {A1 : Nat → jF} {a p : Nat} (h : ∀ q, a ≤ q → q < p → A1 1 q = 0) : ∀ q, a ≤ q → q < p + 1 → va_up A1 1 (upd (A1 1) p 0) 1 q = 0 := by
  intro q h1 h2
  show (if q = p then (0 : Int32) else A1 1 q) = 0
  by_cases hqp : q = p
  · rw [if_pos hqp]
  · rw [if_neg hqp]; exact h q h1 (by omega)
theorem minFin {A4 A2b : Nat → jF} {X : List (Nat × jF)} {s : Int32} {i a b q : Nat} (hD : ∀ q, q ≤ 200 → A4 1 q = if a ≤ q ∧ q ≤ b ∧ inR (jL X i) q then jmax (A2b 1 q) (endL (jL X i)) else A2b 1 q) (hB : ∀ q, a ≤ q → q ≤ b → A2b 1 q = minG X i s q) (c : (s >>> (nI i &&& 31)) &&& 1 = 1) (h1 : a ≤ q) (h2 : q ≤ b) (hb : b ≤ 200) : A4 1 q = minG X (i + 1) s q := by
  show _ = minStep X s q i (minG X i s q)
  rw [hD q (by omega), ← hB q h1 h2]
  unfold minStep
  by_cases hc : inR (jL X i) q
  · rw [if_pos ⟨h1, h2, hc⟩, if_pos ⟨c, hc⟩]
  · rw [if_neg (fun w => hc w.2.2), if_neg (fun w => hc w.2)]
theorem minSkip {A2b : Nat → jF} {X : List (Nat × jF)} {s : Int32} {i a b q : Nat} (hB : ∀ q, a ≤ q → q ≤ b → A2b 1 q = minG X i s q) (c : ¬ (s >>> (nI i &&& 31)) &&& 1 = 1) (h1 : a ≤ q) (h2 : q ≤ b) : A2b 1 q = minG X (i + 1) s q := by
  show _ = minStep X s q i (minG X i s q)
  rw [← hB q h1 h2]
  unfold minStep
  rw [if_neg (fun w => c w.1)]
set_option maxHeartbeats 1000000 in
set_option maxRecDepth 100000 in
theorem c_X4_minutes (g : jG) (d : Nat → Nat) (A : Nat → jF) (d2 : Nat → Nat) (I2 : jF) (A2 : Nat → jF) (X : List (Nat × jF)) (k : Nat) (a b : Nat) (x s : Int32) (h : bok I2 X k) (hf : firstP I2 A2 x = nI a) (ht : lastP I2 A2 x = nI b) (hab : a ≤ b) (hb : b ≤ 200) : Con g yX4_minutes cX4_minutes 8 (some .int) 3 67 0 0 [.ref (d 0), .ref (d2 0), .int x, .int s] [rc g d A, bc g d2 I2 A2 (lrf X), lts X] (fun r b1 => ∃ A1 : Nat → jF, r = some (.int (minN X k s a b)) ∧ b1 = [rc g d A1, bc g d2 I2 A2 (lrf X), lts X] ∧ A1 0 = A 0) := by
  refine Con.of (own := RX4) (lv := [(0, .ref (d 0)), (1, .ref (d2 0)), (2, .int x), (3, .int s)]) (by decide) rfl (Nat.le_of_ble_eq_true rfl) rfl ?_
  intro E hC hQ hN
  obtain ⟨hk1, hk2, hk3⟩ := id h
  refine j_iconst hC (0) dX4_minutes_0 (by decide) ?_
  refine j_aload_n hC dX4_minutes_1 rfl rfl ?_
  refine j_iload_n hC dX4_minutes_2 rfl rfl ?_
  refine j_callVR hC [1] (c_X0_firstPlace g _ _ _ _ _) mX0_firstPlace k500 rfl rfl rfl rfl rfl ⟨(Nat.le_of_ble_eq_true rfl), (Nat.le_of_ble_eq_true rfl)⟩ (Nat.le_of_ble_eq_true rfl) ⟨(Nat.le_of_ble_eq_true rfl), (Nat.le_of_ble_eq_true rfl)⟩ dX4_minutes_3 ?_
  dsimp only [jrepl, List.set, jstk]
  refine j_max hC k195 k196 k12 k197 (Nat.le_of_ble_eq_true rfl) (Nat.le_of_ble_eq_true rfl) (Nat.le_of_ble_eq_true rfl) (Nat.le_of_ble_eq_true rfl) dX4_minutes_6 ?_
  refine j_istore hC dX4_minutes_9 rfl rfl rfl (fun v_9 e_9 => ?_)
  refine j_sipush hC (200) dX4_minutes_11 (by decide) ?_
  refine j_aload_n hC dX4_minutes_14 rfl rfl ?_
  refine j_iload_n hC dX4_minutes_15 rfl rfl ?_
  refine j_callVR hC [1] (c_X0_lastPlace g _ _ _ _ _) mX0_lastPlace k501 rfl rfl rfl rfl rfl ⟨(Nat.le_of_ble_eq_true rfl), (Nat.le_of_ble_eq_true rfl)⟩ (Nat.le_of_ble_eq_true rfl) ⟨(Nat.le_of_ble_eq_true rfl), (Nat.le_of_ble_eq_true rfl)⟩ dX4_minutes_16 ?_
  dsimp only [jrepl, List.set, jstk]
  refine j_min hC k198 k186 k12 k187 (Nat.le_of_ble_eq_true rfl) (Nat.le_of_ble_eq_true rfl) (Nat.le_of_ble_eq_true rfl) (Nat.le_of_ble_eq_true rfl) dX4_minutes_19 ?_
  refine j_istore hC dX4_minutes_22 rfl rfl rfl (fun v_22 e_22 => ?_)
  have e9 : v_9 = nI a := by rw [e_9, hf]; exact jmax0 (by omega)
  have e22 : v_22 = nI b := by rw [e_22, ht]; exact jmin200 hb
  have e22i : v_22.toInt = b := by rw [e22, nI_toInt (by omega)]
  refine j_iload hC dX4_minutes_24 rfl ?_
  refine j_iload hC dX4_minutes_26 rfl ?_
  refine j_icmp_le hC dX4_minutes_28 (tgt := 33) (by decide) (fun c_28 => ?_) (fun c_28 => ?_)
  · skip
    refine j_iload hC dX4_minutes_33 rfl ?_
    refine j_istore hC dX4_minutes_35 rfl rfl rfl (fun v_35 e_35 => ?_)
    have L_37 : ∀ (fu : Nat) (p : Nat) (x6 : Int32) (A1 : Nat → jF) (hfu : b + 2 ≤ p + fu) (hp : p ≤ b + 1) (hap : a ≤ p) (h6 : x6 = nI p) (hA1 : A1 0 = A 0) (hA0 : ∀ q, a ≤ q → q < p → A1 1 q = 0), J g (jRm 3 67 0 0) E 8 37 [(0, .ref (d 0)), (1, .ref (d2 0)), (3, .int s), (4, .int v_9), (5, .int v_22), (6, .int x6)] [] [rc g d A1, bc g d2 I2 A2 (lrf X), lts X] (0) (0) := by
      intro fu
      induction fu with
      | zero => intro p x6 A1 hfu hp hap h6 hA1 hA0; exact absurd hfu (by omega)
      | succ fu ih_37 =>
        intro p x6 A1 hfu hp hap h6 hA1 hA0
        refine j_iload hC dX4_minutes_37 rfl ?_
        refine j_iload hC dX4_minutes_39 rfl ?_
        refine j_icmp_gt hC dX4_minutes_41 (tgt := 58) (by decide) (fun c_41 => ?_) (fun c_41 => ?_)
        · skip
          have hpb := jgt h6 (by omega) c_41
          refine j_iconst hC (0) dX4_minutes_58 (by decide) ?_
          refine j_istore hC dX4_minutes_59 rfl rfl rfl (fun v_59 e_59 => ?_)
          have L_61 : ∀ (fu : Nat) (i : Nat) (x6i : Int32) (A2b : Nat → jF) (hfu : k + 1 ≤ i + fu) (hi : i ≤ k) (h6i : x6i = nI i) (hB1 : A2b 0 = A 0) (hB0 : ∀ q, a ≤ q → q ≤ b → A2b 1 q = minG X i s q), J g (jRm 3 67 0 0) E 8 61 [(0, .ref (d 0)), (1, .ref (d2 0)), (3, .int s), (4, .int v_9), (5, .int v_22), (6, .int x6i)] [] [rc g d A2b, bc g d2 I2 A2 (lrf X), lts X] (0) (0) := by
            intro fu
            induction fu with
            | zero => intro i x6i A2b hfu hi h6i hB1 hB0; exact absurd hfu (by omega)
            | succ fu ih_61 =>
              intro i x6i A2b hfu hi h6i hB1 hB0
              refine j_iload hC dX4_minutes_61 rfl ?_
              refine j_aload_n hC dX4_minutes_63 rfl rfl ?_
              refine j_get hC uX0 1 0 1 rfl rfl k50 rfl dX4_minutes_64 ?_
              refine j_icmp_ge hC dX4_minutes_67 (tgt := 109) (by decide) (fun c_67 => ?_) (fun c_67 => ?_)
              · skip
                have hik : i = k := Nat.le_antisymm hi (jge hk1 h6i (by omega) (by omega) c_67)
                rw [hik] at hB0
                refine j_aload_n hC dX4_minutes_109 rfl rfl ?_
                refine j_get hC uX4 0 0 1 rfl rfl k116 rfl dX4_minutes_110 ?_
                refine j_iload hC dX4_minutes_113 rfl ?_
                refine j_iald hC 0 2 rfl (by rw [e9]; exact vp_in_nI (by omega) (by decide)) dX4_minutes_115 ?_
                refine j_istore hC dX4_minutes_116 rfl rfl rfl (fun v_116 e_116 => ?_)
                refine j_iload hC dX4_minutes_118 rfl ?_
                refine j_iconst hC (1) dX4_minutes_120 (by decide) ?_
                refine j_iadd hC dX4_minutes_121 ?_
                refine j_istore hC dX4_minutes_122 rfl rfl rfl (fun v_122 e_122 => ?_)
                have L_124 : ∀ (fu : Nat) (t : Nat) (x6m x7 : Int32) (hfu : b + 2 ≤ a + t + fu) (htt : a + t ≤ b) (h6m : x6m = jiter (fun t m => jmin m (minG X k s (a + 1 + t))) (minG X k s a) t) (h7 : x7 = nI (a + 1 + t)), J g (jRm 3 67 0 0) E 8 124 [(0, .ref (d 0)), (5, .int v_22), (6, .int x6m), (7, .int x7)] [] [rc g d A2b, bc g d2 I2 A2 (lrf X), lts X] (0) (0) := by
                  intro fu
                  induction fu with
                  | zero => intro t x6m x7 hfu htt h6m h7; exact absurd hfu (by omega)
                  | succ fu ih_124 =>
                    intro t x6m x7 hfu htt h6m h7
                    refine j_iload hC dX4_minutes_124 rfl ?_
                    refine j_iload hC dX4_minutes_126 rfl ?_
                    refine j_icmp_gt hC dX4_minutes_128 (tgt := 151) (by decide) (fun c_128 => ?_) (fun c_128 => ?_)
                    · skip
                      have htb := jgt h7 (by omega) c_128
                      refine j_iload hC dX4_minutes_151 rfl ?_
                      refine j_iret hC hQ rfl rfl (Nat.le_of_ble_eq_true rfl) (Nat.le_of_ble_eq_true rfl) dX4_minutes_153 rfl ?_
                      exact ⟨A2b, by rw [h6m, show t = b - a by omega]; rfl, rfl, hB1⟩
                    · skip
                      have htb := jngt h7 (by omega) c_128
                      refine j_iload hC dX4_minutes_131 rfl ?_
                      refine j_aload_n hC dX4_minutes_133 rfl rfl ?_
                      refine j_get hC uX4 0 0 1 rfl rfl k116 rfl dX4_minutes_134 ?_
                      refine j_iload hC dX4_minutes_137 rfl ?_
                      refine j_iald hC 0 2 rfl (by rw [h7]; exact vp_in_nI (by omega) (by decide)) dX4_minutes_139 ?_
                      refine j_min hC k198 k186 k12 k187 (Nat.le_of_ble_eq_true rfl) (Nat.le_of_ble_eq_true rfl) (Nat.le_of_ble_eq_true rfl) (Nat.le_of_ble_eq_true rfl) dX4_minutes_140 ?_
                      refine j_istore hC dX4_minutes_143 rfl rfl rfl (fun v_143 e_143 => ?_)
                      refine j_iinc hC (1) dX4_minutes_145 rfl rfl rfl rfl rfl (fun v_145 e_145 => ?_)
                      refine j_goto hC dX4_minutes_148 (tgt := 124) (by decide) ?_
                      refine j_pick [0, 5, 6, 7] ?_
                      exact ih_124 (t + 1) _ _ (by omega) (by omega) (by rw [e_143, h7, nI_cl (by omega), hB0 _ (by omega) (by omega), h6m]; rfl) (by rw [e_145, h7]; exact nI_1 _)
                refine j_pick [0, 5, 6, 7] ?_
                exact L_124 (b + 2) 0 _ _ (by omega) (by omega) (by rw [e_116, e9, nI_cl (by omega)]; exact hB0 a (by omega) (by omega)) (by rw [e_122, e9]; exact nI_1 a)
              · skip
                have hik : i < k := jlt hk1 h6i (by omega) (by omega) c_67
                refine j_aload_n hC dX4_minutes_70 rfl rfl ?_
                refine j_iload hC dX4_minutes_71 rfl ?_
                refine j_callVR hC [1] (c_X0_find_in g _ _ _ _ _ _ _ h hik h6i) mX0_find k177 rfl rfl rfl rfl rfl ⟨(Nat.le_of_ble_eq_true rfl), (Nat.le_of_ble_eq_true rfl)⟩ (Nat.le_of_ble_eq_true rfl) ⟨(Nat.le_of_ble_eq_true rfl), (Nat.le_of_ble_eq_true rfl)⟩ dX4_minutes_73 ?_
                dsimp only [jrepl, List.set, jstk]
                refine j_focus i 2 (jX_get (X := X) (by omega)) rfl ?_
                dsimp only [List.set, List.cons_append, List.nil_append]
                refine j_astore hC dX4_minutes_76 rfl rfl rfl ?_
                refine j_aload hC dX4_minutes_78 rfl ?_
                refine j_ifnull hC dX4_minutes_80 ?_
                refine j_iload_n hC dX4_minutes_83 rfl rfl ?_
                refine j_iload hC dX4_minutes_84 rfl ?_
                refine j_ishr hC dX4_minutes_86 ?_
                refine j_iconst hC (1) dX4_minutes_87 (by decide) ?_
                refine j_iand hC dX4_minutes_88 ?_
                refine j_iconst hC (1) dX4_minutes_89 (by decide) ?_
                refine j_icmp_ne hC dX4_minutes_90 (tgt := 103) (by decide) (fun c_90 => ?_) (fun c_90 => ?_)
                · skip
                  refine j_iinc hC (1) dX4_minutes_103 rfl rfl rfl rfl rfl (fun v_103 e_103 => ?_)
                  refine j_goto hC dX4_minutes_106 (tgt := 61) (by decide) ?_
                  refine j_pick [0, 1, 3, 4, 5, 6] ?_
                  refine j_unfocus i 2 (jX_get (X := X) (by omega)) rfl rfl rfl ?_
                  dsimp only [List.set, List.dropLast]
                  rw [lts_same (jX_get (by omega))]
                  have hcc := c_90
                  rw [h6i] at hcc
                  exact ih_61 (i + 1) _ _ (by omega) (by omega) (jsucc e_103 h6i) (by first | exact hD0.trans hB1 | exact hB1) (fun q h1 h2 => by first | exact minFin hD1 hB0 hcc h1 h2 hb | exact minSkip hB0 hcc h1 h2)
                · skip
                  refine j_aload_n hC dX4_minutes_93 rfl rfl ?_
                  refine j_aload hC dX4_minutes_94 rfl ?_
                  refine j_iload hC dX4_minutes_96 rfl ?_
                  refine j_iload hC dX4_minutes_98 rfl ?_
                  refine j_callV hC [0, 3] (c_X4_lengthen g _ _ _ _ a b _ _ e9 e22 (by omega) hb) mX4_lengthen k502 rfl rfl rfl rfl rfl ⟨(Nat.le_of_ble_eq_true rfl), (Nat.le_of_ble_eq_true rfl)⟩ (Nat.le_of_ble_eq_true rfl) ⟨(Nat.le_of_ble_eq_true rfl), (Nat.le_of_ble_eq_true rfl)⟩ dX4_minutes_100 (fun r_100 b_100 hp_100 _ => ?_)
                  obtain ⟨rfl, A4, rfl, hD0, hD1⟩ := hp_100
                  dsimp only [jrepl, List.set, jstk]
                  refine j_iinc hC (1) dX4_minutes_103 rfl rfl rfl rfl rfl (fun v_103 e_103 => ?_)
                  refine j_goto hC dX4_minutes_106 (tgt := 61) (by decide) ?_
                  refine j_pick [0, 1, 3, 4, 5, 6] ?_
                  refine j_unfocus i 2 (jX_get (X := X) (by omega)) rfl rfl rfl ?_
                  dsimp only [List.set, List.dropLast]
                  rw [lts_same (jX_get (by omega))]
                  have hcc := c_90
                  rw [h6i] at hcc
                  exact ih_61 (i + 1) _ _ (by omega) (by omega) (jsucc e_103 h6i) (by first | exact hD0.trans hB1 | exact hB1) (fun q h1 h2 => by first | exact minFin hD1 hB0 hcc h1 h2 hb | exact minSkip hB0 hcc h1 h2)
          refine j_pick [0, 1, 3, 4, 5, 6] ?_
          exact L_61 (k + 1) 0 _ _ (by omega) (by omega) (e_59.trans nI_0.symm) hA1 (fun q h1 h2 => hA0 q h1 (by omega))
        · skip
          have hpb := jngt h6 (by omega) c_41
          refine j_aload_n hC dX4_minutes_44 rfl rfl ?_
          refine j_get hC uX4 0 0 1 rfl rfl k116 rfl dX4_minutes_45 ?_
          refine j_iload hC dX4_minutes_48 rfl ?_
          refine j_iconst hC (0) dX4_minutes_50 (by decide) ?_
          refine j_ast_4_1 (bi := 0) hC rfl (by rw [h6]; exact vp_in_nI (by omega) (by decide)) dX4_minutes_51 ?_
          dsimp only [List.set]
          refine j_iinc hC (1) dX4_minutes_52 rfl rfl rfl rfl rfl (fun v_52 e_52 => ?_)
          refine j_goto hC dX4_minutes_55 (tgt := 37) (by decide) ?_
          refine j_pick [0, 1, 3, 4, 5, 6] ?_
          rw [h6, nI_cl (j := p) (by omega)]
          exact ih_37 (p + 1) _ _ (by omega) (by omega) (by omega) (by rw [e_52, h6]; exact nI_1 p) hA1 (zStep hA0)
    refine j_pick [0, 1, 3, 4, 5, 6] ?_
    exact L_37 (b + 2) a _ A (by omega) (by omega) (by omega) (e_35.trans e9) rfl (fun q h1 h2 => absurd h1 (by omega))
  · exact absurd c_28 (by rw [e9, e22]; exact fun q => q ((nI_leI (by omega) (by omega)).mpr hab))
