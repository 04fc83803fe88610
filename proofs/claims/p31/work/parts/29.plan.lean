/-! the planner -/
theorem nI_and (a b : Nat) : nI a &&& nI b = nI (a &&& b) := by
  apply Int32.toBitVec_inj.mp
  simp [nI, BitVec.ofNat_and]
theorem nI_or (a b : Nat) : nI a ||| nI b = nI (a ||| b) := by
  apply Int32.toBitVec_inj.mp
  simp [nI, BitVec.ofNat_or]
theorem nI_xor (a b : Nat) : nI a ^^^ nI b = nI (a ^^^ b) := by
  apply Int32.toBitVec_inj.mp
  simp [nI, BitVec.ofNat_xor]
def dF (F : jF) (x : Int32) : Int32 := if ¬ x < 0 ∧ ¬ 1023 < x then F x.toNatClampNeg else 0
def fbF (F : jF) (x : Int32) : jF := if ¬ x ≤ 0 ∧ ¬ 1023 < x then upd F x.toNatClampNeg 2 else F
theorem fbF_a {F : jF} {x : Int32} (h : x ≤ 0) : fbF F x = F := if_neg (fun q => q.1 h)
theorem fbF_b {F : jF} {x : Int32} (h : 1023 < x) : fbF F x = F := if_neg (fun q => q.2 h)
theorem fbF_c {F : jF} {x : Int32} (h : ¬ x ≤ 0) (h2 : ¬ 1023 < x) : fbF F x = upd F x.toNatClampNeg 2 := if_pos ⟨h, h2⟩
theorem dF_nat {F : jF} {s : Nat} (h : s < 1024) : dF F (nI s) = F s := by
  unfold dF
  rw [if_pos ⟨by rw [← nI_0, nI_ltI (by omega) (by omega)]; omega, by show ¬ nI 1023 < nI s; rw [nI_ltI (by omega) (by omega)]; omega⟩, nI_cl (by omega)]
def hfP (F : jF) (x : Int32) (i : Nat) : Bool := decide ((x >>> (nI i &&& 31)) &&& 1 = 1 ∧ ¬ dF F (x ^^^ (1 <<< (nI i &&& 31))) ≤ 1)
def hfB (F : jF) (x : Int32) : Bool := (List.range 10).any (hfP F x)
abbrev begB (F : jF) (x y : Int32) : Prop := dF F x = 1 ∧ dF F (y ^^^ x) = dF F y - 1
def faR (F : jF) (fi o : Nat) : Nat → Nat → Int32 → Int32
  | 0, _, m => m
  | fu + 1, w, m => if 0 < w ∧ ¬ m ≤ 2 then faR F fi o fu ((w - 1) &&& o) (if dF F (nI (fi ||| w)) = 1 then jmin m (1 + dF F (nI (o ^^^ w))) else m) else m
theorem faR_0 {F : jF} {fi o fu w : Nat} {m : Int32} (h : ¬ (0 < w ∧ ¬ m ≤ 2)) : faR F fi o fu w m = m := by
  cases fu with
  | zero => rfl
  | succ fu => exact if_neg h
theorem faR_1 {F : jF} {fi o fu w : Nat} {m : Int32} (h : 0 < w ∧ ¬ m ≤ 2) : faR F fi o (fu + 1) w m = faR F fi o fu ((w - 1) &&& o) (if dF F (nI (fi ||| w)) = 1 then jmin m (1 + dF F (nI (o ^^^ w))) else m) := if_pos h
def fsR (F : jF) (fi o l : Nat) : Nat → Nat → Nat → Nat
  | 0, _, m => m
  | fu + 1, w, m => if 0 < w then fsR F fi o l fu ((w - 1) &&& o) (if begB F (nI (fi ||| w)) (nI l) then fi ||| w else m) else m
theorem fsR_0 {F : jF} {fi o l fu m : Nat} : fsR F fi o l fu 0 m = m := by
  cases fu with
  | zero => rfl
  | succ fu => exact if_neg (Nat.lt_irrefl 0)
theorem fsR_1 {F : jF} {fi o l fu w m : Nat} (h : 0 < w) : fsR F fi o l (fu + 1) w m = fsR F fi o l fu ((w - 1) &&& o) (if begB F (nI (fi ||| w)) (nI l) then fi ||| w else m) := if_pos h
def lowb (s : Nat) : Nat := (nI s &&& -(nI s)).toNatClampNeg
theorem lowb_all : ∀ s, s < 1024 → nI s &&& -(nI s) = nI (lowb s) ∧ lowb s ≤ s := by decide +kernel
def faV (F : jF) (s : Nat) : Int32 := faR F (lowb s) (s ^^^ lowb s) 1024 ((s ^^^ lowb s) - 1 &&& (s ^^^ lowb s)) (1 + dF F (nI (s ^^^ lowb s)))
def fsN (F : jF) (l : Nat) : Nat := if begB F (nI (lowb l)) (nI l) then lowb l else fsR F (lowb l) (l ^^^ lowb l) l 1024 (l ^^^ lowb l) l
theorem xor_lt {a b : Nat} (h1 : a < 1024) (h2 : b < 1024) : a ^^^ b < 1024 := Nat.xor_lt_two_pow (n := 10) h1 h2
theorem or_lt {a b : Nat} (h1 : a < 1024) (h2 : b < 1024) : a ||| b < 1024 := Nat.or_lt_two_pow (n := 10) h1 h2
theorem and_le {a b : Nat} : a &&& b ≤ a := Nat.and_le_left
theorem fsR_lt {F : jF} {fi o l : Nat} (hf : fi < 1024) (ho : o < 1024) : ∀ (fu w m : Nat), w < 1024 → m < 1024 → fsR F fi o l fu w m < 1024 := by
  intro fu
  induction fu with
  | zero => intro w m _ hm; exact hm
  | succ fu ih =>
    intro w m hw hm
    by_cases h : 0 < w
    · rw [fsR_1 h]
      refine ih _ _ (Nat.lt_of_le_of_lt and_le (by omega)) ?_
      split
      · exact or_lt hf hw
      · exact hm
    · have e : w = 0 := by omega
      subst e
      rw [fsR_0]; exact hm
theorem fsN_lt {F : jF} {l : Nat} (h : l < 1024) : fsN F l < 1024 := by
  have h1 := (lowb_all l h).2
  unfold fsN
  split
  · omega
  · exact fsR_lt (by omega) (xor_lt h (by omega)) _ _ _ (xor_lt h (by omega)) h
theorem wpred {w o : Nat} (h : 0 < w) : (nI w - 1) &&& nI o = nI ((w - 1) &&& o) := by
  obtain ⟨v, rfl⟩ : ∃ v, w = v + 1 := ⟨w - 1, by omega⟩
  rw [nI_pred, nI_and]
  rfl
theorem wpred0 {o : Nat} : (nI o - 1) &&& nI o = nI ((o - 1) &&& o) := by
  rcases Nat.eq_zero_or_pos o with rfl | h
  · decide
  · exact wpred h
def soV (I : jF) (A : Nat → jF) (x : Int32) : Int32 := if ¬ x < 0 ∧ ¬ I 2 ≤ x ∧ ¬ 10 ≤ x then A 1 x.toNatClampNeg else -9
def doR (I : jF) (A : Nat → jF) (x : Int32) : Nat → Nat → Int32
  | 0, _ => -9
  | fu + 1, t => if I 2 ≤ nI t then -9 else if (soV I A (nI t) >>> (x &&& 31)) &&& 1 = 1 then nI t else doR I A x fu (t + 1)
theorem doR_0 {I : jF} {A : Nat → jF} {x : Int32} {fu t : Nat} (h : I 2 ≤ nI t) : doR I A x fu t = -9 := by
  cases fu with
  | zero => rfl
  | succ fu => exact if_pos h
theorem doR_1 {I : jF} {A : Nat → jF} {x : Int32} {fu t : Nat} (h : ¬ I 2 ≤ nI t) (h2 : (soV I A (nI t) >>> (x &&& 31)) &&& 1 = 1) : doR I A x (fu + 1) t = nI t := (if_neg h).trans (if_pos h2)
theorem doR_2 {I : jF} {A : Nat → jF} {x : Int32} {fu t : Nat} (h : ¬ I 2 ≤ nI t) (h2 : ¬ (soV I A (nI t) >>> (x &&& 31)) &&& 1 = 1) : doR I A x (fu + 1) t = doR I A x fu (t + 1) := (if_neg h).trans (if_neg h2)
set_option maxHeartbeats 1000000 in
set_option maxRecDepth 100000 in
theorem c_X3_forget (g : jG) (d : Nat → Nat) (I : jF) (A : Nat → jF) : Con g yX3_forget cX3_forget 1 none 0 0 0 0 [.ref (d 0)] [pcc g d I A] (jR (none) [pcc g d (upd I 3 0) A]) := by
  refine Con.of (own := RX3) (lv := [(0, .ref (d 0))]) (by decide) rfl (Nat.le_of_ble_eq_true rfl) rfl ?_
  intro E hC hQ hN
  refine j_aload_n hC dX3_forget_0 rfl rfl ?_
  refine j_iconst hC (0) dX3_forget_1 (by decide) ?_
  refine j_put_3_3 (bi := 0) hC rfl k132 (by first | exact Or.inl rfl | exact Or.inr rfl | assumption | (subst_vars; first | exact Or.inl rfl | exact Or.inr rfl | assumption)) dX3_forget_2 ?_
  dsimp only [List.set]
  refine j_vret hC hQ rfl (Nat.le_of_ble_eq_true rfl) (Nat.le_of_ble_eq_true rfl) dX3_forget_5 rfl ⟨?_, ?_⟩
  · first | rfl | (subst_vars; simp [jR, *]; done) | (subst_vars; simp_all [jR]; done)
  · rfl
set_option maxHeartbeats 1000000 in
set_option maxRecDepth 100000 in
theorem c_X3_setOn (g : jG) (d : Nat → Nat) (I : jF) (A : Nat → jF) (x : Int32) : Con g yX3_setOn cX3_setOn 2 (some .int) 0 0 0 0 [.ref (d 0), .int x] [pcc g d I A] (jR (some (.int (soV I A x))) [pcc g d I A]) := by
  refine Con.of (own := RX3) (lv := [(0, .ref (d 0)), (1, .int x)]) (by decide) rfl (Nat.le_of_ble_eq_true rfl) rfl ?_
  intro E hC hQ hN
  refine j_iload_n hC dX3_setOn_0 rfl rfl ?_
  refine j_if_lt hC dX3_setOn_1 (tgt := 27) (by decide) (fun c_1 => ?_) (fun c_1 => ?_)
  · skip
    refine j_bipush hC (-9) dX3_setOn_27 (by decide) ?_
    refine j_iret hC hQ rfl rfl (Nat.le_of_ble_eq_true rfl) (Nat.le_of_ble_eq_true rfl) dX3_setOn_29 rfl ⟨?_, ?_⟩
    · (simp [soV, *])
    · rfl
  · skip
    refine j_iload_n hC dX3_setOn_4 rfl rfl ?_
    refine j_aload_n hC dX3_setOn_5 rfl rfl ?_
    refine j_get hC uX3 0 0 2 rfl rfl k130 rfl dX3_setOn_6 ?_
    refine j_icmp_ge hC dX3_setOn_9 (tgt := 27) (by decide) (fun c_9 => ?_) (fun c_9 => ?_)
    · skip
      refine j_bipush hC (-9) dX3_setOn_27 (by decide) ?_
      refine j_iret hC hQ rfl rfl (Nat.le_of_ble_eq_true rfl) (Nat.le_of_ble_eq_true rfl) dX3_setOn_29 rfl ⟨?_, ?_⟩
      · (simp [soV, *])
      · rfl
    · skip
      refine j_iload_n hC dX3_setOn_12 rfl rfl ?_
      refine j_bipush hC (10) dX3_setOn_13 (by decide) ?_
      refine j_icmp_ge hC dX3_setOn_15 (tgt := 27) (by decide) (fun c_15 => ?_) (fun c_15 => ?_)
      · skip
        refine j_bipush hC (-9) dX3_setOn_27 (by decide) ?_
        refine j_iret hC hQ rfl rfl (Nat.le_of_ble_eq_true rfl) (Nat.le_of_ble_eq_true rfl) dX3_setOn_29 rfl ⟨?_, ?_⟩
        · (simp [soV, *])
        · rfl
      · skip
        refine j_aload_n hC dX3_setOn_18 rfl rfl ?_
        refine j_get hC uX3 0 0 1 rfl rfl k129 rfl dX3_setOn_19 ?_
        refine j_iload_n hC dX3_setOn_22 rfl rfl ?_
        refine j_iald hC 0 2 rfl (jin c_1 c_15 (by decide)) dX3_setOn_23 ?_
        refine j_goto hC dX3_setOn_24 (tgt := 29) (by decide) ?_
        refine j_iret hC hQ rfl rfl (Nat.le_of_ble_eq_true rfl) (Nat.le_of_ble_eq_true rfl) dX3_setOn_29 rfl ⟨?_, ?_⟩
        · (simp [soV, *])
        · rfl
set_option maxHeartbeats 1000000 in
set_option maxRecDepth 100000 in
theorem c_X3_dayOf (g : jG) (d : Nat → Nat) (I : jF) (A : Nat → jF) (x : Int32) (h10 : (I 2).toInt ≤ 10) : Con g yX3_dayOf cX3_dayOf 3 (some .int) 1 21 0 0 [.ref (d 0), .int x] [pcc g d I A] (jR (some (.int (doR I A x 11 0))) [pcc g d I A]) := by
  refine Con.of (own := RX3) (lv := [(0, .ref (d 0)), (1, .int x)]) (by decide) rfl (Nat.le_of_ble_eq_true rfl) rfl ?_
  intro E hC hQ hN
  refine j_iconst hC (0) dX3_dayOf_0 (by decide) ?_
  refine j_istore_n hC dX3_dayOf_1 rfl rfl rfl rfl (fun v_1 e_1 => ?_)
  have L_2 : ∀ (fu : Nat) (t : Nat) (x2 : Int32) (hfu : 11 ≤ t + fu) (ht : t ≤ 10) (h2 : x2 = nI t) (hd : doR I A x fu t = doR I A x 11 0), J g (jRm 1 21 0 0) E 3 2 [(0, .ref (d 0)), (1, .int x), (2, .int x2)] [] [pcc g d I A] (0) (0) := by
    intro fu
    induction fu with
    | zero => intro t x2 hfu ht h2 hd; exact absurd hfu (by omega)
    | succ fu ih_2 =>
      intro t x2 hfu ht h2 hd
      refine j_iload_n hC dX3_dayOf_2 rfl rfl ?_
      refine j_aload_n hC dX3_dayOf_3 rfl rfl ?_
      refine j_get hC uX3 0 0 2 rfl rfl k130 rfl dX3_dayOf_4 ?_
      refine j_icmp_ge hC dX3_dayOf_7 (tgt := 31) (by decide) (fun c_7 => ?_) (fun c_7 => ?_)
      · skip
        refine j_bipush hC (-9) dX3_dayOf_31 (by decide) ?_
        refine j_iret hC hQ rfl rfl (Nat.le_of_ble_eq_true rfl) (Nat.le_of_ble_eq_true rfl) dX3_dayOf_33 rfl ⟨?_, ?_⟩
        · (rw [← hd, doR_0 (by rw [h2] at c_7; exact c_7)])
        · rfl
      · skip
        refine j_aload_n hC dX3_dayOf_10 rfl rfl ?_
        refine j_iload_n hC dX3_dayOf_11 rfl rfl ?_
        refine j_callVR hC [0] (c_X3_setOn g _ _ _ _) mX3_setOn k476 rfl rfl rfl rfl rfl ⟨(Nat.le_of_ble_eq_true rfl), (Nat.le_of_ble_eq_true rfl)⟩ (Nat.le_of_ble_eq_true rfl) ⟨(Nat.le_of_ble_eq_true rfl), (Nat.le_of_ble_eq_true rfl)⟩ dX3_dayOf_12 ?_
        dsimp only [jrepl, List.set, jstk]
        refine j_iload_n hC dX3_dayOf_15 rfl rfl ?_
        refine j_ishr hC dX3_dayOf_16 ?_
        refine j_iconst hC (1) dX3_dayOf_17 (by decide) ?_
        refine j_iand hC dX3_dayOf_18 ?_
        refine j_iconst hC (1) dX3_dayOf_19 (by decide) ?_
        refine j_icmp_ne hC dX3_dayOf_20 (tgt := 25) (by decide) (fun c_20 => ?_) (fun c_20 => ?_)
        · skip
          refine j_iinc hC (1) dX3_dayOf_25 rfl rfl rfl rfl rfl (fun v_25 e_25 => ?_)
          refine j_goto hC dX3_dayOf_28 (tgt := 2) (by decide) ?_
          refine j_pick [0, 1, 2] ?_
          have hlt : (t : Int) < 10 := by have q := c_7; rw [Int32.le_iff_toInt_le, h2, nI_toInt (by omega)] at q; omega
          exact ih_2 (t + 1) _ (by omega) (by omega) (jsucc e_25 h2) (by rw [← hd, doR_2 (by rw [h2] at c_7; exact c_7) (by rw [h2] at c_20; exact c_20)])
        · skip
          refine j_iload_n hC dX3_dayOf_23 rfl rfl ?_
          refine j_iret hC hQ rfl rfl (Nat.le_of_ble_eq_true rfl) (Nat.le_of_ble_eq_true rfl) dX3_dayOf_24 rfl ⟨?_, ?_⟩
          · (rw [← hd, h2, doR_1 (by rw [h2] at c_7; exact c_7) (by rw [h2] at c_20; exact c_20)])
          · rfl
  refine j_pick [0, 1, 2] ?_
  exact L_2 (11) 0 _ (by omega) (by omega) (e_1.trans nI_0.symm) rfl
set_option maxHeartbeats 1000000 in
set_option maxRecDepth 100000 in
theorem c_X3_forbid (g : jG) (d : Nat → Nat) (I : jF) (A : Nat → jF) (x : Int32) : Con g yX3_forbid cX3_forbid 2 none 0 0 0 0 [.ref (d 0), .int x] [pcc g d I A] (jR (none) [pcc g d I (va_up A 0 (fbF (A 0) x))]) := by
  refine Con.of (own := RX3) (lv := [(0, .ref (d 0)), (1, .int x)]) (by decide) rfl (Nat.le_of_ble_eq_true rfl) rfl ?_
  intro E hC hQ hN
  refine j_iload_n hC dX3_forbid_0 rfl rfl ?_
  refine j_if_le hC dX3_forbid_1 (tgt := 18) (by decide) (fun c_1 => ?_) (fun c_1 => ?_)
  · skip
    refine j_vret hC hQ rfl (Nat.le_of_ble_eq_true rfl) (Nat.le_of_ble_eq_true rfl) dX3_forbid_18 rfl ⟨?_, ?_⟩
    · first | rfl | (subst_vars; simp [jR, *]; done) | (subst_vars; simp_all [jR]; done)
    · first | rw [fbF_a c_1, va_up_same rfl] | rw [fbF_b c_8, va_up_same rfl] | (rw [fbF_c c_1 c_8]; rfl)
  · skip
    refine j_iload_n hC dX3_forbid_4 rfl rfl ?_
    refine j_sipush hC (1023) dX3_forbid_5 (by decide) ?_
    refine j_icmp_gt hC dX3_forbid_8 (tgt := 18) (by decide) (fun c_8 => ?_) (fun c_8 => ?_)
    · skip
      refine j_vret hC hQ rfl (Nat.le_of_ble_eq_true rfl) (Nat.le_of_ble_eq_true rfl) dX3_forbid_18 rfl ⟨?_, ?_⟩
      · first | rfl | (subst_vars; simp [jR, *]; done) | (subst_vars; simp_all [jR]; done)
      · first | rw [fbF_a c_1, va_up_same rfl] | rw [fbF_b c_8, va_up_same rfl] | (rw [fbF_c c_1 c_8]; rfl)
    · skip
      refine j_aload_n hC dX3_forbid_11 rfl rfl ?_
      refine j_get hC uX3 0 0 0 rfl rfl k128 rfl dX3_forbid_12 ?_
      refine j_iload_n hC dX3_forbid_15 rfl rfl ?_
      refine j_iconst hC (2) dX3_forbid_16 (by decide) ?_
      refine j_ast_3_0 (bi := 0) hC rfl (jin2 (fun q => c_1 (Int32.le_of_lt q)) c_8 (by decide)) dX3_forbid_17 ?_
      dsimp only [List.set]
      refine j_vret hC hQ rfl (Nat.le_of_ble_eq_true rfl) (Nat.le_of_ble_eq_true rfl) dX3_forbid_18 rfl ⟨?_, ?_⟩
      · first | rfl | (subst_vars; simp [jR, *]; done) | (subst_vars; simp_all [jR]; done)
      · first | rw [fbF_a c_1, va_up_same rfl] | rw [fbF_b c_8, va_up_same rfl] | (rw [fbF_c c_1 c_8]; rfl)
set_option maxHeartbeats 1000000 in
set_option maxRecDepth 100000 in
theorem c_X3_daysFor (g : jG) (d : Nat → Nat) (I : jF) (A : Nat → jF) (x : Int32) : Con g yX3_daysFor cX3_daysFor 2 (some .int) 0 0 0 0 [.ref (d 0), .int x] [pcc g d I A] (jR (some (.int (dF (A 0) x))) [pcc g d I A]) := by
  refine Con.of (own := RX3) (lv := [(0, .ref (d 0)), (1, .int x)]) (by decide) rfl (Nat.le_of_ble_eq_true rfl) rfl ?_
  intro E hC hQ hN
  refine j_iload_n hC dX3_daysFor_0 rfl rfl ?_
  refine j_if_lt hC dX3_daysFor_1 (tgt := 20) (by decide) (fun c_1 => ?_) (fun c_1 => ?_)
  · skip
    refine j_iconst hC (0) dX3_daysFor_20 (by decide) ?_
    refine j_iret hC hQ rfl rfl (Nat.le_of_ble_eq_true rfl) (Nat.le_of_ble_eq_true rfl) dX3_daysFor_21 rfl ⟨?_, ?_⟩
    · (simp [dF, *])
    · rfl
  · skip
    refine j_iload_n hC dX3_daysFor_4 rfl rfl ?_
    refine j_sipush hC (1023) dX3_daysFor_5 (by decide) ?_
    refine j_icmp_gt hC dX3_daysFor_8 (tgt := 20) (by decide) (fun c_8 => ?_) (fun c_8 => ?_)
    · skip
      refine j_iconst hC (0) dX3_daysFor_20 (by decide) ?_
      refine j_iret hC hQ rfl rfl (Nat.le_of_ble_eq_true rfl) (Nat.le_of_ble_eq_true rfl) dX3_daysFor_21 rfl ⟨?_, ?_⟩
      · (simp [dF, *])
      · rfl
    · skip
      refine j_aload_n hC dX3_daysFor_11 rfl rfl ?_
      refine j_get hC uX3 0 0 0 rfl rfl k128 rfl dX3_daysFor_12 ?_
      refine j_iload_n hC dX3_daysFor_15 rfl rfl ?_
      refine j_bald hC 0 1 rfl (jin2 c_1 c_8 (by decide)) dX3_daysFor_16 ?_
      refine j_goto hC dX3_daysFor_17 (tgt := 21) (by decide) ?_
      refine j_iret hC hQ rfl rfl (Nat.le_of_ble_eq_true rfl) (Nat.le_of_ble_eq_true rfl) dX3_daysFor_21 rfl ⟨?_, ?_⟩
      · (simp [dF, *])
      · rfl
set_option maxHeartbeats 1000000 in
set_option maxRecDepth 100000 in
theorem c_X3_holdsForbidden (g : jG) (d : Nat → Nat) (I : jF) (A : Nat → jF) (x : Int32) : Con g yX3_holdsForbidden cX3_holdsForbidden 3 (some .boolean) 1 21 0 0 [.ref (d 0), .int x] [pcc g d I A] (jR (some (.int (if hfB (A 0) x = true then 1 else 0))) [pcc g d I A]) := by
  refine Con.of (own := RX3) (lv := [(0, .ref (d 0)), (1, .int x)]) (by decide) rfl (Nat.le_of_ble_eq_true rfl) rfl ?_
  intro E hC hQ hN
  refine j_iconst hC (0) dX3_holdsForbidden_0 (by decide) ?_
  refine j_istore_n hC dX3_holdsForbidden_1 rfl rfl rfl rfl (fun v_1 e_1 => ?_)
  have L_2 : ∀ (fu : Nat) (i : Nat) (x2 : Int32) (hfu : 11 ≤ i + fu) (hi : i ≤ 10) (h2 : x2 = nI i) (hn : ∀ j, j < i → hfP (A 0) x j = false), J g (jRm 1 21 0 0) E 3 2 [(0, .ref (d 0)), (1, .int x), (2, .int x2)] [] [pcc g d I A] (0) (0) := by
    intro fu
    induction fu with
    | zero => intro i x2 hfu hi h2 hn; exact absurd hfu (by omega)
    | succ fu ih_2 =>
      intro i x2 hfu hi h2 hn
      refine j_iload_n hC dX3_holdsForbidden_2 rfl rfl ?_
      refine j_bipush hC (10) dX3_holdsForbidden_3 (by decide) ?_
      refine j_icmp_ge hC dX3_holdsForbidden_5 (tgt := 38) (by decide) (fun c_5 => ?_) (fun c_5 => ?_)
      · skip
        have hi10 : 10 ≤ i := jge (show (10 : Int32) = nI 10 from rfl) h2 (by omega) (by omega) c_5
        refine j_iconst hC (0) dX3_holdsForbidden_38 (by decide) ?_
        refine j_iret hC hQ rfl (by first | rfl | (subst_vars; rfl) | (split <;> rfl)) (Nat.le_of_ble_eq_true rfl) (Nat.le_of_ble_eq_true rfl) dX3_holdsForbidden_39 rfl ⟨?_, ?_⟩
        · (rw [if_neg]; intro q; obtain ⟨j, hj, hp⟩ := List.any_eq_true.mp q; have := hn j (by have := List.mem_range.mp hj; omega); rw [hp] at this; cases this)
        · rfl
      · skip
        have hi10 : i < 10 := jlt (show (10 : Int32) = nI 10 from rfl) h2 (by omega) (by omega) c_5
        refine j_iload_n hC dX3_holdsForbidden_8 rfl rfl ?_
        refine j_iload_n hC dX3_holdsForbidden_9 rfl rfl ?_
        refine j_ishr hC dX3_holdsForbidden_10 ?_
        refine j_iconst hC (1) dX3_holdsForbidden_11 (by decide) ?_
        refine j_iand hC dX3_holdsForbidden_12 ?_
        refine j_iconst hC (1) dX3_holdsForbidden_13 (by decide) ?_
        refine j_icmp_ne hC dX3_holdsForbidden_14 (tgt := 32) (by decide) (fun c_14 => ?_) (fun c_14 => ?_)
        · skip
          refine j_iinc hC (1) dX3_holdsForbidden_32 rfl rfl rfl rfl rfl (fun v_32 e_32 => ?_)
          refine j_goto hC dX3_holdsForbidden_35 (tgt := 2) (by decide) ?_
          refine j_pick [0, 1, 2] ?_
          have hp : hfP (A 0) x i = false := by
            unfold hfP
            rw [h2] at c_14
            first | exact decide_eq_false (fun q => c_14 q.1) | (rw [h2] at c_27; exact decide_eq_false (fun q => q.2 c_27))
          exact ih_2 (i + 1) _ (by omega) (by omega) (jsucc e_32 h2) (fun j hj => (Nat.lt_or_ge j i).elim (fun q => hn j q) (fun q => by have e : j = i := (by omega); rw [e]; exact hp))
        · skip
          refine j_aload_n hC dX3_holdsForbidden_17 rfl rfl ?_
          refine j_iload_n hC dX3_holdsForbidden_18 rfl rfl ?_
          refine j_iconst hC (1) dX3_holdsForbidden_19 (by decide) ?_
          refine j_iload_n hC dX3_holdsForbidden_20 rfl rfl ?_
          refine j_ishl hC dX3_holdsForbidden_21 ?_
          refine j_ixor hC dX3_holdsForbidden_22 ?_
          refine j_callVR hC [0] (c_X3_daysFor g _ _ _ _) mX3_daysFor k452 rfl rfl rfl rfl rfl ⟨(Nat.le_of_ble_eq_true rfl), (Nat.le_of_ble_eq_true rfl)⟩ (Nat.le_of_ble_eq_true rfl) ⟨(Nat.le_of_ble_eq_true rfl), (Nat.le_of_ble_eq_true rfl)⟩ dX3_holdsForbidden_23 ?_
          dsimp only [jrepl, List.set, jstk]
          refine j_iconst hC (1) dX3_holdsForbidden_26 (by decide) ?_
          refine j_icmp_le hC dX3_holdsForbidden_27 (tgt := 32) (by decide) (fun c_27 => ?_) (fun c_27 => ?_)
          · skip
            refine j_iinc hC (1) dX3_holdsForbidden_32 rfl rfl rfl rfl rfl (fun v_32 e_32 => ?_)
            refine j_goto hC dX3_holdsForbidden_35 (tgt := 2) (by decide) ?_
            refine j_pick [0, 1, 2] ?_
            have hp : hfP (A 0) x i = false := by
              unfold hfP
              rw [h2] at c_14
              first | exact decide_eq_false (fun q => c_14 q.1) | (rw [h2] at c_27; exact decide_eq_false (fun q => q.2 c_27))
            exact ih_2 (i + 1) _ (by omega) (by omega) (jsucc e_32 h2) (fun j hj => (Nat.lt_or_ge j i).elim (fun q => hn j q) (fun q => by have e : j = i := (by omega); rw [e]; exact hp))
          · skip
            refine j_iconst hC (1) dX3_holdsForbidden_30 (by decide) ?_
            refine j_iret hC hQ rfl (by first | rfl | (subst_vars; rfl) | (split <;> rfl)) (Nat.le_of_ble_eq_true rfl) (Nat.le_of_ble_eq_true rfl) dX3_holdsForbidden_31 rfl ⟨?_, ?_⟩
            · (rw [if_pos]; exact List.any_eq_true.mpr ⟨i, List.mem_range.mpr hi10, by unfold hfP; rw [h2] at c_14 c_27; exact decide_eq_true ⟨c_14, c_27⟩⟩)
            · rfl
  refine j_pick [0, 1, 2] ?_
  exact L_2 (11) 0 _ (by omega) (by omega) (e_1.trans nI_0.symm) (fun j hj => absurd hj (by omega))
set_option maxHeartbeats 1000000 in
set_option maxRecDepth 100000 in
theorem c_X3_begins (g : jG) (d : Nat → Nat) (I : jF) (A : Nat → jF) (x y : Int32) : Con g yX3_begins cX3_begins 3 (some .boolean) 1 21 0 0 [.ref (d 0), .int x, .int y] [pcc g d I A] (jR (some (.int (if begB (A 0) x y then 1 else 0))) [pcc g d I A]) := by
  refine Con.of (own := RX3) (lv := [(0, .ref (d 0)), (1, .int x), (2, .int y)]) (by decide) rfl (Nat.le_of_ble_eq_true rfl) rfl ?_
  intro E hC hQ hN
  refine j_aload_n hC dX3_begins_0 rfl rfl ?_
  refine j_iload_n hC dX3_begins_1 rfl rfl ?_
  refine j_callVR hC [0] (c_X3_daysFor g _ _ _ _) mX3_daysFor k452 rfl rfl rfl rfl rfl ⟨(Nat.le_of_ble_eq_true rfl), (Nat.le_of_ble_eq_true rfl)⟩ (Nat.le_of_ble_eq_true rfl) ⟨(Nat.le_of_ble_eq_true rfl), (Nat.le_of_ble_eq_true rfl)⟩ dX3_begins_2 ?_
  dsimp only [jrepl, List.set, jstk]
  refine j_iconst hC (1) dX3_begins_5 (by decide) ?_
  refine j_icmp_ne hC dX3_begins_6 (tgt := 30) (by decide) (fun c_6 => ?_) (fun c_6 => ?_)
  · skip
    refine j_iconst hC (0) dX3_begins_30 (by decide) ?_
    refine j_iret hC hQ rfl (by first | rfl | (subst_vars; rfl) | (split <;> rfl)) (Nat.le_of_ble_eq_true rfl) (Nat.le_of_ble_eq_true rfl) dX3_begins_31 rfl ⟨?_, ?_⟩
    · (simp [*])
    · rfl
  · skip
    refine j_aload_n hC dX3_begins_9 rfl rfl ?_
    refine j_iload_n hC dX3_begins_10 rfl rfl ?_
    refine j_iload_n hC dX3_begins_11 rfl rfl ?_
    refine j_ixor hC dX3_begins_12 ?_
    refine j_callVR hC [0] (c_X3_daysFor g _ _ _ _) mX3_daysFor k452 rfl rfl rfl rfl rfl ⟨(Nat.le_of_ble_eq_true rfl), (Nat.le_of_ble_eq_true rfl)⟩ (Nat.le_of_ble_eq_true rfl) ⟨(Nat.le_of_ble_eq_true rfl), (Nat.le_of_ble_eq_true rfl)⟩ dX3_begins_13 ?_
    dsimp only [jrepl, List.set, jstk]
    refine j_aload_n hC dX3_begins_16 rfl rfl ?_
    refine j_iload_n hC dX3_begins_17 rfl rfl ?_
    refine j_callVR hC [0] (c_X3_daysFor g _ _ _ _) mX3_daysFor k452 rfl rfl rfl rfl rfl ⟨(Nat.le_of_ble_eq_true rfl), (Nat.le_of_ble_eq_true rfl)⟩ (Nat.le_of_ble_eq_true rfl) ⟨(Nat.le_of_ble_eq_true rfl), (Nat.le_of_ble_eq_true rfl)⟩ dX3_begins_18 ?_
    dsimp only [jrepl, List.set, jstk]
    refine j_iconst hC (1) dX3_begins_21 (by decide) ?_
    refine j_isub hC dX3_begins_22 ?_
    refine j_icmp_ne hC dX3_begins_23 (tgt := 30) (by decide) (fun c_23 => ?_) (fun c_23 => ?_)
    · skip
      refine j_iconst hC (0) dX3_begins_30 (by decide) ?_
      refine j_iret hC hQ rfl (by first | rfl | (subst_vars; rfl) | (split <;> rfl)) (Nat.le_of_ble_eq_true rfl) (Nat.le_of_ble_eq_true rfl) dX3_begins_31 rfl ⟨?_, ?_⟩
      · (simp [*])
      · rfl
    · skip
      refine j_iconst hC (1) dX3_begins_26 (by decide) ?_
      refine j_goto hC dX3_begins_27 (tgt := 31) (by decide) ?_
      refine j_iret hC hQ rfl (by first | rfl | (subst_vars; rfl) | (split <;> rfl)) (Nat.le_of_ble_eq_true rfl) (Nat.le_of_ble_eq_true rfl) dX3_begins_31 rfl ⟨?_, ?_⟩
      · (simp [*])
      · rfl
set_option maxHeartbeats 1000000 in
set_option maxRecDepth 100000 in
theorem c_X3_fewestApart (g : jG) (d : Nat → Nat) (I : jF) (A : Nat → jF) (s : Nat) (x : Int32) (hx : x = nI s) (hs : s < 1024) : Con g yX3_fewestApart cX3_fewestApart 6 (some .int) 1 21 0 0 [.ref (d 0), .int x] [pcc g d I A] (jR (some (.int (faV (A 0) s))) [pcc g d I A]) := by
  refine Con.of (own := RX3) (lv := [(0, .ref (d 0)), (1, .int x)]) (by decide) rfl (Nat.le_of_ble_eq_true rfl) rfl ?_
  intro E hC hQ hN
  obtain ⟨hl1, hl2⟩ := lowb_all s hs
  have ho : s ^^^ lowb s < 1024 := xor_lt hs (by omega)
  refine j_iload_n hC dX3_fewestApart_0 rfl rfl ?_
  refine j_iload_n hC dX3_fewestApart_1 rfl rfl ?_
  refine j_ineg hC dX3_fewestApart_2 ?_
  refine j_iand hC dX3_fewestApart_3 ?_
  refine j_istore_n hC dX3_fewestApart_4 rfl rfl rfl rfl (fun v_4 e_4 => ?_)
  refine j_iload_n hC dX3_fewestApart_5 rfl rfl ?_
  refine j_iload_n hC dX3_fewestApart_6 rfl rfl ?_
  refine j_ixor hC dX3_fewestApart_7 ?_
  refine j_istore_n hC dX3_fewestApart_8 rfl rfl rfl rfl (fun v_8 e_8 => ?_)
  refine j_iconst hC (1) dX3_fewestApart_9 (by decide) ?_
  refine j_aload_n hC dX3_fewestApart_10 rfl rfl ?_
  refine j_iload_n hC dX3_fewestApart_11 rfl rfl ?_
  refine j_callVR hC [0] (c_X3_daysFor g _ _ _ _) mX3_daysFor k452 rfl rfl rfl rfl rfl ⟨(Nat.le_of_ble_eq_true rfl), (Nat.le_of_ble_eq_true rfl)⟩ (Nat.le_of_ble_eq_true rfl) ⟨(Nat.le_of_ble_eq_true rfl), (Nat.le_of_ble_eq_true rfl)⟩ dX3_fewestApart_12 ?_
  dsimp only [jrepl, List.set, jstk]
  refine j_iadd hC dX3_fewestApart_15 ?_
  refine j_istore hC dX3_fewestApart_16 rfl rfl rfl (fun v_16 e_16 => ?_)
  refine j_iload_n hC dX3_fewestApart_18 rfl rfl ?_
  refine j_iconst hC (1) dX3_fewestApart_19 (by decide) ?_
  refine j_isub hC dX3_fewestApart_20 ?_
  refine j_iload_n hC dX3_fewestApart_21 rfl rfl ?_
  refine j_iand hC dX3_fewestApart_22 ?_
  refine j_istore hC dX3_fewestApart_23 rfl rfl rfl (fun v_23 e_23 => ?_)
  have e4 : v_4 = nI (lowb s) := by rw [e_4, hx]; exact hl1
  have e8 : v_8 = nI (s ^^^ lowb s) := by rw [e_8, hx, e4, nI_xor]
  have L_25 : ∀ (fu : Nat) (w : Nat) (x4 x5 : Int32) (hfu : w + 1 ≤ fu) (hw : w < 1024) (h5 : x5 = nI w) (hd : faR (A 0) (lowb s) (s ^^^ lowb s) fu w x4 = faV (A 0) s), J g (jRm 1 21 0 0) E 6 25 [(0, .ref (d 0)), (2, .int v_4), (3, .int v_8), (4, .int x4), (5, .int x5)] [] [pcc g d I A] (0) (0) := by
    intro fu
    induction fu with
    | zero => intro w x4 x5 hfu hw h5 hd; exact absurd hfu (by omega)
    | succ fu ih_25 =>
      intro w x4 x5 hfu hw h5 hd
      refine j_iload hC dX3_fewestApart_25 rfl ?_
      refine j_if_le hC dX3_fewestApart_27 (tgt := 76) (by decide) (fun c_27 => ?_) (fun c_27 => ?_)
      · skip
        try have hw0 : ¬ 0 < w := fun q => by rw [h5, ← nI_0, nI_leI (by omega) (by omega)] at c_27; omega
        refine j_iload hC dX3_fewestApart_76 rfl ?_
        refine j_iret hC hQ rfl rfl (Nat.le_of_ble_eq_true rfl) (Nat.le_of_ble_eq_true rfl) dX3_fewestApart_78 rfl ⟨?_, ?_⟩
        · first | exact congrArg (fun z => some (Value.int z)) ((faR_0 (fun q => hw0 q.1)).symm.trans hd) | exact congrArg (fun z => some (Value.int z)) ((faR_0 (fun q => q.2 c_33)).symm.trans hd)
        · rfl
      · skip
        have hwp : 0 < w := by rw [h5, ← nI_0, nI_leI (by omega) (by omega)] at c_27; omega
        refine j_iload hC dX3_fewestApart_30 rfl ?_
        refine j_iconst hC (2) dX3_fewestApart_32 (by decide) ?_
        refine j_icmp_le hC dX3_fewestApart_33 (tgt := 76) (by decide) (fun c_33 => ?_) (fun c_33 => ?_)
        · skip
          try have hw0 : ¬ 0 < w := fun q => by rw [h5, ← nI_0, nI_leI (by omega) (by omega)] at c_27; omega
          refine j_iload hC dX3_fewestApart_76 rfl ?_
          refine j_iret hC hQ rfl rfl (Nat.le_of_ble_eq_true rfl) (Nat.le_of_ble_eq_true rfl) dX3_fewestApart_78 rfl ⟨?_, ?_⟩
          · first | exact congrArg (fun z => some (Value.int z)) ((faR_0 (fun q => hw0 q.1)).symm.trans hd) | exact congrArg (fun z => some (Value.int z)) ((faR_0 (fun q => q.2 c_33)).symm.trans hd)
          · rfl
        · skip
          refine j_aload_n hC dX3_fewestApart_36 rfl rfl ?_
          refine j_iload_n hC dX3_fewestApart_37 rfl rfl ?_
          refine j_iload hC dX3_fewestApart_38 rfl ?_
          refine j_ior hC dX3_fewestApart_40 ?_
          refine j_callVR hC [0] (c_X3_daysFor g _ _ _ _) mX3_daysFor k452 rfl rfl rfl rfl rfl ⟨(Nat.le_of_ble_eq_true rfl), (Nat.le_of_ble_eq_true rfl)⟩ (Nat.le_of_ble_eq_true rfl) ⟨(Nat.le_of_ble_eq_true rfl), (Nat.le_of_ble_eq_true rfl)⟩ dX3_fewestApart_41 ?_
          dsimp only [jrepl, List.set, jstk]
          refine j_iconst hC (1) dX3_fewestApart_44 (by decide) ?_
          refine j_icmp_ne hC dX3_fewestApart_45 (tgt := 65) (by decide) (fun c_45 => ?_) (fun c_45 => ?_)
          · skip
            refine j_iload hC dX3_fewestApart_65 rfl ?_
            refine j_iconst hC (1) dX3_fewestApart_67 (by decide) ?_
            refine j_isub hC dX3_fewestApart_68 ?_
            refine j_iload_n hC dX3_fewestApart_69 rfl rfl ?_
            refine j_iand hC dX3_fewestApart_70 ?_
            refine j_istore hC dX3_fewestApart_71 rfl rfl rfl (fun v_71 e_71 => ?_)
            refine j_goto hC dX3_fewestApart_73 (tgt := 25) (by decide) ?_
            have e4 : v_4 = nI (lowb s) := by rw [e_4, hx]; exact hl1
            have e8 : v_8 = nI (s ^^^ lowb s) := by rw [e_8, hx, e4, nI_xor]
            refine j_pick [0, 2, 3, 4, 5] ?_
            have hnx := and_le (a := w - 1) (b := s ^^^ lowb s)
            rw [faR_1 ⟨hwp, c_33⟩] at hd
            rw [h5, e4, nI_or] at c_45
            exact ih_25 ((w - 1) &&& (s ^^^ lowb s)) _ _ (by omega) (by omega) (by rw [e_71, h5, e8]; exact wpred hwp) (by first | (rw [if_pos c_45] at hd; rw [← hd, e_63, h5, e8, nI_xor]; rfl) | (rw [if_neg c_45] at hd; exact hd))
          · skip
            refine j_iload hC dX3_fewestApart_48 rfl ?_
            refine j_iconst hC (1) dX3_fewestApart_50 (by decide) ?_
            refine j_aload_n hC dX3_fewestApart_51 rfl rfl ?_
            refine j_iload_n hC dX3_fewestApart_52 rfl rfl ?_
            refine j_iload hC dX3_fewestApart_53 rfl ?_
            refine j_ixor hC dX3_fewestApart_55 ?_
            refine j_callVR hC [0] (c_X3_daysFor g _ _ _ _) mX3_daysFor k452 rfl rfl rfl rfl rfl ⟨(Nat.le_of_ble_eq_true rfl), (Nat.le_of_ble_eq_true rfl)⟩ (Nat.le_of_ble_eq_true rfl) ⟨(Nat.le_of_ble_eq_true rfl), (Nat.le_of_ble_eq_true rfl)⟩ dX3_fewestApart_56 ?_
            dsimp only [jrepl, List.set, jstk]
            refine j_iadd hC dX3_fewestApart_59 ?_
            refine j_min hC k438 k186 k12 k187 (Nat.le_of_ble_eq_true rfl) (Nat.le_of_ble_eq_true rfl) (Nat.le_of_ble_eq_true rfl) (Nat.le_of_ble_eq_true rfl) dX3_fewestApart_60 ?_
            refine j_istore hC dX3_fewestApart_63 rfl rfl rfl (fun v_63 e_63 => ?_)
            refine j_iload hC dX3_fewestApart_65 rfl ?_
            refine j_iconst hC (1) dX3_fewestApart_67 (by decide) ?_
            refine j_isub hC dX3_fewestApart_68 ?_
            refine j_iload_n hC dX3_fewestApart_69 rfl rfl ?_
            refine j_iand hC dX3_fewestApart_70 ?_
            refine j_istore hC dX3_fewestApart_71 rfl rfl rfl (fun v_71 e_71 => ?_)
            refine j_goto hC dX3_fewestApart_73 (tgt := 25) (by decide) ?_
            have e4 : v_4 = nI (lowb s) := by rw [e_4, hx]; exact hl1
            have e8 : v_8 = nI (s ^^^ lowb s) := by rw [e_8, hx, e4, nI_xor]
            refine j_pick [0, 2, 3, 4, 5] ?_
            have hnx := and_le (a := w - 1) (b := s ^^^ lowb s)
            rw [faR_1 ⟨hwp, c_33⟩] at hd
            rw [h5, e4, nI_or] at c_45
            exact ih_25 ((w - 1) &&& (s ^^^ lowb s)) _ _ (by omega) (by omega) (by rw [e_71, h5, e8]; exact wpred hwp) (by first | (rw [if_pos c_45] at hd; rw [← hd, e_63, h5, e8, nI_xor]; rfl) | (rw [if_neg c_45] at hd; exact hd))
  refine j_pick [0, 2, 3, 4, 5] ?_
  exact L_25 (1024) ((s ^^^ lowb s) - 1 &&& (s ^^^ lowb s)) _ _ (by have := and_le (a := (s ^^^ lowb s) - 1) (b := s ^^^ lowb s); omega) (by have := and_le (a := (s ^^^ lowb s) - 1) (b := s ^^^ lowb s); omega) (by rw [e_23, e8]; exact wpred0) (by rw [e_16, e8]; rfl)
set_option maxHeartbeats 1000000 in
set_option maxRecDepth 100000 in
theorem c_X3_firstSet (g : jG) (d : Nat → Nat) (I : jF) (A : Nat → jF) (l : Nat) (x : Int32) (hx : x = nI l) (hs : l < 1024) : Con g yX3_firstSet cX3_firstSet 6 (some .int) 2 43 0 0 [.ref (d 0), .int x] [pcc g d I A] (jR (some (.int (nI (fsN (A 0) l)))) [pcc g d I A]) := by
  refine Con.of (own := RX3) (lv := [(0, .ref (d 0)), (1, .int x)]) (by decide) rfl (Nat.le_of_ble_eq_true rfl) rfl ?_
  intro E hC hQ hN
  obtain ⟨hl1, hl2⟩ := lowb_all l hs
  have ho : l ^^^ lowb l < 1024 := xor_lt hs (by omega)
  refine j_iload_n hC dX3_firstSet_0 rfl rfl ?_
  refine j_iload_n hC dX3_firstSet_1 rfl rfl ?_
  refine j_ineg hC dX3_firstSet_2 ?_
  refine j_iand hC dX3_firstSet_3 ?_
  refine j_istore_n hC dX3_firstSet_4 rfl rfl rfl rfl (fun v_4 e_4 => ?_)
  refine j_iload_n hC dX3_firstSet_5 rfl rfl ?_
  refine j_iload_n hC dX3_firstSet_6 rfl rfl ?_
  refine j_ixor hC dX3_firstSet_7 ?_
  refine j_istore_n hC dX3_firstSet_8 rfl rfl rfl rfl (fun v_8 e_8 => ?_)
  refine j_iload_n hC dX3_firstSet_9 rfl rfl ?_
  refine j_istore hC dX3_firstSet_10 rfl rfl rfl (fun v_10 e_10 => ?_)
  refine j_iload_n hC dX3_firstSet_12 rfl rfl ?_
  refine j_istore hC dX3_firstSet_13 rfl rfl rfl (fun v_13 e_13 => ?_)
  have e4 : v_4 = nI (lowb l) := by rw [e_4, hx]; exact hl1
  have e8 : v_8 = nI (l ^^^ lowb l) := by rw [e_8, hx, e4, nI_xor]
  have L_15 : ∀ (fu : Nat) (w sm : Nat) (x4 x5 : Int32) (hfu : w + 1 ≤ fu) (hw : w < 1024) (h5 : x5 = nI w) (h4 : x4 = nI sm) (hd : fsR (A 0) (lowb l) (l ^^^ lowb l) l fu w sm = fsR (A 0) (lowb l) (l ^^^ lowb l) l 1024 (l ^^^ lowb l) l), J g (jRm 2 43 0 0) E 6 15 [(0, .ref (d 0)), (1, .int x), (2, .int v_4), (3, .int v_8), (4, .int x4), (5, .int x5)] [] [pcc g d I A] (0) (0) := by
    intro fu
    induction fu with
    | zero => intro w sm x4 x5 hfu hw h5 h4 hd; exact absurd hfu (by omega)
    | succ fu ih_15 =>
      intro w sm x4 x5 hfu hw h5 h4 hd
      refine j_iload hC dX3_firstSet_15 rfl ?_
      refine j_if_le hC dX3_firstSet_17 (tgt := 49) (by decide) (fun c_17 => ?_) (fun c_17 => ?_)
      · skip
        have hw0 : w = 0 := by rw [h5, ← nI_0, nI_leI (by omega) (by omega)] at c_17; omega
        refine j_aload_n hC dX3_firstSet_49 rfl rfl ?_
        refine j_iload_n hC dX3_firstSet_50 rfl rfl ?_
        refine j_iload_n hC dX3_firstSet_51 rfl rfl ?_
        refine j_callVR hC [0] (c_X3_begins g _ _ _ _ _) mX3_begins k468 rfl rfl rfl rfl rfl ⟨(Nat.le_of_ble_eq_true rfl), (Nat.le_of_ble_eq_true rfl)⟩ (Nat.le_of_ble_eq_true rfl) ⟨(Nat.le_of_ble_eq_true rfl), (Nat.le_of_ble_eq_true rfl)⟩ dX3_firstSet_52 ?_
        dsimp only [jrepl, List.set, jstk]
        refine j_if_eq hC dX3_firstSet_55 (tgt := 62) (by decide) (fun c_55 => ?_) (fun c_55 => ?_)
        · skip
          refine j_iload hC dX3_firstSet_62 rfl ?_
          refine j_iret hC hQ rfl rfl (Nat.le_of_ble_eq_true rfl) (Nat.le_of_ble_eq_true rfl) dX3_firstSet_64 rfl ⟨?_, ?_⟩
          · (have hb := c_55; rw [e4, hx] at hb; unfold fsN; first | (rw [if_pos (jb1 hb), e4]) | (rw [if_neg (jb0 hb), ← hd, hw0, fsR_0, h4]))
          · rfl
        · skip
          refine j_iload_n hC dX3_firstSet_58 rfl rfl ?_
          refine j_goto hC dX3_firstSet_59 (tgt := 64) (by decide) ?_
          refine j_iret hC hQ rfl rfl (Nat.le_of_ble_eq_true rfl) (Nat.le_of_ble_eq_true rfl) dX3_firstSet_64 rfl ⟨?_, ?_⟩
          · (have hb := c_55; rw [e4, hx] at hb; unfold fsN; first | (rw [if_pos (jb1 hb), e4]) | (rw [if_neg (jb0 hb), ← hd, hw0, fsR_0, h4]))
          · rfl
      · skip
        have hwp : 0 < w := by rw [h5, ← nI_0, nI_leI (by omega) (by omega)] at c_17; omega
        refine j_aload_n hC dX3_firstSet_20 rfl rfl ?_
        refine j_iload_n hC dX3_firstSet_21 rfl rfl ?_
        refine j_iload hC dX3_firstSet_22 rfl ?_
        refine j_ior hC dX3_firstSet_24 ?_
        refine j_iload_n hC dX3_firstSet_25 rfl rfl ?_
        refine j_callVR hC [0] (c_X3_begins g _ _ _ _ _) mX3_begins k468 rfl rfl rfl rfl rfl ⟨(Nat.le_of_ble_eq_true rfl), (Nat.le_of_ble_eq_true rfl)⟩ (Nat.le_of_ble_eq_true rfl) ⟨(Nat.le_of_ble_eq_true rfl), (Nat.le_of_ble_eq_true rfl)⟩ dX3_firstSet_26 ?_
        dsimp only [jrepl, List.set, jstk]
        refine j_if_eq hC dX3_firstSet_29 (tgt := 38) (by decide) (fun c_29 => ?_) (fun c_29 => ?_)
        · skip
          refine j_iload hC dX3_firstSet_38 rfl ?_
          refine j_iconst hC (1) dX3_firstSet_40 (by decide) ?_
          refine j_isub hC dX3_firstSet_41 ?_
          refine j_iload_n hC dX3_firstSet_42 rfl rfl ?_
          refine j_iand hC dX3_firstSet_43 ?_
          refine j_istore hC dX3_firstSet_44 rfl rfl rfl (fun v_44 e_44 => ?_)
          refine j_goto hC dX3_firstSet_46 (tgt := 15) (by decide) ?_
          have e4 : v_4 = nI (lowb l) := by rw [e_4, hx]; exact hl1
          have e8 : v_8 = nI (l ^^^ lowb l) := by rw [e_8, hx, e4, nI_xor]
          refine j_pick [0, 1, 2, 3, 4, 5] ?_
          have hnx := and_le (a := w - 1) (b := l ^^^ lowb l)
          rw [fsR_1 hwp] at hd
          rw [h5, e4, nI_or, hx] at c_29
          exact ih_15 ((w - 1) &&& (l ^^^ lowb l)) _ _ _ (by omega) (by omega) (by rw [e_44, h5, e8]; exact wpred hwp) (by first | exact (e_36.trans (by rw [h5, e4, nI_or])) | exact h4) (by first | (rw [if_pos (jb1 c_29)] at hd; exact hd) | (rw [if_neg (jb0 c_29)] at hd; exact hd))
        · skip
          refine j_iload_n hC dX3_firstSet_32 rfl rfl ?_
          refine j_iload hC dX3_firstSet_33 rfl ?_
          refine j_ior hC dX3_firstSet_35 ?_
          refine j_istore hC dX3_firstSet_36 rfl rfl rfl (fun v_36 e_36 => ?_)
          refine j_iload hC dX3_firstSet_38 rfl ?_
          refine j_iconst hC (1) dX3_firstSet_40 (by decide) ?_
          refine j_isub hC dX3_firstSet_41 ?_
          refine j_iload_n hC dX3_firstSet_42 rfl rfl ?_
          refine j_iand hC dX3_firstSet_43 ?_
          refine j_istore hC dX3_firstSet_44 rfl rfl rfl (fun v_44 e_44 => ?_)
          refine j_goto hC dX3_firstSet_46 (tgt := 15) (by decide) ?_
          have e4 : v_4 = nI (lowb l) := by rw [e_4, hx]; exact hl1
          have e8 : v_8 = nI (l ^^^ lowb l) := by rw [e_8, hx, e4, nI_xor]
          refine j_pick [0, 1, 2, 3, 4, 5] ?_
          have hnx := and_le (a := w - 1) (b := l ^^^ lowb l)
          rw [fsR_1 hwp] at hd
          rw [h5, e4, nI_or, hx] at c_29
          exact ih_15 ((w - 1) &&& (l ^^^ lowb l)) _ _ _ (by omega) (by omega) (by rw [e_44, h5, e8]; exact wpred hwp) (by first | exact (e_36.trans (by rw [h5, e4, nI_or])) | exact h4) (by first | (rw [if_pos (jb1 c_29)] at hd; exact hd) | (rw [if_neg (jb0 c_29)] at hd; exact hd))
  refine j_pick [0, 1, 2, 3, 4, 5] ?_
  exact L_15 (1024) (l ^^^ lowb l) l _ _ (by omega) (by omega) (by rw [e_13, e8]) (e_10.trans hx) rfl
