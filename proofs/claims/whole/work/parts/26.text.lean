/-! the class's reader of texts -/
def tPk (I f : jF) : Int32 := if ¬ I 2 < 0 ∧ ¬ I 1 ≤ I 2 ∧ ¬ 80 ≤ I 2 then f (I 2).toNatClampNeg else -1
abbrev tDig (I f : jF) : Prop := ¬ tPk I f < 48 ∧ ¬ 57 < tPk I f
def tFl (I : jF) (w : Int32) : jF := if I 3 = -1 then upd I 3 w else I
def tEx (I f : jF) (c : Int32) : jF := if tPk I f = c then upd I 2 (I 2 + 1) else tFl I (I 2)
def rnl (f : jF) : Nat → jF → Int32 → jF × Int32
  | 0, I, v => (I, v)
  | m + 1, I, v => if tDig I f then rnl f m (upd I 2 (I 2 + 1)) (10 * v + tPk I f - 48) else (I, v)
def rnF (I f : jF) (m : Nat) (lo hi : Int32) : jF := if (rnl f m I 0).1 2 = I 2 ∨ tDig (rnl f m I 0).1 f then tFl (rnl f m I 0).1 ((rnl f m I 0).1 2) else if (rnl f m I 0).2 < lo ∨ ¬ (rnl f m I 0).2 ≤ hi then tFl (rnl f m I 0).1 ((rnl f m I 0).1 2 - 1) else (rnl f m I 0).1
theorem rnF_a {I f : jF} {m : Nat} {lo hi : Int32} (h : (rnl f m I 0).1 2 = I 2 ∨ tDig (rnl f m I 0).1 f) : rnF I f m lo hi = tFl (rnl f m I 0).1 ((rnl f m I 0).1 2) := if_pos h
theorem rnF_b {I f : jF} {m : Nat} {lo hi : Int32} (h : ¬ ((rnl f m I 0).1 2 = I 2 ∨ tDig (rnl f m I 0).1 f)) (h2 : (rnl f m I 0).2 < lo ∨ ¬ (rnl f m I 0).2 ≤ hi) : rnF I f m lo hi = tFl (rnl f m I 0).1 ((rnl f m I 0).1 2 - 1) := (if_neg h).trans (if_pos h2)
theorem rnF_c {I f : jF} {m : Nat} {lo hi : Int32} (h : ¬ ((rnl f m I 0).1 2 = I 2 ∨ tDig (rnl f m I 0).1 f)) (h2 : ¬ ((rnl f m I 0).2 < lo ∨ ¬ (rnl f m I 0).2 ≤ hi)) : rnF I f m lo hi = (rnl f m I 0).1 := (if_neg h).trans (if_neg h2)
theorem rnl_0 {f : jF} {I : jF} {v : Int32} : rnl f 0 I v = (I, v) := rfl
theorem rnl_1 {f : jF} {m : Nat} {I : jF} {v : Int32} (h : tDig I f) : rnl f (m + 1) I v = rnl f m (upd I 2 (I 2 + 1)) (10 * v + tPk I f - 48) := if_pos h
theorem rnl_2 {f : jF} {m : Nat} {I : jF} {v : Int32} (h : ¬ tDig I f) : rnl f (m + 1) I v = (I, v) := if_neg h
set_option maxHeartbeats 1000000 in
set_option maxRecDepth 100000 in
theorem c_X5_fail (g : jG) (d : Nat → Nat) (I f : jF) (x : Int32) : Con g yX5_fail cX5_fail 2 none 0 0 0 0 [.ref (d 0), .int x] [tc g d I f] (jR (none) [tc g d (tFl I x) f]) := by
  refine Con.of (own := RX5) (lv := [(0, .ref (d 0)), (1, .int x)]) (by decide) rfl (Nat.le_of_ble_eq_true rfl) rfl ?_
  intro E hC hQ hN
  refine j_aload_n hC dX5_fail_0 rfl rfl ?_
  refine j_get hC uX5 0 0 3 rfl rfl k75 rfl dX5_fail_1 ?_
  refine j_iconst hC (-1) dX5_fail_4 (by decide) ?_
  refine j_icmp_ne hC dX5_fail_5 (tgt := 13) (by decide) (fun c_5 => ?_) (fun c_5 => ?_)
  · skip
    refine j_vret hC hQ rfl (Nat.le_of_ble_eq_true rfl) (Nat.le_of_ble_eq_true rfl) dX5_fail_13 rfl ⟨?_, ?_⟩
    · first | rfl | (subst_vars; simp [jR, *]; done) | (subst_vars; simp_all [jR]; done)
    · first | (unfold tFl; rw [if_pos c_5]) | (unfold tFl; rw [if_neg c_5])
  · skip
    refine j_aload_n hC dX5_fail_8 rfl rfl ?_
    refine j_iload_n hC dX5_fail_9 rfl rfl ?_
    refine j_put_5_3 (bi := 0) hC rfl k75 dX5_fail_10 ?_
    dsimp only [List.set]
    refine j_vret hC hQ rfl (Nat.le_of_ble_eq_true rfl) (Nat.le_of_ble_eq_true rfl) dX5_fail_13 rfl ⟨?_, ?_⟩
    · first | rfl | (subst_vars; simp [jR, *]; done) | (subst_vars; simp_all [jR]; done)
    · first | (unfold tFl; rw [if_pos c_5]) | (unfold tFl; rw [if_neg c_5])
set_option maxHeartbeats 1000000 in
set_option maxRecDepth 100000 in
theorem c_X5_peek (g : jG) (d : Nat → Nat) (I f : jF) : Con g yX5_peek cX5_peek 1 (some .int) 0 0 0 0 [.ref (d 0)] [tc g d I f] (jR (some (.int (tPk I f))) [tc g d I f]) := by
  refine Con.of (own := RX5) (lv := [(0, .ref (d 0))]) (by decide) rfl (Nat.le_of_ble_eq_true rfl) rfl ?_
  intro E hC hQ hN
  refine j_aload_n hC dX5_peek_0 rfl rfl ?_
  refine j_get hC uX5 0 0 2 rfl rfl k74 rfl dX5_peek_1 ?_
  refine j_if_lt hC dX5_peek_4 (tgt := 39) (by decide) (fun c_4 => ?_) (fun c_4 => ?_)
  · skip
    refine j_iconst hC (-1) dX5_peek_39 (by decide) ?_
    refine j_iret hC hQ rfl rfl (Nat.le_of_ble_eq_true rfl) (Nat.le_of_ble_eq_true rfl) dX5_peek_40 rfl ⟨?_, ?_⟩
    · (simp [tPk, *])
    · rfl
  · skip
    refine j_aload_n hC dX5_peek_7 rfl rfl ?_
    refine j_get hC uX5 0 0 2 rfl rfl k74 rfl dX5_peek_8 ?_
    refine j_aload_n hC dX5_peek_11 rfl rfl ?_
    refine j_get hC uX5 0 0 1 rfl rfl k72 rfl dX5_peek_12 ?_
    refine j_icmp_ge hC dX5_peek_15 (tgt := 39) (by decide) (fun c_15 => ?_) (fun c_15 => ?_)
    · skip
      refine j_iconst hC (-1) dX5_peek_39 (by decide) ?_
      refine j_iret hC hQ rfl rfl (Nat.le_of_ble_eq_true rfl) (Nat.le_of_ble_eq_true rfl) dX5_peek_40 rfl ⟨?_, ?_⟩
      · (simp [tPk, *])
      · rfl
    · skip
      refine j_aload_n hC dX5_peek_18 rfl rfl ?_
      refine j_get hC uX5 0 0 2 rfl rfl k74 rfl dX5_peek_19 ?_
      refine j_bipush hC (80) dX5_peek_22 (by decide) ?_
      refine j_icmp_ge hC dX5_peek_24 (tgt := 39) (by decide) (fun c_24 => ?_) (fun c_24 => ?_)
      · skip
        refine j_iconst hC (-1) dX5_peek_39 (by decide) ?_
        refine j_iret hC hQ rfl rfl (Nat.le_of_ble_eq_true rfl) (Nat.le_of_ble_eq_true rfl) dX5_peek_40 rfl ⟨?_, ?_⟩
        · (simp [tPk, *])
        · rfl
      · skip
        refine j_aload_n hC dX5_peek_27 rfl rfl ?_
        refine j_get hC uX5 0 0 0 rfl rfl k71 rfl dX5_peek_28 ?_
        refine j_aload_n hC dX5_peek_31 rfl rfl ?_
        refine j_get hC uX5 0 0 2 rfl rfl k74 rfl dX5_peek_32 ?_
        refine j_bald hC 0 1 rfl (jin c_4 c_24 (by decide)) dX5_peek_35 ?_
        refine j_goto hC dX5_peek_36 (tgt := 40) (by decide) ?_
        refine j_iret hC hQ rfl rfl (Nat.le_of_ble_eq_true rfl) (Nat.le_of_ble_eq_true rfl) dX5_peek_40 rfl ⟨?_, ?_⟩
        · (simp [tPk, *])
        · rfl
set_option maxHeartbeats 1000000 in
set_option maxRecDepth 100000 in
theorem c_X5_isAtDigit (g : jG) (d : Nat → Nat) (I f : jF) : Con g yX5_isAtDigit cX5_isAtDigit 1 (some .boolean) 1 20 0 0 [.ref (d 0)] [tc g d I f] (jR (some (.int (if tDig I f then 1 else 0))) [tc g d I f]) := by
  refine Con.of (own := RX5) (lv := [(0, .ref (d 0))]) (by decide) rfl (Nat.le_of_ble_eq_true rfl) rfl ?_
  intro E hC hQ hN
  refine j_aload_n hC dX5_isAtDigit_0 rfl rfl ?_
  refine j_callVR hC [0] (c_X5_peek g _ _ _) mX5_peek k229 rfl rfl rfl rfl rfl ⟨(Nat.le_of_ble_eq_true rfl), (Nat.le_of_ble_eq_true rfl)⟩ (Nat.le_of_ble_eq_true rfl) ⟨(Nat.le_of_ble_eq_true rfl), (Nat.le_of_ble_eq_true rfl)⟩ dX5_isAtDigit_1 ?_
  dsimp only [jrepl, List.set, jstk]
  refine j_bipush hC (48) dX5_isAtDigit_4 (by decide) ?_
  refine j_icmp_lt hC dX5_isAtDigit_6 (tgt := 22) (by decide) (fun c_6 => ?_) (fun c_6 => ?_)
  · skip
    refine j_iconst hC (0) dX5_isAtDigit_22 (by decide) ?_
    refine j_iret hC hQ rfl (by first | rfl | (subst_vars; rfl) | (split <;> rfl)) (Nat.le_of_ble_eq_true rfl) (Nat.le_of_ble_eq_true rfl) dX5_isAtDigit_23 rfl ⟨?_, ?_⟩
    · (simp [*])
    · rfl
  · skip
    refine j_aload_n hC dX5_isAtDigit_9 rfl rfl ?_
    refine j_callVR hC [0] (c_X5_peek g _ _ _) mX5_peek k229 rfl rfl rfl rfl rfl ⟨(Nat.le_of_ble_eq_true rfl), (Nat.le_of_ble_eq_true rfl)⟩ (Nat.le_of_ble_eq_true rfl) ⟨(Nat.le_of_ble_eq_true rfl), (Nat.le_of_ble_eq_true rfl)⟩ dX5_isAtDigit_10 ?_
    dsimp only [jrepl, List.set, jstk]
    refine j_bipush hC (57) dX5_isAtDigit_13 (by decide) ?_
    refine j_icmp_gt hC dX5_isAtDigit_15 (tgt := 22) (by decide) (fun c_15 => ?_) (fun c_15 => ?_)
    · skip
      refine j_iconst hC (0) dX5_isAtDigit_22 (by decide) ?_
      refine j_iret hC hQ rfl (by first | rfl | (subst_vars; rfl) | (split <;> rfl)) (Nat.le_of_ble_eq_true rfl) (Nat.le_of_ble_eq_true rfl) dX5_isAtDigit_23 rfl ⟨?_, ?_⟩
      · (simp [*])
      · rfl
    · skip
      refine j_iconst hC (1) dX5_isAtDigit_18 (by decide) ?_
      refine j_goto hC dX5_isAtDigit_19 (tgt := 23) (by decide) ?_
      refine j_iret hC hQ rfl (by first | rfl | (subst_vars; rfl) | (split <;> rfl)) (Nat.le_of_ble_eq_true rfl) (Nat.le_of_ble_eq_true rfl) dX5_isAtDigit_23 rfl ⟨?_, ?_⟩
      · (simp [*])
      · rfl
set_option maxHeartbeats 1000000 in
set_option maxRecDepth 100000 in
theorem c_X5_expect (g : jG) (d : Nat → Nat) (I f : jF) (x : Int32) : Con g yX5_expect cX5_expect 2 none 1 21 0 0 [.ref (d 0), .int x] [tc g d I f] (jR (none) [tc g d (tEx I f x) f]) := by
  refine Con.of (own := RX5) (lv := [(0, .ref (d 0)), (1, .int x)]) (by decide) rfl (Nat.le_of_ble_eq_true rfl) rfl ?_
  intro E hC hQ hN
  refine j_aload_n hC dX5_expect_0 rfl rfl ?_
  refine j_callVR hC [0] (c_X5_peek g _ _ _) mX5_peek k229 rfl rfl rfl rfl rfl ⟨(Nat.le_of_ble_eq_true rfl), (Nat.le_of_ble_eq_true rfl)⟩ (Nat.le_of_ble_eq_true rfl) ⟨(Nat.le_of_ble_eq_true rfl), (Nat.le_of_ble_eq_true rfl)⟩ dX5_expect_1 ?_
  dsimp only [jrepl, List.set, jstk]
  refine j_iload_n hC dX5_expect_4 rfl rfl ?_
  refine j_icmp_ne hC dX5_expect_5 (tgt := 21) (by decide) (fun c_5 => ?_) (fun c_5 => ?_)
  · skip
    refine j_aload_n hC dX5_expect_21 rfl rfl ?_
    refine j_aload_n hC dX5_expect_22 rfl rfl ?_
    refine j_get hC uX5 0 0 2 rfl rfl k74 rfl dX5_expect_23 ?_
    refine j_callVR hC [0] (c_X5_fail g _ _ _ _) mX5_fail k241 rfl rfl rfl rfl rfl ⟨(Nat.le_of_ble_eq_true rfl), (Nat.le_of_ble_eq_true rfl)⟩ (Nat.le_of_ble_eq_true rfl) ⟨(Nat.le_of_ble_eq_true rfl), (Nat.le_of_ble_eq_true rfl)⟩ dX5_expect_26 ?_
    dsimp only [jrepl, List.set, jstk]
    refine j_vret hC hQ rfl (Nat.le_of_ble_eq_true rfl) (Nat.le_of_ble_eq_true rfl) dX5_expect_29 rfl ⟨?_, ?_⟩
    · first | rfl | (subst_vars; simp [jR, *]; done) | (subst_vars; simp_all [jR]; done)
    · first | (unfold tEx; rw [if_pos c_5]) | (unfold tEx; rw [if_neg c_5])
  · skip
    refine j_aload_n hC dX5_expect_8 rfl rfl ?_
    refine j_dup hC dX5_expect_9 rfl ?_
    refine j_get hC uX5 0 0 2 rfl rfl k74 rfl dX5_expect_10 ?_
    refine j_iconst hC (1) dX5_expect_13 (by decide) ?_
    refine j_iadd hC dX5_expect_14 ?_
    refine j_put_5_2 (bi := 0) hC rfl k74 dX5_expect_15 ?_
    dsimp only [List.set]
    refine j_goto hC dX5_expect_18 (tgt := 29) (by decide) ?_
    refine j_vret hC hQ rfl (Nat.le_of_ble_eq_true rfl) (Nat.le_of_ble_eq_true rfl) dX5_expect_29 rfl ⟨?_, ?_⟩
    · first | rfl | (subst_vars; simp [jR, *]; done) | (subst_vars; simp_all [jR]; done)
    · first | (unfold tEx; rw [if_pos c_5]) | (unfold tEx; rw [if_neg c_5])
theorem jbyte2 {x : Int32} : x.toInt8.toInt32.toInt8.toInt32 = x.toInt8.toInt32 := by simp
set_option maxHeartbeats 1000000 in
set_option maxRecDepth 100000 in
theorem c_X5_append (g : jG) (d : Nat → Nat) (I f : jF) (n : Nat) (x : Int32) (hn : I 1 = nI n) (hn8 : n ≤ 80) : Con g yX5_append cX5_append 2 (some .boolean) 0 0 0 0 [.ref (d 0), .int x] [tc g d I f] (jR (some (.int (if n < 80 then 1 else 0))) [tc g d (if n < 80 then upd I 1 (I 1 + 1) else I) (if n < 80 then upd f n x.toInt8.toInt32 else f)]) := by
  refine Con.of (own := RX5) (lv := [(0, .ref (d 0)), (1, .int x)]) (by decide) rfl (Nat.le_of_ble_eq_true rfl) rfl ?_
  intro E hC hQ hN
  have h0 : ¬ I 1 < 0 := by rw [hn, ← nI_0, nI_ltI (by omega) (by omega)]; omega
  refine j_aload_n hC dX5_append_0 rfl rfl ?_
  refine j_get hC uX5 0 0 1 rfl rfl k72 rfl dX5_append_1 ?_
  refine j_if_lt hC dX5_append_4 (tgt := 16) (by decide) (fun c_4 => ?_) (fun c_4 => ?_)
  · exact absurd c_4 h0
  · skip
    refine j_aload_n hC dX5_append_7 rfl rfl ?_
    refine j_get hC uX5 0 0 1 rfl rfl k72 rfl dX5_append_8 ?_
    refine j_bipush hC (80) dX5_append_11 (by decide) ?_
    refine j_icmp_lt hC dX5_append_13 (tgt := 18) (by decide) (fun c_13 => ?_) (fun c_13 => ?_)
    · skip
      refine j_aload_n hC dX5_append_18 rfl rfl ?_
      refine j_get hC uX5 0 0 0 rfl rfl k71 rfl dX5_append_19 ?_
      refine j_aload_n hC dX5_append_22 rfl rfl ?_
      refine j_get hC uX5 0 0 1 rfl rfl k72 rfl dX5_append_23 ?_
      refine j_iload_n hC dX5_append_26 rfl rfl ?_
      refine j_i2b hC dX5_append_27 ?_
      refine j_ast_5_0 (bi := 0) hC rfl (jin h0 (Int32.not_le.mpr c_13) (by decide)) dX5_append_28 ?_
      dsimp only [List.set]
      refine j_aload_n hC dX5_append_29 rfl rfl ?_
      refine j_dup hC dX5_append_30 rfl ?_
      refine j_get hC uX5 0 0 1 rfl rfl k72 rfl dX5_append_31 ?_
      refine j_iconst hC (1) dX5_append_34 (by decide) ?_
      refine j_iadd hC dX5_append_35 ?_
      refine j_put_5_1 (bi := 0) hC rfl k72 dX5_append_36 ?_
      dsimp only [List.set]
      refine j_iconst hC (1) dX5_append_39 (by decide) ?_
      refine j_iret hC hQ rfl (by first | rfl | (subst_vars; rfl) | (split <;> rfl)) (Nat.le_of_ble_eq_true rfl) (Nat.le_of_ble_eq_true rfl) dX5_append_40 rfl ⟨?_, ?_⟩
      · (rw [if_pos]; rw [hn] at c_13; exact (nI_ltI (b := 80) (by omega) (by omega)).mp c_13)
      · (have q : n < 80 := (nI_ltI (b := 80) (by omega) (by omega)).mp (by rw [hn] at c_13; exact c_13); rw [if_pos q, if_pos q, show (I 1).toNatClampNeg = n by rw [hn]; exact nI_cl (by omega), vp_nar_byte, jbyte2])
    · skip
      refine j_iconst hC (0) dX5_append_16 (by decide) ?_
      refine j_iret hC hQ rfl (by first | rfl | (subst_vars; rfl) | (split <;> rfl)) (Nat.le_of_ble_eq_true rfl) (Nat.le_of_ble_eq_true rfl) dX5_append_17 rfl ⟨?_, ?_⟩
      · (rw [if_neg]; intro q; exact c_13 (by rw [hn]; exact (nI_ltI (b := 80) (by omega) (by omega)).mpr q))
      · (have q : ¬ n < 80 := fun q => c_13 (by rw [hn]; exact (nI_ltI (b := 80) (by omega) (by omega)).mpr q); rw [if_neg q, if_neg q])
set_option maxHeartbeats 1000000 in
set_option maxRecDepth 100000 in
theorem c_X5_readNumber (g : jG) (d : Nat → Nat) (I f : jF) (m : Nat) (x1 x2 x3 : Int32) (h1 : x1 = nI m) (hm : m ≤ 3) : Con g yX5_readNumber cX5_readNumber 7 (some .int) 2 40 0 0 [.ref (d 0), .int x1, .int x2, .int x3] [tc g d I f] (jR (some (.int (rnl f m I 0).2)) [tc g d (rnF I f m x2 x3) f]) := by
  refine Con.of (own := RX5) (lv := [(0, .ref (d 0)), (1, .int x1), (2, .int x2), (3, .int x3)]) (by decide) rfl (Nat.le_of_ble_eq_true rfl) rfl ?_
  intro E hC hQ hN
  refine j_aload_n hC dX5_readNumber_0 rfl rfl ?_
  refine j_get hC uX5 0 0 2 rfl rfl k74 rfl dX5_readNumber_1 ?_
  refine j_istore hC dX5_readNumber_4 rfl rfl rfl (fun v_4 e_4 => ?_)
  refine j_iconst hC (0) dX5_readNumber_6 (by decide) ?_
  refine j_istore hC dX5_readNumber_7 rfl rfl rfl (fun v_7 e_7 => ?_)
  refine j_iconst hC (0) dX5_readNumber_9 (by decide) ?_
  refine j_istore hC dX5_readNumber_10 rfl rfl rfl (fun v_10 e_10 => ?_)
  have L_12 : ∀ (fu : Nat) (r : Nat) (I1 : jF) (x5 x6 : Int32) (hfu : r + 1 ≤ fu) (hr : r ≤ m) (h6 : x6 = nI (m - r)) (hl : rnl f r I1 x5 = rnl f m I 0), J g (jRm 2 40 0 0) E 7 12 [(0, .ref (d 0)), (1, .int x1), (2, .int x2), (3, .int x3), (4, .int v_4), (5, .int x5), (6, .int x6)] [] [tc g d I1 f] (0) (0) := by
    intro fu
    induction fu with
    | zero => intro r I1 x5 x6 hfu hr h6 hl; exact absurd hfu (by omega)
    | succ fu ih_12 =>
      intro r I1 x5 x6 hfu hr h6 hl
      refine j_iload hC dX5_readNumber_12 rfl ?_
      refine j_iload_n hC dX5_readNumber_14 rfl rfl ?_
      refine j_icmp_ge hC dX5_readNumber_15 (tgt := 56) (by decide) (fun c_15 => ?_) (fun c_15 => ?_)
      · skip
        have he : (I1, x5) = rnl f m I 0 := by
          first | (rw [← hl, show r = 0 by (have := jge h1 h6 (by omega) (by omega) c_15; omega)]; rfl) | (obtain ⟨s, rfl⟩ : ∃ s, r = s + 1 := ⟨r - 1, by omega⟩; rw [← hl, rnl_2 (jb0 c_22)])
        have hv : x5 = (rnl f m I 0).2 := congrArg Prod.snd he
        have hI1 : I1 = (rnl f m I 0).1 := congrArg Prod.fst he
        subst hI1
        refine j_aload_n hC dX5_readNumber_56 rfl rfl ?_
        refine j_get hC uX5 0 0 2 rfl rfl k74 rfl dX5_readNumber_57 ?_
        refine j_iload hC dX5_readNumber_60 rfl ?_
        refine j_icmp_eq hC dX5_readNumber_62 (tgt := 72) (by decide) (fun c_62 => ?_) (fun c_62 => ?_)
        · skip
          refine j_aload_n hC dX5_readNumber_72 rfl rfl ?_
          refine j_aload_n hC dX5_readNumber_73 rfl rfl ?_
          refine j_get hC uX5 0 0 2 rfl rfl k74 rfl dX5_readNumber_74 ?_
          refine j_callVR hC [0] (c_X5_fail g _ _ _ _) mX5_fail k241 rfl rfl rfl rfl rfl ⟨(Nat.le_of_ble_eq_true rfl), (Nat.le_of_ble_eq_true rfl)⟩ (Nat.le_of_ble_eq_true rfl) ⟨(Nat.le_of_ble_eq_true rfl), (Nat.le_of_ble_eq_true rfl)⟩ dX5_readNumber_77 ?_
          dsimp only [jrepl, List.set, jstk]
          refine j_goto hC dX5_readNumber_80 (tgt := 105) (by decide) ?_
          refine j_iload hC dX5_readNumber_105 rfl ?_
          have hsub : True := trivial
          refine j_iret hC hQ rfl rfl (Nat.le_of_ble_eq_true rfl) (Nat.le_of_ble_eq_true rfl) dX5_readNumber_107 rfl ⟨?_, ?_⟩
          · exact congrArg (fun z => some (Value.int z)) hv
          · first | rw [rnF_a (by first | exact Or.inl (c_62.trans e_4) | exact Or.inr (jb1 c_69))] | rw [rnF_b (fun q => q.elim (fun z => c_62 (z.trans e_4.symm)) (jb0 c_69)) (by rw [← hv]; first | exact Or.inl c_86 | exact Or.inr c_92)] | rw [rnF_c (fun q => q.elim (fun z => c_62 (z.trans e_4.symm)) (jb0 c_69)) (by rw [← hv]; exact fun q => q.elim c_86 (fun z => z c_92))]
        · skip
          refine j_aload_n hC dX5_readNumber_65 rfl rfl ?_
          refine j_callVR hC [0] (c_X5_isAtDigit g _ _ _) mX5_isAtDigit k249 rfl rfl rfl rfl rfl ⟨(Nat.le_of_ble_eq_true rfl), (Nat.le_of_ble_eq_true rfl)⟩ (Nat.le_of_ble_eq_true rfl) ⟨(Nat.le_of_ble_eq_true rfl), (Nat.le_of_ble_eq_true rfl)⟩ dX5_readNumber_66 ?_
          dsimp only [jrepl, List.set, jstk]
          refine j_if_eq hC dX5_readNumber_69 (tgt := 83) (by decide) (fun c_69 => ?_) (fun c_69 => ?_)
          · skip
            refine j_iload hC dX5_readNumber_83 rfl ?_
            refine j_iload_n hC dX5_readNumber_85 rfl rfl ?_
            refine j_icmp_lt hC dX5_readNumber_86 (tgt := 95) (by decide) (fun c_86 => ?_) (fun c_86 => ?_)
            · skip
              refine j_aload_n hC dX5_readNumber_95 rfl rfl ?_
              refine j_aload_n hC dX5_readNumber_96 rfl rfl ?_
              refine j_get hC uX5 0 0 2 rfl rfl k74 rfl dX5_readNumber_97 ?_
              refine j_iconst hC (1) dX5_readNumber_100 (by decide) ?_
              refine j_isub hC dX5_readNumber_101 ?_
              refine j_callVR hC [0] (c_X5_fail g _ _ _ _) mX5_fail k241 rfl rfl rfl rfl rfl ⟨(Nat.le_of_ble_eq_true rfl), (Nat.le_of_ble_eq_true rfl)⟩ (Nat.le_of_ble_eq_true rfl) ⟨(Nat.le_of_ble_eq_true rfl), (Nat.le_of_ble_eq_true rfl)⟩ dX5_readNumber_102 ?_
              dsimp only [jrepl, List.set, jstk]
              refine j_iload hC dX5_readNumber_105 rfl ?_
              have hsub : True := trivial
              refine j_iret hC hQ rfl rfl (Nat.le_of_ble_eq_true rfl) (Nat.le_of_ble_eq_true rfl) dX5_readNumber_107 rfl ⟨?_, ?_⟩
              · exact congrArg (fun z => some (Value.int z)) hv
              · first | rw [rnF_a (by first | exact Or.inl (c_62.trans e_4) | exact Or.inr (jb1 c_69))] | rw [rnF_b (fun q => q.elim (fun z => c_62 (z.trans e_4.symm)) (jb0 c_69)) (by rw [← hv]; first | exact Or.inl c_86 | exact Or.inr c_92)] | rw [rnF_c (fun q => q.elim (fun z => c_62 (z.trans e_4.symm)) (jb0 c_69)) (by rw [← hv]; exact fun q => q.elim c_86 (fun z => z c_92))]
            · skip
              refine j_iload hC dX5_readNumber_89 rfl ?_
              refine j_iload_n hC dX5_readNumber_91 rfl rfl ?_
              refine j_icmp_le hC dX5_readNumber_92 (tgt := 105) (by decide) (fun c_92 => ?_) (fun c_92 => ?_)
              · skip
                refine j_iload hC dX5_readNumber_105 rfl ?_
                have hsub : True := trivial
                refine j_iret hC hQ rfl rfl (Nat.le_of_ble_eq_true rfl) (Nat.le_of_ble_eq_true rfl) dX5_readNumber_107 rfl ⟨?_, ?_⟩
                · exact congrArg (fun z => some (Value.int z)) hv
                · first | rw [rnF_a (by first | exact Or.inl (c_62.trans e_4) | exact Or.inr (jb1 c_69))] | rw [rnF_b (fun q => q.elim (fun z => c_62 (z.trans e_4.symm)) (jb0 c_69)) (by rw [← hv]; first | exact Or.inl c_86 | exact Or.inr c_92)] | rw [rnF_c (fun q => q.elim (fun z => c_62 (z.trans e_4.symm)) (jb0 c_69)) (by rw [← hv]; exact fun q => q.elim c_86 (fun z => z c_92))]
              · skip
                refine j_aload_n hC dX5_readNumber_95 rfl rfl ?_
                refine j_aload_n hC dX5_readNumber_96 rfl rfl ?_
                refine j_get hC uX5 0 0 2 rfl rfl k74 rfl dX5_readNumber_97 ?_
                refine j_iconst hC (1) dX5_readNumber_100 (by decide) ?_
                refine j_isub hC dX5_readNumber_101 ?_
                refine j_callVR hC [0] (c_X5_fail g _ _ _ _) mX5_fail k241 rfl rfl rfl rfl rfl ⟨(Nat.le_of_ble_eq_true rfl), (Nat.le_of_ble_eq_true rfl)⟩ (Nat.le_of_ble_eq_true rfl) ⟨(Nat.le_of_ble_eq_true rfl), (Nat.le_of_ble_eq_true rfl)⟩ dX5_readNumber_102 ?_
                dsimp only [jrepl, List.set, jstk]
                refine j_iload hC dX5_readNumber_105 rfl ?_
                have hsub : True := trivial
                refine j_iret hC hQ rfl rfl (Nat.le_of_ble_eq_true rfl) (Nat.le_of_ble_eq_true rfl) dX5_readNumber_107 rfl ⟨?_, ?_⟩
                · exact congrArg (fun z => some (Value.int z)) hv
                · first | rw [rnF_a (by first | exact Or.inl (c_62.trans e_4) | exact Or.inr (jb1 c_69))] | rw [rnF_b (fun q => q.elim (fun z => c_62 (z.trans e_4.symm)) (jb0 c_69)) (by rw [← hv]; first | exact Or.inl c_86 | exact Or.inr c_92)] | rw [rnF_c (fun q => q.elim (fun z => c_62 (z.trans e_4.symm)) (jb0 c_69)) (by rw [← hv]; exact fun q => q.elim c_86 (fun z => z c_92))]
          · skip
            refine j_aload_n hC dX5_readNumber_72 rfl rfl ?_
            refine j_aload_n hC dX5_readNumber_73 rfl rfl ?_
            refine j_get hC uX5 0 0 2 rfl rfl k74 rfl dX5_readNumber_74 ?_
            refine j_callVR hC [0] (c_X5_fail g _ _ _ _) mX5_fail k241 rfl rfl rfl rfl rfl ⟨(Nat.le_of_ble_eq_true rfl), (Nat.le_of_ble_eq_true rfl)⟩ (Nat.le_of_ble_eq_true rfl) ⟨(Nat.le_of_ble_eq_true rfl), (Nat.le_of_ble_eq_true rfl)⟩ dX5_readNumber_77 ?_
            dsimp only [jrepl, List.set, jstk]
            refine j_goto hC dX5_readNumber_80 (tgt := 105) (by decide) ?_
            refine j_iload hC dX5_readNumber_105 rfl ?_
            have hsub : True := trivial
            refine j_iret hC hQ rfl rfl (Nat.le_of_ble_eq_true rfl) (Nat.le_of_ble_eq_true rfl) dX5_readNumber_107 rfl ⟨?_, ?_⟩
            · exact congrArg (fun z => some (Value.int z)) hv
            · first | rw [rnF_a (by first | exact Or.inl (c_62.trans e_4) | exact Or.inr (jb1 c_69))] | rw [rnF_b (fun q => q.elim (fun z => c_62 (z.trans e_4.symm)) (jb0 c_69)) (by rw [← hv]; first | exact Or.inl c_86 | exact Or.inr c_92)] | rw [rnF_c (fun q => q.elim (fun z => c_62 (z.trans e_4.symm)) (jb0 c_69)) (by rw [← hv]; exact fun q => q.elim c_86 (fun z => z c_92))]
      · skip
        have hr0 : 0 < r := by have := jlt h1 h6 (by omega) (by omega) c_15; omega
        refine j_aload_n hC dX5_readNumber_18 rfl rfl ?_
        refine j_callVR hC [0] (c_X5_isAtDigit g _ _ _) mX5_isAtDigit k249 rfl rfl rfl rfl rfl ⟨(Nat.le_of_ble_eq_true rfl), (Nat.le_of_ble_eq_true rfl)⟩ (Nat.le_of_ble_eq_true rfl) ⟨(Nat.le_of_ble_eq_true rfl), (Nat.le_of_ble_eq_true rfl)⟩ dX5_readNumber_19 ?_
        dsimp only [jrepl, List.set, jstk]
        refine j_if_eq hC dX5_readNumber_22 (tgt := 56) (by decide) (fun c_22 => ?_) (fun c_22 => ?_)
        · skip
          have he : (I1, x5) = rnl f m I 0 := by
            first | (rw [← hl, show r = 0 by (have := jge h1 h6 (by omega) (by omega) c_15; omega)]; rfl) | (obtain ⟨s, rfl⟩ : ∃ s, r = s + 1 := ⟨r - 1, by omega⟩; rw [← hl, rnl_2 (jb0 c_22)])
          have hv : x5 = (rnl f m I 0).2 := congrArg Prod.snd he
          have hI1 : I1 = (rnl f m I 0).1 := congrArg Prod.fst he
          subst hI1
          refine j_aload_n hC dX5_readNumber_56 rfl rfl ?_
          refine j_get hC uX5 0 0 2 rfl rfl k74 rfl dX5_readNumber_57 ?_
          refine j_iload hC dX5_readNumber_60 rfl ?_
          refine j_icmp_eq hC dX5_readNumber_62 (tgt := 72) (by decide) (fun c_62 => ?_) (fun c_62 => ?_)
          · skip
            refine j_aload_n hC dX5_readNumber_72 rfl rfl ?_
            refine j_aload_n hC dX5_readNumber_73 rfl rfl ?_
            refine j_get hC uX5 0 0 2 rfl rfl k74 rfl dX5_readNumber_74 ?_
            refine j_callVR hC [0] (c_X5_fail g _ _ _ _) mX5_fail k241 rfl rfl rfl rfl rfl ⟨(Nat.le_of_ble_eq_true rfl), (Nat.le_of_ble_eq_true rfl)⟩ (Nat.le_of_ble_eq_true rfl) ⟨(Nat.le_of_ble_eq_true rfl), (Nat.le_of_ble_eq_true rfl)⟩ dX5_readNumber_77 ?_
            dsimp only [jrepl, List.set, jstk]
            refine j_goto hC dX5_readNumber_80 (tgt := 105) (by decide) ?_
            refine j_iload hC dX5_readNumber_105 rfl ?_
            have hsub : True := trivial
            refine j_iret hC hQ rfl rfl (Nat.le_of_ble_eq_true rfl) (Nat.le_of_ble_eq_true rfl) dX5_readNumber_107 rfl ⟨?_, ?_⟩
            · exact congrArg (fun z => some (Value.int z)) hv
            · first | rw [rnF_a (by first | exact Or.inl (c_62.trans e_4) | exact Or.inr (jb1 c_69))] | rw [rnF_b (fun q => q.elim (fun z => c_62 (z.trans e_4.symm)) (jb0 c_69)) (by rw [← hv]; first | exact Or.inl c_86 | exact Or.inr c_92)] | rw [rnF_c (fun q => q.elim (fun z => c_62 (z.trans e_4.symm)) (jb0 c_69)) (by rw [← hv]; exact fun q => q.elim c_86 (fun z => z c_92))]
          · skip
            refine j_aload_n hC dX5_readNumber_65 rfl rfl ?_
            refine j_callVR hC [0] (c_X5_isAtDigit g _ _ _) mX5_isAtDigit k249 rfl rfl rfl rfl rfl ⟨(Nat.le_of_ble_eq_true rfl), (Nat.le_of_ble_eq_true rfl)⟩ (Nat.le_of_ble_eq_true rfl) ⟨(Nat.le_of_ble_eq_true rfl), (Nat.le_of_ble_eq_true rfl)⟩ dX5_readNumber_66 ?_
            dsimp only [jrepl, List.set, jstk]
            refine j_if_eq hC dX5_readNumber_69 (tgt := 83) (by decide) (fun c_69 => ?_) (fun c_69 => ?_)
            · skip
              refine j_iload hC dX5_readNumber_83 rfl ?_
              refine j_iload_n hC dX5_readNumber_85 rfl rfl ?_
              refine j_icmp_lt hC dX5_readNumber_86 (tgt := 95) (by decide) (fun c_86 => ?_) (fun c_86 => ?_)
              · skip
                refine j_aload_n hC dX5_readNumber_95 rfl rfl ?_
                refine j_aload_n hC dX5_readNumber_96 rfl rfl ?_
                refine j_get hC uX5 0 0 2 rfl rfl k74 rfl dX5_readNumber_97 ?_
                refine j_iconst hC (1) dX5_readNumber_100 (by decide) ?_
                refine j_isub hC dX5_readNumber_101 ?_
                refine j_callVR hC [0] (c_X5_fail g _ _ _ _) mX5_fail k241 rfl rfl rfl rfl rfl ⟨(Nat.le_of_ble_eq_true rfl), (Nat.le_of_ble_eq_true rfl)⟩ (Nat.le_of_ble_eq_true rfl) ⟨(Nat.le_of_ble_eq_true rfl), (Nat.le_of_ble_eq_true rfl)⟩ dX5_readNumber_102 ?_
                dsimp only [jrepl, List.set, jstk]
                refine j_iload hC dX5_readNumber_105 rfl ?_
                have hsub : True := trivial
                refine j_iret hC hQ rfl rfl (Nat.le_of_ble_eq_true rfl) (Nat.le_of_ble_eq_true rfl) dX5_readNumber_107 rfl ⟨?_, ?_⟩
                · exact congrArg (fun z => some (Value.int z)) hv
                · first | rw [rnF_a (by first | exact Or.inl (c_62.trans e_4) | exact Or.inr (jb1 c_69))] | rw [rnF_b (fun q => q.elim (fun z => c_62 (z.trans e_4.symm)) (jb0 c_69)) (by rw [← hv]; first | exact Or.inl c_86 | exact Or.inr c_92)] | rw [rnF_c (fun q => q.elim (fun z => c_62 (z.trans e_4.symm)) (jb0 c_69)) (by rw [← hv]; exact fun q => q.elim c_86 (fun z => z c_92))]
              · skip
                refine j_iload hC dX5_readNumber_89 rfl ?_
                refine j_iload_n hC dX5_readNumber_91 rfl rfl ?_
                refine j_icmp_le hC dX5_readNumber_92 (tgt := 105) (by decide) (fun c_92 => ?_) (fun c_92 => ?_)
                · skip
                  refine j_iload hC dX5_readNumber_105 rfl ?_
                  have hsub : True := trivial
                  refine j_iret hC hQ rfl rfl (Nat.le_of_ble_eq_true rfl) (Nat.le_of_ble_eq_true rfl) dX5_readNumber_107 rfl ⟨?_, ?_⟩
                  · exact congrArg (fun z => some (Value.int z)) hv
                  · first | rw [rnF_a (by first | exact Or.inl (c_62.trans e_4) | exact Or.inr (jb1 c_69))] | rw [rnF_b (fun q => q.elim (fun z => c_62 (z.trans e_4.symm)) (jb0 c_69)) (by rw [← hv]; first | exact Or.inl c_86 | exact Or.inr c_92)] | rw [rnF_c (fun q => q.elim (fun z => c_62 (z.trans e_4.symm)) (jb0 c_69)) (by rw [← hv]; exact fun q => q.elim c_86 (fun z => z c_92))]
                · skip
                  refine j_aload_n hC dX5_readNumber_95 rfl rfl ?_
                  refine j_aload_n hC dX5_readNumber_96 rfl rfl ?_
                  refine j_get hC uX5 0 0 2 rfl rfl k74 rfl dX5_readNumber_97 ?_
                  refine j_iconst hC (1) dX5_readNumber_100 (by decide) ?_
                  refine j_isub hC dX5_readNumber_101 ?_
                  refine j_callVR hC [0] (c_X5_fail g _ _ _ _) mX5_fail k241 rfl rfl rfl rfl rfl ⟨(Nat.le_of_ble_eq_true rfl), (Nat.le_of_ble_eq_true rfl)⟩ (Nat.le_of_ble_eq_true rfl) ⟨(Nat.le_of_ble_eq_true rfl), (Nat.le_of_ble_eq_true rfl)⟩ dX5_readNumber_102 ?_
                  dsimp only [jrepl, List.set, jstk]
                  refine j_iload hC dX5_readNumber_105 rfl ?_
                  have hsub : True := trivial
                  refine j_iret hC hQ rfl rfl (Nat.le_of_ble_eq_true rfl) (Nat.le_of_ble_eq_true rfl) dX5_readNumber_107 rfl ⟨?_, ?_⟩
                  · exact congrArg (fun z => some (Value.int z)) hv
                  · first | rw [rnF_a (by first | exact Or.inl (c_62.trans e_4) | exact Or.inr (jb1 c_69))] | rw [rnF_b (fun q => q.elim (fun z => c_62 (z.trans e_4.symm)) (jb0 c_69)) (by rw [← hv]; first | exact Or.inl c_86 | exact Or.inr c_92)] | rw [rnF_c (fun q => q.elim (fun z => c_62 (z.trans e_4.symm)) (jb0 c_69)) (by rw [← hv]; exact fun q => q.elim c_86 (fun z => z c_92))]
            · skip
              refine j_aload_n hC dX5_readNumber_72 rfl rfl ?_
              refine j_aload_n hC dX5_readNumber_73 rfl rfl ?_
              refine j_get hC uX5 0 0 2 rfl rfl k74 rfl dX5_readNumber_74 ?_
              refine j_callVR hC [0] (c_X5_fail g _ _ _ _) mX5_fail k241 rfl rfl rfl rfl rfl ⟨(Nat.le_of_ble_eq_true rfl), (Nat.le_of_ble_eq_true rfl)⟩ (Nat.le_of_ble_eq_true rfl) ⟨(Nat.le_of_ble_eq_true rfl), (Nat.le_of_ble_eq_true rfl)⟩ dX5_readNumber_77 ?_
              dsimp only [jrepl, List.set, jstk]
              refine j_goto hC dX5_readNumber_80 (tgt := 105) (by decide) ?_
              refine j_iload hC dX5_readNumber_105 rfl ?_
              have hsub : True := trivial
              refine j_iret hC hQ rfl rfl (Nat.le_of_ble_eq_true rfl) (Nat.le_of_ble_eq_true rfl) dX5_readNumber_107 rfl ⟨?_, ?_⟩
              · exact congrArg (fun z => some (Value.int z)) hv
              · first | rw [rnF_a (by first | exact Or.inl (c_62.trans e_4) | exact Or.inr (jb1 c_69))] | rw [rnF_b (fun q => q.elim (fun z => c_62 (z.trans e_4.symm)) (jb0 c_69)) (by rw [← hv]; first | exact Or.inl c_86 | exact Or.inr c_92)] | rw [rnF_c (fun q => q.elim (fun z => c_62 (z.trans e_4.symm)) (jb0 c_69)) (by rw [← hv]; exact fun q => q.elim c_86 (fun z => z c_92))]
        · skip
          refine j_bipush hC (10) dX5_readNumber_25 (by decide) ?_
          refine j_iload hC dX5_readNumber_27 rfl ?_
          refine j_imul hC dX5_readNumber_29 ?_
          refine j_aload_n hC dX5_readNumber_30 rfl rfl ?_
          refine j_callVR hC [0] (c_X5_peek g _ _ _) mX5_peek k229 rfl rfl rfl rfl rfl ⟨(Nat.le_of_ble_eq_true rfl), (Nat.le_of_ble_eq_true rfl)⟩ (Nat.le_of_ble_eq_true rfl) ⟨(Nat.le_of_ble_eq_true rfl), (Nat.le_of_ble_eq_true rfl)⟩ dX5_readNumber_31 ?_
          dsimp only [jrepl, List.set, jstk]
          refine j_iadd hC dX5_readNumber_34 ?_
          refine j_bipush hC (48) dX5_readNumber_35 (by decide) ?_
          refine j_isub hC dX5_readNumber_37 ?_
          refine j_istore hC dX5_readNumber_38 rfl rfl rfl (fun v_38 e_38 => ?_)
          refine j_aload_n hC dX5_readNumber_40 rfl rfl ?_
          refine j_dup hC dX5_readNumber_41 rfl ?_
          refine j_get hC uX5 0 0 2 rfl rfl k74 rfl dX5_readNumber_42 ?_
          refine j_iconst hC (1) dX5_readNumber_45 (by decide) ?_
          refine j_iadd hC dX5_readNumber_46 ?_
          refine j_put_5_2 (bi := 0) hC rfl k74 dX5_readNumber_47 ?_
          dsimp only [List.set]
          refine j_iinc hC (1) dX5_readNumber_50 rfl rfl rfl rfl rfl (fun v_50 e_50 => ?_)
          refine j_goto hC dX5_readNumber_53 (tgt := 12) (by decide) ?_
          refine j_pick [0, 1, 2, 3, 4, 5, 6] ?_
          obtain ⟨s, rfl⟩ : ∃ s, r = s + 1 := ⟨r - 1, by omega⟩
          exact ih_12 s _ _ _ (by omega) (by omega) (by rw [e_50, h6, show m - s = (m - (s + 1)) + 1 by omega]; exact nI_1 _) (by rw [e_38, ← hl, rnl_1 (jb1 c_22)])
  refine j_pick [0, 1, 2, 3, 4, 5, 6] ?_
  exact L_12 (m + 1) m _ _ _ (by omega) (by omega) (by rw [Nat.sub_self]; exact e_10.trans nI_0.symm) (by rw [e_7])
