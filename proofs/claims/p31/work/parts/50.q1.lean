/-! p31: the law's small methods -/
theorem cell_v (v : Int32) : ∃ j : Nat, j < 2 ^ 31 ∧ v &&& 2147483647 = nI j := pk_andE v 31 (by decide)
set_option maxHeartbeats 1000000 in
set_option maxRecDepth 100000 in
theorem c_L_cell (g : jG) (s0 L : Nat) (xs : Nat → Int32) (x : Int32) (j : Nat) (hx : x = nI j) (hj : j < 2 ^ 31) (hL : L < 2 ^ 31) : ConS g s0 L xs yL_cell cL_cell 2 (some .int) 0 0 0 0 [.ref s0, .int x] [] (fun r b => (∃ j : Nat, j < 2 ^ 31 ∧ r = some (.int (nI j))) ∧ b = []) := by
  refine ConS.of (own := RL) (lv := [(0, .ref s0), (1, .int x)]) (by decide) rfl (Nat.le_of_ble_eq_true rfl) rfl ?_
  intro E hC hQ hN hX hbs hbA
  refine j_iload_n hC dL_cell_0 rfl rfl ?_
  refine j_aload_n hC dL_cell_1 rfl rfl ?_
  refine j_slen hC hX hbs hbA dL_cell_2 ?_
  refine j_icmp_ge hC dL_cell_3 (tgt := 12) (by decide) (fun c_3 => ?_) (fun c_3 => ?_)
  · skip
    refine j_ldc hC (15486181) k336 dL_cell_12 ?_
    refine j_iload_n hC dL_cell_14 rfl rfl ?_
    refine j_imul hC dL_cell_15 ?_
    refine j_sipush hC (1801) dL_cell_16 (by decide) ?_
    refine j_iadd hC dL_cell_19 ?_
    refine j_ldc hC (2147483647) k337 dL_cell_20 ?_
    refine j_iand hC dL_cell_22 ?_
    refine j_iret hC hQ rfl rfl (Nat.le_of_ble_eq_true rfl) (Nat.le_of_ble_eq_true rfl) dL_cell_23 rfl ?_
    (obtain ⟨j, q1, q2⟩ := cell_v _; exact ⟨⟨j, q1, congrArg (fun z => some (Value.int z)) q2⟩, rfl⟩)
  · skip
    refine j_aload_n hC dL_cell_6 rfl rfl ?_
    refine j_iload_n hC dL_cell_7 rfl rfl ?_
    have hin : vp_in x L := jin (by rw [hx]; exact nI_pos hj) c_3 hL
    refine j_sld hC hX hbs hbA hin dL_cell_8 ?_
    refine j_goto hC dL_cell_9 (tgt := 20) (by decide) ?_
    refine j_ldc hC (2147483647) k337 dL_cell_20 ?_
    refine j_iand hC dL_cell_22 ?_
    refine j_iret hC hQ rfl rfl (Nat.le_of_ble_eq_true rfl) (Nat.le_of_ble_eq_true rfl) dL_cell_23 rfl ?_
    (obtain ⟨j, q1, q2⟩ := cell_v _; exact ⟨⟨j, q1, congrArg (fun z => some (Value.int z)) q2⟩, rfl⟩)
theorem rated_3 : ∀ b, b < 4 → ¬ nI b = 3 → 60 + 30 * nI b = rated (nI b) := by decide +kernel
set_option maxHeartbeats 1000000 in
set_option maxRecDepth 100000 in
theorem c_L_rated (g : jG) (x : Int32) (b : Nat) (hx : x = nI b) (hb : b ≤ 3) : Con g yL_rated cL_rated 1 (some .int) 0 0 0 0 [.int x] [] (jR (some (.int (rated x))) []) := by
  refine Con.of (own := RL) (lv := [(0, .int x)]) (by decide) rfl (Nat.le_of_ble_eq_true rfl) rfl ?_
  intro E hC hQ hN
  refine j_iload_n hC dL_rated_0 rfl rfl ?_
  refine j_iconst hC (3) dL_rated_1 (by decide) ?_
  refine j_icmp_ne hC dL_rated_2 (tgt := 11) (by decide) (fun c_2 => ?_) (fun c_2 => ?_)
  · skip
    refine j_bipush hC (60) dL_rated_11 (by decide) ?_
    refine j_bipush hC (30) dL_rated_13 (by decide) ?_
    refine j_iload_n hC dL_rated_15 rfl rfl ?_
    refine j_imul hC dL_rated_16 ?_
    refine j_iadd hC dL_rated_17 ?_
    refine j_iret hC hQ rfl rfl (Nat.le_of_ble_eq_true rfl) (Nat.le_of_ble_eq_true rfl) dL_rated_18 rfl ⟨?_, ?_⟩
    · (rw [hx] at c_2 ⊢; first | (rw [c_2]; rfl) | exact congrArg (fun z => some (Value.int z)) (rated_3 b (by omega) c_2))
    · rfl
  · skip
    refine j_sipush hC (180) dL_rated_5 (by decide) ?_
    refine j_goto hC dL_rated_8 (tgt := 18) (by decide) ?_
    refine j_iret hC hQ rfl rfl (Nat.le_of_ble_eq_true rfl) (Nat.le_of_ble_eq_true rfl) dL_rated_18 rfl ⟨?_, ?_⟩
    · (rw [hx] at c_2 ⊢; first | (rw [c_2]; rfl) | exact congrArg (fun z => some (Value.int z)) (rated_3 b (by omega) c_2))
    · rfl
