theorem j_dgen {g : jG} {R : Room} {E : jE} {nL pc : Nat} {lv : List (Nat × Value)} {st : List Value} {k n a : Nat} {d : Nat → Nat} {I : jF} {A : Nat → jF} (h0 : d 0 = a) (kk : ∀ d2 : Nat → Nat, d2 0 = a → J g R E nL pc lv st [mc g d2 I A] k n) : J g R E nL pc lv st [mc g d I A] k n := kk d h0
/-! the model at its start -/
theorem MI_00 {A : Nat → jF} (h : A 1 = upd (fun _ => 0) 104 60) : MI (fun _ => 0) A T00 := by
  refine ⟨nI_z, ?_, ⟨Nat.zero_le _, fun q hq => absurd hq (Nat.not_lt_zero q)⟩, nI_z, Nat.zero_le _, fun i hi => absurd hi (Nat.not_lt_zero i)⟩
  rw [h]
  refine ⟨⟨nI_z, Nat.zero_le _⟩, fun i hi => absurd hi (Nat.not_lt_zero i), ⟨nI_z, Nat.zero_le _⟩, fun r hr => absurd hr (Nat.not_lt_zero r), ⟨rfl, by decide⟩, ⟨rfl, 0, nI_z, Nat.zero_le _⟩, ⟨rfl, fun l hl => ?_⟩, rfl, rfl⟩
  rw [pk_un (by omega)]; decide
set_option maxHeartbeats 1000000 in
set_option maxRecDepth 100000 in
theorem c_X7_init (g : jG) (a : Nat) : Con g yX7_init cX7_init 1 none 1 16 10 4700 [.ref a] [[(a, .inr (7, [.null, .int 0, .null, .int 0, .int 0, .int 0, .null, .null, .int 0, .int 0, .null, .null, .null, .null, .null, .null]))]] (fun r b => r = none ∧ ∃ d : Nat → Nat, d 0 = a ∧ MW g d T00 b) := by
  refine Con.of (own := RX7) (lv := [(0, .ref a)]) (by decide) rfl (Nat.le_of_ble_eq_true rfl) rfl ?_
  intro E hC hQ hN
  refine j_aload_n hC dX7_init_0 rfl rfl ?_
  refine j_objInit hC k723 k63 k64 (Nat.le_of_ble_eq_true rfl) (Nat.le_of_ble_eq_true rfl) dX7_init_1 ?_
  refine j_aload_n hC dX7_init_4 rfl rfl ?_
  refine j_sipush hC (999) dX7_init_5 (by decide) ?_
  refine j_newa hC 1 999 rfl rfl k137 (fun _ => rfl) (by decide) (by decide) (by decide) (Nat.le_of_ble_eq_true rfl) (Nat.le_of_ble_eq_true rfl) dX7_init_8 (fun q_8 => ?_)
  dsimp only [List.cons_append, List.nil_append]
  refine j_putF hC hN uX7 (bi := 0) (bj := 0) (kf := 0) rfl rfl (by decide) k724 rfl rfl rfl rfl (Nat.le_of_ble_eq_true rfl) dX7_init_10 ?_
  dsimp only [List.set]
  refine j_aload_n hC dX7_init_13 rfl rfl ?_
  refine j_bipush hC (80) dX7_init_14 (by decide) ?_
  refine j_newa hC 1 80 rfl rfl k137 (fun _ => rfl) (by decide) (by decide) (by decide) (Nat.le_of_ble_eq_true rfl) (Nat.le_of_ble_eq_true rfl) dX7_init_16 (fun q_16 => ?_)
  dsimp only [List.cons_append, List.nil_append]
  refine j_putF hC hN uX7 (bi := 0) (bj := 0) (kf := 2) rfl rfl (by decide) k726 rfl rfl rfl rfl (Nat.le_of_ble_eq_true rfl) dX7_init_18 ?_
  dsimp only [List.set]
  refine j_aload_n hC dX7_init_21 rfl rfl ?_
  refine j_bipush hC (50) dX7_init_22 (by decide) ?_
  refine j_newa hC 1 50 rfl rfl k137 (fun _ => rfl) (by decide) (by decide) (by decide) (Nat.le_of_ble_eq_true rfl) (Nat.le_of_ble_eq_true rfl) dX7_init_24 (fun q_24 => ?_)
  dsimp only [List.cons_append, List.nil_append]
  refine j_putF hC hN uX7 (bi := 0) (bj := 0) (kf := 6) rfl rfl (by decide) k730 rfl rfl rfl rfl (Nat.le_of_ble_eq_true rfl) dX7_init_26 ?_
  dsimp only [List.set]
  refine j_aload_n hC dX7_init_29 rfl rfl ?_
  refine j_bipush hC (12) dX7_init_30 (by decide) ?_
  refine j_newa hC 1 12 rfl rfl k137 (fun _ => rfl) (by decide) (by decide) (by decide) (Nat.le_of_ble_eq_true rfl) (Nat.le_of_ble_eq_true rfl) dX7_init_32 (fun q_32 => ?_)
  dsimp only [List.cons_append, List.nil_append]
  refine j_putF hC hN uX7 (bi := 0) (bj := 0) (kf := 7) rfl rfl (by decide) k731 rfl rfl rfl rfl (Nat.le_of_ble_eq_true rfl) dX7_init_34 ?_
  dsimp only [List.set]
  refine j_aload_n hC dX7_init_37 rfl rfl ?_
  refine j_sipush hC (201) dX7_init_38 (by decide) ?_
  refine j_newa hC 1 201 rfl rfl k137 (fun _ => rfl) (by decide) (by decide) (by decide) (Nat.le_of_ble_eq_true rfl) (Nat.le_of_ble_eq_true rfl) dX7_init_41 (fun q_41 => ?_)
  dsimp only [List.cons_append, List.nil_append]
  refine j_putF hC hN uX7 (bi := 0) (bj := 0) (kf := 10) rfl rfl (by decide) k734 rfl rfl rfl rfl (Nat.le_of_ble_eq_true rfl) dX7_init_43 ?_
  dsimp only [List.set]
  refine j_aload_n hC dX7_init_46 rfl rfl ?_
  refine j_sipush hC (201) dX7_init_47 (by decide) ?_
  refine j_newa hC 2 201 rfl rfl k773 (fun _ => rfl) (by decide) (by decide) (by decide) (Nat.le_of_ble_eq_true rfl) (Nat.le_of_ble_eq_true rfl) dX7_init_50 (fun q_50 => ?_)
  dsimp only [List.cons_append, List.nil_append]
  refine j_putF hC hN uX7 (bi := 0) (bj := 0) (kf := 11) rfl rfl (by decide) k735 rfl rfl rfl rfl (Nat.le_of_ble_eq_true rfl) dX7_init_52 ?_
  dsimp only [List.set]
  refine j_aload_n hC dX7_init_55 rfl rfl ?_
  refine j_sipush hC (1024) dX7_init_56 (by decide) ?_
  refine j_newa hC 1 1024 rfl rfl k137 (fun _ => rfl) (by decide) (by decide) (by decide) (Nat.le_of_ble_eq_true rfl) (Nat.le_of_ble_eq_true rfl) dX7_init_59 (fun q_59 => ?_)
  dsimp only [List.cons_append, List.nil_append]
  refine j_putF hC hN uX7 (bi := 0) (bj := 0) (kf := 12) rfl rfl (by decide) k736 rfl rfl rfl rfl (Nat.le_of_ble_eq_true rfl) dX7_init_61 ?_
  dsimp only [List.set]
  refine j_aload_n hC dX7_init_64 rfl rfl ?_
  refine j_sipush hC (1024) dX7_init_65 (by decide) ?_
  refine j_newa hC 1 1024 rfl rfl k137 (fun _ => rfl) (by decide) (by decide) (by decide) (Nat.le_of_ble_eq_true rfl) (Nat.le_of_ble_eq_true rfl) dX7_init_68 (fun q_68 => ?_)
  dsimp only [List.cons_append, List.nil_append]
  refine j_putF hC hN uX7 (bi := 0) (bj := 0) (kf := 13) rfl rfl (by decide) k737 rfl rfl rfl rfl (Nat.le_of_ble_eq_true rfl) dX7_init_70 ?_
  dsimp only [List.set]
  refine j_aload_n hC dX7_init_73 rfl rfl ?_
  refine j_sipush hC (1024) dX7_init_74 (by decide) ?_
  refine j_newa hC 2 1024 rfl rfl k773 (fun _ => rfl) (by decide) (by decide) (by decide) (Nat.le_of_ble_eq_true rfl) (Nat.le_of_ble_eq_true rfl) dX7_init_77 (fun q_77 => ?_)
  dsimp only [List.cons_append, List.nil_append]
  refine j_putF hC hN uX7 (bi := 0) (bj := 0) (kf := 14) rfl rfl (by decide) k738 rfl rfl rfl rfl (Nat.le_of_ble_eq_true rfl) dX7_init_79 ?_
  dsimp only [List.set]
  refine j_aload_n hC dX7_init_82 rfl rfl ?_
  refine j_bipush hC (10) dX7_init_83 (by decide) ?_
  refine j_newa hC 1 10 rfl rfl k137 (fun _ => rfl) (by decide) (by decide) (by decide) (Nat.le_of_ble_eq_true rfl) (Nat.le_of_ble_eq_true rfl) dX7_init_85 (fun q_85 => ?_)
  dsimp only [List.cons_append, List.nil_append]
  refine j_putF hC hN uX7 (bi := 0) (bj := 0) (kf := 15) rfl rfl (by decide) k739 rfl rfl rfl rfl (Nat.le_of_ble_eq_true rfl) dX7_init_87 ?_
  dsimp only [List.set]
  refine j_eqfl [mc g (fun i => match i with | 0 => a | 1 => q_8 | 2 => q_16 | 3 => q_24 | 4 => q_32 | 5 => q_41 | 6 => q_50 | 7 => q_59 | 8 => q_68 | 9 => q_77 | _ => q_85) (fun _ => 0) (fun _ _ => 0)] rfl ?_
  refine j_dgen (a := a) rfl (fun dd hd => ?_)
  subst hd
  refine j_aload_n hC dX7_init_90 rfl rfl ?_
  refine j_get hC uX7 0 0 0 rfl rfl k724 rfl dX7_init_91 ?_
  refine j_bipush hC (104) dX7_init_94 (by decide) ?_
  refine j_bipush hC (60) dX7_init_96 (by decide) ?_
  refine j_st_7_1 (bi := 0) (m := 104) hC rfl (by decide) (by decide) dX7_init_98 (fun A_98 hA_98 hK_98 => ?_)
  dsimp only [List.set]
  refine j_vret hC hQ rfl (Nat.le_of_ble_eq_true rfl) (Nat.le_of_ble_eq_true rfl) dX7_init_99 rfl ?_
  exact ⟨rfl, dd, rfl, _, _, rfl, MI_00 hA_98⟩
