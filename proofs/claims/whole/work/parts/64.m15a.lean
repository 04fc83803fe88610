theorem rr_fin {g : jG} {d : Nat → Nat} {I I1 : jF} {A A1 : Nat → jF} {n p rm q1 q2 : Nat} {v1 v2 : Int32} (hn : n ≤ 80) (hr6 : rm < 6) (hg : ∀ k, k ≠ 4 → k ≠ 5 → k ≠ 9 → I1 k = I k) (hm : ∀ k, k ≠ 4 → A1 k = A k) (hq : ∀ q, q < 2 * rm → A1 4 q = A 4 q) (hx : I1 9 = nI (rm + 1)) (hp5 : p < q2) (hpn : p ≤ n) (h5n : q2 ≤ n) (hy : (q2 < n ∧ A 2 q2 = 59) → I1 4 = nI (q2 + 1)) (hz : ¬ (q2 < n ∧ A 2 q2 = 59) → I1 4 = nI q2)
    (w0 : A1 4 (2 * rm) = v1) (w1 : A1 4 (2 * rm + 1) = v2) (hr : ∃ a b : Nat, v1 = nI a ∧ v2 = nI b ∧ a ≤ b ∧ b ≤ 200)
    (hJA : ∀ J, jS J n p (-1) → jS (rrA J (A 2)) n q1 (-1) ∧ lV J (A 2) 114 3 = v1) (hJB : ∀ J, jS J n p (-1) → jS (lE (rrA J (A 2)) (A 2) 45 3 (lV J (A 2) 114 3) 200) n q2 (-1) ∧ lV (rrA J (A 2)) (A 2) 45 3 = v2) :
    ∃ (I2 : jF) (A2 : Nat → jF), [mc g d I1 A1] = [mc g d I2 A2] ∧ (∀ k, k ≠ 4 → k ≠ 5 → k ≠ 9 → I2 k = I k) ∧ (∀ k, k ≠ 4 → A2 k = A k) ∧ (∀ q, q < 2 * rm → A2 4 q = A 4 q) ∧ ((some (Value.int (if q2 < n ∧ A 2 q2 = 59 then 1 else 0)) = some (.int 0) ∧ ∃ s, s ≤ n ∧ I2 4 = nI s ∧ ((rm = 6 ∧ s = p) ∨ (rm < 6 ∧ ∀ J, jS J n p (-1) → rrZ J (A 2) 3 = nI s))) ∨ (some (Value.int (if q2 < n ∧ A 2 q2 = 59 then 1 else 0)) = some (.int 1) ∧ rm < 6 ∧ I2 9 = nI (rm + 1) ∧ ∃ q, p < q ∧ q ≤ n ∧ I2 4 = nI q ∧ (∃ a b : Nat, A2 4 (2 * rm) = nI a ∧ A2 4 (2 * rm + 1) = nI b ∧ a ≤ b ∧ b ≤ 200) ∧ ∀ J, jS J n p (-1) → jS (rrZ J (A 2)) n q (-1) ∧ rrF J (A 2) = A2 4 (2 * rm) ∧ rrT J (A 2) = A2 4 (2 * rm + 1))) := by
  refine ⟨I1, A1, rfl, hg, hm, hq, ?_⟩
  by_cases c : q2 < n ∧ A 2 q2 = 59
  · rw [if_pos c]
    refine Or.inr ⟨rfl, hr6, hx, q2 + 1, by omega, c.1, hy c, by rw [w0, w1]; exact hr, fun J hJ => ⟨?_, ?_, ?_⟩⟩
    · exact tEx_ok (hJB J hJ).1 hn (by decide) c.1 c.2
    · rw [w0]; exact (hJA J hJ).2
    · rw [w1]; exact (hJB J hJ).2
  · rw [if_neg c]
    refine Or.inl ⟨rfl, q2, h5n, hz c, Or.inr ⟨hr6, fun J hJ => ?_⟩⟩
    exact tEx_no (hJB J hJ).1 hn (by decide) h5n c
set_option maxHeartbeats 8000000 in
set_option maxRecDepth 100000 in
theorem c_X7_readsRoute (g : jG) (d : Nat → Nat) (I : jF) (A : Nat → jF) (n p : Nat) (rm : Nat) (h3 : I 3 = nI n) (hn : n ≤ 80) (h4 : I 4 = nI p) (hp : p ≤ n) (h9 : I 9 = nI rm) (hrm : rm ≤ 6) (hpn : p < n) (hcp : A 2 p = 114) : Con g yX7_readsRoute cX7_readsRoute 2 (some .boolean) 3 67 0 0 [.ref (d 0)] [mc g d I A] (fun r b => ∃ (I1 : jF) (A1 : Nat → jF), b = [mc g d I1 A1] ∧ (∀ k, k ≠ 4 → k ≠ 5 → k ≠ 9 → I1 k = I k) ∧ (∀ k, k ≠ 4 → A1 k = A k) ∧ (∀ q, q < 2 * rm → A1 4 q = A 4 q) ∧ ((r = some (.int 0) ∧ ∃ s, s ≤ n ∧ I1 4 = nI s ∧ ((rm = 6 ∧ s = p) ∨ (rm < 6 ∧ ∀ J, jS J n p (-1) → rrZ J (A 2) 3 = nI s))) ∨ (r = some (.int 1) ∧ rm < 6 ∧ I1 9 = nI (rm + 1) ∧ ∃ q, p < q ∧ q ≤ n ∧ I1 4 = nI q ∧ (∃ a b : Nat, A1 4 (2 * rm) = nI a ∧ A1 4 (2 * rm + 1) = nI b ∧ a ≤ b ∧ b ≤ 200) ∧ ∀ J, jS J n p (-1) → jS (rrZ J (A 2)) n q (-1) ∧ rrF J (A 2) = A1 4 (2 * rm) ∧ rrT J (A 2) = A1 4 (2 * rm + 1)))) := by
  refine Con.of (own := RX7) (lv := [(0, .ref (d 0))]) (by decide) rfl (Nat.le_of_ble_eq_true rfl) rfl ?_
  intro E hC hQ hN
  refine j_aload_n hC dX7_readsRoute_0 rfl rfl ?_
  refine j_get hC uX7 0 0 9 rfl rfl k733 rfl dX7_readsRoute_1 ?_
  refine j_bipush hC (6) dX7_readsRoute_4 (by decide) ?_
  refine j_icmp_ne hC dX7_readsRoute_6 (tgt := 11) (by decide) (fun c_6 => ?_) (fun c_6 => ?_)
  · skip
    have hr6 : rm < 6 := by have : rm ≠ 6 := fun q => c_6 (by rw [h9, q]; rfl); omega
    refine j_aload_n hC dX7_readsRoute_11 rfl rfl ?_
    refine j_dup hC dX7_readsRoute_12 rfl ?_
    refine j_get hC uX7 0 0 4 rfl rfl k728 rfl dX7_readsRoute_13 ?_
    refine j_iconst hC (1) dX7_readsRoute_16 (by decide) ?_
    refine j_iadd hC dX7_readsRoute_17 ?_
    refine j_put_7_4 (bi := 0) hC rfl k728 dX7_readsRoute_18 ?_
    dsimp only [List.set]
    have h4_0 : upd I 4 (I 4 + 1) 4 = nI (p + 1) := by rw [pk_us, h4]; exact nI_1 p
    have h3_0 : upd I 4 (I 4 + 1) 3 = nI n := (pk_un (by decide)).trans h3
    have hx_0 : upd I 4 (I 4 + 1) 9 = nI rm := (pk_un (by decide)).trans h9
    have hg_0 : ∀ k, k ≠ 4 → k ≠ 5 → k ≠ 9 → upd I 4 (I 4 + 1) k = I k := fun k k4 _ _ => pk_un k4
    refine j_iconst hC (2) dX7_readsRoute_21 (by decide) ?_
    refine j_aload_n hC dX7_readsRoute_22 rfl rfl ?_
    refine j_get hC uX7 0 0 9 rfl rfl k733 rfl dX7_readsRoute_23 ?_
    refine j_imul hC dX7_readsRoute_26 ?_
    refine j_istore_n hC dX7_readsRoute_27 rfl rfl rfl rfl (fun v_27 e_27 => ?_)
    have hv : v_27 = nI (2 * rm) := by rw [e_27, hx_0, show (2 : Int32) = nI 2 from rfl, pk_mul]
    refine j_aload_n hC dX7_readsRoute_28 rfl rfl ?_
    refine j_iconst hC (3) dX7_readsRoute_29 (by decide) ?_
    refine j_iconst hC (0) dX7_readsRoute_30 (by decide) ?_
    refine j_sipush hC (200) dX7_readsRoute_31 (by decide) ?_
    refine j_callV hC [0] (c_X7_readsNumber g _ _ _ n (p + 1) 3 _ _ _ h3_0 hn h4_0 (by omega) rfl (by decide)) mX7_readsNumber k867 rfl rfl rfl rfl rfl ⟨(Nat.le_of_ble_eq_true rfl), (Nat.le_of_ble_eq_true rfl)⟩ (Nat.le_of_ble_eq_true rfl) ⟨(Nat.le_of_ble_eq_true rfl), (Nat.le_of_ble_eq_true rfl)⟩ dX7_readsRoute_34 (fun r_34 b_34 hp_34 _ => ?_)
    obtain ⟨I_34, rfl, hI_34, rfl, h4_34, h5_34⟩ := hp_34
    obtain ⟨k1, q1, v1, er1⟩ : ∃ (a : Bool) (b : Nat) (c : Int32), rnO (A 2) n 3 0 200 (p + 1) = (a, b, c) := ⟨_, _, _, rfl⟩
    rw [er1] at h4_34 h5_34 ⊢
    dsimp only at h4_34 h5_34 ⊢
    have h3_34 : I_34 3 = nI n := (hI_34 3 (by decide) (by decide)).trans h3_0
    have hx_34 : I_34 9 = nI rm := (hI_34 9 (by decide) (by decide)).trans hx_0
    have hg_34 : ∀ k, k ≠ 4 → k ≠ 5 → k ≠ 9 → I_34 k = I k := fun k k4 k5 k8 => (hI_34 k k4 k5).trans (hg_0 k k4 k5 k8)
    dsimp only [jrepl, List.set, jstk]
    refine j_if_ne hC dX7_readsRoute_37 (tgt := 42) (by decide) (fun c_37 => ?_) (fun c_37 => ?_)
    · skip
      have hk1 : k1 = true := jb1 c_37
      rw [hk1] at er1
      obtain ⟨g1, g2, g3, g4⟩ := rn_rng hn (by omega) er1
      have hJA : ∀ J, jS J n p (-1) → jS (rrA J (A 2)) n q1 (-1) ∧ lV J (A 2) 114 3 = v1 := fun J hJ => lE_ok hJ hn (by decide) hpn hcp er1
      refine j_aload_n hC dX7_readsRoute_42 rfl rfl ?_
      refine j_get hC uX7 0 0 7 rfl rfl k731 rfl dX7_readsRoute_43 ?_
      refine j_iload_n hC dX7_readsRoute_46 rfl rfl ?_
      refine j_aload_n hC dX7_readsRoute_47 rfl rfl ?_
      refine j_get hC uX7 0 0 5 rfl rfl k729 rfl dX7_readsRoute_48 ?_
      refine j_st_7_4 (bi := 0) (m := 2 * rm) hC rfl hv (by omega) dX7_readsRoute_51 (fun A_51 hA_51 hK_51 => ?_)
      dsimp only [List.set]
      have hf_51 : A_51 2 = A 2 := (hK_51 2 (by decide)).trans (rfl)
      have hm_51 : ∀ k, k ≠ 4 → A_51 k = A k := fun k hk => (hK_51 k hk).trans (rfl)
      have hq_51 : ∀ q, q < 2 * rm → A_51 4 q = A 4 q := fun q hq => by rw [hA_51, pk_un (by omega)]
      refine j_aload_n hC dX7_readsRoute_52 rfl rfl ?_
      refine j_bipush hC (45) dX7_readsRoute_53 (by decide) ?_
      refine j_callV hC [0] (c_X7_takes g _ _ _ n (q1) _ h3_34 hn h4_34 (by omega) (by decide)) mX7_takes k875 rfl rfl rfl rfl rfl ⟨(Nat.le_of_ble_eq_true rfl), (Nat.le_of_ble_eq_true rfl)⟩ (Nat.le_of_ble_eq_true rfl) ⟨(Nat.le_of_ble_eq_true rfl), (Nat.le_of_ble_eq_true rfl)⟩ dX7_readsRoute_55 (fun r_55 b_55 hp_55 _ => ?_)
      obtain ⟨I_55, rfl, hI_55, rfl, hy_55, hz_55⟩ := hp_55
      rw [hf_51] at hy_55 hz_55 ⊢
      have h3_55 : I_55 3 = nI n := (hI_55 3 (by decide)).trans h3_34
      have hx_55 : I_55 9 = nI rm := (hI_55 9 (by decide)).trans hx_34
      have hg_55 : ∀ k, k ≠ 4 → k ≠ 5 → k ≠ 9 → I_55 k = I k := fun k k4 k5 k8 => (hI_55 k k4).trans (hg_34 k k4 k5 k8)
      dsimp only [jrepl, List.set, jstk]
      refine j_if_eq hC dX7_readsRoute_58 (tgt := 78) (by decide) (fun c_58 => ?_) (fun c_58 => ?_)
      · skip
        try (have z := jb0 c_75; have hk2 : k2 = false := by cases k2 with | false => rfl | true => exact absurd rfl z)
        try (rw [hk2] at er2)
        refine j_iconst hC (0) dX7_readsRoute_78 (by decide) ?_
        refine j_iret hC hQ rfl (by first | rfl | (subst_vars; rfl) | (split <;> rfl)) (Nat.le_of_ble_eq_true rfl) (Nat.le_of_ble_eq_true rfl) dX7_readsRoute_79 rfl ?_
        first | exact ⟨I_72, A_51, rfl, hg_72, hm_51, hq_51, Or.inl ⟨rfl, q2, (rn_le hn (by omega) er2), h4_72, Or.inr ⟨hr6, fun J hJ => rrZ_B (by rw [(hJA J hJ).2]; exact lE_bad (hJA J hJ).1 hn (by decide) hc2.1 hc2.2 er2) (nI_n1 (by have := rn_le hn (by omega) er2; omega))⟩⟩⟩ | exact ⟨I_55, A_51, rfl, hg_55, hm_51, hq_51, Or.inl ⟨rfl, q1, (by omega), (hz_55 (jb0 c_58)), Or.inr ⟨hr6, fun J hJ => rrZ_B (lE_no (hJA J hJ).1 hn (by decide) (by omega) (jb0 c_58)) (nI_n1 (by omega))⟩⟩⟩
      · skip
        have hc2 := jb1 c_58
        have h4b_55 := hy_55 hc2
        refine j_aload_n hC dX7_readsRoute_61 rfl rfl ?_
        refine j_iconst hC (3) dX7_readsRoute_62 (by decide) ?_
        refine j_aload_n hC dX7_readsRoute_63 rfl rfl ?_
        refine j_get hC uX7 0 0 7 rfl rfl k731 rfl dX7_readsRoute_64 ?_
        refine j_iload_n hC dX7_readsRoute_67 rfl rfl ?_
        refine j_ildN hC (m := 2 * rm) 0 4 rfl rfl hv (by omega) dX7_readsRoute_68 ?_
        rw [show A_51 4 (2 * rm) = v1 by rw [hA_51, pk_us]; exact h5_34]
        refine j_sipush hC (200) dX7_readsRoute_69 (by decide) ?_
        refine j_callV hC [0] (c_X7_readsNumber g _ _ _ n (q1 + 1) 3 _ _ _ h3_55 hn h4b_55 (by omega) rfl (by decide)) mX7_readsNumber k867 rfl rfl rfl rfl rfl ⟨(Nat.le_of_ble_eq_true rfl), (Nat.le_of_ble_eq_true rfl)⟩ (Nat.le_of_ble_eq_true rfl) ⟨(Nat.le_of_ble_eq_true rfl), (Nat.le_of_ble_eq_true rfl)⟩ dX7_readsRoute_72 (fun r_72 b_72 hp_72 _ => ?_)
        obtain ⟨I_72, rfl, hI_72, rfl, h4_72, h5_72⟩ := hp_72
        rw [hf_51] at h4_72 h5_72 ⊢
        obtain ⟨k2, q2, v2, er2⟩ : ∃ (a : Bool) (b : Nat) (c : Int32), rnO (A 2) n 3 v1 200 (q1 + 1) = (a, b, c) := ⟨_, _, _, rfl⟩
        rw [er2] at h4_72 h5_72 ⊢
        dsimp only at h4_72 h5_72 ⊢
        have h3_72 : I_72 3 = nI n := (hI_72 3 (by decide) (by decide)).trans h3_55
        have hx_72 : I_72 9 = nI rm := (hI_72 9 (by decide) (by decide)).trans hx_55
        have hg_72 : ∀ k, k ≠ 4 → k ≠ 5 → k ≠ 9 → I_72 k = I k := fun k k4 k5 k8 => (hI_72 k k4 k5).trans (hg_55 k k4 k5 k8)
        dsimp only [jrepl, List.set, jstk]
        refine j_if_ne hC dX7_readsRoute_75 (tgt := 80) (by decide) (fun c_75 => ?_) (fun c_75 => ?_)
        · skip
          have hk2 : k2 = true := jb1 c_75
          rw [hk2] at er2
          obtain ⟨ga1, ga2, ga3, ga4⟩ := rn_rng hn (by omega) er2
          have hJB : ∀ J, jS J n p (-1) → jS (lE (rrA J (A 2)) (A 2) 45 3 (lV J (A 2) 114 3) 200) n q2 (-1) ∧ lV (rrA J (A 2)) (A 2) 45 3 = v2 := fun J hJ => by rw [(hJA J hJ).2]; exact lE_ok (hJA J hJ).1 hn (by decide) hc2.1 hc2.2 er2
          refine j_aload_n hC dX7_readsRoute_80 rfl rfl ?_
          refine j_get hC uX7 0 0 7 rfl rfl k731 rfl dX7_readsRoute_81 ?_
          refine j_iload_n hC dX7_readsRoute_84 rfl rfl ?_
          refine j_iconst hC (1) dX7_readsRoute_85 (by decide) ?_
          refine j_iadd hC dX7_readsRoute_86 ?_
          refine j_aload_n hC dX7_readsRoute_87 rfl rfl ?_
          refine j_get hC uX7 0 0 5 rfl rfl k729 rfl dX7_readsRoute_88 ?_
          refine j_st_7_4 (bi := 0) (m := 2 * rm + 1) hC rfl (by rw [hv]; exact nI_add (2 * rm) 1) (by omega) dX7_readsRoute_91 (fun A_91 hA_91 hK_91 => ?_)
          dsimp only [List.set]
          have hf_91 : A_91 2 = A 2 := (hK_91 2 (by decide)).trans (hf_51)
          have hm_91 : ∀ k, k ≠ 4 → A_91 k = A k := fun k hk => (hK_91 k hk).trans (hm_51 k hk)
          have hq_91 : ∀ q, q < 2 * rm → A_91 4 q = A 4 q := fun q hq => by rw [hA_91, pk_un (by omega)]; exact hq_51 q hq
          refine j_aload_n hC dX7_readsRoute_92 rfl rfl ?_
          refine j_dup hC dX7_readsRoute_93 rfl ?_
          refine j_get hC uX7 0 0 9 rfl rfl k733 rfl dX7_readsRoute_94 ?_
          refine j_iconst hC (1) dX7_readsRoute_97 (by decide) ?_
          refine j_iadd hC dX7_readsRoute_98 ?_
          refine j_put_7_9 (bi := 0) hC rfl k733 dX7_readsRoute_99 ?_
          dsimp only [List.set]
          have h4_1 : upd I_72 9 (I_72 9 + 1) 4 = nI q2 := (pk_un (by decide)).trans h4_72
          have h3_1 : upd I_72 9 (I_72 9 + 1) 3 = nI n := (pk_un (by decide)).trans h3_72
          have hx_1 : upd I_72 9 (I_72 9 + 1) 9 = nI (rm + 1) := by rw [pk_us, hx_72]; exact nI_1 rm
          have hg_1 : ∀ k, k ≠ 4 → k ≠ 5 → k ≠ 9 → upd I_72 9 (I_72 9 + 1) k = I k := fun k k4 k5 k8 => (pk_un k8).trans (hg_72 k k4 k5 k8)
          refine j_aload_n hC dX7_readsRoute_102 rfl rfl ?_
          refine j_bipush hC (59) dX7_readsRoute_103 (by decide) ?_
          refine j_callV hC [0] (c_X7_takes g _ _ _ n (q2) _ h3_1 hn h4_1 (by omega) (by decide)) mX7_takes k875 rfl rfl rfl rfl rfl ⟨(Nat.le_of_ble_eq_true rfl), (Nat.le_of_ble_eq_true rfl)⟩ (Nat.le_of_ble_eq_true rfl) ⟨(Nat.le_of_ble_eq_true rfl), (Nat.le_of_ble_eq_true rfl)⟩ dX7_readsRoute_105 (fun r_105 b_105 hp_105 _ => ?_)
          obtain ⟨I_105, rfl, hI_105, rfl, hy_105, hz_105⟩ := hp_105
          rw [hf_91] at hy_105 hz_105 ⊢
          have h3_105 : I_105 3 = nI n := (hI_105 3 (by decide)).trans h3_1
          have hg_105 : ∀ k, k ≠ 4 → k ≠ 5 → k ≠ 9 → I_105 k = I k := fun k k4 k5 k8 => (hI_105 k k4).trans (hg_1 k k4 k5 k8)
          have hx_105 : I_105 9 = nI (rm + 1) := (hI_105 9 (by decide)).trans hx_1
          dsimp only [jrepl, List.set, jstk]
          have hw0 : A_91 4 (2 * rm) = v1 := by rw [hA_91, pk_un (by omega), hA_51, pk_us]; exact h5_34
          have hw1 : A_91 4 (2 * rm + 1) = v2 := by rw [hA_91, pk_us]; exact h5_72
          refine j_iret hC hQ rfl (by split <;> rfl) (Nat.le_of_ble_eq_true rfl) (Nat.le_of_ble_eq_true rfl) dX7_readsRoute_108 rfl ?_
          exact rr_fin hn hr6 hg_105 hm_91 hq_91 hx_105 (by omega) (by omega) (by omega) hy_105 hz_105 hw0 hw1 (r_nats ⟨g3, g4⟩ ⟨ga3, ga4⟩) hJA hJB
        · skip
          try (have z := jb0 c_75; have hk2 : k2 = false := by cases k2 with | false => rfl | true => exact absurd rfl z)
          try (rw [hk2] at er2)
          refine j_iconst hC (0) dX7_readsRoute_78 (by decide) ?_
          refine j_iret hC hQ rfl (by first | rfl | (subst_vars; rfl) | (split <;> rfl)) (Nat.le_of_ble_eq_true rfl) (Nat.le_of_ble_eq_true rfl) dX7_readsRoute_79 rfl ?_
          first | exact ⟨I_72, A_51, rfl, hg_72, hm_51, hq_51, Or.inl ⟨rfl, q2, (rn_le hn (by omega) er2), h4_72, Or.inr ⟨hr6, fun J hJ => rrZ_B (by rw [(hJA J hJ).2]; exact lE_bad (hJA J hJ).1 hn (by decide) hc2.1 hc2.2 er2) (nI_n1 (by have := rn_le hn (by omega) er2; omega))⟩⟩⟩ | exact ⟨I_55, A_51, rfl, hg_55, hm_51, hq_51, Or.inl ⟨rfl, q1, (by omega), (hz_55 (jb0 c_58)), Or.inr ⟨hr6, fun J hJ => rrZ_B (lE_no (hJA J hJ).1 hn (by decide) (by omega) (jb0 c_58)) (nI_n1 (by omega))⟩⟩⟩
    · skip
      have hk1 : k1 = false := by have z := jb0 c_37; cases k1 with | false => rfl | true => exact absurd rfl z
      rw [hk1] at er1
      have hle1 := rn_le hn (by omega) er1
      refine j_iconst hC (0) dX7_readsRoute_40 (by decide) ?_
      refine j_iret hC hQ rfl (by first | rfl | (subst_vars; rfl) | (split <;> rfl)) (Nat.le_of_ble_eq_true rfl) (Nat.le_of_ble_eq_true rfl) dX7_readsRoute_41 rfl ?_
      exact ⟨I_34, A, rfl, hg_34, (fun _ _ => rfl), (fun _ _ => rfl), Or.inl ⟨rfl, q1, hle1, h4_34, Or.inr ⟨hr6, fun J hJ => rrZ_A (lE_bad hJ hn (by decide) hpn hcp er1) (nI_n1 (by omega))⟩⟩⟩
  · skip
    refine j_iconst hC (0) dX7_readsRoute_9 (by decide) ?_
    refine j_iret hC hQ rfl (by first | rfl | (subst_vars; rfl) | (split <;> rfl)) (Nat.le_of_ble_eq_true rfl) (Nat.le_of_ble_eq_true rfl) dX7_readsRoute_10 rfl ?_
    exact ⟨I, A, rfl, fun _ _ _ _ => rfl, fun _ _ => rfl, fun _ _ => rfl, Or.inl ⟨rfl, p, hp, h4, Or.inl ⟨len_eq h9 (by first | exact c_6 | exact Decidable.not_not.mp c_6) (show (6 : Int32) = nI 6 from rfl) (by omega) (by decide), rfl⟩⟩⟩
