/-! the reader: parts -/
theorem rn_rng {f : jF} {n m p q : Nat} {lo hi v : Int32} (hn : n ≤ 80) (hp : p ≤ n) (e : rnO f n m lo hi p = (true, q, v)) : q ≤ n ∧ p < q ∧ lo ≤ v ∧ v ≤ hi :=
  (rn_ok (J := fun i => if i = 1 then nI n else if i = 2 then nI p else -1) ⟨rfl, rfl, rfl⟩ hn hp e).2.2
theorem rn_le {f : jF} {n m p q : Nat} {lo hi v : Int32} (hn : n ≤ 80) (hp : p ≤ n) (e : rnO f n m lo hi p = (false, q, v)) : q ≤ n :=
  (rn_bad (J := fun i => if i = 1 then nI n else if i = 2 then nI p else -1) ⟨rfl, rfl, rfl⟩ hn hp e).2
def lnw (P : jF) (o : Nat) : jF := newL (P o) (P (o + 1)) (P (o + 2)) (P (o + 3)) (P (o + 4))
def lrg (P : jF) (o : Nat) : Prop := (0 ≤ (P o).toInt ∧ (P o).toInt ≤ 200) ∧ (0 ≤ (P (o + 2)).toInt ∧ (P (o + 2)).toInt ≤ 3) ∧ (0 ≤ (P (o + 3)).toInt ∧ (P (o + 3)).toInt ≤ 2) ∧ (P (o + 4) = 0 ∨ P (o + 4) = 1)
theorem rlM_y {J f : jF} {n q : Nat} (h : jS (rlD J f) n q (-1)) (hn : n ≤ 80) (c : q < n ∧ f q = 109) : jS (if tPk (rlD J f) f = 109 then tEx (rlD J f) f 109 else rlD J f) n (q + 1) (-1) ∧ rlM J f = 1 := by
  have e := (tpk_iff h hn (by omega) (by decide)).mpr c
  unfold rlM
  rw [if_pos e, if_pos e]
  exact ⟨tEx_ok h hn (by decide) c.1 c.2, rfl⟩
theorem rlM_n {J f : jF} {n q : Nat} (h : jS (rlD J f) n q (-1)) (hn : n ≤ 80) (hq : q ≤ n) (c : ¬ (q < n ∧ f q = 109)) : jS (if tPk (rlD J f) f = 109 then tEx (rlD J f) f 109 else rlD J f) n q (-1) ∧ rlM J f = 0 := by
  have e := fun z => c ((tpk_iff h hn hq (by decide)).mp z)
  unfold rlM
  rw [if_neg e, if_neg e]
  exact ⟨h, rfl⟩
theorem rl_fin {g : jG} {d : Nat → Nat} {I I1 : jF} {A A1 : Nat → jF} {n p lm q1 q2 q3 q4 q5 : Nat} {v1 v2 v3 v4 mm : Int32} (hn : n ≤ 80) (hl10 : lm < 10) (hg : ∀ k, k ≠ 4 → k ≠ 5 → k ≠ 8 → I1 k = I k) (hm : ∀ k, k ≠ 3 → A1 k = A k) (hq : ∀ q, q < 5 * lm → A1 3 q = A 3 q) (hx : I1 8 = nI (lm + 1)) (hp5 : p < q5) (hpn : p ≤ n) (h5n : q5 ≤ n) (hy : (q5 < n ∧ A 2 q5 = 59) → I1 4 = nI (q5 + 1)) (hz : ¬ (q5 < n ∧ A 2 q5 = 59) → I1 4 = nI q5)
    (w0 : A1 3 (5 * lm) = v1) (w1 : A1 3 (5 * lm + 1) = v2) (w2 : A1 3 (5 * lm + 2) = v3) (w3 : A1 3 (5 * lm + 3) = v4) (w4 : A1 3 (5 * lm + 4) = mm) (r1 : (0 : Int32).toInt ≤ v1.toInt ∧ v1.toInt ≤ (200 : Int32).toInt) (r3 : (0 : Int32).toInt ≤ v3.toInt ∧ v3.toInt ≤ (3 : Int32).toInt) (r4 : (0 : Int32).toInt ≤ v4.toInt ∧ v4.toInt ≤ (2 : Int32).toInt) (rm : mm = 0 ∨ mm = 1)
    (hJA : ∀ J, jS J n p (-1) → jS (rlA J (A 2)) n q1 (-1) ∧ lV J (A 2) 112 3 = v1) (hJB : ∀ J, jS J n p (-1) → jS (rlB J (A 2)) n q2 (-1) ∧ lV (rlA J (A 2)) (A 2) 99 1 = v2) (hJC : ∀ J, jS J n p (-1) → jS (rlC J (A 2)) n q3 (-1) ∧ lV (rlB J (A 2)) (A 2) 98 1 = v3) (hJD : ∀ J, jS J n p (-1) → jS (rlD J (A 2)) n q4 (-1) ∧ lV (rlC J (A 2)) (A 2) 108 1 = v4)
    (hJM : ∀ J, jS J n p (-1) → jS (if tPk (rlD J (A 2)) (A 2) = 109 then tEx (rlD J (A 2)) (A 2) 109 else rlD J (A 2)) n q5 (-1) ∧ rlM J (A 2) = mm) : ∃ (I2 : jF) (A2 : Nat → jF), [mc g d I1 A1] = [mc g d I2 A2] ∧ (∀ k, k ≠ 4 → k ≠ 5 → k ≠ 8 → I2 k = I k) ∧ (∀ k, k ≠ 3 → A2 k = A k) ∧ (∀ q, q < 5 * lm → A2 3 q = A 3 q) ∧ ((some (Value.int (if q5 < n ∧ A 2 q5 = 59 then 1 else 0)) = some (.int 0) ∧ ∃ s, s ≤ n ∧ I2 4 = nI s ∧ ((lm = 10 ∧ s = p) ∨ (lm < 10 ∧ ∀ J, jS J n p (-1) → rlZ J (A 2) 3 = nI s))) ∨ (some (Value.int (if q5 < n ∧ A 2 q5 = 59 then 1 else 0)) = some (.int 1) ∧ lm < 10 ∧ I2 8 = nI (lm + 1) ∧ ∃ q, p < q ∧ q ≤ n ∧ I2 4 = nI q ∧ lrg (A2 3) (5 * lm) ∧ ∀ J, jS J n p (-1) → jS (rlZ J (A 2)) n q (-1) ∧ rlL J (A 2) = lnw (A2 3) (5 * lm))) := by
  refine ⟨I1, A1, rfl, hg, hm, hq, ?_⟩
  by_cases c : q5 < n ∧ A 2 q5 = 59
  · rw [if_pos c]
    refine Or.inr ⟨rfl, hl10, hx, q5 + 1, by omega, c.1, hy c, ?_, fun J hJ => ⟨?_, ?_⟩⟩
    · unfold lrg
      rw [w0, w2, w3, w4]
      exact ⟨⟨r1.1, r1.2⟩, ⟨r3.1, r3.2⟩, ⟨r4.1, r4.2⟩, rm⟩
    · exact tEx_ok (hJM J hJ).1 hn (by decide) c.1 c.2
    · unfold lnw rlL
      rw [w0, w1, w2, w3, w4, (hJA J hJ).2, (hJB J hJ).2, (hJC J hJ).2, (hJD J hJ).2, (hJM J hJ).2]
  · rw [if_neg c]
    refine Or.inl ⟨rfl, q5, h5n, hz c, Or.inr ⟨hl10, fun J hJ => ?_⟩⟩
    exact tEx_no (hJM J hJ).1 hn (by decide) h5n c
set_option maxHeartbeats 8000000 in
set_option maxRecDepth 100000 in
theorem c_X7_readsLight (g : jG) (d : Nat → Nat) (I : jF) (A : Nat → jF) (n p : Nat) (lm : Nat) (h3 : I 3 = nI n) (hn : n ≤ 80) (h4 : I 4 = nI p) (hp : p ≤ n) (h8 : I 8 = nI lm) (hlm : lm ≤ 10) (hpn : p < n) (hcp : A 2 p = 112) : Con g yX7_readsLight cX7_readsLight 2 (some .boolean) 3 67 0 0 [.ref (d 0)] [mc g d I A] (fun r b => ∃ (I1 : jF) (A1 : Nat → jF), b = [mc g d I1 A1] ∧ (∀ k, k ≠ 4 → k ≠ 5 → k ≠ 8 → I1 k = I k) ∧ (∀ k, k ≠ 3 → A1 k = A k) ∧ (∀ q, q < 5 * lm → A1 3 q = A 3 q) ∧ ((r = some (.int 0) ∧ ∃ s, s ≤ n ∧ I1 4 = nI s ∧ ((lm = 10 ∧ s = p) ∨ (lm < 10 ∧ ∀ J, jS J n p (-1) → rlZ J (A 2) 3 = nI s))) ∨ (r = some (.int 1) ∧ lm < 10 ∧ I1 8 = nI (lm + 1) ∧ ∃ q, p < q ∧ q ≤ n ∧ I1 4 = nI q ∧ lrg (A1 3) (5 * lm) ∧ ∀ J, jS J n p (-1) → jS (rlZ J (A 2)) n q (-1) ∧ rlL J (A 2) = lnw (A1 3) (5 * lm)))) := by
  refine Con.of (own := RX7) (lv := [(0, .ref (d 0))]) (by decide) rfl (Nat.le_of_ble_eq_true rfl) rfl ?_
  intro E hC hQ hN
  refine j_aload_n hC dX7_readsLight_0 rfl rfl ?_
  refine j_get hC uX7 0 0 8 rfl rfl k732 rfl dX7_readsLight_1 ?_
  refine j_bipush hC (10) dX7_readsLight_4 (by decide) ?_
  refine j_icmp_ne hC dX7_readsLight_6 (tgt := 11) (by decide) (fun c_6 => ?_) (fun c_6 => ?_)
  · skip
    have hl10 : lm < 10 := by have : lm ≠ 10 := fun q => c_6 (by rw [h8, q]; rfl); omega
    refine j_aload_n hC dX7_readsLight_11 rfl rfl ?_
    refine j_dup hC dX7_readsLight_12 rfl ?_
    refine j_get hC uX7 0 0 4 rfl rfl k728 rfl dX7_readsLight_13 ?_
    refine j_iconst hC (1) dX7_readsLight_16 (by decide) ?_
    refine j_iadd hC dX7_readsLight_17 ?_
    refine j_put_7_4 (bi := 0) hC rfl k728 dX7_readsLight_18 ?_
    dsimp only [List.set]
    have h4_0 : upd I 4 (I 4 + 1) 4 = nI (p + 1) := by rw [pk_us, h4]; exact nI_1 p
    have h3_0 : upd I 4 (I 4 + 1) 3 = nI n := (pk_un (by decide)).trans h3
    have hx_0 : upd I 4 (I 4 + 1) 8 = nI lm := (pk_un (by decide)).trans h8
    have hg_0 : ∀ k, k ≠ 4 → k ≠ 5 → k ≠ 8 → upd I 4 (I 4 + 1) k = I k := fun k k4 _ _ => pk_un k4
    refine j_iconst hC (5) dX7_readsLight_21 (by decide) ?_
    refine j_aload_n hC dX7_readsLight_22 rfl rfl ?_
    refine j_get hC uX7 0 0 8 rfl rfl k732 rfl dX7_readsLight_23 ?_
    refine j_imul hC dX7_readsLight_26 ?_
    refine j_istore_n hC dX7_readsLight_27 rfl rfl rfl rfl (fun v_27 e_27 => ?_)
    have hv : v_27 = nI (5 * lm) := by rw [e_27, hx_0, show (5 : Int32) = nI 5 from rfl, pk_mul]
    refine j_aload_n hC dX7_readsLight_28 rfl rfl ?_
    refine j_iconst hC (3) dX7_readsLight_29 (by decide) ?_
    refine j_iconst hC (0) dX7_readsLight_30 (by decide) ?_
    refine j_sipush hC (200) dX7_readsLight_31 (by decide) ?_
    refine j_callV hC [0] (c_X7_readsNumber g _ _ _ n (p + 1) 3 _ _ _ h3_0 hn h4_0 (by omega) rfl (by decide)) mX7_readsNumber k867 rfl rfl rfl rfl rfl ⟨(Nat.le_of_ble_eq_true rfl), (Nat.le_of_ble_eq_true rfl)⟩ (Nat.le_of_ble_eq_true rfl) ⟨(Nat.le_of_ble_eq_true rfl), (Nat.le_of_ble_eq_true rfl)⟩ dX7_readsLight_34 (fun r_34 b_34 hp_34 _ => ?_)
    obtain ⟨I_34, rfl, hI_34, rfl, h4_34, h5_34⟩ := hp_34
    obtain ⟨k1, q1, v1, er1⟩ : ∃ (a : Bool) (b : Nat) (c : Int32), rnO (A 2) n 3 0 200 (p + 1) = (a, b, c) := ⟨_, _, _, rfl⟩
    rw [er1] at h4_34 h5_34 ⊢
    dsimp only at h4_34 h5_34 ⊢
    have h3_34 : I_34 3 = nI n := (hI_34 3 (by decide) (by decide)).trans h3_0
    have hx_34 : I_34 8 = nI lm := (hI_34 8 (by decide) (by decide)).trans hx_0
    have hg_34 : ∀ k, k ≠ 4 → k ≠ 5 → k ≠ 8 → I_34 k = I k := fun k k4 k5 k8 => (hI_34 k k4 k5).trans (hg_0 k k4 k5 k8)
    dsimp only [jrepl, List.set, jstk]
    refine j_if_ne hC dX7_readsLight_37 (tgt := 42) (by decide) (fun c_37 => ?_) (fun c_37 => ?_)
    · skip
      have hk1 : k1 = true := jb1 c_37
      rw [hk1] at er1
      obtain ⟨g1, g2, g3, g4⟩ := rn_rng hn (by omega) er1
      have hJA : ∀ J, jS J n p (-1) → jS (rlA J (A 2)) n q1 (-1) ∧ lV J (A 2) 112 3 = v1 := fun J hJ => lE_ok hJ hn (by decide) hpn hcp er1
      refine j_aload_n hC dX7_readsLight_42 rfl rfl ?_
      refine j_get hC uX7 0 0 6 rfl rfl k730 rfl dX7_readsLight_43 ?_
      refine j_iload_n hC dX7_readsLight_46 rfl rfl ?_
      refine j_aload_n hC dX7_readsLight_47 rfl rfl ?_
      refine j_get hC uX7 0 0 5 rfl rfl k729 rfl dX7_readsLight_48 ?_
      refine j_st_7_3 (bi := 0) (m := 5 * lm) hC rfl hv (by omega) dX7_readsLight_51 (fun A_51 hA_51 hK_51 => ?_)
      dsimp only [List.set]
      have hf_51 : A_51 2 = A 2 := (hK_51 2 (by decide)).trans (rfl)
      have hm_51 : ∀ k, k ≠ 3 → A_51 k = A k := fun k hk => (hK_51 k hk).trans (rfl)
      have hq_51 : ∀ q, q < 5 * lm → A_51 3 q = A 3 q := fun q hq => by rw [hA_51, pk_un (by omega)]
      refine j_aload_n hC dX7_readsLight_52 rfl rfl ?_
      refine j_bipush hC (99) dX7_readsLight_53 (by decide) ?_
      refine j_callV hC [0] (c_X7_takes g _ _ _ n (q1) _ h3_34 hn h4_34 (by omega) (by decide)) mX7_takes k875 rfl rfl rfl rfl rfl ⟨(Nat.le_of_ble_eq_true rfl), (Nat.le_of_ble_eq_true rfl)⟩ (Nat.le_of_ble_eq_true rfl) ⟨(Nat.le_of_ble_eq_true rfl), (Nat.le_of_ble_eq_true rfl)⟩ dX7_readsLight_55 (fun r_55 b_55 hp_55 _ => ?_)
      obtain ⟨I_55, rfl, hI_55, rfl, hy_55, hz_55⟩ := hp_55
      rw [hf_51] at hy_55 hz_55 ⊢
      have h3_55 : I_55 3 = nI n := (hI_55 3 (by decide)).trans h3_34
      have hx_55 : I_55 8 = nI lm := (hI_55 8 (by decide)).trans hx_34
      have hg_55 : ∀ k, k ≠ 4 → k ≠ 5 → k ≠ 8 → I_55 k = I k := fun k k4 k5 k8 => (hI_55 k k4).trans (hg_34 k k4 k5 k8)
      dsimp only [jrepl, List.set, jstk]
      refine j_if_eq hC dX7_readsLight_58 (tgt := 71) (by decide) (fun c_58 => ?_) (fun c_58 => ?_)
      · skip
        try (have z := jb0 c_68; have hk2 : k2 = false := by cases k2 with | false => rfl | true => exact absurd rfl z)
        try (rw [hk2] at er2)
        refine j_iconst hC (0) dX7_readsLight_71 (by decide) ?_
        refine j_iret hC hQ rfl (by first | rfl | (subst_vars; rfl) | (split <;> rfl)) (Nat.le_of_ble_eq_true rfl) (Nat.le_of_ble_eq_true rfl) dX7_readsLight_72 rfl ?_
        first | exact ⟨I_65, A_51, rfl, hg_65, hm_51, hq_51, Or.inl ⟨rfl, q2, (rn_le hn (by omega) er2), h4_65, Or.inr ⟨hl10, fun J hJ => rlZ_B (lE_bad (hJA J hJ).1 hn (by decide) hc2.1 hc2.2 er2) (nI_n1 (by have := rn_le hn (by omega) er2; omega))⟩⟩⟩ | exact ⟨I_55, A_51, rfl, hg_55, hm_51, hq_51, Or.inl ⟨rfl, q1, (by omega), (hz_55 (jb0 c_58)), Or.inr ⟨hl10, fun J hJ => rlZ_B (lE_no (hJA J hJ).1 hn (by decide) (by omega) (jb0 c_58)) (nI_n1 (by omega))⟩⟩⟩
      · skip
        have hc2 := jb1 c_58
        have h4b_55 := hy_55 hc2
        refine j_aload_n hC dX7_readsLight_61 rfl rfl ?_
        refine j_iconst hC (1) dX7_readsLight_62 (by decide) ?_
        refine j_iconst hC (0) dX7_readsLight_63 (by decide) ?_
        refine j_iconst hC (3) dX7_readsLight_64 (by decide) ?_
        refine j_callV hC [0] (c_X7_readsNumber g _ _ _ n (q1 + 1) 1 _ _ _ h3_55 hn h4b_55 (by omega) rfl (by decide)) mX7_readsNumber k867 rfl rfl rfl rfl rfl ⟨(Nat.le_of_ble_eq_true rfl), (Nat.le_of_ble_eq_true rfl)⟩ (Nat.le_of_ble_eq_true rfl) ⟨(Nat.le_of_ble_eq_true rfl), (Nat.le_of_ble_eq_true rfl)⟩ dX7_readsLight_65 (fun r_65 b_65 hp_65 _ => ?_)
        obtain ⟨I_65, rfl, hI_65, rfl, h4_65, h5_65⟩ := hp_65
        rw [hf_51] at h4_65 h5_65 ⊢
        obtain ⟨k2, q2, v2, er2⟩ : ∃ (a : Bool) (b : Nat) (c : Int32), rnO (A 2) n 1 0 3 (q1 + 1) = (a, b, c) := ⟨_, _, _, rfl⟩
        rw [er2] at h4_65 h5_65 ⊢
        dsimp only at h4_65 h5_65 ⊢
        have h3_65 : I_65 3 = nI n := (hI_65 3 (by decide) (by decide)).trans h3_55
        have hx_65 : I_65 8 = nI lm := (hI_65 8 (by decide) (by decide)).trans hx_55
        have hg_65 : ∀ k, k ≠ 4 → k ≠ 5 → k ≠ 8 → I_65 k = I k := fun k k4 k5 k8 => (hI_65 k k4 k5).trans (hg_55 k k4 k5 k8)
        dsimp only [jrepl, List.set, jstk]
        refine j_if_ne hC dX7_readsLight_68 (tgt := 73) (by decide) (fun c_68 => ?_) (fun c_68 => ?_)
        · skip
          have hk2 : k2 = true := jb1 c_68
          rw [hk2] at er2
          obtain ⟨ga1, ga2, ga3, ga4⟩ := rn_rng hn (by omega) er2
          have hJB : ∀ J, jS J n p (-1) → jS (rlB J (A 2)) n q2 (-1) ∧ lV (rlA J (A 2)) (A 2) 99 1 = v2 := fun J hJ => lE_ok (hJA J hJ).1 hn (by decide) hc2.1 hc2.2 er2
          refine j_aload_n hC dX7_readsLight_73 rfl rfl ?_
          refine j_get hC uX7 0 0 6 rfl rfl k730 rfl dX7_readsLight_74 ?_
          refine j_iload_n hC dX7_readsLight_77 rfl rfl ?_
          refine j_iconst hC (1) dX7_readsLight_78 (by decide) ?_
          refine j_iadd hC dX7_readsLight_79 ?_
          refine j_aload_n hC dX7_readsLight_80 rfl rfl ?_
          refine j_get hC uX7 0 0 5 rfl rfl k729 rfl dX7_readsLight_81 ?_
          refine j_st_7_3 (bi := 0) (m := 5 * lm + 1) hC rfl (by rw [hv]; exact nI_add (5 * lm) 1) (by omega) dX7_readsLight_84 (fun A_84 hA_84 hK_84 => ?_)
          dsimp only [List.set]
          have hf_84 : A_84 2 = A 2 := (hK_84 2 (by decide)).trans (hf_51)
          have hm_84 : ∀ k, k ≠ 3 → A_84 k = A k := fun k hk => (hK_84 k hk).trans (hm_51 k hk)
          have hq_84 : ∀ q, q < 5 * lm → A_84 3 q = A 3 q := fun q hq => by rw [hA_84, pk_un (by omega)]; exact hq_51 q hq
          refine j_aload_n hC dX7_readsLight_85 rfl rfl ?_
          refine j_bipush hC (98) dX7_readsLight_86 (by decide) ?_
          refine j_callV hC [0] (c_X7_takes g _ _ _ n (q2) _ h3_65 hn h4_65 (by omega) (by decide)) mX7_takes k875 rfl rfl rfl rfl rfl ⟨(Nat.le_of_ble_eq_true rfl), (Nat.le_of_ble_eq_true rfl)⟩ (Nat.le_of_ble_eq_true rfl) ⟨(Nat.le_of_ble_eq_true rfl), (Nat.le_of_ble_eq_true rfl)⟩ dX7_readsLight_88 (fun r_88 b_88 hp_88 _ => ?_)
          obtain ⟨I_88, rfl, hI_88, rfl, hy_88, hz_88⟩ := hp_88
          rw [hf_84] at hy_88 hz_88 ⊢
          have h3_88 : I_88 3 = nI n := (hI_88 3 (by decide)).trans h3_65
          have hx_88 : I_88 8 = nI lm := (hI_88 8 (by decide)).trans hx_65
          have hg_88 : ∀ k, k ≠ 4 → k ≠ 5 → k ≠ 8 → I_88 k = I k := fun k k4 k5 k8 => (hI_88 k k4).trans (hg_65 k k4 k5 k8)
          dsimp only [jrepl, List.set, jstk]
          refine j_if_eq hC dX7_readsLight_91 (tgt := 104) (by decide) (fun c_91 => ?_) (fun c_91 => ?_)
          · skip
            try (have z := jb0 c_101; have hk3 : k3 = false := by cases k3 with | false => rfl | true => exact absurd rfl z)
            try (rw [hk3] at er3)
            refine j_iconst hC (0) dX7_readsLight_104 (by decide) ?_
            refine j_iret hC hQ rfl (by first | rfl | (subst_vars; rfl) | (split <;> rfl)) (Nat.le_of_ble_eq_true rfl) (Nat.le_of_ble_eq_true rfl) dX7_readsLight_105 rfl ?_
            first | exact ⟨I_98, A_84, rfl, hg_98, hm_84, hq_84, Or.inl ⟨rfl, q3, (rn_le hn (by omega) er3), h4_98, Or.inr ⟨hl10, fun J hJ => rlZ_C (lE_bad (hJB J hJ).1 hn (by decide) hc3.1 hc3.2 er3) (nI_n1 (by have := rn_le hn (by omega) er3; omega))⟩⟩⟩ | exact ⟨I_88, A_84, rfl, hg_88, hm_84, hq_84, Or.inl ⟨rfl, q2, (by omega), (hz_88 (jb0 c_91)), Or.inr ⟨hl10, fun J hJ => rlZ_C (lE_no (hJB J hJ).1 hn (by decide) (by omega) (jb0 c_91)) (nI_n1 (by omega))⟩⟩⟩
          · skip
            have hc3 := jb1 c_91
            have h4b_88 := hy_88 hc3
            refine j_aload_n hC dX7_readsLight_94 rfl rfl ?_
            refine j_iconst hC (1) dX7_readsLight_95 (by decide) ?_
            refine j_iconst hC (0) dX7_readsLight_96 (by decide) ?_
            refine j_iconst hC (3) dX7_readsLight_97 (by decide) ?_
            refine j_callV hC [0] (c_X7_readsNumber g _ _ _ n (q2 + 1) 1 _ _ _ h3_88 hn h4b_88 (by omega) rfl (by decide)) mX7_readsNumber k867 rfl rfl rfl rfl rfl ⟨(Nat.le_of_ble_eq_true rfl), (Nat.le_of_ble_eq_true rfl)⟩ (Nat.le_of_ble_eq_true rfl) ⟨(Nat.le_of_ble_eq_true rfl), (Nat.le_of_ble_eq_true rfl)⟩ dX7_readsLight_98 (fun r_98 b_98 hp_98 _ => ?_)
            obtain ⟨I_98, rfl, hI_98, rfl, h4_98, h5_98⟩ := hp_98
            rw [hf_84] at h4_98 h5_98 ⊢
            obtain ⟨k3, q3, v3, er3⟩ : ∃ (a : Bool) (b : Nat) (c : Int32), rnO (A 2) n 1 0 3 (q2 + 1) = (a, b, c) := ⟨_, _, _, rfl⟩
            rw [er3] at h4_98 h5_98 ⊢
            dsimp only at h4_98 h5_98 ⊢
            have h3_98 : I_98 3 = nI n := (hI_98 3 (by decide) (by decide)).trans h3_88
            have hx_98 : I_98 8 = nI lm := (hI_98 8 (by decide) (by decide)).trans hx_88
            have hg_98 : ∀ k, k ≠ 4 → k ≠ 5 → k ≠ 8 → I_98 k = I k := fun k k4 k5 k8 => (hI_98 k k4 k5).trans (hg_88 k k4 k5 k8)
            dsimp only [jrepl, List.set, jstk]
            refine j_if_ne hC dX7_readsLight_101 (tgt := 106) (by decide) (fun c_101 => ?_) (fun c_101 => ?_)
            · skip
              have hk3 : k3 = true := jb1 c_101
              rw [hk3] at er3
              obtain ⟨gb1, gb2, gb3, gb4⟩ := rn_rng hn (by omega) er3
              have hJC : ∀ J, jS J n p (-1) → jS (rlC J (A 2)) n q3 (-1) ∧ lV (rlB J (A 2)) (A 2) 98 1 = v3 := fun J hJ => lE_ok (hJB J hJ).1 hn (by decide) hc3.1 hc3.2 er3
              refine j_aload_n hC dX7_readsLight_106 rfl rfl ?_
              refine j_get hC uX7 0 0 6 rfl rfl k730 rfl dX7_readsLight_107 ?_
              refine j_iload_n hC dX7_readsLight_110 rfl rfl ?_
              refine j_iconst hC (2) dX7_readsLight_111 (by decide) ?_
              refine j_iadd hC dX7_readsLight_112 ?_
              refine j_aload_n hC dX7_readsLight_113 rfl rfl ?_
              refine j_get hC uX7 0 0 5 rfl rfl k729 rfl dX7_readsLight_114 ?_
              refine j_st_7_3 (bi := 0) (m := 5 * lm + 2) hC rfl (by rw [hv]; exact nI_add (5 * lm) 2) (by omega) dX7_readsLight_117 (fun A_117 hA_117 hK_117 => ?_)
              dsimp only [List.set]
              have hf_117 : A_117 2 = A 2 := (hK_117 2 (by decide)).trans (hf_84)
              have hm_117 : ∀ k, k ≠ 3 → A_117 k = A k := fun k hk => (hK_117 k hk).trans (hm_84 k hk)
              have hq_117 : ∀ q, q < 5 * lm → A_117 3 q = A 3 q := fun q hq => by rw [hA_117, pk_un (by omega)]; exact hq_84 q hq
              refine j_aload_n hC dX7_readsLight_118 rfl rfl ?_
              refine j_bipush hC (108) dX7_readsLight_119 (by decide) ?_
              refine j_callV hC [0] (c_X7_takes g _ _ _ n (q3) _ h3_98 hn h4_98 (by omega) (by decide)) mX7_takes k875 rfl rfl rfl rfl rfl ⟨(Nat.le_of_ble_eq_true rfl), (Nat.le_of_ble_eq_true rfl)⟩ (Nat.le_of_ble_eq_true rfl) ⟨(Nat.le_of_ble_eq_true rfl), (Nat.le_of_ble_eq_true rfl)⟩ dX7_readsLight_121 (fun r_121 b_121 hp_121 _ => ?_)
              obtain ⟨I_121, rfl, hI_121, rfl, hy_121, hz_121⟩ := hp_121
              rw [hf_117] at hy_121 hz_121 ⊢
              have h3_121 : I_121 3 = nI n := (hI_121 3 (by decide)).trans h3_98
              have hx_121 : I_121 8 = nI lm := (hI_121 8 (by decide)).trans hx_98
              have hg_121 : ∀ k, k ≠ 4 → k ≠ 5 → k ≠ 8 → I_121 k = I k := fun k k4 k5 k8 => (hI_121 k k4).trans (hg_98 k k4 k5 k8)
              dsimp only [jrepl, List.set, jstk]
              refine j_if_eq hC dX7_readsLight_124 (tgt := 137) (by decide) (fun c_124 => ?_) (fun c_124 => ?_)
              · skip
                try (have z := jb0 c_134; have hk4 : k4 = false := by cases k4 with | false => rfl | true => exact absurd rfl z)
                try (rw [hk4] at er4)
                refine j_iconst hC (0) dX7_readsLight_137 (by decide) ?_
                refine j_iret hC hQ rfl (by first | rfl | (subst_vars; rfl) | (split <;> rfl)) (Nat.le_of_ble_eq_true rfl) (Nat.le_of_ble_eq_true rfl) dX7_readsLight_138 rfl ?_
                first | exact ⟨I_131, A_117, rfl, hg_131, hm_117, hq_117, Or.inl ⟨rfl, q4, (rn_le hn (by omega) er4), h4_131, Or.inr ⟨hl10, fun J hJ => rlZ_D (lE_bad (hJC J hJ).1 hn (by decide) hc4.1 hc4.2 er4) (nI_n1 (by have := rn_le hn (by omega) er4; omega))⟩⟩⟩ | exact ⟨I_121, A_117, rfl, hg_121, hm_117, hq_117, Or.inl ⟨rfl, q3, (by omega), (hz_121 (jb0 c_124)), Or.inr ⟨hl10, fun J hJ => rlZ_D (lE_no (hJC J hJ).1 hn (by decide) (by omega) (jb0 c_124)) (nI_n1 (by omega))⟩⟩⟩
              · skip
                have hc4 := jb1 c_124
                have h4b_121 := hy_121 hc4
                refine j_aload_n hC dX7_readsLight_127 rfl rfl ?_
                refine j_iconst hC (1) dX7_readsLight_128 (by decide) ?_
                refine j_iconst hC (0) dX7_readsLight_129 (by decide) ?_
                refine j_iconst hC (2) dX7_readsLight_130 (by decide) ?_
                refine j_callV hC [0] (c_X7_readsNumber g _ _ _ n (q3 + 1) 1 _ _ _ h3_121 hn h4b_121 (by omega) rfl (by decide)) mX7_readsNumber k867 rfl rfl rfl rfl rfl ⟨(Nat.le_of_ble_eq_true rfl), (Nat.le_of_ble_eq_true rfl)⟩ (Nat.le_of_ble_eq_true rfl) ⟨(Nat.le_of_ble_eq_true rfl), (Nat.le_of_ble_eq_true rfl)⟩ dX7_readsLight_131 (fun r_131 b_131 hp_131 _ => ?_)
                obtain ⟨I_131, rfl, hI_131, rfl, h4_131, h5_131⟩ := hp_131
                rw [hf_117] at h4_131 h5_131 ⊢
                obtain ⟨k4, q4, v4, er4⟩ : ∃ (a : Bool) (b : Nat) (c : Int32), rnO (A 2) n 1 0 2 (q3 + 1) = (a, b, c) := ⟨_, _, _, rfl⟩
                rw [er4] at h4_131 h5_131 ⊢
                dsimp only at h4_131 h5_131 ⊢
                have h3_131 : I_131 3 = nI n := (hI_131 3 (by decide) (by decide)).trans h3_121
                have hx_131 : I_131 8 = nI lm := (hI_131 8 (by decide) (by decide)).trans hx_121
                have hg_131 : ∀ k, k ≠ 4 → k ≠ 5 → k ≠ 8 → I_131 k = I k := fun k k4 k5 k8 => (hI_131 k k4 k5).trans (hg_121 k k4 k5 k8)
                dsimp only [jrepl, List.set, jstk]
                refine j_if_ne hC dX7_readsLight_134 (tgt := 139) (by decide) (fun c_134 => ?_) (fun c_134 => ?_)
                · skip
                  have hk4 : k4 = true := jb1 c_134
                  rw [hk4] at er4
                  obtain ⟨gc1, gc2, gc3, gc4⟩ := rn_rng hn (by omega) er4
                  have hJD : ∀ J, jS J n p (-1) → jS (rlD J (A 2)) n q4 (-1) ∧ lV (rlC J (A 2)) (A 2) 108 1 = v4 := fun J hJ => lE_ok (hJC J hJ).1 hn (by decide) hc4.1 hc4.2 er4
                  refine j_aload_n hC dX7_readsLight_139 rfl rfl ?_
                  refine j_get hC uX7 0 0 6 rfl rfl k730 rfl dX7_readsLight_140 ?_
                  refine j_iload_n hC dX7_readsLight_143 rfl rfl ?_
                  refine j_iconst hC (3) dX7_readsLight_144 (by decide) ?_
                  refine j_iadd hC dX7_readsLight_145 ?_
                  refine j_aload_n hC dX7_readsLight_146 rfl rfl ?_
                  refine j_get hC uX7 0 0 5 rfl rfl k729 rfl dX7_readsLight_147 ?_
                  refine j_st_7_3 (bi := 0) (m := 5 * lm + 3) hC rfl (by rw [hv]; exact nI_add (5 * lm) 3) (by omega) dX7_readsLight_150 (fun A_150 hA_150 hK_150 => ?_)
                  dsimp only [List.set]
                  have hf_150 : A_150 2 = A 2 := (hK_150 2 (by decide)).trans (hf_117)
                  have hm_150 : ∀ k, k ≠ 3 → A_150 k = A k := fun k hk => (hK_150 k hk).trans (hm_117 k hk)
                  have hq_150 : ∀ q, q < 5 * lm → A_150 3 q = A 3 q := fun q hq => by rw [hA_150, pk_un (by omega)]; exact hq_117 q hq
                  refine j_aload_n hC dX7_readsLight_151 rfl rfl ?_
                  refine j_get hC uX7 0 0 6 rfl rfl k730 rfl dX7_readsLight_152 ?_
                  refine j_iload_n hC dX7_readsLight_155 rfl rfl ?_
                  refine j_iconst hC (4) dX7_readsLight_156 (by decide) ?_
                  refine j_iadd hC dX7_readsLight_157 ?_
                  refine j_aload_n hC dX7_readsLight_158 rfl rfl ?_
                  refine j_bipush hC (109) dX7_readsLight_159 (by decide) ?_
                  refine j_callV hC [0] (c_X7_takes g _ _ _ n (q4) _ h3_131 hn h4_131 (by omega) (by decide)) mX7_takes k875 rfl rfl rfl rfl rfl ⟨(Nat.le_of_ble_eq_true rfl), (Nat.le_of_ble_eq_true rfl)⟩ (Nat.le_of_ble_eq_true rfl) ⟨(Nat.le_of_ble_eq_true rfl), (Nat.le_of_ble_eq_true rfl)⟩ dX7_readsLight_161 (fun r_161 b_161 hp_161 _ => ?_)
                  obtain ⟨I_161, rfl, hI_161, rfl, hy_161, hz_161⟩ := hp_161
                  rw [hf_150] at hy_161 hz_161 ⊢
                  have h3_161 : I_161 3 = nI n := (hI_161 3 (by decide)).trans h3_131
                  have hx_161 : I_161 8 = nI lm := (hI_161 8 (by decide)).trans hx_131
                  have hg_161 : ∀ k, k ≠ 4 → k ≠ 5 → k ≠ 8 → I_161 k = I k := fun k k4 k5 k8 => (hI_161 k k4).trans (hg_131 k k4 k5 k8)
                  dsimp only [jrepl, List.set, jstk]
                  refine j_if_eq hC dX7_readsLight_164 (tgt := 171) (by decide) (fun c_164 => ?_) (fun c_164 => ?_)
                  · skip
                    have hmz := jb0 c_164
                    obtain ⟨q5, hq5, hq54, hq5l⟩ : ∃ q5, q5 = q4 ∧ I_161 4 = nI q5 ∧ q5 ≤ n := ⟨q4, rfl, hz_161 hmz, by omega⟩
                    have hJM : ∀ J, jS J n p (-1) → jS (if tPk (rlD J (A 2)) (A 2) = 109 then tEx (rlD J (A 2)) (A 2) 109 else rlD J (A 2)) n q5 (-1) ∧ rlM J (A 2) = 0 := fun J hJ => by rw [hq5]; exact rlM_n (hJD J hJ).1 hn (by omega) hmz
                    refine j_iconst hC (0) dX7_readsLight_171 (by decide) ?_
                    refine j_st_7_3 (bi := 0) (m := 5 * lm + 4) hC rfl (by rw [hv]; exact nI_add (5 * lm) 4) (by omega) dX7_readsLight_172 (fun A_172 hA_172 hK_172 => ?_)
                    dsimp only [List.set]
                    have hf_172 : A_172 2 = A 2 := (hK_172 2 (by decide)).trans (hf_150)
                    have hm_172 : ∀ k, k ≠ 3 → A_172 k = A k := fun k hk => (hK_172 k hk).trans (hm_150 k hk)
                    have hq_172 : ∀ q, q < 5 * lm → A_172 3 q = A 3 q := fun q hq => by rw [hA_172, pk_un (by omega)]; exact hq_150 q hq
                    refine j_aload_n hC dX7_readsLight_173 rfl rfl ?_
                    refine j_dup hC dX7_readsLight_174 rfl ?_
                    refine j_get hC uX7 0 0 8 rfl rfl k732 rfl dX7_readsLight_175 ?_
                    refine j_iconst hC (1) dX7_readsLight_178 (by decide) ?_
                    refine j_iadd hC dX7_readsLight_179 ?_
                    refine j_put_7_8 (bi := 0) hC rfl k732 dX7_readsLight_180 ?_
                    dsimp only [List.set]
                    have h4_1 : upd I_161 8 (I_161 8 + 1) 4 = nI q5 := (pk_un (by decide)).trans hq54
                    have h3_1 : upd I_161 8 (I_161 8 + 1) 3 = nI n := (pk_un (by decide)).trans h3_161
                    have hx_1 : upd I_161 8 (I_161 8 + 1) 8 = nI (lm + 1) := by rw [pk_us, hx_161]; exact nI_1 lm
                    have hg_1 : ∀ k, k ≠ 4 → k ≠ 5 → k ≠ 8 → upd I_161 8 (I_161 8 + 1) k = I k := fun k k4 k5 k8 => (pk_un k8).trans (hg_161 k k4 k5 k8)
                    refine j_aload_n hC dX7_readsLight_183 rfl rfl ?_
                    refine j_bipush hC (59) dX7_readsLight_184 (by decide) ?_
                    refine j_callV hC [0] (c_X7_takes g _ _ _ n (q5) _ h3_1 hn h4_1 (hq5l) (by decide)) mX7_takes k875 rfl rfl rfl rfl rfl ⟨(Nat.le_of_ble_eq_true rfl), (Nat.le_of_ble_eq_true rfl)⟩ (Nat.le_of_ble_eq_true rfl) ⟨(Nat.le_of_ble_eq_true rfl), (Nat.le_of_ble_eq_true rfl)⟩ dX7_readsLight_186 (fun r_186 b_186 hp_186 _ => ?_)
                    obtain ⟨I_186, rfl, hI_186, rfl, hy_186, hz_186⟩ := hp_186
                    rw [hf_172] at hy_186 hz_186 ⊢
                    have h3_186 : I_186 3 = nI n := (hI_186 3 (by decide)).trans h3_1
                    have hg_186 : ∀ k, k ≠ 4 → k ≠ 5 → k ≠ 8 → I_186 k = I k := fun k k4 k5 k8 => (hI_186 k k4).trans (hg_1 k k4 k5 k8)
                    have hx_186 : I_186 8 = nI (lm + 1) := (hI_186 8 (by decide)).trans hx_1
                    dsimp only [jrepl, List.set, jstk]
                    have hw0 : A_172 3 (5 * lm) = v1 := (by rw [hA_172, pk_un (by omega), hA_150, pk_un (by omega), hA_117, pk_un (by omega), hA_84, pk_un (by omega), hA_51, pk_us]; exact h5_34)
                    have hw1 : A_172 3 (5 * lm + 1) = v2 := (by rw [hA_172, pk_un (by omega), hA_150, pk_un (by omega), hA_117, pk_un (by omega), hA_84, pk_us]; exact h5_65)
                    have hw2 : A_172 3 (5 * lm + 2) = v3 := (by rw [hA_172, pk_un (by omega), hA_150, pk_un (by omega), hA_117, pk_us]; exact h5_98)
                    have hw3 : A_172 3 (5 * lm + 3) = v4 := (by rw [hA_172, pk_un (by omega), hA_150, pk_us]; exact h5_131)
                    refine j_iret hC hQ rfl (by split <;> rfl) (Nat.le_of_ble_eq_true rfl) (Nat.le_of_ble_eq_true rfl) dX7_readsLight_189 rfl ?_
                    first | exact rl_fin hn hl10 hg_186 hm_172 hq_172 hx_186 (by omega) (by omega) hq5l hy_186 hz_186 hw0 hw1 hw2 hw3 (show A_172 3 (5 * lm + 4) = 1 from (by rw [hA_172, pk_us])) (in_t ⟨g3, g4⟩) (in_t ⟨gb3, gb4⟩) (in_t ⟨gc3, gc4⟩) (Or.inr rfl) hJA hJB hJC hJD hJM | exact rl_fin hn hl10 hg_186 hm_172 hq_172 hx_186 (by omega) (by omega) hq5l hy_186 hz_186 hw0 hw1 hw2 hw3 (show A_172 3 (5 * lm + 4) = 0 from (by rw [hA_172, pk_us])) (in_t ⟨g3, g4⟩) (in_t ⟨gb3, gb4⟩) (in_t ⟨gc3, gc4⟩) (Or.inl rfl) hJA hJB hJC hJD hJM
                  · skip
                    have hmz := jb1 c_164
                    obtain ⟨q5, hq5, hq54, hq5l⟩ : ∃ q5, q5 = q4 + 1 ∧ I_161 4 = nI q5 ∧ q5 ≤ n := ⟨q4 + 1, rfl, hy_161 hmz, hmz.1⟩
                    have hJM : ∀ J, jS J n p (-1) → jS (if tPk (rlD J (A 2)) (A 2) = 109 then tEx (rlD J (A 2)) (A 2) 109 else rlD J (A 2)) n q5 (-1) ∧ rlM J (A 2) = 1 := fun J hJ => by rw [hq5]; exact rlM_y (hJD J hJ).1 hn hmz
                    refine j_iconst hC (1) dX7_readsLight_167 (by decide) ?_
                    refine j_goto hC dX7_readsLight_168 (tgt := 172) (by decide) ?_
                    refine j_st_7_3 (bi := 0) (m := 5 * lm + 4) hC rfl (by rw [hv]; exact nI_add (5 * lm) 4) (by omega) dX7_readsLight_172 (fun A_172 hA_172 hK_172 => ?_)
                    dsimp only [List.set]
                    have hf_172 : A_172 2 = A 2 := (hK_172 2 (by decide)).trans (hf_150)
                    have hm_172 : ∀ k, k ≠ 3 → A_172 k = A k := fun k hk => (hK_172 k hk).trans (hm_150 k hk)
                    have hq_172 : ∀ q, q < 5 * lm → A_172 3 q = A 3 q := fun q hq => by rw [hA_172, pk_un (by omega)]; exact hq_150 q hq
                    refine j_aload_n hC dX7_readsLight_173 rfl rfl ?_
                    refine j_dup hC dX7_readsLight_174 rfl ?_
                    refine j_get hC uX7 0 0 8 rfl rfl k732 rfl dX7_readsLight_175 ?_
                    refine j_iconst hC (1) dX7_readsLight_178 (by decide) ?_
                    refine j_iadd hC dX7_readsLight_179 ?_
                    refine j_put_7_8 (bi := 0) hC rfl k732 dX7_readsLight_180 ?_
                    dsimp only [List.set]
                    have h4_1 : upd I_161 8 (I_161 8 + 1) 4 = nI q5 := (pk_un (by decide)).trans hq54
                    have h3_1 : upd I_161 8 (I_161 8 + 1) 3 = nI n := (pk_un (by decide)).trans h3_161
                    have hx_1 : upd I_161 8 (I_161 8 + 1) 8 = nI (lm + 1) := by rw [pk_us, hx_161]; exact nI_1 lm
                    have hg_1 : ∀ k, k ≠ 4 → k ≠ 5 → k ≠ 8 → upd I_161 8 (I_161 8 + 1) k = I k := fun k k4 k5 k8 => (pk_un k8).trans (hg_161 k k4 k5 k8)
                    refine j_aload_n hC dX7_readsLight_183 rfl rfl ?_
                    refine j_bipush hC (59) dX7_readsLight_184 (by decide) ?_
                    refine j_callV hC [0] (c_X7_takes g _ _ _ n (q5) _ h3_1 hn h4_1 (hq5l) (by decide)) mX7_takes k875 rfl rfl rfl rfl rfl ⟨(Nat.le_of_ble_eq_true rfl), (Nat.le_of_ble_eq_true rfl)⟩ (Nat.le_of_ble_eq_true rfl) ⟨(Nat.le_of_ble_eq_true rfl), (Nat.le_of_ble_eq_true rfl)⟩ dX7_readsLight_186 (fun r_186 b_186 hp_186 _ => ?_)
                    obtain ⟨I_186, rfl, hI_186, rfl, hy_186, hz_186⟩ := hp_186
                    rw [hf_172] at hy_186 hz_186 ⊢
                    have h3_186 : I_186 3 = nI n := (hI_186 3 (by decide)).trans h3_1
                    have hg_186 : ∀ k, k ≠ 4 → k ≠ 5 → k ≠ 8 → I_186 k = I k := fun k k4 k5 k8 => (hI_186 k k4).trans (hg_1 k k4 k5 k8)
                    have hx_186 : I_186 8 = nI (lm + 1) := (hI_186 8 (by decide)).trans hx_1
                    dsimp only [jrepl, List.set, jstk]
                    have hw0 : A_172 3 (5 * lm) = v1 := (by rw [hA_172, pk_un (by omega), hA_150, pk_un (by omega), hA_117, pk_un (by omega), hA_84, pk_un (by omega), hA_51, pk_us]; exact h5_34)
                    have hw1 : A_172 3 (5 * lm + 1) = v2 := (by rw [hA_172, pk_un (by omega), hA_150, pk_un (by omega), hA_117, pk_un (by omega), hA_84, pk_us]; exact h5_65)
                    have hw2 : A_172 3 (5 * lm + 2) = v3 := (by rw [hA_172, pk_un (by omega), hA_150, pk_un (by omega), hA_117, pk_us]; exact h5_98)
                    have hw3 : A_172 3 (5 * lm + 3) = v4 := (by rw [hA_172, pk_un (by omega), hA_150, pk_us]; exact h5_131)
                    refine j_iret hC hQ rfl (by split <;> rfl) (Nat.le_of_ble_eq_true rfl) (Nat.le_of_ble_eq_true rfl) dX7_readsLight_189 rfl ?_
                    first | exact rl_fin hn hl10 hg_186 hm_172 hq_172 hx_186 (by omega) (by omega) hq5l hy_186 hz_186 hw0 hw1 hw2 hw3 (show A_172 3 (5 * lm + 4) = 1 from (by rw [hA_172, pk_us])) (in_t ⟨g3, g4⟩) (in_t ⟨gb3, gb4⟩) (in_t ⟨gc3, gc4⟩) (Or.inr rfl) hJA hJB hJC hJD hJM | exact rl_fin hn hl10 hg_186 hm_172 hq_172 hx_186 (by omega) (by omega) hq5l hy_186 hz_186 hw0 hw1 hw2 hw3 (show A_172 3 (5 * lm + 4) = 0 from (by rw [hA_172, pk_us])) (in_t ⟨g3, g4⟩) (in_t ⟨gb3, gb4⟩) (in_t ⟨gc3, gc4⟩) (Or.inl rfl) hJA hJB hJC hJD hJM
                · skip
                  try (have z := jb0 c_134; have hk4 : k4 = false := by cases k4 with | false => rfl | true => exact absurd rfl z)
                  try (rw [hk4] at er4)
                  refine j_iconst hC (0) dX7_readsLight_137 (by decide) ?_
                  refine j_iret hC hQ rfl (by first | rfl | (subst_vars; rfl) | (split <;> rfl)) (Nat.le_of_ble_eq_true rfl) (Nat.le_of_ble_eq_true rfl) dX7_readsLight_138 rfl ?_
                  first | exact ⟨I_131, A_117, rfl, hg_131, hm_117, hq_117, Or.inl ⟨rfl, q4, (rn_le hn (by omega) er4), h4_131, Or.inr ⟨hl10, fun J hJ => rlZ_D (lE_bad (hJC J hJ).1 hn (by decide) hc4.1 hc4.2 er4) (nI_n1 (by have := rn_le hn (by omega) er4; omega))⟩⟩⟩ | exact ⟨I_121, A_117, rfl, hg_121, hm_117, hq_117, Or.inl ⟨rfl, q3, (by omega), (hz_121 (jb0 c_124)), Or.inr ⟨hl10, fun J hJ => rlZ_D (lE_no (hJC J hJ).1 hn (by decide) (by omega) (jb0 c_124)) (nI_n1 (by omega))⟩⟩⟩
            · skip
              try (have z := jb0 c_101; have hk3 : k3 = false := by cases k3 with | false => rfl | true => exact absurd rfl z)
              try (rw [hk3] at er3)
              refine j_iconst hC (0) dX7_readsLight_104 (by decide) ?_
              refine j_iret hC hQ rfl (by first | rfl | (subst_vars; rfl) | (split <;> rfl)) (Nat.le_of_ble_eq_true rfl) (Nat.le_of_ble_eq_true rfl) dX7_readsLight_105 rfl ?_
              first | exact ⟨I_98, A_84, rfl, hg_98, hm_84, hq_84, Or.inl ⟨rfl, q3, (rn_le hn (by omega) er3), h4_98, Or.inr ⟨hl10, fun J hJ => rlZ_C (lE_bad (hJB J hJ).1 hn (by decide) hc3.1 hc3.2 er3) (nI_n1 (by have := rn_le hn (by omega) er3; omega))⟩⟩⟩ | exact ⟨I_88, A_84, rfl, hg_88, hm_84, hq_84, Or.inl ⟨rfl, q2, (by omega), (hz_88 (jb0 c_91)), Or.inr ⟨hl10, fun J hJ => rlZ_C (lE_no (hJB J hJ).1 hn (by decide) (by omega) (jb0 c_91)) (nI_n1 (by omega))⟩⟩⟩
        · skip
          try (have z := jb0 c_68; have hk2 : k2 = false := by cases k2 with | false => rfl | true => exact absurd rfl z)
          try (rw [hk2] at er2)
          refine j_iconst hC (0) dX7_readsLight_71 (by decide) ?_
          refine j_iret hC hQ rfl (by first | rfl | (subst_vars; rfl) | (split <;> rfl)) (Nat.le_of_ble_eq_true rfl) (Nat.le_of_ble_eq_true rfl) dX7_readsLight_72 rfl ?_
          first | exact ⟨I_65, A_51, rfl, hg_65, hm_51, hq_51, Or.inl ⟨rfl, q2, (rn_le hn (by omega) er2), h4_65, Or.inr ⟨hl10, fun J hJ => rlZ_B (lE_bad (hJA J hJ).1 hn (by decide) hc2.1 hc2.2 er2) (nI_n1 (by have := rn_le hn (by omega) er2; omega))⟩⟩⟩ | exact ⟨I_55, A_51, rfl, hg_55, hm_51, hq_51, Or.inl ⟨rfl, q1, (by omega), (hz_55 (jb0 c_58)), Or.inr ⟨hl10, fun J hJ => rlZ_B (lE_no (hJA J hJ).1 hn (by decide) (by omega) (jb0 c_58)) (nI_n1 (by omega))⟩⟩⟩
    · skip
      have hk1 : k1 = false := by have z := jb0 c_37; cases k1 with | false => rfl | true => exact absurd rfl z
      rw [hk1] at er1
      have hle1 := rn_le hn (by omega) er1
      refine j_iconst hC (0) dX7_readsLight_40 (by decide) ?_
      refine j_iret hC hQ rfl (by first | rfl | (subst_vars; rfl) | (split <;> rfl)) (Nat.le_of_ble_eq_true rfl) (Nat.le_of_ble_eq_true rfl) dX7_readsLight_41 rfl ?_
      exact ⟨I_34, A, rfl, hg_34, (fun _ _ => rfl), (fun _ _ => rfl), Or.inl ⟨rfl, q1, hle1, h4_34, Or.inr ⟨hl10, fun J hJ => rlZ_A (lE_bad hJ hn (by decide) hpn hcp er1) (nI_n1 (by omega))⟩⟩⟩
  · skip
    refine j_iconst hC (0) dX7_readsLight_9 (by decide) ?_
    refine j_iret hC hQ rfl (by first | rfl | (subst_vars; rfl) | (split <;> rfl)) (Nat.le_of_ble_eq_true rfl) (Nat.le_of_ble_eq_true rfl) dX7_readsLight_10 rfl ?_
    exact ⟨I, A, rfl, fun _ _ _ _ => rfl, fun _ _ => rfl, fun _ _ => rfl, Or.inl ⟨rfl, p, hp, h4, Or.inl ⟨len_eq h8 (by first | exact c_6 | exact Decidable.not_not.mp c_6) (show (10 : Int32) = nI 10 from rfl) (by omega) (by decide), rfl⟩⟩⟩
