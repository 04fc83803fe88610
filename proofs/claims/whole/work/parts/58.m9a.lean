/-! the model's table of plans -/
theorem and_sub {l s : Nat} (hl : l < 1024) (hs : s < 1024) (h : s &&& l = s) : nI l &&& (nI s ^^^ -1) = nI (l ^^^ s) := by
  have e1 : nI l = nI l &&& 1023 := (and_full hl).symm
  have e2 : nI l &&& (nI s ^^^ -1) = nI l &&& (1023 &&& (nI s ^^^ -1)) := by
    rw [← Int32.and_assoc, ← e1]
  rw [e2, not_full s hs, nI_and]
  refine congrArg nI ?_
  apply Nat.eq_of_testBit_eq
  intro i
  have h4 : s.testBit i = (s.testBit i && l.testBit i) := by rw [← Nat.testBit_and, h]
  rw [Nat.testBit_and, Nat.testBit_xor, Nat.testBit_xor]
  by_cases hi : i < 10
  · have e3 : Nat.testBit 1023 i = true := by
      have : ∀ i, i < 10 → Nat.testBit 1023 i = true := by decide
      exact this i hi
    rw [e3]
    generalize s.testBit i = a at h4 ⊢
    generalize l.testBit i = b at h4 ⊢
    revert h4; revert a b; decide
  · have e4 : l.testBit i = false := Nat.testBit_lt_two_pow (Nat.lt_of_lt_of_le hl (Nat.pow_le_pow_right (n := 2) (by decide) (show 10 ≤ i by omega)))
    rw [e4] at h4 ⊢
    generalize s.testBit i = a at h4 ⊢
    generalize Nat.testBit 1023 i = b
    revert h4; revert a b; decide
theorem low_and {l s : Nat} (hl : l < 1024) (h0 : 0 < l) (hs : s < 1024) : nI s &&& nI (lowb l) = 0 ↔ ¬ lowb l &&& s = lowb l := by
  obtain ⟨i, hi, e⟩ := lowb_pow l hl h0
  have h1 : s &&& lowb l < 1024 := Nat.lt_of_le_of_lt Nat.and_le_left hs
  have h2 : (s &&& 2 ^ i) &&& 2 ^ i = s &&& 2 ^ i := by rw [Nat.and_assoc, Nat.and_self]
  rw [nI_and, e]
  rw [e] at h1
  have hp : 0 < 2 ^ i := Nat.two_pow_pos i
  rcases sub_pow i hi _ h1 h2 with q | q
  · rw [q, Nat.and_comm, q]
    exact ⟨fun _ z => by omega, fun _ => nI_0⟩
  · rw [q, Nat.and_comm, q]
    exact ⟨fun z => absurd (nI_injN (by omega) (by decide) (z.trans nI_0.symm)) (by omega), fun z => absurd rfl z⟩
theorem vl_low {al : Nat → Bool} {l s : Nat} (h : vl al l s) : lowb l ≤ s := by
  have := h.2.1
  rw [← this]
  exact Nat.and_le_right
theorem row_s {al : Nat → Bool} {D : Nat → Nat} {l n : Nat} : rowP al D l (n + 1) = if vlB al l n ∧ D (l ^^^ n) + 1 < (rowP al D l n).1 then (D (l ^^^ n) + 1, n) else rowP al D l n := by
  unfold rowP; rw [jit_s]
theorem row_low {al : Nat → Bool} {D : Nat → Nat} {l : Nat} : ∀ n, n ≤ lowb l → rowP al D l n = (99, 0)
  | 0, _ => rfl
  | n + 1, h => by
    rw [row_s, if_neg (fun w => by have := vl_low (al := al) w.1; omega)]
    exact row_low n (by omega)
theorem row_99 {al : Nat → Bool} {D : Nat → Nat} {l : Nat} : ∀ n, (rowP al D l n).1 ≤ 99
  | 0 => Nat.le_refl 99
  | n + 1 => by
    have h := row_99 (al := al) (D := D) (l := l) n
    rw [row_s]
    by_cases w : vlB al l n ∧ D (l ^^^ n) + 1 < (rowP al D l n).1
    · rw [if_pos w]; have := w.2; show D (l ^^^ n) + 1 ≤ 99; omega
    · rw [if_neg w]; exact h
theorem row_2 {al : Nat → Bool} {D : Nat → Nat} {l : Nat} : ∀ n, (rowP al D l n).2 ≤ n
  | 0 => Nat.le_refl 0
  | n + 1 => by
    have h := row_2 (al := al) (D := D) (l := l) n
    rw [row_s]
    by_cases w : vlB al l n ∧ D (l ^^^ n) + 1 < (rowP al D l n).1
    · rw [if_pos w]; exact Nat.le_succ n
    · rw [if_neg w]; omega
theorem dP_99 {al : Nat → Bool} {l : Nat} (hN : l < 1024) : dP al l ≤ 99 := by
  rcases Nat.eq_zero_or_pos l with q | q
  · rw [q, dP_0]; omega
  · unfold dP
    rw [tab_row q hN]; exact row_99 _
theorem dys_all {S : BS} (hk : (bLs S).length ≤ 10) (hr : ∀ r, r < (bRs S).length → raS S r ≤ rbS S r ∧ rbS S r ≤ 200) (h : dysN S < 99) : ∀ q, q < 2 ^ (bLs S).length → dP (alS S) q ≤ 10 := by
  have hl := full_lt (bLs S).length (by omega)
  have hd := alS_dcl hk (fun r hr' => (hr r hr').2)
  have hlow : ∀ l, 0 < l → l < 2 ^ (bLs S).length → alS S (lowb l) = true := by
    intro l h0 h1
    obtain ⟨i, hi, e⟩ := lowb_pow l (by omega) h0
    rw [e]
    by_cases q : alS S (2 ^ i) = true
    · exact q
    · refine absurd h ?_
      have hik : i < (bLs S).length := by
        rcases Nat.lt_or_ge i (bLs S).length with w | w
        · exact w
        · have e1 : 2 ^ (bLs S).length ≤ 2 ^ i := Nat.pow_le_pow_right (by decide) w
          have e2 := sub_le (lowb_facts l (by omega)).1
          omega
      have e3 := dP_bad hd q (2 ^ (bLs S).length - 1) hl (full_bit hik)
      unfold dysN
      omega
  intro q hq
  have h1 := dP_le (N := 2 ^ (bLs S).length) (pow_1024 hk) hlow q hq
  have h2 := (cntb_facts q (by omega)).1
  omega
def planT (A : Nat → jF) (S : BS) : Prop := (∀ q, q < 2 ^ (bLs S).length → A 7 q = nI (dP (alS S) q)) ∧ ∀ q, 0 < q → q < 2 ^ (bLs S).length → A 8 q = nI (fP (alS S) q)
theorem dl_pos {S : BS} (hk : (bLs S).length ≤ 10) (hall : ∀ q, q < 2 ^ (bLs S).length → dP (alS S) q ≤ 10) {k : Nat} (h : k < dysN S) : 0 < dayL (alS S) (2 ^ (bLs S).length - 1) k ∧ dayL (alS S) (2 ^ (bLs S).length - 1) k < 2 ^ (bLs S).length := by
  have hpw : 2 ^ (bLs S).length ≤ 1024 := pow_1024 hk
  have hp0 : 0 < 2 ^ (bLs S).length := Nat.two_pow_pos _
  obtain ⟨w1, w2⟩ := dayL_days (al := alS S) (l := 2 ^ (bLs S).length - 1) (by omega) (fun q hq => hall q (by omega)) k (by unfold dysN at h; omega)
  refine ⟨?_, by omega⟩
  rcases Nat.eq_zero_or_pos (dayL (alS S) (2 ^ (bLs S).length - 1) k) with z | z
  · rw [z, dP_0] at w2; unfold dysN at h; omega
  · exact z
theorem nar_b {p : Prop} [Decidable p] : vp_nar .boolean (if p then (1 : Int32) else 0) = if p then 1 else 0 := by
  by_cases h : p
  · rw [if_pos h]; rfl
  · rw [if_neg h]; rfl
theorem mp_rr {P : jF} {S : BS} (h : MP P S) : ∀ r, r < (bRs S).length → raS S r ≤ rbS S r ∧ rbS S r ≤ 200 := fun r hr => (mp_ra h hr).2.2
/-- one step of the search for the row of a set -/
def rowN (S : BS) (l n : Nat) : Nat × Nat := rowP (alS S) (dP (alS S)) l n
theorem row_no {S : BS} {l s : Nat} (h : ¬ vl (alS S) l s) : rowN S l (s + 1) = rowN S l s := by
  unfold rowN
  rw [row_s, if_neg (fun w => h w.1)]
theorem row_ge {S : BS} {l s : Nat} (h : ¬ dP (alS S) (l ^^^ s) + 1 < (rowN S l s).1) : rowN S l (s + 1) = rowN S l s := by
  unfold rowN
  rw [row_s, if_neg (fun w => h w.2)]
theorem row_ye {S : BS} {l s : Nat} (h : vl (alS S) l s) (h2 : dP (alS S) (l ^^^ s) + 1 < (rowN S l s).1) : rowN S l (s + 1) = (dP (alS S) (l ^^^ s) + 1, s) := by
  unfold rowN
  rw [row_s, if_pos ⟨h, h2⟩]
theorem row_end {S : BS} {l : Nat} (h0 : 0 < l) (hl : l < 1024) : rowN S l (l + 1) = (dP (alS S) l, fP (alS S) l) := by
  unfold rowN
  rw [← tab_row h0 hl]; rfl
set_option maxHeartbeats 4000000 in
set_option maxRecDepth 100000 in
theorem c_X7_laysPlan (g : jG) (d : Nat → Nat) (I : jF) (A : Nat → jF) (S : BS) (hp : MP (A 1) S) : Con g yX7_laysPlan cX7_laysPlan 6 none 6 132 0 0 [.ref (d 0)] [mc g d I A] (fun r b => r = none ∧ ∃ A1 : Nat → jF, b = [mc g d I A1] ∧ (∀ k, k < 5 ∨ k = 10 → A1 k = A k) ∧ planT A1 S) := by
  refine Con.of (own := RX7) (lv := [(0, .ref (d 0))]) (by decide) rfl (Nat.le_of_ble_eq_true rfl) rfl ?_
  intro E hC hQ hN
  obtain ⟨⟨hq0, hk10⟩, hql, ⟨hq91, hn6⟩, hqr, ⟨hq4, hnd⟩, ⟨hq5, hqh⟩, ⟨hq6, hqs⟩, hq9, hq10⟩ := id hp
  refine j_aload_n hC dX7_laysPlan_0 rfl rfl ?_
  refine j_callV hC [0] (c_X7_laysPlaces g _ _ _ S hp) mX7_laysPlaces k947 rfl rfl rfl rfl rfl ⟨(Nat.le_of_ble_eq_true rfl), (Nat.le_of_ble_eq_true rfl)⟩ (Nat.le_of_ble_eq_true rfl) ⟨(Nat.le_of_ble_eq_true rfl), (Nat.le_of_ble_eq_true rfl)⟩ dX7_laysPlan_1 (fun r_1 b_1 hp_1 _ => ?_)
  obtain ⟨rfl, A_1, rfl, hK_1, hL_1⟩ := hp_1
  have hp1 : MP (A_1 1) S := by rw [hK_1 1 (by decide) (by decide)]; exact hp
  have hpw : 2 ^ (bLs S).length ≤ 1024 := pow_1024 hk10
  have hp0 : 0 < 2 ^ (bLs S).length := Nat.two_pow_pos _
  dsimp only [jrepl, List.set, jstk]
  refine j_iconst hC (1) dX7_laysPlan_4 (by decide) ?_
  refine j_aload_n hC dX7_laysPlan_5 rfl rfl ?_
  refine j_callVR hC [0] (c_X7_lights g _ _ _) mX7_lights k787 rfl rfl rfl rfl rfl ⟨(Nat.le_of_ble_eq_true rfl), (Nat.le_of_ble_eq_true rfl)⟩ (Nat.le_of_ble_eq_true rfl) ⟨(Nat.le_of_ble_eq_true rfl), (Nat.le_of_ble_eq_true rfl)⟩ dX7_laysPlan_6 ?_
  dsimp only [jrepl, List.set, jstk]
  refine j_ishl hC dX7_laysPlan_9 ?_
  refine j_istore_n hC dX7_laysPlan_10 rfl rfl rfl rfl (fun v_10 e_10 => ?_)
  have h10 : v_10 = nI (2 ^ (bLs S).length) := by rw [e_10, hp1.1.1]; exact pow_k _ (by omega)
  refine j_iconst hC (0) dX7_laysPlan_11 (by decide) ?_
  refine j_istore_n hC dX7_laysPlan_12 rfl rfl rfl rfl (fun v_12 e_12 => ?_)
  have L_13 : ∀ (fu : Nat) (s : Nat) (x2 : Int32) (A1 : Nat → jF) (hfu : 2 ^ (bLs S).length + 1 ≤ s + fu) (hs : s ≤ 2 ^ (bLs S).length) (h2 : x2 = nI s) (hM : ∀ q, q < s → A1 9 q = (if alS S q = true then 1 else 0)) (hKm : ∀ k, k ≠ 9 → A1 k = A_1 k), J g (jRm 6 132 0 0) E 6 13 [(0, .ref (d 0)), (1, .int v_10), (2, .int x2)] [] [mc g d I A1] (0) (0) := by
    intro fu
    induction fu with
    | zero => intro s x2 A1 hfu hs h2 hM hKm; exact absurd hfu (by omega)
    | succ fu ih_13 =>
      intro s x2 A1 hfu hs h2 hM hKm
      refine j_iload_n hC dX7_laysPlan_13 rfl rfl ?_
      refine j_iload_n hC dX7_laysPlan_14 rfl rfl ?_
      refine j_icmp_ge hC dX7_laysPlan_15 (tgt := 35) (by decide) (fun c_15 => ?_) (fun c_15 => ?_)
      · skip
        have hse : s = 2 ^ (bLs S).length := Nat.le_antisymm hs (jge h10 h2 (by omega) (by omega) c_15)
        rw [hse] at hM
        refine j_aload_n hC dX7_laysPlan_35 rfl rfl ?_
        refine j_get hC uX7 0 0 12 rfl rfl k736 rfl dX7_laysPlan_36 ?_
        refine j_iconst hC (0) dX7_laysPlan_39 (by decide) ?_
        refine j_iconst hC (0) dX7_laysPlan_40 (by decide) ?_
        refine j_st_7_7 (bi := 0) (m := 0) hC rfl (by decide) (by decide) dX7_laysPlan_41 (fun A_41 hA_41 hK_41 => ?_)
        dsimp only [List.set]
        refine j_iconst hC (1) dX7_laysPlan_42 (by decide) ?_
        refine j_istore_n hC dX7_laysPlan_43 rfl rfl rfl rfl (fun v_43 e_43 => ?_)
        have L_44 : ∀ (fu : Nat) (l : Nat) (x2 : Int32) (A2 : Nat → jF) (hfu : 2 ^ (bLs S).length + 1 ≤ l + fu) (hlr : 1 ≤ l ∧ l ≤ 2 ^ (bLs S).length) (h2 : x2 = nI l) (hD : ∀ q, q < l → A2 7 q = nI (dP (alS S) q)) (hF : ∀ q, 0 < q → q < l → A2 8 q = nI (fP (alS S) q)) (hM2 : ∀ q, q < 2 ^ (bLs S).length → A2 9 q = (if alS S q = true then 1 else 0)) (hK2 : ∀ k, k < 5 ∨ k = 10 → A2 k = A k), J g (jRm 6 132 0 0) E 6 44 [(0, .ref (d 0)), (1, .int v_10), (2, .int x2)] [] [mc g d I A2] (0) (0) := by
          intro fu
          induction fu with
          | zero => intro l x2 A2 hfu hlr h2 hD hF hM2 hK2; exact absurd hfu (by omega)
          | succ fu ih_44 =>
            intro l x2 A2 hfu hlr h2 hD hF hM2 hK2
            refine j_iload_n hC dX7_laysPlan_44 rfl rfl ?_
            refine j_iload_n hC dX7_laysPlan_45 rfl rfl ?_
            refine j_icmp_ge hC dX7_laysPlan_46 (tgt := 177) (by decide) (fun c_46 => ?_) (fun c_46 => ?_)
            · skip
              have hle : l = 2 ^ (bLs S).length := Nat.le_antisymm hlr.2 (jge h10 h2 (by omega) (by omega) c_46)
              rw [hle] at hD hF
              refine j_vret hC hQ rfl (Nat.le_of_ble_eq_true rfl) (Nat.le_of_ble_eq_true rfl) dX7_laysPlan_177 rfl ?_
              exact ⟨rfl, A2, rfl, hK2, hD, hF⟩
            · skip
              have hll : l < 2 ^ (bLs S).length := jlt h10 h2 (by omega) (by omega) c_46
              refine j_aload_n hC dX7_laysPlan_49 rfl rfl ?_
              refine j_get hC uX7 0 0 12 rfl rfl k736 rfl dX7_laysPlan_50 ?_
              refine j_iload_n hC dX7_laysPlan_53 rfl rfl ?_
              refine j_bipush hC (99) dX7_laysPlan_54 (by decide) ?_
              refine j_st_7_7 (bi := 0) (m := l) hC rfl h2 (by omega) dX7_laysPlan_56 (fun A_56 hA_56 hK_56 => ?_)
              dsimp only [List.set]
              refine j_aload_n hC dX7_laysPlan_57 rfl rfl ?_
              refine j_get hC uX7 0 0 13 rfl rfl k737 rfl dX7_laysPlan_58 ?_
              refine j_iload_n hC dX7_laysPlan_61 rfl rfl ?_
              refine j_iconst hC (0) dX7_laysPlan_62 (by decide) ?_
              refine j_st_7_8 (bi := 0) (m := l) hC rfl h2 (by omega) dX7_laysPlan_63 (fun A_63 hA_63 hK_63 => ?_)
              dsimp only [List.set]
              refine j_iload_n hC dX7_laysPlan_64 rfl rfl ?_
              refine j_iload_n hC dX7_laysPlan_65 rfl rfl ?_
              refine j_ineg hC dX7_laysPlan_66 ?_
              refine j_iand hC dX7_laysPlan_67 ?_
              refine j_istore_n hC dX7_laysPlan_68 rfl rfl rfl rfl (fun v_68 e_68 => ?_)
              have hlo := lowb_facts l (by omega)
              have hlop := hlo.2.1 (by omega)
              have hlole := sub_le hlo.1
              have h3 : v_68 = nI (lowb l) := by rw [e_68, h2]; exact (lowb_all l (by omega)).1
              refine j_iload_n hC dX7_laysPlan_69 rfl rfl ?_
              refine j_istore hC dX7_laysPlan_70 rfl rfl rfl (fun v_70 e_70 => ?_)
              have L_72 : ∀ (fu : Nat) (s : Nat) (x4 : Int32) (A3 : Nat → jF) (hfu : l + 2 ≤ s + fu) (hsr : lowb l ≤ s ∧ s ≤ l + 1) (h4 : x4 = nI s) (hD3 : ∀ q, q < l → A3 7 q = nI (dP (alS S) q)) (hF3 : ∀ q, 0 < q → q < l → A3 8 q = nI (fP (alS S) q)) (hM3 : ∀ q, q < 2 ^ (bLs S).length → A3 9 q = (if alS S q = true then 1 else 0)) (hK3 : ∀ k, k < 5 ∨ k = 10 → A3 k = A k) (hR : A3 7 l = nI (rowN S l s).1 ∧ A3 8 l = nI (rowN S l s).2), J g (jRm 6 132 0 0) E 6 72 [(0, .ref (d 0)), (1, .int v_10), (2, .int x2), (3, .int v_68), (4, .int x4)] [] [mc g d I A3] (0) (0) := by
                intro fu
                induction fu with
                | zero => intro s x4 A3 hfu hsr h4 hD3 hF3 hM3 hK3 hR; exact absurd hfu (by omega)
                | succ fu ih_72 =>
                  intro s x4 A3 hfu hsr h4 hD3 hF3 hM3 hK3 hR
                  refine j_iload hC dX7_laysPlan_72 rfl ?_
                  refine j_iload_n hC dX7_laysPlan_74 rfl rfl ?_
                  refine j_icmp_gt hC dX7_laysPlan_75 (tgt := 171) (by decide) (fun c_75 => ?_) (fun c_75 => ?_)
                  · skip
                    have hse : s = l + 1 := by rw [h4, h2] at c_75; have q := (nI_ltI (by omega) (by omega)).mp c_75; omega
                    rw [hse, row_end (by omega) (by omega)] at hR
                    refine j_iinc hC (1) dX7_laysPlan_171 rfl rfl rfl rfl rfl (fun v_171 e_171 => ?_)
                    refine j_goto hC dX7_laysPlan_174 (tgt := 44) (by decide) ?_
                    refine j_pick [0, 1, 2] ?_
                    exact ih_44 (l + 1) _ _ (by omega) (by omega) (jsucc e_171 h2) (fun q hq => (Nat.lt_or_ge q l).elim (hD3 q) (fun w => by rw [show q = l by omega]; exact hR.1)) (fun q h0 hq => (Nat.lt_or_ge q l).elim (hF3 q h0) (fun w => by rw [show q = l by omega]; exact hR.2)) hM3 hK3
                  · skip
                    have hsl : s ≤ l := by have q := Int32.not_lt.mp c_75; rw [h4, h2] at q; exact (nI_leI (by omega) (by omega)).mp q
                    refine j_iload hC dX7_laysPlan_78 rfl ?_
                    refine j_iload_n hC dX7_laysPlan_80 rfl rfl ?_
                    refine j_iconst hC (-1) dX7_laysPlan_81 (by decide) ?_
                    refine j_ixor hC dX7_laysPlan_82 ?_
                    refine j_iand hC dX7_laysPlan_83 ?_
                    refine j_if_ne hC dX7_laysPlan_84 (tgt := 108) (by decide) (fun c_84 => ?_) (fun c_84 => ?_)
                    · skip
                      have hvn : ¬ vl (alS S) l s := by first | (rw [hM3 s (by omega)] at c_101; exact fun w => jb0 c_101 w.2.2) | (rw [h4, h3] at c_91; exact fun w => (low_and (by omega) (by omega) (by omega)).mp c_91 w.2.1) | (rw [h4, h2] at c_84; exact fun w => c_84 ((and_not (by omega) (by omega)).mpr w.1))
                      refine j_iconst hC (0) dX7_laysPlan_108 (by decide) ?_
                      refine j_istore hC dX7_laysPlan_109 rfl rfl rfl (fun v_109 e_109 => ?_)
                      refine j_iload hC dX7_laysPlan_111 rfl ?_
                      refine j_if_eq hC dX7_laysPlan_113 (tgt := 165) (by decide) (fun c_113 => ?_) (fun c_113 => ?_)
                      · skip
                        refine j_iinc hC (1) dX7_laysPlan_165 rfl rfl rfl rfl rfl (fun v_165 e_165 => ?_)
                        refine j_goto hC dX7_laysPlan_168 (tgt := 72) (by decide) ?_
                        refine j_pick [0, 1, 2, 3, 4] ?_
                        first | exact ih_72 (s + 1) _ _ (by omega) (by omega) (jsucc e_165 h4) (fun q hq => by rw [hK_164 7 (by decide), hA_156, pk_un (by omega)]; exact hD3 q hq) (fun q h0 hq => by rw [hA_164, pk_un (by omega), hK_156 8 (by decide)]; exact hF3 q h0 hq) (fun q hq => by rw [hK_164 9 (by decide), hK_156 9 (by decide)]; exact hM3 q hq) (fun k hk => by rw [hK_164 k (by omega), hK_156 k (by omega)]; exact hK3 k hk) (by rw [row_ye hvl hlt, hK_164 7 (by decide), hA_156, pk_us, hA_164, pk_us, hDx, h4]; exact ⟨nI_1 _, rfl⟩) | exact ih_72 (s + 1) _ _ (by omega) (by omega) (jsucc e_165 h4) hD3 hF3 hM3 hK3 (by rw [row_no hvn]; exact hR) | exact ih_72 (s + 1) _ _ (by omega) (by omega) (jsucc e_165 h4) hD3 hF3 hM3 hK3 (by rw [row_ge (by rw [hDx, hR.1, nI_1, nI_leI (by omega) (by omega)] at c_135; omega)]; exact hR)
                      · exact absurd c_113 (by rw [e_109]; decide)
                    · skip
                      rw [h4, h2] at c_84
                      have hsub : s &&& l = s := (and_not (by omega) (by omega)).mp (by first | exact c_84 | exact Decidable.not_not.mp c_84)
                      refine j_iload hC dX7_laysPlan_87 rfl ?_
                      refine j_iload_n hC dX7_laysPlan_89 rfl rfl ?_
                      refine j_iand hC dX7_laysPlan_90 ?_
                      refine j_if_eq hC dX7_laysPlan_91 (tgt := 108) (by decide) (fun c_91 => ?_) (fun c_91 => ?_)
                      · skip
                        have hvn : ¬ vl (alS S) l s := by first | (rw [hM3 s (by omega)] at c_101; exact fun w => jb0 c_101 w.2.2) | (rw [h4, h3] at c_91; exact fun w => (low_and (by omega) (by omega) (by omega)).mp c_91 w.2.1) | (rw [h4, h2] at c_84; exact fun w => c_84 ((and_not (by omega) (by omega)).mpr w.1))
                        refine j_iconst hC (0) dX7_laysPlan_108 (by decide) ?_
                        refine j_istore hC dX7_laysPlan_109 rfl rfl rfl (fun v_109 e_109 => ?_)
                        refine j_iload hC dX7_laysPlan_111 rfl ?_
                        refine j_if_eq hC dX7_laysPlan_113 (tgt := 165) (by decide) (fun c_113 => ?_) (fun c_113 => ?_)
                        · skip
                          refine j_iinc hC (1) dX7_laysPlan_165 rfl rfl rfl rfl rfl (fun v_165 e_165 => ?_)
                          refine j_goto hC dX7_laysPlan_168 (tgt := 72) (by decide) ?_
                          refine j_pick [0, 1, 2, 3, 4] ?_
                          first | exact ih_72 (s + 1) _ _ (by omega) (by omega) (jsucc e_165 h4) (fun q hq => by rw [hK_164 7 (by decide), hA_156, pk_un (by omega)]; exact hD3 q hq) (fun q h0 hq => by rw [hA_164, pk_un (by omega), hK_156 8 (by decide)]; exact hF3 q h0 hq) (fun q hq => by rw [hK_164 9 (by decide), hK_156 9 (by decide)]; exact hM3 q hq) (fun k hk => by rw [hK_164 k (by omega), hK_156 k (by omega)]; exact hK3 k hk) (by rw [row_ye hvl hlt, hK_164 7 (by decide), hA_156, pk_us, hA_164, pk_us, hDx, h4]; exact ⟨nI_1 _, rfl⟩) | exact ih_72 (s + 1) _ _ (by omega) (by omega) (jsucc e_165 h4) hD3 hF3 hM3 hK3 (by rw [row_no hvn]; exact hR) | exact ih_72 (s + 1) _ _ (by omega) (by omega) (jsucc e_165 h4) hD3 hF3 hM3 hK3 (by rw [row_ge (by rw [hDx, hR.1, nI_1, nI_leI (by omega) (by omega)] at c_135; omega)]; exact hR)
                        · exact absurd c_113 (by rw [e_109]; decide)
                      · skip
                        rw [h4, h3] at c_91
                        have hlw : lowb l &&& s = lowb l := Decidable.byContradiction (fun w => c_91 ((low_and (by omega) (by omega) (by omega)).mpr w))
                        refine j_aload_n hC dX7_laysPlan_94 rfl rfl ?_
                        refine j_get hC uX7 0 0 14 rfl rfl k738 rfl dX7_laysPlan_95 ?_
                        refine j_iload hC dX7_laysPlan_98 rfl ?_
                        refine j_zldN hC (m := s) 0 9 rfl rfl h4 (by omega) dX7_laysPlan_100 ?_
                        refine j_if_eq hC dX7_laysPlan_101 (tgt := 108) (by decide) (fun c_101 => ?_) (fun c_101 => ?_)
                        · skip
                          have hvn : ¬ vl (alS S) l s := by first | (rw [hM3 s (by omega)] at c_101; exact fun w => jb0 c_101 w.2.2) | (rw [h4, h3] at c_91; exact fun w => (low_and (by omega) (by omega) (by omega)).mp c_91 w.2.1) | (rw [h4, h2] at c_84; exact fun w => c_84 ((and_not (by omega) (by omega)).mpr w.1))
                          refine j_iconst hC (0) dX7_laysPlan_108 (by decide) ?_
                          refine j_istore hC dX7_laysPlan_109 rfl rfl rfl (fun v_109 e_109 => ?_)
                          refine j_iload hC dX7_laysPlan_111 rfl ?_
                          refine j_if_eq hC dX7_laysPlan_113 (tgt := 165) (by decide) (fun c_113 => ?_) (fun c_113 => ?_)
                          · skip
                            refine j_iinc hC (1) dX7_laysPlan_165 rfl rfl rfl rfl rfl (fun v_165 e_165 => ?_)
                            refine j_goto hC dX7_laysPlan_168 (tgt := 72) (by decide) ?_
                            refine j_pick [0, 1, 2, 3, 4] ?_
                            first | exact ih_72 (s + 1) _ _ (by omega) (by omega) (jsucc e_165 h4) (fun q hq => by rw [hK_164 7 (by decide), hA_156, pk_un (by omega)]; exact hD3 q hq) (fun q h0 hq => by rw [hA_164, pk_un (by omega), hK_156 8 (by decide)]; exact hF3 q h0 hq) (fun q hq => by rw [hK_164 9 (by decide), hK_156 9 (by decide)]; exact hM3 q hq) (fun k hk => by rw [hK_164 k (by omega), hK_156 k (by omega)]; exact hK3 k hk) (by rw [row_ye hvl hlt, hK_164 7 (by decide), hA_156, pk_us, hA_164, pk_us, hDx, h4]; exact ⟨nI_1 _, rfl⟩) | exact ih_72 (s + 1) _ _ (by omega) (by omega) (jsucc e_165 h4) hD3 hF3 hM3 hK3 (by rw [row_no hvn]; exact hR) | exact ih_72 (s + 1) _ _ (by omega) (by omega) (jsucc e_165 h4) hD3 hF3 hM3 hK3 (by rw [row_ge (by rw [hDx, hR.1, nI_1, nI_leI (by omega) (by omega)] at c_135; omega)]; exact hR)
                          · exact absurd c_113 (by rw [e_109]; decide)
                        · skip
                          have hvl : vl (alS S) l s := ⟨hsub, hlw, by rw [hM3 s (by omega)] at c_101; exact jb1 c_101⟩
                          refine j_iconst hC (1) dX7_laysPlan_104 (by decide) ?_
                          refine j_goto hC dX7_laysPlan_105 (tgt := 109) (by decide) ?_
                          refine j_istore hC dX7_laysPlan_109 rfl rfl rfl (fun v_109 e_109 => ?_)
                          refine j_iload hC dX7_laysPlan_111 rfl ?_
                          refine j_if_eq hC dX7_laysPlan_113 (tgt := 165) (by decide) (fun c_113 => ?_) (fun c_113 => ?_)
                          · exact absurd c_113 (by rw [e_109]; decide)
                          · skip
                            have hpo := vl_pos hvl (by omega) (by omega)
                            have hix : x2 &&& (x4 ^^^ -1) = nI (l ^^^ s) := by rw [h2, h4]; exact and_sub (by omega) (by omega) hsub
                            have hDx : A3 7 (l ^^^ s) = nI (dP (alS S) (l ^^^ s)) := hD3 _ hpo.2.2
                            have hd99 := dP_99 (al := alS S) (l := l ^^^ s) (by omega)
                            have hr99 : (rowN S l s).1 ≤ 99 := row_99 s
                            refine j_aload_n hC dX7_laysPlan_116 rfl rfl ?_
                            refine j_get hC uX7 0 0 12 rfl rfl k736 rfl dX7_laysPlan_117 ?_
                            refine j_iload_n hC dX7_laysPlan_120 rfl rfl ?_
                            refine j_iload hC dX7_laysPlan_121 rfl ?_
                            refine j_iconst hC (-1) dX7_laysPlan_123 (by decide) ?_
                            refine j_ixor hC dX7_laysPlan_124 ?_
                            refine j_iand hC dX7_laysPlan_125 ?_
                            refine j_ildN hC (m := l ^^^ s) 0 7 rfl rfl hix (by omega) dX7_laysPlan_126 ?_
                            refine j_iconst hC (1) dX7_laysPlan_127 (by decide) ?_
                            refine j_iadd hC dX7_laysPlan_128 ?_
                            refine j_aload_n hC dX7_laysPlan_129 rfl rfl ?_
                            refine j_get hC uX7 0 0 12 rfl rfl k736 rfl dX7_laysPlan_130 ?_
                            refine j_iload_n hC dX7_laysPlan_133 rfl rfl ?_
                            refine j_ildN hC (m := l) 0 7 rfl rfl h2 (by omega) dX7_laysPlan_134 ?_
                            refine j_icmp_ge hC dX7_laysPlan_135 (tgt := 165) (by decide) (fun c_135 => ?_) (fun c_135 => ?_)
                            · skip
                              refine j_iinc hC (1) dX7_laysPlan_165 rfl rfl rfl rfl rfl (fun v_165 e_165 => ?_)
                              refine j_goto hC dX7_laysPlan_168 (tgt := 72) (by decide) ?_
                              refine j_pick [0, 1, 2, 3, 4] ?_
                              first | exact ih_72 (s + 1) _ _ (by omega) (by omega) (jsucc e_165 h4) (fun q hq => by rw [hK_164 7 (by decide), hA_156, pk_un (by omega)]; exact hD3 q hq) (fun q h0 hq => by rw [hA_164, pk_un (by omega), hK_156 8 (by decide)]; exact hF3 q h0 hq) (fun q hq => by rw [hK_164 9 (by decide), hK_156 9 (by decide)]; exact hM3 q hq) (fun k hk => by rw [hK_164 k (by omega), hK_156 k (by omega)]; exact hK3 k hk) (by rw [row_ye hvl hlt, hK_164 7 (by decide), hA_156, pk_us, hA_164, pk_us, hDx, h4]; exact ⟨nI_1 _, rfl⟩) | exact ih_72 (s + 1) _ _ (by omega) (by omega) (jsucc e_165 h4) hD3 hF3 hM3 hK3 (by rw [row_no hvn]; exact hR) | exact ih_72 (s + 1) _ _ (by omega) (by omega) (jsucc e_165 h4) hD3 hF3 hM3 hK3 (by rw [row_ge (by rw [hDx, hR.1, nI_1, nI_leI (by omega) (by omega)] at c_135; omega)]; exact hR)
                            · skip
                              have hlt : dP (alS S) (l ^^^ s) + 1 < (rowN S l s).1 := by rw [hDx, hR.1, nI_1, nI_leI (by omega) (by omega)] at c_135; omega
                              refine j_aload_n hC dX7_laysPlan_138 rfl rfl ?_
                              refine j_get hC uX7 0 0 12 rfl rfl k736 rfl dX7_laysPlan_139 ?_
                              refine j_iload_n hC dX7_laysPlan_142 rfl rfl ?_
                              refine j_aload_n hC dX7_laysPlan_143 rfl rfl ?_
                              refine j_get hC uX7 0 0 12 rfl rfl k736 rfl dX7_laysPlan_144 ?_
                              refine j_iload_n hC dX7_laysPlan_147 rfl rfl ?_
                              refine j_iload hC dX7_laysPlan_148 rfl ?_
                              refine j_iconst hC (-1) dX7_laysPlan_150 (by decide) ?_
                              refine j_ixor hC dX7_laysPlan_151 ?_
                              refine j_iand hC dX7_laysPlan_152 ?_
                              refine j_ildN hC (m := l ^^^ s) 0 7 rfl rfl hix (by omega) dX7_laysPlan_153 ?_
                              refine j_iconst hC (1) dX7_laysPlan_154 (by decide) ?_
                              refine j_iadd hC dX7_laysPlan_155 ?_
                              refine j_st_7_7 (bi := 0) (m := l) hC rfl h2 (by omega) dX7_laysPlan_156 (fun A_156 hA_156 hK_156 => ?_)
                              dsimp only [List.set]
                              refine j_aload_n hC dX7_laysPlan_157 rfl rfl ?_
                              refine j_get hC uX7 0 0 13 rfl rfl k737 rfl dX7_laysPlan_158 ?_
                              refine j_iload_n hC dX7_laysPlan_161 rfl rfl ?_
                              refine j_iload hC dX7_laysPlan_162 rfl ?_
                              refine j_st_7_8 (bi := 0) (m := l) hC rfl h2 (by omega) dX7_laysPlan_164 (fun A_164 hA_164 hK_164 => ?_)
                              dsimp only [List.set]
                              refine j_iinc hC (1) dX7_laysPlan_165 rfl rfl rfl rfl rfl (fun v_165 e_165 => ?_)
                              refine j_goto hC dX7_laysPlan_168 (tgt := 72) (by decide) ?_
                              refine j_pick [0, 1, 2, 3, 4] ?_
                              first | exact ih_72 (s + 1) _ _ (by omega) (by omega) (jsucc e_165 h4) (fun q hq => by rw [hK_164 7 (by decide), hA_156, pk_un (by omega)]; exact hD3 q hq) (fun q h0 hq => by rw [hA_164, pk_un (by omega), hK_156 8 (by decide)]; exact hF3 q h0 hq) (fun q hq => by rw [hK_164 9 (by decide), hK_156 9 (by decide)]; exact hM3 q hq) (fun k hk => by rw [hK_164 k (by omega), hK_156 k (by omega)]; exact hK3 k hk) (by rw [row_ye hvl hlt, hK_164 7 (by decide), hA_156, pk_us, hA_164, pk_us, hDx, h4]; exact ⟨nI_1 _, rfl⟩) | exact ih_72 (s + 1) _ _ (by omega) (by omega) (jsucc e_165 h4) hD3 hF3 hM3 hK3 (by rw [row_no hvn]; exact hR) | exact ih_72 (s + 1) _ _ (by omega) (by omega) (jsucc e_165 h4) hD3 hF3 hM3 hK3 (by rw [row_ge (by rw [hDx, hR.1, nI_1, nI_leI (by omega) (by omega)] at c_135; omega)]; exact hR)
              refine j_pick [0, 1, 2, 3, 4] ?_
              exact L_72 (l + 2) (lowb l) _ _ (by omega) (by omega) (e_70.trans h3) (fun q hq => by rw [hK_63 7 (by decide), hA_56, pk_un (by omega)]; exact hD q hq) (fun q h0 hq => by rw [hA_63, pk_un (by omega), hK_56 8 (by decide)]; exact hF q h0 hq) (fun q hq => by rw [hK_63 9 (by decide), hK_56 9 (by decide)]; exact hM2 q hq) (fun k hk => by rw [hK_63 k (by omega), hK_56 k (by omega)]; exact hK2 k hk) (by unfold rowN; rw [row_low _ (Nat.le_refl _), hK_63 7 (by decide), hA_56, pk_us, hA_63, pk_us]; exact ⟨rfl, rfl⟩)
        refine j_pick [0, 1, 2] ?_
        exact L_44 (2 ^ (bLs S).length + 1) 1 _ _ (by omega) (by omega) e_43 (fun q hq => by rw [show q = 0 by omega, hA_41, pk_us, dP_0]; rfl) (fun q h0 hq => absurd hq (by omega)) (fun q hq => by rw [hK_41 9 (by decide)]; exact hM q hq) (fun k hk => by rw [hK_41 k (by omega), hKm k (by omega), hK_1 k (by omega) (by omega)])
      · skip
        have hsl : s < 2 ^ (bLs S).length := jlt h10 h2 (by omega) (by omega) c_15
        refine j_aload_n hC dX7_laysPlan_18 rfl rfl ?_
        refine j_get hC uX7 0 0 14 rfl rfl k738 rfl dX7_laysPlan_19 ?_
        refine j_iload_n hC dX7_laysPlan_22 rfl rfl ?_
        refine j_aload_n hC dX7_laysPlan_23 rfl rfl ?_
        refine j_iload_n hC dX7_laysPlan_24 rfl rfl ?_
        refine j_callVR hC [0] (c_X7_isAllowed g _ _ _ S _ (by rw [hKm 1 (by decide)]; exact hp1) ⟨by rw [hKm 5 (by decide)]; exact hL_1.1, by rw [hKm 6 (by decide)]; exact hL_1.2⟩) mX7_isAllowed k959 rfl rfl rfl rfl rfl ⟨(Nat.le_of_ble_eq_true rfl), (Nat.le_of_ble_eq_true rfl)⟩ (Nat.le_of_ble_eq_true rfl) ⟨(Nat.le_of_ble_eq_true rfl), (Nat.le_of_ble_eq_true rfl)⟩ dX7_laysPlan_25 ?_
        dsimp only [jrepl, List.set, jstk]
        refine j_st_7_9 (bi := 0) (m := s) hC rfl h2 (by omega) dX7_laysPlan_28 (fun A_28 hA_28 hK_28 => ?_)
        dsimp only [List.set]
        refine j_iinc hC (1) dX7_laysPlan_29 rfl rfl rfl rfl rfl (fun v_29 e_29 => ?_)
        refine j_goto hC dX7_laysPlan_32 (tgt := 13) (by decide) ?_
        refine j_pick [0, 1, 2] ?_
        exact ih_13 (s + 1) _ _ (by omega) (by omega) (jsucc e_29 h2) (fun q hq => (Nat.lt_or_ge q s).elim (fun w => by rw [hA_28, pk_un (by omega)]; exact hM q w) (fun w => by rw [show q = s by omega, hA_28, pk_us, nar_b, h2]; rfl)) (fun k hk => (hK_28 k hk).trans (hKm k hk))
  refine j_pick [0, 1, 2] ?_
  exact L_13 (2 ^ (bLs S).length + 1) 0 _ _ (by omega) (by omega) (e_12.trans nI_0.symm) (fun q hq => absurd hq (Nat.not_lt_zero q)) (fun _ _ => rfl)
