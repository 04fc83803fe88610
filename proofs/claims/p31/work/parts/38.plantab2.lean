/-! the whole row, and the first sets -/
theorem hfB_iff {al : Nat → Bool} {F : jF} {s : Nat} (hN : s < 1024) (hF : ∀ t, t < s → F t = nI (dP al t)) (h10 : ∀ t, t ≤ s → dP al t ≤ 10) : hfB F (nI s) = true ↔ ∃ i, i < 10 ∧ s.testBit i = true ∧ 1 < dP al (s ^^^ 2 ^ i) := by
  have key : ∀ i, i < 10 → (hfP F (nI s) i = true ↔ s.testBit i = true ∧ 1 < dP al (s ^^^ 2 ^ i)) := by
    intro i hi
    unfold hfP
    rw [decide_eq_true_iff, bits_tb i hi s hN, bits_sh i hi, nI_xor]
    by_cases hb : s.testBit i = true
    · have hsub := bit_sub hb
      have hlt : s ^^^ 2 ^ i < s := sub_lt hsub (Nat.two_pow_pos i)
      have := h10 (s ^^^ 2 ^ i) (by omega)
      rw [dF_nat (by omega), hF _ hlt, nI_le1 (by omega)]
    · exact ⟨fun q => absurd q.1 hb, fun q => absurd q.1 hb⟩
  unfold hfB
  rw [List.any_eq_true]
  constructor
  · rintro ⟨i, hi, h⟩
    have hi2 := List.mem_range.mp hi
    exact ⟨i, hi2, (key i hi2).mp h⟩
  · rintro ⟨i, hi, h⟩
    exact ⟨i, List.mem_range.mpr hi, (key i hi).mpr h⟩
theorem fdR_tab {al : Nat → Bool} {hit : Nat → Prop} {B : jF} {N : Nat} (hN : N < 1024) (hd : dcl al) (hal : ∀ s, s < 1024 → (al s = true ↔ ∀ t, 0 < t → hit t → ¬ t &&& s = t)) (hB0 : B 0 = 0) (hB2 : ∀ s, 0 < s → s ≤ N → hit s → B s = 2) (hB1 : ∀ s, 0 < s → s ≤ N → ¬ hit s → B s = 1) (hlow : ∀ l, 0 < l → l < N + 1 → al (lowb l) = true) :
    ∀ m, m ≤ N → (∀ s, s ≤ m → fdR B m s = nI (dP al s)) ∧ ∀ s, m < s → fdR B m s = B s
  | 0, _ => ⟨fun s hs => by
      have e : s = 0 := by omega
      subst e
      exact hB0, fun s hs => rfl⟩
  | m + 1, hm => by
    obtain ⟨i1, i2⟩ := fdR_tab hN hd hal hB0 hB2 hB1 hlow m (by omega)
    have e : fdR B (m + 1) = fdStep (fdR B m) (m + 1) := rfl
    have hle : ∀ t, t ≤ m + 1 → dP al t ≤ 10 := fun t ht => Nat.le_trans (dP_le (al := al) (N := N + 1) (by omega) hlow t (by omega)) (cntb_facts t (by omega)).1
    rw [e]
    generalize fdR B m = F at i1 i2
    have hF : ∀ t, t < m + 1 → F t = nI (dP al t) := fun t ht => i1 t (by omega)
    have hs : F (m + 1) = B (m + 1) := i2 _ (by omega)
    have hcond : (¬ F (m + 1) ≤ 1 ∨ hfB F (nI (m + 1)) = true) ↔ ¬ al (m + 1) = true := by
      rw [← al_cond (al := al) (B := hit) (s := m + 1) hd hal (by omega) (by omega), hfB_iff (by omega) hF hle, hs]
      constructor
      · rintro (q | q)
        · by_cases z : hit (m + 1)
          · exact Or.inl z
          · rw [hB1 _ (by omega) (by omega) z] at q
            exact absurd (by decide) q
        · exact Or.inr q
      · rintro (q | q)
        · rw [hB2 _ (by omega) (by omega) q]
          exact Or.inl (by decide)
        · exact Or.inr q
    by_cases c : al (m + 1) = true
    · have hn : ¬ (¬ F (m + 1) ≤ 1 ∨ hfB F (nI (m + 1)) = true) := fun q => hcond.mp q c
      have e2 : fdStep F (m + 1) = F := if_neg hn
      rw [e2]
      refine ⟨fun s h => ?_, fun s h => i2 s (by omega)⟩
      rcases Nat.lt_or_ge s (m + 1) with w | w
      · exact hF s w
      · have w2 : s = m + 1 := by omega
        have hnh : ¬ hit (m + 1) := fun z => (hal _ (by omega)).mp c _ (by omega) z (Nat.and_self _)
        rw [w2, hs, hB1 _ (by omega) (by omega) hnh, (dP_one (al := al) (by omega) (by omega)).mpr c]
        rfl
    · rw [fdStep_a (hcond.mpr c), faV_min (al := al) (by omega) (by omega) hF hle (hlow _ (by omega) (by omega)) c, by_ten _ (by have := hle (m + 1) (Nat.le_refl _); omega)]
      refine ⟨fun s h => ?_, fun s h => ?_⟩
      · unfold upd
        by_cases w : s = m + 1
        · rw [if_pos w, w]
        · rw [if_neg w]; exact hF s (by omega)
      · unfold upd
        rw [if_neg (by omega)]
        exact i2 s (by omega)
theorem begB_iff {al : Nat → Bool} {F : jF} {l s : Nat} (hN : l < 1024) (hF : ∀ t, t ≤ l → F t = nI (dP al t)) (h10 : ∀ t, t ≤ l → dP al t ≤ 10) (hs : s &&& l = s) (hs0 : 0 < s) : begB F (nI s) (nI l) ↔ al s = true ∧ dP al l = dP al (l ^^^ s) + 1 := by
  have h1 := sub_le hs
  have h2 := sub_lt hs hs0
  have d1 := h10 s h1
  have d2 := h10 l (Nat.le_refl l)
  have d3 := h10 (l ^^^ s) (by omega)
  have hp := dP_pos (al := al) (l := l) (by omega) hN
  show dF F (nI s) = 1 ∧ dF F (nI l ^^^ nI s) = dF F (nI l) - 1 ↔ _
  rw [nI_xor, dF_nat (by omega), dF_nat (by omega), dF_nat hN, hF s h1, hF _ (by omega), hF l (Nat.le_refl l), nI_eq1 (by omega), nI_predP (by omega), dP_one (al := al) hs0 (by omega)]
  constructor
  · rintro ⟨q1, q2⟩
    have := nI_injN (by omega) (by omega) q2
    exact ⟨q1, by omega⟩
  · rintro ⟨q1, q2⟩
    exact ⟨q1, by rw [q2]; rfl⟩
theorem fsR_min {al : Nat → Bool} {F : jF} {fi o l : Nat} (hb : ∀ u, u &&& o = u → (begB F (nI (fi ||| u)) (nI l) ↔ al (fi ||| u) = true ∧ dP al l = dP al (o ^^^ u) + 1)) : ∀ (fu w m : Nat), w < fu → w &&& o = w → (fsR F fi o l fu w m = m ∧ ∀ u, u &&& o = u → 0 < u → u ≤ w → ¬ (al (fi ||| u) = true ∧ dP al l = dP al (o ^^^ u) + 1)) ∨
    ∃ u, u &&& o = u ∧ 0 < u ∧ u ≤ w ∧ fsR F fi o l fu w m = fi ||| u ∧ (al (fi ||| u) = true ∧ dP al l = dP al (o ^^^ u) + 1) ∧ ∀ v, v &&& o = v → 0 < v → v < u → ¬ (al (fi ||| v) = true ∧ dP al l = dP al (o ^^^ v) + 1)
  | 0, w, m, hw, _ => absurd hw (Nat.not_lt_zero w)
  | fu + 1, w, m, hw, hs => by
    rcases Nat.eq_zero_or_pos w with e | e
    · subst e
      exact Or.inl ⟨fsR_0, fun u _ q1 q2 => by omega⟩
    · have hnx : (w - 1) &&& o < w := Nat.lt_of_le_of_lt Nat.and_le_left (by omega)
      have hsub : ((w - 1) &&& o) &&& o = (w - 1) &&& o := by rw [Nat.and_assoc, Nat.and_self]
      rw [fsR_1 e]
      by_cases c : begB F (nI (fi ||| w)) (nI l)
      · rw [if_pos c]
        have hc := (hb w hs).mp c
        rcases fsR_min hb fu ((w - 1) &&& o) (fi ||| w) (by omega) hsub with ⟨q1, q2⟩ | ⟨u, q1, q2, q3, q4, q5, q6⟩
        · refine Or.inr ⟨w, hs, e, Nat.le_refl w, q1, hc, fun v w1 w2 w3 => q2 v w1 w2 (sm_next w v o w1 hs w3)⟩
        · exact Or.inr ⟨u, q1, q2, by omega, q4, q5, q6⟩
      · rw [if_neg c]
        have hc := fun q => c ((hb w hs).mpr q)
        rcases fsR_min hb fu ((w - 1) &&& o) m (by omega) hsub with ⟨q1, q2⟩ | ⟨u, q1, q2, q3, q4, q5, q6⟩
        · refine Or.inl ⟨q1, fun v w1 w2 w3 => ?_⟩
          rcases Nat.lt_or_ge v w with z | z
          · exact q2 v w1 w2 (sm_next w v o w1 hs z)
          · have z2 : v = w := by omega
            rw [z2]; exact hc
        · exact Or.inr ⟨u, q1, q2, by omega, q4, q5, q6⟩
