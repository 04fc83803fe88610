/-! the first set of the days, and the sets of all days -/
theorem sp_add {s fi u : Nat} (hu : u &&& (s ^^^ fi) = u) (hf : fi &&& s = fi) : fi ||| u = fi + u := by
  have h1 : (fi ||| u) ^^^ fi = u := by
    apply Nat.eq_of_testBit_eq
    intro j
    have h1 := congrArg (fun z => z.testBit j) hf
    have h2 := congrArg (fun z => z.testBit j) hu
    simp only [Nat.testBit_and, Nat.testBit_xor, Nat.testBit_or] at h1 h2 ⊢
    revert h1 h2
    cases s.testBit j <;> cases fi.testBit j <;> cases u.testBit j <;> simp
  have h2 : fi &&& (fi ||| u) = fi := (sp_facts hf hu).2.1
  have h3 := sub_add (fi ||| u) fi h2
  rw [h1] at h3
  omega
theorem fsN_min {al : Nat → Bool} {F : jF} {l : Nat} (hl : 0 < l) (hN : l < 1024) (hF : ∀ t, t ≤ l → F t = nI (dP al t)) (h10 : ∀ t, t ≤ l → dP al t ≤ 10) : fsN F l = fP al l := by
  obtain ⟨l1, l2, l3⟩ := lowb_facts l hN
  have hfi : 0 < lowb l := l2 hl
  have hle : lowb l ≤ l := sub_le l1
  have hd := h10 l (Nat.le_refl l)
  rcases dP_char (al := al) hl hN with ⟨q, -⟩ | ⟨-, f1, f2, f3, f4⟩
  · omega
  · have hbfi := begB_iff (al := al) (F := F) hN hF h10 l1 hfi
    have hback := sp_back (s := l) (fi := lowb l) (t := fP al l) f1.2.1 f1.1
    unfold fsN
    by_cases c : begB F (nI (lowb l)) (nI l)
    · rw [if_pos c]
      have hc := hbfi.mp c
      have hv : vl al l (lowb l) := ⟨l1, Nat.and_self _, hc.1⟩
      have h1 : lowb l ≤ fP al l := sub_le f1.2.1
      rcases Nat.lt_or_ge (lowb l) (fP al l) with w | w
      · have := f4 _ w hv
        omega
      · omega
    · rw [if_neg c]
      have hc := fun q => c (hbfi.mpr q)
      have hus : ∀ u, u &&& (l ^^^ lowb l) = u → (begB F (nI (lowb l ||| u)) (nI l) ↔ al (lowb l ||| u) = true ∧ dP al l = dP al ((l ^^^ lowb l) ^^^ u) + 1) := by
        intro u hu
        have hsp := sp_facts l1 hu
        have := begB_iff (al := al) (F := F) hN hF h10 hsp.1 (Nat.lt_of_lt_of_le hfi Nat.left_le_or)
        rw [hsp.2.2] at this
        exact this
      have hu0 : 0 < fP al l ^^^ lowb l := by
        rcases Nat.eq_zero_or_pos (fP al l ^^^ lowb l) with z | z
        · have h1 := hback.2
          rw [z, Nat.or_zero] at h1
          exact absurd ⟨by rw [h1]; exact f1.2.2, by rw [h1]; exact f2⟩ hc
        · exact z
      have huv : al (lowb l ||| (fP al l ^^^ lowb l)) = true ∧ dP al l = dP al ((l ^^^ lowb l) ^^^ (fP al l ^^^ lowb l)) + 1 := by
        have hsp := sp_facts l1 hback.1
        rw [← hsp.2.2, hback.2]
        exact ⟨f1.2.2, f2⟩
      have hso : (l ^^^ lowb l) < 1024 := by have := l3 hl; omega
      rcases fsR_min (fi := lowb l) (o := l ^^^ lowb l) (l := l) hus 1024 (l ^^^ lowb l) l (by omega) (Nat.and_self _) with ⟨q1, q2⟩ | ⟨u, q1, q2, q3, q4, q5, q6⟩
      · exact absurd huv (q2 _ hback.1 hu0 (sub_le hback.1))
      · rw [q4]
        have h1 : ¬ fP al l ^^^ lowb l < u := fun w => q6 _ hback.1 hu0 w huv
        have hsp := sp_facts l1 q1
        have hv : vl al l (lowb l ||| u) := ⟨hsp.1, hsp.2.1, q5.1⟩
        have e1 := sp_add q1 l1
        have e2 := sp_add hback.1 l1
        rw [hback.2] at e2
        rcases Nat.lt_or_ge (lowb l ||| u) (fP al l) with w | w
        · have := f4 _ w hv
          rw [hsp.2.2] at this
          omega
        · omega
/-- what is left before a day -/
def dayL (al : Nat → Bool) (l : Nat) (t : Nat) : Nat := jiter (fun _ l => l ^^^ fP al l) l t
theorem dayL_days {al : Nat → Bool} {l : Nat} (hN : l < 1024) (h10 : ∀ t, t ≤ l → dP al t ≤ 10) : ∀ t, t ≤ dP al l → dayL al l t ≤ l ∧ dP al (dayL al l t) = dP al l - t
  | 0, _ => ⟨Nat.le_refl l, rfl⟩
  | t + 1, h => by
    obtain ⟨h1, h2⟩ := dayL_days hN h10 t (by omega)
    have e : dayL al l (t + 1) = dayL al l t ^^^ fP al (dayL al l t) := rfl
    rw [e]
    generalize dayL al l t = u at h1 h2
    have hu : 0 < u := by
      rcases Nat.eq_zero_or_pos u with z | z
      · rw [z, dP_0] at h2; omega
      · exact z
    have := h10 u h1
    rcases dP_char (al := al) hu (by omega) with ⟨q, -⟩ | ⟨-, f1, f2, -⟩
    · omega
    · have := vl_pos f1 hu (by omega)
      exact ⟨by omega, by omega⟩
theorem lft_day {al : Nat → Bool} {F : jF} {l : Nat} (hN : l < 1024) (hF : ∀ t, t ≤ l → F t = nI (dP al t)) (h10 : ∀ t, t ≤ l → dP al t ≤ 10) : ∀ t, t ≤ dP al l → lft F l t = dayL al l t
  | 0, _ => rfl
  | t + 1, h => by
    have e : lft F l (t + 1) = lft F l t ^^^ fsN F (lft F l t) := rfl
    have e2 : dayL al l (t + 1) = dayL al l t ^^^ fP al (dayL al l t) := rfl
    obtain ⟨h1, h2⟩ := dayL_days hN h10 t (by omega)
    have hu : 0 < dayL al l t := by
      rcases Nat.eq_zero_or_pos (dayL al l t) with z | z
      · rw [z, dP_0] at h2; omega
      · exact z
    rw [e, e2, lft_day hN hF h10 t (by omega), fsN_min (al := al) hu (by omega) (fun t ht => hF t (by omega)) (fun t ht => h10 t (by omega))]
theorem set_day {al : Nat → Bool} {F : jF} {l t : Nat} (hN : l < 1024) (hF : ∀ t, t ≤ l → F t = nI (dP al t)) (h10 : ∀ t, t ≤ l → dP al t ≤ 10) (ht : t < dP al l) : fsN F (lft F l t) = fP al (dayL al l t) := by
  obtain ⟨h1, h2⟩ := dayL_days hN h10 t (by omega)
  have hu : 0 < dayL al l t := by
    rcases Nat.eq_zero_or_pos (dayL al l t) with z | z
    · rw [z, dP_0] at h2; omega
    · exact z
  rw [lft_day hN hF h10 t (by omega), fsN_min (al := al) hu (by omega) (fun t ht => hF t (by omega)) (fun t ht => h10 t (by omega))]
