/-! what the class's planner makes of a row of days is the row of the fewest days -/
theorem bits_sh : ∀ i, i < 10 → 1 <<< (nI i &&& 31) = nI (2 ^ i) := by decide
theorem bits_tb : ∀ i, i < 10 → ∀ s, s < 1024 → (((nI s >>> (nI i &&& 31)) &&& 1 = 1) ↔ s.testBit i = true) := by decide +kernel
theorem by_ten : ∀ x, x < 11 → (nI x).toInt8.toInt32 = nI x := by decide
theorem jmin_nat {a b : Nat} (ha : a < 2 ^ 31) (hb : b < 2 ^ 31) : jmin (nI a) (nI b) = nI (min a b) := by
  unfold jmin
  by_cases h : nI b < nI a
  · rw [if_pos h]
    rw [nI_ltI hb ha] at h
    rw [Nat.min_eq_right (by omega)]
  · rw [if_neg h]
    rw [nI_ltI hb ha] at h
    rw [Nat.min_eq_left (by omega)]
theorem one_nI {x : Nat} : 1 + nI x = nI (1 + x) := by rw [Int32.add_comm, nI_1, Nat.add_comm]
theorem nI_eq1 {x : Nat} (h : x < 2 ^ 31) : nI x = 1 ↔ x = 1 := ⟨fun q => nI_injN h (by decide) q, fun q => by rw [q]; rfl⟩
theorem nI_le1 {x : Nat} (h : x < 2 ^ 31) : ¬ nI x ≤ 1 ↔ 1 < x := by
  show ¬ nI x ≤ nI 1 ↔ _
  rw [nI_leI h (by decide)]
  omega
/-- u lies in what is left of s without its first one: together they make a set of s -/
theorem sp_facts {s fi u : Nat} (hf : fi &&& s = fi) (hu : u &&& (s ^^^ fi) = u) : (fi ||| u) &&& s = fi ||| u ∧ fi &&& (fi ||| u) = fi ∧ s ^^^ (fi ||| u) = (s ^^^ fi) ^^^ u := by
  refine ⟨?_, ?_, ?_⟩ <;> apply Nat.eq_of_testBit_eq <;> intro j <;> have h1 := congrArg (fun z => z.testBit j) hf <;> have h2 := congrArg (fun z => z.testBit j) hu <;> simp only [Nat.testBit_and, Nat.testBit_xor, Nat.testBit_or] at h1 h2 ⊢ <;> revert h1 h2 <;> cases s.testBit j <;> cases fi.testBit j <;> cases u.testBit j <;> simp
theorem sp_back {s fi t : Nat} (hf : fi &&& t = fi) (ht : t &&& s = t) : (t ^^^ fi) &&& (s ^^^ fi) = t ^^^ fi ∧ fi ||| (t ^^^ fi) = t := by
  refine ⟨?_, ?_⟩ <;> apply Nat.eq_of_testBit_eq <;> intro j <;> have h1 := congrArg (fun z => z.testBit j) hf <;> have h2 := congrArg (fun z => z.testBit j) ht <;> simp only [Nat.testBit_and, Nat.testBit_xor, Nat.testBit_or] at h1 h2 ⊢ <;> revert h1 h2 <;> cases s.testBit j <;> cases fi.testBit j <;> cases t.testBit j <;> simp
theorem faR_min {al : Nat → Bool} {F : jF} {fi o d : Nat} (hfi : 0 < fi) (hfN : fi < 1024) (hoN : o < 1024) (h1 : ∀ w, w &&& o = w → w < o → F (fi ||| w) = nI (dP al (fi ||| w)) ∧ F (o ^^^ w) = nI (dP al (o ^^^ w)) ∧ dP al (fi ||| w) ≤ 10 ∧ dP al (o ^^^ w) ≤ 10)
    (h2 : ∀ w, w &&& o = w → w < o → al (fi ||| w) = true → d ≤ 1 + dP al (o ^^^ w)) : ∀ (fu w r0 : Nat), w < fu → w &&& o = w → w < o → d ≤ r0 → r0 ≤ 99 → ∃ r, faR F fi o fu w (nI r0) = nI r ∧ d ≤ r ∧ r ≤ r0 ∧ (r ≤ 2 ∨ ∀ u, u &&& o = u → 0 < u → u ≤ w → al (fi ||| u) = true → r ≤ 1 + dP al (o ^^^ u))
  | 0, w, r0, hw, _, _, _, _ => absurd hw (Nat.not_lt_zero w)
  | fu + 1, w, r0, hw, hs, ho, hd, hr => by
    by_cases c : 0 < w ∧ ¬ nI r0 ≤ 2
    · have hwN : w < 1024 := by omega
      obtain ⟨e1, e2, e3, e4⟩ := h1 w hs ho
      have hor : fi ||| w < 1024 := or_lt hfN hwN
      have hop : 0 < fi ||| w := Nat.lt_of_lt_of_le hfi Nat.left_le_or
      have hnx : (w - 1) &&& o < w := Nat.lt_of_le_of_lt Nat.and_le_left (by omega)
      have hsub : ((w - 1) &&& o) &&& o = (w - 1) &&& o := by rw [Nat.and_assoc, Nat.and_self]
      have key : ∃ r1, (if dF F (nI (fi ||| w)) = 1 then jmin (nI r0) (1 + dF F (nI (o ^^^ w))) else nI r0) = nI r1 ∧ d ≤ r1 ∧ r1 ≤ r0 ∧ (al (fi ||| w) = true → r1 ≤ 1 + dP al (o ^^^ w)) := by
        rw [dF_nat hor, dF_nat (xor_lt hoN hwN), e1, e2]
        by_cases z : al (fi ||| w) = true
        · have z1 := (dP_one (al := al) hop hor).mpr z
          rw [if_pos (by rw [z1]; rfl), one_nI, jmin_nat (by omega) (by omega)]
          have := h2 w hs ho z
          exact ⟨_, rfl, by omega, Nat.min_le_left _ _, fun _ => Nat.min_le_right _ _⟩
        · have z1 : ¬ dP al (fi ||| w) = 1 := fun q => z ((dP_one hop hor).mp q)
          rw [if_neg (fun q => z1 ((nI_eq1 (by omega)).mp q))]
          exact ⟨r0, rfl, hd, Nat.le_refl _, fun q => absurd q z⟩
      obtain ⟨r1, k1, k2, k3, k4⟩ := key
      obtain ⟨r, i1, i2, i3, i4⟩ := faR_min hfi hfN hoN h1 h2 fu ((w - 1) &&& o) r1 (by omega) hsub (by omega) k2 (by omega)
      refine ⟨r, by rw [faR_1 c, k1]; exact i1, i2, by omega, ?_⟩
      rcases i4 with i4 | i4
      · exact Or.inl i4
      · refine Or.inr (fun u q1 q2 q3 q4 => ?_)
        rcases Nat.lt_or_ge u w with z | z
        · exact i4 u q1 q2 (sm_next w u o q1 hs z) q4
        · have z1 : u = w := by omega
          rw [z1] at q4 ⊢
          have := k4 q4
          omega
    · refine ⟨r0, faR_0 c, hd, Nat.le_refl _, ?_⟩
      by_cases z : 0 < w
      · have z2 : nI r0 ≤ nI 2 := Classical.not_not.mp (fun q => c ⟨z, q⟩)
        rw [nI_leI (by omega) (by decide)] at z2
        exact Or.inl z2
      · exact Or.inr (fun u q1 q2 q3 q4 => by omega)
theorem faV_min {al : Nat → Bool} {F : jF} {s : Nat} (hs : 0 < s) (hN : s < 1024) (hF : ∀ t, t < s → F t = nI (dP al t)) (h10 : ∀ t, t ≤ s → dP al t ≤ 10) (hlow : al (lowb s) = true) (hna : ¬ al s = true) : faV F s = nI (dP al s) := by
  obtain ⟨l1, l2, l3⟩ := lowb_facts s hN
  have hfi : 0 < lowb s := l2 hs
  have hos := l3 hs
  have hle : lowb s ≤ s := sub_le l1
  have hne : lowb s ≠ s := fun q => hna (by rw [q] at hlow; exact hlow)
  have hoo : (s ^^^ lowb s) + lowb s = s := sub_add s (lowb s) l1
  generalize hfi0 : lowb s = fi at *
  generalize hoE : s ^^^ fi = o at *
  have ho0 : 0 < o := by omega
  have hd10 := h10 s (Nat.le_refl s)
  have hprop : ∀ w, w &&& o = w → w < o → fi ||| w < s ∧ o ^^^ w ≤ o := by
    intro w hw hwo
    have hsp := sp_facts (s := s) (fi := fi) (u := w) l1 (by rw [hoE]; exact hw)
    rw [hoE] at hsp
    have hx := sub_add o w hw
    have hy := sub_add s (fi ||| w) hsp.1
    rw [hsp.2.2] at hy
    omega
  have hvl : ∀ w, w &&& o = w → al (fi ||| w) = true → dP al s ≤ 1 + dP al (o ^^^ w) := by
    intro w hw ha
    have hsp := sp_facts (s := s) (fi := fi) (u := w) l1 (by rw [hoE]; exact hw)
    rw [hoE] at hsp
    have hv : vl al s (fi ||| w) := ⟨hsp.1, by rw [hfi0]; exact hsp.2.1, ha⟩
    rcases dP_char (al := al) hs hN with ⟨q, -⟩ | ⟨-, -, -, q, -⟩
    · omega
    · have := q _ hv
      rw [hsp.2.2] at this
      omega
  have hzo : (0 : Nat) &&& o = 0 := Nat.zero_and o
  have hr0 : dP al s ≤ 1 + dP al o := by
    have := hvl 0 hzo (by rw [Nat.or_zero]; exact hlow)
    rw [Nat.xor_zero] at this
    exact this
  have hnx : (o - 1) &&& o < o := Nat.lt_of_le_of_lt Nat.and_le_left (by omega)
  have hsub : ((o - 1) &&& o) &&& o = (o - 1) &&& o := by rw [Nat.and_assoc, Nat.and_self]
  have ho10 := h10 o (by omega)
  obtain ⟨r, i1, i2, i3, i4⟩ := faR_min (al := al) (F := F) (fi := fi) (o := o) (d := dP al s) hfi (by omega) (by omega)
    (fun w hw hwo => ⟨hF _ (hprop w hw hwo).1, hF _ (by have := (hprop w hw hwo).2; omega), h10 _ (by have := (hprop w hw hwo).1; omega), h10 _ (by have := (hprop w hw hwo).2; omega)⟩)
    (fun w hw _ ha => hvl w hw ha) 1024 ((o - 1) &&& o) (1 + dP al o) (by omega) hsub hnx hr0 (by omega)
  have hstart : 1 + dF F (nI o) = nI (1 + dP al o) := by rw [dF_nat (by omega), hF o (by omega), one_nI]
  have hgoal : faV F s = nI r := by
    unfold faV
    rw [hfi0, hoE, hstart]
    exact i1
  rw [hgoal]
  have hp := dP_pos (al := al) hs hN
  have hn1 : ¬ dP al s = 1 := fun q => hna ((dP_one hs hN).mp q)
  have hfin : r = dP al s := by
    rcases i4 with i4 | i4
    · omega
    · rcases dP_char (al := al) hs hN with ⟨q, -⟩ | ⟨-, q, q2, -⟩
      · omega
      · have hbk := sp_back (s := s) (fi := fi) (t := fP al s) (by rw [← hfi0]; exact q.2.1) q.1
        rw [hoE] at hbk
        have hsp := sp_facts (s := s) (fi := fi) (u := fP al s ^^^ fi) l1 (by rw [hoE]; exact hbk.1)
        rw [hoE, hbk.2] at hsp
        rw [hsp.2.2] at q2
        have hau : al (fi ||| (fP al s ^^^ fi)) = true := by rw [hbk.2]; exact q.2.2
        rcases Nat.eq_zero_or_pos (fP al s ^^^ fi) with z | z
        · rw [z, Nat.xor_zero] at q2
          omega
        · have hlt : fP al s ^^^ fi < o := by
            rcases Nat.lt_or_ge (fP al s ^^^ fi) o with w | w
            · exact w
            · have w2 : fP al s ^^^ fi = o := Nat.le_antisymm (sub_le hbk.1) w
              have w3 := hbk.2
              rw [w2] at w3
              have w4 : fi ||| o = s := by
                have := (sp_back (s := s) (fi := fi) (t := s) (by exact l1) (Nat.and_self s)).2
                rw [hoE] at this
                exact this
              rw [w4] at w3
              have := q.2.2
              rw [← w3] at this
              exact absurd this hna
          have := i4 _ hbk.1 z (sm_next o _ o hbk.1 (Nat.and_self o) hlt) hau
          omega
  rw [hfin]
