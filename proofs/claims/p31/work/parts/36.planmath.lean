/-! plans by themselves: sets of lights as numbers below 1024 -/
theorem sm_next : ∀ (w u o : Nat), u &&& o = u → w &&& o = w → u < w → u ≤ (w - 1) &&& o := by
  intro w
  induction w using Nat.strongRecOn with
  | _ w ih =>
    intro u o hu hw h
    have hu2 : (u / 2) &&& (o / 2) = u / 2 := by rw [← Nat.and_div_two, hu]
    have hw2 : (w / 2) &&& (o / 2) = w / 2 := by rw [← Nat.and_div_two, hw]
    have hum : (u % 2) &&& (o % 2) = u % 2 := by rw [← Nat.and_mod_two_pow (n := 1), hu]
    have hd : ((w - 1) &&& o) / 2 = ((w - 1) / 2) &&& (o / 2) := Nat.and_div_two
    have hm : ((w - 1) &&& o) % 2 = ((w - 1) % 2) &&& (o % 2) := Nat.and_mod_two_pow (n := 1)
    rcases Nat.mod_two_eq_zero_or_one w with e | e
    · have h3 := ih (w / 2) (by omega) (u / 2) (o / 2) hu2 hw2 (by omega)
      have e2 : (w - 1) / 2 = w / 2 - 1 := by omega
      have e3 : (w - 1) % 2 = 1 := by omega
      rw [e2] at hd
      rw [e3] at hm
      have h4 : u % 2 ≤ 1 &&& (o % 2) := by
        rcases Nat.mod_two_eq_zero_or_one u with f | f
        · rw [f]; exact Nat.zero_le _
        · rw [f] at hum ⊢; exact Nat.le_of_eq hum.symm
      omega
    · have e2 : (w - 1) / 2 = w / 2 := by omega
      rw [e2, hw2] at hd
      omega
/-! lowest bits -/
theorem lowb_facts : ∀ s, s < 1024 → lowb s &&& s = lowb s ∧ (0 < s → 0 < lowb s) ∧ (0 < s → s ^^^ lowb s < s) := by decide +kernel
theorem sub_add : ∀ (b a : Nat), a &&& b = a → (b ^^^ a) + a = b := by
  intro b
  induction b using Nat.strongRecOn with
  | _ b ih =>
    intro a ha
    rcases Nat.eq_zero_or_pos b with e | hb
    · subst e
      rw [Nat.and_zero] at ha
      rw [← ha]
      rfl
    · have ha2 : (a / 2) &&& (b / 2) = a / 2 := by rw [← Nat.and_div_two, ha]
      have ham : (a % 2) &&& (b % 2) = a % 2 := by rw [← Nat.and_mod_two_pow (n := 1), ha]
      have h3 := ih (b / 2) (by omega) (a / 2) ha2
      have hd : (b ^^^ a) / 2 = b / 2 ^^^ a / 2 := Nat.xor_div_two
      have hm : (b ^^^ a) % 2 = b % 2 ^^^ a % 2 := Nat.xor_mod_two_pow (n := 1)
      rw [← hd] at h3
      rcases Nat.mod_two_eq_zero_or_one a with e | e <;> rcases Nat.mod_two_eq_zero_or_one b with f | f
      · rw [e, f] at hm; have : (0 : Nat) ^^^ 0 = 0 := by decide
        omega
      · rw [e, f] at hm; have : (1 : Nat) ^^^ 0 = 1 := by decide
        omega
      · rw [e, f] at ham; exact absurd ham (by decide)
      · rw [e, f] at hm; have : (1 : Nat) ^^^ 1 = 0 := by decide
        omega
theorem sub_le {a b : Nat} (h : a &&& b = a) : a ≤ b := by have := sub_add b a h; omega
theorem sub_lt {a b : Nat} (h : a &&& b = a) (ha : 0 < a) : b ^^^ a < b := by have := sub_add b a h; omega
/-- a first day of a set of lights: some of them, the first one among these, that may be tested together -/
def vl (al : Nat → Bool) (l s : Nat) : Prop := s &&& l = s ∧ lowb l &&& s = lowb l ∧ al s = true
abbrev vlB (al : Nat → Bool) (l s : Nat) : Prop := s &&& l = s ∧ lowb l &&& s = lowb l ∧ al s = true
theorem vl_pos {al : Nat → Bool} {l s : Nat} (h : vl al l s) (hl : 0 < l) (hN : l < 1024) : 0 < s ∧ s ≤ l ∧ l ^^^ s < l := by
  have h1 : 0 < s := by
    rcases Nat.eq_zero_or_pos s with e | e
    · have h2 := h.2.1
      rw [e, Nat.and_zero] at h2
      have := (lowb_facts l hN).2.1 hl
      omega
    · exact e
  exact ⟨h1, sub_le h.1, sub_lt h.1 h1⟩
def rowP (al : Nat → Bool) (D : Nat → Nat) (l n : Nat) : Nat × Nat := jiter (fun s b => if vlB al l s ∧ D (l ^^^ s) + 1 < b.1 then (D (l ^^^ s) + 1, s) else b) (99, 0) n
def tabP (al : Nat → Bool) : Nat → Nat → Nat × Nat
  | 0, _ => (0, 0)
  | m + 1, s => if s = m + 1 then rowP al (fun t => (tabP al m t).1) (m + 1) (m + 2) else tabP al m s
def dP (al : Nat → Bool) (l : Nat) : Nat := (tabP al l l).1
def fP (al : Nat → Bool) (l : Nat) : Nat := (tabP al l l).2
theorem tabP_eq {al : Nat → Bool} {s : Nat} : ∀ {m : Nat}, s ≤ m → tabP al m s = tabP al s s
  | 0, h => by
    have e : s = 0 := by omega
    subst e
    rfl
  | m + 1, h => by
    by_cases e : s = m + 1
    · rw [← e]
    · have q : tabP al (m + 1) s = tabP al m s := if_neg e
      rw [q, tabP_eq (by omega)]
theorem row_char {al : Nat → Bool} {D : Nat → Nat} {l : Nat} : ∀ n, ((rowP al D l n).1 = 99 ∧ ∀ s, s < n → vl al l s → 99 ≤ D (l ^^^ s) + 1) ∨ ((rowP al D l n).1 < 99 ∧ (rowP al D l n).2 < n ∧ vl al l (rowP al D l n).2 ∧ (rowP al D l n).1 = D (l ^^^ (rowP al D l n).2) + 1 ∧ (∀ s, s < n → vl al l s → (rowP al D l n).1 ≤ D (l ^^^ s) + 1) ∧ ∀ s, s < (rowP al D l n).2 → vl al l s → (rowP al D l n).1 < D (l ^^^ s) + 1)
  | 0 => Or.inl ⟨rfl, fun s hs => absurd hs (Nat.not_lt_zero s)⟩
  | n + 1 => by
    have ih := row_char (al := al) (D := D) (l := l) n
    have e : rowP al D l (n + 1) = if vlB al l n ∧ D (l ^^^ n) + 1 < (rowP al D l n).1 then (D (l ^^^ n) + 1, n) else rowP al D l n := rfl
    rw [e]
    generalize rowP al D l n = b at ih
    by_cases c : vlB al l n ∧ D (l ^^^ n) + 1 < b.1
    · rw [if_pos c]
      have hb : ∀ s, s < n → vl al l s → b.1 ≤ D (l ^^^ s) + 1 := by
        rcases ih with ⟨q1, q2⟩ | ⟨q1, q2, q3, q4, q5, q6⟩
        · intro s hs hv; rw [q1]; exact q2 s hs hv
        · exact q5
      have hb1 : b.1 ≤ 99 := by rcases ih with ⟨q1, -⟩ | ⟨q1, -⟩ <;> omega
      refine Or.inr ⟨by show D (l ^^^ n) + 1 < 99; omega, Nat.lt_succ_self n, c.1, rfl, fun s hs hv => ?_, fun s hs hv => ?_⟩
      · show D (l ^^^ n) + 1 ≤ _
        rcases Nat.lt_or_ge s n with w | w
        · have := hb s w hv; omega
        · have w2 : s = n := by omega
          rw [w2]; exact Nat.le_refl _
      · show D (l ^^^ n) + 1 < _
        have := hb s hs hv
        omega
    · rw [if_neg c]
      rcases ih with ⟨q1, q2⟩ | ⟨q1, q2, q3, q4, q5, q6⟩
      · refine Or.inl ⟨q1, fun s hs hv => ?_⟩
        rcases Nat.lt_or_ge s n with w | w
        · exact q2 s w hv
        · have w2 : s = n := by omega
          rw [w2] at hv ⊢
          rcases Nat.lt_or_ge (D (l ^^^ n) + 1) b.1 with z | z
          · exact absurd ⟨hv, z⟩ c
          · omega
      · refine Or.inr ⟨q1, by omega, q3, q4, fun s hs hv => ?_, q6⟩
        rcases Nat.lt_or_ge s n with w | w
        · exact q5 s w hv
        · have w2 : s = n := by omega
          rw [w2] at hv ⊢
          rcases Nat.lt_or_ge (D (l ^^^ n) + 1) b.1 with z | z
          · exact absurd ⟨hv, z⟩ c
          · exact z
theorem dP_0 {al : Nat → Bool} : dP al 0 = 0 := rfl
theorem row_congr {al : Nat → Bool} {D E : Nat → Nat} {l : Nat} (hl : 0 < l) (hN : l < 1024) (h : ∀ t, t < l → D t = E t) : ∀ n, rowP al D l n = rowP al E l n := by
  intro n
  unfold rowP
  refine jiter_congr (fun s hs b => ?_)
  by_cases c : vlB al l s
  · rw [h _ (vl_pos c hl hN).2.2]
  · rw [if_neg (fun q => c q.1), if_neg (fun q => c q.1)]
theorem tab_row {al : Nat → Bool} {l : Nat} (hl : 0 < l) (hN : l < 1024) : tabP al l l = rowP al (dP al) l (l + 1) := by
  obtain ⟨m, rfl⟩ : ∃ m, l = m + 1 := ⟨l - 1, by omega⟩
  have e : tabP al (m + 1) (m + 1) = rowP al (fun t => (tabP al m t).1) (m + 1) (m + 2) := if_pos rfl
  rw [e]
  refine row_congr hl hN (fun t ht => ?_) _
  show (tabP al m t).1 = (tabP al t t).1
  rw [tabP_eq (by omega)]
theorem dP_char {al : Nat → Bool} {l : Nat} (hl : 0 < l) (hN : l < 1024) : (dP al l = 99 ∧ ∀ s, vl al l s → 99 ≤ dP al (l ^^^ s) + 1) ∨ (dP al l < 99 ∧ vl al l (fP al l) ∧ dP al l = dP al (l ^^^ fP al l) + 1 ∧ (∀ s, vl al l s → dP al l ≤ dP al (l ^^^ s) + 1) ∧ ∀ s, s < fP al l → vl al l s → dP al l < dP al (l ^^^ s) + 1) := by
  have h := row_char (al := al) (D := dP al) (l := l) (l + 1)
  rw [← tab_row hl hN] at h
  rcases h with ⟨q1, q2⟩ | ⟨q1, q2, q3, q4, q5, q6⟩
  · exact Or.inl ⟨q1, fun s hv => q2 s (by have := (vl_pos hv hl hN).2.1; omega) hv⟩
  · exact Or.inr ⟨q1, q3, q4, fun s hv => q5 s (by have := (vl_pos hv hl hN).2.1; omega) hv, q6⟩
/-- what may be tested together may be tested with some left out -/
def dcl (al : Nat → Bool) : Prop := ∀ s t, s < 1024 → t &&& s = t → al s = true → al t = true
theorem dP_pos {al : Nat → Bool} {l : Nat} (hl : 0 < l) (hN : l < 1024) : 1 ≤ dP al l := by
  rcases dP_char (al := al) hl hN with ⟨q, -⟩ | ⟨-, -, q, -⟩ <;> omega
theorem dP_zero {al : Nat → Bool} {l : Nat} (hN : l < 1024) (h : dP al l = 0) : l = 0 := by
  rcases Nat.eq_zero_or_pos l with e | e
  · exact e
  · have := dP_pos (al := al) e hN; omega
theorem dP_one {al : Nat → Bool} {l : Nat} (hl : 0 < l) (hN : l < 1024) : dP al l = 1 ↔ al l = true := by
  constructor
  · intro h
    rcases dP_char (al := al) hl hN with ⟨q, -⟩ | ⟨-, q, q2, -⟩
    · omega
    · have h0 : l ^^^ fP al l = 0 := dP_zero (al := al) (Nat.lt_trans (vl_pos q hl hN).2.2 hN) (by omega)
      have h1 := sub_add l (fP al l) q.1
      rw [h0] at h1
      have h2 : fP al l = l := by omega
      have h3 := q.2.2
      rw [h2] at h3
      exact h3
  · intro h
    have hv : vl al l l := ⟨Nat.and_self l, (lowb_facts l hN).1, h⟩
    have hx : l ^^^ l = 0 := Nat.xor_self l
    have hp := dP_pos (al := al) hl hN
    rcases dP_char (al := al) hl hN with ⟨q, q2⟩ | ⟨-, -, -, q2, -⟩
    · have := q2 l hv
      rw [hx, dP_0] at this
      omega
    · have := q2 l hv
      rw [hx, dP_0] at this
      omega
def cntb (l : Nat) : Nat := (List.range 10).countP (fun i => l.testBit i)
theorem cntb_facts : ∀ s, s < 1024 → cntb s ≤ 10 ∧ (0 < s → cntb (s ^^^ lowb s) + 1 = cntb s) := by decide +kernel
theorem dP_le {al : Nat → Bool} {N : Nat} (hN : N ≤ 1024) (hs : ∀ l, 0 < l → l < N → al (lowb l) = true) : ∀ l, l < N → dP al l ≤ cntb l := by
  intro l
  induction l using Nat.strongRecOn with
  | _ l ih =>
    intro h
    rcases Nat.eq_zero_or_pos l with e | e
    · rw [e, dP_0]; exact Nat.zero_le _
    · have hf := lowb_facts l (by omega)
      have hl : lowb l ^^^ lowb l = 0 := Nat.xor_self _
      have hv : vl al l (lowb l) := ⟨hf.1, Nat.and_self _, hs l e h⟩
      have hx := hf.2.2 e
      have h1 := ih _ hx (by omega)
      have h2 := (cntb_facts l (by omega)).2 e
      have h3 := (cntb_facts l (by omega)).1
      rcases dP_char (al := al) e (by omega) with ⟨q, q2⟩ | ⟨-, -, -, q2, -⟩
      · have := q2 _ hv; omega
      · have := q2 _ hv; omega
theorem bit_sub {f i : Nat} (h : f.testBit i = true) : 2 ^ i &&& f = 2 ^ i := by
  apply Nat.eq_of_testBit_eq
  intro j
  rw [Nat.testBit_and, Nat.testBit_two_pow]
  by_cases e : i = j
  · subst e; simp [h]
  · simp [e]
theorem dP_bad {al : Nat → Bool} {i : Nat} (hd : dcl al) (hi : ¬ al (2 ^ i) = true) : ∀ l, l < 1024 → l.testBit i = true → dP al l = 99 := by
  intro l
  induction l using Nat.strongRecOn with
  | _ l ih =>
    intro hN hb
    have hl : 0 < l := by
      rcases Nat.eq_zero_or_pos l with e | e
      · rw [e, Nat.zero_testBit] at hb; cases hb
      · exact e
    rcases dP_char (al := al) hl hN with ⟨q, -⟩ | ⟨q0, q, q2, -⟩
    · exact q
    · have hp := vl_pos q hl hN
      by_cases hf : (fP al l).testBit i = true
      · exact absurd (hd _ _ (by omega) (bit_sub hf) q.2.2) hi
      · have hx : (l ^^^ fP al l).testBit i = true := by
          rw [Nat.testBit_xor, hb]
          cases h : (fP al l).testBit i
          · rfl
          · exact absurd h hf
        have := ih _ hp.2.2 (by omega) hx
        omega
/-! which sets may not be tested together: those that hold a forbidden one -/
theorem al_cond {al : Nat → Bool} {B : Nat → Prop} {s : Nat} (hd : dcl al) (hal : ∀ s, s < 1024 → (al s = true ↔ ∀ t, 0 < t → B t → ¬ t &&& s = t)) (hs : 0 < s) (hN : s < 1024) :
    ((B s ∨ ∃ i, i < 10 ∧ s.testBit i = true ∧ 1 < dP al (s ^^^ 2 ^ i)) ↔ ¬ al s = true) := by
  constructor
  · rintro (h | ⟨i, hi, hb, h⟩) hal2
    · exact (hal s hN).mp hal2 s hs h (Nat.and_self s)
    · have hsub : (s ^^^ 2 ^ i) &&& s = s ^^^ 2 ^ i := by
        apply Nat.eq_of_testBit_eq
        intro j
        rw [Nat.testBit_and, Nat.testBit_xor, Nat.testBit_two_pow]
        by_cases e : i = j
        · subst e; simp [hb]
        · simp [e]
      have hlt : s ^^^ 2 ^ i < 1024 := Nat.lt_of_le_of_lt (sub_le hsub) hN
      have hpos : 0 < s ^^^ 2 ^ i := by
        rcases Nat.eq_zero_or_pos (s ^^^ 2 ^ i) with e | e
        · rw [e, dP_0] at h; omega
        · exact e
      have := (dP_one (al := al) hpos hlt).mpr (hd _ _ hN hsub hal2)
      omega
  · intro h
    rw [hal s hN] at h
    obtain ⟨t, h1⟩ := Classical.not_forall.mp h
    obtain ⟨ht, h2⟩ := Classical.not_imp.mp h1
    obtain ⟨hB, h3⟩ := Classical.not_imp.mp h2
    have hsub : t &&& s = t := Classical.not_not.mp h3
    by_cases e : t = s
    · rw [e] at hB; exact Or.inl hB
    · obtain ⟨i, hi⟩ := Nat.exists_testBit_ne_of_ne e
      have hz := congrArg (fun z => z.testBit i) hsub
      simp only [Nat.testBit_and] at hz
      have hsb : s.testBit i = true ∧ t.testBit i = false := by
        revert hz hi
        cases t.testBit i <;> cases s.testBit i <;> simp
      have hi10 : i < 10 := by
        rcases Nat.lt_or_ge i 10 with w | w
        · exact w
        · have : s < 2 ^ i := Nat.lt_of_lt_of_le hN (Nat.pow_le_pow_right (n := 2) (by decide) w)
          rw [Nat.testBit_lt_two_pow this] at hsb
          exact absurd hsb.1 (by decide)
      refine Or.inr ⟨i, hi10, hsb.1, ?_⟩
      have hsub2 : t &&& (s ^^^ 2 ^ i) = t := by
        apply Nat.eq_of_testBit_eq
        intro j
        have hj := congrArg (fun z => z.testBit j) hsub
        simp only [Nat.testBit_and] at hj
        rw [Nat.testBit_and, Nat.testBit_xor, Nat.testBit_two_pow]
        by_cases w : i = j
        · subst w; simp [hsb.2]
        · simp [w, hj]
      have hsub3 : (s ^^^ 2 ^ i) &&& s = s ^^^ 2 ^ i := by
        apply Nat.eq_of_testBit_eq
        intro j
        rw [Nat.testBit_and, Nat.testBit_xor, Nat.testBit_two_pow]
        by_cases e : i = j
        · subst e; simp [hsb.1]
        · simp [e]
      have hlt : s ^^^ 2 ^ i < 1024 := Nat.lt_of_le_of_lt (sub_le hsub3) hN
      have hpos : 0 < s ^^^ 2 ^ i := Nat.lt_of_lt_of_le ht (sub_le hsub2)
      have hn : ¬ al (s ^^^ 2 ^ i) = true := fun q => (hal _ hlt).mp q t ht hB hsub2
      have hp := dP_pos (al := al) hpos hlt
      have h1 : ¬ dP al (s ^^^ 2 ^ i) = 1 := fun q => hn ((dP_one hpos hlt).mp q)
      omega
