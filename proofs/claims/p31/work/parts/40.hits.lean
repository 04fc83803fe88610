/-! what the lights that are ready reach, as sets; what is dark; what is forbidden -/
def lookA (need : Int32) (X : List (Nat × jF)) (k q : Nat) : Nat := (lookN need X k q).toNatClampNeg
theorem lookN_nat {need : Int32} {X : List (Nat × jF)} {q : Nat} : ∀ k, k ≤ 10 → ∃ a, a < 2 ^ k ∧ lookN need X k q = nI a
  | 0, _ => ⟨0, by decide, rfl⟩
  | k + 1, h => by
    obtain ⟨a, h1, h2⟩ := lookN_nat (need := need) (X := X) (q := q) k (by omega)
    have e : lookN need X (k + 1) q = lookStep need X q k (lookN need X k q) := rfl
    have hp : 2 ^ k < 2 ^ (k + 1) := Nat.pow_lt_pow_right (by decide) (by omega)
    rw [e, h2]
    unfold lookStep
    by_cases c : ¬ endL (jL X k) < need ∧ inR (jL X k) q
    · rw [if_pos c, bits_sh k (by omega), nI_or]
      exact ⟨_, Nat.or_lt_two_pow (by omega) hp, rfl⟩
    · rw [if_neg c]
      exact ⟨a, by omega, rfl⟩
theorem lookA_eq {need : Int32} {X : List (Nat × jF)} {k q : Nat} (hk : k ≤ 10) : lookN need X k q = nI (lookA need X k q) ∧ lookA need X k q < 2 ^ k := by
  obtain ⟨a, h1, h2⟩ := lookN_nat (need := need) (X := X) (q := q) k hk
  have hp : 2 ^ k ≤ 1024 := Nat.pow_le_pow_right (n := 2) (by decide) hk
  have e : lookA need X k q = a := by
    unfold lookA
    rw [h2, nI_cl (by omega)]
  rw [e]
  exact ⟨h2, h1⟩
theorem cnt_char {P : Nat → Prop} [DecidablePred P] : ∀ m, ∃ c, jiter (fun t (n : Int32) => if P t then n + 1 else n) 0 m = nI c ∧ c ≤ m ∧ (c = 0 ↔ ∀ t, t < m → ¬ P t)
  | 0 => ⟨0, rfl, Nat.le_refl 0, ⟨fun _ t ht => absurd ht (Nat.not_lt_zero t), fun _ => rfl⟩⟩
  | m + 1 => by
    obtain ⟨c, h1, h2, h3⟩ := cnt_char (P := P) m
    have e : jiter (fun t (n : Int32) => if P t then n + 1 else n) 0 (m + 1) = if P m then jiter (fun t (n : Int32) => if P t then n + 1 else n) 0 m + 1 else jiter (fun t (n : Int32) => if P t then n + 1 else n) 0 m := rfl
    rw [e, h1]
    by_cases w : P m
    · rw [if_pos w]
      exact ⟨c + 1, nI_1 c, by omega, ⟨fun q => by omega, fun q => absurd w (q m (by omega))⟩⟩
    · rw [if_neg w]
      refine ⟨c, rfl, by omega, ⟨fun q t ht => ?_, fun q => h3.mpr (fun t ht => q t (by omega))⟩⟩
      rcases Nat.lt_or_ge t m with z | z
      · exact h3.mp q t z
      · have z2 : t = m := by omega
        rw [z2]; exact w
theorem dark_char {need : Int32} {X : List (Nat × jF)} {k a b : Nat} {s : Int32} (hb : b ≤ 200) : ∃ c, darkX need X k a b s = nI c ∧ c ≤ 201 ∧ (c = 0 ↔ ∀ p, a ≤ p → p ≤ b → ¬ lookN need X k p &&& s = 0) := by
  obtain ⟨c, h1, h2, h3⟩ := cnt_char (P := fun t => lookN need X k (a + t) &&& s = 0) (b + 1 - a)
  refine ⟨c, h1, by omega, h3.trans ⟨fun q p p1 p2 => ?_, fun q t ht => q (a + t) (by omega) (by omega)⟩⟩
  have := q (p - a) (by omega)
  rw [show a + (p - a) = p by omega] at this
  exact this
theorem dark_zero {need : Int32} {X : List (Nat × jF)} {k a b : Nat} {s : Int32} (hb : b ≤ 200) : darkX need X k a b s = 0 ↔ ∀ p, a ≤ p → p ≤ b → ¬ lookN need X k p &&& s = 0 := by
  obtain ⟨c, h1, h2, h3⟩ := dark_char (need := need) (X := X) (k := k) (a := a) (b := b) (s := s) hb
  rw [← h3, h1]
  exact ⟨fun q => nI_injN (by omega) (by decide) (q.trans nI_0.symm), fun q => by rw [q]; exact nI_0⟩
theorem dark_pos {need : Int32} {X : List (Nat × jF)} {k a b : Nat} {s : Int32} (hb : b ≤ 200) : 0 < darkX need X k a b s ↔ ∃ p, a ≤ p ∧ p ≤ b ∧ lookN need X k p &&& s = 0 := by
  obtain ⟨c, h1, h2, h3⟩ := dark_char (need := need) (X := X) (k := k) (a := a) (b := b) (s := s) hb
  rw [h1, ← nI_0, nI_ltI (by decide) (by omega)]
  constructor
  · intro q
    have : ¬ c = 0 := by omega
    rw [h3] at this
    obtain ⟨p, hp⟩ := Classical.not_forall.mp this
    obtain ⟨p1, hp⟩ := Classical.not_imp.mp hp
    obtain ⟨p2, hp⟩ := Classical.not_imp.mp hp
    exact ⟨p, p1, p2, Classical.not_not.mp hp⟩
  · rintro ⟨p, p1, p2, p3⟩
    have : ¬ c = 0 := fun q => h3.mp q p p1 p2 p3
    omega
theorem and_full {a : Nat} (h : a < 1024) : nI a &&& 1023 = nI a := by
  show nI a &&& nI 1023 = nI a
  rw [nI_and, show (1023 : Nat) = 2 ^ 10 - 1 from rfl, Nat.and_two_pow_sub_one_eq_mod, Nat.mod_eq_of_lt h]
theorem not_full : ∀ s, s < 1024 → (1023 : Int32) &&& (nI s ^^^ -1) = nI (1023 ^^^ s) := by decide +kernel
theorem and_not {a s : Nat} (ha : a < 1024) (hs : s < 1024) : nI a &&& (nI s ^^^ -1) = 0 ↔ a &&& s = a := by
  rw [← and_full ha, Int32.and_assoc, not_full s hs, nI_and]
  have h1 : a &&& (1023 ^^^ s) < 2 ^ 31 := Nat.lt_of_le_of_lt Nat.and_le_left (by omega)
  have hbit : ∀ j, a.testBit j = true → (1023 : Nat).testBit j = true := by
    intro j hj
    have h10 : j < 10 := by
      rcases Nat.lt_or_ge j 10 with w | w
      · exact w
      · rw [Nat.testBit_lt_two_pow (Nat.lt_of_lt_of_le ha (Nat.pow_le_pow_right (n := 2) (by decide) w))] at hj
        cases hj
    rw [show (1023 : Nat) = 2 ^ 10 - 1 from rfl, Nat.testBit_two_pow_sub_one]
    exact decide_eq_true h10
  constructor
  · intro q
    have q2 : a &&& (1023 ^^^ s) = 0 := nI_injN h1 (by decide) (q.trans nI_0.symm)
    apply Nat.eq_of_testBit_eq
    intro j
    have h2 := congrArg (fun z => z.testBit j) q2
    have h3 := hbit j
    simp only [Nat.testBit_and, Nat.testBit_xor, Nat.zero_testBit] at h2 ⊢
    revert h2 h3
    cases a.testBit j <;> cases s.testBit j <;> cases (1023 : Nat).testBit j <;> simp
  · intro q
    have q2 : a &&& (1023 ^^^ s) = 0 := by
      apply Nat.eq_of_testBit_eq
      intro j
      have h2 := congrArg (fun z => z.testBit j) q
      have h3 := hbit j
      simp only [Nat.testBit_and, Nat.testBit_xor, Nat.zero_testBit] at h2 ⊢
      revert h2 h3
      cases a.testBit j <;> cases s.testBit j <;> cases (1023 : Nat).testBit j <;> simp
    rw [q2]; exact nI_0
