/-! the plan of a state -/
def safeR (need : Int32) (X : List (Nat × jF)) (k a b : Nat) : Prop := ∀ p, a ≤ p → p ≤ b → 0 < lookA need X k p
def hitP (need : Int32) (X : List (Nat × jF)) (k n : Nat) (ra rb : Nat → Nat) (t : Nat) : Prop := ∃ r, r < n ∧ safeR need X k (ra r) (rb r) ∧ ∃ p, ra r ≤ p ∧ p ≤ rb r ∧ lookA need X k p = t
theorem pow_1024 {k : Nat} (hk : k ≤ 10) : 2 ^ k ≤ 1024 := Nat.pow_le_pow_right (n := 2) (by decide) hk
theorem safe_dark {need : Int32} {X : List (Nat × jF)} {k a b : Nat} (hk : k ≤ 10) (hb : b ≤ 200) : darkX need X k a b 1023 = 0 ↔ safeR need X k a b := by
  rw [dark_zero hb]
  have hp := pow_1024 hk
  constructor
  · intro q p p1 p2
    obtain ⟨e1, e2⟩ := lookA_eq (need := need) (X := X) (q := p) hk
    have := q p p1 p2
    rw [e1, and_full (by omega)] at this
    rcases Nat.eq_zero_or_pos (lookA need X k p) with z | z
    · exact absurd (by rw [z]; exact nI_0) this
    · exact z
  · intro q p p1 p2 h
    obtain ⟨e1, e2⟩ := lookA_eq (need := need) (X := X) (q := p) hk
    have h2 := q p p1 p2
    rw [e1, and_full (by omega)] at h
    have := nI_injN (by omega) (by decide) (h.trans nI_0.symm)
    omega
theorem alw_char {S : BS} (hk : (bLs S).length ≤ 10) (hr : ∀ r, r < (bRs S).length → rbS S r ≤ 200) {s : Nat} (hs : s < 1024) : alw S (nI s) = true ↔ ∀ t, 0 < t → hitP (bNeed S) (lsX (bLs S)) (bLs S).length (bRs S).length (raS S) (rbS S) t → ¬ t &&& s = t := by
  have hp := pow_1024 hk
  have at_char : ∀ r, r < (bRs S).length → (alwAt S (nI s) r ↔ (safeR (bNeed S) (lsX (bLs S)) (bLs S).length (raS S r) (rbS S r) → ∀ p, raS S r ≤ p → p ≤ rbS S r → ¬ lookA (bNeed S) (lsX (bLs S)) (bLs S).length p &&& s = lookA (bNeed S) (lsX (bLs S)) (bLs S).length p)) := by
    intro r hrn
    have hb := hr r hrn
    show ¬ (darkX _ _ _ _ _ _ = 0 ∧ 0 < darkX _ _ _ _ _ _) ↔ _
    rw [safe_dark hk hb, dark_pos hb]
    constructor
    · intro q h1 p p1 p2 h2
      obtain ⟨e1, e2⟩ := lookA_eq (need := bNeed S) (X := lsX (bLs S)) (q := p) hk
      exact q ⟨h1, p, p1, p2, by rw [e1]; exact (and_not (by omega) hs).mpr h2⟩
    · rintro q ⟨h1, p, p1, p2, h2⟩
      obtain ⟨e1, e2⟩ := lookA_eq (need := bNeed S) (X := lsX (bLs S)) (q := p) hk
      rw [e1] at h2
      exact q h1 p p1 p2 ((and_not (by omega) hs).mp h2)
  constructor
  · rintro h t ht ⟨r, hrn, h1, p, p1, p2, rfl⟩
    unfold alw at h
    rw [List.all_eq_true] at h
    exact (at_char r hrn).mp (of_decide_eq_true (h r (List.mem_range.mpr hrn))) h1 p p1 p2
  · intro h
    refine alw_t (fun r hrn => (at_char r hrn).mpr (fun h1 p p1 p2 => h _ (h1 p p1 p2) ⟨r, hrn, h1, p, p1, p2, rfl⟩))
theorem mkP_char {need : Int32} {X : List (Nat × jF)} {k a : Nat} {N F : jF} (hk : k ≤ 10) (hN : ∀ q, q ≤ 200 → N q = lookN need X k q) : ∀ m, a + m ≤ 201 → ∀ s, 0 < s → ((∃ p, a ≤ p ∧ p < a + m ∧ lookA need X k p = s) → mkP N a F m s = 2) ∧ ((¬ ∃ p, a ≤ p ∧ p < a + m ∧ lookA need X k p = s) → mkP N a F m s = F s) ∧ mkP N a F m 0 = F 0
  | 0, _, s, hs => ⟨fun ⟨p, p1, p2, _⟩ => absurd p2 (by omega), fun _ => rfl, rfl⟩
  | m + 1, hm, s, hs => by
    obtain ⟨i1, i2, i3⟩ := mkP_char (a := a) (F := F) hk hN m (by omega) s hs
    have e : mkP N a F (m + 1) = fbF (mkP N a F m) (nearT N (nI (a + m))) := rfl
    obtain ⟨e1, e2⟩ := lookA_eq (need := need) (X := X) (q := a + m) hk
    have hp := pow_1024 hk
    rw [e, nearT_nat (by omega), hN _ (by omega), e1]
    generalize mkP N a F m = G at i1 i2 i3
    rcases Nat.eq_zero_or_pos (lookA need X k (a + m)) with z | z
    · rw [fbF_a (by rw [z]; decide)]
      refine ⟨fun ⟨p, p1, p2, p3⟩ => i1 ⟨p, p1, ?_, p3⟩, fun q => i2 (fun ⟨p, p1, p2, p3⟩ => q ⟨p, p1, by omega, p3⟩), i3⟩
      rcases Nat.lt_or_ge p (a + m) with w | w
      · exact w
      · have : p = a + m := by omega
        rw [this] at p3
        omega
    · rw [fbF_c (by rw [← nI_0, nI_leI (by omega) (by decide)]; omega) (by show ¬ nI 1023 < nI _; rw [nI_ltI (by decide) (by omega)]; omega), nI_cl (by omega)]
      refine ⟨fun ⟨p, p1, p2, p3⟩ => ?_, fun q => ?_, ?_⟩
      · unfold upd
        by_cases w : s = lookA need X k (a + m)
        · rw [if_pos w]
        · rw [if_neg w]
          refine i1 ⟨p, p1, ?_, p3⟩
          rcases Nat.lt_or_ge p (a + m) with v | v
          · exact v
          · have : p = a + m := by omega
            rw [this] at p3
            exact absurd p3.symm w
      · unfold upd
        rw [if_neg (fun w => q ⟨a + m, by omega, by omega, w.symm⟩)]
        exact i2 (fun ⟨p, p1, p2, p3⟩ => q ⟨p, p1, by omega, p3⟩)
      · unfold upd
        rw [if_neg (by omega)]
        exact i3
theorem mkR_char {need : Int32} {X : List (Nat × jF)} {k : Nat} {ra rb : Nat → Nat} {N F : jF} (hk : k ≤ 10) (hN : ∀ q, q ≤ 200 → N q = lookN need X k q) : ∀ n, (∀ r, r < n → ra r ≤ rb r ∧ rb r ≤ 200) → ∀ s, 0 < s → (hitP need X k n ra rb s → mkR N ra rb F n s = 2) ∧ (¬ hitP need X k n ra rb s → mkR N ra rb F n s = F s) ∧ mkR N ra rb F n 0 = F 0
  | 0, _, s, _ => ⟨fun ⟨r, h, _⟩ => absurd h (Nat.not_lt_zero r), fun _ => rfl, rfl⟩
  | n + 1, hr, s, hs => by
    obtain ⟨i1, i2, i3⟩ := mkR_char (F := F) hk hN n (fun r h => hr r (by omega)) s hs
    obtain ⟨r1, r2⟩ := hr n (by omega)
    have hsd : darkN N (ra n) (rb n) 1023 = 0 ↔ safeR need X k (ra n) (rb n) := by
      rw [darkN_look (need := need) (X := X) (k := k) hN r2]
      exact safe_dark hk r2
    by_cases c : darkN N (ra n) (rb n) 1023 = 0
    · rw [mk_a c]
      obtain ⟨j1, j2, j3⟩ := mkP_char (a := ra n) (F := mkR N ra rb F n) hk hN (rb n + 1 - ra n) (by omega) s hs
      refine ⟨fun ⟨r, h1, h2, p, p1, p2, p3⟩ => ?_, fun q => ?_, j3.trans i3⟩
      · by_cases w : ∃ p, ra n ≤ p ∧ p < ra n + (rb n + 1 - ra n) ∧ lookA need X k p = s
        · exact j1 w
        · rw [j2 w]
          refine i1 ⟨r, ?_, h2, p, p1, p2, p3⟩
          rcases Nat.lt_or_ge r n with v | v
          · exact v
          · have : r = n := by omega
            subst this
            exact absurd ⟨p, p1, by omega, p3⟩ w
      · rw [j2 (fun ⟨p, p1, p2, p3⟩ => q ⟨n, by omega, hsd.mp c, p, p1, by omega, p3⟩)]
        exact i2 (fun ⟨r, h1, h⟩ => q ⟨r, by omega, h⟩)
    · rw [mk_b c]
      refine ⟨fun ⟨r, h1, h2, h3⟩ => i1 ⟨r, ?_, h2, h3⟩, fun q => i2 (fun ⟨r, h1, h⟩ => q ⟨r, by omega, h⟩), i3⟩
      rcases Nat.lt_or_ge r n with v | v
      · exact v
      · have : r = n := by omega
        subst this
        exact absurd (hsd.mpr h2) c
/-- how many days the tests of all lights take at least, and the sets of the days -/
def alS (S : BS) : Nat → Bool := fun s => alw S (nI s)
def dysN (S : BS) : Nat := dP (alS S) (2 ^ (bLs S).length - 1)
def dysV (S : BS) : Int32 := if dysN S < 99 then nI (dysN S) else -9
def onN (S : BS) (t : Nat) : Nat := fP (alS S) (dayL (alS S) (2 ^ (bLs S).length - 1) t)
theorem alS_dcl {S : BS} (hk : (bLs S).length ≤ 10) (hr : ∀ r, r < (bRs S).length → rbS S r ≤ 200) : dcl (alS S) := by
  intro s t hs ht h
  have htl : t < 1024 := Nat.lt_of_le_of_lt (sub_le ht) hs
  show alw S (nI t) = true
  rw [alw_char hk hr htl]
  have h2 := (alw_char hk hr hs).mp h
  intro u hu hh q
  refine h2 u hu hh ?_
  rw [← q, Nat.and_assoc, ht]
