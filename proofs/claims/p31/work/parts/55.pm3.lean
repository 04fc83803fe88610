/-! p31: plans: what the days' sets are -/
theorem ov_al {T : St3} {y : Int32} {s : Nat} (hk : (bLs T.1).length ≤ 10) (hy : y = nI s) (hs : s < 2 ^ (bLs T.1).length) : (oAllowed T y).1 = if alS T.1 s = true then 1 else 0 := by
  rw [hy]
  unfold oAllowed
  rw [if_pos (hld_nat hk hs)]
  rfl
theorem ov_alBad {T : St3} {y : Int32} (hk : (bLs T.1).length ≤ 10) (hy : y = nI (2 ^ (bLs T.1).length)) : (oAllowed T y).1 = -1 := by
  have e : ∀ k, k < 11 → (1 : Int32) <<< (nI k &&& 31) = nI (2 ^ k) := by decide
  unfold oAllowed
  rw [if_neg]
  rintro ⟨-, h⟩
  rw [e _ (by omega), hy] at h
  exact h (Int32.le_refl _)
theorem pl_dc {S : BS} (hw : rswf (bRs S)) (hk : (bLs S).length ≤ 10) : dcl (alS S) := alS_dcl hk (fun _ h => (rs_ab hw h).2)
abbrev allS (S : BS) : Nat := 2 ^ (bLs S).length - 1
theorem allS_lt {S : BS} (hk : (bLs S).length ≤ 10) : allS S < 1024 := full_lt _ (by omega)
theorem pl_low {S : BS} (hk : (bLs S).length ≤ 10) (h : ∀ i, i < (bLs S).length → alS S (2 ^ i) = true) : ∀ l, 0 < l → l < 2 ^ (bLs S).length → alS S (lowb l) = true := by
  intro l h0 h1
  have hp := pow_1024 hk
  obtain ⟨i, hi, e⟩ := lowb_pow l (by omega) h0
  rw [e]
  refine h i ?_
  rcases Nat.lt_or_ge i (bLs S).length with w | w
  · exact w
  · have e1 : 2 ^ (bLs S).length ≤ 2 ^ i := Nat.pow_le_pow_right (by decide) w
    have e2 := sub_le (lowb_facts l (by omega)).1
    omega
theorem cntb_full : ∀ k, k < 11 → cntb (2 ^ k - 1) = k := by decide +kernel
theorem pl_10 {S : BS} (hk : (bLs S).length ≤ 10) (h : ∀ i, i < (bLs S).length → alS S (2 ^ i) = true) : ∀ t, t ≤ allS S → dP (alS S) t ≤ 10 := by
  intro t ht
  have hA : allS S = 2 ^ (bLs S).length - 1 := rfl
  have hp := Nat.two_pow_pos (bLs S).length
  have hp2 := pow_1024 hk
  have h1 := dP_le (N := 2 ^ (bLs S).length) (pow_1024 hk) (pl_low hk h) t (by omega)
  have h2 := (cntb_facts t (by omega)).1
  omega
/-- each light may be tested alone: there is a plan -/
theorem pl_yes {S : BS} (hk : (bLs S).length ≤ 10) (hn : 0 < (bLs S).length) (h : ∀ i, i < (bLs S).length → alS S (2 ^ i) = true) : 1 ≤ dysN S ∧ dysN S ≤ (bLs S).length ∧ dysV S = nI (dysN S) := by
  have hA : allS S = 2 ^ (bLs S).length - 1 := rfl
  have hp : 2 ^ 1 ≤ 2 ^ (bLs S).length := Nat.pow_le_pow_right (by decide) hn
  have hp2 := pow_1024 hk
  have h1 := dP_le (N := 2 ^ (bLs S).length) (pow_1024 hk) (pl_low hk h) (allS S) (by omega)
  rw [cntb_full _ (by omega)] at h1
  have h2 := dP_pos (al := alS S) (l := allS S) (by omega) (by omega)
  have e : dysN S = dP (alS S) (allS S) := rfl
  refine ⟨by omega, by omega, if_pos (by omega)⟩
theorem pl_no {S : BS} (hw : rswf (bRs S)) (hk : (bLs S).length ≤ 10) {i : Nat} (hi : i < (bLs S).length) (h : ¬ alS S (2 ^ i) = true) : dysV S = -9 := by
  have e : dysN S = 99 := dP_bad (pl_dc hw hk) h _ (allS_lt hk) (full_bit hi)
  exact if_neg (by omega)
/-- there is a plan exactly if each light may be tested alone -/
theorem pl_or {S : BS} (hw : rswf (bRs S)) (hk : (bLs S).length ≤ 10) (hn : 0 < (bLs S).length) : (dysV S = -9 ∧ ¬ ∀ i, i < (bLs S).length → alS S (2 ^ i) = true) ∨ ((∀ i, i < (bLs S).length → alS S (2 ^ i) = true) ∧ 1 ≤ dysN S ∧ dysN S ≤ (bLs S).length ∧ dysV S = nI (dysN S)) := by
  by_cases h : ∀ i, i < (bLs S).length → alS S (2 ^ i) = true
  · exact Or.inr ⟨h, pl_yes hk hn h⟩
  · obtain ⟨i, h1⟩ := Classical.not_forall.mp h
    obtain ⟨hi, h2⟩ := Classical.not_imp.mp h1
    exact Or.inl ⟨pl_no hw hk hi h2, h⟩
abbrev lefS (S : BS) (t : Nat) : Nat := dayL (alS S) (allS S) t
theorem pl_day {S : BS} (hk : (bLs S).length ≤ 10) (h : ∀ i, i < (bLs S).length → alS S (2 ^ i) = true) {t : Nat} (ht : t < dysN S) : vl (alS S) (lefS S t) (onN S t) ∧ 0 < lefS S t ∧ lefS S t ≤ allS S := by
  have hN := allS_lt (S := S) hk
  obtain ⟨h1, h2⟩ := dayL_days hN (pl_10 hk h) t (by show t ≤ dysN S; omega)
  have e : dysN S = dP (alS S) (allS S) := rfl
  have hu : 0 < lefS S t := by
    rcases Nat.eq_zero_or_pos (lefS S t) with z | z
    · rw [show dayL (alS S) (2 ^ (bLs S).length - 1) t = 0 from z, dP_0] at h2; omega
    · exact z
  have h3 := pl_10 hk h _ h1
  rcases dP_char (al := alS S) hu (Nat.lt_of_le_of_lt h1 hN) with ⟨q, -⟩ | ⟨-, q, -⟩
  · have : dP (alS S) (lefS S t) ≤ 10 := h3
    omega
  · exact ⟨q, hu, h1⟩
theorem pl_end {S : BS} (hk : (bLs S).length ≤ 10) (h : ∀ i, i < (bLs S).length → alS S (2 ^ i) = true) : lefS S (dysN S) = 0 := by
  have hN := allS_lt (S := S) hk
  obtain ⟨h1, h2⟩ := dayL_days hN (pl_10 hk h) (dysN S) (Nat.le_refl _)
  exact dP_zero (al := alS S) (Nat.lt_of_le_of_lt h1 hN) (by rw [h2]; exact Nat.sub_self _)
theorem lef_s {S : BS} {t : Nat} : lefS S (t + 1) = lefS S t ^^^ onN S t := rfl
theorem lef_0 {S : BS} : lefS S 0 = allS S := rfl
/-- a light that is left was left on each day before -/
theorem lef_bit {S : BS} (hk : (bLs S).length ≤ 10) (h : ∀ i, i < (bLs S).length → alS S (2 ^ i) = true) {i d : Nat} (hd : d ≤ dysN S) (hb : (lefS S d).testBit i = true) : ∀ m, m ≤ d → (lefS S (d - m)).testBit i = true
  | 0, _ => hb
  | m + 1, hm => by
    have h1 := lef_bit hk h hd hb m (by omega)
    obtain ⟨v, -, -⟩ := pl_day hk h (t := d - (m + 1)) (by omega)
    rw [show d - m = (d - (m + 1)) + 1 by omega, lef_s, Nat.testBit_xor] at h1
    have h2 := congrArg (fun z => z.testBit i) v.1
    simp only [Nat.testBit_and] at h2
    revert h1 h2
    cases (lefS S (d - (m + 1))).testBit i <;> cases (onN S (d - (m + 1))).testBit i <;> simp
theorem on_sub {S : BS} (hk : (bLs S).length ≤ 10) (h : ∀ i, i < (bLs S).length → alS S (2 ^ i) = true) {i d : Nat} (hd : d < dysN S) (hb : (onN S d).testBit i = true) : (lefS S d).testBit i = true := by
  obtain ⟨v, -, -⟩ := pl_day hk h hd
  have h2 := congrArg (fun z => z.testBit i) v.1
  simp only [Nat.testBit_and] at h2
  rw [hb] at h2
  simpa using h2
theorem on_once {S : BS} (hk : (bLs S).length ≤ 10) (h : ∀ i, i < (bLs S).length → alS S (2 ^ i) = true) {i d t : Nat} (hd : d < dysN S) (hb : (onN S d).testBit i = true) (ht : t < d) : (onN S t).testBit i = false := by
  have h1 := lef_bit hk h (by omega) (on_sub hk h hd hb) (d - (t + 1)) (by omega)
  rw [show d - (d - (t + 1)) = t + 1 by omega, lef_s, Nat.testBit_xor] at h1
  have h2 := lef_bit hk h (by omega) (on_sub hk h hd hb) (d - t) (by omega)
  rw [show d - (d - t) = t by omega] at h2
  rw [h2] at h1
  revert h1
  cases (onN S t).testBit i <;> simp
theorem onV_nat {S : BS} (hk : (bLs S).length ≤ 10) (hv : dysV S = nI (dysN S)) (h10 : dysN S ≤ 10) {t : Nat} (ht : t < dysN S) : onV S (nI t) = nI (onN S t) := by
  unfold onV
  rw [if_pos ⟨nI_pos (by omega), by rw [hv]; exact nI_ge ht (by omega)⟩, nI_cl (by omega)]
theorem on_lt {S : BS} (hk : (bLs S).length ≤ 10) (h : ∀ i, i < (bLs S).length → alS S (2 ^ i) = true) {t : Nat} (ht : t < dysN S) : onN S t < 2 ^ (bLs S).length ∧ 0 < onN S t := by
  have hA : allS S = 2 ^ (bLs S).length - 1 := rfl
  obtain ⟨v, v2, v3⟩ := pl_day hk h ht
  have h1 := sub_le v.1
  have h2 := Nat.two_pow_pos (bLs S).length
  have h3 := vl_pos v v2 (Nat.lt_of_le_of_lt v3 (allS_lt hk))
  omega
theorem dayS_at {S : BS} (hk : (bLs S).length ≤ 10) (h : ∀ i, i < (bLs S).length → alS S (2 ^ i) = true) (hv : dysV S = nI (dysN S)) (h10 : dysN S ≤ 10) {i d : Nat} (hi : i < 10) (hd : d < dysN S) (hb : (onN S d).testBit i = true) : ∀ fu t, t ≤ d → d < t + fu → dayS S (nI i) fu t = nI d
  | 0, t, h1, h2 => by omega
  | fu + 1, t, h1, h2 => by
    have hp := pow_1024 hk
    have ht : t < dysN S := by omega
    have hlt := (on_lt hk h ht).1
    show (if dysV S ≤ nI t then -9 else if (onV S (nI t) >>> (nI i &&& 31)) &&& 1 = 1 then nI t else dayS S (nI i) fu (t + 1)) = _
    rw [if_neg (by rw [hv]; exact nI_ge ht (by omega)), onV_nat hk hv h10 ht]
    by_cases e : t = d
    · rw [if_pos ((bits_tb i hi _ (by omega)).mpr (by rw [e]; exact hb)), e]
    · rw [if_neg (fun q => by
        have h3 := (bits_tb i hi _ (by omega)).mp q
        rw [on_once hk h hd hb (by omega)] at h3
        cases h3)]
      exact dayS_at hk h hv h10 hi hd hb fu (t + 1) (by omega) (by omega)
theorem ol_12 {T : St3} {x : Int32} {i : Nat} (hx : x = nI i) (hi : i < (bLs T.1).length) (hn : (bLs T.1).length ≤ 10) : (oLight T x 12).1 = dayS T.1 (nI i) 11 0 := by
  unfold oLight
  rw [if_pos ⟨hLX_of (by omega) hi hx, by decide, by decide⟩, if_pos rfl, hx]
theorem dayS_no {S : BS} {x : Int32} (h : dysV S = -9) : dayS S x 11 0 = -9 := if_pos (by rw [h]; decide)
theorem onV_no {S : BS} {x : Int32} (h : dysV S ≤ x) : onV S x = -9 := if_neg (fun q => q.2 h)
theorem od_no {T : St3} {x : Int32} (h0 : 0 ≤ x) (h : dysV T.1 ≤ x) : (oDay T x).1 = -9 := by
  unfold oDay
  rw [if_pos h0]
  exact onV_no h
theorem od_at {T : St3} {x : Int32} {t : Nat} (hk : (bLs T.1).length ≤ 10) (hv : dysV T.1 = nI (dysN T.1)) (h10 : dysN T.1 ≤ 10) (hx : x = nI t) (ht : t < dysN T.1) : (oDay T x).1 = nI (onN T.1 t) := by
  unfold oDay
  rw [hx, if_pos (nI_pos' (by omega))]
  exact onV_nat hk hv h10 ht
theorem co_no {T : St3} (hn : 0 < (bLs T.1).length) (h : dysV T.1 = -9) : oCarryOut T = (-2, T) := by
  unfold oCarryOut
  rw [if_neg (by omega), if_pos h]
theorem al_1 {S : BS} {s : Nat} (h : (if alS S s = true then (1 : Int32) else 0) = 1) : alS S s = true := by
  by_cases c : alS S s = true
  · exact c
  · rw [if_neg c] at h; exact absurd h (by decide)
theorem al_0 {S : BS} {s : Nat} (h : (if alS S s = true then (1 : Int32) else 0) = 0) : ¬ alS S s = true := by
  intro c
  rw [if_pos c] at h
  exact absurd h (by decide)
theorem al_n {S : BS} {s : Nat} (h : ¬ (if alS S s = true then (1 : Int32) else 0) = 1) : ¬ alS S s = true := fun c => h (if_pos c)
theorem al_zero {S : BS} (hw : rswf (bRs S)) (hk : (bLs S).length ≤ 10) : alS S 0 = true :=
  (alw_char hk (fun _ h => (rs_ab hw h).2) (by decide)).mpr (fun t ht _ q => by rw [Nat.and_zero] at q; omega)
theorem low_and {l s : Nat} (hl : 0 < l) (hN : l < 1024) (h : lowb l &&& s = lowb l) : ¬ nI s &&& (nI l &&& -(nI l)) = 0 := by
  have h1 := lowb_facts l hN
  have h2 := h1.2.1 hl
  have h3 := sub_le h1.1
  rw [(lowb_all l hN).1, nI_and, Nat.and_comm, h]
  exact nI_ne0 h2 (by omega)
theorem and_mask {j k : Nat} (hk : k ≤ 10) : ∃ s, s < 2 ^ k ∧ nI j &&& nI (2 ^ k - 1) = nI s := by
  refine ⟨j &&& (2 ^ k - 1), ?_, nI_and _ _⟩
  have := Nat.two_pow_pos k
  have : j &&& (2 ^ k - 1) ≤ 2 ^ k - 1 := Nat.and_le_right
  omega
theorem al_sub {S : BS} (hw : rswf (bRs S)) (hk : (bLs S).length ≤ 10) {s j : Nat} (hs : s < 2 ^ (bLs S).length) (h : alS S s = true) : alS S (s &&& j) = true := by
  have hp := pow_1024 hk
  refine pl_dc hw hk s (s &&& j) (by omega) ?_ h
  rw [Nat.and_comm, ← Nat.and_assoc, Nat.and_self]
