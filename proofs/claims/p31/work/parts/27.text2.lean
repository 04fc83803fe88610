def lE (I f : jF) (c : Int32) (m : Nat) (lo hi : Int32) : jF := rnF (tEx I f c) f m lo hi
def lV (I f : jF) (c : Int32) (m : Nat) : Int32 := (rnl f m (tEx I f c) 0).2
def rlA (I f : jF) : jF := lE I f 112 3 0 200
def rlB (I f : jF) : jF := lE (rlA I f) f 99 1 0 3
def rlC (I f : jF) : jF := lE (rlB I f) f 98 1 0 3
def rlD (I f : jF) : jF := lE (rlC I f) f 108 1 0 2
def rlM (I f : jF) : Int32 := if tPk (rlD I f) f = 109 then 1 else 0
def rlZ (I f : jF) : jF := tEx (if tPk (rlD I f) f = 109 then tEx (rlD I f) f 109 else rlD I f) f 59
def rlL (I f : jF) : jF := newL (lV I f 112 3) (lV (rlA I f) f 99 1) (lV (rlB I f) f 98 1) (lV (rlC I f) f 108 1) (rlM I f)
def rrA (I f : jF) : jF := lE I f 114 3 0 200
def rrZ (I f : jF) : jF := tEx (lE (rrA I f) f 45 3 (lV I f 114 3) 200) f 59
def rrF (I f : jF) : Int32 := lV I f 114 3
def rrT (I f : jF) : Int32 := lV (rrA I f) f 45 3
theorem rlZ_a {I f : jF} (h : tPk (rlD I f) f = 109) : rlZ I f = tEx (tEx (rlD I f) f 109) f 59 := by unfold rlZ; rw [if_pos h]
theorem rlZ_b {I f : jF} (h : ¬ tPk (rlD I f) f = 109) : rlZ I f = tEx (rlD I f) f 59 := by unfold rlZ; rw [if_neg h]
def rInto (f : jF) : Nat → jF → List jF → List (Int32 × Int32) → jF × List jF × List (Int32 × Int32)
  | 0, I, ls, rs => (I, ls, rs)
  | fu + 1, I, ls, rs => if ¬ I 1 ≤ I 2 ∧ I 3 = -1 then
      (if tPk I f = 112 ∧ ls.length < 10 then rInto f fu (rlZ I f) (if rlZ I f 3 = -1 then ls ++ [rlL I f] else ls) rs
       else if tPk I f = 114 ∧ rs.length < 6 then rInto f fu (rrZ I f) ls (if rrZ I f 3 = -1 then rs ++ [(rrF I f, rrT I f)] else rs)
       else rInto f fu (tFl I (I 2)) ls rs) else (I, ls, rs)
theorem rInto_0 {f : jF} {fu : Nat} {I : jF} {ls : List jF} {rs : List (Int32 × Int32)} (h : ¬ (¬ I 1 ≤ I 2 ∧ I 3 = -1)) : rInto f fu I ls rs = (I, ls, rs) := by
  cases fu with
  | zero => rfl
  | succ fu => exact if_neg h
theorem rInto_a {f : jF} {fu : Nat} {I : jF} {ls : List jF} {rs : List (Int32 × Int32)} (h : ¬ I 1 ≤ I 2 ∧ I 3 = -1) (h2 : tPk I f = 112 ∧ ls.length < 10) : rInto f (fu + 1) I ls rs = rInto f fu (rlZ I f) (if rlZ I f 3 = -1 then ls ++ [rlL I f] else ls) rs := (if_pos h).trans (if_pos h2)
theorem rInto_b {f : jF} {fu : Nat} {I : jF} {ls : List jF} {rs : List (Int32 × Int32)} (h : ¬ I 1 ≤ I 2 ∧ I 3 = -1) (h2 : ¬ (tPk I f = 112 ∧ ls.length < 10)) (h3 : tPk I f = 114 ∧ rs.length < 6) : rInto f (fu + 1) I ls rs = rInto f fu (rrZ I f) ls (if rrZ I f 3 = -1 then rs ++ [(rrF I f, rrT I f)] else rs) := (if_pos h).trans ((if_neg h2).trans (if_pos h3))
theorem rInto_c {f : jF} {fu : Nat} {I : jF} {ls : List jF} {rs : List (Int32 × Int32)} (h : ¬ I 1 ≤ I 2 ∧ I 3 = -1) (h2 : ¬ (tPk I f = 112 ∧ ls.length < 10)) (h3 : ¬ (tPk I f = 114 ∧ rs.length < 6)) : rInto f (fu + 1) I ls rs = rInto f fu (tFl I (I 2)) ls rs := (if_pos h).trans ((if_neg h2).trans (if_neg h3))
/-- a building that has just these lights and routes, else what it had -/
def blaid (I0 : jF) (A0 : Nat → jF) (I : jF) (A : Nat → jF) (Y : List (Nat × jF)) (ls : List jF) (rs : List (Int32 × Int32)) : Prop :=
  bok I Y ls.length ∧ ls.length ≤ 10 ∧ (∀ j, j < ls.length → ls[j]? = some (jL Y j)) ∧ I 4 = nI rs.length ∧ rs.length ≤ 6 ∧ (∀ t, t < rs.length → rs[t]? = some (A 0 t, A 1 t)) ∧ (∀ q, q ≠ 1 → q ≠ 4 → I q = I0 q) ∧ A 2 = A0 2
theorem blaid_light {I0 : jF} {A0 : Nat → jF} {I : jF} {A : Nat → jF} {X Y : List (Nat × jF)} {ls : List jF} {rs : List (Int32 × Int32)} {L : jF} (h : blaid I0 A0 I A X ls rs) (hk : ls.length < 10) (hY : grown X ls.length Y) (hL : jL Y ls.length = L) : blaid I0 A0 (upd I 1 (I 1 + 1)) A Y (ls ++ [L]) rs := by
  obtain ⟨⟨h1, h2, h3⟩, h4, h5, h6, h7, h8, h9, h10⟩ := h
  obtain ⟨g1, g2, g3, g4⟩ := hY
  refine ⟨⟨?_, by simp; omega, g2⟩, by simp; omega, fun j hj => ?_, h6, h7, h8, fun q q1 q2 => ?_, h10⟩
  · show I 1 + 1 = _
    rw [h1, List.length_append]; exact nI_1 _
  · rcases Nat.lt_or_ge j ls.length with q | q
    · rw [List.getElem?_append_left q, h5 j q, jL_of (g4 j q)]
    · have e : j = ls.length := by simp at hj; omega
      subst e
      rw [List.getElem?_append_right (Nat.le_refl _), hL]
      simp
  · show (if q = 1 then _ else I q) = _
    rw [if_neg q1]; exact h9 q q1 q2
theorem blaid_route {I0 : jF} {A0 : Nat → jF} {I : jF} {A : Nat → jF} {Y : List (Nat × jF)} {ls : List jF} {rs : List (Int32 × Int32)} {x y : Int32} (h : blaid I0 A0 I A Y ls rs) (hr : rs.length < 6) : blaid I0 A0 (upd I 4 (I 4 + 1)) (appA A (I 4).toNatClampNeg x y) Y ls (rs ++ [(x, y)]) := by
  obtain ⟨⟨h1, h2, h3⟩, h4, h5, h6, h7, h8, h9, h10⟩ := h
  rw [h6, nI_cl (by omega)]
  refine ⟨⟨h1, h2, h3⟩, h4, h5, ?_, by simp; omega, fun t ht => ?_, fun q q1 q2 => ?_, h10⟩
  · show nI rs.length + 1 = _
    rw [List.length_append]; exact nI_1 _
  · show (rs ++ [(x, y)])[t]? = some (if t = rs.length then x else A 0 t, if t = rs.length then y else A 1 t)
    rcases Nat.lt_or_ge t rs.length with q | q
    · rw [List.getElem?_append_left q, h8 t q, if_neg (by omega), if_neg (by omega)]
    · have e : t = rs.length := by simp at ht; omega
      subst e
      rw [List.getElem?_append_right (Nat.le_refl _), if_pos rfl, if_pos rfl]
      simp
  · show (if q = 4 then _ else I q) = _
    rw [if_neg q2]; exact h9 q q1 q2
