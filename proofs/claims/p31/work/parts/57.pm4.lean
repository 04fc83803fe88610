/-! p31: tests: what they burn, who passes -/
abbrev bitS (s : Int32) (j : Nat) : Prop := (s >>> (nI j &&& 31)) &&& 1 = 1
abbrev dueP (S : BS) (s : Int32) (j : Nat) : Prop := bitS s j ∧ ¬ endL (lI S j) < rated (lI S j 2)
def dueN (S : BS) (s : Int32) (k : Nat) : Int32 := jiter (fun j m => if dueP S s j then m + 1 else m) 0 k
theorem due_s {S : BS} {s : Int32} {k : Nat} : dueN S s (k + 1) = if dueP S s k then dueN S s k + 1 else dueN S s k := rfl
theorem burn_full {L : jF} : burnMin L = rated (L 2) ↔ ¬ endL L < rated (L 2) := by
  unfold burnMin
  constructor
  · intro h
    have h1 := congrArg Int32.toInt h
    rw [jmin_toInt] at h1
    rw [Int32.lt_iff_toInt_lt]
    omega
  · intro h
    exact jmin_b (Int32.not_lt.mp h)
theorem bur_pass {S : BS} {s p f : Int32} : ∀ k, (jiter (bStep s (lsX (bLs S))) (p, f) k).1 = p + dueN S s k
  | 0 => (Int32.add_zero p).symm
  | k + 1 => by
    have ih := bur_pass (S := S) (s := s) (p := p) (f := f) k
    rw [jit_s, due_s]
    generalize jiter (bStep s (lsX (bLs S))) (p, f) k = st at ih
    unfold bStep
    by_cases c : bitS s k
    · rw [if_neg (fun q => q c)]
      by_cases d : endL (lI S k) < rated (lI S k 2)
      · rw [if_neg (fun q => burn_full.mp q d), if_neg (fun q => q.2 d)]
        exact ih
      · rw [if_pos (burn_full.mpr d), if_pos ⟨c, d⟩]
        show st.1 + 1 = p + (dueN S s k + 1)
        rw [ih, Int32.add_assoc]
    · rw [if_pos c, if_neg (fun q => c q.1)]
      exact ih
theorem pa_bur {S : BS} {s : Int32} : bPa (burS s S) = bPa S + dueN S s (bLs S).length := bur_pass _
theorem i32_ac (x y : Int32) : (x + y) - x = y := by
  rw [Int32.add_comm, Int32.add_sub_cancel]
theorem lI_bur {S : BS} {s : Int32} {j : Nat} (hj : j < (bLs S).length) : lI (burS s S) j = bF s j (lI S j) := lI_map hj
theorem len_bur {S : BS} {s : Int32} : (bLs (burS s S)).length = (bLs S).length := List.length_mapIdx
theorem bF_in {s : Int32} {j : Nat} {L : jF} (h : bitS s j) : bF s j L = burnL L := if_neg (fun q => q h)
theorem bF_out {s : Int32} {j : Nat} {L : jF} (h : ¬ bitS s j) : bF s j L = L := if_pos h
theorem mul24_0 : (24 : Int32) * 0 = 0 := by decide
theorem i32_s0 (x : Int32) : x - 0 = x := by
  rw [Int32.sub_eq_add_neg, Int32.neg_zero, Int32.add_zero]
/-- how a test leaves a light: x12 is what it burnt -/
theorem bF_facts {s x : Int32} {j : Nat} {L : jF} (hL : WL L) (h : (bitS s j ∧ x = burnMin L) ∨ (¬ bitS s j ∧ x = 0)) : bF s j L 7 = L 7 - x ∧ bF s j L 6 = jmin (L 6 - 24 * x) (24 * capL (bF s j L)) ∧ (bitS s j → bF s j L 8 = x) := by
  rcases h with ⟨h1, h2⟩ | ⟨h1, h2⟩
  · rw [bF_in h1, h2]
    exact ⟨burn_7, burn_6, fun _ => burn_8⟩
  · rw [bF_out h1, h2, mul24_0, i32_s0, i32_s0]
    refine ⟨rfl, ?_, fun q => absurd q h1⟩
    exact (if_neg (WL_cap6 hL).1).symm
theorem ol_b2 {T : St3} {x s : Int32} {i : Nat} (hx : x = nI i) (hi : i < (bLs T.1).length) (hn : (bLs T.1).length ≤ 10) : (oLight (oPush T (burS s T.1)) x 2).1 = lI T.1 i 2 := by
  have hl : (bLs (oPush T (burS s T.1)).1).length = (bLs T.1).length := len_bur
  rw [ol_2 (T := oPush T (burS s T.1)) hx (by omega) (by omega)]
  show lI (burS s T.1) i 2 = _
  rw [lI_bur hi]
  by_cases c : bitS s i
  · rw [bF_in c]; rfl
  · rw [bF_out c]
theorem ol_b6 {T : St3} {x s : Int32} {i : Nat} (hx : x = nI i) (hi : i < (bLs T.1).length) (hn : (bLs T.1).length ≤ 10) : (oLight (oPush T (burS s T.1)) x 6).1 = capL (bF s i (lI T.1 i)) := by
  have hl : (bLs (oPush T (burS s T.1)).1).length = (bLs T.1).length := len_bur
  rw [ol_6 (T := oPush T (burS s T.1)) hx (by omega) (by omega)]
  show capL (lI (burS s T.1) i) = _
  rw [lI_bur hi]
theorem ol_b7 {T : St3} {x s : Int32} {i : Nat} (hx : x = nI i) (hi : i < (bLs T.1).length) (hn : (bLs T.1).length ≤ 10) : (oLight (oPush T (burS s T.1)) x 7).1 = bF s i (lI T.1 i) 6 := by
  have hl : (bLs (oPush T (burS s T.1)).1).length = (bLs T.1).length := len_bur
  rw [ol_7 (T := oPush T (burS s T.1)) hx (by omega) (by omega)]
  show lI (burS s T.1) i 6 = _
  rw [lI_bur hi]
theorem ol_b8 {T : St3} {x s : Int32} {i : Nat} (hx : x = nI i) (hi : i < (bLs T.1).length) (hn : (bLs T.1).length ≤ 10) : (oLight (oPush T (burS s T.1)) x 8).1 = bF s i (lI T.1 i) 7 := by
  have hl : (bLs (oPush T (burS s T.1)).1).length = (bLs T.1).length := len_bur
  rw [ol_8 (T := oPush T (burS s T.1)) hx (by omega) (by omega)]
  show lI (burS s T.1) i 7 = _
  rw [lI_bur hi]
theorem ol_b11 {T : St3} {x s : Int32} {i : Nat} (hx : x = nI i) (hi : i < (bLs T.1).length) (hn : (bLs T.1).length ≤ 10) : (oLight (oPush T (burS s T.1)) x 11).1 = bF s i (lI T.1 i) 8 := by
  have hl : (bLs (oPush T (burS s T.1)).1).length = (bLs T.1).length := len_bur
  rw [ol_11 (T := oPush T (burS s T.1)) hx (by omega) (by omega)]
  show lI (burS s T.1) i 8 = _
  rw [lI_bur hi]
theorem tv_b0 {T : St3} {s : Int32} : (oTold (oPush T (burS s T.1)) 0).1 = nI (bLs T.1).length := by
  show nI (bLs (burS s T.1)).length = _
  rw [len_bur]
/-- what the law keeps of the lights before the test -/
def hadOk (S : BS) (f : jF) (k : Nat) : Prop := ∀ j, j < k → f (3 * j) = endL (lI S j) ∧ f (3 * j + 1) = lI S j 6 ∧ f (3 * j + 2) = lI S j 7
theorem had_step {S : BS} {f : jF} {i : Nat} {y0 y1 y2 : Int32} (h0 : y0 = nI (3 * i)) (h1 : y1 = nI (3 * i + 1)) (h2 : y2 = nI (3 * i + 2)) (hi : i < 100) (hf : hadOk S f i) : hadOk S (upd (upd (upd f y0.toNatClampNeg (endL (lI S i))) y1.toNatClampNeg (lI S i 6)) y2.toNatClampNeg (lI S i 7)) (i + 1) := by
  rw [h0, h1, h2, nI_cl (by omega), nI_cl (by omega), nI_cl (by omega)]
  intro j hj
  unfold upd
  by_cases e : j = i
  · subst e
    refine ⟨?_, ?_, ?_⟩
    · rw [if_neg (by omega), if_neg (by omega), if_pos rfl]
    · rw [if_neg (by omega), if_pos rfl]
    · rw [if_pos rfl]
  · obtain ⟨q1, q2, q3⟩ := hf j (by omega)
    refine ⟨?_, ?_, ?_⟩
    · rw [if_neg (by omega), if_neg (by omega), if_neg (by omega)]; exact q1
    · rw [if_neg (by omega), if_neg (by omega), if_neg (by omega)]; exact q2
    · rw [if_neg (by omega), if_neg (by omega), if_neg (by omega)]; exact q3
theorem ot_no {T : St3} {y : Int32} {s : Nat} (hk : (bLs T.1).length ≤ 10) (hy : y = nI s) (h1 : 1 ≤ s) (hs : s < 2 ^ (bLs T.1).length) (h : ¬ alS T.1 s = true) : oTest T y 0 = (-2, T) := by
  have hp := pow_1024 hk
  rw [hy]
  unfold oTest
  rw [if_neg (fun q => q.elim (fun w => absurd w (nI_ne0 h1 (by omega))) (fun w => w (hld_nat hk hs))), if_pos ⟨rfl, h⟩]
theorem ot_yes {T : St3} {y f : Int32} {s : Nat} (hk : (bLs T.1).length ≤ 10) (hy : y = nI s) (h1 : 1 ≤ s) (hs : s < 2 ^ (bLs T.1).length) (h : f = 1 ∨ alS T.1 s = true) : oTest T y f = (dueN T.1 y (bLs T.1).length, oPush T (burS y T.1)) := by
  have hp := pow_1024 hk
  have e : bPa (burS y T.1) - bPa T.1 = dueN T.1 y (bLs T.1).length := by rw [pa_bur, i32_ac]
  unfold oTest
  rw [if_neg (fun q => q.elim (fun w => absurd (hy.symm.trans w) (nI_ne0 h1 (by omega))) (fun w => w (by rw [hy]; exact hld_nat hk hs))), if_neg (fun q => h.elim (fun w => absurd (q.1.symm.trans w) (by decide)) (fun w => q.2 (by rw [hy]; exact w))), e]
theorem ou_push {T : St3} {S : BS} : oUndo (oPush T S) = (nI (T.2.1.take 7).length, (T.1, T.2.1.take 7, T.2.2)) := rfl
theorem take7 {T : St3} : (T.2.1.take 7).length ≤ 7 := by rw [List.length_take]; omega
theorem mul3 {x : Int32} {i : Nat} (h : x = nI i) : 3 * x = nI (3 * i) ∧ 3 * x + 1 = nI (3 * i + 1) ∧ 3 * x + 2 = nI (3 * i + 2) := by
  have e : (3 : Int32) * nI i = nI (3 * i) := pk_mul 3 i
  rw [h, e]
  exact ⟨rfl, nI_1 _, nI_add _ 2⟩
theorem had_in {i : Nat} {y : Int32} {d : Nat} (hy : y = nI (3 * i + d)) (hi : i < 7) (hd : d ≤ 2) : vp_in y 24 := by
  rw [hy]
  exact vp_in_nI (by omega) (by decide)
theorem had_0 {S : BS} {f : jF} {k i : Nat} {y : Int32} (hf : hadOk S f k) (hi : i < k) (hk : k ≤ 10) (hy : y = nI (3 * i)) : f y.toNatClampNeg = endL (lI S i) := by
  rw [hy, nI_cl (by omega)]
  exact (hf i hi).1
theorem had_1 {S : BS} {f : jF} {k i : Nat} {y : Int32} (hf : hadOk S f k) (hi : i < k) (hk : k ≤ 10) (hy : y = nI (3 * i + 1)) : f y.toNatClampNeg = lI S i 6 := by
  rw [hy, nI_cl (by omega)]
  exact (hf i hi).2.1
theorem had_2 {S : BS} {f : jF} {k i : Nat} {y : Int32} (hf : hadOk S f k) (hi : i < k) (hk : k ≤ 10) (hy : y = nI (3 * i + 2)) : f y.toNatClampNeg = lI S i 7 := by
  rw [hy, nI_cl (by omega)]
  exact (hf i hi).2.2
theorem set_of {j n : Nat} {v : Int32} (hv : v = nI (2 ^ n - 1)) (hj : j < 2 ^ 31) (h0 : 0 < n) (hn : n ≤ 10) : ∃ s, 1 ≤ s ∧ s < 2 ^ n ∧ 1 + (nI j - nI j / v * v) = nI s := by
  have h1 : 2 ^ 1 ≤ 2 ^ n := Nat.pow_le_pow_right (by decide) h0
  have h2 : 2 ^ n ≤ 1024 := pow_1024 hn
  have h3 : j % (2 ^ n - 1) < 2 ^ n - 1 := Nat.mod_lt _ (by omega)
  refine ⟨1 + j % (2 ^ n - 1), by omega, by omega, ?_⟩
  rw [hv, pk_rem hj (by omega) (by omega)]
  exact one_nI
