/-! the class's buildings: lights in a row, loops over them -/
def jL (X : List (Nat × jF)) (j : Nat) : jF := match X[j]? with
  | some q => q.2
  | none => fun _ => 0
def jAd (X : List (Nat × jF)) (j : Nat) : Nat := match X[j]? with
  | some q => q.1
  | none => 0
theorem jX_get {X : List (Nat × jF)} {j : Nat} (h : j < X.length) : X[j]? = some (jAd X j, jL X j) := by
  unfold jAd jL
  rw [List.getElem?_eq_getElem h]
theorem lrf_get {X : List (Nat × jF)} {j : Nat} (h : j < X.length) : lrf X j = some (jAd X j) := by
  unfold lrf
  rw [jX_get h]
  rfl
def bok (I : jF) (X : List (Nat × jF)) (k : Nat) : Prop := I 1 = nI k ∧ k ≤ X.length ∧ X.length ≤ 10
def lmap (f : Nat → jF → jF) (X : List (Nat × jF)) : List (Nat × jF) := X.mapIdx (fun j q => (q.1, f j q.2))
def lpre (i : Nat) (f : Nat → jF → jF) : Nat → jF → jF := fun j L => if j < i then f j L else L
theorem lmap_len {f : Nat → jF → jF} {X : List (Nat × jF)} : (lmap f X).length = X.length := by simp [lmap]
theorem lmap_get {f : Nat → jF → jF} {X : List (Nat × jF)} {j : Nat} (h : j < X.length) : (lmap f X)[j]? = some (jAd X j, f j (jL X j)) := by
  unfold lmap
  rw [List.getElem?_mapIdx, jX_get h]
  rfl
theorem lrf_lmap {f : Nat → jF → jF} {X : List (Nat × jF)} : lrf (lmap f X) = lrf X := by
  funext i
  unfold lrf lmap
  rw [List.getElem?_mapIdx]
  cases X[i]? <;> rfl
theorem jAd_lmap {f : Nat → jF → jF} {X : List (Nat × jF)} {j : Nat} (h : j < X.length) : jAd (lmap f X) j = jAd X j := by
  unfold jAd
  rw [lmap_get h, jX_get h]
theorem jL_lmap {f : Nat → jF → jF} {X : List (Nat × jF)} {j : Nat} (h : j < X.length) : jL (lmap f X) j = f j (jL X j) := by
  unfold jL
  rw [lmap_get h]
  unfold jL
  rfl
theorem lmap_cur {f : Nat → jF → jF} {X : List (Nat × jF)} {i : Nat} (h : i < X.length) : (lmap (lpre i f) X)[i]? = some (jAd X i, jL X i) := by
  rw [lmap_get h]
  unfold lpre
  rw [if_neg (Nat.lt_irrefl i)]
theorem lmap_next {f : Nat → jF → jF} {X : List (Nat × jF)} {i : Nat} {L : jF} (h : i < X.length) (hL : L = f i (jL X i)) : (lmap (lpre i f) X).set i (jAd X i, L) = lmap (lpre (i + 1) f) X := by
  subst hL
  apply List.ext_getElem?
  intro j
  by_cases hj : i = j
  · subst hj
    rw [List.getElem?_set_self (by rw [lmap_len]; exact h), lmap_get h]
    unfold lpre
    rw [if_pos (Nat.lt_succ_self i)]
  · rw [List.getElem?_set_ne hj]
    unfold lmap
    rw [List.getElem?_mapIdx, List.getElem?_mapIdx]
    cases X[j]? with
    | none => rfl
    | some q =>
      unfold lpre
      by_cases h1 : j < i
      · simp [h1, show j < i + 1 by omega]
      · simp [h1, show ¬ j < i + 1 by omega]
theorem lmap_skip {f : Nat → jF → jF} {X : List (Nat × jF)} {i : Nat} (h : i < X.length) (hL : f i (jL X i) = jL X i) : lmap (lpre i f) X = lmap (lpre (i + 1) f) X := by
  rw [← lmap_next h hL.symm]
  exact (lts_same (lmap_cur h)).symm
theorem lmap_0 {f : Nat → jF → jF} {X : List (Nat × jF)} : lmap (lpre 0 f) X = X := by
  apply List.ext_getElem?
  intro j
  unfold lmap lpre
  rw [List.getElem?_mapIdx]
  cases X[j]? <;> simp
theorem jge {a b : Int32} {k i : Nat} (ha : a = nI k) (hb : b = nI i) (hk : k < 2 ^ 31) (hi : i < 2 ^ 31) (c : a ≤ b) : k ≤ i := by
  rw [ha, hb] at c
  exact (nI_leI hk hi).mp c
theorem jlt {a b : Int32} {k i : Nat} (ha : a = nI k) (hb : b = nI i) (hk : k < 2 ^ 31) (hi : i < 2 ^ 31) (c : ¬ a ≤ b) : i < k := by
  rcases Nat.lt_or_ge i k with h | h
  · exact h
  · exact absurd (by rw [ha, hb]; exact (nI_leI hk hi).mpr h) c
theorem jb1 {p : Prop} [Decidable p] (h : ¬ (if p then 1 else 0 : Int32) = 0) : p := by
  by_cases hp : p
  · exact hp
  · rw [if_neg hp] at h; exact absurd rfl h
theorem jb0 {p : Prop} [Decidable p] (h : (if p then 1 else 0 : Int32) = 0) : ¬ p := by
  intro hp
  rw [if_pos hp] at h
  exact absurd h (by decide)
theorem jin2 {x : Int32} {N : Nat} (h1 : ¬ x < 0) (h2 : ¬ nI N < x) (hN : N + 1 < 2 ^ 31) : vp_in x (N + 1) := by
  rw [vp_in_iff]
  simp only [Int32.lt_iff_toInt_lt, Int32.toInt_zero, nI_toInt (show N < 2 ^ 31 by omega)] at h1 h2
  omega
theorem jsucc {x y : Int32} {i : Nat} (e : y = x + 1) (h : x = nI i) : y = nI (i + 1) := by rw [e, h]; exact nI_1 i
abbrev okLamp (x : Int32) : Prop := ¬ x < 0 ∧ ¬ 2 < x
abbrev okPlace (x : Int32) : Prop := ¬ x < 0 ∧ ¬ 200 < x
abbrev hasR (I : jF) (x : Int32) : Prop := ¬ x < 0 ∧ ¬ I 4 ≤ x ∧ ¬ 6 ≤ x
abbrev hasL (I : jF) (x : Int32) : Prop := ¬ x < 0 ∧ ¬ I 1 ≤ x ∧ ¬ 10 ≤ x
def firstP (I : jF) (A : Nat → jF) (x : Int32) : Int32 := if hasR I x then A 0 x.toNatClampNeg else 0
def lastP (I : jF) (A : Nat → jF) (x : Int32) : Int32 := if hasR I x then A 1 x.toNatClampNeg else 0
def stockOf (A : Nat → jF) (x : Int32) : Int32 := if okLamp x then A 2 x.toNatClampNeg else 0
def stockTo (A : Nat → jF) (x y : Int32) : Nat → jF := if okLamp x then va_up A 2 (upd (A 2) x.toNatClampNeg (A 2 x.toNatClampNeg + y)) else A
def cReady (need : Int32) (X : List (Nat × jF)) (j : Nat) (n : Int32) : Int32 := if need ≤ endL (jL X j) then n + 1 else n
def cBurnt (X : List (Nat × jF)) (j : Nat) (n : Int32) : Int32 := if jL X j 7 = 0 then n + 1 else n
def reachP (L : jF) (p : Int32) : Prop := jabs (p - L 0) ≤ widthOf (L 3)
abbrev reachB (L : jF) (p : Int32) : Prop := jabs (p - L 0) ≤ widthOf (L 3)
def cReach (need : Int32) (X : List (Nat × jF)) (p r : Int32) (j : Nat) (n : Int32) : Int32 := if reachB (jL X j) p ∧ (r = 0 ∨ need ≤ endL (jL X j)) then n + 1 else n
def cOther (X : List (Nat × jF)) (c : Int32) (j : Nat) (n : Int32) : Int32 := if jL X j 1 = c then n else n ||| (1 <<< (nI j &&& 31))
abbrev holdsP (I : jF) (x : Int32) : Prop := ¬ x < 0 ∧ ¬ (1 <<< (I 1 &&& 31)) ≤ x
set_option maxHeartbeats 1000000 in
set_option maxRecDepth 100000 in
theorem c_X6_isLamp (g : jG) (x : Int32) : Con g yX6_isLamp cX6_isLamp 1 (some .boolean) 0 0 0 0 [.int x] [] (jR (some (.int (if okLamp x then 1 else 0))) []) := by
  refine Con.of (own := RX6) (lv := [(0, .int x)]) (by decide) rfl (Nat.le_of_ble_eq_true rfl) rfl ?_
  intro E hC hQ hN
  refine j_iload_n hC dX6_isLamp_0 rfl rfl ?_
  refine j_if_lt hC dX6_isLamp_1 (tgt := 13) (by decide) (fun c_1 => ?_) (fun c_1 => ?_)
  · skip
    refine j_iconst hC (0) dX6_isLamp_13 (by decide) ?_
    refine j_iret hC hQ rfl (by first | rfl | (subst_vars; rfl) | (split <;> rfl)) (Nat.le_of_ble_eq_true rfl) (Nat.le_of_ble_eq_true rfl) dX6_isLamp_14 rfl ⟨?_, ?_⟩
    · first | rfl | (subst_vars; simp [okLamp, *]; done) | (subst_vars; simp_all [okLamp]; done)
    · rfl
  · skip
    refine j_iload_n hC dX6_isLamp_4 rfl rfl ?_
    refine j_iconst hC (2) dX6_isLamp_5 (by decide) ?_
    refine j_icmp_gt hC dX6_isLamp_6 (tgt := 13) (by decide) (fun c_6 => ?_) (fun c_6 => ?_)
    · skip
      refine j_iconst hC (0) dX6_isLamp_13 (by decide) ?_
      refine j_iret hC hQ rfl (by first | rfl | (subst_vars; rfl) | (split <;> rfl)) (Nat.le_of_ble_eq_true rfl) (Nat.le_of_ble_eq_true rfl) dX6_isLamp_14 rfl ⟨?_, ?_⟩
      · first | rfl | (subst_vars; simp [okLamp, *]; done) | (subst_vars; simp_all [okLamp]; done)
      · rfl
    · skip
      refine j_iconst hC (1) dX6_isLamp_9 (by decide) ?_
      refine j_goto hC dX6_isLamp_10 (tgt := 14) (by decide) ?_
      refine j_iret hC hQ rfl (by first | rfl | (subst_vars; rfl) | (split <;> rfl)) (Nat.le_of_ble_eq_true rfl) (Nat.le_of_ble_eq_true rfl) dX6_isLamp_14 rfl ⟨?_, ?_⟩
      · first | rfl | (subst_vars; simp [okLamp, *]; done) | (subst_vars; simp_all [okLamp]; done)
      · rfl
set_option maxHeartbeats 1000000 in
set_option maxRecDepth 100000 in
theorem c_X6_isPlace (g : jG) (x : Int32) : Con g yX6_isPlace cX6_isPlace 1 (some .boolean) 0 0 0 0 [.int x] [] (jR (some (.int (if okPlace x then 1 else 0))) []) := by
  refine Con.of (own := RX6) (lv := [(0, .int x)]) (by decide) rfl (Nat.le_of_ble_eq_true rfl) rfl ?_
  intro E hC hQ hN
  refine j_iload_n hC dX6_isPlace_0 rfl rfl ?_
  refine j_if_lt hC dX6_isPlace_1 (tgt := 15) (by decide) (fun c_1 => ?_) (fun c_1 => ?_)
  · skip
    refine j_iconst hC (0) dX6_isPlace_15 (by decide) ?_
    refine j_iret hC hQ rfl (by first | rfl | (subst_vars; rfl) | (split <;> rfl)) (Nat.le_of_ble_eq_true rfl) (Nat.le_of_ble_eq_true rfl) dX6_isPlace_16 rfl ⟨?_, ?_⟩
    · first | rfl | (subst_vars; simp [okPlace, *]; done) | (subst_vars; simp_all [okPlace]; done)
    · rfl
  · skip
    refine j_iload_n hC dX6_isPlace_4 rfl rfl ?_
    refine j_sipush hC (200) dX6_isPlace_5 (by decide) ?_
    refine j_icmp_gt hC dX6_isPlace_8 (tgt := 15) (by decide) (fun c_8 => ?_) (fun c_8 => ?_)
    · skip
      refine j_iconst hC (0) dX6_isPlace_15 (by decide) ?_
      refine j_iret hC hQ rfl (by first | rfl | (subst_vars; rfl) | (split <;> rfl)) (Nat.le_of_ble_eq_true rfl) (Nat.le_of_ble_eq_true rfl) dX6_isPlace_16 rfl ⟨?_, ?_⟩
      · first | rfl | (subst_vars; simp [okPlace, *]; done) | (subst_vars; simp_all [okPlace]; done)
      · rfl
    · skip
      refine j_iconst hC (1) dX6_isPlace_11 (by decide) ?_
      refine j_goto hC dX6_isPlace_12 (tgt := 16) (by decide) ?_
      refine j_iret hC hQ rfl (by first | rfl | (subst_vars; rfl) | (split <;> rfl)) (Nat.le_of_ble_eq_true rfl) (Nat.le_of_ble_eq_true rfl) dX6_isPlace_16 rfl ⟨?_, ?_⟩
      · first | rfl | (subst_vars; simp [okPlace, *]; done) | (subst_vars; simp_all [okPlace]; done)
      · rfl
set_option maxHeartbeats 1000000 in
set_option maxRecDepth 100000 in
theorem c_X0_find (g : jG) (d : Nat → Nat) (I : jF) (A : Nat → jF) (r : Nat → Option Nat) (x : Int32) : Con g yX0_find cX0_find 2 (some (.object "EscapeLights$Light")) 0 0 0 0 [.ref (d 0), .int x] [bc g d I A r] (jR (some (if hasL I x then va_rf (r x.toNatClampNeg) else .null)) [bc g d I A r]) := by
  refine Con.of (own := RX0) (lv := [(0, .ref (d 0)), (1, .int x)]) (by decide) rfl (Nat.le_of_ble_eq_true rfl) rfl ?_
  intro E hC hQ hN
  refine j_iload_n hC dX0_find_0 rfl rfl ?_
  refine j_if_lt hC dX0_find_1 (tgt := 27) (by decide) (fun c_1 => ?_) (fun c_1 => ?_)
  · skip
    refine j_null hC dX0_find_27 ?_
    refine j_aret hC hQ rfl (by first | exact Or.inl rfl | (cases r x.toNatClampNeg with | none => exact Or.inl rfl | some q => exact Or.inr ⟨q, rfl⟩)) (Nat.le_of_ble_eq_true rfl) (Nat.le_of_ble_eq_true rfl) dX0_find_28 rfl ⟨?_, ?_⟩
    · first | rfl | (subst_vars; simp [hasL, hasR, *]; done) | (subst_vars; simp_all [hasL, hasR]; done)
    · rfl
  · skip
    refine j_iload_n hC dX0_find_4 rfl rfl ?_
    refine j_aload_n hC dX0_find_5 rfl rfl ?_
    refine j_get hC uX0 0 0 1 rfl rfl k49 rfl dX0_find_6 ?_
    refine j_icmp_ge hC dX0_find_9 (tgt := 27) (by decide) (fun c_9 => ?_) (fun c_9 => ?_)
    · skip
      refine j_null hC dX0_find_27 ?_
      refine j_aret hC hQ rfl (by first | exact Or.inl rfl | (cases r x.toNatClampNeg with | none => exact Or.inl rfl | some q => exact Or.inr ⟨q, rfl⟩)) (Nat.le_of_ble_eq_true rfl) (Nat.le_of_ble_eq_true rfl) dX0_find_28 rfl ⟨?_, ?_⟩
      · first | rfl | (subst_vars; simp [hasL, hasR, *]; done) | (subst_vars; simp_all [hasL, hasR]; done)
      · rfl
    · skip
      refine j_iload_n hC dX0_find_12 rfl rfl ?_
      refine j_bipush hC (10) dX0_find_13 (by decide) ?_
      refine j_icmp_ge hC dX0_find_15 (tgt := 27) (by decide) (fun c_15 => ?_) (fun c_15 => ?_)
      · skip
        refine j_null hC dX0_find_27 ?_
        refine j_aret hC hQ rfl (by first | exact Or.inl rfl | (cases r x.toNatClampNeg with | none => exact Or.inl rfl | some q => exact Or.inr ⟨q, rfl⟩)) (Nat.le_of_ble_eq_true rfl) (Nat.le_of_ble_eq_true rfl) dX0_find_28 rfl ⟨?_, ?_⟩
        · first | rfl | (subst_vars; simp [hasL, hasR, *]; done) | (subst_vars; simp_all [hasL, hasR]; done)
        · rfl
      · skip
        refine j_aload_n hC dX0_find_18 rfl rfl ?_
        refine j_get hC uX0 0 0 0 rfl rfl k48 rfl dX0_find_19 ?_
        refine j_iload_n hC dX0_find_22 rfl rfl ?_
        refine j_aald hC 4 0 1 rfl rfl (jin c_1 c_15 (by decide)) dX0_find_23 ?_
        refine j_goto hC dX0_find_24 (tgt := 28) (by decide) ?_
        refine j_aret hC hQ rfl (by first | exact Or.inl rfl | (cases r x.toNatClampNeg with | none => exact Or.inl rfl | some q => exact Or.inr ⟨q, rfl⟩)) (Nat.le_of_ble_eq_true rfl) (Nat.le_of_ble_eq_true rfl) dX0_find_28 rfl ⟨?_, ?_⟩
        · first | rfl | (subst_vars; simp [hasL, hasR, *]; done) | (subst_vars; simp_all [hasL, hasR]; done)
        · rfl
theorem hasL_in {I : jF} {X : List (Nat × jF)} {k j : Nat} {x : Int32} (h : bok I X k) (hj : j < k) (hx : x = nI j) : hasL I x := by
  obtain ⟨h1, h2, h3⟩ := h
  show ¬ x < 0 ∧ ¬ I 1 ≤ x ∧ ¬ 10 ≤ x
  rw [hx, h1]
  refine ⟨?_, ?_, ?_⟩
  · rw [← nI_0, nI_ltI (by omega) (by omega)]; omega
  · rw [nI_leI (by omega) (by omega)]; omega
  · show ¬ nI 10 ≤ nI j
    rw [nI_leI (by omega) (by omega)]; omega
theorem nI_cl {j : Nat} (h : j < 2 ^ 31) : (nI j).toNatClampNeg = j := nI_clamp h
theorem c_X0_find_in (g : jG) (d : Nat → Nat) (I : jF) (A : Nat → jF) (X : List (Nat × jF)) (k j : Nat) (x : Int32) (h : bok I X k) (hj : j < k) (hx : x = nI j) : Con g yX0_find cX0_find 2 (some (.object "EscapeLights$Light")) 0 0 0 0 [.ref (d 0), .int x] [bc g d I A (lrf X)] (jR (some (.ref (jAd X j))) [bc g d I A (lrf X)]) := by
  have := c_X0_find g d I A (lrf X) x
  rw [if_pos (hasL_in h hj hx), hx, nI_cl (by have := h.2; omega), lrf_get (by have := h.2; omega)] at this
  rw [hx]
  exact this
theorem c_X0_find_out (g : jG) (d : Nat → Nat) (I : jF) (A : Nat → jF) (r : Nat → Option Nat) (x : Int32) (h : ¬ hasL I x) : Con g yX0_find cX0_find 2 (some (.object "EscapeLights$Light")) 0 0 0 0 [.ref (d 0), .int x] [bc g d I A r] (jR (some .null) [bc g d I A r]) := by
  have := c_X0_find g d I A r x
  rw [if_neg h] at this
  exact this
theorem hasL_nat {I : jF} {X : List (Nat × jF)} {k : Nat} {x : Int32} (h : bok I X k) (hl : hasL I x) : ∃ j, j < k ∧ x = nI j := by
  obtain ⟨h1, h2, h3⟩ := h
  obtain ⟨a, b, c⟩ := hl
  obtain ⟨j, hj, rfl⟩ := nI_of a
  refine ⟨j, ?_, rfl⟩
  rw [h1, nI_leI (by omega) hj] at b
  omega
set_option maxHeartbeats 1000000 in
set_option maxRecDepth 100000 in
theorem c_X0_hasRoute (g : jG) (d : Nat → Nat) (I : jF) (A : Nat → jF) (r : Nat → Option Nat) (x : Int32) : Con g yX0_hasRoute cX0_hasRoute 2 (some .boolean) 0 0 0 0 [.ref (d 0), .int x] [bc g d I A r] (jR (some (.int (if hasR I x then 1 else 0))) [bc g d I A r]) := by
  refine Con.of (own := RX0) (lv := [(0, .ref (d 0)), (1, .int x)]) (by decide) rfl (Nat.le_of_ble_eq_true rfl) rfl ?_
  intro E hC hQ hN
  refine j_iload_n hC dX0_hasRoute_0 rfl rfl ?_
  refine j_if_lt hC dX0_hasRoute_1 (tgt := 22) (by decide) (fun c_1 => ?_) (fun c_1 => ?_)
  · skip
    refine j_iconst hC (0) dX0_hasRoute_22 (by decide) ?_
    refine j_iret hC hQ rfl (by first | rfl | (subst_vars; rfl) | (split <;> rfl)) (Nat.le_of_ble_eq_true rfl) (Nat.le_of_ble_eq_true rfl) dX0_hasRoute_23 rfl ⟨?_, ?_⟩
    · first | rfl | (subst_vars; simp [hasL, hasR, *]; done) | (subst_vars; simp_all [hasL, hasR]; done)
    · rfl
  · skip
    refine j_iload_n hC dX0_hasRoute_4 rfl rfl ?_
    refine j_aload_n hC dX0_hasRoute_5 rfl rfl ?_
    refine j_get hC uX0 0 0 4 rfl rfl k55 rfl dX0_hasRoute_6 ?_
    refine j_icmp_ge hC dX0_hasRoute_9 (tgt := 22) (by decide) (fun c_9 => ?_) (fun c_9 => ?_)
    · skip
      refine j_iconst hC (0) dX0_hasRoute_22 (by decide) ?_
      refine j_iret hC hQ rfl (by first | rfl | (subst_vars; rfl) | (split <;> rfl)) (Nat.le_of_ble_eq_true rfl) (Nat.le_of_ble_eq_true rfl) dX0_hasRoute_23 rfl ⟨?_, ?_⟩
      · first | rfl | (subst_vars; simp [hasL, hasR, *]; done) | (subst_vars; simp_all [hasL, hasR]; done)
      · rfl
    · skip
      refine j_iload_n hC dX0_hasRoute_12 rfl rfl ?_
      refine j_bipush hC (6) dX0_hasRoute_13 (by decide) ?_
      refine j_icmp_ge hC dX0_hasRoute_15 (tgt := 22) (by decide) (fun c_15 => ?_) (fun c_15 => ?_)
      · skip
        refine j_iconst hC (0) dX0_hasRoute_22 (by decide) ?_
        refine j_iret hC hQ rfl (by first | rfl | (subst_vars; rfl) | (split <;> rfl)) (Nat.le_of_ble_eq_true rfl) (Nat.le_of_ble_eq_true rfl) dX0_hasRoute_23 rfl ⟨?_, ?_⟩
        · first | rfl | (subst_vars; simp [hasL, hasR, *]; done) | (subst_vars; simp_all [hasL, hasR]; done)
        · rfl
      · skip
        refine j_iconst hC (1) dX0_hasRoute_18 (by decide) ?_
        refine j_goto hC dX0_hasRoute_19 (tgt := 23) (by decide) ?_
        refine j_iret hC hQ rfl (by first | rfl | (subst_vars; rfl) | (split <;> rfl)) (Nat.le_of_ble_eq_true rfl) (Nat.le_of_ble_eq_true rfl) dX0_hasRoute_23 rfl ⟨?_, ?_⟩
        · first | rfl | (subst_vars; simp [hasL, hasR, *]; done) | (subst_vars; simp_all [hasL, hasR]; done)
        · rfl
set_option maxHeartbeats 1000000 in
set_option maxRecDepth 100000 in
theorem c_X0_firstPlace (g : jG) (d : Nat → Nat) (I : jF) (A : Nat → jF) (r : Nat → Option Nat) (x : Int32) : Con g yX0_firstPlace cX0_firstPlace 2 (some .int) 1 21 0 0 [.ref (d 0), .int x] [bc g d I A r] (jR (some (.int (firstP I A x))) [bc g d I A r]) := by
  refine Con.of (own := RX0) (lv := [(0, .ref (d 0)), (1, .int x)]) (by decide) rfl (Nat.le_of_ble_eq_true rfl) rfl ?_
  intro E hC hQ hN
  refine j_aload_n hC dX0_firstPlace_0 rfl rfl ?_
  refine j_iload_n hC dX0_firstPlace_1 rfl rfl ?_
  refine j_callVR hC [0] (c_X0_hasRoute g _ _ _ _ _) mX0_hasRoute k203 rfl rfl rfl rfl rfl ⟨(Nat.le_of_ble_eq_true rfl), (Nat.le_of_ble_eq_true rfl)⟩ (Nat.le_of_ble_eq_true rfl) ⟨(Nat.le_of_ble_eq_true rfl), (Nat.le_of_ble_eq_true rfl)⟩ dX0_firstPlace_2 ?_
  dsimp only [jrepl, List.set, jstk]
  refine j_if_eq hC dX0_firstPlace_5 (tgt := 17) (by decide) (fun c_5 => ?_) (fun c_5 => ?_)
  · skip
    refine j_iconst hC (0) dX0_firstPlace_17 (by decide) ?_
    refine j_iret hC hQ rfl rfl (Nat.le_of_ble_eq_true rfl) (Nat.le_of_ble_eq_true rfl) dX0_firstPlace_18 rfl ⟨?_, ?_⟩
    · first | (unfold firstP; rw [if_pos (jb1 c_5)]) | (unfold firstP; rw [if_neg (jb0 c_5)])
    · rfl
  · skip
    refine j_aload_n hC dX0_firstPlace_8 rfl rfl ?_
    refine j_get hC uX0 0 0 2 rfl rfl k53 rfl dX0_firstPlace_9 ?_
    refine j_iload_n hC dX0_firstPlace_12 rfl rfl ?_
    refine j_iald hC 0 2 rfl (jin (jb1 c_5).1 (jb1 c_5).2.2 (by decide)) dX0_firstPlace_13 ?_
    refine j_goto hC dX0_firstPlace_14 (tgt := 18) (by decide) ?_
    refine j_iret hC hQ rfl rfl (Nat.le_of_ble_eq_true rfl) (Nat.le_of_ble_eq_true rfl) dX0_firstPlace_18 rfl ⟨?_, ?_⟩
    · first | (unfold firstP; rw [if_pos (jb1 c_5)]) | (unfold firstP; rw [if_neg (jb0 c_5)])
    · rfl
set_option maxHeartbeats 1000000 in
set_option maxRecDepth 100000 in
theorem c_X0_lastPlace (g : jG) (d : Nat → Nat) (I : jF) (A : Nat → jF) (r : Nat → Option Nat) (x : Int32) : Con g yX0_lastPlace cX0_lastPlace 2 (some .int) 1 21 0 0 [.ref (d 0), .int x] [bc g d I A r] (jR (some (.int (lastP I A x))) [bc g d I A r]) := by
  refine Con.of (own := RX0) (lv := [(0, .ref (d 0)), (1, .int x)]) (by decide) rfl (Nat.le_of_ble_eq_true rfl) rfl ?_
  intro E hC hQ hN
  refine j_aload_n hC dX0_lastPlace_0 rfl rfl ?_
  refine j_iload_n hC dX0_lastPlace_1 rfl rfl ?_
  refine j_callVR hC [0] (c_X0_hasRoute g _ _ _ _ _) mX0_hasRoute k203 rfl rfl rfl rfl rfl ⟨(Nat.le_of_ble_eq_true rfl), (Nat.le_of_ble_eq_true rfl)⟩ (Nat.le_of_ble_eq_true rfl) ⟨(Nat.le_of_ble_eq_true rfl), (Nat.le_of_ble_eq_true rfl)⟩ dX0_lastPlace_2 ?_
  dsimp only [jrepl, List.set, jstk]
  refine j_if_eq hC dX0_lastPlace_5 (tgt := 17) (by decide) (fun c_5 => ?_) (fun c_5 => ?_)
  · skip
    refine j_iconst hC (0) dX0_lastPlace_17 (by decide) ?_
    refine j_iret hC hQ rfl rfl (Nat.le_of_ble_eq_true rfl) (Nat.le_of_ble_eq_true rfl) dX0_lastPlace_18 rfl ⟨?_, ?_⟩
    · first | (unfold lastP; rw [if_pos (jb1 c_5)]) | (unfold lastP; rw [if_neg (jb0 c_5)])
    · rfl
  · skip
    refine j_aload_n hC dX0_lastPlace_8 rfl rfl ?_
    refine j_get hC uX0 0 0 3 rfl rfl k54 rfl dX0_lastPlace_9 ?_
    refine j_iload_n hC dX0_lastPlace_12 rfl rfl ?_
    refine j_iald hC 0 3 rfl (jin (jb1 c_5).1 (jb1 c_5).2.2 (by decide)) dX0_lastPlace_13 ?_
    refine j_goto hC dX0_lastPlace_14 (tgt := 18) (by decide) ?_
    refine j_iret hC hQ rfl rfl (Nat.le_of_ble_eq_true rfl) (Nat.le_of_ble_eq_true rfl) dX0_lastPlace_18 rfl ⟨?_, ?_⟩
    · first | (unfold lastP; rw [if_pos (jb1 c_5)]) | (unfold lastP; rw [if_neg (jb0 c_5)])
    · rfl
set_option maxHeartbeats 1000000 in
set_option maxRecDepth 100000 in
theorem c_X0_stockOf (g : jG) (d : Nat → Nat) (I : jF) (A : Nat → jF) (r : Nat → Option Nat) (x : Int32) : Con g yX0_stockOf cX0_stockOf 2 (some .int) 1 20 0 0 [.ref (d 0), .int x] [bc g d I A r] (jR (some (.int (stockOf A x))) [bc g d I A r]) := by
  refine Con.of (own := RX0) (lv := [(0, .ref (d 0)), (1, .int x)]) (by decide) rfl (Nat.le_of_ble_eq_true rfl) rfl ?_
  intro E hC hQ hN
  refine j_iload_n hC dX0_stockOf_0 rfl rfl ?_
  refine j_callSNR hC [] (c_X6_isLamp g _) mX6_isLamp k421 rfl rfl rfl ⟨(Nat.le_of_ble_eq_true rfl), (Nat.le_of_ble_eq_true rfl)⟩ (Nat.le_of_ble_eq_true rfl) ⟨(Nat.le_of_ble_eq_true rfl), (Nat.le_of_ble_eq_true rfl)⟩ dX0_stockOf_1 ?_
  dsimp only [jrepl, List.set, jstk]
  refine j_if_eq hC dX0_stockOf_4 (tgt := 16) (by decide) (fun c_4 => ?_) (fun c_4 => ?_)
  · skip
    refine j_iconst hC (0) dX0_stockOf_16 (by decide) ?_
    refine j_iret hC hQ rfl rfl (Nat.le_of_ble_eq_true rfl) (Nat.le_of_ble_eq_true rfl) dX0_stockOf_17 rfl ⟨?_, ?_⟩
    · first | (unfold stockOf; rw [if_pos (jb1 c_4)]) | (unfold stockOf; rw [if_neg (jb0 c_4)])
    · rfl
  · skip
    refine j_aload_n hC dX0_stockOf_7 rfl rfl ?_
    refine j_get hC uX0 0 0 7 rfl rfl k63 rfl dX0_stockOf_8 ?_
    refine j_iload_n hC dX0_stockOf_11 rfl rfl ?_
    refine j_iald hC 0 4 rfl (jin2 (jb1 c_4).1 (jb1 c_4).2 (by decide)) dX0_stockOf_12 ?_
    refine j_goto hC dX0_stockOf_13 (tgt := 17) (by decide) ?_
    refine j_iret hC hQ rfl rfl (Nat.le_of_ble_eq_true rfl) (Nat.le_of_ble_eq_true rfl) dX0_stockOf_17 rfl ⟨?_, ?_⟩
    · first | (unfold stockOf; rw [if_pos (jb1 c_4)]) | (unfold stockOf; rw [if_neg (jb0 c_4)])
    · rfl
set_option maxHeartbeats 1000000 in
set_option maxRecDepth 100000 in
theorem c_X0_changeStock (g : jG) (d : Nat → Nat) (I : jF) (A : Nat → jF) (r : Nat → Option Nat) (x y : Int32) : Con g yX0_changeStock cX0_changeStock 3 none 1 20 0 0 [.ref (d 0), .int x, .int y] [bc g d I A r] (jR (none) [bc g d I (stockTo A x y) r]) := by
  refine Con.of (own := RX0) (lv := [(0, .ref (d 0)), (1, .int x), (2, .int y)]) (by decide) rfl (Nat.le_of_ble_eq_true rfl) rfl ?_
  intro E hC hQ hN
  refine j_iload_n hC dX0_changeStock_0 rfl rfl ?_
  refine j_callSNR hC [] (c_X6_isLamp g _) mX6_isLamp k421 rfl rfl rfl ⟨(Nat.le_of_ble_eq_true rfl), (Nat.le_of_ble_eq_true rfl)⟩ (Nat.le_of_ble_eq_true rfl) ⟨(Nat.le_of_ble_eq_true rfl), (Nat.le_of_ble_eq_true rfl)⟩ dX0_changeStock_1 ?_
  dsimp only [jrepl, List.set, jstk]
  refine j_if_eq hC dX0_changeStock_4 (tgt := 17) (by decide) (fun c_4 => ?_) (fun c_4 => ?_)
  · skip
    refine j_vret hC hQ rfl (Nat.le_of_ble_eq_true rfl) (Nat.le_of_ble_eq_true rfl) dX0_changeStock_17 rfl ⟨?_, ?_⟩
    · rfl
    · first | (unfold stockTo; rw [if_pos (jb1 c_4)]) | (unfold stockTo; rw [if_neg (jb0 c_4)])
  · skip
    refine j_aload_n hC dX0_changeStock_7 rfl rfl ?_
    refine j_get hC uX0 0 0 7 rfl rfl k63 rfl dX0_changeStock_8 ?_
    refine j_iload_n hC dX0_changeStock_11 rfl rfl ?_
    refine j_dup2 hC dX0_changeStock_12 rfl rfl ?_
    refine j_iald hC 0 4 rfl (jin2 (jb1 c_4).1 (jb1 c_4).2 (by decide)) dX0_changeStock_13 ?_
    refine j_iload_n hC dX0_changeStock_14 rfl rfl ?_
    refine j_iadd hC dX0_changeStock_15 ?_
    refine j_ast_0_2 (bi := 0) hC rfl (jin2 (jb1 c_4).1 (jb1 c_4).2 (by decide)) dX0_changeStock_16 ?_
    dsimp only [List.set]
    refine j_vret hC hQ rfl (Nat.le_of_ble_eq_true rfl) (Nat.le_of_ble_eq_true rfl) dX0_changeStock_17 rfl ⟨?_, ?_⟩
    · rfl
    · first | (unfold stockTo; rw [if_pos (jb1 c_4)]) | (unfold stockTo; rw [if_neg (jb0 c_4)])
set_option maxHeartbeats 1000000 in
set_option maxRecDepth 100000 in
theorem c_X0_holds (g : jG) (d : Nat → Nat) (I : jF) (A : Nat → jF) (r : Nat → Option Nat) (x : Int32) : Con g yX0_holds cX0_holds 2 (some .boolean) 0 0 0 0 [.ref (d 0), .int x] [bc g d I A r] (jR (some (.int (if holdsP I x then 1 else 0))) [bc g d I A r]) := by
  refine Con.of (own := RX0) (lv := [(0, .ref (d 0)), (1, .int x)]) (by decide) rfl (Nat.le_of_ble_eq_true rfl) rfl ?_
  intro E hC hQ hN
  refine j_iload_n hC dX0_holds_0 rfl rfl ?_
  refine j_if_lt hC dX0_holds_1 (tgt := 18) (by decide) (fun c_1 => ?_) (fun c_1 => ?_)
  · skip
    refine j_iconst hC (0) dX0_holds_18 (by decide) ?_
    refine j_iret hC hQ rfl (by first | rfl | (subst_vars; rfl) | (split <;> rfl)) (Nat.le_of_ble_eq_true rfl) (Nat.le_of_ble_eq_true rfl) dX0_holds_19 rfl ⟨?_, ?_⟩
    · first | rfl | (subst_vars; simp [holdsP, *]; done) | (subst_vars; simp_all [holdsP]; done)
    · rfl
  · skip
    refine j_iload_n hC dX0_holds_4 rfl rfl ?_
    refine j_iconst hC (1) dX0_holds_5 (by decide) ?_
    refine j_aload_n hC dX0_holds_6 rfl rfl ?_
    refine j_get hC uX0 0 0 1 rfl rfl k49 rfl dX0_holds_7 ?_
    refine j_ishl hC dX0_holds_10 ?_
    refine j_icmp_ge hC dX0_holds_11 (tgt := 18) (by decide) (fun c_11 => ?_) (fun c_11 => ?_)
    · skip
      refine j_iconst hC (0) dX0_holds_18 (by decide) ?_
      refine j_iret hC hQ rfl (by first | rfl | (subst_vars; rfl) | (split <;> rfl)) (Nat.le_of_ble_eq_true rfl) (Nat.le_of_ble_eq_true rfl) dX0_holds_19 rfl ⟨?_, ?_⟩
      · first | rfl | (subst_vars; simp [holdsP, *]; done) | (subst_vars; simp_all [holdsP]; done)
      · rfl
    · skip
      refine j_iconst hC (1) dX0_holds_14 (by decide) ?_
      refine j_goto hC dX0_holds_15 (tgt := 19) (by decide) ?_
      refine j_iret hC hQ rfl (by first | rfl | (subst_vars; rfl) | (split <;> rfl)) (Nat.le_of_ble_eq_true rfl) (Nat.le_of_ble_eq_true rfl) dX0_holds_19 rfl ⟨?_, ?_⟩
      · first | rfl | (subst_vars; simp [holdsP, *]; done) | (subst_vars; simp_all [holdsP]; done)
      · rfl
set_option maxHeartbeats 1000000 in
set_option maxRecDepth 100000 in
theorem c_X0_countReady (g : jG) (d : Nat → Nat) (I : jF) (A : Nat → jF) (X : List (Nat × jF)) (k : Nat) (h : bok I X k) : Con g yX0_countReady cX0_countReady 4 (some .int) 3 59 0 0 [.ref (d 0)] [bc g d I A (lrf X), lts X] (jR (some (.int (jiter (cReady (I 5) X) 0 k))) [bc g d I A (lrf X), lts X]) := by
  refine Con.of (own := RX0) (lv := [(0, .ref (d 0))]) (by decide) rfl (Nat.le_of_ble_eq_true rfl) rfl ?_
  intro E hC hQ hN
  obtain ⟨hk1, hk2, hk3⟩ := id h
  refine j_iconst hC (0) dX0_countReady_0 (by decide) ?_
  refine j_istore_n hC dX0_countReady_1 rfl rfl rfl rfl (fun v_1 e_1 => ?_)
  refine j_iconst hC (0) dX0_countReady_2 (by decide) ?_
  refine j_istore_n hC dX0_countReady_3 rfl rfl rfl rfl (fun v_3 e_3 => ?_)
  have L_4 : ∀ (fu : Nat) (i : Nat) (x1 x2 : Int32) (hfu : k + 1 ≤ i + fu) (hi : i ≤ k) (h1 : x1 = jiter (cReady (I 5) X) 0 i) (h2 : x2 = nI i), J g (jRm 3 59 0 0) E 4 4 [(0, .ref (d 0)), (1, .int x1), (2, .int x2)] [] [bc g d I A (lrf X), lts X] (0) (0) := by
    intro fu
    induction fu with
    | zero => intro i x1 x2 hfu hi h1 h2; exact absurd hfu (by omega)
    | succ fu ih_4 =>
      intro i x1 x2 hfu hi h1 h2
      refine j_iload_n hC dX0_countReady_4 rfl rfl ?_
      refine j_aload_n hC dX0_countReady_5 rfl rfl ?_
      refine j_get hC uX0 0 0 1 rfl rfl k49 rfl dX0_countReady_6 ?_
      refine j_icmp_ge hC dX0_countReady_9 (tgt := 42) (by decide) (fun c_9 => ?_) (fun c_9 => ?_)
      · skip
        have hik : i = k := Nat.le_antisymm hi (jge hk1 h2 (by omega) (by omega) c_9)
        subst hik
        refine j_iload_n hC dX0_countReady_42 rfl rfl ?_
        refine j_iret hC hQ rfl rfl (Nat.le_of_ble_eq_true rfl) (Nat.le_of_ble_eq_true rfl) dX0_countReady_43 rfl ⟨?_, ?_⟩
        · exact congrArg (fun z => some (Value.int z)) h1
        · rfl
      · skip
        have hik : i < k := jlt hk1 h2 (by omega) (by omega) c_9
        refine j_aload_n hC dX0_countReady_12 rfl rfl ?_
        refine j_iload_n hC dX0_countReady_13 rfl rfl ?_
        refine j_callVR hC [0] (c_X0_find_in g _ _ _ _ _ _ _ h hik h2) mX0_find k243 rfl rfl rfl rfl rfl ⟨(Nat.le_of_ble_eq_true rfl), (Nat.le_of_ble_eq_true rfl)⟩ (Nat.le_of_ble_eq_true rfl) ⟨(Nat.le_of_ble_eq_true rfl), (Nat.le_of_ble_eq_true rfl)⟩ dX0_countReady_14 ?_
        dsimp only [jrepl, List.set, jstk]
        refine j_focus i 1 (jX_get (X := X) (by omega)) rfl ?_
        dsimp only [List.set, List.cons_append, List.nil_append]
        refine j_astore_n hC dX0_countReady_17 rfl rfl rfl rfl ?_
        refine j_aload_n hC dX0_countReady_18 rfl rfl ?_
        refine j_ifnull hC dX0_countReady_19 ?_
        refine j_aload_n hC dX0_countReady_22 rfl rfl ?_
        refine j_aload_n hC dX0_countReady_23 rfl rfl ?_
        refine j_get hC uX0 0 0 5 rfl rfl k58 rfl dX0_countReady_24 ?_
        refine j_callVR hC [2] (c_X2_isReady g _ _ _) mX2_isReady k398 rfl rfl rfl rfl rfl ⟨(Nat.le_of_ble_eq_true rfl), (Nat.le_of_ble_eq_true rfl)⟩ (Nat.le_of_ble_eq_true rfl) ⟨(Nat.le_of_ble_eq_true rfl), (Nat.le_of_ble_eq_true rfl)⟩ dX0_countReady_27 ?_
        dsimp only [jrepl, List.set, jstk]
        refine j_if_eq hC dX0_countReady_30 (tgt := 36) (by decide) (fun c_30 => ?_) (fun c_30 => ?_)
        · skip
          refine j_iinc hC (1) dX0_countReady_36 rfl rfl rfl rfl rfl (fun v_36 e_36 => ?_)
          refine j_goto hC dX0_countReady_39 (tgt := 4) (by decide) ?_
          refine j_pick [0, 1, 2] ?_
          refine j_unfocus i 1 (jX_get (X := X) (by omega)) rfl rfl rfl ?_
          dsimp only [List.set, List.dropLast]
          rw [lts_same (jX_get (by omega))]
          exact ih_4 (i + 1) _ _ (by omega) (by omega) (by show _ = (cReady (I 5) X) i (jiter (cReady (I 5) X) 0 i); rw [← h1]; first | exact e_33.trans (if_pos (jb1 c_30)).symm | exact (if_neg (jb0 c_30)).symm) (jsucc e_36 h2)
        · skip
          refine j_iinc hC (1) dX0_countReady_33 rfl rfl rfl rfl rfl (fun v_33 e_33 => ?_)
          refine j_iinc hC (1) dX0_countReady_36 rfl rfl rfl rfl rfl (fun v_36 e_36 => ?_)
          refine j_goto hC dX0_countReady_39 (tgt := 4) (by decide) ?_
          refine j_pick [0, 1, 2] ?_
          refine j_unfocus i 1 (jX_get (X := X) (by omega)) rfl rfl rfl ?_
          dsimp only [List.set, List.dropLast]
          rw [lts_same (jX_get (by omega))]
          exact ih_4 (i + 1) _ _ (by omega) (by omega) (by show _ = (cReady (I 5) X) i (jiter (cReady (I 5) X) 0 i); rw [← h1]; first | exact e_33.trans (if_pos (jb1 c_30)).symm | exact (if_neg (jb0 c_30)).symm) (jsucc e_36 h2)
  refine j_pick [0, 1, 2] ?_
  exact L_4 (k + 1) 0 _ _ (by omega) (Nat.zero_le _) e_1 (e_3.trans nI_0.symm)
set_option maxHeartbeats 1000000 in
set_option maxRecDepth 100000 in
theorem c_X0_countBurntOut (g : jG) (d : Nat → Nat) (I : jF) (A : Nat → jF) (X : List (Nat × jF)) (k : Nat) (h : bok I X k) : Con g yX0_countBurntOut cX0_countBurntOut 4 (some .int) 1 21 0 0 [.ref (d 0)] [bc g d I A (lrf X), lts X] (jR (some (.int (jiter (cBurnt X) 0 k))) [bc g d I A (lrf X), lts X]) := by
  refine Con.of (own := RX0) (lv := [(0, .ref (d 0))]) (by decide) rfl (Nat.le_of_ble_eq_true rfl) rfl ?_
  intro E hC hQ hN
  obtain ⟨hk1, hk2, hk3⟩ := id h
  refine j_iconst hC (0) dX0_countBurntOut_0 (by decide) ?_
  refine j_istore_n hC dX0_countBurntOut_1 rfl rfl rfl rfl (fun v_1 e_1 => ?_)
  refine j_iconst hC (0) dX0_countBurntOut_2 (by decide) ?_
  refine j_istore_n hC dX0_countBurntOut_3 rfl rfl rfl rfl (fun v_3 e_3 => ?_)
  have L_4 : ∀ (fu : Nat) (i : Nat) (x1 x2 : Int32) (hfu : k + 1 ≤ i + fu) (hi : i ≤ k) (h1 : x1 = jiter (cBurnt X) 0 i) (h2 : x2 = nI i), J g (jRm 1 21 0 0) E 4 4 [(0, .ref (d 0)), (1, .int x1), (2, .int x2)] [] [bc g d I A (lrf X), lts X] (0) (0) := by
    intro fu
    induction fu with
    | zero => intro i x1 x2 hfu hi h1 h2; exact absurd hfu (by omega)
    | succ fu ih_4 =>
      intro i x1 x2 hfu hi h1 h2
      refine j_iload_n hC dX0_countBurntOut_4 rfl rfl ?_
      refine j_aload_n hC dX0_countBurntOut_5 rfl rfl ?_
      refine j_get hC uX0 0 0 1 rfl rfl k49 rfl dX0_countBurntOut_6 ?_
      refine j_icmp_ge hC dX0_countBurntOut_9 (tgt := 38) (by decide) (fun c_9 => ?_) (fun c_9 => ?_)
      · skip
        have hik : i = k := Nat.le_antisymm hi (jge hk1 h2 (by omega) (by omega) c_9)
        subst hik
        refine j_iload_n hC dX0_countBurntOut_38 rfl rfl ?_
        refine j_iret hC hQ rfl rfl (Nat.le_of_ble_eq_true rfl) (Nat.le_of_ble_eq_true rfl) dX0_countBurntOut_39 rfl ⟨?_, ?_⟩
        · exact congrArg (fun z => some (Value.int z)) h1
        · rfl
      · skip
        have hik : i < k := jlt hk1 h2 (by omega) (by omega) c_9
        refine j_aload_n hC dX0_countBurntOut_12 rfl rfl ?_
        refine j_iload_n hC dX0_countBurntOut_13 rfl rfl ?_
        refine j_callVR hC [0] (c_X0_find_in g _ _ _ _ _ _ _ h hik h2) mX0_find k243 rfl rfl rfl rfl rfl ⟨(Nat.le_of_ble_eq_true rfl), (Nat.le_of_ble_eq_true rfl)⟩ (Nat.le_of_ble_eq_true rfl) ⟨(Nat.le_of_ble_eq_true rfl), (Nat.le_of_ble_eq_true rfl)⟩ dX0_countBurntOut_14 ?_
        dsimp only [jrepl, List.set, jstk]
        refine j_focus i 1 (jX_get (X := X) (by omega)) rfl ?_
        dsimp only [List.set, List.cons_append, List.nil_append]
        refine j_astore_n hC dX0_countBurntOut_17 rfl rfl rfl rfl ?_
        refine j_aload_n hC dX0_countBurntOut_18 rfl rfl ?_
        refine j_ifnull hC dX0_countBurntOut_19 ?_
        refine j_aload_n hC dX0_countBurntOut_22 rfl rfl ?_
        refine j_get hC uX2 2 0 7 rfl rfl k264 rfl dX0_countBurntOut_23 ?_
        refine j_if_ne hC dX0_countBurntOut_26 (tgt := 32) (by decide) (fun c_26 => ?_) (fun c_26 => ?_)
        · skip
          refine j_iinc hC (1) dX0_countBurntOut_32 rfl rfl rfl rfl rfl (fun v_32 e_32 => ?_)
          refine j_goto hC dX0_countBurntOut_35 (tgt := 4) (by decide) ?_
          refine j_pick [0, 1, 2] ?_
          refine j_unfocus i 1 (jX_get (X := X) (by omega)) rfl rfl rfl ?_
          dsimp only [List.set, List.dropLast]
          rw [lts_same (jX_get (by omega))]
          exact ih_4 (i + 1) _ _ (by omega) (by omega) (by show _ = (cBurnt X) i (jiter (cBurnt X) 0 i); rw [← h1]; first | exact e_29.trans (if_pos c_26).symm | exact (if_neg c_26).symm) (jsucc e_32 h2)
        · skip
          refine j_iinc hC (1) dX0_countBurntOut_29 rfl rfl rfl rfl rfl (fun v_29 e_29 => ?_)
          refine j_iinc hC (1) dX0_countBurntOut_32 rfl rfl rfl rfl rfl (fun v_32 e_32 => ?_)
          refine j_goto hC dX0_countBurntOut_35 (tgt := 4) (by decide) ?_
          refine j_pick [0, 1, 2] ?_
          refine j_unfocus i 1 (jX_get (X := X) (by omega)) rfl rfl rfl ?_
          dsimp only [List.set, List.dropLast]
          rw [lts_same (jX_get (by omega))]
          exact ih_4 (i + 1) _ _ (by omega) (by omega) (by show _ = (cBurnt X) i (jiter (cBurnt X) 0 i); rw [← h1]; first | exact e_29.trans (if_pos c_26).symm | exact (if_neg c_26).symm) (jsucc e_32 h2)
  refine j_pick [0, 1, 2] ?_
  exact L_4 (k + 1) 0 _ _ (by omega) (Nat.zero_le _) e_1 (e_3.trans nI_0.symm)
set_option maxHeartbeats 1000000 in
set_option maxRecDepth 100000 in
theorem c_X0_countReaching (g : jG) (d : Nat → Nat) (I : jF) (A : Nat → jF) (X : List (Nat × jF)) (k : Nat) (x y : Int32) (h : bok I X k) : Con g yX0_countReaching cX0_countReaching 6 (some .int) 3 61 0 0 [.ref (d 0), .int x, .int y] [bc g d I A (lrf X), lts X] (jR (some (.int (jiter (cReach (I 5) X x y) 0 k))) [bc g d I A (lrf X), lts X]) := by
  refine Con.of (own := RX0) (lv := [(0, .ref (d 0)), (1, .int x), (2, .int y)]) (by decide) rfl (Nat.le_of_ble_eq_true rfl) rfl ?_
  intro E hC hQ hN
  obtain ⟨hk1, hk2, hk3⟩ := id h
  refine j_iconst hC (0) dX0_countReaching_0 (by decide) ?_
  refine j_istore_n hC dX0_countReaching_1 rfl rfl rfl rfl (fun v_1 e_1 => ?_)
  refine j_iconst hC (0) dX0_countReaching_2 (by decide) ?_
  refine j_istore hC dX0_countReaching_3 rfl rfl rfl (fun v_3 e_3 => ?_)
  have L_5 : ∀ (fu : Nat) (i : Nat) (x3 x4 : Int32) (hfu : k + 1 ≤ i + fu) (hi : i ≤ k) (h1 : x3 = jiter (cReach (I 5) X x y) 0 i) (h2 : x4 = nI i), J g (jRm 3 61 0 0) E 6 5 [(0, .ref (d 0)), (1, .int x), (2, .int y), (3, .int x3), (4, .int x4)] [] [bc g d I A (lrf X), lts X] (0) (0) := by
    intro fu
    induction fu with
    | zero => intro i x3 x4 hfu hi h1 h2; exact absurd hfu (by omega)
    | succ fu ih_5 =>
      intro i x3 x4 hfu hi h1 h2
      refine j_iload hC dX0_countReaching_5 rfl ?_
      refine j_aload_n hC dX0_countReaching_7 rfl rfl ?_
      refine j_get hC uX0 0 0 1 rfl rfl k49 rfl dX0_countReaching_8 ?_
      refine j_icmp_ge hC dX0_countReaching_11 (tgt := 61) (by decide) (fun c_11 => ?_) (fun c_11 => ?_)
      · skip
        have hik : i = k := Nat.le_antisymm hi (jge hk1 h2 (by omega) (by omega) c_11)
        subst hik
        refine j_iload_n hC dX0_countReaching_61 rfl rfl ?_
        refine j_iret hC hQ rfl rfl (Nat.le_of_ble_eq_true rfl) (Nat.le_of_ble_eq_true rfl) dX0_countReaching_62 rfl ⟨?_, ?_⟩
        · exact congrArg (fun z => some (Value.int z)) h1
        · rfl
      · skip
        have hik : i < k := jlt hk1 h2 (by omega) (by omega) c_11
        refine j_aload_n hC dX0_countReaching_14 rfl rfl ?_
        refine j_iload hC dX0_countReaching_15 rfl ?_
        refine j_callVR hC [0] (c_X0_find_in g _ _ _ _ _ _ _ h hik h2) mX0_find k243 rfl rfl rfl rfl rfl ⟨(Nat.le_of_ble_eq_true rfl), (Nat.le_of_ble_eq_true rfl)⟩ (Nat.le_of_ble_eq_true rfl) ⟨(Nat.le_of_ble_eq_true rfl), (Nat.le_of_ble_eq_true rfl)⟩ dX0_countReaching_17 ?_
        dsimp only [jrepl, List.set, jstk]
        refine j_focus i 1 (jX_get (X := X) (by omega)) rfl ?_
        dsimp only [List.set, List.cons_append, List.nil_append]
        refine j_astore hC dX0_countReaching_20 rfl rfl rfl ?_
        refine j_aload hC dX0_countReaching_22 rfl ?_
        refine j_ifnull hC dX0_countReaching_24 ?_
        refine j_aload hC dX0_countReaching_27 rfl ?_
        refine j_iload_n hC dX0_countReaching_29 rfl rfl ?_
        refine j_callVR hC [2] (c_X2_reaches g _ _ _) mX2_reaches k523 rfl rfl rfl rfl rfl ⟨(Nat.le_of_ble_eq_true rfl), (Nat.le_of_ble_eq_true rfl)⟩ (Nat.le_of_ble_eq_true rfl) ⟨(Nat.le_of_ble_eq_true rfl), (Nat.le_of_ble_eq_true rfl)⟩ dX0_countReaching_30 ?_
        dsimp only [jrepl, List.set, jstk]
        refine j_if_eq hC dX0_countReaching_33 (tgt := 55) (by decide) (fun c_33 => ?_) (fun c_33 => ?_)
        · skip
          refine j_iinc hC (1) dX0_countReaching_55 rfl rfl rfl rfl rfl (fun v_55 e_55 => ?_)
          refine j_goto hC dX0_countReaching_58 (tgt := 5) (by decide) ?_
          refine j_pick [0, 1, 2, 3, 4] ?_
          refine j_unfocus i 1 (jX_get (X := X) (by omega)) rfl rfl rfl ?_
          dsimp only [List.set, List.dropLast]
          rw [lts_same (jX_get (by omega))]
          exact ih_5 (i + 1) _ _ (by omega) (by omega) (by show _ = (cReach (I 5) X x y) i (jiter (cReach (I 5) X x y) 0 i); rw [← h1]; first | exact e_52.trans (if_pos (And.intro (jb1 c_33) (Or.inl c_37))).symm | exact e_52.trans (if_pos (And.intro (jb1 c_33) (Or.inr (jb1 c_49)))).symm | exact (if_neg (fun q => jb0 c_33 q.1)).symm | exact (if_neg (fun q => q.2.elim c_37 (jb0 c_49))).symm) (jsucc e_55 h2)
        · skip
          refine j_iload_n hC dX0_countReaching_36 rfl rfl ?_
          refine j_if_eq hC dX0_countReaching_37 (tgt := 52) (by decide) (fun c_37 => ?_) (fun c_37 => ?_)
          · skip
            refine j_iinc hC (1) dX0_countReaching_52 rfl rfl rfl rfl rfl (fun v_52 e_52 => ?_)
            refine j_iinc hC (1) dX0_countReaching_55 rfl rfl rfl rfl rfl (fun v_55 e_55 => ?_)
            refine j_goto hC dX0_countReaching_58 (tgt := 5) (by decide) ?_
            refine j_pick [0, 1, 2, 3, 4] ?_
            refine j_unfocus i 1 (jX_get (X := X) (by omega)) rfl rfl rfl ?_
            dsimp only [List.set, List.dropLast]
            rw [lts_same (jX_get (by omega))]
            exact ih_5 (i + 1) _ _ (by omega) (by omega) (by show _ = (cReach (I 5) X x y) i (jiter (cReach (I 5) X x y) 0 i); rw [← h1]; first | exact e_52.trans (if_pos (And.intro (jb1 c_33) (Or.inl c_37))).symm | exact e_52.trans (if_pos (And.intro (jb1 c_33) (Or.inr (jb1 c_49)))).symm | exact (if_neg (fun q => jb0 c_33 q.1)).symm | exact (if_neg (fun q => q.2.elim c_37 (jb0 c_49))).symm) (jsucc e_55 h2)
          · skip
            refine j_aload hC dX0_countReaching_40 rfl ?_
            refine j_aload_n hC dX0_countReaching_42 rfl rfl ?_
            refine j_get hC uX0 0 0 5 rfl rfl k58 rfl dX0_countReaching_43 ?_
            refine j_callVR hC [2] (c_X2_isReady g _ _ _) mX2_isReady k398 rfl rfl rfl rfl rfl ⟨(Nat.le_of_ble_eq_true rfl), (Nat.le_of_ble_eq_true rfl)⟩ (Nat.le_of_ble_eq_true rfl) ⟨(Nat.le_of_ble_eq_true rfl), (Nat.le_of_ble_eq_true rfl)⟩ dX0_countReaching_46 ?_
            dsimp only [jrepl, List.set, jstk]
            refine j_if_eq hC dX0_countReaching_49 (tgt := 55) (by decide) (fun c_49 => ?_) (fun c_49 => ?_)
            · skip
              refine j_iinc hC (1) dX0_countReaching_55 rfl rfl rfl rfl rfl (fun v_55 e_55 => ?_)
              refine j_goto hC dX0_countReaching_58 (tgt := 5) (by decide) ?_
              refine j_pick [0, 1, 2, 3, 4] ?_
              refine j_unfocus i 1 (jX_get (X := X) (by omega)) rfl rfl rfl ?_
              dsimp only [List.set, List.dropLast]
              rw [lts_same (jX_get (by omega))]
              exact ih_5 (i + 1) _ _ (by omega) (by omega) (by show _ = (cReach (I 5) X x y) i (jiter (cReach (I 5) X x y) 0 i); rw [← h1]; first | exact e_52.trans (if_pos (And.intro (jb1 c_33) (Or.inl c_37))).symm | exact e_52.trans (if_pos (And.intro (jb1 c_33) (Or.inr (jb1 c_49)))).symm | exact (if_neg (fun q => jb0 c_33 q.1)).symm | exact (if_neg (fun q => q.2.elim c_37 (jb0 c_49))).symm) (jsucc e_55 h2)
            · skip
              refine j_iinc hC (1) dX0_countReaching_52 rfl rfl rfl rfl rfl (fun v_52 e_52 => ?_)
              refine j_iinc hC (1) dX0_countReaching_55 rfl rfl rfl rfl rfl (fun v_55 e_55 => ?_)
              refine j_goto hC dX0_countReaching_58 (tgt := 5) (by decide) ?_
              refine j_pick [0, 1, 2, 3, 4] ?_
              refine j_unfocus i 1 (jX_get (X := X) (by omega)) rfl rfl rfl ?_
              dsimp only [List.set, List.dropLast]
              rw [lts_same (jX_get (by omega))]
              exact ih_5 (i + 1) _ _ (by omega) (by omega) (by show _ = (cReach (I 5) X x y) i (jiter (cReach (I 5) X x y) 0 i); rw [← h1]; first | exact e_52.trans (if_pos (And.intro (jb1 c_33) (Or.inl c_37))).symm | exact e_52.trans (if_pos (And.intro (jb1 c_33) (Or.inr (jb1 c_49)))).symm | exact (if_neg (fun q => jb0 c_33 q.1)).symm | exact (if_neg (fun q => q.2.elim c_37 (jb0 c_49))).symm) (jsucc e_55 h2)
  refine j_pick [0, 1, 2, 3, 4] ?_
  exact L_5 (k + 1) 0 _ _ (by omega) (Nat.zero_le _) e_1 (e_3.trans nI_0.symm)
set_option maxHeartbeats 1000000 in
set_option maxRecDepth 100000 in
theorem c_X0_withoutCircuit (g : jG) (d : Nat → Nat) (I : jF) (A : Nat → jF) (X : List (Nat × jF)) (k : Nat) (x : Int32) (h : bok I X k) : Con g yX0_withoutCircuit cX0_withoutCircuit 5 (some .int) 1 21 0 0 [.ref (d 0), .int x] [bc g d I A (lrf X), lts X] (jR (some (.int (jiter (cOther X x) 0 k))) [bc g d I A (lrf X), lts X]) := by
  refine Con.of (own := RX0) (lv := [(0, .ref (d 0)), (1, .int x)]) (by decide) rfl (Nat.le_of_ble_eq_true rfl) rfl ?_
  intro E hC hQ hN
  obtain ⟨hk1, hk2, hk3⟩ := id h
  refine j_iconst hC (0) dX0_withoutCircuit_0 (by decide) ?_
  refine j_istore_n hC dX0_withoutCircuit_1 rfl rfl rfl rfl (fun v_1 e_1 => ?_)
  refine j_iconst hC (0) dX0_withoutCircuit_2 (by decide) ?_
  refine j_istore_n hC dX0_withoutCircuit_3 rfl rfl rfl rfl (fun v_3 e_3 => ?_)
  have L_4 : ∀ (fu : Nat) (i : Nat) (x2 x3 : Int32) (hfu : k + 1 ≤ i + fu) (hi : i ≤ k) (h1 : x2 = jiter (cOther X x) 0 i) (h2 : x3 = nI i), J g (jRm 1 21 0 0) E 5 4 [(0, .ref (d 0)), (1, .int x), (2, .int x2), (3, .int x3)] [] [bc g d I A (lrf X), lts X] (0) (0) := by
    intro fu
    induction fu with
    | zero => intro i x2 x3 hfu hi h1 h2; exact absurd hfu (by omega)
    | succ fu ih_4 =>
      intro i x2 x3 hfu hi h1 h2
      refine j_iload_n hC dX0_withoutCircuit_4 rfl rfl ?_
      refine j_aload_n hC dX0_withoutCircuit_5 rfl rfl ?_
      refine j_get hC uX0 0 0 1 rfl rfl k49 rfl dX0_withoutCircuit_6 ?_
      refine j_icmp_ge hC dX0_withoutCircuit_9 (tgt := 45) (by decide) (fun c_9 => ?_) (fun c_9 => ?_)
      · skip
        have hik : i = k := Nat.le_antisymm hi (jge hk1 h2 (by omega) (by omega) c_9)
        subst hik
        refine j_iload_n hC dX0_withoutCircuit_45 rfl rfl ?_
        refine j_iret hC hQ rfl rfl (Nat.le_of_ble_eq_true rfl) (Nat.le_of_ble_eq_true rfl) dX0_withoutCircuit_46 rfl ⟨?_, ?_⟩
        · exact congrArg (fun z => some (Value.int z)) h1
        · rfl
      · skip
        have hik : i < k := jlt hk1 h2 (by omega) (by omega) c_9
        refine j_aload_n hC dX0_withoutCircuit_12 rfl rfl ?_
        refine j_iload_n hC dX0_withoutCircuit_13 rfl rfl ?_
        refine j_callVR hC [0] (c_X0_find_in g _ _ _ _ _ _ _ h hik h2) mX0_find k243 rfl rfl rfl rfl rfl ⟨(Nat.le_of_ble_eq_true rfl), (Nat.le_of_ble_eq_true rfl)⟩ (Nat.le_of_ble_eq_true rfl) ⟨(Nat.le_of_ble_eq_true rfl), (Nat.le_of_ble_eq_true rfl)⟩ dX0_withoutCircuit_14 ?_
        dsimp only [jrepl, List.set, jstk]
        refine j_focus i 1 (jX_get (X := X) (by omega)) rfl ?_
        dsimp only [List.set, List.cons_append, List.nil_append]
        refine j_astore hC dX0_withoutCircuit_17 rfl rfl rfl ?_
        refine j_aload hC dX0_withoutCircuit_19 rfl ?_
        refine j_ifnull hC dX0_withoutCircuit_21 ?_
        refine j_aload hC dX0_withoutCircuit_24 rfl ?_
        refine j_get hC uX2 2 0 1 rfl rfl k256 rfl dX0_withoutCircuit_26 ?_
        refine j_iload_n hC dX0_withoutCircuit_29 rfl rfl ?_
        refine j_icmp_eq hC dX0_withoutCircuit_30 (tgt := 39) (by decide) (fun c_30 => ?_) (fun c_30 => ?_)
        · skip
          refine j_iinc hC (1) dX0_withoutCircuit_39 rfl rfl rfl rfl rfl (fun v_39 e_39 => ?_)
          refine j_goto hC dX0_withoutCircuit_42 (tgt := 4) (by decide) ?_
          refine j_pick [0, 1, 2, 3] ?_
          refine j_unfocus i 1 (jX_get (X := X) (by omega)) rfl rfl rfl ?_
          dsimp only [List.set, List.dropLast]
          rw [lts_same (jX_get (by omega))]
          exact ih_4 (i + 1) _ _ (by omega) (by omega) (by show _ = (cOther X x) i (jiter (cOther X x) 0 i); rw [← h1]; first | exact (if_pos c_30).symm | exact (e_38.trans (by rw [h2])).trans (if_neg c_30).symm) (jsucc e_39 h2)
        · skip
          refine j_iload_n hC dX0_withoutCircuit_33 rfl rfl ?_
          refine j_iconst hC (1) dX0_withoutCircuit_34 (by decide) ?_
          refine j_iload_n hC dX0_withoutCircuit_35 rfl rfl ?_
          refine j_ishl hC dX0_withoutCircuit_36 ?_
          refine j_ior hC dX0_withoutCircuit_37 ?_
          refine j_istore_n hC dX0_withoutCircuit_38 rfl rfl rfl rfl (fun v_38 e_38 => ?_)
          refine j_iinc hC (1) dX0_withoutCircuit_39 rfl rfl rfl rfl rfl (fun v_39 e_39 => ?_)
          refine j_goto hC dX0_withoutCircuit_42 (tgt := 4) (by decide) ?_
          refine j_pick [0, 1, 2, 3] ?_
          refine j_unfocus i 1 (jX_get (X := X) (by omega)) rfl rfl rfl ?_
          dsimp only [List.set, List.dropLast]
          rw [lts_same (jX_get (by omega))]
          exact ih_4 (i + 1) _ _ (by omega) (by omega) (by show _ = (cOther X x) i (jiter (cOther X x) 0 i); rw [← h1]; first | exact (if_pos c_30).symm | exact (e_38.trans (by rw [h2])).trans (if_neg c_30).symm) (jsucc e_39 h2)
  refine j_pick [0, 1, 2, 3] ?_
  exact L_4 (k + 1) 0 _ _ (by omega) (Nat.zero_le _) e_1 (e_3.trans nI_0.symm)
