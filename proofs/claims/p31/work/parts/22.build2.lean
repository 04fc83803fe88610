/-! the class's buildings, second half: what changes them -/
def appA (A : Nat → jF) (n : Nat) (x y : Int32) : Nat → jF := va_up (va_up A 0 (upd (A 0) n x)) 1 (upd (A 1) n y)
def rmA (k : Nat) (A : Nat → jF) : Nat → jF := va_up (va_up A 0 (upd (A 0) k (A 0 (k + 1)))) 1 (upd (A 1) k (A 1 (k + 1)))
def grown (X : List (Nat × jF)) (k : Nat) (Y : List (Nat × jF)) : Prop := k < Y.length ∧ Y.length ≤ 10 ∧ X.length ≤ Y.length ∧ ∀ j, j < k → Y[j]? = X[j]?
theorem grow_some {I : jF} {X : List (Nat × jF)} {k : Nat} (h : bok I X k) (hk : k < X.length) : va_rf (lrf X (I 1).toNatClampNeg) = .ref (jAd X k) := by
  rw [h.1, nI_cl (by have := h.2; omega), lrf_get hk]
  rfl
theorem grow_none {I : jF} {X : List (Nat × jF)} {k : Nat} (h : bok I X k) (hk : ¬ k < X.length) : va_rf (lrf X (I 1).toNatClampNeg) = .null := by
  rw [h.1, nI_cl (by have := h.2; omega)]
  unfold lrf
  rw [List.getElem?_eq_none (by omega)]
  rfl
theorem lrf_push {X : List (Nat × jF)} {q : Nat} {L : jF} : va_up (lrf X) X.length (some q) = lrf (X ++ [(q, L)]) := by
  funext i
  unfold va_up lrf
  by_cases h : i = X.length
  · subst h
    rw [if_pos rfl, List.getElem?_append_right (Nat.le_refl _)]
    simp
  · rw [if_neg h]
    rcases Nat.lt_or_ge i X.length with h2 | h2
    · rw [List.getElem?_append_left h2]
    · rw [List.getElem?_eq_none h2, List.getElem?_eq_none (by simp; omega)]
theorem lts_push {X : List (Nat × jF)} {q : Nat} {L : jF} : lts (X ++ [(q, L)]) = lts X ++ lb q L := by simp [lts, lb]
theorem vp_k {I : jF} {X : List (Nat × jF)} {k : Nat} (h : bok I X k) (hk : k < 10) : vp_in (I 1) 10 := by
  rw [h.1]
  exact vp_in_nI hk (by decide)
/-- the refs of a row whose light j is taken out, when t of those behind it have moved -/
def rshift (j t : Nat) (r : Nat → Option Nat) : Nat → Option Nat := fun i => if j ≤ i ∧ i < j + t then r (i + 1) else r i
theorem rshift_step {j t : Nat} {r : Nat → Option Nat} {a : Nat} (h : r (j + t + 1) = some a) : va_up (rshift j t r) (j + t) (some a) = rshift j (t + 1) r := by
  funext i
  unfold va_up rshift
  by_cases h1 : i = j + t
  · subst h1
    rw [if_pos rfl, if_pos (by omega), h]
  · rw [if_neg h1]
    by_cases h2 : j ≤ i ∧ i < j + t
    · rw [if_pos h2, if_pos (by omega)]
    · rw [if_neg h2, if_neg (by omega)]
def rotX (X : List (Nat × jF)) (j k : Nat) : List (Nat × jF) := match X[j]? with
  | some q => (X.eraseIdx j).insertIdx (k - 1) q
  | none => X
theorem rotX_perm {X : List (Nat × jF)} {j k : Nat} (hj : j < k) (hk : k ≤ X.length) : X.Perm (rotX X j k) := by
  unfold rotX
  rw [jX_get (X := X) (j := j) (by omega)]
  refine (jerase (jX_get (X := X) (j := j) (by omega))).trans ?_
  exact (List.perm_insertIdx _ _ (by rw [List.length_eraseIdx_of_lt (show j < X.length by omega)]; omega)).symm
theorem rotX_get {X : List (Nat × jF)} {j k i : Nat} (hj : j < k) (hk : k ≤ X.length) : (rotX X j k)[i]? = if i < j then X[i]? else if i + 1 < k then X[i + 1]? else if i + 1 = k then X[j]? else X[i]? := by
  unfold rotX
  rw [jX_get (X := X) (j := j) (by omega)]
  show ((X.eraseIdx j).insertIdx (k - 1) (jAd X j, jL X j))[i]? = _
  rw [List.getElem?_insertIdx, List.length_eraseIdx_of_lt (show j < X.length by omega), ← jX_get (X := X) (j := j) (by omega)]
  simp only [List.getElem?_eraseIdx]
  repeat' split
  all_goals first | rfl | (exfalso; omega) | (congr 1; omega)
theorem rotX_len {X : List (Nat × jF)} {j k : Nat} (hj : j < k) (hk : k ≤ X.length) : (rotX X j k).length = X.length := (rotX_perm hj hk).length_eq.symm
theorem rotX_lrf {X : List (Nat × jF)} {j k : Nat} (hj : j < k) (hk : k ≤ X.length) : va_up (rshift j (k - 1 - j) (lrf X)) (k - 1) (some (jAd X j)) = lrf (rotX X j k) := by
  funext i
  unfold va_up rshift lrf
  rw [rotX_get hj hk]
  by_cases h1 : i = k - 1
  · subst h1
    rw [if_pos rfl, if_neg (by omega), if_neg (by omega), if_pos (by omega), jX_get (by omega)]
    rfl
  · rw [if_neg h1]
    by_cases h2 : j ≤ i ∧ i < j + (k - 1 - j)
    · rw [if_pos h2, if_neg (by omega), if_pos (by omega)]
    · rw [if_neg h2]
      by_cases h3 : i < j
      · rw [if_pos h3]
      · rw [if_neg h3, if_neg (by omega), if_neg (by omega)]
theorem jpredI {j t : Nat} {x : Int32} (h : x = nI (j + t + 1)) : x - 1 = nI (j + t) := by rw [h]; exact nI_pred _
/-- which kind of lamp is put in place of another -/
def lipo (A : Nat → jF) (x : Int32) : Int32 := if ¬ stockOf A x ≤ 0 then x else if ¬ stockOf A 2 ≤ 0 then (if widthOf 2 < widthOf x then -9 else 2) else if ¬ stockOf A 1 ≤ 0 then (if widthOf 1 < widthOf x then -9 else 1) else if ¬ stockOf A 0 ≤ 0 then (if widthOf 0 < widthOf x then -9 else 0) else -9
def plStep (x : Int32) (X : List (Nat × jF)) (j : Nat) (s : (Nat → jF) × Int32) : (Nat → jF) × Int32 := if x ≤ jL X j 7 then s else if lipo s.1 (jL X j 3) = -9 then s else (stockTo s.1 (lipo s.1 (jL X j 3)) (-1), s.2 + 1)
def plL (x : Int32) (A : Nat → jF) (L : jF) : jF := if x ≤ L 7 then L else if lipo A (L 3) = -9 then L else putL L (lipo A (L 3))
def burnsP (x : Int32) (j : Nat) : Prop := (x >>> (nI j &&& 31)) &&& 1 = 1
def bF (x : Int32) (j : Nat) (L : jF) : jF := if ¬ (x >>> (nI j &&& 31)) &&& 1 = 1 then L else burnL L
def bStep (x : Int32) (X : List (Nat × jF)) (j : Nat) (s : Int32 × Int32) : Int32 × Int32 := if ¬ (x >>> (nI j &&& 31)) &&& 1 = 1 then s else if burnMin (jL X j) = rated (jL X j 2) then (s.1 + 1, s.2) else (s.1, s.2 + 1)
theorem plStep_a {x : Int32} {X : List (Nat × jF)} {j : Nat} {s : (Nat → jF) × Int32} (h : x ≤ jL X j 7) : plStep x X j s = s := if_pos h
theorem plStep_b {x : Int32} {X : List (Nat × jF)} {j : Nat} {s : (Nat → jF) × Int32} (h : ¬ x ≤ jL X j 7) (h2 : lipo s.1 (jL X j 3) = -9) : plStep x X j s = s := (if_neg h).trans (if_pos h2)
theorem plStep_c {x : Int32} {X : List (Nat × jF)} {j : Nat} {s : (Nat → jF) × Int32} (h : ¬ x ≤ jL X j 7) (h2 : ¬ lipo s.1 (jL X j 3) = -9) : plStep x X j s = (stockTo s.1 (lipo s.1 (jL X j 3)) (-1), s.2 + 1) := (if_neg h).trans (if_neg h2)
theorem plL_a {x : Int32} {A : Nat → jF} {L : jF} (h : x ≤ L 7) : plL x A L = L := if_pos h
theorem plL_b {x : Int32} {A : Nat → jF} {L : jF} (h : ¬ x ≤ L 7) (h2 : lipo A (L 3) = -9) : plL x A L = L := (if_neg h).trans (if_pos h2)
theorem plL_c {x : Int32} {A : Nat → jF} {L : jF} (h : ¬ x ≤ L 7) (h2 : ¬ lipo A (L 3) = -9) : plL x A L = putL L (lipo A (L 3)) := (if_neg h).trans (if_neg h2)
theorem bStep_a {x : Int32} {X : List (Nat × jF)} {j : Nat} {s : Int32 × Int32} (h : ¬ (x >>> (nI j &&& 31)) &&& 1 = 1) : bStep x X j s = s := if_pos h
theorem bStep_b {x : Int32} {X : List (Nat × jF)} {j : Nat} {s : Int32 × Int32} (h : (x >>> (nI j &&& 31)) &&& 1 = 1) (h2 : burnMin (jL X j) = rated (jL X j 2)) : bStep x X j s = (s.1 + 1, s.2) := (if_neg (fun q => q h)).trans (if_pos h2)
theorem bStep_c {x : Int32} {X : List (Nat × jF)} {j : Nat} {s : Int32 × Int32} (h : (x >>> (nI j &&& 31)) &&& 1 = 1) (h2 : ¬ burnMin (jL X j) = rated (jL X j 2)) : bStep x X j s = (s.1, s.2 + 1) := (if_neg (fun q => q h)).trans (if_neg h2)
theorem bF_a {x : Int32} {j : Nat} {L : jF} (h : ¬ (x >>> (nI j &&& 31)) &&& 1 = 1) : bF x j L = L := if_pos h
theorem bF_b {x : Int32} {j : Nat} {L : jF} (h : (x >>> (nI j &&& 31)) &&& 1 = 1) : bF x j L = burnL L := if_neg (fun q => q h)
/-- an hour's number is a thousand's -/
def agesP (h : Int32) : Prop := h - h / 1000 * 1000 = 0
def strL (h : Int32) (x : Int32) (L : jF) : jF := if ¬ h - h / 1000 * 1000 = 0 then hoursL L x else ageL (hoursL L x) 1
/-- the stretches behind the first one -/
def lhp : Nat → Int32 → Int32 → jF → jF
  | 0, _, _, L => L
  | f + 1, left, h, L => if left ≤ 0 then L else lhp f (left + -1000) (h + jmin left 1000) (strL (h + jmin left 1000) (jmin left 1000) L)
set_option maxHeartbeats 1000000 in
set_option maxRecDepth 100000 in
theorem c_X0_grow (g : jG) (d : Nat → Nat) (I : jF) (A : Nat → jF) (X : List (Nat × jF)) (k : Nat) (h : bok I X k) (hk : k < 10) : Con g yX0_grow cX0_grow 2 (some (.object "EscapeLights$Light")) 2 36 1 9 [.ref (d 0)] [bc g d I A (lrf X), lts X] (fun r b => ∃ Y, r = some (.ref (jAd Y k)) ∧ b = [bc g d (upd I 1 (I 1 + 1)) A (lrf Y), lts Y] ∧ grown X k Y) := by
  refine Con.of (own := RX0) (lv := [(0, .ref (d 0))]) (by decide) rfl (Nat.le_of_ble_eq_true rfl) rfl ?_
  intro E hC hQ hN
  obtain ⟨hk1, hk2, hk3⟩ := id h
  have hn0 : ¬ I 1 < 0 := by rw [hk1, ← nI_0, nI_ltI (by omega) (by omega)]; omega
  have hn1 : I 1 < 10 := by rw [hk1]; exact (nI_ltI (b := 10) (by omega) (by omega)).mpr hk
  refine j_aload_n hC dX0_grow_0 rfl rfl ?_
  refine j_get hC uX0 0 0 1 rfl rfl k49 rfl dX0_grow_1 ?_
  refine j_if_lt hC dX0_grow_4 (tgt := 16) (by decide) (fun c_4 => ?_) (fun c_4 => ?_)
  · exact absurd c_4 hn0
  · skip
    refine j_aload_n hC dX0_grow_7 rfl rfl ?_
    refine j_get hC uX0 0 0 1 rfl rfl k49 rfl dX0_grow_8 ?_
    refine j_bipush hC (10) dX0_grow_11 (by decide) ?_
    refine j_icmp_lt hC dX0_grow_13 (tgt := 18) (by decide) (fun c_13 => ?_) (fun c_13 => ?_)
    · skip
      refine j_aload_n hC dX0_grow_18 rfl rfl ?_
      refine j_get hC uX0 0 0 0 rfl rfl k48 rfl dX0_grow_19 ?_
      refine j_aload_n hC dX0_grow_22 rfl rfl ?_
      refine j_get hC uX0 0 0 1 rfl rfl k49 rfl dX0_grow_23 ?_
      refine j_aald hC 4 0 1 rfl rfl (vp_k h hk) dX0_grow_26 ?_
      by_cases hkX : k < X.length
      · skip
        rw [grow_some h hkX]
        refine j_astore_n hC dX0_grow_27 rfl rfl rfl rfl ?_
        refine j_aload_n hC dX0_grow_28 rfl rfl ?_
        refine j_ifnonnull hC dX0_grow_29 (tgt := 50) (by decide) ?_
        refine j_aload_n hC dX0_grow_50 rfl rfl ?_
        refine j_dup hC dX0_grow_51 rfl ?_
        refine j_get hC uX0 0 0 1 rfl rfl k49 rfl dX0_grow_52 ?_
        refine j_iconst hC (1) dX0_grow_55 (by decide) ?_
        refine j_iadd hC dX0_grow_56 ?_
        refine j_put_0_1 (bi := 0) hC rfl k49 dX0_grow_57 ?_
        dsimp only [List.set]
        refine j_aload_n hC dX0_grow_60 rfl rfl ?_
        refine j_aret hC hQ rfl (by first | exact Or.inl rfl | exact Or.inr ⟨_, rfl⟩) (Nat.le_of_ble_eq_true rfl) (Nat.le_of_ble_eq_true rfl) dX0_grow_61 rfl ?_
        first | exact ⟨X, rfl, rfl, hkX, hk3, Nat.le_refl _, fun _ _ => rfl⟩ | exact ⟨X ++ [(q, fun _ => 0)], by unfold jAd; simp, rfl, by simp, by simp; omega, by simp, fun j hj => by rw [List.getElem?_append_left (by omega)]⟩
      · skip
        rw [grow_none h hkX]
        obtain rfl : X.length = k := by omega
        refine j_astore_nN hC dX0_grow_27 rfl rfl rfl rfl ?_
        refine j_aload_nN hC dX0_grow_28 rfl rfl ?_
        refine j_ifnonnullN hC dX0_grow_29 ?_
        refine j_new hC uX2 (fs := lf (fun _ => 0)) dft2 k46 k248 k13 (Nat.le_of_ble_eq_true rfl) (Nat.le_of_ble_eq_true rfl) dX0_grow_32 (fun q => ?_)
        dsimp only [List.cons_append, List.nil_append]
        refine j_dup hC dX0_grow_35 rfl ?_
        refine j_callINR hC [2] (c_X2_init g _ _) mX2_init k249 rfl rfl rfl ⟨(Nat.le_of_ble_eq_true rfl), (Nat.le_of_ble_eq_true rfl)⟩ (Nat.le_of_ble_eq_true rfl) ⟨(Nat.le_of_ble_eq_true rfl), (Nat.le_of_ble_eq_true rfl)⟩ dX0_grow_36 ?_
        dsimp only [jrepl, List.set, jstk]
        refine j_astore_n hC dX0_grow_39 rfl rfl rfl rfl ?_
        refine j_aload_n hC dX0_grow_40 rfl rfl ?_
        refine j_get hC uX0 0 0 0 rfl rfl k48 rfl dX0_grow_41 ?_
        refine j_aload_n hC dX0_grow_44 rfl rfl ?_
        refine j_get hC uX0 0 0 1 rfl rfl k49 rfl dX0_grow_45 ?_
        refine j_aload_n hC dX0_grow_48 rfl rfl ?_
        refine j_aast_0 (bi := 0) hC rfl (jat_flat (bl := [bc g d I A (lrf X), lts X, lb q (fun _ => 0)]) (bi := 2) (bj := 0) rfl) (vp_k h hk) dX0_grow_49 ?_
        dsimp only [List.set]
        rw [show (I 1).toNatClampNeg = X.length by rw [hk1]; exact nI_cl (by omega), lrf_push (L := fun _ => 0)]
        refine j_eqfl [bc g d I A (lrf (X ++ [(q, fun _ => 0)])), lts (X ++ [(q, fun _ => 0)])] (by rw [lts_push]; simp) ?_
        refine j_aload_n hC dX0_grow_50 rfl rfl ?_
        refine j_dup hC dX0_grow_51 rfl ?_
        refine j_get hC uX0 0 0 1 rfl rfl k49 rfl dX0_grow_52 ?_
        refine j_iconst hC (1) dX0_grow_55 (by decide) ?_
        refine j_iadd hC dX0_grow_56 ?_
        refine j_put_0_1 (bi := 0) hC rfl k49 dX0_grow_57 ?_
        dsimp only [List.set]
        refine j_aload_n hC dX0_grow_60 rfl rfl ?_
        refine j_aret hC hQ rfl (by first | exact Or.inl rfl | exact Or.inr ⟨_, rfl⟩) (Nat.le_of_ble_eq_true rfl) (Nat.le_of_ble_eq_true rfl) dX0_grow_61 rfl ?_
        first | exact ⟨X, rfl, rfl, hkX, hk3, Nat.le_refl _, fun _ _ => rfl⟩ | exact ⟨X ++ [(q, fun _ => 0)], by unfold jAd; simp, rfl, by simp, by simp; omega, by simp, fun j hj => by rw [List.getElem?_append_left (by omega)]⟩
    · exact absurd hn1 c_13
set_option maxHeartbeats 1000000 in
set_option maxRecDepth 100000 in
theorem c_X0_appendRoute (g : jG) (d : Nat → Nat) (I : jF) (A : Nat → jF) (r : Nat → Option Nat) (x y : Int32) (h1 : ¬ I 4 < 0) (h2 : ¬ 6 ≤ I 4) : Con g yX0_appendRoute cX0_appendRoute 3 none 0 0 0 0 [.ref (d 0), .int x, .int y] [bc g d I A r] (jR (none) [bc g d (upd I 4 (I 4 + 1)) (appA A (I 4).toNatClampNeg x y) r]) := by
  refine Con.of (own := RX0) (lv := [(0, .ref (d 0)), (1, .int x), (2, .int y)]) (by decide) rfl (Nat.le_of_ble_eq_true rfl) rfl ?_
  intro E hC hQ hN
  refine j_aload_n hC dX0_appendRoute_0 rfl rfl ?_
  refine j_get hC uX0 0 0 4 rfl rfl k55 rfl dX0_appendRoute_1 ?_
  refine j_if_lt hC dX0_appendRoute_4 (tgt := 46) (by decide) (fun c_4 => ?_) (fun c_4 => ?_)
  · exact absurd c_4 h1
  · skip
    refine j_aload_n hC dX0_appendRoute_7 rfl rfl ?_
    refine j_get hC uX0 0 0 4 rfl rfl k55 rfl dX0_appendRoute_8 ?_
    refine j_bipush hC (6) dX0_appendRoute_11 (by decide) ?_
    refine j_icmp_ge hC dX0_appendRoute_13 (tgt := 46) (by decide) (fun c_13 => ?_) (fun c_13 => ?_)
    · exact absurd c_13 h2
    · skip
      refine j_aload_n hC dX0_appendRoute_16 rfl rfl ?_
      refine j_get hC uX0 0 0 2 rfl rfl k53 rfl dX0_appendRoute_17 ?_
      refine j_aload_n hC dX0_appendRoute_20 rfl rfl ?_
      refine j_get hC uX0 0 0 4 rfl rfl k55 rfl dX0_appendRoute_21 ?_
      refine j_iload_n hC dX0_appendRoute_24 rfl rfl ?_
      refine j_ast_0_0 (bi := 0) hC rfl (jin h1 h2 (by decide)) dX0_appendRoute_25 ?_
      dsimp only [List.set]
      refine j_aload_n hC dX0_appendRoute_26 rfl rfl ?_
      refine j_get hC uX0 0 0 3 rfl rfl k54 rfl dX0_appendRoute_27 ?_
      refine j_aload_n hC dX0_appendRoute_30 rfl rfl ?_
      refine j_get hC uX0 0 0 4 rfl rfl k55 rfl dX0_appendRoute_31 ?_
      refine j_iload_n hC dX0_appendRoute_34 rfl rfl ?_
      refine j_ast_0_1 (bi := 0) hC rfl (jin h1 h2 (by decide)) dX0_appendRoute_35 ?_
      dsimp only [List.set]
      refine j_aload_n hC dX0_appendRoute_36 rfl rfl ?_
      refine j_dup hC dX0_appendRoute_37 rfl ?_
      refine j_get hC uX0 0 0 4 rfl rfl k55 rfl dX0_appendRoute_38 ?_
      refine j_iconst hC (1) dX0_appendRoute_41 (by decide) ?_
      refine j_iadd hC dX0_appendRoute_42 ?_
      refine j_put_0_4 (bi := 0) hC rfl k55 dX0_appendRoute_43 ?_
      dsimp only [List.set]
      refine j_vret hC hQ rfl (Nat.le_of_ble_eq_true rfl) (Nat.le_of_ble_eq_true rfl) dX0_appendRoute_46 rfl ⟨?_, ?_⟩
      · rfl
      · rfl
set_option maxHeartbeats 1000000 in
set_option maxRecDepth 100000 in
theorem c_X0_burn (g : jG) (d : Nat → Nat) (I : jF) (A : Nat → jF) (X : List (Nat × jF)) (k : Nat) (x : Int32) (h : bok I X k) : Con g yX0_burn cX0_burn 4 none 5 102 0 0 [.ref (d 0), .int x] [bc g d I A (lrf X), lts X] (fun r b => r = none ∧ ∃ I1 : jF, b = [bc g d I1 A (lrf (lmap (lpre k (bF x)) X)), lts (lmap (lpre k (bF x)) X)] ∧ (I1 8, I1 9) = jiter (bStep x X) (I 8, I 9) k ∧ ∀ f, f ≠ 8 → f ≠ 9 → I1 f = I f) := by
  refine Con.of (own := RX0) (lv := [(0, .ref (d 0)), (1, .int x)]) (by decide) rfl (Nat.le_of_ble_eq_true rfl) rfl ?_
  intro E hC hQ hN
  obtain ⟨hk1, hk2, hk3⟩ := id h
  refine j_iconst hC (0) dX0_burn_0 (by decide) ?_
  refine j_istore_n hC dX0_burn_1 rfl rfl rfl rfl (fun v_1 e_1 => ?_)
  have L_2 : ∀ (fu : Nat) (i : Nat) (x2 : Int32) (I1 : jF) (hfu : k + 1 ≤ i + fu) (hi : i ≤ k) (h2 : x2 = nI i) (h1 : (I1 8, I1 9) = jiter (bStep x X) (I 8, I 9) i) (hI : ∀ f, f ≠ 8 → f ≠ 9 → I1 f = I f), J g (jRm 5 102 0 0) E 4 2 [(0, .ref (d 0)), (1, .int x), (2, .int x2)] [] [bc g d I1 A (lrf X), lts (lmap (lpre i (bF x)) X)] (0) (0) := by
    intro fu
    induction fu with
    | zero => intro i x2 I1 hfu hi h2 h1 hI; exact absurd hfu (by omega)
    | succ fu ih_2 =>
      intro i x2 I1 hfu hi h2 h1 hI
      have hb1 : bok I1 X k := ⟨(hI 1 (by decide) (by decide)).trans hk1, hk2, hk3⟩
      have hk4 := hb1.1
      refine j_iload_n hC dX0_burn_2 rfl rfl ?_
      refine j_aload_n hC dX0_burn_3 rfl rfl ?_
      refine j_get hC uX0 0 0 1 rfl rfl k49 rfl dX0_burn_4 ?_
      refine j_icmp_ge hC dX0_burn_7 (tgt := 65) (by decide) (fun c_7 => ?_) (fun c_7 => ?_)
      · skip
        have hik : i = k := Nat.le_antisymm hi (jge hk4 h2 (by omega) (by omega) c_7)
        subst hik
        refine j_vret hC hQ rfl (Nat.le_of_ble_eq_true rfl) (Nat.le_of_ble_eq_true rfl) dX0_burn_65 rfl ?_
        exact ⟨rfl, I1, by rw [lrf_lmap], h1, hI⟩
      · skip
        have hik : i < k := jlt hk4 h2 (by omega) (by omega) c_7
        refine j_aload_n hC dX0_burn_10 rfl rfl ?_
        refine j_iload_n hC dX0_burn_11 rfl rfl ?_
        refine j_callVR hC [0] (c_X0_find_in g _ _ _ _ _ _ _ hb1 hik h2) mX0_find k243 rfl rfl rfl rfl rfl ⟨(Nat.le_of_ble_eq_true rfl), (Nat.le_of_ble_eq_true rfl)⟩ (Nat.le_of_ble_eq_true rfl) ⟨(Nat.le_of_ble_eq_true rfl), (Nat.le_of_ble_eq_true rfl)⟩ dX0_burn_12 ?_
        dsimp only [jrepl, List.set, jstk]
        refine j_focus i 1 (lmap_cur (f := (bF x)) (X := X) (i := i) (by omega)) rfl ?_
        dsimp only [List.set, List.cons_append, List.nil_append]
        refine j_astore_n hC dX0_burn_15 rfl rfl rfl rfl ?_
        refine j_aload_n hC dX0_burn_16 rfl rfl ?_
        refine j_ifnull hC dX0_burn_17 ?_
        refine j_iload_n hC dX0_burn_20 rfl rfl ?_
        refine j_iload_n hC dX0_burn_21 rfl rfl ?_
        refine j_ishr hC dX0_burn_22 ?_
        refine j_iconst hC (1) dX0_burn_23 (by decide) ?_
        refine j_iand hC dX0_burn_24 ?_
        refine j_iconst hC (1) dX0_burn_25 (by decide) ?_
        refine j_icmp_ne hC dX0_burn_26 (tgt := 59) (by decide) (fun c_26 => ?_) (fun c_26 => ?_)
        · skip
          refine j_iinc hC (1) dX0_burn_59 rfl rfl rfl rfl rfl (fun v_59 e_59 => ?_)
          refine j_goto hC dX0_burn_62 (tgt := 2) (by decide) ?_
          refine j_pick [0, 1, 2] ?_
          refine j_unfocus i 1 (lmap_cur (f := (bF x)) (X := X) (i := i) (by omega)) rfl rfl rfl ?_
          dsimp only [List.set, List.dropLast]
          have hs := show jiter (bStep x X) (I 8, I 9) (i + 1) = bStep x X i (jiter (bStep x X) (I 8, I 9) i) from rfl
          rw [← h1] at hs
          have hcc := c_26
          rw [h2] at hcc
          first | rw [bStep_a hcc] at hs | rw [bStep_b hcc (jb1 c_33)] at hs | rw [bStep_c hcc (jb0 c_33)] at hs
          first | rw [lmap_next (by omega) (bF_a hcc).symm] | rw [lmap_next (by omega) (bF_b hcc).symm]
          exact ih_2 (i + 1) _ _ (by omega) (by omega) (jsucc e_59 h2) hs.symm (by first | exact hI | (intro f q1 q2; show (if f = 8 then _ else I1 f) = I f; rw [if_neg q1]; exact hI f q1 q2) | (intro f q1 q2; show (if f = 9 then _ else I1 f) = I f; rw [if_neg q2]; exact hI f q1 q2))
        · skip
          refine j_aload_n hC dX0_burn_29 rfl rfl ?_
          refine j_callVR hC [2] (c_X2_burn g _ _) mX2_burn k304 rfl rfl rfl rfl rfl ⟨(Nat.le_of_ble_eq_true rfl), (Nat.le_of_ble_eq_true rfl)⟩ (Nat.le_of_ble_eq_true rfl) ⟨(Nat.le_of_ble_eq_true rfl), (Nat.le_of_ble_eq_true rfl)⟩ dX0_burn_30 ?_
          dsimp only [jrepl, List.set, jstk]
          refine j_if_eq hC dX0_burn_33 (tgt := 49) (by decide) (fun c_33 => ?_) (fun c_33 => ?_)
          · skip
            refine j_aload_n hC dX0_burn_49 rfl rfl ?_
            refine j_dup hC dX0_burn_50 rfl ?_
            refine j_get hC uX0 0 0 9 rfl rfl k66 rfl dX0_burn_51 ?_
            refine j_iconst hC (1) dX0_burn_54 (by decide) ?_
            refine j_iadd hC dX0_burn_55 ?_
            refine j_put_0_9 (bi := 0) hC rfl k66 dX0_burn_56 ?_
            dsimp only [List.set]
            refine j_iinc hC (1) dX0_burn_59 rfl rfl rfl rfl rfl (fun v_59 e_59 => ?_)
            refine j_goto hC dX0_burn_62 (tgt := 2) (by decide) ?_
            refine j_pick [0, 1, 2] ?_
            refine j_unfocus i 1 (lmap_cur (f := (bF x)) (X := X) (i := i) (by omega)) rfl rfl rfl ?_
            dsimp only [List.set, List.dropLast]
            have hs := show jiter (bStep x X) (I 8, I 9) (i + 1) = bStep x X i (jiter (bStep x X) (I 8, I 9) i) from rfl
            rw [← h1] at hs
            have hcc := c_26
            rw [h2] at hcc
            first | rw [bStep_a hcc] at hs | rw [bStep_b hcc (jb1 c_33)] at hs | rw [bStep_c hcc (jb0 c_33)] at hs
            first | rw [lmap_next (by omega) (bF_a hcc).symm] | rw [lmap_next (by omega) (bF_b hcc).symm]
            exact ih_2 (i + 1) _ _ (by omega) (by omega) (jsucc e_59 h2) hs.symm (by first | exact hI | (intro f q1 q2; show (if f = 8 then _ else I1 f) = I f; rw [if_neg q1]; exact hI f q1 q2) | (intro f q1 q2; show (if f = 9 then _ else I1 f) = I f; rw [if_neg q2]; exact hI f q1 q2))
          · skip
            refine j_aload_n hC dX0_burn_36 rfl rfl ?_
            refine j_dup hC dX0_burn_37 rfl ?_
            refine j_get hC uX0 0 0 8 rfl rfl k64 rfl dX0_burn_38 ?_
            refine j_iconst hC (1) dX0_burn_41 (by decide) ?_
            refine j_iadd hC dX0_burn_42 ?_
            refine j_put_0_8 (bi := 0) hC rfl k64 dX0_burn_43 ?_
            dsimp only [List.set]
            refine j_goto hC dX0_burn_46 (tgt := 59) (by decide) ?_
            refine j_iinc hC (1) dX0_burn_59 rfl rfl rfl rfl rfl (fun v_59 e_59 => ?_)
            refine j_goto hC dX0_burn_62 (tgt := 2) (by decide) ?_
            refine j_pick [0, 1, 2] ?_
            refine j_unfocus i 1 (lmap_cur (f := (bF x)) (X := X) (i := i) (by omega)) rfl rfl rfl ?_
            dsimp only [List.set, List.dropLast]
            have hs := show jiter (bStep x X) (I 8, I 9) (i + 1) = bStep x X i (jiter (bStep x X) (I 8, I 9) i) from rfl
            rw [← h1] at hs
            have hcc := c_26
            rw [h2] at hcc
            first | rw [bStep_a hcc] at hs | rw [bStep_b hcc (jb1 c_33)] at hs | rw [bStep_c hcc (jb0 c_33)] at hs
            first | rw [lmap_next (by omega) (bF_a hcc).symm] | rw [lmap_next (by omega) (bF_b hcc).symm]
            exact ih_2 (i + 1) _ _ (by omega) (by omega) (jsucc e_59 h2) hs.symm (by first | exact hI | (intro f q1 q2; show (if f = 8 then _ else I1 f) = I f; rw [if_neg q1]; exact hI f q1 q2) | (intro f q1 q2; show (if f = 9 then _ else I1 f) = I f; rw [if_neg q2]; exact hI f q1 q2))
  refine j_pick [0, 1, 2] ?_
  rw [show lts X = lts (lmap (lpre 0 (bF x)) X) by rw [lmap_0]]
  exact L_2 (k + 1) 0 _ I (by omega) (by omega) (e_1.trans nI_0.symm) rfl (fun _ _ _ => rfl)
