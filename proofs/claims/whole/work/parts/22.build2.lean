/-! the class's buildings, second half: what changes them -/
def appA (A : Nat → jF) (n : Nat) (x y : Int32) : Nat → jF := va_up (va_up A 0 (upd (A 0) n x)) 1 (upd (A 1) n y)
def rmA (k : Nat) (A : Nat → jF) : Nat → jF := va_up (va_up A 0 (upd (A 0) k (A 0 (k + 1)))) 1 (upd (A 1) k (A 1 (k + 1)))
def grown (X : List (Nat × jF)) (k : Nat) (Y : List (Nat × jF)) : Prop := k < Y.length ∧ Y.length ≤ 10 ∧ X.length ≤ Y.length ∧ ∀ j, j < k → Y[j]? = X[j]?
theorem grow_some {I : jF} {X : List (Nat × jF)} {k : Nat} (h : bok I X k) (hk : k < X.length) : va_rf (lrf X (I 1).toNatClampNeg) = .ref (jAd X k) := by
  rw [h.1, nI_cl (by have := h.2; omega), lrf_get hk]
  rfl
theorem grow_none {I : jF} {X : List (Nat × jF)} {k : Nat} (h : bok I X k) (hk : ¬ k < X.length) : va_rf (lrf X (I 1).toNatClampNeg) = .null := by
  rw [h.1, nI_cl (by have := h.2; omega)]
  unfold lrf
  rw [List.getElem?_eq_none (by omega)]
  rfl
theorem lrf_push {X : List (Nat × jF)} {q : Nat} {L : jF} : va_up (lrf X) X.length (some q) = lrf (X ++ [(q, L)]) := by
  funext i
  unfold va_up lrf
  by_cases h : i = X.length
  · subst h
    rw [if_pos rfl, List.getElem?_append_right (Nat.le_refl _)]
    simp
  · rw [if_neg h]
    rcases Nat.lt_or_ge i X.length with h2 | h2
    · rw [List.getElem?_append_left h2]
    · rw [List.getElem?_eq_none h2, List.getElem?_eq_none (by simp; omega)]
theorem lts_push {X : List (Nat × jF)} {q : Nat} {L : jF} : lts (X ++ [(q, L)]) = lts X ++ lb q L := by simp [lts, lb]
theorem vp_k {I : jF} {X : List (Nat × jF)} {k : Nat} (h : bok I X k) (hk : k < 10) : vp_in (I 1) 10 := by
  rw [h.1]
  exact vp_in_nI hk (by decide)
/-- the refs of a row whose light j is taken out, when t of those behind it have moved -/
def rshift (j t : Nat) (r : Nat → Option Nat) : Nat → Option Nat := fun i => if j ≤ i ∧ i < j + t then r (i + 1) else r i
theorem rshift_step {j t : Nat} {r : Nat → Option Nat} {a : Nat} (h : r (j + t + 1) = some a) : va_up (rshift j t r) (j + t) (some a) = rshift j (t + 1) r := by
  funext i
  unfold va_up rshift
  by_cases h1 : i = j + t
  · subst h1
    rw [if_pos rfl, if_pos (by omega), h]
  · rw [if_neg h1]
    by_cases h2 : j ≤ i ∧ i < j + t
    · rw [if_pos h2, if_pos (by omega)]
    · rw [if_neg h2, if_neg (by omega)]
def rotX (X : List (Nat × jF)) (j k : Nat) : List (Nat × jF) := match X[j]? with
  | some q => (X.eraseIdx j).insertIdx (k - 1) q
  | none => X
theorem rotX_perm {X : List (Nat × jF)} {j k : Nat} (hj : j < k) (hk : k ≤ X.length) : X.Perm (rotX X j k) := by
  unfold rotX
  rw [jX_get (X := X) (j := j) (by omega)]
  refine (jerase (jX_get (X := X) (j := j) (by omega))).trans ?_
  exact (List.perm_insertIdx _ _ (by rw [List.length_eraseIdx_of_lt (show j < X.length by omega)]; omega)).symm
theorem rotX_get {X : List (Nat × jF)} {j k i : Nat} (hj : j < k) (hk : k ≤ X.length) : (rotX X j k)[i]? = if i < j then X[i]? else if i + 1 < k then X[i + 1]? else if i + 1 = k then X[j]? else X[i]? := by
  unfold rotX
  rw [jX_get (X := X) (j := j) (by omega)]
  show ((X.eraseIdx j).insertIdx (k - 1) (jAd X j, jL X j))[i]? = _
  rw [List.getElem?_insertIdx, List.length_eraseIdx_of_lt (show j < X.length by omega), ← jX_get (X := X) (j := j) (by omega)]
  simp only [List.getElem?_eraseIdx]
  repeat' split
  all_goals first | rfl | (exfalso; omega) | (congr 1; omega)
theorem rotX_len {X : List (Nat × jF)} {j k : Nat} (hj : j < k) (hk : k ≤ X.length) : (rotX X j k).length = X.length := (rotX_perm hj hk).length_eq.symm
theorem rotX_lrf {X : List (Nat × jF)} {j k : Nat} (hj : j < k) (hk : k ≤ X.length) : va_up (rshift j (k - 1 - j) (lrf X)) (k - 1) (some (jAd X j)) = lrf (rotX X j k) := by
  funext i
  unfold va_up rshift lrf
  rw [rotX_get hj hk]
  by_cases h1 : i = k - 1
  · subst h1
    rw [if_pos rfl, if_neg (by omega), if_neg (by omega), if_pos (by omega), jX_get (by omega)]
    rfl
  · rw [if_neg h1]
    by_cases h2 : j ≤ i ∧ i < j + (k - 1 - j)
    · rw [if_pos h2, if_neg (by omega), if_pos (by omega)]
    · rw [if_neg h2]
      by_cases h3 : i < j
      · rw [if_pos h3]
      · rw [if_neg h3, if_neg (by omega), if_neg (by omega)]
theorem jpredI {j t : Nat} {x : Int32} (h : x = nI (j + t + 1)) : x - 1 = nI (j + t) := by rw [h]; exact nI_pred _
/-- which kind of lamp is put in place of another -/
def lipo (A : Nat → jF) (x : Int32) : Int32 := if ¬ stockOf A x ≤ 0 then x else if ¬ stockOf A 2 ≤ 0 then (if widthOf 2 < widthOf x then -9 else 2) else if ¬ stockOf A 1 ≤ 0 then (if widthOf 1 < widthOf x then -9 else 1) else if ¬ stockOf A 0 ≤ 0 then (if widthOf 0 < widthOf x then -9 else 0) else -9
def plStep (x : Int32) (X : List (Nat × jF)) (j : Nat) (s : (Nat → jF) × Int32) : (Nat → jF) × Int32 := if x ≤ jL X j 7 then s else if lipo s.1 (jL X j 3) = -9 then s else (stockTo s.1 (lipo s.1 (jL X j 3)) (-1), s.2 + 1)
def plL (x : Int32) (A : Nat → jF) (L : jF) : jF := if x ≤ L 7 then L else if lipo A (L 3) = -9 then L else putL L (lipo A (L 3))
def burnsP (x : Int32) (j : Nat) : Prop := (x >>> (nI j &&& 31)) &&& 1 = 1
def bF (x : Int32) (j : Nat) (L : jF) : jF := if ¬ (x >>> (nI j &&& 31)) &&& 1 = 1 then L else burnL L
def bStep (x : Int32) (X : List (Nat × jF)) (j : Nat) (s : Int32 × Int32) : Int32 × Int32 := if ¬ (x >>> (nI j &&& 31)) &&& 1 = 1 then s else if burnMin (jL X j) = rated (jL X j 2) then (s.1 + 1, s.2) else (s.1, s.2 + 1)
theorem plStep_a {x : Int32} {X : List (Nat × jF)} {j : Nat} {s : (Nat → jF) × Int32} (h : x ≤ jL X j 7) : plStep x X j s = s := if_pos h
theorem plStep_b {x : Int32} {X : List (Nat × jF)} {j : Nat} {s : (Nat → jF) × Int32} (h : ¬ x ≤ jL X j 7) (h2 : lipo s.1 (jL X j 3) = -9) : plStep x X j s = s := (if_neg h).trans (if_pos h2)
theorem plStep_c {x : Int32} {X : List (Nat × jF)} {j : Nat} {s : (Nat → jF) × Int32} (h : ¬ x ≤ jL X j 7) (h2 : ¬ lipo s.1 (jL X j 3) = -9) : plStep x X j s = (stockTo s.1 (lipo s.1 (jL X j 3)) (-1), s.2 + 1) := (if_neg h).trans (if_neg h2)
theorem plL_a {x : Int32} {A : Nat → jF} {L : jF} (h : x ≤ L 7) : plL x A L = L := if_pos h
theorem plL_b {x : Int32} {A : Nat → jF} {L : jF} (h : ¬ x ≤ L 7) (h2 : lipo A (L 3) = -9) : plL x A L = L := (if_neg h).trans (if_pos h2)
theorem plL_c {x : Int32} {A : Nat → jF} {L : jF} (h : ¬ x ≤ L 7) (h2 : ¬ lipo A (L 3) = -9) : plL x A L = putL L (lipo A (L 3)) := (if_neg h).trans (if_neg h2)
theorem bStep_a {x : Int32} {X : List (Nat × jF)} {j : Nat} {s : Int32 × Int32} (h : ¬ (x >>> (nI j &&& 31)) &&& 1 = 1) : bStep x X j s = s := if_pos h
theorem bStep_b {x : Int32} {X : List (Nat × jF)} {j : Nat} {s : Int32 × Int32} (h : (x >>> (nI j &&& 31)) &&& 1 = 1) (h2 : burnMin (jL X j) = rated (jL X j 2)) : bStep x X j s = (s.1 + 1, s.2) := (if_neg (fun q => q h)).trans (if_pos h2)
theorem bStep_c {x : Int32} {X : List (Nat × jF)} {j : Nat} {s : Int32 × Int32} (h : (x >>> (nI j &&& 31)) &&& 1 = 1) (h2 : ¬ burnMin (jL X j) = rated (jL X j 2)) : bStep x X j s = (s.1, s.2 + 1) := (if_neg (fun q => q h)).trans (if_neg h2)
theorem bF_a {x : Int32} {j : Nat} {L : jF} (h : ¬ (x >>> (nI j &&& 31)) &&& 1 = 1) : bF x j L = L := if_pos h
theorem bF_b {x : Int32} {j : Nat} {L : jF} (h : (x >>> (nI j &&& 31)) &&& 1 = 1) : bF x j L = burnL L := if_neg (fun q => q h)
/-- an hour's number is a thousand's -/
def agesP (h : Int32) : Prop := h - h / 1000 * 1000 = 0
def strL (h : Int32) (x : Int32) (L : jF) : jF := if ¬ h - h / 1000 * 1000 = 0 then hoursL L x else ageL (hoursL L x) 1
/-- the stretches behind the first one -/
def lhp : Nat → Int32 → Int32 → jF → jF
  | 0, _, _, L => L
  | f + 1, left, h, L => if left ≤ 0 then L else lhp f (left + -1000) (h + jmin left 1000) (strL (h + jmin left 1000) (jmin left 1000) L)
set_option maxHeartbeats 1000000 in
set_option maxRecDepth 100000 in
theorem c_X0_grow (g : jG) (d : Nat → Nat) (I : jF) (A : Nat → jF) (X : List (Nat × jF)) (k : Nat) (h : bok I X k) (hk : k < 10) : Con g yX0_grow cX0_grow 2 (some (.object "EscapeLights$Light")) 2 36 1 9 [.ref (d 0)] [bc g d I A (lrf X), lts X] (fun r b => ∃ Y, r = some (.ref (jAd Y k)) ∧ b = [bc g d (upd I 1 (I 1 + 1)) A (lrf Y), lts Y] ∧ grown X k Y) := by
  refine Con.of (own := RX0) (lv := [(0, .ref (d 0))]) (by decide) rfl (Nat.le_of_ble_eq_true rfl) rfl ?_
  intro E hC hQ hN
  obtain ⟨hk1, hk2, hk3⟩ := id h
  have hn0 : ¬ I 1 < 0 := by rw [hk1, ← nI_0, nI_ltI (by omega) (by omega)]; omega
  have hn1 : I 1 < 10 := by rw [hk1]; exact (nI_ltI (b := 10) (by omega) (by omega)).mpr hk
  refine j_aload_n hC dX0_grow_0 rfl rfl ?_
  refine j_get hC uX0 0 0 1 rfl rfl k95 rfl dX0_grow_1 ?_
  refine j_if_lt hC dX0_grow_4 (tgt := 16) (by decide) (fun c_4 => ?_) (fun c_4 => ?_)
  · exact absurd c_4 hn0
  · skip
    refine j_aload_n hC dX0_grow_7 rfl rfl ?_
    refine j_get hC uX0 0 0 1 rfl rfl k95 rfl dX0_grow_8 ?_
    refine j_bipush hC (10) dX0_grow_11 (by decide) ?_
    refine j_icmp_lt hC dX0_grow_13 (tgt := 18) (by decide) (fun c_13 => ?_) (fun c_13 => ?_)
    · skip
      refine j_aload_n hC dX0_grow_18 rfl rfl ?_
      refine j_get hC uX0 0 0 0 rfl rfl k94 rfl dX0_grow_19 ?_
      refine j_aload_n hC dX0_grow_22 rfl rfl ?_
      refine j_get hC uX0 0 0 1 rfl rfl k95 rfl dX0_grow_23 ?_
      refine j_aald hC 4 0 1 rfl rfl (vp_k h hk) dX0_grow_26 ?_
      by_cases hkX : k < X.length
      · skip
        rw [grow_some h hkX]
        refine j_astore_n hC dX0_grow_27 rfl rfl rfl rfl ?_
        refine j_aload_n hC dX0_grow_28 rfl rfl ?_
        refine j_ifnonnull hC dX0_grow_29 (tgt := 50) (by decide) ?_
        refine j_aload_n hC dX0_grow_50 rfl rfl ?_
        refine j_dup hC dX0_grow_51 rfl ?_
        refine j_get hC uX0 0 0 1 rfl rfl k95 rfl dX0_grow_52 ?_
        refine j_iconst hC (1) dX0_grow_55 (by decide) ?_
        refine j_iadd hC dX0_grow_56 ?_
        refine j_put_0_1 (bi := 0) hC rfl k95 dX0_grow_57 ?_
        dsimp only [List.set]
        refine j_aload_n hC dX0_grow_60 rfl rfl ?_
        refine j_aret hC hQ rfl (by first | exact Or.inl rfl | exact Or.inr ⟨_, rfl⟩) (Nat.le_of_ble_eq_true rfl) (Nat.le_of_ble_eq_true rfl) dX0_grow_61 rfl ?_
        first | exact ⟨X, rfl, rfl, hkX, hk3, Nat.le_refl _, fun _ _ => rfl⟩ | exact ⟨X ++ [(q, fun _ => 0)], by unfold jAd; simp, rfl, by simp, by simp; omega, by simp, fun j hj => by rw [List.getElem?_append_left (by omega)]⟩
      · skip
        rw [grow_none h hkX]
        obtain rfl : X.length = k := by omega
        refine j_astore_nN hC dX0_grow_27 rfl rfl rfl rfl ?_
        refine j_aload_nN hC dX0_grow_28 rfl rfl ?_
        refine j_ifnonnullN hC dX0_grow_29 ?_
        refine j_new hC uX2 (fs := lf (fun _ => 0)) dft2 k92 k257 k55 (Nat.le_of_ble_eq_true rfl) (Nat.le_of_ble_eq_true rfl) dX0_grow_32 (fun q => ?_)
        dsimp only [List.cons_append, List.nil_append]
        refine j_dup hC dX0_grow_35 rfl ?_
        refine j_callINR hC [2] (c_X2_init g _ _) mX2_init k258 rfl rfl rfl ⟨(Nat.le_of_ble_eq_true rfl), (Nat.le_of_ble_eq_true rfl)⟩ (Nat.le_of_ble_eq_true rfl) ⟨(Nat.le_of_ble_eq_true rfl), (Nat.le_of_ble_eq_true rfl)⟩ dX0_grow_36 ?_
        dsimp only [jrepl, List.set, jstk]
        refine j_astore_n hC dX0_grow_39 rfl rfl rfl rfl ?_
        refine j_aload_n hC dX0_grow_40 rfl rfl ?_
        refine j_get hC uX0 0 0 0 rfl rfl k94 rfl dX0_grow_41 ?_
        refine j_aload_n hC dX0_grow_44 rfl rfl ?_
        refine j_get hC uX0 0 0 1 rfl rfl k95 rfl dX0_grow_45 ?_
        refine j_aload_n hC dX0_grow_48 rfl rfl ?_
        refine j_aast_0 (bi := 0) hC rfl (jat_flat (bl := [bc g d I A (lrf X), lts X, lb q (fun _ => 0)]) (bi := 2) (bj := 0) rfl) (vp_k h hk) dX0_grow_49 ?_
        dsimp only [List.set]
        rw [show (I 1).toNatClampNeg = X.length by rw [hk1]; exact nI_cl (by omega), lrf_push (L := fun _ => 0)]
        refine j_eqfl [bc g d I A (lrf (X ++ [(q, fun _ => 0)])), lts (X ++ [(q, fun _ => 0)])] (by rw [lts_push]; simp) ?_
        refine j_aload_n hC dX0_grow_50 rfl rfl ?_
        refine j_dup hC dX0_grow_51 rfl ?_
        refine j_get hC uX0 0 0 1 rfl rfl k95 rfl dX0_grow_52 ?_
        refine j_iconst hC (1) dX0_grow_55 (by decide) ?_
        refine j_iadd hC dX0_grow_56 ?_
        refine j_put_0_1 (bi := 0) hC rfl k95 dX0_grow_57 ?_
        dsimp only [List.set]
        refine j_aload_n hC dX0_grow_60 rfl rfl ?_
        refine j_aret hC hQ rfl (by first | exact Or.inl rfl | exact Or.inr ⟨_, rfl⟩) (Nat.le_of_ble_eq_true rfl) (Nat.le_of_ble_eq_true rfl) dX0_grow_61 rfl ?_
        first | exact ⟨X, rfl, rfl, hkX, hk3, Nat.le_refl _, fun _ _ => rfl⟩ | exact ⟨X ++ [(q, fun _ => 0)], by unfold jAd; simp, rfl, by simp, by simp; omega, by simp, fun j hj => by rw [List.getElem?_append_left (by omega)]⟩
    · exact absurd hn1 c_13
set_option maxHeartbeats 1000000 in
set_option maxRecDepth 100000 in
theorem c_X0_removeLight (g : jG) (d : Nat → Nat) (I : jF) (A : Nat → jF) (X : List (Nat × jF)) (k : Nat) (j : Nat) (x : Int32) (h : bok I X k) (hj : j < k) (hx : x = nI j) : Con g yX0_removeLight cX0_removeLight 5 none 1 21 0 0 [.ref (d 0), .int x] [bc g d I A (lrf X), lts X] (jR (none) [bc g d (upd I 1 (I 1 - 1)) A (lrf (rotX X j k)), lts (rotX X j k)]) := by
  refine Con.of (own := RX0) (lv := [(0, .ref (d 0)), (1, .int x)]) (by decide) rfl (Nat.le_of_ble_eq_true rfl) rfl ?_
  intro E hC hQ hN
  obtain ⟨hk1, hk2, hk3⟩ := id h
  refine j_aload_n hC dX0_removeLight_0 rfl rfl ?_
  refine j_iload_n hC dX0_removeLight_1 rfl rfl ?_
  refine j_callVR hC [0] (c_X0_find_in g _ _ _ _ _ _ _ h hj hx) mX0_find k353 rfl rfl rfl rfl rfl ⟨(Nat.le_of_ble_eq_true rfl), (Nat.le_of_ble_eq_true rfl)⟩ (Nat.le_of_ble_eq_true rfl) ⟨(Nat.le_of_ble_eq_true rfl), (Nat.le_of_ble_eq_true rfl)⟩ dX0_removeLight_2 ?_
  dsimp only [jrepl, List.set, jstk]
  refine j_astore_n hC dX0_removeLight_5 rfl rfl rfl rfl ?_
  refine j_aload_n hC dX0_removeLight_6 rfl rfl ?_
  refine j_ifnonnull hC dX0_removeLight_7 (tgt := 11) (by decide) ?_
  refine j_iload_n hC dX0_removeLight_11 rfl rfl ?_
  refine j_istore_n hC dX0_removeLight_12 rfl rfl rfl rfl (fun v_12 e_12 => ?_)
  refine j_iload_n hC dX0_removeLight_13 rfl rfl ?_
  refine j_iconst hC (1) dX0_removeLight_14 (by decide) ?_
  refine j_iadd hC dX0_removeLight_15 ?_
  refine j_istore hC dX0_removeLight_16 rfl rfl rfl (fun v_16 e_16 => ?_)
  have L_18 : ∀ (fu : Nat) (t : Nat) (x3 x4 : Int32) (hfu : k + 1 ≤ j + t + 1 + fu) (ht : j + t + 1 ≤ k) (h3 : x3 = nI (j + t)) (h4 : x4 = nI (j + t + 1)), J g (jRm 1 21 0 0) E 5 18 [(0, .ref (d 0)), (2, .ref (jAd X j)), (3, .int x3), (4, .int x4)] [] [bc g d I A (rshift j t (lrf X)), lts X] (0) (0) := by
    intro fu
    induction fu with
    | zero => intro t x3 x4 hfu ht h3 h4; exact absurd hfu (by omega)
    | succ fu ih_18 =>
      intro t x3 x4 hfu ht h3 h4
      refine j_iload hC dX0_removeLight_18 rfl ?_
      refine j_aload_n hC dX0_removeLight_20 rfl rfl ?_
      refine j_get hC uX0 0 0 1 rfl rfl k95 rfl dX0_removeLight_21 ?_
      refine j_icmp_ge hC dX0_removeLight_24 (tgt := 59) (by decide) (fun c_24 => ?_) (fun c_24 => ?_)
      · skip
        have hik : j + t + 1 = k := by first | exact Nat.le_antisymm ht (jge hk1 h4 (by omega) (by omega) c_24) | exact absurd (jge (i := j + t + 1) (show (10 : Int32) = nI 10 from rfl) h4 (by omega) (by omega) c_31) (by have q2 := jlt hk1 h4 (by omega) (by omega) c_24; omega)
        refine j_aload_n hC dX0_removeLight_59 rfl rfl ?_
        refine j_get hC uX0 0 0 0 rfl rfl k94 rfl dX0_removeLight_60 ?_
        refine j_iload_n hC dX0_removeLight_63 rfl rfl ?_
        refine j_aload_n hC dX0_removeLight_64 rfl rfl ?_
        refine j_aast_0 (bi := 0) hC rfl (lts_at (bi := 1) rfl (jX_get (X := X) (j := j) (by omega))) (by rw [h3]; exact vp_in_nI (by omega) (by decide)) dX0_removeLight_65 ?_
        dsimp only [List.set]
        rw [h3, nI_cl (by omega), show t = k - 1 - j by omega, show j + (k - 1 - j) = k - 1 by omega, rotX_lrf hj hk2]
        refine j_perm (bl' := [bc g d I A (lrf (rotX X j k)), lts (rotX X j k)]) ?_ ?_
        · (simp only [List.flatten_cons, List.flatten_nil, List.append_nil]; exact ((rotX_perm hj hk2).map _).append_left _)
        refine j_aload_n hC dX0_removeLight_66 rfl rfl ?_
        refine j_dup hC dX0_removeLight_67 rfl ?_
        refine j_get hC uX0 0 0 1 rfl rfl k95 rfl dX0_removeLight_68 ?_
        refine j_iconst hC (1) dX0_removeLight_71 (by decide) ?_
        refine j_isub hC dX0_removeLight_72 ?_
        refine j_put_0_1 (bi := 0) hC rfl k95 dX0_removeLight_73 ?_
        dsimp only [List.set]
        refine j_vret hC hQ rfl (Nat.le_of_ble_eq_true rfl) (Nat.le_of_ble_eq_true rfl) dX0_removeLight_76 rfl ⟨?_, ?_⟩
        · rfl
        · rfl
      · skip
        refine j_iload hC dX0_removeLight_27 rfl ?_
        refine j_bipush hC (10) dX0_removeLight_29 (by decide) ?_
        refine j_icmp_ge hC dX0_removeLight_31 (tgt := 59) (by decide) (fun c_31 => ?_) (fun c_31 => ?_)
        · skip
          have hik : j + t + 1 = k := by first | exact Nat.le_antisymm ht (jge hk1 h4 (by omega) (by omega) c_24) | exact absurd (jge (i := j + t + 1) (show (10 : Int32) = nI 10 from rfl) h4 (by omega) (by omega) c_31) (by have q2 := jlt hk1 h4 (by omega) (by omega) c_24; omega)
          refine j_aload_n hC dX0_removeLight_59 rfl rfl ?_
          refine j_get hC uX0 0 0 0 rfl rfl k94 rfl dX0_removeLight_60 ?_
          refine j_iload_n hC dX0_removeLight_63 rfl rfl ?_
          refine j_aload_n hC dX0_removeLight_64 rfl rfl ?_
          refine j_aast_0 (bi := 0) hC rfl (lts_at (bi := 1) rfl (jX_get (X := X) (j := j) (by omega))) (by rw [h3]; exact vp_in_nI (by omega) (by decide)) dX0_removeLight_65 ?_
          dsimp only [List.set]
          rw [h3, nI_cl (by omega), show t = k - 1 - j by omega, show j + (k - 1 - j) = k - 1 by omega, rotX_lrf hj hk2]
          refine j_perm (bl' := [bc g d I A (lrf (rotX X j k)), lts (rotX X j k)]) ?_ ?_
          · (simp only [List.flatten_cons, List.flatten_nil, List.append_nil]; exact ((rotX_perm hj hk2).map _).append_left _)
          refine j_aload_n hC dX0_removeLight_66 rfl rfl ?_
          refine j_dup hC dX0_removeLight_67 rfl ?_
          refine j_get hC uX0 0 0 1 rfl rfl k95 rfl dX0_removeLight_68 ?_
          refine j_iconst hC (1) dX0_removeLight_71 (by decide) ?_
          refine j_isub hC dX0_removeLight_72 ?_
          refine j_put_0_1 (bi := 0) hC rfl k95 dX0_removeLight_73 ?_
          dsimp only [List.set]
          refine j_vret hC hQ rfl (Nat.le_of_ble_eq_true rfl) (Nat.le_of_ble_eq_true rfl) dX0_removeLight_76 rfl ⟨?_, ?_⟩
          · rfl
          · rfl
        · skip
          have hik : j + t + 1 < k := jlt hk1 h4 (by omega) (by omega) c_24
          refine j_aload_n hC dX0_removeLight_34 rfl rfl ?_
          refine j_get hC uX0 0 0 0 rfl rfl k94 rfl dX0_removeLight_35 ?_
          refine j_iload hC dX0_removeLight_38 rfl ?_
          refine j_iconst hC (1) dX0_removeLight_40 (by decide) ?_
          refine j_isub hC dX0_removeLight_41 ?_
          refine j_aload_n hC dX0_removeLight_42 rfl rfl ?_
          refine j_get hC uX0 0 0 0 rfl rfl k94 rfl dX0_removeLight_43 ?_
          refine j_iload hC dX0_removeLight_46 rfl ?_
          refine j_aald hC 4 0 1 rfl rfl (by rw [h4]; exact vp_in_nI (by omega) (by decide)) dX0_removeLight_48 ?_
          have hr : rshift j t (lrf X) x4.toNatClampNeg = some (jAd X (j + t + 1)) := by rw [h4, nI_cl (by omega)]; unfold rshift; rw [if_neg (by omega)]; exact lrf_get (by omega)
          · skip
            rw [hr, show va_rf (some (jAd X (j + t + 1))) = .ref (jAd X (j + t + 1)) from rfl]
            refine j_aast_0 (bi := 0) hC rfl (lts_at (bi := 1) rfl (jX_get (X := X) (j := j + t + 1) (by omega))) (by rw [jpredI h4]; exact vp_in_nI (by omega) (by decide)) dX0_removeLight_49 ?_
            dsimp only [List.set]
            rw [jpredI h4, nI_cl (by omega), rshift_step (lrf_get (by omega))]
            refine j_iload hC dX0_removeLight_50 rfl ?_
            refine j_istore_n hC dX0_removeLight_52 rfl rfl rfl rfl (fun v_52 e_52 => ?_)
            refine j_iinc hC (1) dX0_removeLight_53 rfl rfl rfl rfl rfl (fun v_53 e_53 => ?_)
            refine j_goto hC dX0_removeLight_56 (tgt := 18) (by decide) ?_
            refine j_pick [0, 2, 3, 4] ?_
            exact ih_18 (t + 1) _ _ (by omega) (by omega) (e_52.trans h4) (by rw [e_53, h4]; exact nI_1 _)
  refine j_pick [0, 2, 3, 4] ?_
  rw [show lrf X = rshift j 0 (lrf X) from funext fun i => by unfold rshift; rw [if_neg (by omega)]]
  exact L_18 (k + 1) 0 _ _ (by omega) (by omega) (e_12.trans hx) (by rw [e_16, hx]; exact nI_1 j)
set_option maxHeartbeats 1000000 in
set_option maxRecDepth 100000 in
theorem c_X0_appendRoute (g : jG) (d : Nat → Nat) (I : jF) (A : Nat → jF) (r : Nat → Option Nat) (x y : Int32) (h1 : ¬ I 4 < 0) (h2 : ¬ 6 ≤ I 4) : Con g yX0_appendRoute cX0_appendRoute 3 none 0 0 0 0 [.ref (d 0), .int x, .int y] [bc g d I A r] (jR (none) [bc g d (upd I 4 (I 4 + 1)) (appA A (I 4).toNatClampNeg x y) r]) := by
  refine Con.of (own := RX0) (lv := [(0, .ref (d 0)), (1, .int x), (2, .int y)]) (by decide) rfl (Nat.le_of_ble_eq_true rfl) rfl ?_
  intro E hC hQ hN
  refine j_aload_n hC dX0_appendRoute_0 rfl rfl ?_
  refine j_get hC uX0 0 0 4 rfl rfl k104 rfl dX0_appendRoute_1 ?_
  refine j_if_lt hC dX0_appendRoute_4 (tgt := 46) (by decide) (fun c_4 => ?_) (fun c_4 => ?_)
  · exact absurd c_4 h1
  · skip
    refine j_aload_n hC dX0_appendRoute_7 rfl rfl ?_
    refine j_get hC uX0 0 0 4 rfl rfl k104 rfl dX0_appendRoute_8 ?_
    refine j_bipush hC (6) dX0_appendRoute_11 (by decide) ?_
    refine j_icmp_ge hC dX0_appendRoute_13 (tgt := 46) (by decide) (fun c_13 => ?_) (fun c_13 => ?_)
    · exact absurd c_13 h2
    · skip
      refine j_aload_n hC dX0_appendRoute_16 rfl rfl ?_
      refine j_get hC uX0 0 0 2 rfl rfl k100 rfl dX0_appendRoute_17 ?_
      refine j_aload_n hC dX0_appendRoute_20 rfl rfl ?_
      refine j_get hC uX0 0 0 4 rfl rfl k104 rfl dX0_appendRoute_21 ?_
      refine j_iload_n hC dX0_appendRoute_24 rfl rfl ?_
      refine j_ast_0_0 (bi := 0) hC rfl (jin h1 h2 (by decide)) dX0_appendRoute_25 ?_
      dsimp only [List.set]
      refine j_aload_n hC dX0_appendRoute_26 rfl rfl ?_
      refine j_get hC uX0 0 0 3 rfl rfl k101 rfl dX0_appendRoute_27 ?_
      refine j_aload_n hC dX0_appendRoute_30 rfl rfl ?_
      refine j_get hC uX0 0 0 4 rfl rfl k104 rfl dX0_appendRoute_31 ?_
      refine j_iload_n hC dX0_appendRoute_34 rfl rfl ?_
      refine j_ast_0_1 (bi := 0) hC rfl (jin h1 h2 (by decide)) dX0_appendRoute_35 ?_
      dsimp only [List.set]
      refine j_aload_n hC dX0_appendRoute_36 rfl rfl ?_
      refine j_dup hC dX0_appendRoute_37 rfl ?_
      refine j_get hC uX0 0 0 4 rfl rfl k104 rfl dX0_appendRoute_38 ?_
      refine j_iconst hC (1) dX0_appendRoute_41 (by decide) ?_
      refine j_iadd hC dX0_appendRoute_42 ?_
      refine j_put_0_4 (bi := 0) hC rfl k104 dX0_appendRoute_43 ?_
      dsimp only [List.set]
      refine j_vret hC hQ rfl (Nat.le_of_ble_eq_true rfl) (Nat.le_of_ble_eq_true rfl) dX0_appendRoute_46 rfl ⟨?_, ?_⟩
      · rfl
      · rfl
set_option maxHeartbeats 1000000 in
set_option maxRecDepth 100000 in
theorem c_X0_removeRoute (g : jG) (d : Nat → Nat) (I : jF) (A : Nat → jF) (r : Nat → Option Nat) (n j : Nat) (x : Int32) (hn : I 4 = nI n) (hn6 : n ≤ 6) (hj : j < n) (hx : x = nI j) : Con g yX0_removeRoute cX0_removeRoute 3 none 1 21 0 0 [.ref (d 0), .int x] [bc g d I A r] (jR (none) [bc g d (upd I 4 (I 4 - 1)) (jiter (fun t A => rmA (j + t) A) A (n - 1 - j)) r]) := by
  refine Con.of (own := RX0) (lv := [(0, .ref (d 0)), (1, .int x)]) (by decide) rfl (Nat.le_of_ble_eq_true rfl) rfl ?_
  intro E hC hQ hN
  have hh : hasR I x := by show ¬ x < 0 ∧ ¬ I 4 ≤ x ∧ ¬ 6 ≤ x; rw [hx, hn]; exact ⟨by rw [← nI_0, nI_ltI (by omega) (by omega)]; omega, by rw [nI_leI (by omega) (by omega)]; omega, by show ¬ nI 6 ≤ nI j; rw [nI_leI (by omega) (by omega)]; omega⟩
  refine j_aload_n hC dX0_removeRoute_0 rfl rfl ?_
  refine j_iload_n hC dX0_removeRoute_1 rfl rfl ?_
  refine j_callVR hC [0] (c_X0_hasRoute g _ _ _ _ _) mX0_hasRoute k366 rfl rfl rfl rfl rfl ⟨(Nat.le_of_ble_eq_true rfl), (Nat.le_of_ble_eq_true rfl)⟩ (Nat.le_of_ble_eq_true rfl) ⟨(Nat.le_of_ble_eq_true rfl), (Nat.le_of_ble_eq_true rfl)⟩ dX0_removeRoute_2 ?_
  dsimp only [jrepl, List.set, jstk]
  refine j_if_ne hC dX0_removeRoute_5 (tgt := 9) (by decide) (fun c_5 => ?_) (fun c_5 => ?_)
  · skip
    refine j_iload_n hC dX0_removeRoute_9 rfl rfl ?_
    refine j_iconst hC (1) dX0_removeRoute_10 (by decide) ?_
    refine j_iadd hC dX0_removeRoute_11 ?_
    refine j_istore_n hC dX0_removeRoute_12 rfl rfl rfl rfl (fun v_12 e_12 => ?_)
    have L_13 : ∀ (fu : Nat) (t : Nat) (x2 : Int32) (hfu : n + 1 ≤ j + t + 1 + fu) (ht : j + t + 1 ≤ n) (h2 : x2 = nI (j + t + 1)), J g (jRm 1 21 0 0) E 3 13 [(0, .ref (d 0)), (2, .int x2)] [] [bc g d I (jiter (fun t A => rmA (j + t) A) A t) r] (0) (0) := by
      intro fu
      induction fu with
      | zero => intro t x2 hfu ht h2; exact absurd hfu (by omega)
      | succ fu ih_13 =>
        intro t x2 hfu ht h2
        refine j_iload_n hC dX0_removeRoute_13 rfl rfl ?_
        refine j_aload_n hC dX0_removeRoute_14 rfl rfl ?_
        refine j_get hC uX0 0 0 4 rfl rfl k104 rfl dX0_removeRoute_15 ?_
        refine j_icmp_ge hC dX0_removeRoute_18 (tgt := 61) (by decide) (fun c_18 => ?_) (fun c_18 => ?_)
        · skip
          have hik : t = n - 1 - j := by first | (have := jge hn h2 (by omega) (by omega) c_18; omega) | exact absurd (jge (i := j + t + 1) (show (6 : Int32) = nI 6 from rfl) h2 (by omega) (by omega) c_24) (by have q2 := jlt hn h2 (by omega) (by omega) c_18; omega)
          refine j_aload_n hC dX0_removeRoute_61 rfl rfl ?_
          refine j_dup hC dX0_removeRoute_62 rfl ?_
          refine j_get hC uX0 0 0 4 rfl rfl k104 rfl dX0_removeRoute_63 ?_
          refine j_iconst hC (1) dX0_removeRoute_66 (by decide) ?_
          refine j_isub hC dX0_removeRoute_67 ?_
          refine j_put_0_4 (bi := 0) hC rfl k104 dX0_removeRoute_68 ?_
          dsimp only [List.set]
          refine j_vret hC hQ rfl (Nat.le_of_ble_eq_true rfl) (Nat.le_of_ble_eq_true rfl) dX0_removeRoute_71 rfl ⟨?_, ?_⟩
          · rfl
          · (subst hik; rfl)
        · skip
          have hik : j + t + 1 < n := jlt hn h2 (by omega) (by omega) c_18
          refine j_iload_n hC dX0_removeRoute_21 rfl rfl ?_
          refine j_bipush hC (6) dX0_removeRoute_22 (by decide) ?_
          refine j_icmp_ge hC dX0_removeRoute_24 (tgt := 61) (by decide) (fun c_24 => ?_) (fun c_24 => ?_)
          · skip
            have hik : t = n - 1 - j := by first | (have := jge hn h2 (by omega) (by omega) c_18; omega) | exact absurd (jge (i := j + t + 1) (show (6 : Int32) = nI 6 from rfl) h2 (by omega) (by omega) c_24) (by have q2 := jlt hn h2 (by omega) (by omega) c_18; omega)
            refine j_aload_n hC dX0_removeRoute_61 rfl rfl ?_
            refine j_dup hC dX0_removeRoute_62 rfl ?_
            refine j_get hC uX0 0 0 4 rfl rfl k104 rfl dX0_removeRoute_63 ?_
            refine j_iconst hC (1) dX0_removeRoute_66 (by decide) ?_
            refine j_isub hC dX0_removeRoute_67 ?_
            refine j_put_0_4 (bi := 0) hC rfl k104 dX0_removeRoute_68 ?_
            dsimp only [List.set]
            refine j_vret hC hQ rfl (Nat.le_of_ble_eq_true rfl) (Nat.le_of_ble_eq_true rfl) dX0_removeRoute_71 rfl ⟨?_, ?_⟩
            · rfl
            · (subst hik; rfl)
          · skip
            refine j_aload_n hC dX0_removeRoute_27 rfl rfl ?_
            refine j_get hC uX0 0 0 2 rfl rfl k100 rfl dX0_removeRoute_28 ?_
            refine j_iload_n hC dX0_removeRoute_31 rfl rfl ?_
            refine j_iconst hC (1) dX0_removeRoute_32 (by decide) ?_
            refine j_isub hC dX0_removeRoute_33 ?_
            refine j_aload_n hC dX0_removeRoute_34 rfl rfl ?_
            refine j_get hC uX0 0 0 2 rfl rfl k100 rfl dX0_removeRoute_35 ?_
            refine j_iload_n hC dX0_removeRoute_38 rfl rfl ?_
            refine j_iald hC 0 2 rfl (by first | (rw [h2]; exact vp_in_nI (by omega) (by decide)) | (rw [jpredI h2]; exact vp_in_nI (by omega) (by decide))) dX0_removeRoute_39 ?_
            refine j_ast_0_0 (bi := 0) hC rfl (by rw [jpredI h2]; exact vp_in_nI (by omega) (by decide)) dX0_removeRoute_40 ?_
            dsimp only [List.set]
            refine j_aload_n hC dX0_removeRoute_41 rfl rfl ?_
            refine j_get hC uX0 0 0 3 rfl rfl k101 rfl dX0_removeRoute_42 ?_
            refine j_iload_n hC dX0_removeRoute_45 rfl rfl ?_
            refine j_iconst hC (1) dX0_removeRoute_46 (by decide) ?_
            refine j_isub hC dX0_removeRoute_47 ?_
            refine j_aload_n hC dX0_removeRoute_48 rfl rfl ?_
            refine j_get hC uX0 0 0 3 rfl rfl k101 rfl dX0_removeRoute_49 ?_
            refine j_iload_n hC dX0_removeRoute_52 rfl rfl ?_
            refine j_iald hC 0 3 rfl (by first | (rw [h2]; exact vp_in_nI (by omega) (by decide)) | (rw [jpredI h2]; exact vp_in_nI (by omega) (by decide))) dX0_removeRoute_53 ?_
            refine j_ast_0_1 (bi := 0) hC rfl (by rw [jpredI h2]; exact vp_in_nI (by omega) (by decide)) dX0_removeRoute_54 ?_
            dsimp only [List.set]
            refine j_iinc hC (1) dX0_removeRoute_55 rfl rfl rfl rfl rfl (fun v_55 e_55 => ?_)
            refine j_goto hC dX0_removeRoute_58 (tgt := 13) (by decide) ?_
            refine j_pick [0, 2] ?_
            rw [jpredI h2, h2, nI_cl (j := j + t) (by omega), nI_cl (j := j + t + 1) (by omega)]
            exact ih_13 (t + 1) _ (by omega) (by omega) (by rw [e_55, h2]; exact nI_1 _)
    refine j_pick [0, 2] ?_
    exact L_13 (n + 1) 0 _ (by omega) (by omega) (by rw [e_12, hx]; exact nI_1 j)
  · exact absurd hh (jb0 c_5)
set_option maxHeartbeats 1000000 in
set_option maxRecDepth 100000 in
theorem c_X0_lampInPlaceOf (g : jG) (d : Nat → Nat) (I : jF) (A : Nat → jF) (r : Nat → Option Nat) (x : Int32) : Con g yX0_lampInPlaceOf cX0_lampInPlaceOf 3 (some .int) 2 41 0 0 [.ref (d 0), .int x] [bc g d I A r] (jR (some (.int (lipo A x))) [bc g d I A r]) := by
  refine Con.of (own := RX0) (lv := [(0, .ref (d 0)), (1, .int x)]) (by decide) rfl (Nat.le_of_ble_eq_true rfl) rfl ?_
  intro E hC hQ hN
  refine j_aload_n hC dX0_lampInPlaceOf_0 rfl rfl ?_
  refine j_iload_n hC dX0_lampInPlaceOf_1 rfl rfl ?_
  refine j_callVR hC [0] (c_X0_stockOf g _ _ _ _ _) mX0_stockOf k546 rfl rfl rfl rfl rfl ⟨(Nat.le_of_ble_eq_true rfl), (Nat.le_of_ble_eq_true rfl)⟩ (Nat.le_of_ble_eq_true rfl) ⟨(Nat.le_of_ble_eq_true rfl), (Nat.le_of_ble_eq_true rfl)⟩ dX0_lampInPlaceOf_2 ?_
  dsimp only [jrepl, List.set, jstk]
  refine j_if_le hC dX0_lampInPlaceOf_5 (tgt := 10) (by decide) (fun c_5 => ?_) (fun c_5 => ?_)
  · skip
    refine j_iconst hC (2) dX0_lampInPlaceOf_10 (by decide) ?_
    refine j_istore_n hC dX0_lampInPlaceOf_11 rfl rfl rfl rfl (fun v_11 e_11 => ?_)
    refine j_iload_n hC dX0_lampInPlaceOf_12 rfl rfl ?_
    refine j_if_lt hC dX0_lampInPlaceOf_13 (tgt := 48) (by decide) (fun c_13 => ?_) (fun c_13 => ?_)
    · exact absurd c_13 (by rw [e_11]; decide)
    · skip
      refine j_aload_n hC dX0_lampInPlaceOf_16 rfl rfl ?_
      refine j_iload_n hC dX0_lampInPlaceOf_17 rfl rfl ?_
      refine j_callVR hC [0] (c_X0_stockOf g _ _ _ _ _) mX0_stockOf k546 rfl rfl rfl rfl rfl ⟨(Nat.le_of_ble_eq_true rfl), (Nat.le_of_ble_eq_true rfl)⟩ (Nat.le_of_ble_eq_true rfl) ⟨(Nat.le_of_ble_eq_true rfl), (Nat.le_of_ble_eq_true rfl)⟩ dX0_lampInPlaceOf_18 ?_
      dsimp only [jrepl, List.set, jstk]
      refine j_if_le hC dX0_lampInPlaceOf_21 (tgt := 42) (by decide) (fun c_21 => ?_) (fun c_21 => ?_)
      · skip
        refine j_iinc hC (-1) dX0_lampInPlaceOf_42 rfl rfl rfl rfl rfl (fun v_42 e_42 => ?_)
        refine j_goto hC dX0_lampInPlaceOf_45 (tgt := 12) (by decide) ?_
        refine j_iload_n hC dX0_lampInPlaceOf_12 rfl rfl ?_
        refine j_if_lt hC dX0_lampInPlaceOf_13 (tgt := 48) (by decide) (fun c_13x2 => ?_) (fun c_13x2 => ?_)
        · exact absurd c_13x2 (by rw [e_42, e_11]; decide)
        · skip
          refine j_aload_n hC dX0_lampInPlaceOf_16 rfl rfl ?_
          refine j_iload_n hC dX0_lampInPlaceOf_17 rfl rfl ?_
          refine j_callVR hC [0] (c_X0_stockOf g _ _ _ _ _) mX0_stockOf k546 rfl rfl rfl rfl rfl ⟨(Nat.le_of_ble_eq_true rfl), (Nat.le_of_ble_eq_true rfl)⟩ (Nat.le_of_ble_eq_true rfl) ⟨(Nat.le_of_ble_eq_true rfl), (Nat.le_of_ble_eq_true rfl)⟩ dX0_lampInPlaceOf_18 ?_
          dsimp only [jrepl, List.set, jstk]
          refine j_if_le hC dX0_lampInPlaceOf_21 (tgt := 42) (by decide) (fun c_21x2 => ?_) (fun c_21x2 => ?_)
          · skip
            refine j_iinc hC (-1) dX0_lampInPlaceOf_42 rfl rfl rfl rfl rfl (fun v_42x2 e_42x2 => ?_)
            refine j_goto hC dX0_lampInPlaceOf_45 (tgt := 12) (by decide) ?_
            refine j_iload_n hC dX0_lampInPlaceOf_12 rfl rfl ?_
            refine j_if_lt hC dX0_lampInPlaceOf_13 (tgt := 48) (by decide) (fun c_13x3 => ?_) (fun c_13x3 => ?_)
            · exact absurd c_13x3 (by rw [e_42x2, e_42, e_11]; decide)
            · skip
              refine j_aload_n hC dX0_lampInPlaceOf_16 rfl rfl ?_
              refine j_iload_n hC dX0_lampInPlaceOf_17 rfl rfl ?_
              refine j_callVR hC [0] (c_X0_stockOf g _ _ _ _ _) mX0_stockOf k546 rfl rfl rfl rfl rfl ⟨(Nat.le_of_ble_eq_true rfl), (Nat.le_of_ble_eq_true rfl)⟩ (Nat.le_of_ble_eq_true rfl) ⟨(Nat.le_of_ble_eq_true rfl), (Nat.le_of_ble_eq_true rfl)⟩ dX0_lampInPlaceOf_18 ?_
              dsimp only [jrepl, List.set, jstk]
              refine j_if_le hC dX0_lampInPlaceOf_21 (tgt := 42) (by decide) (fun c_21x3 => ?_) (fun c_21x3 => ?_)
              · skip
                refine j_iinc hC (-1) dX0_lampInPlaceOf_42 rfl rfl rfl rfl rfl (fun v_42x3 e_42x3 => ?_)
                refine j_goto hC dX0_lampInPlaceOf_45 (tgt := 12) (by decide) ?_
                refine j_iload_n hC dX0_lampInPlaceOf_12 rfl rfl ?_
                refine j_if_lt hC dX0_lampInPlaceOf_13 (tgt := 48) (by decide) (fun c_13x4 => ?_) (fun c_13x4 => ?_)
                · skip
                  refine j_bipush hC (-9) dX0_lampInPlaceOf_48 (by decide) ?_
                  refine j_iret hC hQ rfl rfl (Nat.le_of_ble_eq_true rfl) (Nat.le_of_ble_eq_true rfl) dX0_lampInPlaceOf_50 rfl ⟨?_, ?_⟩
                  · (subst_vars; first | (simp [lipo, *]; done) | (simp only [show (2 + -1 : Int32) = 1 by decide, show (1 + -1 : Int32) = 0 by decide] at *; simp [lipo, *]))
                  · rfl
                · exact absurd c_13x4 (by rw [e_42x3, e_42x2, e_42, e_11]; decide)
              · skip
                refine j_iload_n hC dX0_lampInPlaceOf_24 rfl rfl ?_
                refine j_callSR hC [] (c_X2_widthOf g _) mX2_widthOf k547 rfl rfl rfl ⟨(Nat.le_of_ble_eq_true rfl), (Nat.le_of_ble_eq_true rfl)⟩ (Nat.le_of_ble_eq_true rfl) ⟨(Nat.le_of_ble_eq_true rfl), (Nat.le_of_ble_eq_true rfl)⟩ dX0_lampInPlaceOf_25 ?_
                dsimp only [jrepl, List.set, jstk]
                refine j_iload_n hC dX0_lampInPlaceOf_28 rfl rfl ?_
                refine j_callSR hC [] (c_X2_widthOf g _) mX2_widthOf k547 rfl rfl rfl ⟨(Nat.le_of_ble_eq_true rfl), (Nat.le_of_ble_eq_true rfl)⟩ (Nat.le_of_ble_eq_true rfl) ⟨(Nat.le_of_ble_eq_true rfl), (Nat.le_of_ble_eq_true rfl)⟩ dX0_lampInPlaceOf_29 ?_
                dsimp only [jrepl, List.set, jstk]
                refine j_icmp_lt hC dX0_lampInPlaceOf_32 (tgt := 39) (by decide) (fun c_32 => ?_) (fun c_32 => ?_)
                · skip
                  refine j_bipush hC (-9) dX0_lampInPlaceOf_39 (by decide) ?_
                  refine j_iret hC hQ rfl rfl (Nat.le_of_ble_eq_true rfl) (Nat.le_of_ble_eq_true rfl) dX0_lampInPlaceOf_41 rfl ⟨?_, ?_⟩
                  · (subst_vars; first | (simp [lipo, *]; done) | (simp only [show (2 + -1 : Int32) = 1 by decide, show (1 + -1 : Int32) = 0 by decide] at *; simp [lipo, *]))
                  · rfl
                · skip
                  refine j_iload_n hC dX0_lampInPlaceOf_35 rfl rfl ?_
                  refine j_goto hC dX0_lampInPlaceOf_36 (tgt := 41) (by decide) ?_
                  refine j_iret hC hQ rfl rfl (Nat.le_of_ble_eq_true rfl) (Nat.le_of_ble_eq_true rfl) dX0_lampInPlaceOf_41 rfl ⟨?_, ?_⟩
                  · (subst_vars; first | (simp [lipo, *]; done) | (simp only [show (2 + -1 : Int32) = 1 by decide, show (1 + -1 : Int32) = 0 by decide] at *; simp [lipo, *]))
                  · rfl
          · skip
            refine j_iload_n hC dX0_lampInPlaceOf_24 rfl rfl ?_
            refine j_callSR hC [] (c_X2_widthOf g _) mX2_widthOf k547 rfl rfl rfl ⟨(Nat.le_of_ble_eq_true rfl), (Nat.le_of_ble_eq_true rfl)⟩ (Nat.le_of_ble_eq_true rfl) ⟨(Nat.le_of_ble_eq_true rfl), (Nat.le_of_ble_eq_true rfl)⟩ dX0_lampInPlaceOf_25 ?_
            dsimp only [jrepl, List.set, jstk]
            refine j_iload_n hC dX0_lampInPlaceOf_28 rfl rfl ?_
            refine j_callSR hC [] (c_X2_widthOf g _) mX2_widthOf k547 rfl rfl rfl ⟨(Nat.le_of_ble_eq_true rfl), (Nat.le_of_ble_eq_true rfl)⟩ (Nat.le_of_ble_eq_true rfl) ⟨(Nat.le_of_ble_eq_true rfl), (Nat.le_of_ble_eq_true rfl)⟩ dX0_lampInPlaceOf_29 ?_
            dsimp only [jrepl, List.set, jstk]
            refine j_icmp_lt hC dX0_lampInPlaceOf_32 (tgt := 39) (by decide) (fun c_32 => ?_) (fun c_32 => ?_)
            · skip
              refine j_bipush hC (-9) dX0_lampInPlaceOf_39 (by decide) ?_
              refine j_iret hC hQ rfl rfl (Nat.le_of_ble_eq_true rfl) (Nat.le_of_ble_eq_true rfl) dX0_lampInPlaceOf_41 rfl ⟨?_, ?_⟩
              · (subst_vars; first | (simp [lipo, *]; done) | (simp only [show (2 + -1 : Int32) = 1 by decide, show (1 + -1 : Int32) = 0 by decide] at *; simp [lipo, *]))
              · rfl
            · skip
              refine j_iload_n hC dX0_lampInPlaceOf_35 rfl rfl ?_
              refine j_goto hC dX0_lampInPlaceOf_36 (tgt := 41) (by decide) ?_
              refine j_iret hC hQ rfl rfl (Nat.le_of_ble_eq_true rfl) (Nat.le_of_ble_eq_true rfl) dX0_lampInPlaceOf_41 rfl ⟨?_, ?_⟩
              · (subst_vars; first | (simp [lipo, *]; done) | (simp only [show (2 + -1 : Int32) = 1 by decide, show (1 + -1 : Int32) = 0 by decide] at *; simp [lipo, *]))
              · rfl
      · skip
        refine j_iload_n hC dX0_lampInPlaceOf_24 rfl rfl ?_
        refine j_callSR hC [] (c_X2_widthOf g _) mX2_widthOf k547 rfl rfl rfl ⟨(Nat.le_of_ble_eq_true rfl), (Nat.le_of_ble_eq_true rfl)⟩ (Nat.le_of_ble_eq_true rfl) ⟨(Nat.le_of_ble_eq_true rfl), (Nat.le_of_ble_eq_true rfl)⟩ dX0_lampInPlaceOf_25 ?_
        dsimp only [jrepl, List.set, jstk]
        refine j_iload_n hC dX0_lampInPlaceOf_28 rfl rfl ?_
        refine j_callSR hC [] (c_X2_widthOf g _) mX2_widthOf k547 rfl rfl rfl ⟨(Nat.le_of_ble_eq_true rfl), (Nat.le_of_ble_eq_true rfl)⟩ (Nat.le_of_ble_eq_true rfl) ⟨(Nat.le_of_ble_eq_true rfl), (Nat.le_of_ble_eq_true rfl)⟩ dX0_lampInPlaceOf_29 ?_
        dsimp only [jrepl, List.set, jstk]
        refine j_icmp_lt hC dX0_lampInPlaceOf_32 (tgt := 39) (by decide) (fun c_32 => ?_) (fun c_32 => ?_)
        · skip
          refine j_bipush hC (-9) dX0_lampInPlaceOf_39 (by decide) ?_
          refine j_iret hC hQ rfl rfl (Nat.le_of_ble_eq_true rfl) (Nat.le_of_ble_eq_true rfl) dX0_lampInPlaceOf_41 rfl ⟨?_, ?_⟩
          · (subst_vars; first | (simp [lipo, *]; done) | (simp only [show (2 + -1 : Int32) = 1 by decide, show (1 + -1 : Int32) = 0 by decide] at *; simp [lipo, *]))
          · rfl
        · skip
          refine j_iload_n hC dX0_lampInPlaceOf_35 rfl rfl ?_
          refine j_goto hC dX0_lampInPlaceOf_36 (tgt := 41) (by decide) ?_
          refine j_iret hC hQ rfl rfl (Nat.le_of_ble_eq_true rfl) (Nat.le_of_ble_eq_true rfl) dX0_lampInPlaceOf_41 rfl ⟨?_, ?_⟩
          · (subst_vars; first | (simp [lipo, *]; done) | (simp only [show (2 + -1 : Int32) = 1 by decide, show (1 + -1 : Int32) = 0 by decide] at *; simp [lipo, *]))
          · rfl
  · skip
    refine j_iload_n hC dX0_lampInPlaceOf_8 rfl rfl ?_
    refine j_iret hC hQ rfl rfl (Nat.le_of_ble_eq_true rfl) (Nat.le_of_ble_eq_true rfl) dX0_lampInPlaceOf_9 rfl ⟨?_, ?_⟩
    · (subst_vars; first | (simp [lipo, *]; done) | (simp only [show (2 + -1 : Int32) = 1 by decide, show (1 + -1 : Int32) = 0 by decide] at *; simp [lipo, *]))
    · rfl
set_option maxHeartbeats 1000000 in
set_option maxRecDepth 100000 in
theorem c_X0_putLamps (g : jG) (d : Nat → Nat) (I : jF) (A : Nat → jF) (X : List (Nat × jF)) (k : Nat) (x : Int32) (h : bok I X k) : Con g yX0_putLamps cX0_putLamps 6 (some .int) 3 63 0 0 [.ref (d 0), .int x] [bc g d I A (lrf X), lts X] (jR (some (.int (jiter (plStep x X) (A, 0) k).2)) [bc g d I (jiter (plStep x X) (A, 0) k).1 (lrf (lmap (lpre k (fun j => plL x (jiter (plStep x X) (A, 0) j).1)) X)), lts (lmap (lpre k (fun j => plL x (jiter (plStep x X) (A, 0) j).1)) X)]) := by
  refine Con.of (own := RX0) (lv := [(0, .ref (d 0)), (1, .int x)]) (by decide) rfl (Nat.le_of_ble_eq_true rfl) rfl ?_
  intro E hC hQ hN
  obtain ⟨hk1, hk2, hk3⟩ := id h
  refine j_iconst hC (0) dX0_putLamps_0 (by decide) ?_
  refine j_istore_n hC dX0_putLamps_1 rfl rfl rfl rfl (fun v_1 e_1 => ?_)
  refine j_iconst hC (0) dX0_putLamps_2 (by decide) ?_
  refine j_istore_n hC dX0_putLamps_3 rfl rfl rfl rfl (fun v_3 e_3 => ?_)
  have L_4 : ∀ (fu : Nat) (i : Nat) (x2 x3 : Int32) (hfu : k + 1 ≤ i + fu) (hi : i ≤ k) (h2 : x2 = (jiter (plStep x X) (A, 0) i).2) (h3 : x3 = nI i), J g (jRm 3 63 0 0) E 6 4 [(0, .ref (d 0)), (1, .int x), (2, .int x2), (3, .int x3)] [] [bc g d I (jiter (plStep x X) (A, 0) i).1 (lrf X), lts (lmap (lpre i (fun j => plL x (jiter (plStep x X) (A, 0) j).1)) X)] (0) (0) := by
    intro fu
    induction fu with
    | zero => intro i x2 x3 hfu hi h2 h3; exact absurd hfu (by omega)
    | succ fu ih_4 =>
      intro i x2 x3 hfu hi h2 h3
      refine j_iload_n hC dX0_putLamps_4 rfl rfl ?_
      refine j_aload_n hC dX0_putLamps_5 rfl rfl ?_
      refine j_get hC uX0 0 0 1 rfl rfl k95 rfl dX0_putLamps_6 ?_
      refine j_icmp_ge hC dX0_putLamps_9 (tgt := 74) (by decide) (fun c_9 => ?_) (fun c_9 => ?_)
      · skip
        have hik : i = k := Nat.le_antisymm hi (jge hk1 h3 (by omega) (by omega) c_9)
        subst hik
        refine j_iload_n hC dX0_putLamps_74 rfl rfl ?_
        refine j_iret hC hQ rfl rfl (Nat.le_of_ble_eq_true rfl) (Nat.le_of_ble_eq_true rfl) dX0_putLamps_75 rfl ⟨?_, ?_⟩
        · exact congrArg (fun z => some (Value.int z)) h2
        · rw [lrf_lmap]
      · skip
        have hik : i < k := jlt hk1 h3 (by omega) (by omega) c_9
        refine j_aload_n hC dX0_putLamps_12 rfl rfl ?_
        refine j_iload_n hC dX0_putLamps_13 rfl rfl ?_
        refine j_callVR hC [0] (c_X0_find_in g _ _ _ _ _ _ _ h hik h3) mX0_find k353 rfl rfl rfl rfl rfl ⟨(Nat.le_of_ble_eq_true rfl), (Nat.le_of_ble_eq_true rfl)⟩ (Nat.le_of_ble_eq_true rfl) ⟨(Nat.le_of_ble_eq_true rfl), (Nat.le_of_ble_eq_true rfl)⟩ dX0_putLamps_14 ?_
        dsimp only [jrepl, List.set, jstk]
        refine j_focus i 1 (lmap_cur (f := (fun j => plL x (jiter (plStep x X) (A, 0) j).1)) (X := X) (i := i) (by omega)) rfl ?_
        dsimp only [List.set, List.cons_append, List.nil_append]
        refine j_astore hC dX0_putLamps_17 rfl rfl rfl ?_
        refine j_aload hC dX0_putLamps_19 rfl ?_
        refine j_ifnull hC dX0_putLamps_21 ?_
        refine j_aload hC dX0_putLamps_24 rfl ?_
        refine j_get hC uX2 2 0 7 rfl rfl k276 rfl dX0_putLamps_26 ?_
        refine j_iload_n hC dX0_putLamps_29 rfl rfl ?_
        refine j_icmp_ge hC dX0_putLamps_30 (tgt := 68) (by decide) (fun c_30 => ?_) (fun c_30 => ?_)
        · skip
          refine j_iinc hC (1) dX0_putLamps_68 rfl rfl rfl rfl rfl (fun v_68 e_68 => ?_)
          refine j_goto hC dX0_putLamps_71 (tgt := 4) (by decide) ?_
          refine j_pick [0, 1, 2, 3] ?_
          refine j_unfocus i 1 (lmap_cur (f := (fun j => plL x (jiter (plStep x X) (A, 0) j).1)) (X := X) (i := i) (by omega)) rfl rfl rfl ?_
          dsimp only [List.set, List.dropLast]
          have hs := show jiter (plStep x X) (A, 0) (i + 1) = plStep x X i (jiter (plStep x X) (A, 0) i) from rfl
          first | rw [plStep_a c_30] at hs | rw [plStep_b c_30 (e_42.symm.trans c_48)] at hs | rw [plStep_c c_30 (fun q => c_48 (e_42.trans q))] at hs
          first | rw [lmap_next (by omega) (plL_a c_30).symm] | rw [lmap_next (by omega) (plL_b c_30 (e_42.symm.trans c_48)).symm] | rw [e_42, lmap_next (by omega) (plL_c c_30 (fun q => c_48 (e_42.trans q))).symm]
          have hs1 := congrArg Prod.fst hs
          try dsimp only at hs1
          rw [← hs1]
          exact ih_4 (i + 1) _ _ (by omega) (by omega) (by first | (rw [hs]; exact h2) | (rw [hs, e_65, h2])) (jsucc e_68 h3)
        · skip
          refine j_aload_n hC dX0_putLamps_33 rfl rfl ?_
          refine j_aload hC dX0_putLamps_34 rfl ?_
          refine j_get hC uX2 2 0 3 rfl rfl k268 rfl dX0_putLamps_36 ?_
          refine j_callVR hC [0] (c_X0_lampInPlaceOf g _ _ _ _ _) mX0_lampInPlaceOf k542 rfl rfl rfl rfl rfl ⟨(Nat.le_of_ble_eq_true rfl), (Nat.le_of_ble_eq_true rfl)⟩ (Nat.le_of_ble_eq_true rfl) ⟨(Nat.le_of_ble_eq_true rfl), (Nat.le_of_ble_eq_true rfl)⟩ dX0_putLamps_39 ?_
          dsimp only [jrepl, List.set, jstk]
          refine j_istore hC dX0_putLamps_42 rfl rfl rfl (fun v_42 e_42 => ?_)
          refine j_iload hC dX0_putLamps_44 rfl ?_
          refine j_bipush hC (-9) dX0_putLamps_46 (by decide) ?_
          refine j_icmp_eq hC dX0_putLamps_48 (tgt := 68) (by decide) (fun c_48 => ?_) (fun c_48 => ?_)
          · skip
            refine j_iinc hC (1) dX0_putLamps_68 rfl rfl rfl rfl rfl (fun v_68 e_68 => ?_)
            refine j_goto hC dX0_putLamps_71 (tgt := 4) (by decide) ?_
            refine j_pick [0, 1, 2, 3] ?_
            refine j_unfocus i 1 (lmap_cur (f := (fun j => plL x (jiter (plStep x X) (A, 0) j).1)) (X := X) (i := i) (by omega)) rfl rfl rfl ?_
            dsimp only [List.set, List.dropLast]
            have hs := show jiter (plStep x X) (A, 0) (i + 1) = plStep x X i (jiter (plStep x X) (A, 0) i) from rfl
            first | rw [plStep_a c_30] at hs | rw [plStep_b c_30 (e_42.symm.trans c_48)] at hs | rw [plStep_c c_30 (fun q => c_48 (e_42.trans q))] at hs
            first | rw [lmap_next (by omega) (plL_a c_30).symm] | rw [lmap_next (by omega) (plL_b c_30 (e_42.symm.trans c_48)).symm] | rw [e_42, lmap_next (by omega) (plL_c c_30 (fun q => c_48 (e_42.trans q))).symm]
            have hs1 := congrArg Prod.fst hs
            try dsimp only at hs1
            rw [← hs1]
            exact ih_4 (i + 1) _ _ (by omega) (by omega) (by first | (rw [hs]; exact h2) | (rw [hs, e_65, h2])) (jsucc e_68 h3)
          · skip
            refine j_aload hC dX0_putLamps_51 rfl ?_
            refine j_iload hC dX0_putLamps_53 rfl ?_
            refine j_callVR hC [2] (c_X2_putLamp g _ _ _) mX2_putLamp k548 rfl rfl rfl rfl rfl ⟨(Nat.le_of_ble_eq_true rfl), (Nat.le_of_ble_eq_true rfl)⟩ (Nat.le_of_ble_eq_true rfl) ⟨(Nat.le_of_ble_eq_true rfl), (Nat.le_of_ble_eq_true rfl)⟩ dX0_putLamps_55 ?_
            dsimp only [jrepl, List.set, jstk]
            refine j_aload_n hC dX0_putLamps_58 rfl rfl ?_
            refine j_iload hC dX0_putLamps_59 rfl ?_
            refine j_iconst hC (-1) dX0_putLamps_61 (by decide) ?_
            refine j_callVR hC [0] (c_X0_changeStock g _ _ _ _ _ _) mX0_changeStock k549 rfl rfl rfl rfl rfl ⟨(Nat.le_of_ble_eq_true rfl), (Nat.le_of_ble_eq_true rfl)⟩ (Nat.le_of_ble_eq_true rfl) ⟨(Nat.le_of_ble_eq_true rfl), (Nat.le_of_ble_eq_true rfl)⟩ dX0_putLamps_62 ?_
            dsimp only [jrepl, List.set, jstk]
            refine j_iinc hC (1) dX0_putLamps_65 rfl rfl rfl rfl rfl (fun v_65 e_65 => ?_)
            refine j_iinc hC (1) dX0_putLamps_68 rfl rfl rfl rfl rfl (fun v_68 e_68 => ?_)
            refine j_goto hC dX0_putLamps_71 (tgt := 4) (by decide) ?_
            refine j_pick [0, 1, 2, 3] ?_
            refine j_unfocus i 1 (lmap_cur (f := (fun j => plL x (jiter (plStep x X) (A, 0) j).1)) (X := X) (i := i) (by omega)) rfl rfl rfl ?_
            dsimp only [List.set, List.dropLast]
            have hs := show jiter (plStep x X) (A, 0) (i + 1) = plStep x X i (jiter (plStep x X) (A, 0) i) from rfl
            first | rw [plStep_a c_30] at hs | rw [plStep_b c_30 (e_42.symm.trans c_48)] at hs | rw [plStep_c c_30 (fun q => c_48 (e_42.trans q))] at hs
            first | rw [lmap_next (by omega) (plL_a c_30).symm] | rw [lmap_next (by omega) (plL_b c_30 (e_42.symm.trans c_48)).symm] | rw [e_42, lmap_next (by omega) (plL_c c_30 (fun q => c_48 (e_42.trans q))).symm]
            have hs1 := congrArg Prod.fst hs
            try dsimp only at hs1
            rw [← hs1]
            exact ih_4 (i + 1) _ _ (by omega) (by omega) (by first | (rw [hs]; exact h2) | (rw [hs, e_65, h2])) (jsucc e_68 h3)
  refine j_pick [0, 1, 2, 3] ?_
  rw [show lts X = lts (lmap (lpre 0 (fun j => plL x (jiter (plStep x X) (A, 0) j).1)) X) by rw [lmap_0]]
  exact L_4 (k + 1) 0 _ _ (by omega) (by omega) e_1 (e_3.trans nI_0.symm)
set_option maxHeartbeats 1000000 in
set_option maxRecDepth 100000 in
theorem c_X0_burn (g : jG) (d : Nat → Nat) (I : jF) (A : Nat → jF) (X : List (Nat × jF)) (k : Nat) (x : Int32) (h : bok I X k) : Con g yX0_burn cX0_burn 4 none 5 102 0 0 [.ref (d 0), .int x] [bc g d I A (lrf X), lts X] (fun r b => r = none ∧ ∃ I1 : jF, b = [bc g d I1 A (lrf (lmap (lpre k (bF x)) X)), lts (lmap (lpre k (bF x)) X)] ∧ (I1 8, I1 9) = jiter (bStep x X) (I 8, I 9) k ∧ ∀ f, f ≠ 8 → f ≠ 9 → I1 f = I f) := by
  refine Con.of (own := RX0) (lv := [(0, .ref (d 0)), (1, .int x)]) (by decide) rfl (Nat.le_of_ble_eq_true rfl) rfl ?_
  intro E hC hQ hN
  obtain ⟨hk1, hk2, hk3⟩ := id h
  refine j_iconst hC (0) dX0_burn_0 (by decide) ?_
  refine j_istore_n hC dX0_burn_1 rfl rfl rfl rfl (fun v_1 e_1 => ?_)
  have L_2 : ∀ (fu : Nat) (i : Nat) (x2 : Int32) (I1 : jF) (hfu : k + 1 ≤ i + fu) (hi : i ≤ k) (h2 : x2 = nI i) (h1 : (I1 8, I1 9) = jiter (bStep x X) (I 8, I 9) i) (hI : ∀ f, f ≠ 8 → f ≠ 9 → I1 f = I f), J g (jRm 5 102 0 0) E 4 2 [(0, .ref (d 0)), (1, .int x), (2, .int x2)] [] [bc g d I1 A (lrf X), lts (lmap (lpre i (bF x)) X)] (0) (0) := by
    intro fu
    induction fu with
    | zero => intro i x2 I1 hfu hi h2 h1 hI; exact absurd hfu (by omega)
    | succ fu ih_2 =>
      intro i x2 I1 hfu hi h2 h1 hI
      have hb1 : bok I1 X k := ⟨(hI 1 (by decide) (by decide)).trans hk1, hk2, hk3⟩
      have hk4 := hb1.1
      refine j_iload_n hC dX0_burn_2 rfl rfl ?_
      refine j_aload_n hC dX0_burn_3 rfl rfl ?_
      refine j_get hC uX0 0 0 1 rfl rfl k95 rfl dX0_burn_4 ?_
      refine j_icmp_ge hC dX0_burn_7 (tgt := 65) (by decide) (fun c_7 => ?_) (fun c_7 => ?_)
      · skip
        have hik : i = k := Nat.le_antisymm hi (jge hk4 h2 (by omega) (by omega) c_7)
        subst hik
        refine j_vret hC hQ rfl (Nat.le_of_ble_eq_true rfl) (Nat.le_of_ble_eq_true rfl) dX0_burn_65 rfl ?_
        exact ⟨rfl, I1, by rw [lrf_lmap], h1, hI⟩
      · skip
        have hik : i < k := jlt hk4 h2 (by omega) (by omega) c_7
        refine j_aload_n hC dX0_burn_10 rfl rfl ?_
        refine j_iload_n hC dX0_burn_11 rfl rfl ?_
        refine j_callVR hC [0] (c_X0_find_in g _ _ _ _ _ _ _ hb1 hik h2) mX0_find k353 rfl rfl rfl rfl rfl ⟨(Nat.le_of_ble_eq_true rfl), (Nat.le_of_ble_eq_true rfl)⟩ (Nat.le_of_ble_eq_true rfl) ⟨(Nat.le_of_ble_eq_true rfl), (Nat.le_of_ble_eq_true rfl)⟩ dX0_burn_12 ?_
        dsimp only [jrepl, List.set, jstk]
        refine j_focus i 1 (lmap_cur (f := (bF x)) (X := X) (i := i) (by omega)) rfl ?_
        dsimp only [List.set, List.cons_append, List.nil_append]
        refine j_astore_n hC dX0_burn_15 rfl rfl rfl rfl ?_
        refine j_aload_n hC dX0_burn_16 rfl rfl ?_
        refine j_ifnull hC dX0_burn_17 ?_
        refine j_iload_n hC dX0_burn_20 rfl rfl ?_
        refine j_iload_n hC dX0_burn_21 rfl rfl ?_
        refine j_ishr hC dX0_burn_22 ?_
        refine j_iconst hC (1) dX0_burn_23 (by decide) ?_
        refine j_iand hC dX0_burn_24 ?_
        refine j_iconst hC (1) dX0_burn_25 (by decide) ?_
        refine j_icmp_ne hC dX0_burn_26 (tgt := 59) (by decide) (fun c_26 => ?_) (fun c_26 => ?_)
        · skip
          refine j_iinc hC (1) dX0_burn_59 rfl rfl rfl rfl rfl (fun v_59 e_59 => ?_)
          refine j_goto hC dX0_burn_62 (tgt := 2) (by decide) ?_
          refine j_pick [0, 1, 2] ?_
          refine j_unfocus i 1 (lmap_cur (f := (bF x)) (X := X) (i := i) (by omega)) rfl rfl rfl ?_
          dsimp only [List.set, List.dropLast]
          have hs := show jiter (bStep x X) (I 8, I 9) (i + 1) = bStep x X i (jiter (bStep x X) (I 8, I 9) i) from rfl
          rw [← h1] at hs
          have hcc := c_26
          rw [h2] at hcc
          first | rw [bStep_a hcc] at hs | rw [bStep_b hcc (jb1 c_33)] at hs | rw [bStep_c hcc (jb0 c_33)] at hs
          first | rw [lmap_next (by omega) (bF_a hcc).symm] | rw [lmap_next (by omega) (bF_b hcc).symm]
          exact ih_2 (i + 1) _ _ (by omega) (by omega) (jsucc e_59 h2) hs.symm (by first | exact hI | (intro f q1 q2; show (if f = 8 then _ else I1 f) = I f; rw [if_neg q1]; exact hI f q1 q2) | (intro f q1 q2; show (if f = 9 then _ else I1 f) = I f; rw [if_neg q2]; exact hI f q1 q2))
        · skip
          refine j_aload_n hC dX0_burn_29 rfl rfl ?_
          refine j_callVR hC [2] (c_X2_burn g _ _) mX2_burn k602 rfl rfl rfl rfl rfl ⟨(Nat.le_of_ble_eq_true rfl), (Nat.le_of_ble_eq_true rfl)⟩ (Nat.le_of_ble_eq_true rfl) ⟨(Nat.le_of_ble_eq_true rfl), (Nat.le_of_ble_eq_true rfl)⟩ dX0_burn_30 ?_
          dsimp only [jrepl, List.set, jstk]
          refine j_if_eq hC dX0_burn_33 (tgt := 49) (by decide) (fun c_33 => ?_) (fun c_33 => ?_)
          · skip
            refine j_aload_n hC dX0_burn_49 rfl rfl ?_
            refine j_dup hC dX0_burn_50 rfl ?_
            refine j_get hC uX0 0 0 9 rfl rfl k114 rfl dX0_burn_51 ?_
            refine j_iconst hC (1) dX0_burn_54 (by decide) ?_
            refine j_iadd hC dX0_burn_55 ?_
            refine j_put_0_9 (bi := 0) hC rfl k114 dX0_burn_56 ?_
            dsimp only [List.set]
            refine j_iinc hC (1) dX0_burn_59 rfl rfl rfl rfl rfl (fun v_59 e_59 => ?_)
            refine j_goto hC dX0_burn_62 (tgt := 2) (by decide) ?_
            refine j_pick [0, 1, 2] ?_
            refine j_unfocus i 1 (lmap_cur (f := (bF x)) (X := X) (i := i) (by omega)) rfl rfl rfl ?_
            dsimp only [List.set, List.dropLast]
            have hs := show jiter (bStep x X) (I 8, I 9) (i + 1) = bStep x X i (jiter (bStep x X) (I 8, I 9) i) from rfl
            rw [← h1] at hs
            have hcc := c_26
            rw [h2] at hcc
            first | rw [bStep_a hcc] at hs | rw [bStep_b hcc (jb1 c_33)] at hs | rw [bStep_c hcc (jb0 c_33)] at hs
            first | rw [lmap_next (by omega) (bF_a hcc).symm] | rw [lmap_next (by omega) (bF_b hcc).symm]
            exact ih_2 (i + 1) _ _ (by omega) (by omega) (jsucc e_59 h2) hs.symm (by first | exact hI | (intro f q1 q2; show (if f = 8 then _ else I1 f) = I f; rw [if_neg q1]; exact hI f q1 q2) | (intro f q1 q2; show (if f = 9 then _ else I1 f) = I f; rw [if_neg q2]; exact hI f q1 q2))
          · skip
            refine j_aload_n hC dX0_burn_36 rfl rfl ?_
            refine j_dup hC dX0_burn_37 rfl ?_
            refine j_get hC uX0 0 0 8 rfl rfl k112 rfl dX0_burn_38 ?_
            refine j_iconst hC (1) dX0_burn_41 (by decide) ?_
            refine j_iadd hC dX0_burn_42 ?_
            refine j_put_0_8 (bi := 0) hC rfl k112 dX0_burn_43 ?_
            dsimp only [List.set]
            refine j_goto hC dX0_burn_46 (tgt := 59) (by decide) ?_
            refine j_iinc hC (1) dX0_burn_59 rfl rfl rfl rfl rfl (fun v_59 e_59 => ?_)
            refine j_goto hC dX0_burn_62 (tgt := 2) (by decide) ?_
            refine j_pick [0, 1, 2] ?_
            refine j_unfocus i 1 (lmap_cur (f := (bF x)) (X := X) (i := i) (by omega)) rfl rfl rfl ?_
            dsimp only [List.set, List.dropLast]
            have hs := show jiter (bStep x X) (I 8, I 9) (i + 1) = bStep x X i (jiter (bStep x X) (I 8, I 9) i) from rfl
            rw [← h1] at hs
            have hcc := c_26
            rw [h2] at hcc
            first | rw [bStep_a hcc] at hs | rw [bStep_b hcc (jb1 c_33)] at hs | rw [bStep_c hcc (jb0 c_33)] at hs
            first | rw [lmap_next (by omega) (bF_a hcc).symm] | rw [lmap_next (by omega) (bF_b hcc).symm]
            exact ih_2 (i + 1) _ _ (by omega) (by omega) (jsucc e_59 h2) hs.symm (by first | exact hI | (intro f q1 q2; show (if f = 8 then _ else I1 f) = I f; rw [if_neg q1]; exact hI f q1 q2) | (intro f q1 q2; show (if f = 9 then _ else I1 f) = I f; rw [if_neg q2]; exact hI f q1 q2))
  refine j_pick [0, 1, 2] ?_
  rw [show lts X = lts (lmap (lpre 0 (bF x)) X) by rw [lmap_0]]
  exact L_2 (k + 1) 0 _ I (by omega) (by omega) (e_1.trans nI_0.symm) rfl (fun _ _ _ => rfl)
