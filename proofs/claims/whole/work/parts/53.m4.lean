/-! the model's lamps, counts and times -/
theorem lok_put {c : Int} {P Q : jF} {i : Nat} {L : jF} {l : Int32} (h : lok c P i L) (hl : 0 ≤ l.toInt ∧ l.toInt ≤ 2) (e : Q = upd (upd P (1 + 9 * i + 3) l) (1 + 9 * i + 7) 0) : lok c Q i (putL L l) := by
  obtain ⟨h1, h2, ⟨r1, r2, r3, r4, r5, r6⟩, h4⟩ := h
  subst e
  refine ⟨fun f hf q => ?_, ?_, ⟨r1, r2, hl, r4, r5, r6⟩, by rw [pk_us]; decide⟩
  · rw [pk_un (by omega)]
    show _ = upd (upd L 3 l) 7 (lifeOf l) f
    rw [pk_un q]
    by_cases w : f = 3
    · rw [w, pk_us, pk_us]
    · rw [pk_un (by omega), pk_un w]; exact h1 f hf q
  · rw [pk_us]
    show lifeOf l = jmax 0 (lifeOf l - 0)
    rcases i0123 hl.1 (by omega) with rfl | rfl | rfl | rfl <;> rfl
def putS (S : BS) (j : Nat) (y : Int32) : BS := sSt (sLs S ((bLs S).set j (putL (LI S j) y))) (stTo (bSt S) y (stk (bSt S) y - 1))
theorem stk_to {st : Int32 × Int32 × Int32} {l : Nat} {v : Int32} (hl : l < 3) : stk (stTo st (nI l) v) (nI l) = v := by
  match l, hl with
  | 0, _ => rfl
  | 1, _ => rfl
  | 2, _ => rfl
theorem puts_MP {P Q : jF} {S : BS} {i l : Nat} {v : Int32} (h : MP P S) (hi : i < (bLs S).length) (hl : l < 3) (hs : 1 ≤ (P (106 + l)).toInt) (hv : v = P (106 + l) - 1) (e : Q = upd (upd (upd P (1 + 9 * i + 3) (nI l)) (1 + 9 * i + 7) 0) (106 + l) v) : MP Q (putS S i (nI l)) := by
  have h10 := h.1.2
  have hlt : (nI l).toInt = l := nI_toInt (by omega)
  obtain ⟨k1, k2, k3⟩ := mp_stk h hl
  have h1 := MP_light (Q := upd (upd P (1 + 9 * i + 3) (nI l)) (1 + 9 * i + 7) 0) h hi (lok_put (h.2.1 i hi) (by rw [hlt]; omega) rfl) (pfr_upd (pfr_upd pfr_refl rfl (by decide)) rfl (by decide))
  have h2 := MP_st h1 hl e (by rw [hv, isub_t rfl (show (1 : Int32).toInt = 1 by decide) (by omega) (by omega)]; omega)
  unfold putS
  rw [← k1, ← hv]
  exact h2
def kd : Nat → Int32
  | 0 => 2
  | 1 => 1
  | 2 => 0
  | _ => -1
theorem kd_idx : ∀ t, t < 3 → 106 + kd t = nI (108 - t) := by decide
theorem kd_neg : ∀ t, t < 4 → (kd t < 0 ↔ t = 3) := by decide
theorem kd_next : ∀ t, t < 3 → kd t + -1 = kd (t + 1) := by decide
theorem kd_nI : ∀ t, t < 3 → kd t = nI (2 - t) := by decide
theorem kd_ok : ∀ t, t < 3 → okLamp (kd t) := by decide
theorem stk_pos {v : Int32} (h : 0 ≤ v.toInt) : ¬ v ≤ 0 ↔ ¬ v = 0 := by
  rw [ile_t, z_t]
  refine ⟨fun q w => q (by rw [w, z_t]; decide), fun q w => q (i_eq (by rw [z_t]; omega))⟩
theorem lip_a {st : Int32 × Int32 × Int32} {x : Int32} (hx : okLamp x) (h : ¬ stk st x ≤ 0) : lipS st x = x := by
  unfold lipS stkO
  rw [if_pos hx, if_pos h]
theorem lip_k {st : Int32 × Int32 × Int32} {x : Int32} (hx : okLamp x) (h : stk st x ≤ 0) {t : Nat} (ht : t < 3) (hz : ∀ u, u < t → stk st (kd u) = 0) (hk : ¬ stk st (kd t) ≤ 0) : lipS st x = if widthOf (kd t) < widthOf x then -9 else kd t := by
  unfold lipS stkO
  rw [if_pos hx, if_neg (fun q => q h), if_pos (show okLamp 2 by decide), if_pos (show okLamp 1 by decide), if_pos (show okLamp 0 by decide)]
  match t, ht with
  | 0, _ => exact if_pos hk
  | 1, _ =>
    have h0 : stk st 2 = 0 := hz 0 (by decide)
    rw [if_neg (fun q => q (by rw [h0]; decide))]
    exact if_pos hk
  | 2, _ =>
    have h0 : stk st 2 = 0 := hz 0 (by decide)
    have h1 : stk st 1 = 0 := hz 1 (by decide)
    rw [if_neg (fun q => q (by rw [h0]; decide)), if_neg (fun q => q (by rw [h1]; decide))]
    exact if_pos hk
theorem lip_n {st : Int32 × Int32 × Int32} {x : Int32} (hx : okLamp x) (h : stk st x ≤ 0) (hz : ∀ u, u < 3 → stk st (kd u) = 0) : lipS st x = -9 := by
  unfold lipS stkO
  have h0 : stk st 2 = 0 := hz 0 (by decide)
  have h1 : stk st 1 = 0 := hz 1 (by decide)
  have h2 : stk st 0 = 0 := hz 2 (by decide)
  rw [if_pos hx, if_neg (fun q => q h), if_pos (show okLamp 2 by decide), if_pos (show okLamp 1 by decide), if_pos (show okLamp 0 by decide), if_neg (fun q => q (by rw [h0]; decide)), if_neg (fun q => q (by rw [h1]; decide)), if_neg (fun q => q (by rw [h2]; decide))]
theorem st_pos {p : Prop} [Decidable p] {v n : Int32} (h : p) (e : v = n + 1) : v = if p then n + 1 else n := by rw [if_pos h]; exact e
theorem st_neg {p : Prop} [Decidable p] {v n : Int32} (h : ¬ p) (e : v = n + 0) : v = if p then n + 1 else n := by rw [if_neg h, e, Int32.add_zero]
theorem inR_reach {c : Int} {L : jF} {q : Nat} (h : rg c L) (hq : q ≤ 200) : inR L q ↔ reachB L (nI q) := by
  obtain ⟨⟨r1, r2⟩, -⟩ := h
  have hw : 0 ≤ (widthOf (L 3)).toInt ∧ (widthOf (L 3)).toInt ≤ 9 := by
    unfold widthOf
    by_cases q1 : L 3 = 0
    · rw [if_pos q1]; decide
    · rw [if_neg q1]
      by_cases q2 : L 3 = 1
      · rw [if_pos q2]; decide
      · rw [if_neg q2]; decide
  have hqt : (nI q).toInt = q := nI_toInt (by omega)
  have h2 : (200 : Int32).toInt = 200 := by decide
  have e1 : (nI q - L 0).toInt = q - (L 0).toInt := isub_t hqt rfl (by omega) (by omega)
  have e2 : (L 0 - widthOf (L 3)).toInt = (L 0).toInt - (widthOf (L 3)).toInt := isub_t rfl rfl (by omega) (by omega)
  have e3 : (L 0 + widthOf (L 3)).toInt = (L 0).toInt + (widthOf (L 3)).toInt := iadd_t rfl rfl (by omega) (by omega)
  unfold inR fstR lstR reachB jabs
  rw [jmax_toInt, jmin_toInt, e2, e3, z_t, h2]
  by_cases w : 0 ≤ nI q - L 0
  · rw [if_pos w, ile_t, e1]
    rw [ile_t, z_t, e1] at w
    omega
  · rw [if_neg w, ile_t, isub_t z_t e1 (by omega) (by omega)]
    rw [ile_t, z_t, e1] at w
    omega
/-! the smallest of the greatest -/
def mnG (S : BS) (s : Int32) (q i : Nat) : Int32 := jiter (minStep (lsX (bLs S)) s q) 0 i
theorem mnG_s {S : BS} {s : Int32} {q i : Nat} : mnG S s q (i + 1) = if (s >>> (nI i &&& 31)) &&& 1 = 1 ∧ inR (LI S i) q then jmax (mnG S s q i) (endL (LI S i)) else mnG S s q i := by
  unfold mnG; rw [jit_s]; rfl
theorem mn_a {S : BS} {c : Int} {s x6 x5 v : Int32} {i q : Nat} (hx : x6 = nI i) (hl : rg c (LI S i)) (hq : q ≤ 200) (h5 : x5 = mnG S s q i) (cb : (s >>> (x6 &&& 31)) &&& 1 = 1) (cr : reachB (LI S i) (nI q)) (ce : ¬ endL (LI S i) ≤ x5) (e : v = endL (LI S i)) : v = mnG S s q (i + 1) := by
  subst hx
  rw [mnG_s, if_pos ⟨cb, (inR_reach hl hq).mpr cr⟩, ← h5, e]
  exact (if_pos (Int32.not_le.mp ce)).symm
theorem mn_b {S : BS} {c : Int} {s x6 x5 v : Int32} {i q : Nat} (hx : x6 = nI i) (hl : rg c (LI S i)) (hq : q ≤ 200) (h5 : x5 = mnG S s q i) (cb : (s >>> (x6 &&& 31)) &&& 1 = 1) (cr : reachB (LI S i) (nI q)) (ce : endL (LI S i) ≤ x5) (e : v = x5) : v = mnG S s q (i + 1) := by
  subst hx
  rw [mnG_s, if_pos ⟨cb, (inR_reach hl hq).mpr cr⟩, ← h5, e]
  exact (if_neg (Int32.not_lt.mpr ce)).symm
theorem mn_c {S : BS} {s x6 x5 : Int32} {i q : Nat} (hx : x6 = nI i) (h5 : x5 = mnG S s q i) (cb : ¬ (s >>> (x6 &&& 31)) &&& 1 = 1) : x5 = mnG S s q (i + 1) := by
  subst hx
  rw [mnG_s, if_neg (fun w => cb w.1)]; exact h5
theorem mn_d {S : BS} {c : Int} {s x5 : Int32} {i q : Nat} (hl : rg c (LI S i)) (hq : q ≤ 200) (h5 : x5 = mnG S s q i) (cr : ¬ reachB (LI S i) (nI q)) : x5 = mnG S s q (i + 1) := by
  rw [mnG_s, if_neg (fun w => cr ((inR_reach hl hq).mp w.2))]; exact h5
theorem mnG_0 {S : BS} {s : Int32} {q : Nat} : ∀ i, 0 ≤ (mnG S s q i).toInt
  | 0 => by show 0 ≤ (0 : Int32).toInt; decide
  | i + 1 => by
    have h := mnG_0 (S := S) (s := s) (q := q) i
    rw [mnG_s]
    by_cases w : (s >>> (nI i &&& 31)) &&& 1 = 1 ∧ inR (LI S i) q
    · rw [if_pos w, jmax_toInt]; omega
    · rw [if_neg w]; exact h
def lnS (S : BS) (s : Int32) (a : Nat) : Nat → Int32
  | 0 => -9
  | t + 1 => if lnS S s a t = -9 ∨ mnG S s (a + t) (bLs S).length < lnS S s a t then mnG S s (a + t) (bLs S).length else lnS S s a t
theorem lnS_s {S : BS} {s : Int32} {a t : Nat} : lnS S s a (t + 1) = if lnS S s a t = -9 ∨ mnG S s (a + t) (bLs S).length < lnS S s a t then mnG S s (a + t) (bLs S).length else lnS S s a t := rfl
theorem ln_a {S : BS} {s x3 x5 v : Int32} {a t : Nat} (h3 : x3 = lnS S s a t) (h5 : x5 = mnG S s (a + t) (bLs S).length) (c : x3 = -9) (e : v = x5) : v = lnS S s a (t + 1) := by
  rw [lnS_s, ← h3, if_pos (Or.inl c), e, h5]
theorem ln_b {S : BS} {s x3 x5 v : Int32} {a t : Nat} (h3 : x3 = lnS S s a t) (h5 : x5 = mnG S s (a + t) (bLs S).length) (c : ¬ x3 ≤ x5) (e : v = x5) : v = lnS S s a (t + 1) := by
  rw [lnS_s, ← h3, ← h5, if_pos (Or.inr (Int32.not_le.mp c)), e]
theorem ln_c {S : BS} {s x3 x5 v : Int32} {a t : Nat} (h3 : x3 = lnS S s a t) (h5 : x5 = mnG S s (a + t) (bLs S).length) (c0 : ¬ x3 = -9) (c : x3 ≤ x5) (e : v = x3) : v = lnS S s a (t + 1) := by
  rw [lnS_s, ← h3, ← h5, if_neg (fun w => w.elim c0 (fun z => Int32.not_lt.mpr c z)), e]
theorem lnS_min {S : BS} {s : Int32} {a : Nat} : ∀ t, 0 ≤ (lnS S s a (t + 1)).toInt ∧ lnS S s a (t + 1) = sMin S s a (a + t)
  | 0 => by
    rw [lnS_s, if_pos (Or.inl (show lnS S s a 0 = -9 from rfl))]
    refine ⟨mnG_0 _, ?_⟩
    unfold sMin minN
    rw [show a + 0 - a = 0 by omega, jit_0]; rfl
  | t + 1 => by
    obtain ⟨h1, h2⟩ := lnS_min (S := S) (s := s) (a := a) t
    have h0 : ¬ lnS S s a (t + 1) = -9 := fun q => by rw [q] at h1; exact absurd h1 (by decide)
    have e : sMin S s a (a + (t + 1)) = jmin (sMin S s a (a + t)) (mnG S s (a + (t + 1)) (bLs S).length) := by
      unfold sMin minN
      rw [show a + (t + 1) - a = t + 1 by omega, show a + t - a = t by omega, jit_s, show a + 1 + t = a + (t + 1) by omega]; rfl
    rw [lnS_s, e, ← h2]
    unfold jmin
    by_cases w : mnG S s (a + (t + 1)) (bLs S).length < lnS S s a (t + 1)
    · rw [if_pos (Or.inr w), if_pos w]; exact ⟨mnG_0 _, rfl⟩
    · rw [if_neg (fun q => q.elim h0 w), if_neg w]; exact ⟨h1, rfl⟩
theorem pow_k : ∀ k, k < 11 → (1 : Int32) <<< (nI k &&& 31) = nI (2 ^ k) := by decide
theorem hld_in {S : BS} {v s : Int32} (h : v = nI (bLs S).length) (hk : (bLs S).length ≤ 10) : in01 s 0 ((1 <<< (v &&& 31)) - 1) ↔ hldS S s := by
  have h2 := pow_1024 hk
  rw [h, full_k _ (by omega)]
  unfold in01 hldS
  rw [pow_k _ (by omega), ile_t, ile_t, ile_t, ilt_t, z_t, nI_toInt (by omega), nI_toInt (by omega)]
  have := Nat.two_pow_pos (bLs S).length
  omega
theorem wo_a {v n : Int32} {p : Prop} [Decidable p] {m : Int32} (h : p) (e : v = n ||| 0) : v = if p then n else n ||| m := by
  rw [if_pos h, e]; exact Int32.or_zero
theorem wo_b {v n : Int32} {p : Prop} [Decidable p] {m : Int32} (h : ¬ p) (e : v = n ||| m) : v = if p then n else n ||| m := by
  rw [if_neg h, e]
def wcP (S : BS) (a b t : Nat) : Int32 × Int32 := jiter (fun t (s : Int32 × Int32) => if sMin S (sWo S (nI (t + 1))) a b < s.2 then (nI (t + 1), sMin S (sWo S (nI (t + 1))) a b) else s) (0, sMin S (sWo S 0) a b) t
theorem wcP_s {S : BS} {a b t : Nat} : wcP S a b (t + 1) = if sMin S (sWo S (nI (t + 1))) a b < (wcP S a b t).2 then (nI (t + 1), sMin S (sWo S (nI (t + 1))) a b) else wcP S a b t := by
  unfold wcP; rw [jit_s]
theorem wcP_2 {S : BS} {a b : Nat} : ∀ t, (wcP S a b t).2 = sMin S (sWo S (wcP S a b t).1) a b
  | 0 => rfl
  | t + 1 => by
    rw [wcP_s]
    by_cases w : sMin S (sWo S (nI (t + 1))) a b < (wcP S a b t).2
    · rw [if_pos w]
    · rw [if_neg w]; exact wcP_2 t
theorem wcP_3 {S : BS} {a b : Nat} : (wcP S a b 3).1 = sWc S a b := rfl
theorem wc_a {S : BS} {a b t : Nat} {x3 x4 x5 v6 v3 v4 : Int32} (h : (x3, x4) = wcP S a b t) (h5 : x5 = nI (t + 1)) (e6 : v6 = sMin S (sWo S x5) a b) (c : ¬ x4 ≤ v6) (e3 : v3 = x5) (e4 : v4 = v6) : (v3, v4) = wcP S a b (t + 1) := by
  rw [wcP_s, ← h]
  subst h5
  rw [if_pos (by rw [← e6]; exact Int32.not_le.mp c), e3, e4, e6]
theorem wc_b {S : BS} {a b t : Nat} {x3 x4 x5 v6 v3 v4 : Int32} (h : (x3, x4) = wcP S a b t) (h5 : x5 = nI (t + 1)) (e6 : v6 = sMin S (sWo S x5) a b) (c : x4 ≤ v6) (e3 : v3 = x3) (e4 : v4 = x4) : (v3, v4) = wcP S a b (t + 1) := by
  rw [wcP_s, ← h]
  subst h5
  rw [if_neg (by rw [← e6]; exact Int32.not_lt.mpr c), e3, e4]
set_option maxHeartbeats 1000000 in
set_option maxRecDepth 100000 in
theorem c_X7_ready (g : jG) (d : Nat → Nat) (I : jF) (A : Nat → jF) (S : BS) (hp : MP (A 1) S) : Con g yX7_ready cX7_ready 3 (some .int) 5 109 0 0 [.ref (d 0)] [mc g d I A] (jR (some (.int (sRdy S))) [mc g d I A]) := by
  refine Con.of (own := RX7) (lv := [(0, .ref (d 0))]) (by decide) rfl (Nat.le_of_ble_eq_true rfl) rfl ?_
  intro E hC hQ hN
  obtain ⟨⟨hq0, hk10⟩, hql, ⟨hq91, hn6⟩, hqr, ⟨hq4, hnd⟩, ⟨hq5, hqh⟩, ⟨hq6, hqs⟩, hq9, hq10⟩ := id hp
  refine j_iconst hC (0) dX7_ready_0 (by decide) ?_
  refine j_istore_n hC dX7_ready_1 rfl rfl rfl rfl (fun v_1 e_1 => ?_)
  refine j_iconst hC (0) dX7_ready_2 (by decide) ?_
  refine j_istore_n hC dX7_ready_3 rfl rfl rfl rfl (fun v_3 e_3 => ?_)
  have L_4 : ∀ (fu : Nat) (i : Nat) (x1 x2 : Int32) (hfu : (bLs S).length + 1 ≤ i + fu) (hi : i ≤ (bLs S).length) (h1 : x1 = jiter (cReady (bNeed S) (lsX (bLs S))) 0 i) (h2 : x2 = nI i), J g (jRm 5 109 0 0) E 3 4 [(0, .ref (d 0)), (1, .int x1), (2, .int x2)] [] [mc g d I A] (0) (0) := by
    intro fu
    induction fu with
    | zero => intro i x1 x2 hfu hi h1 h2; exact absurd hfu (by omega)
    | succ fu ih_4 =>
      intro i x1 x2 hfu hi h1 h2
      refine j_iload_n hC dX7_ready_4 rfl rfl ?_
      refine j_aload_n hC dX7_ready_5 rfl rfl ?_
      refine j_callVR hC [0] (c_X7_lights g _ _ _) mX7_lights k787 rfl rfl rfl rfl rfl ⟨(Nat.le_of_ble_eq_true rfl), (Nat.le_of_ble_eq_true rfl)⟩ (Nat.le_of_ble_eq_true rfl) ⟨(Nat.le_of_ble_eq_true rfl), (Nat.le_of_ble_eq_true rfl)⟩ dX7_ready_6 ?_
      dsimp only [jrepl, List.set, jstk]
      refine j_icmp_ge hC dX7_ready_9 (tgt := 34) (by decide) (fun c_9 => ?_) (fun c_9 => ?_)
      · skip
        have hie : i = (bLs S).length := Nat.le_antisymm hi (jge hq0 h2 (by omega) (by omega) c_9)
        rw [hie] at h1
        refine j_iload_n hC dX7_ready_34 rfl rfl ?_
        refine j_iret hC hQ rfl rfl (Nat.le_of_ble_eq_true rfl) (Nat.le_of_ble_eq_true rfl) dX7_ready_35 rfl ⟨?_, ?_⟩
        · exact congrArg (fun z => some (Value.int z)) h1
        · rfl
      · skip
        have hik : i < (bLs S).length := jlt hq0 h2 (by omega) (by omega) c_9
        have hli := hql i hik
        refine j_iload_n hC dX7_ready_12 rfl rfl ?_
        refine j_aload_n hC dX7_ready_13 rfl rfl ?_
        refine j_iload_n hC dX7_ready_14 rfl rfl ?_
        refine j_callVR hC [0] (c_X7_isReady g _ _ _ _ _ _ _ h2 (by omega) hli) mX7_isReady k931 rfl rfl rfl rfl rfl ⟨(Nat.le_of_ble_eq_true rfl), (Nat.le_of_ble_eq_true rfl)⟩ (Nat.le_of_ble_eq_true rfl) ⟨(Nat.le_of_ble_eq_true rfl), (Nat.le_of_ble_eq_true rfl)⟩ dX7_ready_15 ?_
        dsimp only [jrepl, List.set, jstk]
        refine j_if_eq hC dX7_ready_18 (tgt := 25) (by decide) (fun c_18 => ?_) (fun c_18 => ?_)
        · skip
          refine j_iconst hC (0) dX7_ready_25 (by decide) ?_
          refine j_iadd hC dX7_ready_26 ?_
          refine j_istore_n hC dX7_ready_27 rfl rfl rfl rfl (fun v_27 e_27 => ?_)
          refine j_iinc hC (1) dX7_ready_28 rfl rfl rfl rfl rfl (fun v_28 e_28 => ?_)
          refine j_goto hC dX7_ready_31 (tgt := 4) (by decide) ?_
          refine j_pick [0, 1, 2] ?_
          exact ih_4 (i + 1) _ _ (by omega) (by omega) (by show _ = (if _ then _ else _); rw [← h1]; first | exact st_pos (hq4 ▸ jb1 c_18) e_27 | exact st_neg (hq4 ▸ jb0 c_18) e_27) (jsucc e_28 h2)
        · skip
          refine j_iconst hC (1) dX7_ready_21 (by decide) ?_
          refine j_goto hC dX7_ready_22 (tgt := 26) (by decide) ?_
          refine j_iadd hC dX7_ready_26 ?_
          refine j_istore_n hC dX7_ready_27 rfl rfl rfl rfl (fun v_27 e_27 => ?_)
          refine j_iinc hC (1) dX7_ready_28 rfl rfl rfl rfl rfl (fun v_28 e_28 => ?_)
          refine j_goto hC dX7_ready_31 (tgt := 4) (by decide) ?_
          refine j_pick [0, 1, 2] ?_
          exact ih_4 (i + 1) _ _ (by omega) (by omega) (by show _ = (if _ then _ else _); rw [← h1]; first | exact st_pos (hq4 ▸ jb1 c_18) e_27 | exact st_neg (hq4 ▸ jb0 c_18) e_27) (jsucc e_28 h2)
  refine j_pick [0, 1, 2] ?_
  exact L_4 ((bLs S).length + 1) 0 _ _ (by omega) (by omega) e_1 (e_3.trans nI_0.symm)
set_option maxHeartbeats 1000000 in
set_option maxRecDepth 100000 in
theorem c_X7_burntOut (g : jG) (d : Nat → Nat) (I : jF) (A : Nat → jF) (S : BS) (hp : MP (A 1) S) : Con g yX7_burntOut cX7_burntOut 3 (some .int) 3 66 0 0 [.ref (d 0)] [mc g d I A] (jR (some (.int (sBurnt S))) [mc g d I A]) := by
  refine Con.of (own := RX7) (lv := [(0, .ref (d 0))]) (by decide) rfl (Nat.le_of_ble_eq_true rfl) rfl ?_
  intro E hC hQ hN
  obtain ⟨⟨hq0, hk10⟩, hql, ⟨hq91, hn6⟩, hqr, ⟨hq4, hnd⟩, ⟨hq5, hqh⟩, ⟨hq6, hqs⟩, hq9, hq10⟩ := id hp
  refine j_iconst hC (0) dX7_burntOut_0 (by decide) ?_
  refine j_istore_n hC dX7_burntOut_1 rfl rfl rfl rfl (fun v_1 e_1 => ?_)
  refine j_iconst hC (0) dX7_burntOut_2 (by decide) ?_
  refine j_istore_n hC dX7_burntOut_3 rfl rfl rfl rfl (fun v_3 e_3 => ?_)
  have L_4 : ∀ (fu : Nat) (i : Nat) (x1 x2 : Int32) (hfu : (bLs S).length + 1 ≤ i + fu) (hi : i ≤ (bLs S).length) (h1 : x1 = jiter (cBurnt (lsX (bLs S))) 0 i) (h2 : x2 = nI i), J g (jRm 3 66 0 0) E 3 4 [(0, .ref (d 0)), (1, .int x1), (2, .int x2)] [] [mc g d I A] (0) (0) := by
    intro fu
    induction fu with
    | zero => intro i x1 x2 hfu hi h1 h2; exact absurd hfu (by omega)
    | succ fu ih_4 =>
      intro i x1 x2 hfu hi h1 h2
      refine j_iload_n hC dX7_burntOut_4 rfl rfl ?_
      refine j_aload_n hC dX7_burntOut_5 rfl rfl ?_
      refine j_callVR hC [0] (c_X7_lights g _ _ _) mX7_lights k787 rfl rfl rfl rfl rfl ⟨(Nat.le_of_ble_eq_true rfl), (Nat.le_of_ble_eq_true rfl)⟩ (Nat.le_of_ble_eq_true rfl) ⟨(Nat.le_of_ble_eq_true rfl), (Nat.le_of_ble_eq_true rfl)⟩ dX7_burntOut_6 ?_
      dsimp only [jrepl, List.set, jstk]
      refine j_icmp_ge hC dX7_burntOut_9 (tgt := 34) (by decide) (fun c_9 => ?_) (fun c_9 => ?_)
      · skip
        have hie : i = (bLs S).length := Nat.le_antisymm hi (jge hq0 h2 (by omega) (by omega) c_9)
        rw [hie] at h1
        refine j_iload_n hC dX7_burntOut_34 rfl rfl ?_
        refine j_iret hC hQ rfl rfl (Nat.le_of_ble_eq_true rfl) (Nat.le_of_ble_eq_true rfl) dX7_burntOut_35 rfl ⟨?_, ?_⟩
        · exact congrArg (fun z => some (Value.int z)) h1
        · rfl
      · skip
        have hik : i < (bLs S).length := jlt hq0 h2 (by omega) (by omega) c_9
        have hli := hql i hik
        refine j_iload_n hC dX7_burntOut_12 rfl rfl ?_
        refine j_aload_n hC dX7_burntOut_13 rfl rfl ?_
        refine j_iload_n hC dX7_burntOut_14 rfl rfl ?_
        refine j_callVR hC [0] (c_X7_restOf g _ _ _ _ _ _ _ h2 (by omega) hli) mX7_restOf k895 rfl rfl rfl rfl rfl ⟨(Nat.le_of_ble_eq_true rfl), (Nat.le_of_ble_eq_true rfl)⟩ (Nat.le_of_ble_eq_true rfl) ⟨(Nat.le_of_ble_eq_true rfl), (Nat.le_of_ble_eq_true rfl)⟩ dX7_burntOut_15 ?_
        dsimp only [jrepl, List.set, jstk]
        refine j_if_ne hC dX7_burntOut_18 (tgt := 25) (by decide) (fun c_18 => ?_) (fun c_18 => ?_)
        · skip
          refine j_iconst hC (0) dX7_burntOut_25 (by decide) ?_
          refine j_iadd hC dX7_burntOut_26 ?_
          refine j_istore_n hC dX7_burntOut_27 rfl rfl rfl rfl (fun v_27 e_27 => ?_)
          refine j_iinc hC (1) dX7_burntOut_28 rfl rfl rfl rfl rfl (fun v_28 e_28 => ?_)
          refine j_goto hC dX7_burntOut_31 (tgt := 4) (by decide) ?_
          refine j_pick [0, 1, 2] ?_
          exact ih_4 (i + 1) _ _ (by omega) (by omega) (by show _ = (if _ then _ else _); rw [← h1]; first | exact st_pos (c_18) e_27 | exact st_neg (c_18) e_27) (jsucc e_28 h2)
        · skip
          refine j_iconst hC (1) dX7_burntOut_21 (by decide) ?_
          refine j_goto hC dX7_burntOut_22 (tgt := 26) (by decide) ?_
          refine j_iadd hC dX7_burntOut_26 ?_
          refine j_istore_n hC dX7_burntOut_27 rfl rfl rfl rfl (fun v_27 e_27 => ?_)
          refine j_iinc hC (1) dX7_burntOut_28 rfl rfl rfl rfl rfl (fun v_28 e_28 => ?_)
          refine j_goto hC dX7_burntOut_31 (tgt := 4) (by decide) ?_
          refine j_pick [0, 1, 2] ?_
          exact ih_4 (i + 1) _ _ (by omega) (by omega) (by show _ = (if _ then _ else _); rw [← h1]; first | exact st_pos (c_18) e_27 | exact st_neg (c_18) e_27) (jsucc e_28 h2)
  refine j_pick [0, 1, 2] ?_
  exact L_4 ((bLs S).length + 1) 0 _ _ (by omega) (by omega) e_1 (e_3.trans nI_0.symm)
set_option maxHeartbeats 1000000 in
set_option maxRecDepth 100000 in
theorem c_X7_reaching (g : jG) (d : Nat → Nat) (T : St3) (b : List va_W) (p r : Int32) (h : MW g d T b) : Con g yX7_reaching cX7_reaching 5 (some .int) 5 109 0 0 [.ref (d 0), .int p, .int r] b (fun rr bb => rr = some (.int (oReaching T p r).1) ∧ MW g d (oReaching T p r).2 bb) := by
  obtain ⟨I, A, rfl, hMI⟩ := h
  obtain ⟨hm1, hmp, hmh, hmt⟩ := id hMI
  obtain ⟨⟨hq0, hk10⟩, hql, ⟨hq91, hn6⟩, hqr, ⟨hq4, hnd⟩, ⟨hq5, hqh⟩, ⟨hq6, hqs⟩, hq9, hq10⟩ := id hmp
  refine Con.of (own := RX7) (lv := [(0, .ref (d 0)), (1, .int p), (2, .int r)]) (by decide) rfl (Nat.le_of_ble_eq_true rfl) rfl ?_
  intro E hC hQ hN
  refine j_iload_n hC dX7_reaching_0 rfl rfl ?_
  refine j_callSR hC [] (c_X7_isPlace g _) mX7_isPlace k778 rfl rfl rfl ⟨(Nat.le_of_ble_eq_true rfl), (Nat.le_of_ble_eq_true rfl)⟩ (Nat.le_of_ble_eq_true rfl) ⟨(Nat.le_of_ble_eq_true rfl), (Nat.le_of_ble_eq_true rfl)⟩ dX7_reaching_1 ?_
  dsimp only [jrepl, List.set, jstk]
  refine j_if_ne hC dX7_reaching_4 (tgt := 9) (by decide) (fun c_4 => ?_) (fun c_4 => ?_)
  · skip
    obtain ⟨pn, hpn, hpx⟩ := in_nat (M := 200) (m := 200) rfl (by decide) (jb1 c_4)
    refine j_iconst hC (0) dX7_reaching_9 (by decide) ?_
    refine j_istore_n hC dX7_reaching_10 rfl rfl rfl rfl (fun v_10 e_10 => ?_)
    refine j_iconst hC (0) dX7_reaching_11 (by decide) ?_
    refine j_istore hC dX7_reaching_12 rfl rfl rfl (fun v_12 e_12 => ?_)
    have L_14 : ∀ (fu : Nat) (i : Nat) (x3 x4 : Int32) (hfu : (bLs T.1).length + 1 ≤ i + fu) (hi : i ≤ (bLs T.1).length) (h3 : x3 = jiter (cReach (bNeed T.1) (lsX (bLs T.1)) p r) 0 i) (h4 : x4 = nI i), J g (jRm 5 109 0 0) E 5 14 [(0, .ref (d 0)), (1, .int p), (2, .int r), (3, .int x3), (4, .int x4)] [] [mc g d I A] (0) (0) := by
      intro fu
      induction fu with
      | zero => intro i x3 x4 hfu hi h3 h4; exact absurd hfu (by omega)
      | succ fu ih_14 =>
        intro i x3 x4 hfu hi h3 h4
        refine j_iload hC dX7_reaching_14 rfl ?_
        refine j_aload_n hC dX7_reaching_16 rfl rfl ?_
        refine j_callVR hC [0] (c_X7_lights g _ _ _) mX7_lights k787 rfl rfl rfl rfl rfl ⟨(Nat.le_of_ble_eq_true rfl), (Nat.le_of_ble_eq_true rfl)⟩ (Nat.le_of_ble_eq_true rfl) ⟨(Nat.le_of_ble_eq_true rfl), (Nat.le_of_ble_eq_true rfl)⟩ dX7_reaching_17 ?_
        dsimp only [jrepl, List.set, jstk]
        refine j_icmp_ge hC dX7_reaching_20 (tgt := 60) (by decide) (fun c_20 => ?_) (fun c_20 => ?_)
        · skip
          have hie : i = (bLs T.1).length := Nat.le_antisymm hi (jge hq0 h4 (by omega) (by omega) c_20)
          rw [hie] at h3
          refine j_iload_n hC dX7_reaching_60 rfl rfl ?_
          refine j_iret hC hQ rfl rfl (Nat.le_of_ble_eq_true rfl) (Nat.le_of_ble_eq_true rfl) dX7_reaching_61 rfl ?_
          exact mw_c (v := sReach T.1 p r) (by unfold oReaching; rw [if_pos (in_iff.mp (jb1 c_4))]) h3 hMI
        · skip
          have hik : i < (bLs T.1).length := jlt hq0 h4 (by omega) (by omega) c_20
          have hli := hql i hik
          refine j_iload_n hC dX7_reaching_23 rfl rfl ?_
          refine j_aload_n hC dX7_reaching_24 rfl rfl ?_
          refine j_iload hC dX7_reaching_25 rfl ?_
          refine j_iload_n hC dX7_reaching_27 rfl rfl ?_
          refine j_callVR hC [0] (c_X7_reaches g _ _ _ _ _ _ _ _ _ h4 (by omega) hli hpn hpx) mX7_reaches k951 rfl rfl rfl rfl rfl ⟨(Nat.le_of_ble_eq_true rfl), (Nat.le_of_ble_eq_true rfl)⟩ (Nat.le_of_ble_eq_true rfl) ⟨(Nat.le_of_ble_eq_true rfl), (Nat.le_of_ble_eq_true rfl)⟩ dX7_reaching_28 ?_
          dsimp only [jrepl, List.set, jstk]
          refine j_if_eq hC dX7_reaching_31 (tgt := 51) (by decide) (fun c_31 => ?_) (fun c_31 => ?_)
          · skip
            refine j_iconst hC (0) dX7_reaching_51 (by decide) ?_
            refine j_iadd hC dX7_reaching_52 ?_
            refine j_istore_n hC dX7_reaching_53 rfl rfl rfl rfl (fun v_53 e_53 => ?_)
            refine j_iinc hC (1) dX7_reaching_54 rfl rfl rfl rfl rfl (fun v_54 e_54 => ?_)
            refine j_goto hC dX7_reaching_57 (tgt := 14) (by decide) ?_
            refine j_pick [0, 1, 2, 3, 4] ?_
            exact ih_14 (i + 1) _ _ (by omega) (by omega) (by show _ = (if _ then _ else _); rw [← h3]; first | exact st_neg (fun w => jb0 c_31 w.1) e_53 | exact st_pos ⟨jb1 c_31, Or.inl c_35⟩ e_53 | exact st_pos ⟨jb1 c_31, Or.inr (hq4 ▸ jb1 c_44)⟩ e_53 | exact st_neg (fun w => w.2.elim c_35 (hq4 ▸ jb0 c_44)) e_53) (jsucc e_54 h4)
          · skip
            refine j_iload_n hC dX7_reaching_34 rfl rfl ?_
            refine j_if_eq hC dX7_reaching_35 (tgt := 47) (by decide) (fun c_35 => ?_) (fun c_35 => ?_)
            · skip
              refine j_iconst hC (1) dX7_reaching_47 (by decide) ?_
              refine j_goto hC dX7_reaching_48 (tgt := 52) (by decide) ?_
              refine j_iadd hC dX7_reaching_52 ?_
              refine j_istore_n hC dX7_reaching_53 rfl rfl rfl rfl (fun v_53 e_53 => ?_)
              refine j_iinc hC (1) dX7_reaching_54 rfl rfl rfl rfl rfl (fun v_54 e_54 => ?_)
              refine j_goto hC dX7_reaching_57 (tgt := 14) (by decide) ?_
              refine j_pick [0, 1, 2, 3, 4] ?_
              exact ih_14 (i + 1) _ _ (by omega) (by omega) (by show _ = (if _ then _ else _); rw [← h3]; first | exact st_neg (fun w => jb0 c_31 w.1) e_53 | exact st_pos ⟨jb1 c_31, Or.inl c_35⟩ e_53 | exact st_pos ⟨jb1 c_31, Or.inr (hq4 ▸ jb1 c_44)⟩ e_53 | exact st_neg (fun w => w.2.elim c_35 (hq4 ▸ jb0 c_44)) e_53) (jsucc e_54 h4)
            · skip
              refine j_aload_n hC dX7_reaching_38 rfl rfl ?_
              refine j_iload hC dX7_reaching_39 rfl ?_
              refine j_callVR hC [0] (c_X7_isReady g _ _ _ _ _ _ _ h4 (by omega) hli) mX7_isReady k931 rfl rfl rfl rfl rfl ⟨(Nat.le_of_ble_eq_true rfl), (Nat.le_of_ble_eq_true rfl)⟩ (Nat.le_of_ble_eq_true rfl) ⟨(Nat.le_of_ble_eq_true rfl), (Nat.le_of_ble_eq_true rfl)⟩ dX7_reaching_41 ?_
              dsimp only [jrepl, List.set, jstk]
              refine j_if_eq hC dX7_reaching_44 (tgt := 51) (by decide) (fun c_44 => ?_) (fun c_44 => ?_)
              · skip
                refine j_iconst hC (0) dX7_reaching_51 (by decide) ?_
                refine j_iadd hC dX7_reaching_52 ?_
                refine j_istore_n hC dX7_reaching_53 rfl rfl rfl rfl (fun v_53 e_53 => ?_)
                refine j_iinc hC (1) dX7_reaching_54 rfl rfl rfl rfl rfl (fun v_54 e_54 => ?_)
                refine j_goto hC dX7_reaching_57 (tgt := 14) (by decide) ?_
                refine j_pick [0, 1, 2, 3, 4] ?_
                exact ih_14 (i + 1) _ _ (by omega) (by omega) (by show _ = (if _ then _ else _); rw [← h3]; first | exact st_neg (fun w => jb0 c_31 w.1) e_53 | exact st_pos ⟨jb1 c_31, Or.inl c_35⟩ e_53 | exact st_pos ⟨jb1 c_31, Or.inr (hq4 ▸ jb1 c_44)⟩ e_53 | exact st_neg (fun w => w.2.elim c_35 (hq4 ▸ jb0 c_44)) e_53) (jsucc e_54 h4)
              · skip
                refine j_iconst hC (1) dX7_reaching_47 (by decide) ?_
                refine j_goto hC dX7_reaching_48 (tgt := 52) (by decide) ?_
                refine j_iadd hC dX7_reaching_52 ?_
                refine j_istore_n hC dX7_reaching_53 rfl rfl rfl rfl (fun v_53 e_53 => ?_)
                refine j_iinc hC (1) dX7_reaching_54 rfl rfl rfl rfl rfl (fun v_54 e_54 => ?_)
                refine j_goto hC dX7_reaching_57 (tgt := 14) (by decide) ?_
                refine j_pick [0, 1, 2, 3, 4] ?_
                exact ih_14 (i + 1) _ _ (by omega) (by omega) (by show _ = (if _ then _ else _); rw [← h3]; first | exact st_neg (fun w => jb0 c_31 w.1) e_53 | exact st_pos ⟨jb1 c_31, Or.inl c_35⟩ e_53 | exact st_pos ⟨jb1 c_31, Or.inr (hq4 ▸ jb1 c_44)⟩ e_53 | exact st_neg (fun w => w.2.elim c_35 (hq4 ▸ jb0 c_44)) e_53) (jsucc e_54 h4)
    refine j_pick [0, 1, 2, 3, 4] ?_
    exact L_14 ((bLs T.1).length + 1) 0 _ _ (by omega) (by omega) e_10 (e_12.trans nI_0.symm)
  · skip
    refine j_iconst hC (-1) dX7_reaching_7 (by decide) ?_
    refine j_iret hC hQ rfl rfl (Nat.le_of_ble_eq_true rfl) (Nat.le_of_ble_eq_true rfl) dX7_reaching_8 rfl ?_
    exact mw_o (by unfold oReaching; rw [if_neg (fun q => jb0 c_4 (in_iff.mpr q))]) hMI
set_option maxHeartbeats 1000000 in
set_option maxRecDepth 100000 in
theorem c_X7_isSet (g : jG) (d : Nat → Nat) (I : jF) (A : Nat → jF) (S : BS) (s : Int32) (hp : MP (A 1) S) : Con g yX7_isSet cX7_isSet 2 (some .boolean) 1 22 0 0 [.ref (d 0), .int s] [mc g d I A] (jR (some (.int (if hldS S s then 1 else 0))) [mc g d I A]) := by
  refine Con.of (own := RX7) (lv := [(0, .ref (d 0)), (1, .int s)]) (by decide) rfl (Nat.le_of_ble_eq_true rfl) rfl ?_
  intro E hC hQ hN
  obtain ⟨⟨hq0, hk10⟩, hql, ⟨hq91, hn6⟩, hqr, ⟨hq4, hnd⟩, ⟨hq5, hqh⟩, ⟨hq6, hqs⟩, hq9, hq10⟩ := id hp
  refine j_iload_n hC dX7_isSet_0 rfl rfl ?_
  refine j_iconst hC (0) dX7_isSet_1 (by decide) ?_
  refine j_iconst hC (1) dX7_isSet_2 (by decide) ?_
  refine j_aload_n hC dX7_isSet_3 rfl rfl ?_
  refine j_callVR hC [0] (c_X7_lights g _ _ _) mX7_lights k787 rfl rfl rfl rfl rfl ⟨(Nat.le_of_ble_eq_true rfl), (Nat.le_of_ble_eq_true rfl)⟩ (Nat.le_of_ble_eq_true rfl) ⟨(Nat.le_of_ble_eq_true rfl), (Nat.le_of_ble_eq_true rfl)⟩ dX7_isSet_4 ?_
  dsimp only [jrepl, List.set, jstk]
  refine j_ishl hC dX7_isSet_7 ?_
  refine j_iconst hC (1) dX7_isSet_8 (by decide) ?_
  refine j_isub hC dX7_isSet_9 ?_
  refine j_callSR hC [] (c_X7_in g _ _ _) mX7_in k781 rfl rfl rfl ⟨(Nat.le_of_ble_eq_true rfl), (Nat.le_of_ble_eq_true rfl)⟩ (Nat.le_of_ble_eq_true rfl) ⟨(Nat.le_of_ble_eq_true rfl), (Nat.le_of_ble_eq_true rfl)⟩ dX7_isSet_10 ?_
  dsimp only [jrepl, List.set, jstk]
  refine j_iret hC hQ rfl (by split <;> rfl) (Nat.le_of_ble_eq_true rfl) (Nat.le_of_ble_eq_true rfl) dX7_isSet_13 rfl ⟨?_, ?_⟩
  · exact congrArg (fun z => some (Value.int z)) (by by_cases w : hldS S s; rw [if_pos w, if_pos ((hld_in hq0 hk10).mpr w)]; rw [if_neg w, if_neg (fun q => w ((hld_in hq0 hk10).mp q))])
  · rfl
set_option maxHeartbeats 1000000 in
set_option maxRecDepth 100000 in
theorem c_X7_without (g : jG) (d : Nat → Nat) (I : jF) (A : Nat → jF) (S : BS) (x : Int32) (hp : MP (A 1) S) : Con g yX7_without cX7_without 4 (some .int) 2 44 0 0 [.ref (d 0), .int x] [mc g d I A] (jR (some (.int (sWo S x))) [mc g d I A]) := by
  refine Con.of (own := RX7) (lv := [(0, .ref (d 0)), (1, .int x)]) (by decide) rfl (Nat.le_of_ble_eq_true rfl) rfl ?_
  intro E hC hQ hN
  obtain ⟨⟨hq0, hk10⟩, hql, ⟨hq91, hn6⟩, hqr, ⟨hq4, hnd⟩, ⟨hq5, hqh⟩, ⟨hq6, hqs⟩, hq9, hq10⟩ := id hp
  refine j_iconst hC (0) dX7_without_0 (by decide) ?_
  refine j_istore_n hC dX7_without_1 rfl rfl rfl rfl (fun v_1 e_1 => ?_)
  refine j_iconst hC (0) dX7_without_2 (by decide) ?_
  refine j_istore_n hC dX7_without_3 rfl rfl rfl rfl (fun v_3 e_3 => ?_)
  have L_4 : ∀ (fu : Nat) (i : Nat) (x2 x3 : Int32) (hfu : (bLs S).length + 1 ≤ i + fu) (hi : i ≤ (bLs S).length) (h2 : x2 = jiter (cOther (lsX (bLs S)) x) 0 i) (h3 : x3 = nI i), J g (jRm 2 44 0 0) E 4 4 [(0, .ref (d 0)), (1, .int x), (2, .int x2), (3, .int x3)] [] [mc g d I A] (0) (0) := by
    intro fu
    induction fu with
    | zero => intro i x2 x3 hfu hi h2 h3; exact absurd hfu (by omega)
    | succ fu ih_4 =>
      intro i x2 x3 hfu hi h2 h3
      refine j_iload_n hC dX7_without_4 rfl rfl ?_
      refine j_aload_n hC dX7_without_5 rfl rfl ?_
      refine j_callVR hC [0] (c_X7_lights g _ _ _) mX7_lights k787 rfl rfl rfl rfl rfl ⟨(Nat.le_of_ble_eq_true rfl), (Nat.le_of_ble_eq_true rfl)⟩ (Nat.le_of_ble_eq_true rfl) ⟨(Nat.le_of_ble_eq_true rfl), (Nat.le_of_ble_eq_true rfl)⟩ dX7_without_6 ?_
      dsimp only [jrepl, List.set, jstk]
      refine j_icmp_ge hC dX7_without_9 (tgt := 38) (by decide) (fun c_9 => ?_) (fun c_9 => ?_)
      · skip
        have hie : i = (bLs S).length := Nat.le_antisymm hi (jge hq0 h3 (by omega) (by omega) c_9)
        rw [hie] at h2
        refine j_iload_n hC dX7_without_38 rfl rfl ?_
        refine j_iret hC hQ rfl rfl (Nat.le_of_ble_eq_true rfl) (Nat.le_of_ble_eq_true rfl) dX7_without_39 rfl ⟨?_, ?_⟩
        · exact congrArg (fun z => some (Value.int z)) h2
        · rfl
      · skip
        have hik : i < (bLs S).length := jlt hq0 h3 (by omega) (by omega) c_9
        have hli := hql i hik
        refine j_iload_n hC dX7_without_12 rfl rfl ?_
        refine j_aload_n hC dX7_without_13 rfl rfl ?_
        refine j_iload_n hC dX7_without_14 rfl rfl ?_
        refine j_iconst hC (1) dX7_without_15 (by decide) ?_
        refine j_callVR hC [0] (c_X7_of g _ _ _ _ 1 _ _ h3 (by omega) (by decide) (by decide)) mX7_of k811 rfl rfl rfl rfl rfl ⟨(Nat.le_of_ble_eq_true rfl), (Nat.le_of_ble_eq_true rfl)⟩ (Nat.le_of_ble_eq_true rfl) ⟨(Nat.le_of_ble_eq_true rfl), (Nat.le_of_ble_eq_true rfl)⟩ dX7_without_16 ?_
        dsimp only [jrepl, List.set, jstk]
        rw [hli.1 1 (by decide) (by decide)]
        refine j_iload_n hC dX7_without_19 rfl rfl ?_
        refine j_icmp_ne hC dX7_without_20 (tgt := 27) (by decide) (fun c_20 => ?_) (fun c_20 => ?_)
        · skip
          refine j_iconst hC (1) dX7_without_27 (by decide) ?_
          refine j_iload_n hC dX7_without_28 rfl rfl ?_
          refine j_ishl hC dX7_without_29 ?_
          refine j_ior hC dX7_without_30 ?_
          refine j_istore_n hC dX7_without_31 rfl rfl rfl rfl (fun v_31 e_31 => ?_)
          refine j_iinc hC (1) dX7_without_32 rfl rfl rfl rfl rfl (fun v_32 e_32 => ?_)
          refine j_goto hC dX7_without_35 (tgt := 4) (by decide) ?_
          refine j_pick [0, 1, 2, 3] ?_
          exact ih_4 (i + 1) _ _ (by omega) (by omega) (by show _ = (if _ then _ else _); rw [← h2]; first | exact wo_a c_20 e_31 | exact wo_a (Decidable.not_not.mp c_20) e_31 | exact wo_b c_20 (h3 ▸ e_31)) (jsucc e_32 h3)
        · skip
          refine j_iconst hC (0) dX7_without_23 (by decide) ?_
          refine j_goto hC dX7_without_24 (tgt := 30) (by decide) ?_
          refine j_ior hC dX7_without_30 ?_
          refine j_istore_n hC dX7_without_31 rfl rfl rfl rfl (fun v_31 e_31 => ?_)
          refine j_iinc hC (1) dX7_without_32 rfl rfl rfl rfl rfl (fun v_32 e_32 => ?_)
          refine j_goto hC dX7_without_35 (tgt := 4) (by decide) ?_
          refine j_pick [0, 1, 2, 3] ?_
          exact ih_4 (i + 1) _ _ (by omega) (by omega) (by show _ = (if _ then _ else _); rw [← h2]; first | exact wo_a c_20 e_31 | exact wo_a (Decidable.not_not.mp c_20) e_31 | exact wo_b c_20 (h3 ▸ e_31)) (jsucc e_32 h3)
  refine j_pick [0, 1, 2, 3] ?_
  exact L_4 ((bLs S).length + 1) 0 _ _ (by omega) (by omega) e_1 (e_3.trans nI_0.symm)
set_option maxHeartbeats 1000000 in
set_option maxRecDepth 100000 in
theorem c_X7_lastsNow (g : jG) (d : Nat → Nat) (I : jF) (A : Nat → jF) (S : BS) (j : Nat) (x s : Int32) (hp : MP (A 1) S) (hj : j < (bRs S).length) (hx : x = nI j) : Con g yX7_lastsNow cX7_lastsNow 8 (some .int) 4 88 0 0 [.ref (d 0), .int x, .int s] [mc g d I A] (jR (some (.int (sMin S s (raS S j) (rbS S j)))) [mc g d I A]) := by
  refine Con.of (own := RX7) (lv := [(0, .ref (d 0)), (1, .int x), (2, .int s)]) (by decide) rfl (Nat.le_of_ble_eq_true rfl) rfl ?_
  intro E hC hQ hN
  obtain ⟨⟨hq0, hk10⟩, hql, ⟨hq91, hn6⟩, hqr, ⟨hq4, hnd⟩, ⟨hq5, hqh⟩, ⟨hq6, hqs⟩, hq9, hq10⟩ := id hp
  obtain ⟨ha1, ha2, ha3, ha4⟩ := mp_ra hp hj
  refine j_bipush hC (-9) dX7_lastsNow_0 (by decide) ?_
  refine j_istore_n hC dX7_lastsNow_2 rfl rfl rfl rfl (fun v_2 e_2 => ?_)
  refine j_aload_n hC dX7_lastsNow_3 rfl rfl ?_
  refine j_get hC uX7 0 0 0 rfl rfl k724 rfl dX7_lastsNow_4 ?_
  refine j_bipush hC (92) dX7_lastsNow_7 (by decide) ?_
  refine j_iconst hC (2) dX7_lastsNow_9 (by decide) ?_
  refine j_iload_n hC dX7_lastsNow_10 rfl rfl ?_
  refine j_imul hC dX7_lastsNow_11 ?_
  refine j_iadd hC dX7_lastsNow_12 ?_
  refine j_ildN hC (m := 92 + 2 * j) 0 1 rfl rfl (r_idx hx) (by omega) dX7_lastsNow_13 ?_
  refine j_istore hC dX7_lastsNow_14 rfl rfl rfl (fun v_14 e_14 => ?_)
  have L_16 : ∀ (fu : Nat) (t : Nat) (x3 x4 : Int32) (hfu : rbS S j + 2 - raS S j ≤ t + fu) (ht : t ≤ rbS S j + 1 - raS S j) (h3 : x3 = lnS S s (raS S j) t) (h4 : x4 = nI (raS S j + t)), J g (jRm 4 88 0 0) E 8 16 [(0, .ref (d 0)), (1, .int x), (2, .int s), (3, .int x3), (4, .int x4)] [] [mc g d I A] (0) (0) := by
    intro fu
    induction fu with
    | zero => intro t x3 x4 hfu ht h3 h4; exact absurd hfu (by omega)
    | succ fu ih_16 =>
      intro t x3 x4 hfu ht h3 h4
      refine j_iload hC dX7_lastsNow_16 rfl ?_
      refine j_aload_n hC dX7_lastsNow_18 rfl rfl ?_
      refine j_get hC uX7 0 0 0 rfl rfl k724 rfl dX7_lastsNow_19 ?_
      refine j_bipush hC (92) dX7_lastsNow_22 (by decide) ?_
      refine j_iconst hC (2) dX7_lastsNow_24 (by decide) ?_
      refine j_iload_n hC dX7_lastsNow_25 rfl rfl ?_
      refine j_imul hC dX7_lastsNow_26 ?_
      refine j_iadd hC dX7_lastsNow_27 ?_
      refine j_iconst hC (1) dX7_lastsNow_28 (by decide) ?_
      refine j_iadd hC dX7_lastsNow_29 ?_
      refine j_ildN hC (m := 92 + 2 * j + 1) 0 1 rfl rfl (r_idx1 hx) (by omega) dX7_lastsNow_30 ?_
      refine j_icmp_gt hC dX7_lastsNow_31 (tgt := 137) (by decide) (fun c_31 => ?_) (fun c_31 => ?_)
      · skip
        have hte : t = (rbS S j - raS S j) + 1 := by rw [ha2, h4] at c_31; have q2 := (nI_ltI (by omega) (by omega)).mp c_31; omega
        refine j_iload_n hC dX7_lastsNow_137 rfl rfl ?_
        refine j_iret hC hQ rfl rfl (Nat.le_of_ble_eq_true rfl) (Nat.le_of_ble_eq_true rfl) dX7_lastsNow_138 rfl ⟨?_, ?_⟩
        · exact congrArg (fun z => some (Value.int z)) (by rw [h3, hte, (lnS_min _).2, show raS S j + (rbS S j - raS S j) = rbS S j by omega])
        · rfl
      · skip
        have htl : t < rbS S j + 1 - raS S j := by have q := Int32.not_lt.mp c_31; rw [ha2, h4] at q; have q2 := (nI_leI (by omega) (by omega)).mp q; omega
        refine j_iconst hC (0) dX7_lastsNow_34 (by decide) ?_
        refine j_istore hC dX7_lastsNow_35 rfl rfl rfl (fun v_35 e_35 => ?_)
        refine j_iconst hC (0) dX7_lastsNow_37 (by decide) ?_
        refine j_istore hC dX7_lastsNow_38 rfl rfl rfl (fun v_38 e_38 => ?_)
        have L_40 : ∀ (fu : Nat) (i : Nat) (x5 x6 : Int32) (hfu : (bLs S).length + 1 ≤ i + fu) (hi : i ≤ (bLs S).length) (h5 : x5 = mnG S s (raS S j + t) i) (h6 : x6 = nI i), J g (jRm 4 88 0 0) E 8 40 [(0, .ref (d 0)), (1, .int x), (2, .int s), (3, .int x3), (4, .int x4), (5, .int x5), (6, .int x6)] [] [mc g d I A] (0) (0) := by
          intro fu
          induction fu with
          | zero => intro i x5 x6 hfu hi h5 h6; exact absurd hfu (by omega)
          | succ fu ih_40 =>
            intro i x5 x6 hfu hi h5 h6
            refine j_iload hC dX7_lastsNow_40 rfl ?_
            refine j_aload_n hC dX7_lastsNow_42 rfl rfl ?_
            refine j_callVR hC [0] (c_X7_lights g _ _ _) mX7_lights k787 rfl rfl rfl rfl rfl ⟨(Nat.le_of_ble_eq_true rfl), (Nat.le_of_ble_eq_true rfl)⟩ (Nat.le_of_ble_eq_true rfl) ⟨(Nat.le_of_ble_eq_true rfl), (Nat.le_of_ble_eq_true rfl)⟩ dX7_lastsNow_43 ?_
            dsimp only [jrepl, List.set, jstk]
            refine j_icmp_ge hC dX7_lastsNow_46 (tgt := 112) (by decide) (fun c_46 => ?_) (fun c_46 => ?_)
            · skip
              have hie : i = (bLs S).length := Nat.le_antisymm hi (jge hq0 h6 (by omega) (by omega) c_46)
              rw [hie] at h5
              refine j_iload_n hC dX7_lastsNow_112 rfl rfl ?_
              refine j_bipush hC (-9) dX7_lastsNow_113 (by decide) ?_
              refine j_icmp_eq hC dX7_lastsNow_115 (tgt := 124) (by decide) (fun c_115 => ?_) (fun c_115 => ?_)
              · skip
                refine j_iload hC dX7_lastsNow_124 rfl ?_
                refine j_goto hC dX7_lastsNow_126 (tgt := 130) (by decide) ?_
                refine j_istore_n hC dX7_lastsNow_130 rfl rfl rfl rfl (fun v_130 e_130 => ?_)
                refine j_iinc hC (1) dX7_lastsNow_131 rfl rfl rfl rfl rfl (fun v_131 e_131 => ?_)
                refine j_goto hC dX7_lastsNow_134 (tgt := 16) (by decide) ?_
                refine j_pick [0, 1, 2, 3, 4] ?_
                exact ih_16 (t + 1) _ _ (by omega) (by omega) (by first | exact ln_a h3 h5 c_115 e_130 | exact ln_a h3 h5 (Decidable.not_not.mp c_115) e_130 | exact ln_b h3 h5 c_121 e_130 | exact ln_c h3 h5 c_115 c_121 e_130) (jsucc e_131 h4)
              · skip
                refine j_iload hC dX7_lastsNow_118 rfl ?_
                refine j_iload_n hC dX7_lastsNow_120 rfl rfl ?_
                refine j_icmp_ge hC dX7_lastsNow_121 (tgt := 129) (by decide) (fun c_121 => ?_) (fun c_121 => ?_)
                · skip
                  refine j_iload_n hC dX7_lastsNow_129 rfl rfl ?_
                  refine j_istore_n hC dX7_lastsNow_130 rfl rfl rfl rfl (fun v_130 e_130 => ?_)
                  refine j_iinc hC (1) dX7_lastsNow_131 rfl rfl rfl rfl rfl (fun v_131 e_131 => ?_)
                  refine j_goto hC dX7_lastsNow_134 (tgt := 16) (by decide) ?_
                  refine j_pick [0, 1, 2, 3, 4] ?_
                  exact ih_16 (t + 1) _ _ (by omega) (by omega) (by first | exact ln_a h3 h5 c_115 e_130 | exact ln_a h3 h5 (Decidable.not_not.mp c_115) e_130 | exact ln_b h3 h5 c_121 e_130 | exact ln_c h3 h5 c_115 c_121 e_130) (jsucc e_131 h4)
                · skip
                  refine j_iload hC dX7_lastsNow_124 rfl ?_
                  refine j_goto hC dX7_lastsNow_126 (tgt := 130) (by decide) ?_
                  refine j_istore_n hC dX7_lastsNow_130 rfl rfl rfl rfl (fun v_130 e_130 => ?_)
                  refine j_iinc hC (1) dX7_lastsNow_131 rfl rfl rfl rfl rfl (fun v_131 e_131 => ?_)
                  refine j_goto hC dX7_lastsNow_134 (tgt := 16) (by decide) ?_
                  refine j_pick [0, 1, 2, 3, 4] ?_
                  exact ih_16 (t + 1) _ _ (by omega) (by omega) (by first | exact ln_a h3 h5 c_115 e_130 | exact ln_a h3 h5 (Decidable.not_not.mp c_115) e_130 | exact ln_b h3 h5 c_121 e_130 | exact ln_c h3 h5 c_115 c_121 e_130) (jsucc e_131 h4)
            · skip
              have hik : i < (bLs S).length := jlt hq0 h6 (by omega) (by omega) c_46
              have hli := hql i hik
              refine j_iload_n hC dX7_lastsNow_49 rfl rfl ?_
              refine j_iload hC dX7_lastsNow_50 rfl ?_
              refine j_ishr hC dX7_lastsNow_52 ?_
              refine j_iconst hC (1) dX7_lastsNow_53 (by decide) ?_
              refine j_iand hC dX7_lastsNow_54 ?_
              refine j_iconst hC (1) dX7_lastsNow_55 (by decide) ?_
              refine j_icmp_ne hC dX7_lastsNow_56 (tgt := 74) (by decide) (fun c_56 => ?_) (fun c_56 => ?_)
              · skip
                try (rw [h4] at c_67)
                refine j_iconst hC (0) dX7_lastsNow_74 (by decide) ?_
                refine j_istore hC dX7_lastsNow_75 rfl rfl rfl (fun v_75 e_75 => ?_)
                refine j_iload hC dX7_lastsNow_77 rfl ?_
                refine j_if_eq hC dX7_lastsNow_79 (tgt := 102) (by decide) (fun c_79 => ?_) (fun c_79 => ?_)
                · skip
                  refine j_iload hC dX7_lastsNow_102 rfl ?_
                  refine j_istore hC dX7_lastsNow_104 rfl rfl rfl (fun v_104 e_104 => ?_)
                  refine j_iinc hC (1) dX7_lastsNow_106 rfl rfl rfl rfl rfl (fun v_106 e_106 => ?_)
                  refine j_goto hC dX7_lastsNow_109 (tgt := 40) (by decide) ?_
                  refine j_pick [0, 1, 2, 3, 4, 5, 6] ?_
                  exact ih_40 (i + 1) _ _ (by omega) (by omega) (by first | exact e_104.trans (mn_c h6 h5 c_56) | exact e_104.trans (mn_d hli.2.2.1 (by omega) h5 (jb0 c_67)) | exact mn_a h6 hli.2.2.1 (by omega) h5 c_56 (jb1 c_67) c_90 e_104 | exact mn_b h6 hli.2.2.1 (by omega) h5 c_56 (jb1 c_67) c_90 e_104 | exact mn_a h6 hli.2.2.1 (by omega) h5 (Decidable.not_not.mp c_56) (jb1 c_67) c_90 e_104 | exact mn_b h6 hli.2.2.1 (by omega) h5 (Decidable.not_not.mp c_56) (jb1 c_67) c_90 e_104) (jsucc e_106 h6)
                · exact absurd c_79 (by rw [e_75]; decide)
              · skip
                refine j_aload_n hC dX7_lastsNow_59 rfl rfl ?_
                refine j_iload hC dX7_lastsNow_60 rfl ?_
                refine j_iload hC dX7_lastsNow_62 rfl ?_
                refine j_callVR hC [0] (c_X7_reaches g _ _ _ _ _ _ _ _ _ h6 (by omega) hli (show raS S j + t ≤ 200 by omega) h4) mX7_reaches k951 rfl rfl rfl rfl rfl ⟨(Nat.le_of_ble_eq_true rfl), (Nat.le_of_ble_eq_true rfl)⟩ (Nat.le_of_ble_eq_true rfl) ⟨(Nat.le_of_ble_eq_true rfl), (Nat.le_of_ble_eq_true rfl)⟩ dX7_lastsNow_64 ?_
                dsimp only [jrepl, List.set, jstk]
                refine j_if_eq hC dX7_lastsNow_67 (tgt := 74) (by decide) (fun c_67 => ?_) (fun c_67 => ?_)
                · skip
                  try (rw [h4] at c_67)
                  refine j_iconst hC (0) dX7_lastsNow_74 (by decide) ?_
                  refine j_istore hC dX7_lastsNow_75 rfl rfl rfl (fun v_75 e_75 => ?_)
                  refine j_iload hC dX7_lastsNow_77 rfl ?_
                  refine j_if_eq hC dX7_lastsNow_79 (tgt := 102) (by decide) (fun c_79 => ?_) (fun c_79 => ?_)
                  · skip
                    refine j_iload hC dX7_lastsNow_102 rfl ?_
                    refine j_istore hC dX7_lastsNow_104 rfl rfl rfl (fun v_104 e_104 => ?_)
                    refine j_iinc hC (1) dX7_lastsNow_106 rfl rfl rfl rfl rfl (fun v_106 e_106 => ?_)
                    refine j_goto hC dX7_lastsNow_109 (tgt := 40) (by decide) ?_
                    refine j_pick [0, 1, 2, 3, 4, 5, 6] ?_
                    exact ih_40 (i + 1) _ _ (by omega) (by omega) (by first | exact e_104.trans (mn_c h6 h5 c_56) | exact e_104.trans (mn_d hli.2.2.1 (by omega) h5 (jb0 c_67)) | exact mn_a h6 hli.2.2.1 (by omega) h5 c_56 (jb1 c_67) c_90 e_104 | exact mn_b h6 hli.2.2.1 (by omega) h5 c_56 (jb1 c_67) c_90 e_104 | exact mn_a h6 hli.2.2.1 (by omega) h5 (Decidable.not_not.mp c_56) (jb1 c_67) c_90 e_104 | exact mn_b h6 hli.2.2.1 (by omega) h5 (Decidable.not_not.mp c_56) (jb1 c_67) c_90 e_104) (jsucc e_106 h6)
                  · exact absurd c_79 (by rw [e_75]; decide)
                · skip
                  rw [h4] at c_67
                  refine j_iconst hC (1) dX7_lastsNow_70 (by decide) ?_
                  refine j_goto hC dX7_lastsNow_71 (tgt := 75) (by decide) ?_
                  refine j_istore hC dX7_lastsNow_75 rfl rfl rfl (fun v_75 e_75 => ?_)
                  refine j_iload hC dX7_lastsNow_77 rfl ?_
                  refine j_if_eq hC dX7_lastsNow_79 (tgt := 102) (by decide) (fun c_79 => ?_) (fun c_79 => ?_)
                  · exact absurd c_79 (by rw [e_75]; decide)
                  · skip
                    refine j_aload_n hC dX7_lastsNow_82 rfl rfl ?_
                    refine j_iload hC dX7_lastsNow_83 rfl ?_
                    refine j_callVR hC [0] (c_X7_enduranceOf g _ _ _ _ _ _ _ h6 (by omega) hli) mX7_enduranceOf k935 rfl rfl rfl rfl rfl ⟨(Nat.le_of_ble_eq_true rfl), (Nat.le_of_ble_eq_true rfl)⟩ (Nat.le_of_ble_eq_true rfl) ⟨(Nat.le_of_ble_eq_true rfl), (Nat.le_of_ble_eq_true rfl)⟩ dX7_lastsNow_85 ?_
                    dsimp only [jrepl, List.set, jstk]
                    refine j_iload hC dX7_lastsNow_88 rfl ?_
                    refine j_icmp_le hC dX7_lastsNow_90 (tgt := 102) (by decide) (fun c_90 => ?_) (fun c_90 => ?_)
                    · skip
                      refine j_iload hC dX7_lastsNow_102 rfl ?_
                      refine j_istore hC dX7_lastsNow_104 rfl rfl rfl (fun v_104 e_104 => ?_)
                      refine j_iinc hC (1) dX7_lastsNow_106 rfl rfl rfl rfl rfl (fun v_106 e_106 => ?_)
                      refine j_goto hC dX7_lastsNow_109 (tgt := 40) (by decide) ?_
                      refine j_pick [0, 1, 2, 3, 4, 5, 6] ?_
                      exact ih_40 (i + 1) _ _ (by omega) (by omega) (by first | exact e_104.trans (mn_c h6 h5 c_56) | exact e_104.trans (mn_d hli.2.2.1 (by omega) h5 (jb0 c_67)) | exact mn_a h6 hli.2.2.1 (by omega) h5 c_56 (jb1 c_67) c_90 e_104 | exact mn_b h6 hli.2.2.1 (by omega) h5 c_56 (jb1 c_67) c_90 e_104 | exact mn_a h6 hli.2.2.1 (by omega) h5 (Decidable.not_not.mp c_56) (jb1 c_67) c_90 e_104 | exact mn_b h6 hli.2.2.1 (by omega) h5 (Decidable.not_not.mp c_56) (jb1 c_67) c_90 e_104) (jsucc e_106 h6)
                    · skip
                      refine j_aload_n hC dX7_lastsNow_93 rfl rfl ?_
                      refine j_iload hC dX7_lastsNow_94 rfl ?_
                      refine j_callVR hC [0] (c_X7_enduranceOf g _ _ _ _ _ _ _ h6 (by omega) hli) mX7_enduranceOf k935 rfl rfl rfl rfl rfl ⟨(Nat.le_of_ble_eq_true rfl), (Nat.le_of_ble_eq_true rfl)⟩ (Nat.le_of_ble_eq_true rfl) ⟨(Nat.le_of_ble_eq_true rfl), (Nat.le_of_ble_eq_true rfl)⟩ dX7_lastsNow_96 ?_
                      dsimp only [jrepl, List.set, jstk]
                      refine j_goto hC dX7_lastsNow_99 (tgt := 104) (by decide) ?_
                      refine j_istore hC dX7_lastsNow_104 rfl rfl rfl (fun v_104 e_104 => ?_)
                      refine j_iinc hC (1) dX7_lastsNow_106 rfl rfl rfl rfl rfl (fun v_106 e_106 => ?_)
                      refine j_goto hC dX7_lastsNow_109 (tgt := 40) (by decide) ?_
                      refine j_pick [0, 1, 2, 3, 4, 5, 6] ?_
                      exact ih_40 (i + 1) _ _ (by omega) (by omega) (by first | exact e_104.trans (mn_c h6 h5 c_56) | exact e_104.trans (mn_d hli.2.2.1 (by omega) h5 (jb0 c_67)) | exact mn_a h6 hli.2.2.1 (by omega) h5 c_56 (jb1 c_67) c_90 e_104 | exact mn_b h6 hli.2.2.1 (by omega) h5 c_56 (jb1 c_67) c_90 e_104 | exact mn_a h6 hli.2.2.1 (by omega) h5 (Decidable.not_not.mp c_56) (jb1 c_67) c_90 e_104 | exact mn_b h6 hli.2.2.1 (by omega) h5 (Decidable.not_not.mp c_56) (jb1 c_67) c_90 e_104) (jsucc e_106 h6)
        refine j_pick [0, 1, 2, 3, 4, 5, 6] ?_
        exact L_40 ((bLs S).length + 1) 0 _ _ (by omega) (by omega) (by rw [e_35]; rfl) (e_38.trans nI_0.symm)
  refine j_pick [0, 1, 2, 3, 4] ?_
  exact L_16 (rbS S j + 2 - raS S j) 0 _ _ (by omega) (by omega) e_2 (e_14.trans ha1)
set_option maxHeartbeats 1000000 in
set_option maxRecDepth 100000 in
theorem c_X7_lasts (g : jG) (d : Nat → Nat) (T : St3) (b : List va_W) (x s : Int32) (h : MW g d T b) : Con g yX7_lasts cX7_lasts 3 (some .int) 5 115 0 0 [.ref (d 0), .int x, .int s] b (fun rr bb => rr = some (.int (oLasts T x s).1) ∧ MW g d (oLasts T x s).2 bb) := by
  obtain ⟨I, A, rfl, hMI⟩ := h
  obtain ⟨hm1, hmp, hmh, hmt⟩ := id hMI
  obtain ⟨⟨hq0, hk10⟩, hql, ⟨hq91, hn6⟩, hqr, ⟨hq4, hnd⟩, ⟨hq5, hqh⟩, ⟨hq6, hqs⟩, hq9, hq10⟩ := id hmp
  refine Con.of (own := RX7) (lv := [(0, .ref (d 0)), (1, .int x), (2, .int s)]) (by decide) rfl (Nat.le_of_ble_eq_true rfl) rfl ?_
  intro E hC hQ hN
  refine j_aload_n hC dX7_lasts_0 rfl rfl ?_
  refine j_iload_n hC dX7_lasts_1 rfl rfl ?_
  refine j_callVR hC [0] (c_X7_isRoute g _ _ _ _) mX7_isRoute k835 rfl rfl rfl rfl rfl ⟨(Nat.le_of_ble_eq_true rfl), (Nat.le_of_ble_eq_true rfl)⟩ (Nat.le_of_ble_eq_true rfl) ⟨(Nat.le_of_ble_eq_true rfl), (Nat.le_of_ble_eq_true rfl)⟩ dX7_lasts_2 ?_
  dsimp only [jrepl, List.set, jstk]
  refine j_if_eq hC dX7_lasts_5 (tgt := 25) (by decide) (fun c_5 => ?_) (fun c_5 => ?_)
  · skip
    refine j_iconst hC (-1) dX7_lasts_25 (by decide) ?_
    refine j_iret hC hQ rfl rfl (Nat.le_of_ble_eq_true rfl) (Nat.le_of_ble_eq_true rfl) dX7_lasts_26 rfl ?_
    first | exact mw_o (by unfold oLasts; rw [if_neg (fun q => jb0 c_5 ((in_len hq91 (by omega)).mpr q.1))]) hMI | exact mw_o (by unfold oLasts; rw [if_neg (fun q => jb0 c_13 q.2)]) hMI | exact mw_o (by unfold oLasts; rw [if_pos ⟨hlx, jb1 c_13⟩, hcl]) hMI
  · skip
    refine j_aload_n hC dX7_lasts_8 rfl rfl ?_
    refine j_iload_n hC dX7_lasts_9 rfl rfl ?_
    refine j_callVR hC [0] (c_X7_isSet g _ _ _ T.1 _ hmp) mX7_isSet k943 rfl rfl rfl rfl rfl ⟨(Nat.le_of_ble_eq_true rfl), (Nat.le_of_ble_eq_true rfl)⟩ (Nat.le_of_ble_eq_true rfl) ⟨(Nat.le_of_ble_eq_true rfl), (Nat.le_of_ble_eq_true rfl)⟩ dX7_lasts_10 ?_
    dsimp only [jrepl, List.set, jstk]
    refine j_if_eq hC dX7_lasts_13 (tgt := 25) (by decide) (fun c_13 => ?_) (fun c_13 => ?_)
    · skip
      refine j_iconst hC (-1) dX7_lasts_25 (by decide) ?_
      refine j_iret hC hQ rfl rfl (Nat.le_of_ble_eq_true rfl) (Nat.le_of_ble_eq_true rfl) dX7_lasts_26 rfl ?_
      first | exact mw_o (by unfold oLasts; rw [if_neg (fun q => jb0 c_5 ((in_len hq91 (by omega)).mpr q.1))]) hMI | exact mw_o (by unfold oLasts; rw [if_neg (fun q => jb0 c_13 q.2)]) hMI | exact mw_o (by unfold oLasts; rw [if_pos ⟨hlx, jb1 c_13⟩, hcl]) hMI
    · skip
      have hlx : hLX x (bRs T.1).length := (in_len hq91 (by omega)).mp (jb1 c_5)
      obtain ⟨j, hj, hx⟩ := hLX_nat (by omega) hlx
      have hcl : x.toNatClampNeg = j := by rw [hx, nI_cl (by omega)]
      refine j_aload_n hC dX7_lasts_16 rfl rfl ?_
      refine j_iload_n hC dX7_lasts_17 rfl rfl ?_
      refine j_iload_n hC dX7_lasts_18 rfl rfl ?_
      refine j_callVR hC [0] (c_X7_lastsNow g _ _ _ T.1 j _ _ hmp hj hx) mX7_lastsNow k1015 rfl rfl rfl rfl rfl ⟨(Nat.le_of_ble_eq_true rfl), (Nat.le_of_ble_eq_true rfl)⟩ (Nat.le_of_ble_eq_true rfl) ⟨(Nat.le_of_ble_eq_true rfl), (Nat.le_of_ble_eq_true rfl)⟩ dX7_lasts_19 ?_
      dsimp only [jrepl, List.set, jstk]
      refine j_goto hC dX7_lasts_22 (tgt := 26) (by decide) ?_
      refine j_iret hC hQ rfl rfl (Nat.le_of_ble_eq_true rfl) (Nat.le_of_ble_eq_true rfl) dX7_lasts_26 rfl ?_
      first | exact mw_o (by unfold oLasts; rw [if_neg (fun q => jb0 c_5 ((in_len hq91 (by omega)).mpr q.1))]) hMI | exact mw_o (by unfold oLasts; rw [if_neg (fun q => jb0 c_13 q.2)]) hMI | exact mw_o (by unfold oLasts; rw [if_pos ⟨hlx, jb1 c_13⟩, hcl]) hMI
set_option maxHeartbeats 1000000 in
set_option maxRecDepth 100000 in
theorem c_X7_weakest (g : jG) (d : Nat → Nat) (I : jF) (A : Nat → jF) (S : BS) (j : Nat) (x y : Int32) (hp : MP (A 1) S) (hj : j < (bRs S).length) (hx : x = nI j) : Con g yX7_weakest cX7_weakest 7 (some .int) 5 115 0 0 [.ref (d 0), .int x, .int y] [mc g d I A] (jR (some (.int (if y = 0 then sMin S (sWo S (sWc S (raS S j) (rbS S j))) (raS S j) (rbS S j) else sWc S (raS S j) (rbS S j)))) [mc g d I A]) := by
  refine Con.of (own := RX7) (lv := [(0, .ref (d 0)), (1, .int x), (2, .int y)]) (by decide) rfl (Nat.le_of_ble_eq_true rfl) rfl ?_
  intro E hC hQ hN
  obtain ⟨⟨hq0, hk10⟩, hql, ⟨hq91, hn6⟩, hqr, ⟨hq4, hnd⟩, ⟨hq5, hqh⟩, ⟨hq6, hqs⟩, hq9, hq10⟩ := id hp
  refine j_iconst hC (0) dX7_weakest_0 (by decide) ?_
  refine j_istore_n hC dX7_weakest_1 rfl rfl rfl rfl (fun v_1 e_1 => ?_)
  refine j_aload_n hC dX7_weakest_2 rfl rfl ?_
  refine j_iload_n hC dX7_weakest_3 rfl rfl ?_
  refine j_aload_n hC dX7_weakest_4 rfl rfl ?_
  refine j_iconst hC (0) dX7_weakest_5 (by decide) ?_
  refine j_callVR hC [0] (c_X7_without g _ _ _ S _ hp) mX7_without k1027 rfl rfl rfl rfl rfl ⟨(Nat.le_of_ble_eq_true rfl), (Nat.le_of_ble_eq_true rfl)⟩ (Nat.le_of_ble_eq_true rfl) ⟨(Nat.le_of_ble_eq_true rfl), (Nat.le_of_ble_eq_true rfl)⟩ dX7_weakest_6 ?_
  dsimp only [jrepl, List.set, jstk]
  refine j_callVR hC [0] (c_X7_lastsNow g _ _ _ S j _ _ hp hj hx) mX7_lastsNow k1015 rfl rfl rfl rfl rfl ⟨(Nat.le_of_ble_eq_true rfl), (Nat.le_of_ble_eq_true rfl)⟩ (Nat.le_of_ble_eq_true rfl) ⟨(Nat.le_of_ble_eq_true rfl), (Nat.le_of_ble_eq_true rfl)⟩ dX7_weakest_9 ?_
  dsimp only [jrepl, List.set, jstk]
  refine j_istore hC dX7_weakest_12 rfl rfl rfl (fun v_12 e_12 => ?_)
  refine j_iconst hC (1) dX7_weakest_14 (by decide) ?_
  refine j_istore hC dX7_weakest_15 rfl rfl rfl (fun v_15 e_15 => ?_)
  have L_17 : ∀ (fu : Nat) (t : Nat) (x3 x4 x5 : Int32) (hfu : 4 ≤ t + fu) (ht : t ≤ 3) (h34 : (x3, x4) = wcP S (raS S j) (rbS S j) t) (h5 : x5 = nI (t + 1)), J g (jRm 5 115 0 0) E 7 17 [(0, .ref (d 0)), (1, .int x), (2, .int y), (3, .int x3), (4, .int x4), (5, .int x5)] [] [mc g d I A] (0) (0) := by
    intro fu
    induction fu with
    | zero => intro t x3 x4 x5 hfu ht h34 h5; exact absurd hfu (by omega)
    | succ fu ih_17 =>
      intro t x3 x4 x5 hfu ht h34 h5
      refine j_iload hC dX7_weakest_17 rfl ?_
      refine j_iconst hC (4) dX7_weakest_19 (by decide) ?_
      refine j_icmp_ge hC dX7_weakest_20 (tgt := 72) (by decide) (fun c_20 => ?_) (fun c_20 => ?_)
      · skip
        have hte : t = 3 := by have q := jge (show (4 : Int32) = nI 4 from rfl) h5 (by omega) (by omega) c_20; omega
        rw [hte] at h34
        refine j_iload_n hC dX7_weakest_72 rfl rfl ?_
        refine j_if_eq hC dX7_weakest_73 (tgt := 80) (by decide) (fun c_73 => ?_) (fun c_73 => ?_)
        · skip
          refine j_iload hC dX7_weakest_80 rfl ?_
          refine j_iret hC hQ rfl rfl (Nat.le_of_ble_eq_true rfl) (Nat.le_of_ble_eq_true rfl) dX7_weakest_82 rfl ⟨?_, ?_⟩
          · first | exact congrArg (fun z => some (Value.int z)) (((congrArg Prod.snd h34).trans (wcP_2 3)).trans (if_pos c_73).symm) | exact congrArg (fun z => some (Value.int z)) ((congrArg Prod.fst h34).trans (if_neg c_73).symm)
          · rfl
        · skip
          refine j_iload_n hC dX7_weakest_76 rfl rfl ?_
          refine j_goto hC dX7_weakest_77 (tgt := 82) (by decide) ?_
          refine j_iret hC hQ rfl rfl (Nat.le_of_ble_eq_true rfl) (Nat.le_of_ble_eq_true rfl) dX7_weakest_82 rfl ⟨?_, ?_⟩
          · first | exact congrArg (fun z => some (Value.int z)) (((congrArg Prod.snd h34).trans (wcP_2 3)).trans (if_pos c_73).symm) | exact congrArg (fun z => some (Value.int z)) ((congrArg Prod.fst h34).trans (if_neg c_73).symm)
          · rfl
      · skip
        have htl : t < 3 := by have q := jlt (show (4 : Int32) = nI 4 from rfl) h5 (by omega) (by omega) c_20; omega
        refine j_aload_n hC dX7_weakest_23 rfl rfl ?_
        refine j_iload_n hC dX7_weakest_24 rfl rfl ?_
        refine j_aload_n hC dX7_weakest_25 rfl rfl ?_
        refine j_iload hC dX7_weakest_26 rfl ?_
        refine j_callVR hC [0] (c_X7_without g _ _ _ S _ hp) mX7_without k1027 rfl rfl rfl rfl rfl ⟨(Nat.le_of_ble_eq_true rfl), (Nat.le_of_ble_eq_true rfl)⟩ (Nat.le_of_ble_eq_true rfl) ⟨(Nat.le_of_ble_eq_true rfl), (Nat.le_of_ble_eq_true rfl)⟩ dX7_weakest_28 ?_
        dsimp only [jrepl, List.set, jstk]
        refine j_callVR hC [0] (c_X7_lastsNow g _ _ _ S j _ _ hp hj hx) mX7_lastsNow k1015 rfl rfl rfl rfl rfl ⟨(Nat.le_of_ble_eq_true rfl), (Nat.le_of_ble_eq_true rfl)⟩ (Nat.le_of_ble_eq_true rfl) ⟨(Nat.le_of_ble_eq_true rfl), (Nat.le_of_ble_eq_true rfl)⟩ dX7_weakest_31 ?_
        dsimp only [jrepl, List.set, jstk]
        refine j_istore hC dX7_weakest_34 rfl rfl rfl (fun v_34 e_34 => ?_)
        refine j_iload hC dX7_weakest_36 rfl ?_
        refine j_iload hC dX7_weakest_38 rfl ?_
        refine j_icmp_ge hC dX7_weakest_40 (tgt := 48) (by decide) (fun c_40 => ?_) (fun c_40 => ?_)
        · skip
          refine j_iload_n hC dX7_weakest_48 rfl rfl ?_
          refine j_istore_n hC dX7_weakest_49 rfl rfl rfl rfl (fun v_49 e_49 => ?_)
          refine j_iload hC dX7_weakest_50 rfl ?_
          refine j_iload hC dX7_weakest_52 rfl ?_
          refine j_icmp_ge hC dX7_weakest_54 (tgt := 62) (by decide) (fun c_54 => ?_) (fun c_54 => ?_)
          · skip
            refine j_iload hC dX7_weakest_62 rfl ?_
            refine j_istore hC dX7_weakest_64 rfl rfl rfl (fun v_64 e_64 => ?_)
            refine j_iinc hC (1) dX7_weakest_66 rfl rfl rfl rfl rfl (fun v_66 e_66 => ?_)
            refine j_goto hC dX7_weakest_69 (tgt := 17) (by decide) ?_
            refine j_pick [0, 1, 2, 3, 4, 5] ?_
            exact ih_17 (t + 1) _ _ _ (by omega) (by omega) (by first | exact wc_a h34 h5 e_34 c_40 e_49 e_64 | exact wc_b h34 h5 e_34 c_40 e_49 e_64 | exact absurd c_54 c_40 | exact absurd c_40 c_54) (jsucc e_66 h5)
          · skip
            have hc40 := c_40
            refine j_iload hC dX7_weakest_57 rfl ?_
            refine j_goto hC dX7_weakest_59 (tgt := 64) (by decide) ?_
            refine j_istore hC dX7_weakest_64 rfl rfl rfl (fun v_64 e_64 => ?_)
            refine j_iinc hC (1) dX7_weakest_66 rfl rfl rfl rfl rfl (fun v_66 e_66 => ?_)
            refine j_goto hC dX7_weakest_69 (tgt := 17) (by decide) ?_
            refine j_pick [0, 1, 2, 3, 4, 5] ?_
            exact ih_17 (t + 1) _ _ _ (by omega) (by omega) (by first | exact wc_a h34 h5 e_34 c_40 e_49 e_64 | exact wc_b h34 h5 e_34 c_40 e_49 e_64 | exact absurd c_54 c_40 | exact absurd c_40 c_54) (jsucc e_66 h5)
        · skip
          refine j_iload hC dX7_weakest_43 rfl ?_
          refine j_goto hC dX7_weakest_45 (tgt := 49) (by decide) ?_
          refine j_istore_n hC dX7_weakest_49 rfl rfl rfl rfl (fun v_49 e_49 => ?_)
          refine j_iload hC dX7_weakest_50 rfl ?_
          refine j_iload hC dX7_weakest_52 rfl ?_
          refine j_icmp_ge hC dX7_weakest_54 (tgt := 62) (by decide) (fun c_54 => ?_) (fun c_54 => ?_)
          · skip
            refine j_iload hC dX7_weakest_62 rfl ?_
            refine j_istore hC dX7_weakest_64 rfl rfl rfl (fun v_64 e_64 => ?_)
            refine j_iinc hC (1) dX7_weakest_66 rfl rfl rfl rfl rfl (fun v_66 e_66 => ?_)
            refine j_goto hC dX7_weakest_69 (tgt := 17) (by decide) ?_
            refine j_pick [0, 1, 2, 3, 4, 5] ?_
            exact ih_17 (t + 1) _ _ _ (by omega) (by omega) (by first | exact wc_a h34 h5 e_34 c_40 e_49 e_64 | exact wc_b h34 h5 e_34 c_40 e_49 e_64 | exact absurd c_54 c_40 | exact absurd c_40 c_54) (jsucc e_66 h5)
          · skip
            have hc40 := c_40
            refine j_iload hC dX7_weakest_57 rfl ?_
            refine j_goto hC dX7_weakest_59 (tgt := 64) (by decide) ?_
            refine j_istore hC dX7_weakest_64 rfl rfl rfl (fun v_64 e_64 => ?_)
            refine j_iinc hC (1) dX7_weakest_66 rfl rfl rfl rfl rfl (fun v_66 e_66 => ?_)
            refine j_goto hC dX7_weakest_69 (tgt := 17) (by decide) ?_
            refine j_pick [0, 1, 2, 3, 4, 5] ?_
            exact ih_17 (t + 1) _ _ _ (by omega) (by omega) (by first | exact wc_a h34 h5 e_34 c_40 e_49 e_64 | exact wc_b h34 h5 e_34 c_40 e_49 e_64 | exact absurd c_54 c_40 | exact absurd c_40 c_54) (jsucc e_66 h5)
  refine j_pick [0, 1, 2, 3, 4, 5] ?_
  exact L_17 (4) 0 _ _ _ (by omega) (by omega) (by rw [e_1, e_12]; rfl) e_15
set_option maxHeartbeats 1000000 in
set_option maxRecDepth 100000 in
theorem c_X7_puts (g : jG) (d : Nat → Nat) (I : jF) (A : Nat → jF) (S : BS) (i l : Nat) (x y : Int32) (hp : MP (A 1) S) (hx : x = nI i) (hil : i < (bLs S).length) (hy : y = nI l) (hl3 : l < 3) (hs1 : 1 ≤ (A 1 (106 + l)).toInt) : Con g yX7_puts cX7_puts 3 none 1 22 0 0 [.ref (d 0), .int x, .int y] [mc g d I A] (fun r b => r = none ∧ ∃ A1 : Nat → jF, b = [mc g d I A1] ∧ (∀ q, q ≠ 1 → A1 q = A q) ∧ (∀ q, 111 ≤ q → q < 999 → A1 1 q = A 1 q) ∧ MP (A1 1) (putS S i (nI l))) := by
  refine Con.of (own := RX7) (lv := [(0, .ref (d 0)), (1, .int x), (2, .int y)]) (by decide) rfl (Nat.le_of_ble_eq_true rfl) rfl ?_
  intro E hC hQ hN
  obtain ⟨⟨hq0, hk10⟩, hql, ⟨hq91, hn6⟩, hqr, ⟨hq4, hnd⟩, ⟨hq5, hqh⟩, ⟨hq6, hqs⟩, hq9, hq10⟩ := id hp
  have hi : i ≤ 10 := by omega
  refine j_aload_n hC dX7_puts_0 rfl rfl ?_
  refine j_get hC uX7 0 0 0 rfl rfl k724 rfl dX7_puts_1 ?_
  refine j_aload_n hC dX7_puts_4 rfl rfl ?_
  refine j_iload_n hC dX7_puts_5 rfl rfl ?_
  refine j_iconst hC (3) dX7_puts_6 (by decide) ?_
  refine j_callVR hC [0] (c_X7_at g _ _ _ _ 3 _ _ hx hi (by decide) (by decide)) mX7_at k799 rfl rfl rfl rfl rfl ⟨(Nat.le_of_ble_eq_true rfl), (Nat.le_of_ble_eq_true rfl)⟩ (Nat.le_of_ble_eq_true rfl) ⟨(Nat.le_of_ble_eq_true rfl), (Nat.le_of_ble_eq_true rfl)⟩ dX7_puts_7 ?_
  dsimp only [jrepl, List.set, jstk]
  refine j_iload_n hC dX7_puts_10 rfl rfl ?_
  refine j_st_7_1 (bi := 0) hC rfl rfl (by omega) dX7_puts_11 (fun A_11 hA_11 hK_11 => ?_)
  dsimp only [List.set]
  refine j_aload_n hC dX7_puts_12 rfl rfl ?_
  refine j_get hC uX7 0 0 0 rfl rfl k724 rfl dX7_puts_13 ?_
  refine j_aload_n hC dX7_puts_16 rfl rfl ?_
  refine j_iload_n hC dX7_puts_17 rfl rfl ?_
  refine j_bipush hC (7) dX7_puts_18 (by decide) ?_
  refine j_callVR hC [0] (c_X7_at g _ _ _ _ 7 _ _ hx hi (by decide) (by decide)) mX7_at k799 rfl rfl rfl rfl rfl ⟨(Nat.le_of_ble_eq_true rfl), (Nat.le_of_ble_eq_true rfl)⟩ (Nat.le_of_ble_eq_true rfl) ⟨(Nat.le_of_ble_eq_true rfl), (Nat.le_of_ble_eq_true rfl)⟩ dX7_puts_20 ?_
  dsimp only [jrepl, List.set, jstk]
  refine j_iconst hC (0) dX7_puts_23 (by decide) ?_
  refine j_st_7_1 (bi := 0) hC rfl rfl (by omega) dX7_puts_24 (fun A_24 hA_24 hK_24 => ?_)
  dsimp only [List.set]
  refine j_aload_n hC dX7_puts_25 rfl rfl ?_
  refine j_get hC uX7 0 0 0 rfl rfl k724 rfl dX7_puts_26 ?_
  refine j_bipush hC (106) dX7_puts_29 (by decide) ?_
  refine j_iload_n hC dX7_puts_31 rfl rfl ?_
  refine j_iadd hC dX7_puts_32 ?_
  refine j_dup2 hC dX7_puts_33 rfl rfl ?_
  refine j_ildN hC (m := 106 + l) 0 1 rfl rfl (by rw [hy]; exact nI_add 106 l) (by omega) dX7_puts_34 ?_
  refine j_iconst hC (1) dX7_puts_35 (by decide) ?_
  refine j_isub hC dX7_puts_36 ?_
  refine j_st_7_1 (bi := 0) (m := 106 + l) hC rfl (by rw [hy]; exact nI_add 106 l) (by omega) dX7_puts_37 (fun A_37 hA_37 hK_37 => ?_)
  dsimp only [List.set]
  refine j_vret hC hQ rfl (Nat.le_of_ble_eq_true rfl) (Nat.le_of_ble_eq_true rfl) dX7_puts_38 rfl ?_
  exact ⟨rfl, _, rfl, fun q hq => (hK_37 q hq).trans ((hK_24 q hq).trans (hK_11 q hq)), fun q q1 _ => by rw [hA_37, pk_un (by omega), hA_24, pk_un (by omega), hA_11, pk_un (by omega)], puts_MP hp hil hl3 hs1 (v := A_24 1 (106 + l) - 1) (by rw [hA_24, pk_un (by omega), hA_11, pk_un (by omega)]) (by rw [hA_37]; rw [hA_24, hA_11, hy])⟩
