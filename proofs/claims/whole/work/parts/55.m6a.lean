/-! the model's places -/
def sLk (S : BS) (q : Nat) : Int32 := lookN (bNeed S) (lsX (bLs S)) (bLs S).length q
def lkP (S : BS) (q i : Nat) : Int32 := jiter (lookStep (bNeed S) (lsX (bLs S)) q) 0 i
theorem lk_s {S : BS} {q i : Nat} : lkP S q (i + 1) = if ¬ endL (LI S i) < bNeed S ∧ inR (LI S i) q then lkP S q i ||| (1 <<< (nI i &&& 31)) else lkP S q i := by
  unfold lkP; rw [jit_s]; rfl
theorem lk_a {S : BS} {c : Int} {q i : Nat} {x2 v y : Int32} (hq : q ≤ 200) (hl : rg c (LI S i)) (hx : x2 = nI i) (h : y = lkP S q i) (c1 : bNeed S ≤ endL (LI S i)) (c2 : reachB (LI S i) (nI q)) (e : v = y ||| (1 <<< (x2 &&& 31))) : v = lkP S q (i + 1) := by
  subst hx
  rw [lk_s, if_pos ⟨Int32.not_lt.mpr c1, (inR_reach hl hq).mpr c2⟩, e, h]
theorem lk_b {S : BS} {c : Int} {q i : Nat} {v y : Int32} (hq : q ≤ 200) (hl : rg c (LI S i)) (h : y = lkP S q i) (c1 : ¬ (bNeed S ≤ endL (LI S i) ∧ reachB (LI S i) (nI q))) (e : v = y ||| 0) : v = lkP S q (i + 1) := by
  rw [lk_s, if_neg (fun w => c1 ⟨Int32.not_lt.mp w.1, (inR_reach hl hq).mp w.2⟩), e, h]; exact Int32.or_zero
def drk (S : BS) (a t : Nat) : Int32 := jiter (fun t n => if sLk S (a + t) &&& 1023 = 0 then n + 1 else n) 0 t
theorem drk_s {S : BS} {a t : Nat} : drk S a (t + 1) = if sLk S (a + t) &&& 1023 = 0 then drk S a t + 1 else drk S a t := by
  unfold drk; rw [jit_s]
theorem drk_e {S : BS} {a b : Nat} : drk S a (b + 1 - a) = sDark S a b 1023 := rfl
theorem look_0 {S : BS} {q : Nat} (hk : (bLs S).length ≤ 10) : sLk S q &&& 1023 = 0 ↔ sLk S q = 0 := by
  obtain ⟨a, ha, e⟩ := lookN_nat (need := bNeed S) (X := lsX (bLs S)) (q := q) (bLs S).length hk
  have h2 := pow_1024 hk
  have e : sLk S q = nI a := e
  rw [e, and_full (by omega)]
def cntP (S : BS) (r q : Nat) : Prop := ∃ t, t < r ∧ sDark S (raS S t) (rbS S t) 1023 = 0 ∧ raS S t ≤ q ∧ q ≤ rbS S t
def tf (f : jF) (p : Nat → Prop) : Prop := ∀ q, q ≤ 200 → (f q = 1 ∧ p q) ∨ (f q = 0 ∧ ¬ p q)
def laid (A : Nat → jF) (S : BS) : Prop := (∀ q, q ≤ 200 → A 5 q = sLk S q) ∧ tf (A 6) (cntP S (bRs S).length)
def cwP (S : BS) (r : Nat) (w : Int32) (p q : Nat) : Prop := cntP S r q ∨ (w = 1 ∧ raS S r ≤ q ∧ q < p)
theorem tf_eq {f : jF} {p p' : Nat → Prop} (h : tf f p) (e : ∀ q, q ≤ 200 → (p q ↔ p' q)) : tf f p' := fun q hq => by
  rw [← e q hq]; exact h q hq
theorem up_lt {f f' : jF} {p : Nat} {v : Int32} (h : ∀ q, q < p → f q = 0) (e : f' = upd f p v) (hv : v = 0) : ∀ q, q < p + 1 → f' q = 0 := fun q hq => by
  rw [e]
  by_cases w : q = p
  · rw [w, pk_us]; exact hv
  · rw [pk_un w]; exact h q (by omega)
theorem cw_up {f f' : jF} {S : BS} {r p : Nat} {w v : Int32} (h : tf f (cwP S r w p)) (e : f' = upd f p v) (hp : raS S r ≤ p) (hv : (v = 1 ∧ cwP S r w (p + 1) p) ∨ (v = 0 ∧ ¬ cwP S r w (p + 1) p)) : tf f' (cwP S r w (p + 1)) := fun q hq => by
  rw [e]
  by_cases z : q = p
  · rw [z, pk_us]; exact hv
  · rw [pk_un z]
    have e2 : cwP S r w (p + 1) q ↔ cwP S r w p q := ⟨fun y => y.imp id (fun y => ⟨y.1, y.2.1, by omega⟩), fun y => y.imp id (fun y => ⟨y.1, y.2.1, by omega⟩)⟩
    rw [e2]; exact h q hq
theorem cw_1 {f : jF} {S : BS} {r p : Nat} {w : Int32} (h : tf f (cwP S r w p)) (hp : p ≤ 200) (c : ¬ f p = 0) : cwP S r w (p + 1) p := by
  rcases h p hp with ⟨-, y⟩ | ⟨y, -⟩
  · exact y.imp id (fun y => ⟨y.1, y.2.1, by omega⟩)
  · exact absurd y c
theorem cw_2 {S : BS} {r p : Nat} {w : Int32} (hp : raS S r ≤ p) (c : w = 1) : cwP S r w (p + 1) p := Or.inr ⟨c, hp, by omega⟩
theorem cw_3 {f : jF} {S : BS} {r p : Nat} {w : Int32} (h : tf f (cwP S r w p)) (hp : p ≤ 200) (c : f p = 0) (c2 : w = 0) : ¬ cwP S r w (p + 1) p := by
  rcases h p hp with ⟨y, -⟩ | ⟨-, y⟩
  · rw [c] at y; exact absurd y (by decide)
  · exact fun z => z.elim (fun z => y (Or.inl z)) (fun z => absurd (z.1.symm.trans c2) (by decide))
theorem cw_end {f : jF} {S : BS} {r : Nat} {w : Int32} (h : tf f (cwP S r w (rbS S r + 1))) (hw : (w = 1 ∧ sDark S (raS S r) (rbS S r) 1023 = 0) ∨ (w = 0 ∧ ¬ sDark S (raS S r) (rbS S r) 1023 = 0)) : tf f (cntP S (r + 1)) := by
  refine tf_eq h (fun q hq => ⟨fun y => ?_, fun y => ?_⟩)
  · rcases y with ⟨t, y1, y2⟩ | ⟨y1, y2, y3⟩
    · exact ⟨t, by omega, y2⟩
    · rcases hw with z | z
      · exact ⟨r, by omega, z.2, y2, by omega⟩
      · exact absurd (y1.symm.trans z.1) (by decide)
  · obtain ⟨t, y1, y2, y3, y4⟩ := y
    by_cases z : t = r
    · subst z
      rcases hw with z | z
      · exact Or.inr ⟨z.1, y3, by omega⟩
      · exact absurd y2 z.2
    · exact Or.inl ⟨t, by omega, y2, y3, y4⟩
theorem cnt_0 {S : BS} {q : Nat} : ¬ cntP S 0 q := fun ⟨t, h, _⟩ => absurd h (Nat.not_lt_zero t)
def okA (S : BS) (s : Int32) (q : Nat) : Prop := cntP S (bRs S).length q → ¬ sLk S q &&& (s ^^^ -1) = 0
theorem alw_iff {S : BS} {s : Int32} (hr : ∀ r, r < (bRs S).length → rbS S r ≤ 200) : alw S s = true ↔ ∀ q, q ≤ 200 → okA S s q := by
  constructor
  · intro h q hq ⟨r, h1, h2, h3, h4⟩ e
    unfold alw at h
    rw [List.all_eq_true] at h
    have h5 : alwAt S s r := of_decide_eq_true (h r (List.mem_range.mpr h1))
    exact h5 ⟨h2, (dark_pos (hr r h1)).mpr ⟨q, h3, h4, e⟩⟩
  · intro h
    refine alw_t (fun r hr' w => ?_)
    obtain ⟨q, h3, h4, e⟩ := (dark_pos (hr r hr')).mp w.2
    exact h q (by have := hr r hr'; omega) ⟨r, hr', w.1, h3, h4⟩ e
theorem ia_end {S : BS} {s x2 : Int32} {p : Nat} (hr : ∀ r, r < (bRs S).length → rbS S r ≤ 200) (hx : (x2 = 1 ∧ ∀ q, q < p → okA S s q) ∨ (x2 = 0 ∧ ∃ q, q ≤ 200 ∧ ¬ okA S s q)) (h : p = 201 ∨ x2 = 0) : x2 = if alw S s = true then 1 else 0 := by
  rcases hx with ⟨w, ha⟩ | ⟨w, q, hq, hn⟩
  · rcases h with h | h
    · rw [w, if_pos ((alw_iff hr).mpr (fun q hq => ha q (by omega)))]
    · exact absurd (w.symm.trans h) (by decide)
  · rw [w, if_neg (fun z => hn ((alw_iff hr).mp z q hq))]
theorem bit_1023 : ∀ i, i < 10 → ((1023 : Int32) >>> (nI i &&& 31)) &&& 1 = 1 := by decide +kernel
theorem ite_2 {α : Type} {p q r : Prop} [Decidable (p ∧ r)] [Decidable (q ∧ r)] {a b : α} (hp : p) (hq : q) : (if p ∧ r then a else b) = (if q ∧ r then a else b) := by
  by_cases h : r
  · rw [if_pos ⟨hp, h⟩, if_pos ⟨hq, h⟩]
  · rw [if_neg (fun w => h w.2), if_neg (fun w => h w.2)]
theorem sMin_full {S : BS} {v : Int32} {a b : Nat} (h : v = nI (bLs S).length) (hk : (bLs S).length ≤ 10) : sMin S ((1 <<< (v &&& 31)) - 1) a b = sMin S 1023 a b := by
  have e : ∀ q, minG (lsX (bLs S)) (bLs S).length ((1 <<< (v &&& 31)) - 1) q = minG (lsX (bLs S)) (bLs S).length 1023 q := fun q => by
    refine jiter_congr (fun i hi x => ?_)
    have hA : (((1 : Int32) <<< (v &&& 31)) - 1) >>> (nI i &&& 31) &&& 1 = 1 := by
      rw [h, full_k _ (by omega)]
      exact (bits_tb i (by omega) _ (full_lt _ (by omega))).mpr (full_bit hi)
    unfold minStep
    exact ite_2 hA (bit_1023 i (by omega))
  unfold sMin minN
  rw [e]
  exact jiter_congr (fun i hi x => by rw [e])
set_option maxHeartbeats 1000000 in
set_option maxRecDepth 100000 in
theorem c_X7_unlit (g : jG) (d : Nat → Nat) (I : jF) (A : Nat → jF) (S : BS) (j : Nat) (x : Int32) (hp : MP (A 1) S) (hj : j < (bRs S).length) (hx : x = nI j) (hL : ∀ q, q ≤ 200 → A 5 q = sLk S q) : Con g yX7_unlit cX7_unlit 4 (some .int) 0 0 0 0 [.ref (d 0), .int x] [mc g d I A] (jR (some (.int (sDark S (raS S j) (rbS S j) 1023))) [mc g d I A]) := by
  refine Con.of (own := RX7) (lv := [(0, .ref (d 0)), (1, .int x)]) (by decide) rfl (Nat.le_of_ble_eq_true rfl) rfl ?_
  intro E hC hQ hN
  obtain ⟨⟨hq0, hk10⟩, hql, ⟨hq91, hn6⟩, hqr, ⟨hq4, hnd⟩, ⟨hq5, hqh⟩, ⟨hq6, hqs⟩, hq9, hq10⟩ := id hp
  obtain ⟨ha1, ha2, ha3, ha4⟩ := mp_ra hp hj
  refine j_iconst hC (0) dX7_unlit_0 (by decide) ?_
  refine j_istore_n hC dX7_unlit_1 rfl rfl rfl rfl (fun v_1 e_1 => ?_)
  refine j_aload_n hC dX7_unlit_2 rfl rfl ?_
  refine j_get hC uX7 0 0 0 rfl rfl k724 rfl dX7_unlit_3 ?_
  refine j_bipush hC (92) dX7_unlit_6 (by decide) ?_
  refine j_iconst hC (2) dX7_unlit_8 (by decide) ?_
  refine j_iload_n hC dX7_unlit_9 rfl rfl ?_
  refine j_imul hC dX7_unlit_10 ?_
  refine j_iadd hC dX7_unlit_11 ?_
  refine j_ildN hC (m := 92 + 2 * j) 0 1 rfl rfl (r_idx hx) (by omega) dX7_unlit_12 ?_
  refine j_istore_n hC dX7_unlit_13 rfl rfl rfl rfl (fun v_13 e_13 => ?_)
  have L_14 : ∀ (fu : Nat) (t : Nat) (x2 x3 : Int32) (hfu : rbS S j + 2 - raS S j ≤ t + fu) (ht : t ≤ rbS S j + 1 - raS S j) (h2 : x2 = drk S (raS S j) t) (h3 : x3 = nI (raS S j + t)), J g (jRm 0 0 0 0) E 4 14 [(0, .ref (d 0)), (1, .int x), (2, .int x2), (3, .int x3)] [] [mc g d I A] (0) (0) := by
    intro fu
    induction fu with
    | zero => intro t x2 x3 hfu ht h2 h3; exact absurd hfu (by omega)
    | succ fu ih_14 =>
      intro t x2 x3 hfu ht h2 h3
      refine j_iload_n hC dX7_unlit_14 rfl rfl ?_
      refine j_aload_n hC dX7_unlit_15 rfl rfl ?_
      refine j_get hC uX7 0 0 0 rfl rfl k724 rfl dX7_unlit_16 ?_
      refine j_bipush hC (92) dX7_unlit_19 (by decide) ?_
      refine j_iconst hC (2) dX7_unlit_21 (by decide) ?_
      refine j_iload_n hC dX7_unlit_22 rfl rfl ?_
      refine j_imul hC dX7_unlit_23 ?_
      refine j_iadd hC dX7_unlit_24 ?_
      refine j_iconst hC (1) dX7_unlit_25 (by decide) ?_
      refine j_iadd hC dX7_unlit_26 ?_
      refine j_ildN hC (m := 92 + 2 * j + 1) 0 1 rfl rfl (r_idx1 hx) (by omega) dX7_unlit_27 ?_
      refine j_icmp_gt hC dX7_unlit_28 (tgt := 54) (by decide) (fun c_28 => ?_) (fun c_28 => ?_)
      · skip
        have hte : t = rbS S j + 1 - raS S j := by rw [ha2, h3] at c_28; have q2 := (nI_ltI (by omega) (by omega)).mp c_28; omega
        refine j_iload_n hC dX7_unlit_54 rfl rfl ?_
        refine j_iret hC hQ rfl rfl (Nat.le_of_ble_eq_true rfl) (Nat.le_of_ble_eq_true rfl) dX7_unlit_55 rfl ⟨?_, ?_⟩
        · exact congrArg (fun z => some (Value.int z)) (by rw [h2, hte, drk_e])
        · rfl
      · skip
        have htl : t < rbS S j + 1 - raS S j := by have q := Int32.not_lt.mp c_28; rw [ha2, h3] at q; have q2 := (nI_leI (by omega) (by omega)).mp q; omega
        refine j_iload_n hC dX7_unlit_31 rfl rfl ?_
        refine j_aload_n hC dX7_unlit_32 rfl rfl ?_
        refine j_get hC uX7 0 0 10 rfl rfl k734 rfl dX7_unlit_33 ?_
        refine j_iload_n hC dX7_unlit_36 rfl rfl ?_
        refine j_ildN hC (m := raS S j + t) 0 5 rfl rfl h3 (by omega) dX7_unlit_37 ?_
        refine j_if_ne hC dX7_unlit_38 (tgt := 45) (by decide) (fun c_38 => ?_) (fun c_38 => ?_)
        · skip
          rw [hL _ (by omega)] at c_38
          refine j_iconst hC (0) dX7_unlit_45 (by decide) ?_
          refine j_iadd hC dX7_unlit_46 ?_
          refine j_istore_n hC dX7_unlit_47 rfl rfl rfl rfl (fun v_47 e_47 => ?_)
          refine j_iinc hC (1) dX7_unlit_48 rfl rfl rfl rfl rfl (fun v_48 e_48 => ?_)
          refine j_goto hC dX7_unlit_51 (tgt := 14) (by decide) ?_
          refine j_pick [0, 1, 2, 3] ?_
          exact ih_14 (t + 1) _ _ (by omega) (by omega) (by rw [drk_s, ← h2]; first | exact st_pos ((look_0 hk10).mpr c_38) e_47 | exact st_neg (fun w => c_38 ((look_0 hk10).mp w)) e_47) (jsucc e_48 h3)
        · skip
          rw [hL _ (by omega)] at c_38
          refine j_iconst hC (1) dX7_unlit_41 (by decide) ?_
          refine j_goto hC dX7_unlit_42 (tgt := 46) (by decide) ?_
          refine j_iadd hC dX7_unlit_46 ?_
          refine j_istore_n hC dX7_unlit_47 rfl rfl rfl rfl (fun v_47 e_47 => ?_)
          refine j_iinc hC (1) dX7_unlit_48 rfl rfl rfl rfl rfl (fun v_48 e_48 => ?_)
          refine j_goto hC dX7_unlit_51 (tgt := 14) (by decide) ?_
          refine j_pick [0, 1, 2, 3] ?_
          exact ih_14 (t + 1) _ _ (by omega) (by omega) (by rw [drk_s, ← h2]; first | exact st_pos ((look_0 hk10).mpr c_38) e_47 | exact st_neg (fun w => c_38 ((look_0 hk10).mp w)) e_47) (jsucc e_48 h3)
  refine j_pick [0, 1, 2, 3] ?_
  exact L_14 (rbS S j + 2 - raS S j) 0 _ _ (by omega) (by omega) e_1 (e_13.trans ha1)
