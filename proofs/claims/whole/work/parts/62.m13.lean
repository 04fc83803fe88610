/-! the reader: what the class's reader does, by places -/
def jS (J : jF) (n p : Nat) (w : Int32) : Prop := J 1 = nI n ∧ J 2 = nI p ∧ J 3 = w
abbrev dgt (f : jF) (n p : Nat) : Prop := p < n ∧ ¬ f p < 48 ∧ ¬ 57 < f p
def nd (f : jF) (n : Nat) : Nat → Nat → Int32 → Nat × Int32
  | 0, p, v => (p, v)
  | m + 1, p, v => if dgt f n p then nd f n m (p + 1) (10 * v + f p - 48) else (p, v)
theorem nd_1 {f : jF} {n m p : Nat} {v : Int32} (h : dgt f n p) : nd f n (m + 1) p v = nd f n m (p + 1) (10 * v + f p - 48) := if_pos h
theorem nd_2 {f : jF} {n m p : Nat} {v : Int32} (h : ¬ dgt f n p) : nd f n m p v = (p, v) := by
  cases m with
  | zero => rfl
  | succ m => exact if_neg h
theorem nd_le {f : jF} {n : Nat} : ∀ m p v, p ≤ (nd f n m p v).1 ∧ (p ≤ n → (nd f n m p v).1 ≤ n)
  | 0, p, v => ⟨Nat.le_refl p, id⟩
  | m + 1, p, v => by
    by_cases h : dgt f n p
    · rw [nd_1 h]
      have := nd_le (f := f) (n := n) m (p + 1) (10 * v + f p - 48)
      exact ⟨by omega, fun _ => this.2 h.1⟩
    · rw [nd_2 h]; exact ⟨Nat.le_refl p, id⟩
theorem tpk_in {J f : jF} {n p : Nat} {w : Int32} (h : jS J n p w) (hn : n ≤ 80) (hp : p < n) : tPk J f = f p := by
  unfold tPk
  rw [h.1, h.2.1, if_pos ⟨nI_pos (by omega), by rw [nI_leI (by omega) (by omega)]; omega, by show ¬ nI 80 ≤ nI p; rw [nI_leI (by omega) (by omega)]; omega⟩, nI_cl (by omega)]
theorem tpk_end {J f : jF} {n p : Nat} {w : Int32} (h : jS J n p w) (hn : n ≤ 80) (hp : p ≤ n) (hp2 : ¬ p < n) : tPk J f = -1 := by
  unfold tPk
  rw [h.1, h.2.1, if_neg (fun z => z.2.1 (by rw [nI_leI (by omega) (by omega)]; omega))]
theorem dig_iff {J f : jF} {n p : Nat} {w : Int32} (h : jS J n p w) (hn : n ≤ 80) (hp : p ≤ n) : tDig J f ↔ dgt f n p := by
  by_cases q : p < n
  · unfold tDig dgt
    rw [tpk_in h hn q]
    exact ⟨fun z => ⟨q, z⟩, fun z => z.2⟩
  · unfold tDig dgt
    rw [tpk_end h hn hp q]
    exact ⟨fun z => absurd (by decide) z.1, fun z => absurd z.1 q⟩
theorem tpk_iff {J f : jF} {n p : Nat} {w c : Int32} (h : jS J n p w) (hn : n ≤ 80) (hp : p ≤ n) (hc : ¬ c = -1) : tPk J f = c ↔ p < n ∧ f p = c := by
  by_cases q : p < n
  · rw [tpk_in h hn q]; exact ⟨fun z => ⟨q, z⟩, fun z => z.2⟩
  · rw [tpk_end h hn hp q]; exact ⟨fun z => absurd z.symm hc, fun z => absurd z.1 q⟩
theorem jS_up {J : jF} {n p : Nat} {w : Int32} (h : jS J n p w) : jS (upd J 2 (J 2 + 1)) n (p + 1) w := by
  obtain ⟨h1, h2, h3⟩ := h
  exact ⟨by rw [pk_un (by decide)]; exact h1, by rw [pk_us, h2]; exact nI_1 p, by rw [pk_un (by decide)]; exact h3⟩
theorem tFl_new {J : jF} {x : Int32} (h : J 3 = -1) : tFl J x 3 = x := by
  unfold tFl; rw [if_pos h, pk_us]
theorem tFl_keep {J : jF} {x w : Int32} (h : J 3 = w) (hw : ¬ w = -1) : tFl J x 3 = w := by
  unfold tFl; rw [if_neg (by rw [h]; exact hw)]; exact h
theorem tEx_ok {J f : jF} {n p : Nat} {w c : Int32} (h : jS J n p w) (hn : n ≤ 80) (hc : ¬ c = -1) (hp : p < n) (e : f p = c) : jS (tEx J f c) n (p + 1) w := by
  unfold tEx
  rw [if_pos ((tpk_iff h hn (by omega) hc).mpr ⟨hp, e⟩)]
  exact jS_up h
theorem tEx_no {J f : jF} {n p : Nat} {c : Int32} (h : jS J n p (-1)) (hn : n ≤ 80) (hc : ¬ c = -1) (hp : p ≤ n) (e : ¬ (p < n ∧ f p = c)) : tEx J f c 3 = nI p := by
  unfold tEx
  rw [if_neg (fun z => e ((tpk_iff h hn hp hc).mp z)), h.2.1]
  exact tFl_new h.2.2
theorem tEx_keep {J f : jF} {w c : Int32} (h : J 3 = w) (hw : ¬ w = -1) : tEx J f c 3 = w := by
  unfold tEx
  by_cases q : tPk J f = c
  · rw [if_pos q, pk_un (by decide)]; exact h
  · rw [if_neg q]; exact tFl_keep h hw
theorem rnl_3 {f : jF} : ∀ (m : Nat) (J : jF) (v : Int32), (rnl f m J v).1 3 = J 3
  | 0, _, _ => rfl
  | m + 1, J, v => by
    by_cases h : tDig J f
    · rw [rnl_1 h, rnl_3 m, pk_un (by decide)]
    · rw [rnl_2 h]
theorem rnF_keep {J f : jF} {w lo hi : Int32} {m : Nat} (h : J 3 = w) (hw : ¬ w = -1) : rnF J f m lo hi 3 = w := by
  have h3 : (rnl f m J 0).1 3 = w := (rnl_3 m J 0).trans h
  by_cases q : (rnl f m J 0).1 2 = J 2 ∨ tDig (rnl f m J 0).1 f
  · rw [rnF_a q]; exact tFl_keep h3 hw
  · by_cases q2 : (rnl f m J 0).2 < lo ∨ ¬ (rnl f m J 0).2 ≤ hi
    · rw [rnF_b q q2]; exact tFl_keep h3 hw
    · rw [rnF_c q q2]; exact h3
theorem lE_keep {J f : jF} {w c lo hi : Int32} {m : Nat} (h : J 3 = w) (hw : ¬ w = -1) : lE J f c m lo hi 3 = w := rnF_keep (tEx_keep h hw) hw
theorem rnl_nd {f : jF} {n : Nat} (hn : n ≤ 80) : ∀ (m p : Nat) (J : jF) (v w : Int32), jS J n p w → p ≤ n → jS (rnl f m J v).1 n (nd f n m p v).1 w ∧ (rnl f m J v).2 = (nd f n m p v).2
  | 0, p, J, v, w, h, _ => ⟨h, rfl⟩
  | m + 1, p, J, v, w, h, hp => by
    by_cases q : dgt f n p
    · have q2 := (dig_iff h hn hp).mpr q
      rw [rnl_1 q2, nd_1 q, tpk_in h hn q.1]
      exact rnl_nd hn m (p + 1) _ _ w (jS_up h) q.1
    · rw [rnl_2 (fun z => q ((dig_iff h hn hp).mp z)), nd_2 q]
      exact ⟨h, rfl⟩
/-- a number in its range, from a place on: whether, where the reader is then, and which -/
def rnO (f : jF) (n m : Nat) (lo hi : Int32) (p : Nat) : Bool × Nat × Int32 := if (nd f n m p 0).1 = p ∨ dgt f n (nd f n m p 0).1 then (false, (nd f n m p 0).1, (nd f n m p 0).2) else if lo ≤ (nd f n m p 0).2 ∧ (nd f n m p 0).2 ≤ hi then (true, (nd f n m p 0).1, (nd f n m p 0).2) else (false, (nd f n m p 0).1 - 1, (nd f n m p 0).2)
theorem rn_ok {J f : jF} {n m p q : Nat} {lo hi v : Int32} (h : jS J n p (-1)) (hn : n ≤ 80) (hp : p ≤ n) (e : rnO f n m lo hi p = (true, q, v)) : jS (rnF J f m lo hi) n q (-1) ∧ (rnl f m J 0).2 = v ∧ q ≤ n ∧ p < q ∧ lo ≤ v ∧ v ≤ hi := by
  obtain ⟨r1, r2⟩ := rnl_nd (f := f) hn m p J 0 (-1) h hp
  obtain ⟨l1, l2⟩ := nd_le (f := f) (n := n) m p 0
  unfold rnO at e
  by_cases c : (nd f n m p 0).1 = p ∨ dgt f n (nd f n m p 0).1
  · rw [if_pos c] at e; cases e
  · rw [if_neg c] at e
    by_cases c2 : lo ≤ (nd f n m p 0).2 ∧ (nd f n m p 0).2 ≤ hi
    · rw [if_pos c2] at e
      have e1 : (nd f n m p 0).1 = q := congrArg (fun z => z.2.1) e
      have e2 : (nd f n m p 0).2 = v := congrArg (fun z => z.2.2) e
      rw [e1] at c l1 l2 r1
      rw [e2] at c2 r2
      have k1 : ¬ ((rnl f m J 0).1 2 = J 2 ∨ tDig (rnl f m J 0).1 f) := by
        rintro (z | z)
        · rw [r1.2.1, h.2.1] at z
          have := l2 hp
          exact c (Or.inl (nI_injN (by omega) (by omega) z))
        · exact c (Or.inr ((dig_iff r1 hn (l2 hp)).mp z))
      have k2 : ¬ ((rnl f m J 0).2 < lo ∨ ¬ (rnl f m J 0).2 ≤ hi) := by
        rw [r2]
        rintro (z | z)
        · exact Int32.not_lt.mpr c2.1 z
        · exact z c2.2
      rw [rnF_c k1 k2]
      exact ⟨r1, r2, l2 hp, by have : q ≠ p := fun z => c (Or.inl z); omega, c2.1, c2.2⟩
    · rw [if_neg c2] at e; cases e
theorem rn_bad {J f : jF} {n m p q : Nat} {lo hi v : Int32} (h : jS J n p (-1)) (hn : n ≤ 80) (hp : p ≤ n) (e : rnO f n m lo hi p = (false, q, v)) : rnF J f m lo hi 3 = nI q ∧ q ≤ n := by
  obtain ⟨r1, r2⟩ := rnl_nd (f := f) hn m p J 0 (-1) h hp
  obtain ⟨l1, l2⟩ := nd_le (f := f) (n := n) m p 0
  have l3 := l2 hp
  unfold rnO at e
  by_cases c : (nd f n m p 0).1 = p ∨ dgt f n (nd f n m p 0).1
  · rw [if_pos c] at e
    have e1 : (nd f n m p 0).1 = q := congrArg (fun z => z.2.1) e
    have k1 : (rnl f m J 0).1 2 = J 2 ∨ tDig (rnl f m J 0).1 f := by
      rcases c with z | z
      · refine Or.inl ?_
        rw [r1.2.1, h.2.1, z]
      · exact Or.inr ((dig_iff r1 hn l3).mpr z)
    rw [rnF_a k1, r1.2.1, e1]
    exact ⟨tFl_new r1.2.2, by omega⟩
  · rw [if_neg c] at e
    by_cases c2 : lo ≤ (nd f n m p 0).2 ∧ (nd f n m p 0).2 ≤ hi
    · rw [if_pos c2] at e; cases e
    · rw [if_neg c2] at e
      have e1 : (nd f n m p 0).1 - 1 = q := congrArg (fun z => z.2.1) e
      have hne : (nd f n m p 0).1 ≠ p := fun z => c (Or.inl z)
      have k1 : ¬ ((rnl f m J 0).1 2 = J 2 ∨ tDig (rnl f m J 0).1 f) := by
        rintro (z | z)
        · rw [r1.2.1, h.2.1] at z
          exact hne (nI_injN (by omega) (by omega) z)
        · exact c (Or.inr ((dig_iff r1 hn l3).mp z))
      have k2 : (rnl f m J 0).2 < lo ∨ ¬ (rnl f m J 0).2 ≤ hi := by
        rw [r2]
        by_cases z : (nd f n m p 0).2 < lo
        · exact Or.inl z
        · exact Or.inr (fun w => c2 ⟨Int32.not_lt.mp z, w⟩)
      rw [rnF_b k1 k2, r1.2.1]
      refine ⟨(tFl_new r1.2.2).trans ?_, by omega⟩
      rw [← e1]
      exact nI_predP (by omega)
theorem nI_n1 {s : Nat} (h : s ≤ 80) : ¬ nI s = -1 := by
  have : ∀ s, s ≤ 80 → ¬ nI s = -1 := by decide
  exact this s h
/-- a byte and a number behind it -/
theorem lE_ok {J f : jF} {n m p q : Nat} {c lo hi v : Int32} (h : jS J n p (-1)) (hn : n ≤ 80) (hc : ¬ c = -1) (hp : p < n) (e : f p = c) (er : rnO f n m lo hi (p + 1) = (true, q, v)) : jS (lE J f c m lo hi) n q (-1) ∧ lV J f c m = v := by
  obtain ⟨g1, g2, -⟩ := rn_ok (tEx_ok h hn hc hp e) hn hp er
  exact ⟨g1, g2⟩
theorem lE_bad {J f : jF} {n m p q : Nat} {c lo hi v : Int32} (h : jS J n p (-1)) (hn : n ≤ 80) (hc : ¬ c = -1) (hp : p < n) (e : f p = c) (er : rnO f n m lo hi (p + 1) = (false, q, v)) : lE J f c m lo hi 3 = nI q := (rn_bad (tEx_ok h hn hc hp e) hn hp er).1
theorem lE_no {J f : jF} {n m p : Nat} {c lo hi : Int32} (h : jS J n p (-1)) (hn : n ≤ 80) (hc : ¬ c = -1) (hp : p ≤ n) (e : ¬ (p < n ∧ f p = c)) : lE J f c m lo hi 3 = nI p := rnF_keep (tEx_no h hn hc hp e) (nI_n1 (by omega))
theorem rlZ_D {J f : jF} {w : Int32} (h : rlD J f 3 = w) (hw : ¬ w = -1) : rlZ J f 3 = w := by
  unfold rlZ
  refine tEx_keep ?_ hw
  by_cases q : tPk (rlD J f) f = 109
  · rw [if_pos q]; exact tEx_keep h hw
  · rw [if_neg q]; exact h
theorem rlZ_C {J f : jF} {w : Int32} (h : rlC J f 3 = w) (hw : ¬ w = -1) : rlZ J f 3 = w := rlZ_D (lE_keep h hw) hw
theorem rlZ_B {J f : jF} {w : Int32} (h : rlB J f 3 = w) (hw : ¬ w = -1) : rlZ J f 3 = w := rlZ_C (lE_keep h hw) hw
theorem rlZ_A {J f : jF} {w : Int32} (h : rlA J f 3 = w) (hw : ¬ w = -1) : rlZ J f 3 = w := rlZ_B (lE_keep h hw) hw
theorem rrZ_B {J f : jF} {w : Int32} (h : lE (rrA J f) f 45 3 (lV J f 114 3) 200 3 = w) (hw : ¬ w = -1) : rrZ J f 3 = w := tEx_keep h hw
theorem rrZ_A {J f : jF} {w : Int32} (h : rrA J f 3 = w) (hw : ¬ w = -1) : rrZ J f 3 = w := rrZ_B (lE_keep h hw) hw
/-- the byte that the model is at -/
def hrV (f : jF) (n p : Nat) : Int32 := if p < n then f p else -9
theorem hr_iff {f : jF} {n p : Nat} {c : Int32} (hc : ¬ c = -9) : hrV f n p = c ↔ p < n ∧ f p = c := by
  unfold hrV
  by_cases q : p < n
  · rw [if_pos q]; exact ⟨fun z => ⟨q, z⟩, fun z => z.2⟩
  · rw [if_neg q]; exact ⟨fun z => absurd z.symm hc, fun z => absurd z.1 q⟩
theorem fig_iff {f : jF} {n p : Nat} : in01 (hrV f n p) 48 57 ↔ dgt f n p := by
  rw [in_iff]
  unfold hrV dgt
  by_cases q : p < n
  · rw [if_pos q]; exact ⟨fun z => ⟨q, z⟩, fun z => z.2⟩
  · rw [if_neg q]; exact ⟨fun z => absurd (by decide) z.1, fun z => absurd z.1 q⟩
set_option maxHeartbeats 1000000 in
set_option maxRecDepth 100000 in
theorem c_X7_here (g : jG) (d : Nat → Nat) (I : jF) (A : Nat → jF) (n p : Nat) (h3 : I 3 = nI n) (hn : n ≤ 80) (h4 : I 4 = nI p) (hp : p ≤ n) : Con g yX7_here cX7_here 1 (some .int) 0 0 0 0 [.ref (d 0)] [mc g d I A] (jR (some (.int (hrV (A 2) n p))) [mc g d I A]) := by
  refine Con.of (own := RX7) (lv := [(0, .ref (d 0))]) (by decide) rfl (Nat.le_of_ble_eq_true rfl) rfl ?_
  intro E hC hQ hN
  refine j_aload_n hC dX7_here_0 rfl rfl ?_
  refine j_get hC uX7 0 0 4 rfl rfl k728 rfl dX7_here_1 ?_
  refine j_aload_n hC dX7_here_4 rfl rfl ?_
  refine j_get hC uX7 0 0 3 rfl rfl k727 rfl dX7_here_5 ?_
  refine j_icmp_ge hC dX7_here_8 (tgt := 23) (by decide) (fun c_8 => ?_) (fun c_8 => ?_)
  · skip
    have hpn : ¬ p < n := by have := jge h3 h4 (by omega) (by omega) c_8; omega
    refine j_bipush hC (-9) dX7_here_23 (by decide) ?_
    refine j_iret hC hQ rfl rfl (Nat.le_of_ble_eq_true rfl) (Nat.le_of_ble_eq_true rfl) dX7_here_25 rfl ⟨?_, ?_⟩
    · first | exact congrArg (fun z => some (Value.int z)) (if_pos (c := p < n) hpn).symm | exact congrArg (fun z => some (Value.int z)) (if_neg (c := p < n) hpn).symm
    · rfl
  · skip
    have hpn : p < n := jlt h3 h4 (by omega) (by omega) c_8
    refine j_aload_n hC dX7_here_11 rfl rfl ?_
    refine j_get hC uX7 0 0 2 rfl rfl k726 rfl dX7_here_12 ?_
    refine j_aload_n hC dX7_here_15 rfl rfl ?_
    refine j_get hC uX7 0 0 4 rfl rfl k728 rfl dX7_here_16 ?_
    refine j_ildN hC (m := p) 0 2 rfl rfl h4 (by omega) dX7_here_19 ?_
    refine j_goto hC dX7_here_20 (tgt := 25) (by decide) ?_
    refine j_iret hC hQ rfl rfl (Nat.le_of_ble_eq_true rfl) (Nat.le_of_ble_eq_true rfl) dX7_here_25 rfl ⟨?_, ?_⟩
    · first | exact congrArg (fun z => some (Value.int z)) (if_pos (c := p < n) hpn).symm | exact congrArg (fun z => some (Value.int z)) (if_neg (c := p < n) hpn).symm
    · rfl
set_option maxHeartbeats 1000000 in
set_option maxRecDepth 100000 in
theorem c_X7_isFigure (g : jG) (d : Nat → Nat) (I : jF) (A : Nat → jF) (n p : Nat) (h3 : I 3 = nI n) (hn : n ≤ 80) (h4 : I 4 = nI p) (hp : p ≤ n) : Con g yX7_isFigure cX7_isFigure 1 (some .boolean) 1 22 0 0 [.ref (d 0)] [mc g d I A] (jR (some (.int (if dgt (A 2) n p then 1 else 0))) [mc g d I A]) := by
  refine Con.of (own := RX7) (lv := [(0, .ref (d 0))]) (by decide) rfl (Nat.le_of_ble_eq_true rfl) rfl ?_
  intro E hC hQ hN
  refine j_aload_n hC dX7_isFigure_0 rfl rfl ?_
  refine j_callVR hC [0] (c_X7_here g _ _ _ n p h3 hn h4 hp) mX7_here k859 rfl rfl rfl rfl rfl ⟨(Nat.le_of_ble_eq_true rfl), (Nat.le_of_ble_eq_true rfl)⟩ (Nat.le_of_ble_eq_true rfl) ⟨(Nat.le_of_ble_eq_true rfl), (Nat.le_of_ble_eq_true rfl)⟩ dX7_isFigure_1 ?_
  dsimp only [jrepl, List.set, jstk]
  refine j_bipush hC (48) dX7_isFigure_4 (by decide) ?_
  refine j_bipush hC (57) dX7_isFigure_6 (by decide) ?_
  refine j_callSR hC [] (c_X7_in g _ _ _) mX7_in k781 rfl rfl rfl ⟨(Nat.le_of_ble_eq_true rfl), (Nat.le_of_ble_eq_true rfl)⟩ (Nat.le_of_ble_eq_true rfl) ⟨(Nat.le_of_ble_eq_true rfl), (Nat.le_of_ble_eq_true rfl)⟩ dX7_isFigure_8 ?_
  dsimp only [jrepl, List.set, jstk]
  refine j_iret hC hQ rfl (by split <;> rfl) (Nat.le_of_ble_eq_true rfl) (Nat.le_of_ble_eq_true rfl) dX7_isFigure_11 rfl ⟨?_, ?_⟩
  · exact congrArg (fun z => some (Value.int z)) (by by_cases w : dgt (A 2) n p; rw [if_pos w, if_pos (fig_iff.mpr w)]; rw [if_neg w, if_neg (fun z => w (fig_iff.mp z))])
  · rfl
set_option maxHeartbeats 1000000 in
set_option maxRecDepth 100000 in
theorem c_X7_takes (g : jG) (d : Nat → Nat) (I : jF) (A : Nat → jF) (n p : Nat) (c : Int32) (h3 : I 3 = nI n) (hn : n ≤ 80) (h4 : I 4 = nI p) (hp : p ≤ n) (hc : ¬ c = -9) : Con g yX7_takes cX7_takes 3 (some .boolean) 1 20 0 0 [.ref (d 0), .int c] [mc g d I A] (fun r b => ∃ I1 : jF, b = [mc g d I1 A] ∧ (∀ k, k ≠ 4 → I1 k = I k) ∧ r = some (.int (if p < n ∧ A 2 p = c then 1 else 0)) ∧ ((p < n ∧ A 2 p = c) → I1 4 = nI (p + 1)) ∧ (¬ (p < n ∧ A 2 p = c) → I1 4 = nI p)) := by
  refine Con.of (own := RX7) (lv := [(0, .ref (d 0)), (1, .int c)]) (by decide) rfl (Nat.le_of_ble_eq_true rfl) rfl ?_
  intro E hC hQ hN
  refine j_aload_n hC dX7_takes_0 rfl rfl ?_
  refine j_callVR hC [0] (c_X7_here g _ _ _ n p h3 hn h4 hp) mX7_here k859 rfl rfl rfl rfl rfl ⟨(Nat.le_of_ble_eq_true rfl), (Nat.le_of_ble_eq_true rfl)⟩ (Nat.le_of_ble_eq_true rfl) ⟨(Nat.le_of_ble_eq_true rfl), (Nat.le_of_ble_eq_true rfl)⟩ dX7_takes_1 ?_
  dsimp only [jrepl, List.set, jstk]
  refine j_iload_n hC dX7_takes_4 rfl rfl ?_
  refine j_icmp_ne hC dX7_takes_5 (tgt := 12) (by decide) (fun c_5 => ?_) (fun c_5 => ?_)
  · skip
    have hz : ¬ (p < n ∧ A 2 p = c) := fun z => c_5 ((hr_iff hc).mpr z)
    refine j_iconst hC (0) dX7_takes_12 (by decide) ?_
    refine j_istore_n hC dX7_takes_13 rfl rfl rfl rfl (fun v_13 e_13 => ?_)
    refine j_aload_n hC dX7_takes_14 rfl rfl ?_
    refine j_dup hC dX7_takes_15 rfl ?_
    refine j_get hC uX7 0 0 4 rfl rfl k728 rfl dX7_takes_16 ?_
    refine j_iload_n hC dX7_takes_19 rfl rfl ?_
    refine j_if_eq hC dX7_takes_20 (tgt := 27) (by decide) (fun c_20 => ?_) (fun c_20 => ?_)
    · skip
      refine j_iconst hC (0) dX7_takes_27 (by decide) ?_
      refine j_iadd hC dX7_takes_28 ?_
      refine j_put_7_4 (bi := 0) hC rfl k728 dX7_takes_29 ?_
      dsimp only [List.set]
      refine j_iload_n hC dX7_takes_32 rfl rfl ?_
      refine j_iret hC hQ rfl (by first | (rw [e_13]; rfl) | rfl) (Nat.le_of_ble_eq_true rfl) (Nat.le_of_ble_eq_true rfl) dX7_takes_33 rfl ?_
      first | exact ⟨_, rfl, fun k hk => pk_un hk, congrArg (fun z => some (Value.int z)) (e_13.trans (if_pos hz).symm), fun _ => by rw [pk_us, h4]; exact nI_1 p, fun z => absurd hz z⟩ | exact ⟨_, rfl, fun k hk => pk_un hk, congrArg (fun z => some (Value.int z)) (e_13.trans (if_neg hz).symm), fun z => absurd z hz, fun _ => by rw [pk_us, h4, Int32.add_zero]⟩
    · exact absurd c_20 (by rw [e_13]; decide)
  · skip
    have hz : p < n ∧ A 2 p = c := (hr_iff hc).mp (by first | exact c_5 | exact Decidable.not_not.mp c_5)
    refine j_iconst hC (1) dX7_takes_8 (by decide) ?_
    refine j_goto hC dX7_takes_9 (tgt := 13) (by decide) ?_
    refine j_istore_n hC dX7_takes_13 rfl rfl rfl rfl (fun v_13 e_13 => ?_)
    refine j_aload_n hC dX7_takes_14 rfl rfl ?_
    refine j_dup hC dX7_takes_15 rfl ?_
    refine j_get hC uX7 0 0 4 rfl rfl k728 rfl dX7_takes_16 ?_
    refine j_iload_n hC dX7_takes_19 rfl rfl ?_
    refine j_if_eq hC dX7_takes_20 (tgt := 27) (by decide) (fun c_20 => ?_) (fun c_20 => ?_)
    · exact absurd c_20 (by rw [e_13]; decide)
    · skip
      refine j_iconst hC (1) dX7_takes_23 (by decide) ?_
      refine j_goto hC dX7_takes_24 (tgt := 28) (by decide) ?_
      refine j_iadd hC dX7_takes_28 ?_
      refine j_put_7_4 (bi := 0) hC rfl k728 dX7_takes_29 ?_
      dsimp only [List.set]
      refine j_iload_n hC dX7_takes_32 rfl rfl ?_
      refine j_iret hC hQ rfl (by first | (rw [e_13]; rfl) | rfl) (Nat.le_of_ble_eq_true rfl) (Nat.le_of_ble_eq_true rfl) dX7_takes_33 rfl ?_
      first | exact ⟨_, rfl, fun k hk => pk_un hk, congrArg (fun z => some (Value.int z)) (e_13.trans (if_pos hz).symm), fun _ => by rw [pk_us, h4]; exact nI_1 p, fun z => absurd hz z⟩ | exact ⟨_, rfl, fun k hk => pk_un hk, congrArg (fun z => some (Value.int z)) (e_13.trans (if_neg hz).symm), fun z => absurd z hz, fun _ => by rw [pk_us, h4, Int32.add_zero]⟩
theorem rnO_a {f : jF} {n m p q : Nat} {lo hi v : Int32} (e : nd f n m p 0 = (q, v)) (c : q = p ∨ dgt f n q) : rnO f n m lo hi p = (false, q, v) := by
  unfold rnO; rw [e]; exact if_pos c
theorem rnO_b {f : jF} {n m p q : Nat} {lo hi v : Int32} (e : nd f n m p 0 = (q, v)) (c : ¬ (q = p ∨ dgt f n q)) (c2 : lo ≤ v ∧ v ≤ hi) : rnO f n m lo hi p = (true, q, v) := by
  unfold rnO; rw [e]; exact (if_neg c).trans (if_pos c2)
theorem rnO_c {f : jF} {n m p q : Nat} {lo hi v : Int32} (e : nd f n m p 0 = (q, v)) (c : ¬ (q = p ∨ dgt f n q)) (c2 : ¬ (lo ≤ v ∧ v ≤ hi)) : rnO f n m lo hi p = (false, q - 1, v) := by
  unfold rnO; rw [e]; exact (if_neg c).trans (if_neg c2)
theorem rn_fin1 {g : jG} {d : Nat → Nat} {A : Nat → jF} {I I1 : jF} {n m p q : Nat} {lo hi v w : Int32} {b : List va_W} (e : nd (A 2) n m p 0 = (q, v)) (c1 : q ≠ p) (c2 : ¬ dgt (A 2) n q) (hq : 1 ≤ q) (hv5 : I1 5 = v) (hq4 : I1 4 = nI q) (hI : ∀ k, k ≠ 4 → k ≠ 5 → I1 k = I k) (ew : w = if in01 (I1 5) lo hi then 1 else 0) (cw : ¬ w = 0) (hb : b = [mc g d (upd I1 4 (I1 4 - 0)) A]) : ∃ I2 : jF, b = [mc g d I2 A] ∧ (∀ k, k ≠ 4 → k ≠ 5 → I2 k = I k) ∧ some (Value.int w) = some (.int (if (rnO (A 2) n m lo hi p).1 = true then 1 else 0)) ∧ I2 4 = nI (rnO (A 2) n m lo hi p).2.1 ∧ I2 5 = (rnO (A 2) n m lo hi p).2.2 := by
  rw [ew] at cw
  have c3 := jb1 cw
  rw [hv5] at c3
  rw [rnO_b e (fun z => z.elim c1 c2) c3]
  refine ⟨_, hb, fun k k4 k5 => (pk_un k4).trans (hI k k4 k5), ?_, ?_, ?_⟩
  · rw [ew, hv5, if_pos c3]; rfl
  · rw [pk_us, hq4, Int32.sub_zero]
  · rw [pk_un (by decide)]; exact hv5
theorem rn_fin0 {g : jG} {d : Nat → Nat} {A : Nat → jF} {I I1 : jF} {n m p q : Nat} {lo hi v w : Int32} {b : List va_W} (e : nd (A 2) n m p 0 = (q, v)) (c1 : q ≠ p) (c2 : ¬ dgt (A 2) n q) (hq : 1 ≤ q) (hv5 : I1 5 = v) (hq4 : I1 4 = nI q) (hI : ∀ k, k ≠ 4 → k ≠ 5 → I1 k = I k) (ew : w = if in01 (I1 5) lo hi then 1 else 0) (cw : w = 0) (hb : b = [mc g d (upd I1 4 (I1 4 - 1)) A]) : ∃ I2 : jF, b = [mc g d I2 A] ∧ (∀ k, k ≠ 4 → k ≠ 5 → I2 k = I k) ∧ some (Value.int w) = some (.int (if (rnO (A 2) n m lo hi p).1 = true then 1 else 0)) ∧ I2 4 = nI (rnO (A 2) n m lo hi p).2.1 ∧ I2 5 = (rnO (A 2) n m lo hi p).2.2 := by
  have c3 : ¬ in01 v lo hi := by
    rw [ew, hv5] at cw
    exact jb0 cw
  rw [rnO_c e (fun z => z.elim c1 c2) c3]
  refine ⟨_, hb, fun k k4 k5 => (pk_un k4).trans (hI k k4 k5), ?_, ?_, ?_⟩
  · rw [cw]; rfl
  · rw [pk_us, hq4]; exact nI_predP (by omega)
  · rw [pk_un (by decide)]; exact hv5
set_option maxHeartbeats 1000000 in
set_option maxRecDepth 100000 in
theorem c_X7_readsNumber (g : jG) (d : Nat → Nat) (I : jF) (A : Nat → jF) (n p : Nat) (m : Nat) (dg lo hi : Int32) (h3 : I 3 = nI n) (hn : n ≤ 80) (h4 : I 4 = nI p) (hp : p ≤ n) (hm : dg = nI m) (hm3 : m ≤ 3) : Con g yX7_readsNumber cX7_readsNumber 6 (some .boolean) 2 42 0 0 [.ref (d 0), .int dg, .int lo, .int hi] [mc g d I A] (fun r b => ∃ I1 : jF, b = [mc g d I1 A] ∧ (∀ k, k ≠ 4 → k ≠ 5 → I1 k = I k) ∧ r = some (.int (if (rnO (A 2) n m lo hi p).1 = true then 1 else 0)) ∧ I1 4 = nI (rnO (A 2) n m lo hi p).2.1 ∧ I1 5 = (rnO (A 2) n m lo hi p).2.2) := by
  refine Con.of (own := RX7) (lv := [(0, .ref (d 0)), (1, .int dg), (2, .int lo), (3, .int hi)]) (by decide) rfl (Nat.le_of_ble_eq_true rfl) rfl ?_
  intro E hC hQ hN
  refine j_iconst hC (0) dX7_readsNumber_0 (by decide) ?_
  refine j_istore hC dX7_readsNumber_1 rfl rfl rfl (fun v_1 e_1 => ?_)
  refine j_aload_n hC dX7_readsNumber_3 rfl rfl ?_
  refine j_iconst hC (0) dX7_readsNumber_4 (by decide) ?_
  refine j_put_7_5 (bi := 0) hC rfl k729 dX7_readsNumber_5 ?_
  dsimp only [List.set]
  have L_8 : ∀ (fu : Nat) (k q : Nat) (v x4 : Int32) (I1 : jF) (hfu : m + 1 ≤ k + fu) (hk : k ≤ m) (hk4 : x4 = nI k) (hqk : q = p + k) (hqn : q ≤ n) (hI : ∀ k, k ≠ 4 → k ≠ 5 → I1 k = I k) (hq4 : I1 4 = nI q) (hv5 : I1 5 = v) (hnd : nd (A 2) n m p 0 = nd (A 2) n (m - k) q v), J g (jRm 2 42 0 0) E 6 8 [(0, .ref (d 0)), (1, .int dg), (2, .int lo), (3, .int hi), (4, .int x4)] [] [mc g d I1 A] (0) (0) := by
    intro fu
    induction fu with
    | zero => intro k q v x4 I1 hfu hk hk4 hqk hqn hI hq4 hv5 hnd; exact absurd hfu (by omega)
    | succ fu ih_8 =>
      intro k q v x4 I1 hfu hk hk4 hqk hqn hI hq4 hv5 hnd
      refine j_aload_n hC dX7_readsNumber_8 rfl rfl ?_
      refine j_callVR hC [0] (c_X7_isFigure g _ I1 _ n q (by rw [hI 3 (by decide) (by decide)]; exact h3) hn hq4 hqn) mX7_isFigure k871 rfl rfl rfl rfl rfl ⟨(Nat.le_of_ble_eq_true rfl), (Nat.le_of_ble_eq_true rfl)⟩ (Nat.le_of_ble_eq_true rfl) ⟨(Nat.le_of_ble_eq_true rfl), (Nat.le_of_ble_eq_true rfl)⟩ dX7_readsNumber_9 ?_
      dsimp only [jrepl, List.set, jstk]
      refine j_if_eq hC dX7_readsNumber_12 (tgt := 56) (by decide) (fun c_12 => ?_) (fun c_12 => ?_)
      · skip
        have hnd2 : nd (A 2) n m p 0 = (q, v) := by first | (rw [hnd, nd_2 (jb0 c_12)]) | (rw [hnd, show m - k = 0 by have := jge hm hk4 (by omega) (by omega) c_18; omega]; rfl)
        refine j_iload hC dX7_readsNumber_56 rfl ?_
        refine j_if_eq hC dX7_readsNumber_58 (tgt := 68) (by decide) (fun c_58 => ?_) (fun c_58 => ?_)
        · skip
          refine j_iconst hC (0) dX7_readsNumber_68 (by decide) ?_
          refine j_iret hC hQ rfl (by first | rfl | (rw [e_79]; split <;> rfl)) (Nat.le_of_ble_eq_true rfl) (Nat.le_of_ble_eq_true rfl) dX7_readsNumber_69 rfl ?_
          exact ⟨I1, rfl, hI, by rw [rnO_a hnd2 (by first | exact Or.inl (by have z := len_eq hk4 c_58 nI_0.symm (by omega) (by decide); omega) | exact Or.inr (jb1 c_65))]; rfl, by rw [rnO_a hnd2 (by first | exact Or.inl (by have z := len_eq hk4 c_58 nI_0.symm (by omega) (by decide); omega) | exact Or.inr (jb1 c_65))]; exact hq4, by rw [rnO_a hnd2 (by first | exact Or.inl (by have z := len_eq hk4 c_58 nI_0.symm (by omega) (by decide); omega) | exact Or.inr (jb1 c_65))]; exact hv5⟩
        · skip
          refine j_aload_n hC dX7_readsNumber_61 rfl rfl ?_
          refine j_callVR hC [0] (c_X7_isFigure g _ I1 _ n q (by rw [hI 3 (by decide) (by decide)]; exact h3) hn hq4 hqn) mX7_isFigure k871 rfl rfl rfl rfl rfl ⟨(Nat.le_of_ble_eq_true rfl), (Nat.le_of_ble_eq_true rfl)⟩ (Nat.le_of_ble_eq_true rfl) ⟨(Nat.le_of_ble_eq_true rfl), (Nat.le_of_ble_eq_true rfl)⟩ dX7_readsNumber_62 ?_
          dsimp only [jrepl, List.set, jstk]
          refine j_if_eq hC dX7_readsNumber_65 (tgt := 70) (by decide) (fun c_65 => ?_) (fun c_65 => ?_)
          · skip
            have hk0 : k ≠ 0 := fun z => c_58 (by rw [hk4, z]; rfl)
            refine j_aload_n hC dX7_readsNumber_70 rfl rfl ?_
            refine j_get hC uX7 0 0 5 rfl rfl k729 rfl dX7_readsNumber_71 ?_
            refine j_iload_n hC dX7_readsNumber_74 rfl rfl ?_
            refine j_iload_n hC dX7_readsNumber_75 rfl rfl ?_
            refine j_callSR hC [] (c_X7_in g _ _ _) mX7_in k781 rfl rfl rfl ⟨(Nat.le_of_ble_eq_true rfl), (Nat.le_of_ble_eq_true rfl)⟩ (Nat.le_of_ble_eq_true rfl) ⟨(Nat.le_of_ble_eq_true rfl), (Nat.le_of_ble_eq_true rfl)⟩ dX7_readsNumber_76 ?_
            dsimp only [jrepl, List.set, jstk]
            refine j_istore hC dX7_readsNumber_79 rfl rfl rfl (fun v_79 e_79 => ?_)
            refine j_aload_n hC dX7_readsNumber_81 rfl rfl ?_
            refine j_dup hC dX7_readsNumber_82 rfl ?_
            refine j_get hC uX7 0 0 4 rfl rfl k728 rfl dX7_readsNumber_83 ?_
            refine j_iload hC dX7_readsNumber_86 rfl ?_
            refine j_if_eq hC dX7_readsNumber_88 (tgt := 95) (by decide) (fun c_88 => ?_) (fun c_88 => ?_)
            · skip
              refine j_iconst hC (1) dX7_readsNumber_95 (by decide) ?_
              refine j_isub hC dX7_readsNumber_96 ?_
              refine j_put_7_4 (bi := 0) hC rfl k728 dX7_readsNumber_97 ?_
              dsimp only [List.set]
              refine j_iload hC dX7_readsNumber_100 rfl ?_
              refine j_iret hC hQ rfl (by first | rfl | (rw [e_79]; split <;> rfl)) (Nat.le_of_ble_eq_true rfl) (Nat.le_of_ble_eq_true rfl) dX7_readsNumber_102 rfl ?_
              first | exact rn_fin1 hnd2 (by omega) (jb0 c_65) (by omega) hv5 hq4 hI e_79 c_88 rfl | exact rn_fin0 hnd2 (by omega) (jb0 c_65) (by omega) hv5 hq4 hI e_79 c_88 rfl
            · skip
              refine j_iconst hC (0) dX7_readsNumber_91 (by decide) ?_
              refine j_goto hC dX7_readsNumber_92 (tgt := 96) (by decide) ?_
              refine j_isub hC dX7_readsNumber_96 ?_
              refine j_put_7_4 (bi := 0) hC rfl k728 dX7_readsNumber_97 ?_
              dsimp only [List.set]
              refine j_iload hC dX7_readsNumber_100 rfl ?_
              refine j_iret hC hQ rfl (by first | rfl | (rw [e_79]; split <;> rfl)) (Nat.le_of_ble_eq_true rfl) (Nat.le_of_ble_eq_true rfl) dX7_readsNumber_102 rfl ?_
              first | exact rn_fin1 hnd2 (by omega) (jb0 c_65) (by omega) hv5 hq4 hI e_79 c_88 rfl | exact rn_fin0 hnd2 (by omega) (jb0 c_65) (by omega) hv5 hq4 hI e_79 c_88 rfl
          · skip
            refine j_iconst hC (0) dX7_readsNumber_68 (by decide) ?_
            refine j_iret hC hQ rfl (by first | rfl | (rw [e_79]; split <;> rfl)) (Nat.le_of_ble_eq_true rfl) (Nat.le_of_ble_eq_true rfl) dX7_readsNumber_69 rfl ?_
            exact ⟨I1, rfl, hI, by rw [rnO_a hnd2 (by first | exact Or.inl (by have z := len_eq hk4 c_58 nI_0.symm (by omega) (by decide); omega) | exact Or.inr (jb1 c_65))]; rfl, by rw [rnO_a hnd2 (by first | exact Or.inl (by have z := len_eq hk4 c_58 nI_0.symm (by omega) (by decide); omega) | exact Or.inr (jb1 c_65))]; exact hq4, by rw [rnO_a hnd2 (by first | exact Or.inl (by have z := len_eq hk4 c_58 nI_0.symm (by omega) (by decide); omega) | exact Or.inr (jb1 c_65))]; exact hv5⟩
      · skip
        have hdg := jb1 c_12
        refine j_iload hC dX7_readsNumber_15 rfl ?_
        refine j_iload_n hC dX7_readsNumber_17 rfl rfl ?_
        refine j_icmp_ge hC dX7_readsNumber_18 (tgt := 56) (by decide) (fun c_18 => ?_) (fun c_18 => ?_)
        · skip
          have hnd2 : nd (A 2) n m p 0 = (q, v) := by first | (rw [hnd, nd_2 (jb0 c_12)]) | (rw [hnd, show m - k = 0 by have := jge hm hk4 (by omega) (by omega) c_18; omega]; rfl)
          refine j_iload hC dX7_readsNumber_56 rfl ?_
          refine j_if_eq hC dX7_readsNumber_58 (tgt := 68) (by decide) (fun c_58 => ?_) (fun c_58 => ?_)
          · skip
            refine j_iconst hC (0) dX7_readsNumber_68 (by decide) ?_
            refine j_iret hC hQ rfl (by first | rfl | (rw [e_79]; split <;> rfl)) (Nat.le_of_ble_eq_true rfl) (Nat.le_of_ble_eq_true rfl) dX7_readsNumber_69 rfl ?_
            exact ⟨I1, rfl, hI, by rw [rnO_a hnd2 (by first | exact Or.inl (by have z := len_eq hk4 c_58 nI_0.symm (by omega) (by decide); omega) | exact Or.inr (jb1 c_65))]; rfl, by rw [rnO_a hnd2 (by first | exact Or.inl (by have z := len_eq hk4 c_58 nI_0.symm (by omega) (by decide); omega) | exact Or.inr (jb1 c_65))]; exact hq4, by rw [rnO_a hnd2 (by first | exact Or.inl (by have z := len_eq hk4 c_58 nI_0.symm (by omega) (by decide); omega) | exact Or.inr (jb1 c_65))]; exact hv5⟩
          · skip
            refine j_aload_n hC dX7_readsNumber_61 rfl rfl ?_
            refine j_callVR hC [0] (c_X7_isFigure g _ I1 _ n q (by rw [hI 3 (by decide) (by decide)]; exact h3) hn hq4 hqn) mX7_isFigure k871 rfl rfl rfl rfl rfl ⟨(Nat.le_of_ble_eq_true rfl), (Nat.le_of_ble_eq_true rfl)⟩ (Nat.le_of_ble_eq_true rfl) ⟨(Nat.le_of_ble_eq_true rfl), (Nat.le_of_ble_eq_true rfl)⟩ dX7_readsNumber_62 ?_
            dsimp only [jrepl, List.set, jstk]
            refine j_if_eq hC dX7_readsNumber_65 (tgt := 70) (by decide) (fun c_65 => ?_) (fun c_65 => ?_)
            · skip
              have hk0 : k ≠ 0 := fun z => c_58 (by rw [hk4, z]; rfl)
              refine j_aload_n hC dX7_readsNumber_70 rfl rfl ?_
              refine j_get hC uX7 0 0 5 rfl rfl k729 rfl dX7_readsNumber_71 ?_
              refine j_iload_n hC dX7_readsNumber_74 rfl rfl ?_
              refine j_iload_n hC dX7_readsNumber_75 rfl rfl ?_
              refine j_callSR hC [] (c_X7_in g _ _ _) mX7_in k781 rfl rfl rfl ⟨(Nat.le_of_ble_eq_true rfl), (Nat.le_of_ble_eq_true rfl)⟩ (Nat.le_of_ble_eq_true rfl) ⟨(Nat.le_of_ble_eq_true rfl), (Nat.le_of_ble_eq_true rfl)⟩ dX7_readsNumber_76 ?_
              dsimp only [jrepl, List.set, jstk]
              refine j_istore hC dX7_readsNumber_79 rfl rfl rfl (fun v_79 e_79 => ?_)
              refine j_aload_n hC dX7_readsNumber_81 rfl rfl ?_
              refine j_dup hC dX7_readsNumber_82 rfl ?_
              refine j_get hC uX7 0 0 4 rfl rfl k728 rfl dX7_readsNumber_83 ?_
              refine j_iload hC dX7_readsNumber_86 rfl ?_
              refine j_if_eq hC dX7_readsNumber_88 (tgt := 95) (by decide) (fun c_88 => ?_) (fun c_88 => ?_)
              · skip
                refine j_iconst hC (1) dX7_readsNumber_95 (by decide) ?_
                refine j_isub hC dX7_readsNumber_96 ?_
                refine j_put_7_4 (bi := 0) hC rfl k728 dX7_readsNumber_97 ?_
                dsimp only [List.set]
                refine j_iload hC dX7_readsNumber_100 rfl ?_
                refine j_iret hC hQ rfl (by first | rfl | (rw [e_79]; split <;> rfl)) (Nat.le_of_ble_eq_true rfl) (Nat.le_of_ble_eq_true rfl) dX7_readsNumber_102 rfl ?_
                first | exact rn_fin1 hnd2 (by omega) (jb0 c_65) (by omega) hv5 hq4 hI e_79 c_88 rfl | exact rn_fin0 hnd2 (by omega) (jb0 c_65) (by omega) hv5 hq4 hI e_79 c_88 rfl
              · skip
                refine j_iconst hC (0) dX7_readsNumber_91 (by decide) ?_
                refine j_goto hC dX7_readsNumber_92 (tgt := 96) (by decide) ?_
                refine j_isub hC dX7_readsNumber_96 ?_
                refine j_put_7_4 (bi := 0) hC rfl k728 dX7_readsNumber_97 ?_
                dsimp only [List.set]
                refine j_iload hC dX7_readsNumber_100 rfl ?_
                refine j_iret hC hQ rfl (by first | rfl | (rw [e_79]; split <;> rfl)) (Nat.le_of_ble_eq_true rfl) (Nat.le_of_ble_eq_true rfl) dX7_readsNumber_102 rfl ?_
                first | exact rn_fin1 hnd2 (by omega) (jb0 c_65) (by omega) hv5 hq4 hI e_79 c_88 rfl | exact rn_fin0 hnd2 (by omega) (jb0 c_65) (by omega) hv5 hq4 hI e_79 c_88 rfl
            · skip
              refine j_iconst hC (0) dX7_readsNumber_68 (by decide) ?_
              refine j_iret hC hQ rfl (by first | rfl | (rw [e_79]; split <;> rfl)) (Nat.le_of_ble_eq_true rfl) (Nat.le_of_ble_eq_true rfl) dX7_readsNumber_69 rfl ?_
              exact ⟨I1, rfl, hI, by rw [rnO_a hnd2 (by first | exact Or.inl (by have z := len_eq hk4 c_58 nI_0.symm (by omega) (by decide); omega) | exact Or.inr (jb1 c_65))]; rfl, by rw [rnO_a hnd2 (by first | exact Or.inl (by have z := len_eq hk4 c_58 nI_0.symm (by omega) (by decide); omega) | exact Or.inr (jb1 c_65))]; exact hq4, by rw [rnO_a hnd2 (by first | exact Or.inl (by have z := len_eq hk4 c_58 nI_0.symm (by omega) (by decide); omega) | exact Or.inr (jb1 c_65))]; exact hv5⟩
        · skip
          have hkm : k < m := jlt hm hk4 (by omega) (by omega) c_18
          refine j_aload_n hC dX7_readsNumber_21 rfl rfl ?_
          refine j_bipush hC (10) dX7_readsNumber_22 (by decide) ?_
          refine j_aload_n hC dX7_readsNumber_24 rfl rfl ?_
          refine j_get hC uX7 0 0 5 rfl rfl k729 rfl dX7_readsNumber_25 ?_
          refine j_imul hC dX7_readsNumber_28 ?_
          refine j_aload_n hC dX7_readsNumber_29 rfl rfl ?_
          refine j_callVR hC [0] (c_X7_here g _ I1 _ n q (by rw [hI 3 (by decide) (by decide)]; exact h3) hn hq4 hqn) mX7_here k859 rfl rfl rfl rfl rfl ⟨(Nat.le_of_ble_eq_true rfl), (Nat.le_of_ble_eq_true rfl)⟩ (Nat.le_of_ble_eq_true rfl) ⟨(Nat.le_of_ble_eq_true rfl), (Nat.le_of_ble_eq_true rfl)⟩ dX7_readsNumber_30 ?_
          dsimp only [jrepl, List.set, jstk]
          refine j_iadd hC dX7_readsNumber_33 ?_
          refine j_bipush hC (48) dX7_readsNumber_34 (by decide) ?_
          refine j_isub hC dX7_readsNumber_36 ?_
          refine j_put_7_5 (bi := 0) hC rfl k729 dX7_readsNumber_37 ?_
          dsimp only [List.set]
          refine j_aload_n hC dX7_readsNumber_40 rfl rfl ?_
          refine j_dup hC dX7_readsNumber_41 rfl ?_
          refine j_get hC uX7 0 0 4 rfl rfl k728 rfl dX7_readsNumber_42 ?_
          refine j_iconst hC (1) dX7_readsNumber_45 (by decide) ?_
          refine j_iadd hC dX7_readsNumber_46 ?_
          refine j_put_7_4 (bi := 0) hC rfl k728 dX7_readsNumber_47 ?_
          dsimp only [List.set]
          refine j_iinc hC (1) dX7_readsNumber_50 rfl rfl rfl rfl rfl (fun v_50 e_50 => ?_)
          refine j_goto hC dX7_readsNumber_53 (tgt := 8) (by decide) ?_
          refine j_pick [0, 1, 2, 3, 4] ?_
          exact ih_8 (k + 1) (q + 1) (10 * v + A 2 q - 48) _ _ (by omega) (by omega) (jsucc e_50 hk4) (by omega) (by have := hdg.1; omega) (fun k k4 k5 => by rw [pk_un k4, pk_un k5]; exact hI k k4 k5) (by rw [pk_us, pk_un (by decide), hq4]; exact nI_1 q) (by rw [pk_un (by decide), pk_us, hv5]; unfold hrV; rw [if_pos hdg.1]) (by rw [hnd, show m - k = (m - (k + 1)) + 1 by omega, nd_1 hdg])
  refine j_pick [0, 1, 2, 3, 4] ?_
  exact L_8 (m + 1) 0 p 0 _ _ (by omega) (by omega) (e_1.trans nI_0.symm) rfl hp (fun k _ k5 => pk_un k5) (by rw [pk_un (by decide)]; exact h4) pk_us rfl
