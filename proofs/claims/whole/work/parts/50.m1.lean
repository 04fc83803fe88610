/-! rows of the model's arrays, by numbers -/
section MROWS
variable {g : jG} {R : Room} {E : jE} {cc : ByteArray} {own : String} {nL pc : Nat} {lv : List (Nat × Value)} {st : List Value} {bl : List va_W} {k n : Nat}
theorem j_ildN (hC : jC g R E cc own nL) {a N m : Nat} {f : Nat → Int32} {i : Int32} (bi bj : Nat) (hat : jat bl bi bj = some (a, .inl (g.2.2 1, N, .inl f))) (hN : Nat.ble N 2000 = true) (hn : i = nI m) (hm : m < N) (hd : decode cc pc = .ok (.iaload, 1)) (kk : J g R E nL (pc + 1) lv (.int (f m) :: st) bl k n) : J g R E nL pc lv (.int i :: .ref a :: st) bl k n := by
  have hN := Nat.le_of_ble_eq_true hN
  subst hn
  refine j_iald hC bi bj hat (vp_in_nI hm (by omega)) hd ?_
  rw [nI_cl (by omega)]
  exact kk
theorem j_zldN (hC : jC g R E cc own nL) {a N m : Nat} {f : Nat → Int32} {i : Int32} (bi bj : Nat) (hat : jat bl bi bj = some (a, .inl (g.2.2 2, N, .inl f))) (hN : Nat.ble N 2000 = true) (hn : i = nI m) (hm : m < N) (hd : decode cc pc = .ok (.baload, 1)) (kk : J g R E nL (pc + 1) lv (.int (f m) :: st) bl k n) : J g R E nL pc lv (.int i :: .ref a :: st) bl k n := by
  have hN := Nat.le_of_ble_eq_true hN
  subst hn
  refine j_zald hC bi bj hat (vp_in_nI hm (by omega)) hd ?_
  rw [nI_cl (by omega)]
  exact kk
theorem j_st_7_1 (hC : jC g R E cc own nL) {d : Nat → Nat} {I : jF} {A : Nat → jF} {bi m : Nat} {i x : Int32} (hb : bl[bi]? = some (mc g d I A)) (hn : i = nI m) (hm : m < 999) (hd : decode cc pc = .ok (.iastore, 1)) (kk : ∀ A1 : Nat → jF, A1 1 = upd (A 1) m (x) → (∀ q, q ≠ 1 → A1 q = A q) → J g R E nL (pc + 1) lv st (bl.set bi (mc g d I A1)) k n) : J g R E nL pc lv (.int x :: .int i :: .ref (d 1) :: st) bl k n := by
  subst hn
  refine j_ast_7_1 hC hb (vp_in_nI hm (by decide)) hd ?_
  rw [nI_cl (by omega)]
  exact kk _ va_up_at (fun q hq => by unfold va_up; rw [if_neg hq])
theorem j_st_7_2 (hC : jC g R E cc own nL) {d : Nat → Nat} {I : jF} {A : Nat → jF} {bi m : Nat} {i x : Int32} (hb : bl[bi]? = some (mc g d I A)) (hn : i = nI m) (hm : m < 80) (hd : decode cc pc = .ok (.iastore, 1)) (kk : ∀ A1 : Nat → jF, A1 2 = upd (A 2) m (x) → (∀ q, q ≠ 2 → A1 q = A q) → J g R E nL (pc + 1) lv st (bl.set bi (mc g d I A1)) k n) : J g R E nL pc lv (.int x :: .int i :: .ref (d 2) :: st) bl k n := by
  subst hn
  refine j_ast_7_2 hC hb (vp_in_nI hm (by decide)) hd ?_
  rw [nI_cl (by omega)]
  exact kk _ va_up_at (fun q hq => by unfold va_up; rw [if_neg hq])
theorem j_st_7_3 (hC : jC g R E cc own nL) {d : Nat → Nat} {I : jF} {A : Nat → jF} {bi m : Nat} {i x : Int32} (hb : bl[bi]? = some (mc g d I A)) (hn : i = nI m) (hm : m < 50) (hd : decode cc pc = .ok (.iastore, 1)) (kk : ∀ A1 : Nat → jF, A1 3 = upd (A 3) m (x) → (∀ q, q ≠ 3 → A1 q = A q) → J g R E nL (pc + 1) lv st (bl.set bi (mc g d I A1)) k n) : J g R E nL pc lv (.int x :: .int i :: .ref (d 3) :: st) bl k n := by
  subst hn
  refine j_ast_7_3 hC hb (vp_in_nI hm (by decide)) hd ?_
  rw [nI_cl (by omega)]
  exact kk _ va_up_at (fun q hq => by unfold va_up; rw [if_neg hq])
theorem j_st_7_4 (hC : jC g R E cc own nL) {d : Nat → Nat} {I : jF} {A : Nat → jF} {bi m : Nat} {i x : Int32} (hb : bl[bi]? = some (mc g d I A)) (hn : i = nI m) (hm : m < 12) (hd : decode cc pc = .ok (.iastore, 1)) (kk : ∀ A1 : Nat → jF, A1 4 = upd (A 4) m (x) → (∀ q, q ≠ 4 → A1 q = A q) → J g R E nL (pc + 1) lv st (bl.set bi (mc g d I A1)) k n) : J g R E nL pc lv (.int x :: .int i :: .ref (d 4) :: st) bl k n := by
  subst hn
  refine j_ast_7_4 hC hb (vp_in_nI hm (by decide)) hd ?_
  rw [nI_cl (by omega)]
  exact kk _ va_up_at (fun q hq => by unfold va_up; rw [if_neg hq])
theorem j_st_7_5 (hC : jC g R E cc own nL) {d : Nat → Nat} {I : jF} {A : Nat → jF} {bi m : Nat} {i x : Int32} (hb : bl[bi]? = some (mc g d I A)) (hn : i = nI m) (hm : m < 201) (hd : decode cc pc = .ok (.iastore, 1)) (kk : ∀ A1 : Nat → jF, A1 5 = upd (A 5) m (x) → (∀ q, q ≠ 5 → A1 q = A q) → J g R E nL (pc + 1) lv st (bl.set bi (mc g d I A1)) k n) : J g R E nL pc lv (.int x :: .int i :: .ref (d 5) :: st) bl k n := by
  subst hn
  refine j_ast_7_5 hC hb (vp_in_nI hm (by decide)) hd ?_
  rw [nI_cl (by omega)]
  exact kk _ va_up_at (fun q hq => by unfold va_up; rw [if_neg hq])
theorem j_st_7_6 (hC : jC g R E cc own nL) {d : Nat → Nat} {I : jF} {A : Nat → jF} {bi m : Nat} {i x : Int32} (hb : bl[bi]? = some (mc g d I A)) (hn : i = nI m) (hm : m < 201) (hd : decode cc pc = .ok (.bastore, 1)) (kk : ∀ A1 : Nat → jF, A1 6 = upd (A 6) m (vp_nar .boolean x) → (∀ q, q ≠ 6 → A1 q = A q) → J g R E nL (pc + 1) lv st (bl.set bi (mc g d I A1)) k n) : J g R E nL pc lv (.int x :: .int i :: .ref (d 6) :: st) bl k n := by
  subst hn
  refine j_ast_7_6 hC hb (vp_in_nI hm (by decide)) hd ?_
  rw [nI_cl (by omega)]
  exact kk _ va_up_at (fun q hq => by unfold va_up; rw [if_neg hq])
theorem j_st_7_7 (hC : jC g R E cc own nL) {d : Nat → Nat} {I : jF} {A : Nat → jF} {bi m : Nat} {i x : Int32} (hb : bl[bi]? = some (mc g d I A)) (hn : i = nI m) (hm : m < 1024) (hd : decode cc pc = .ok (.iastore, 1)) (kk : ∀ A1 : Nat → jF, A1 7 = upd (A 7) m (x) → (∀ q, q ≠ 7 → A1 q = A q) → J g R E nL (pc + 1) lv st (bl.set bi (mc g d I A1)) k n) : J g R E nL pc lv (.int x :: .int i :: .ref (d 7) :: st) bl k n := by
  subst hn
  refine j_ast_7_7 hC hb (vp_in_nI hm (by decide)) hd ?_
  rw [nI_cl (by omega)]
  exact kk _ va_up_at (fun q hq => by unfold va_up; rw [if_neg hq])
theorem j_st_7_8 (hC : jC g R E cc own nL) {d : Nat → Nat} {I : jF} {A : Nat → jF} {bi m : Nat} {i x : Int32} (hb : bl[bi]? = some (mc g d I A)) (hn : i = nI m) (hm : m < 1024) (hd : decode cc pc = .ok (.iastore, 1)) (kk : ∀ A1 : Nat → jF, A1 8 = upd (A 8) m (x) → (∀ q, q ≠ 8 → A1 q = A q) → J g R E nL (pc + 1) lv st (bl.set bi (mc g d I A1)) k n) : J g R E nL pc lv (.int x :: .int i :: .ref (d 8) :: st) bl k n := by
  subst hn
  refine j_ast_7_8 hC hb (vp_in_nI hm (by decide)) hd ?_
  rw [nI_cl (by omega)]
  exact kk _ va_up_at (fun q hq => by unfold va_up; rw [if_neg hq])
theorem j_st_7_9 (hC : jC g R E cc own nL) {d : Nat → Nat} {I : jF} {A : Nat → jF} {bi m : Nat} {i x : Int32} (hb : bl[bi]? = some (mc g d I A)) (hn : i = nI m) (hm : m < 1024) (hd : decode cc pc = .ok (.bastore, 1)) (kk : ∀ A1 : Nat → jF, A1 9 = upd (A 9) m (vp_nar .boolean x) → (∀ q, q ≠ 9 → A1 q = A q) → J g R E nL (pc + 1) lv st (bl.set bi (mc g d I A1)) k n) : J g R E nL pc lv (.int x :: .int i :: .ref (d 9) :: st) bl k n := by
  subst hn
  refine j_ast_7_9 hC hb (vp_in_nI hm (by decide)) hd ?_
  rw [nI_cl (by omega)]
  exact kk _ va_up_at (fun q hq => by unfold va_up; rw [if_neg hq])
theorem j_st_7_10 (hC : jC g R E cc own nL) {d : Nat → Nat} {I : jF} {A : Nat → jF} {bi m : Nat} {i x : Int32} (hb : bl[bi]? = some (mc g d I A)) (hn : i = nI m) (hm : m < 10) (hd : decode cc pc = .ok (.iastore, 1)) (kk : ∀ A1 : Nat → jF, A1 10 = upd (A 10) m (x) → (∀ q, q ≠ 10 → A1 q = A q) → J g R E nL (pc + 1) lv st (bl.set bi (mc g d I A1)) k n) : J g R E nL pc lv (.int x :: .int i :: .ref (d 10) :: st) bl k n := by
  subst hn
  refine j_ast_7_10 hC hb (vp_in_nI hm (by decide)) hd ?_
  rw [nI_cl (by omega)]
  exact kk _ va_up_at (fun q hq => by unfold va_up; rw [if_neg hq])
end MROWS
/-! the model's page: how it holds a light -/
theorem iadd_t {x y : Int32} {a b : Int} (hx : x.toInt = a) (hy : y.toInt = b) (h1 : -2147483648 ≤ a + b) (h2 : a + b < 2147483648) : (x + y).toInt = a + b := by
  rw [Int32.toInt_add, hx, hy, Int.bmod_eq_of_le (by omega) (by omega)]
theorem isub_t {x y : Int32} {a b : Int} (hx : x.toInt = a) (hy : y.toInt = b) (h1 : -2147483648 ≤ a - b) (h2 : a - b < 2147483648) : (x - y).toInt = a - b := by
  rw [Int32.toInt_sub, hx, hy, Int.bmod_eq_of_le (by omega) (by omega)]
theorem ile_t {x y : Int32} : x ≤ y ↔ x.toInt ≤ y.toInt := Int32.le_iff_toInt_le
theorem ilt_t {x y : Int32} : x < y ↔ x.toInt < y.toInt := Int32.lt_iff_toInt_lt
theorem i_eq {x y : Int32} (h : x.toInt = y.toInt) : x = y := Int32.toInt_inj.mp h
theorem z_t : (0 : Int32).toInt = 0 := by decide
theorem i0123 {x : Int32} (h1 : 0 ≤ x.toInt) (h2 : x.toInt ≤ 3) : x = 0 ∨ x = 1 ∨ x = 2 ∨ x = 3 := by
  have e0 : (0 : Int32).toInt = 0 := by decide
  have e1 : (1 : Int32).toInt = 1 := by decide
  have e2 : (2 : Int32).toInt = 2 := by decide
  have e3 : (3 : Int32).toInt = 3 := by decide
  rcases (show x.toInt = 0 ∨ x.toInt = 1 ∨ x.toInt = 2 ∨ x.toInt = 3 by omega) with h | h | h | h
  · exact Or.inl (i_eq (h.trans e0.symm))
  · exact Or.inr (Or.inl (i_eq (h.trans e1.symm)))
  · exact Or.inr (Or.inr (Or.inl (i_eq (h.trans e2.symm))))
  · exact Or.inr (Or.inr (Or.inr (i_eq (h.trans e3.symm))))
/-- a light in its ranges, its charge at most c -/
def rg (c : Int) (L : jF) : Prop := (0 ≤ (L 0).toInt ∧ (L 0).toInt ≤ 200) ∧ (0 ≤ (L 2).toInt ∧ (L 2).toInt ≤ 3) ∧ (0 ≤ (L 3).toInt ∧ (L 3).toInt ≤ 2) ∧ (L 4 = 0 ∨ L 4 = 1) ∧ (0 ≤ (L 5).toInt ∧ (L 5).toInt ≤ 1000) ∧ (0 ≤ (L 6).toInt ∧ (L 6).toInt ≤ c)
/-- the page holds a light at its place: all numbers, but of the lamp the minutes for which it was lit -/
def lok (c : Int) (P : jF) (i : Nat) (L : jF) : Prop := (∀ f, f < 9 → f ≠ 7 → P (1 + 9 * i + f) = L f) ∧ L 7 = jmax 0 (lifeOf (L 3) - P (1 + 9 * i + 7)) ∧ rg c L ∧ 0 ≤ (P (1 + 9 * i + 7)).toInt ∧ (P (1 + 9 * i + 7)).toInt ≤ 9059
def pfr (i : Nat) (P Q : jF) : Prop := ∀ q, (q < 1 + 9 * i ∨ 1 + 9 * i + 9 ≤ q) → Q q = P q
theorem pfr_refl {i : Nat} {P : jF} : pfr i P P := fun _ _ => rfl
theorem pfr_upd {i f : Nat} {P Q Q' : jF} {v : Int32} (h : pfr i P Q) (e : Q' = upd Q (1 + 9 * i + f) v) (hf : f < 9) : pfr i P Q' := fun q hq => by rw [e, updN (by omega)]; exact h q hq
theorem pfr_tr {i : Nat} {P Q Q' : jF} (h : pfr i P Q) (h2 : pfr i Q Q') : pfr i P Q' := fun q hq => (h2 q hq).trans (h q hq)
theorem lok_at {c : Int} {P : jF} {i : Nat} {L : jF} (h : lok c P i L) (f : Nat) (hf : f < 9) (h7 : f ≠ 7) : P (1 + 9 * i + f) = L f := h.1 f hf h7
theorem lok_mono {c c' : Int} {P : jF} {i : Nat} {L : jF} (h : lok c P i L) (hc : c ≤ c') : lok c' P i L := by
  obtain ⟨h1, h2, ⟨r1, r2, r3, r4, r5, r6⟩, h4⟩ := h
  exact ⟨h1, h2, ⟨r1, r2, r3, r4, r5, r6.1, by omega⟩, h4⟩
theorem lok_fr {c : Int} {i j : Nat} {P Q : jF} {L : jF} (h : lok c P j L) (hp : pfr i P Q) (hij : i ≠ j) : lok c Q j L := by
  have e : ∀ f, f < 9 → Q (1 + 9 * j + f) = P (1 + 9 * j + f) := fun f hf => hp _ (by omega)
  obtain ⟨h1, h2, h3, h4⟩ := h
  exact ⟨fun f hf h7 => (e f hf).trans (h1 f hf h7), by rw [e 7 (by decide)]; exact h2, h3, by rw [e 7 (by decide)]; exact h4⟩
theorem lok_eq {c : Int} {j : Nat} {P Q : jF} {L : jF} (h : lok c P j L) (e : ∀ f, f < 9 → Q (1 + 9 * j + f) = P (1 + 9 * j + f)) : lok c Q j L := by
  obtain ⟨h1, h2, h3, h4⟩ := h
  exact ⟨fun f hf h7 => (e f hf).trans (h1 f hf h7), by rw [e 7 (by decide)]; exact h2, h3, by rw [e 7 (by decide)]; exact h4⟩
/-- a number of the light is set, not that of its lamp -/
theorem lok_set {c c' : Int} {P Q : jF} {i f : Nat} {L : jF} {v : Int32} (h : lok c P i L) (e : Q = upd P (1 + 9 * i + f) v) (hf : f < 9) (h3 : f ≠ 3) (h7 : f ≠ 7) (hr : rg c' (upd L f v)) : lok c' Q i (upd L f v) := by
  obtain ⟨h1, h2, -, h4⟩ := h
  subst e
  refine ⟨fun q hq q7 => ?_, ?_, hr, ?_⟩
  · by_cases w : q = f
    · rw [w, pk_us, pk_us]
    · rw [pk_un (by omega), pk_un w]; exact h1 q hq q7
  · rw [pk_un (Ne.symm h7), pk_un (Ne.symm h3), pk_un (by omega)]; exact h2
  · rw [pk_un (by omega)]; exact h4
/-- the minutes of the lamp are set -/
theorem lok_lit {c : Int} {P Q : jF} {i : Nat} {L : jF} {v r : Int32} (h : lok c P i L) (e : Q = upd P (1 + 9 * i + 7) v) (hv : 0 ≤ v.toInt) (hv2 : v.toInt ≤ 9059) (hr : r = jmax 0 (lifeOf (L 3) - v)) : lok c Q i (upd L 7 r) := by
  obtain ⟨h1, h2, ⟨r1, r2, r3, r4, r5, r6⟩, h4⟩ := h
  subst e
  refine ⟨fun q hq q7 => ?_, ?_, ⟨r1, r2, r3, r4, r5, r6⟩, ?_⟩
  · rw [pk_un (by omega), pk_un q7]; exact h1 q hq q7
  · rw [pk_us, pk_us]; exact hr
  · rw [pk_us]; exact ⟨hv, hv2⟩
theorem rated_cases {x : Int32} (h1 : 0 ≤ x.toInt) (h2 : x.toInt ≤ 3) : ∃ r : Nat, (r = 60 ∨ r = 90 ∨ r = 120 ∨ r = 180) ∧ rated x = nI r := by
  rcases i0123 h1 h2 with rfl | rfl | rfl | rfl
  · exact ⟨60, Or.inl rfl, rfl⟩
  · exact ⟨90, Or.inr (Or.inl rfl), rfl⟩
  · exact ⟨120, Or.inr (Or.inr (Or.inl rfl)), rfl⟩
  · exact ⟨180, Or.inr (Or.inr (Or.inr rfl)), rfl⟩
theorem cap_nat {L : jF} (h2 : 0 ≤ (L 2).toInt ∧ (L 2).toInt ≤ 3) (h5 : 0 ≤ (L 5).toInt ∧ (L 5).toInt ≤ 1000) : ∃ m : Nat, m ≤ 225 ∧ capL L = nI m := by
  obtain ⟨r, hr, e⟩ := rated_cases h2.1 h2.2
  obtain ⟨b, hb, e5, hb2⟩ := jnat_of h5.1
  have hb3 : b ≤ 1000 := by omega
  refine ⟨5 * r * b / 4000, ?_, ?_⟩
  · have : 5 * r * b ≤ 900 * 1000 := Nat.mul_le_mul (by omega) hb3
    omega
  · unfold capL
    have : 5 * r * b ≤ 900 * 1000 := Nat.mul_le_mul (by omega) hb3
    rw [e, e5, show (5 : Int32) = nI 5 from rfl, show (4000 : Int32) = nI 4000 from rfl, pk_mul, pk_mul, pk_div (by omega) (by decide) (by decide)]
theorem full_nat {L : jF} (h2 : 0 ≤ (L 2).toInt ∧ (L 2).toInt ≤ 3) (h5 : 0 ≤ (L 5).toInt ∧ (L 5).toInt ≤ 1000) : ∃ m : Nat, m ≤ 5400 ∧ fullL L = nI m := by
  obtain ⟨m, hm, e⟩ := cap_nat h2 h5
  exact ⟨24 * m, by omega, by unfold fullL; rw [e, show (24 : Int32) = nI 24 from rfl, pk_mul]⟩
theorem rated_m {x v : Int32} (e : v = x) (h : ¬ v = 3) (h1 : 0 ≤ x.toInt) (h2 : x.toInt ≤ 3) : 60 + 30 * v = rated x := by
  subst e
  rcases i0123 h1 h2 with rfl | rfl | rfl | rfl
  · rfl
  · rfl
  · rfl
  · exact absurd rfl h
theorem rated_3 {x v : Int32} (e : v = x) (h : v = 3) : 180 = rated x := by
  subst e; subst h; rfl
theorem life_m {x : Int32} (h1 : 0 ≤ x.toInt) (h2 : x.toInt ≤ 2) : 3000 * (x + 1) = lifeOf x := by
  rcases i0123 h1 (by omega) with rfl | rfl | rfl | rfl
  · rfl
  · rfl
  · rfl
  · exact absurd h2 (by decide)
theorem rest_a {c : Int} {P : jF} {i : Nat} {L : jF} {v : Int32} (h : lok c P i L) (e : v = 3000 * (P (1 + 9 * i + 3) + 1) - P (1 + 9 * i + 7)) (w : ¬ v ≤ 0) : v = L 7 := by
  obtain ⟨h1, h2, ⟨-, -, r3, -⟩, -⟩ := h
  rw [h1 3 (by decide) (by decide), life_m r3.1 r3.2] at e
  rw [h2, ← e]
  exact (if_pos (Int32.not_le.mp w)).symm
theorem rest_b {c : Int} {P : jF} {i : Nat} {L : jF} {v : Int32} (h : lok c P i L) (e : v = 3000 * (P (1 + 9 * i + 3) + 1) - P (1 + 9 * i + 7)) (w : v ≤ 0) : 0 = L 7 := by
  obtain ⟨h1, h2, ⟨-, -, r3, -⟩, -⟩ := h
  rw [h1 3 (by decide) (by decide), life_m r3.1 r3.2] at e
  rw [h2, ← e]
  exact (if_neg (Int32.not_lt.mpr w)).symm
theorem end_a {c : Int} {P : jF} {i : Nat} {L : jF} {v : Int32} (h : lok c P i L) (e : v = P (1 + 9 * i + 6) / 24) (w : ¬ L 7 ≤ v) : v = endL L := by
  unfold endL jmin
  rw [h.1 6 (by decide) (by decide)] at e
  rw [← e, if_neg (fun q => w (Int32.le_of_lt q))]
theorem end_b {c : Int} {P : jF} {i : Nat} {L : jF} {v : Int32} (h : lok c P i L) (e : v = P (1 + 9 * i + 6) / 24) (w : L 7 ≤ v) : L 7 = endL L := by
  unfold endL jmin
  rw [h.1 6 (by decide) (by decide)] at e
  rw [← e]
  by_cases q : L 7 < v
  · rw [if_pos q]
  · rw [if_neg q]; exact Int32.le_antisymm w (Int32.not_lt.mp q)
theorem away_1 {c : Int} {P : jF} {i p : Nat} {L : jF} {v x : Int32} (h : lok c P i L) (hp : p ≤ 200) (hx : x = nI p) (e : v = P (1 + 9 * i + 0) - x) (w : ¬ P (1 + 9 * i + 0) ≤ x) : v = jabs (x - L 0) := by
  obtain ⟨h1, -, ⟨⟨r1, r2⟩, -⟩, -⟩ := h
  rw [h1 0 (by decide) (by decide)] at e w
  have hxt : x.toInt = p := by rw [hx, nI_toInt (by omega)]
  rw [ile_t, hxt] at w
  have q : (x - L 0).toInt = p - (L 0).toInt := isub_t hxt rfl (by omega) (by omega)
  unfold jabs
  rw [if_neg (by rw [ile_t, q, z_t]; omega), e]
  apply i_eq
  rw [isub_t rfl hxt (by omega) (by omega), isub_t z_t q (by omega) (by omega)]
  omega
theorem away_2 {c : Int} {P : jF} {i p : Nat} {L : jF} {v x : Int32} (h : lok c P i L) (hp : p ≤ 200) (hx : x = nI p) (e : v = x - P (1 + 9 * i + 0)) (w : P (1 + 9 * i + 0) ≤ x) : v = jabs (x - L 0) := by
  obtain ⟨h1, -, ⟨⟨r1, r2⟩, -⟩, -⟩ := h
  rw [h1 0 (by decide) (by decide)] at e w
  have hxt : x.toInt = p := by rw [hx, nI_toInt (by omega)]
  rw [ile_t, hxt] at w
  have q : (x - L 0).toInt = p - (L 0).toInt := isub_t hxt rfl (by omega) (by omega)
  unfold jabs
  rw [if_pos (by rw [ile_t, q, z_t]; omega), e]
theorem clip_1 {x y : Int32} (w : ¬ x ≤ y) : y = jmin x y := (if_pos (Int32.not_le.mp w)).symm
theorem clip_2 {x y : Int32} (w : x ≤ y) : x = jmin x y := (if_neg (Int32.not_lt.mpr w)).symm
theorem rg_6 {c c' : Int} {L : jF} {v : Int32} (h : rg c L) (h1 : 0 ≤ v.toInt) (h2 : v.toInt ≤ c') : rg c' (upd L 6 v) := by
  obtain ⟨r1, r2, r3, r4, r5, r6⟩ := h
  exact ⟨r1, r2, r3, r4, r5, h1, h2⟩
theorem rg_5 {c : Int} {L : jF} {v : Int32} (h : rg c L) (h1 : 0 ≤ v.toInt) (h2 : v.toInt ≤ 1000) : rg c (upd L 5 v) := by
  obtain ⟨r1, r2, r3, r4, r5, r6⟩ := h
  exact ⟨r1, r2, r3, r4, ⟨h1, h2⟩, r6⟩
theorem rg_4 {c : Int} {L : jF} {v : Int32} (h : rg c L) (h1 : v = 0 ∨ v = 1) : rg c (upd L 4 v) := by
  obtain ⟨r1, r2, r3, r4, r5, r6⟩ := h
  exact ⟨r1, r2, r3, h1, r5, r6⟩
theorem rg_8 {c : Int} {L : jF} {v : Int32} (h : rg c L) : rg c (upd L 8 v) := h
theorem clip_rg {c : Int} {L : jF} (h : rg c L) : rg 5400 (upd L 6 (jmin (L 6) (fullL L))) := by
  obtain ⟨m, hm, e⟩ := full_nat h.2.1 h.2.2.2.2.1
  refine rg_6 h ?_ ?_
  · rw [jmin_toInt, e, nI_toInt (by omega)]; have := h.2.2.2.2.2.1; omega
  · rw [jmin_toInt, e, nI_toInt (by omega)]; omega
theorem wear_1 {x y : Int32} (hx : 0 ≤ x.toInt ∧ x.toInt ≤ 1000) (hy : 0 ≤ y.toInt ∧ y.toInt ≤ 1000) (w : ¬ x ≤ y) : x - y = jmax 0 (x - y) := by
  rw [ile_t] at w
  refine (if_pos ?_).symm
  rw [ilt_t, z_t, isub_t rfl rfl (by omega) (by omega)]; omega
theorem wear_2 {x y : Int32} (hx : 0 ≤ x.toInt ∧ x.toInt ≤ 1000) (hy : 0 ≤ y.toInt ∧ y.toInt ≤ 1000) (w : x ≤ y) : 0 = jmax 0 (x - y) := by
  rw [ile_t] at w
  refine (if_neg ?_).symm
  rw [ilt_t, z_t, isub_t rfl rfl (by omega) (by omega)]; omega
theorem wear_rg {x y : Int32} (hx : 0 ≤ x.toInt ∧ x.toInt ≤ 1000) (hy : 0 ≤ y.toInt ∧ y.toInt ≤ 1000) : 0 ≤ (jmax 0 (x - y)).toInt ∧ (jmax 0 (x - y)).toInt ≤ 1000 := by
  rw [jmax_toInt, z_t, isub_t rfl rfl (by omega) (by omega)]; omega
abbrev in01 (x y z : Int32) : Prop := y ≤ x ∧ x ≤ z
theorem at_eq {i w : Nat} {x y : Int32} (hx : x = nI i) (hy : y = nI w) : 1 + 9 * x + y = nI (1 + 9 * i + w) := by
  rw [hx, hy, show (1 : Int32) = nI 1 from rfl, show (9 : Int32) = nI 9 from rfl, pk_mul, nI_add, nI_add]
set_option maxHeartbeats 1000000 in
set_option maxRecDepth 100000 in
theorem c_X7_in (g : jG) (x y z : Int32) : Con g yX7_in cX7_in 3 (some .boolean) 0 0 0 0 [.int x, .int y, .int z] [] (jR (some (.int (if in01 x y z then 1 else 0))) []) := by
  refine Con.of (own := RX7) (lv := [(0, .int x), (1, .int y), (2, .int z)]) (by decide) rfl (Nat.le_of_ble_eq_true rfl) rfl ?_
  intro E hC hQ hN
  refine j_iload_n hC dX7_in_0 rfl rfl ?_
  refine j_iload_n hC dX7_in_1 rfl rfl ?_
  refine j_icmp_lt hC dX7_in_2 (tgt := 14) (by decide) (fun c_2 => ?_) (fun c_2 => ?_)
  · skip
    refine j_iconst hC (0) dX7_in_14 (by decide) ?_
    refine j_iret hC hQ rfl (by first | rfl | (subst_vars; rfl) | (split <;> rfl)) (Nat.le_of_ble_eq_true rfl) (Nat.le_of_ble_eq_true rfl) dX7_in_15 rfl ⟨?_, ?_⟩
    · first | exact congrArg (fun z => some (Value.int z)) (if_pos ⟨Int32.not_lt.mp c_2, Int32.not_lt.mp c_7⟩).symm | exact congrArg (fun z => some (Value.int z)) (if_neg (fun q => Int32.not_le.mpr c_2 q.1)).symm | exact congrArg (fun z => some (Value.int z)) (if_neg (fun q => Int32.not_le.mpr c_7 q.2)).symm
    · rfl
  · skip
    refine j_iload_n hC dX7_in_5 rfl rfl ?_
    refine j_iload_n hC dX7_in_6 rfl rfl ?_
    refine j_icmp_gt hC dX7_in_7 (tgt := 14) (by decide) (fun c_7 => ?_) (fun c_7 => ?_)
    · skip
      refine j_iconst hC (0) dX7_in_14 (by decide) ?_
      refine j_iret hC hQ rfl (by first | rfl | (subst_vars; rfl) | (split <;> rfl)) (Nat.le_of_ble_eq_true rfl) (Nat.le_of_ble_eq_true rfl) dX7_in_15 rfl ⟨?_, ?_⟩
      · first | exact congrArg (fun z => some (Value.int z)) (if_pos ⟨Int32.not_lt.mp c_2, Int32.not_lt.mp c_7⟩).symm | exact congrArg (fun z => some (Value.int z)) (if_neg (fun q => Int32.not_le.mpr c_2 q.1)).symm | exact congrArg (fun z => some (Value.int z)) (if_neg (fun q => Int32.not_le.mpr c_7 q.2)).symm
      · rfl
    · skip
      refine j_iconst hC (1) dX7_in_10 (by decide) ?_
      refine j_goto hC dX7_in_11 (tgt := 15) (by decide) ?_
      refine j_iret hC hQ rfl (by first | rfl | (subst_vars; rfl) | (split <;> rfl)) (Nat.le_of_ble_eq_true rfl) (Nat.le_of_ble_eq_true rfl) dX7_in_15 rfl ⟨?_, ?_⟩
      · first | exact congrArg (fun z => some (Value.int z)) (if_pos ⟨Int32.not_lt.mp c_2, Int32.not_lt.mp c_7⟩).symm | exact congrArg (fun z => some (Value.int z)) (if_neg (fun q => Int32.not_le.mpr c_2 q.1)).symm | exact congrArg (fun z => some (Value.int z)) (if_neg (fun q => Int32.not_le.mpr c_7 q.2)).symm
      · rfl
set_option maxHeartbeats 1000000 in
set_option maxRecDepth 100000 in
theorem c_X7_reachOf (g : jG) (x : Int32) : Con g yX7_reachOf cX7_reachOf 1 (some .int) 0 0 0 0 [.int x] [] (jR (some (.int (widthOf x))) []) := by
  refine Con.of (own := RX7) (lv := [(0, .int x)]) (by decide) rfl (Nat.le_of_ble_eq_true rfl) rfl ?_
  intro E hC hQ hN
  refine j_iload_n hC dX7_reachOf_0 rfl rfl ?_
  refine j_if_ne hC dX7_reachOf_1 (tgt := 8) (by decide) (fun c_1 => ?_) (fun c_1 => ?_)
  · skip
    refine j_iload_n hC dX7_reachOf_8 rfl rfl ?_
    refine j_iconst hC (1) dX7_reachOf_9 (by decide) ?_
    refine j_icmp_ne hC dX7_reachOf_10 (tgt := 18) (by decide) (fun c_10 => ?_) (fun c_10 => ?_)
    · skip
      refine j_bipush hC (9) dX7_reachOf_18 (by decide) ?_
      refine j_iret hC hQ rfl rfl (Nat.le_of_ble_eq_true rfl) (Nat.le_of_ble_eq_true rfl) dX7_reachOf_20 rfl ⟨?_, ?_⟩
      · first | rfl | (subst_vars; simp [widthOf, *]; done) | (subst_vars; simp_all [widthOf]; done)
      · rfl
    · skip
      refine j_bipush hC (6) dX7_reachOf_13 (by decide) ?_
      refine j_goto hC dX7_reachOf_15 (tgt := 20) (by decide) ?_
      refine j_iret hC hQ rfl rfl (Nat.le_of_ble_eq_true rfl) (Nat.le_of_ble_eq_true rfl) dX7_reachOf_20 rfl ⟨?_, ?_⟩
      · first | rfl | (subst_vars; simp [widthOf, *]; done) | (subst_vars; simp_all [widthOf]; done)
      · rfl
  · skip
    refine j_iconst hC (4) dX7_reachOf_4 (by decide) ?_
    refine j_goto hC dX7_reachOf_5 (tgt := 20) (by decide) ?_
    refine j_iret hC hQ rfl rfl (Nat.le_of_ble_eq_true rfl) (Nat.le_of_ble_eq_true rfl) dX7_reachOf_20 rfl ⟨?_, ?_⟩
    · first | rfl | (subst_vars; simp [widthOf, *]; done) | (subst_vars; simp_all [widthOf]; done)
    · rfl
set_option maxHeartbeats 1000000 in
set_option maxRecDepth 100000 in
theorem c_X7_isPlace (g : jG) (x : Int32) : Con g yX7_isPlace cX7_isPlace 1 (some .boolean) 1 22 0 0 [.int x] [] (jR (some (.int (if in01 x 0 200 then 1 else 0))) []) := by
  refine Con.of (own := RX7) (lv := [(0, .int x)]) (by decide) rfl (Nat.le_of_ble_eq_true rfl) rfl ?_
  intro E hC hQ hN
  refine j_iload_n hC dX7_isPlace_0 rfl rfl ?_
  refine j_iconst hC (0) dX7_isPlace_1 (by decide) ?_
  refine j_sipush hC (200) dX7_isPlace_2 (by decide) ?_
  refine j_callSR hC [] (c_X7_in g _ _ _) mX7_in k781 rfl rfl rfl ⟨(Nat.le_of_ble_eq_true rfl), (Nat.le_of_ble_eq_true rfl)⟩ (Nat.le_of_ble_eq_true rfl) ⟨(Nat.le_of_ble_eq_true rfl), (Nat.le_of_ble_eq_true rfl)⟩ dX7_isPlace_5 ?_
  dsimp only [jrepl, List.set, jstk]
  refine j_iret hC hQ rfl (by split <;> rfl) (Nat.le_of_ble_eq_true rfl) (Nat.le_of_ble_eq_true rfl) dX7_isPlace_8 rfl ⟨?_, ?_⟩
  · rfl
  · rfl
set_option maxHeartbeats 1000000 in
set_option maxRecDepth 100000 in
theorem c_X7_isLamp (g : jG) (x : Int32) : Con g yX7_isLamp cX7_isLamp 1 (some .boolean) 1 22 0 0 [.int x] [] (jR (some (.int (if in01 x 0 2 then 1 else 0))) []) := by
  refine Con.of (own := RX7) (lv := [(0, .int x)]) (by decide) rfl (Nat.le_of_ble_eq_true rfl) rfl ?_
  intro E hC hQ hN
  refine j_iload_n hC dX7_isLamp_0 rfl rfl ?_
  refine j_iconst hC (0) dX7_isLamp_1 (by decide) ?_
  refine j_iconst hC (2) dX7_isLamp_2 (by decide) ?_
  refine j_callSR hC [] (c_X7_in g _ _ _) mX7_in k781 rfl rfl rfl ⟨(Nat.le_of_ble_eq_true rfl), (Nat.le_of_ble_eq_true rfl)⟩ (Nat.le_of_ble_eq_true rfl) ⟨(Nat.le_of_ble_eq_true rfl), (Nat.le_of_ble_eq_true rfl)⟩ dX7_isLamp_3 ?_
  dsimp only [jrepl, List.set, jstk]
  refine j_iret hC hQ rfl (by split <;> rfl) (Nat.le_of_ble_eq_true rfl) (Nat.le_of_ble_eq_true rfl) dX7_isLamp_6 rfl ⟨?_, ?_⟩
  · rfl
  · rfl
set_option maxHeartbeats 1000000 in
set_option maxRecDepth 100000 in
theorem c_X7_at (g : jG) (d : Nat → Nat) (I : jF) (A : Nat → jF) (i w : Nat) (x y : Int32) (hx : x = nI i) (hi : i ≤ 10) (hy : y = nI w) (hw : w < 9) : Con g yX7_at cX7_at 3 (some .int) 0 0 0 0 [.ref (d 0), .int x, .int y] [mc g d I A] (jR (some (.int (nI (1 + 9 * i + w)))) [mc g d I A]) := by
  refine Con.of (own := RX7) (lv := [(0, .ref (d 0)), (1, .int x), (2, .int y)]) (by decide) rfl (Nat.le_of_ble_eq_true rfl) rfl ?_
  intro E hC hQ hN
  refine j_iconst hC (1) dX7_at_0 (by decide) ?_
  refine j_bipush hC (9) dX7_at_1 (by decide) ?_
  refine j_iload_n hC dX7_at_3 rfl rfl ?_
  refine j_imul hC dX7_at_4 ?_
  refine j_iadd hC dX7_at_5 ?_
  refine j_iload_n hC dX7_at_6 rfl rfl ?_
  refine j_iadd hC dX7_at_7 ?_
  refine j_iret hC hQ rfl rfl (Nat.le_of_ble_eq_true rfl) (Nat.le_of_ble_eq_true rfl) dX7_at_8 rfl ⟨?_, ?_⟩
  · exact congrArg (fun z => some (Value.int z)) (at_eq hx hy)
  · rfl
set_option maxHeartbeats 1000000 in
set_option maxRecDepth 100000 in
theorem c_X7_of (g : jG) (d : Nat → Nat) (I : jF) (A : Nat → jF) (i w : Nat) (x y : Int32) (hx : x = nI i) (hi : i ≤ 10) (hy : y = nI w) (hw : w < 9) : Con g yX7_of cX7_of 3 (some .int) 1 22 0 0 [.ref (d 0), .int x, .int y] [mc g d I A] (jR (some (.int (A 1 (1 + 9 * i + w)))) [mc g d I A]) := by
  refine Con.of (own := RX7) (lv := [(0, .ref (d 0)), (1, .int x), (2, .int y)]) (by decide) rfl (Nat.le_of_ble_eq_true rfl) rfl ?_
  intro E hC hQ hN
  refine j_aload_n hC dX7_of_0 rfl rfl ?_
  refine j_get hC uX7 0 0 0 rfl rfl k724 rfl dX7_of_1 ?_
  refine j_aload_n hC dX7_of_4 rfl rfl ?_
  refine j_iload_n hC dX7_of_5 rfl rfl ?_
  refine j_iload_n hC dX7_of_6 rfl rfl ?_
  refine j_callVR hC [0] (c_X7_at g _ _ _ _ _ _ _ hx hi hy hw) mX7_at k799 rfl rfl rfl rfl rfl ⟨(Nat.le_of_ble_eq_true rfl), (Nat.le_of_ble_eq_true rfl)⟩ (Nat.le_of_ble_eq_true rfl) ⟨(Nat.le_of_ble_eq_true rfl), (Nat.le_of_ble_eq_true rfl)⟩ dX7_of_7 ?_
  dsimp only [jrepl, List.set, jstk]
  refine j_ildN hC 0 1 rfl rfl rfl (by omega) dX7_of_10 ?_
  refine j_iret hC hQ rfl rfl (Nat.le_of_ble_eq_true rfl) (Nat.le_of_ble_eq_true rfl) dX7_of_11 rfl ⟨?_, ?_⟩
  · rfl
  · rfl
set_option maxHeartbeats 1000000 in
set_option maxRecDepth 100000 in
theorem c_X7_lights (g : jG) (d : Nat → Nat) (I : jF) (A : Nat → jF) : Con g yX7_lights cX7_lights 1 (some .int) 0 0 0 0 [.ref (d 0)] [mc g d I A] (jR (some (.int (A 1 0))) [mc g d I A]) := by
  refine Con.of (own := RX7) (lv := [(0, .ref (d 0))]) (by decide) rfl (Nat.le_of_ble_eq_true rfl) rfl ?_
  intro E hC hQ hN
  refine j_aload_n hC dX7_lights_0 rfl rfl ?_
  refine j_get hC uX7 0 0 0 rfl rfl k724 rfl dX7_lights_1 ?_
  refine j_iconst hC (0) dX7_lights_4 (by decide) ?_
  refine j_ildN hC (m := 0) 0 1 rfl rfl (by decide) (by decide) dX7_lights_5 ?_
  refine j_iret hC hQ rfl rfl (Nat.le_of_ble_eq_true rfl) (Nat.le_of_ble_eq_true rfl) dX7_lights_6 rfl ⟨?_, ?_⟩
  · rfl
  · rfl
set_option maxHeartbeats 1000000 in
set_option maxRecDepth 100000 in
theorem c_X7_isLight (g : jG) (d : Nat → Nat) (I : jF) (A : Nat → jF) (x : Int32) : Con g yX7_isLight cX7_isLight 2 (some .boolean) 1 22 0 0 [.ref (d 0), .int x] [mc g d I A] (jR (some (.int (if in01 x 0 (A 1 0 - 1) then 1 else 0))) [mc g d I A]) := by
  refine Con.of (own := RX7) (lv := [(0, .ref (d 0)), (1, .int x)]) (by decide) rfl (Nat.le_of_ble_eq_true rfl) rfl ?_
  intro E hC hQ hN
  refine j_iload_n hC dX7_isLight_0 rfl rfl ?_
  refine j_iconst hC (0) dX7_isLight_1 (by decide) ?_
  refine j_aload_n hC dX7_isLight_2 rfl rfl ?_
  refine j_callVR hC [0] (c_X7_lights g _ _ _) mX7_lights k787 rfl rfl rfl rfl rfl ⟨(Nat.le_of_ble_eq_true rfl), (Nat.le_of_ble_eq_true rfl)⟩ (Nat.le_of_ble_eq_true rfl) ⟨(Nat.le_of_ble_eq_true rfl), (Nat.le_of_ble_eq_true rfl)⟩ dX7_isLight_3 ?_
  dsimp only [jrepl, List.set, jstk]
  refine j_iconst hC (1) dX7_isLight_6 (by decide) ?_
  refine j_isub hC dX7_isLight_7 ?_
  refine j_callSR hC [] (c_X7_in g _ _ _) mX7_in k781 rfl rfl rfl ⟨(Nat.le_of_ble_eq_true rfl), (Nat.le_of_ble_eq_true rfl)⟩ (Nat.le_of_ble_eq_true rfl) ⟨(Nat.le_of_ble_eq_true rfl), (Nat.le_of_ble_eq_true rfl)⟩ dX7_isLight_8 ?_
  dsimp only [jrepl, List.set, jstk]
  refine j_iret hC hQ rfl (by split <;> rfl) (Nat.le_of_ble_eq_true rfl) (Nat.le_of_ble_eq_true rfl) dX7_isLight_11 rfl ⟨?_, ?_⟩
  · rfl
  · rfl
set_option maxHeartbeats 1000000 in
set_option maxRecDepth 100000 in
theorem c_X7_isRoute (g : jG) (d : Nat → Nat) (I : jF) (A : Nat → jF) (x : Int32) : Con g yX7_isRoute cX7_isRoute 2 (some .boolean) 1 22 0 0 [.ref (d 0), .int x] [mc g d I A] (jR (some (.int (if in01 x 0 (A 1 91 - 1) then 1 else 0))) [mc g d I A]) := by
  refine Con.of (own := RX7) (lv := [(0, .ref (d 0)), (1, .int x)]) (by decide) rfl (Nat.le_of_ble_eq_true rfl) rfl ?_
  intro E hC hQ hN
  refine j_iload_n hC dX7_isRoute_0 rfl rfl ?_
  refine j_iconst hC (0) dX7_isRoute_1 (by decide) ?_
  refine j_aload_n hC dX7_isRoute_2 rfl rfl ?_
  refine j_get hC uX7 0 0 0 rfl rfl k724 rfl dX7_isRoute_3 ?_
  refine j_bipush hC (91) dX7_isRoute_6 (by decide) ?_
  refine j_ildN hC (m := 91) 0 1 rfl rfl (by decide) (by decide) dX7_isRoute_8 ?_
  refine j_iconst hC (1) dX7_isRoute_9 (by decide) ?_
  refine j_isub hC dX7_isRoute_10 ?_
  refine j_callSR hC [] (c_X7_in g _ _ _) mX7_in k781 rfl rfl rfl ⟨(Nat.le_of_ble_eq_true rfl), (Nat.le_of_ble_eq_true rfl)⟩ (Nat.le_of_ble_eq_true rfl) ⟨(Nat.le_of_ble_eq_true rfl), (Nat.le_of_ble_eq_true rfl)⟩ dX7_isRoute_11 ?_
  dsimp only [jrepl, List.set, jstk]
  refine j_iret hC hQ rfl (by split <;> rfl) (Nat.le_of_ble_eq_true rfl) (Nat.le_of_ble_eq_true rfl) dX7_isRoute_14 rfl ⟨?_, ?_⟩
  · rfl
  · rfl
set_option maxHeartbeats 1000000 in
set_option maxRecDepth 100000 in
theorem c_X7_ratedOf (g : jG) (d : Nat → Nat) (I : jF) (A : Nat → jF) (i : Nat) (bt x : Int32) (hx : x = nI i) (hi : i ≤ 10) (hb : A 1 (1 + 9 * i + 2) = bt) (hb0 : 0 ≤ bt.toInt ∧ bt.toInt ≤ 3) : Con g yX7_ratedOf cX7_ratedOf 3 (some .int) 2 44 0 0 [.ref (d 0), .int x] [mc g d I A] (jR (some (.int (rated bt))) [mc g d I A]) := by
  refine Con.of (own := RX7) (lv := [(0, .ref (d 0)), (1, .int x)]) (by decide) rfl (Nat.le_of_ble_eq_true rfl) rfl ?_
  intro E hC hQ hN
  refine j_aload_n hC dX7_ratedOf_0 rfl rfl ?_
  refine j_iload_n hC dX7_ratedOf_1 rfl rfl ?_
  refine j_iconst hC (2) dX7_ratedOf_2 (by decide) ?_
  refine j_callVR hC [0] (c_X7_of g _ _ _ _ 2 _ _ hx hi (by decide) (by decide)) mX7_of k811 rfl rfl rfl rfl rfl ⟨(Nat.le_of_ble_eq_true rfl), (Nat.le_of_ble_eq_true rfl)⟩ (Nat.le_of_ble_eq_true rfl) ⟨(Nat.le_of_ble_eq_true rfl), (Nat.le_of_ble_eq_true rfl)⟩ dX7_ratedOf_3 ?_
  dsimp only [jrepl, List.set, jstk]
  refine j_istore_n hC dX7_ratedOf_6 rfl rfl rfl rfl (fun v_6 e_6 => ?_)
  refine j_iload_n hC dX7_ratedOf_7 rfl rfl ?_
  refine j_iconst hC (3) dX7_ratedOf_8 (by decide) ?_
  refine j_icmp_ne hC dX7_ratedOf_9 (tgt := 18) (by decide) (fun c_9 => ?_) (fun c_9 => ?_)
  · skip
    refine j_bipush hC (60) dX7_ratedOf_18 (by decide) ?_
    refine j_bipush hC (30) dX7_ratedOf_20 (by decide) ?_
    refine j_iload_n hC dX7_ratedOf_22 rfl rfl ?_
    refine j_imul hC dX7_ratedOf_23 ?_
    refine j_iadd hC dX7_ratedOf_24 ?_
    refine j_iret hC hQ rfl rfl (Nat.le_of_ble_eq_true rfl) (Nat.le_of_ble_eq_true rfl) dX7_ratedOf_25 rfl ⟨?_, ?_⟩
    · first | exact congrArg (fun z => some (Value.int z)) (rated_3 (e_6.trans hb) c_9) | exact congrArg (fun z => some (Value.int z)) (rated_m (e_6.trans hb) c_9 hb0.1 hb0.2)
    · rfl
  · skip
    refine j_sipush hC (180) dX7_ratedOf_12 (by decide) ?_
    refine j_goto hC dX7_ratedOf_15 (tgt := 25) (by decide) ?_
    refine j_iret hC hQ rfl rfl (Nat.le_of_ble_eq_true rfl) (Nat.le_of_ble_eq_true rfl) dX7_ratedOf_25 rfl ⟨?_, ?_⟩
    · first | exact congrArg (fun z => some (Value.int z)) (rated_3 (e_6.trans hb) c_9) | exact congrArg (fun z => some (Value.int z)) (rated_m (e_6.trans hb) c_9 hb0.1 hb0.2)
    · rfl
set_option maxHeartbeats 1000000 in
set_option maxRecDepth 100000 in
theorem c_X7_capacityOf (g : jG) (d : Nat → Nat) (I : jF) (A : Nat → jF) (i : Nat) (bt sn x : Int32) (hx : x = nI i) (hi : i ≤ 10) (hb : A 1 (1 + 9 * i + 2) = bt) (hb0 : 0 ≤ bt.toInt ∧ bt.toInt ≤ 3) (hs : A 1 (1 + 9 * i + 5) = sn) : Con g yX7_capacityOf cX7_capacityOf 2 (some .int) 3 66 0 0 [.ref (d 0), .int x] [mc g d I A] (jR (some (.int (5 * rated bt * sn / 4000))) [mc g d I A]) := by
  refine Con.of (own := RX7) (lv := [(0, .ref (d 0)), (1, .int x)]) (by decide) rfl (Nat.le_of_ble_eq_true rfl) rfl ?_
  intro E hC hQ hN
  refine j_iconst hC (5) dX7_capacityOf_0 (by decide) ?_
  refine j_aload_n hC dX7_capacityOf_1 rfl rfl ?_
  refine j_iload_n hC dX7_capacityOf_2 rfl rfl ?_
  refine j_callVR hC [0] (c_X7_ratedOf g _ _ _ _ _ _ hx hi hb hb0) mX7_ratedOf k807 rfl rfl rfl rfl rfl ⟨(Nat.le_of_ble_eq_true rfl), (Nat.le_of_ble_eq_true rfl)⟩ (Nat.le_of_ble_eq_true rfl) ⟨(Nat.le_of_ble_eq_true rfl), (Nat.le_of_ble_eq_true rfl)⟩ dX7_capacityOf_3 ?_
  dsimp only [jrepl, List.set, jstk]
  refine j_imul hC dX7_capacityOf_6 ?_
  refine j_aload_n hC dX7_capacityOf_7 rfl rfl ?_
  refine j_iload_n hC dX7_capacityOf_8 rfl rfl ?_
  refine j_iconst hC (5) dX7_capacityOf_9 (by decide) ?_
  refine j_callVR hC [0] (c_X7_of g _ _ _ _ 5 _ _ hx hi (by decide) (by decide)) mX7_of k811 rfl rfl rfl rfl rfl ⟨(Nat.le_of_ble_eq_true rfl), (Nat.le_of_ble_eq_true rfl)⟩ (Nat.le_of_ble_eq_true rfl) ⟨(Nat.le_of_ble_eq_true rfl), (Nat.le_of_ble_eq_true rfl)⟩ dX7_capacityOf_10 ?_
  dsimp only [jrepl, List.set, jstk]
  rw [hs]
  refine j_imul hC dX7_capacityOf_13 ?_
  refine j_sipush hC (4000) dX7_capacityOf_14 (by decide) ?_
  refine j_idiv hC dX7_capacityOf_17 (by decide) ?_
  refine j_iret hC hQ rfl rfl (Nat.le_of_ble_eq_true rfl) (Nat.le_of_ble_eq_true rfl) dX7_capacityOf_18 rfl ⟨?_, ?_⟩
  · rfl
  · rfl
theorem c_X7_capacityOfL (g : jG) (d : Nat → Nat) (I : jF) (A : Nat → jF) (i : Nat) (L : jF) (c : Int) (x : Int32) (hx : x = nI i) (hi : i ≤ 10) (hl : lok c (A 1) i L) : Con g yX7_capacityOf cX7_capacityOf 2 (some .int) 3 66 0 0 [.ref (d 0), .int x] [mc g d I A] (jR (some (.int (capL L))) [mc g d I A]) := by
  have h := c_X7_capacityOf g d I A i (L 2) (L 5) x hx hi (hl.1 2 (by decide) (by decide)) hl.2.2.1.2.1 (hl.1 5 (by decide) (by decide))
  exact h
set_option maxHeartbeats 1000000 in
set_option maxRecDepth 100000 in
theorem c_X7_restOf (g : jG) (d : Nat → Nat) (I : jF) (A : Nat → jF) (i : Nat) (L : jF) (c : Int) (x : Int32) (hx : x = nI i) (hi : i ≤ 10) (hl : lok c (A 1) i L) : Con g yX7_restOf cX7_restOf 3 (some .int) 2 44 0 0 [.ref (d 0), .int x] [mc g d I A] (jR (some (.int (L 7))) [mc g d I A]) := by
  refine Con.of (own := RX7) (lv := [(0, .ref (d 0)), (1, .int x)]) (by decide) rfl (Nat.le_of_ble_eq_true rfl) rfl ?_
  intro E hC hQ hN
  obtain ⟨hl1, hl2, ⟨hr1, hr2, hr3, hr4, hr5, hr6⟩, hl4⟩ := id hl
  refine j_sipush hC (3000) dX7_restOf_0 (by decide) ?_
  refine j_aload_n hC dX7_restOf_3 rfl rfl ?_
  refine j_iload_n hC dX7_restOf_4 rfl rfl ?_
  refine j_iconst hC (3) dX7_restOf_5 (by decide) ?_
  refine j_callVR hC [0] (c_X7_of g _ _ _ _ 3 _ _ hx hi (by decide) (by decide)) mX7_of k811 rfl rfl rfl rfl rfl ⟨(Nat.le_of_ble_eq_true rfl), (Nat.le_of_ble_eq_true rfl)⟩ (Nat.le_of_ble_eq_true rfl) ⟨(Nat.le_of_ble_eq_true rfl), (Nat.le_of_ble_eq_true rfl)⟩ dX7_restOf_6 ?_
  dsimp only [jrepl, List.set, jstk]
  refine j_iconst hC (1) dX7_restOf_9 (by decide) ?_
  refine j_iadd hC dX7_restOf_10 ?_
  refine j_imul hC dX7_restOf_11 ?_
  refine j_aload_n hC dX7_restOf_12 rfl rfl ?_
  refine j_iload_n hC dX7_restOf_13 rfl rfl ?_
  refine j_bipush hC (7) dX7_restOf_14 (by decide) ?_
  refine j_callVR hC [0] (c_X7_of g _ _ _ _ 7 _ _ hx hi (by decide) (by decide)) mX7_of k811 rfl rfl rfl rfl rfl ⟨(Nat.le_of_ble_eq_true rfl), (Nat.le_of_ble_eq_true rfl)⟩ (Nat.le_of_ble_eq_true rfl) ⟨(Nat.le_of_ble_eq_true rfl), (Nat.le_of_ble_eq_true rfl)⟩ dX7_restOf_16 ?_
  dsimp only [jrepl, List.set, jstk]
  refine j_isub hC dX7_restOf_19 ?_
  refine j_istore_n hC dX7_restOf_20 rfl rfl rfl rfl (fun v_20 e_20 => ?_)
  refine j_iload_n hC dX7_restOf_21 rfl rfl ?_
  refine j_if_le hC dX7_restOf_22 (tgt := 29) (by decide) (fun c_22 => ?_) (fun c_22 => ?_)
  · skip
    refine j_iconst hC (0) dX7_restOf_29 (by decide) ?_
    refine j_iret hC hQ rfl rfl (Nat.le_of_ble_eq_true rfl) (Nat.le_of_ble_eq_true rfl) dX7_restOf_30 rfl ⟨?_, ?_⟩
    · first | exact congrArg (fun z => some (Value.int z)) (rest_a hl e_20 c_22) | exact congrArg (fun z => some (Value.int z)) (rest_b hl e_20 c_22)
    · rfl
  · skip
    refine j_iload_n hC dX7_restOf_25 rfl rfl ?_
    refine j_goto hC dX7_restOf_26 (tgt := 30) (by decide) ?_
    refine j_iret hC hQ rfl rfl (Nat.le_of_ble_eq_true rfl) (Nat.le_of_ble_eq_true rfl) dX7_restOf_30 rfl ⟨?_, ?_⟩
    · first | exact congrArg (fun z => some (Value.int z)) (rest_a hl e_20 c_22) | exact congrArg (fun z => some (Value.int z)) (rest_b hl e_20 c_22)
    · rfl
set_option maxHeartbeats 1000000 in
set_option maxRecDepth 100000 in
theorem c_X7_enduranceOf (g : jG) (d : Nat → Nat) (I : jF) (A : Nat → jF) (i : Nat) (L : jF) (c : Int) (x : Int32) (hx : x = nI i) (hi : i ≤ 10) (hl : lok c (A 1) i L) : Con g yX7_enduranceOf cX7_enduranceOf 3 (some .int) 3 66 0 0 [.ref (d 0), .int x] [mc g d I A] (jR (some (.int (endL L))) [mc g d I A]) := by
  refine Con.of (own := RX7) (lv := [(0, .ref (d 0)), (1, .int x)]) (by decide) rfl (Nat.le_of_ble_eq_true rfl) rfl ?_
  intro E hC hQ hN
  obtain ⟨hl1, hl2, ⟨hr1, hr2, hr3, hr4, hr5, hr6⟩, hl4⟩ := id hl
  refine j_aload_n hC dX7_enduranceOf_0 rfl rfl ?_
  refine j_iload_n hC dX7_enduranceOf_1 rfl rfl ?_
  refine j_bipush hC (6) dX7_enduranceOf_2 (by decide) ?_
  refine j_callVR hC [0] (c_X7_of g _ _ _ _ 6 _ _ hx hi (by decide) (by decide)) mX7_of k811 rfl rfl rfl rfl rfl ⟨(Nat.le_of_ble_eq_true rfl), (Nat.le_of_ble_eq_true rfl)⟩ (Nat.le_of_ble_eq_true rfl) ⟨(Nat.le_of_ble_eq_true rfl), (Nat.le_of_ble_eq_true rfl)⟩ dX7_enduranceOf_4 ?_
  dsimp only [jrepl, List.set, jstk]
  refine j_bipush hC (24) dX7_enduranceOf_7 (by decide) ?_
  refine j_idiv hC dX7_enduranceOf_9 (by decide) ?_
  refine j_istore_n hC dX7_enduranceOf_10 rfl rfl rfl rfl (fun v_10 e_10 => ?_)
  refine j_iload_n hC dX7_enduranceOf_11 rfl rfl ?_
  refine j_aload_n hC dX7_enduranceOf_12 rfl rfl ?_
  refine j_iload_n hC dX7_enduranceOf_13 rfl rfl ?_
  refine j_callVR hC [0] (c_X7_restOf g _ _ _ _ _ _ _ hx hi hl) mX7_restOf k895 rfl rfl rfl rfl rfl ⟨(Nat.le_of_ble_eq_true rfl), (Nat.le_of_ble_eq_true rfl)⟩ (Nat.le_of_ble_eq_true rfl) ⟨(Nat.le_of_ble_eq_true rfl), (Nat.le_of_ble_eq_true rfl)⟩ dX7_enduranceOf_14 ?_
  dsimp only [jrepl, List.set, jstk]
  refine j_icmp_ge hC dX7_enduranceOf_17 (tgt := 24) (by decide) (fun c_17 => ?_) (fun c_17 => ?_)
  · skip
    refine j_aload_n hC dX7_enduranceOf_24 rfl rfl ?_
    refine j_iload_n hC dX7_enduranceOf_25 rfl rfl ?_
    refine j_callVR hC [0] (c_X7_restOf g _ _ _ _ _ _ _ hx hi hl) mX7_restOf k895 rfl rfl rfl rfl rfl ⟨(Nat.le_of_ble_eq_true rfl), (Nat.le_of_ble_eq_true rfl)⟩ (Nat.le_of_ble_eq_true rfl) ⟨(Nat.le_of_ble_eq_true rfl), (Nat.le_of_ble_eq_true rfl)⟩ dX7_enduranceOf_26 ?_
    dsimp only [jrepl, List.set, jstk]
    refine j_iret hC hQ rfl rfl (Nat.le_of_ble_eq_true rfl) (Nat.le_of_ble_eq_true rfl) dX7_enduranceOf_29 rfl ⟨?_, ?_⟩
    · first | exact congrArg (fun z => some (Value.int z)) (end_a hl e_10 c_17) | exact congrArg (fun z => some (Value.int z)) (end_b hl e_10 c_17)
    · rfl
  · skip
    refine j_iload_n hC dX7_enduranceOf_20 rfl rfl ?_
    refine j_goto hC dX7_enduranceOf_21 (tgt := 29) (by decide) ?_
    refine j_iret hC hQ rfl rfl (Nat.le_of_ble_eq_true rfl) (Nat.le_of_ble_eq_true rfl) dX7_enduranceOf_29 rfl ⟨?_, ?_⟩
    · first | exact congrArg (fun z => some (Value.int z)) (end_a hl e_10 c_17) | exact congrArg (fun z => some (Value.int z)) (end_b hl e_10 c_17)
    · rfl
set_option maxHeartbeats 1000000 in
set_option maxRecDepth 100000 in
theorem c_X7_isReady (g : jG) (d : Nat → Nat) (I : jF) (A : Nat → jF) (i : Nat) (L : jF) (c : Int) (x : Int32) (hx : x = nI i) (hi : i ≤ 10) (hl : lok c (A 1) i L) : Con g yX7_isReady cX7_isReady 2 (some .boolean) 4 88 0 0 [.ref (d 0), .int x] [mc g d I A] (jR (some (.int (if A 1 104 ≤ endL L then 1 else 0))) [mc g d I A]) := by
  refine Con.of (own := RX7) (lv := [(0, .ref (d 0)), (1, .int x)]) (by decide) rfl (Nat.le_of_ble_eq_true rfl) rfl ?_
  intro E hC hQ hN
  obtain ⟨hl1, hl2, ⟨hr1, hr2, hr3, hr4, hr5, hr6⟩, hl4⟩ := id hl
  refine j_aload_n hC dX7_isReady_0 rfl rfl ?_
  refine j_iload_n hC dX7_isReady_1 rfl rfl ?_
  refine j_callVR hC [0] (c_X7_enduranceOf g _ _ _ _ _ _ _ hx hi hl) mX7_enduranceOf k935 rfl rfl rfl rfl rfl ⟨(Nat.le_of_ble_eq_true rfl), (Nat.le_of_ble_eq_true rfl)⟩ (Nat.le_of_ble_eq_true rfl) ⟨(Nat.le_of_ble_eq_true rfl), (Nat.le_of_ble_eq_true rfl)⟩ dX7_isReady_2 ?_
  dsimp only [jrepl, List.set, jstk]
  refine j_aload_n hC dX7_isReady_5 rfl rfl ?_
  refine j_get hC uX7 0 0 0 rfl rfl k724 rfl dX7_isReady_6 ?_
  refine j_bipush hC (104) dX7_isReady_9 (by decide) ?_
  refine j_ildN hC (m := 104) 0 1 rfl rfl (by decide) (by decide) dX7_isReady_11 ?_
  refine j_icmp_lt hC dX7_isReady_12 (tgt := 19) (by decide) (fun c_12 => ?_) (fun c_12 => ?_)
  · skip
    refine j_iconst hC (0) dX7_isReady_19 (by decide) ?_
    refine j_iret hC hQ rfl (by first | rfl | (subst_vars; rfl) | (split <;> rfl)) (Nat.le_of_ble_eq_true rfl) (Nat.le_of_ble_eq_true rfl) dX7_isReady_20 rfl ⟨?_, ?_⟩
    · first | exact congrArg (fun z => some (Value.int z)) (if_pos (Int32.not_lt.mp c_12)).symm | exact congrArg (fun z => some (Value.int z)) (if_neg (Int32.not_le.mpr c_12)).symm
    · rfl
  · skip
    refine j_iconst hC (1) dX7_isReady_15 (by decide) ?_
    refine j_goto hC dX7_isReady_16 (tgt := 20) (by decide) ?_
    refine j_iret hC hQ rfl (by first | rfl | (subst_vars; rfl) | (split <;> rfl)) (Nat.le_of_ble_eq_true rfl) (Nat.le_of_ble_eq_true rfl) dX7_isReady_20 rfl ⟨?_, ?_⟩
    · first | exact congrArg (fun z => some (Value.int z)) (if_pos (Int32.not_lt.mp c_12)).symm | exact congrArg (fun z => some (Value.int z)) (if_neg (Int32.not_le.mpr c_12)).symm
    · rfl
set_option maxHeartbeats 1000000 in
set_option maxRecDepth 100000 in
theorem c_X7_reaches (g : jG) (d : Nat → Nat) (I : jF) (A : Nat → jF) (i : Nat) (L : jF) (c : Int) (x : Int32) (p : Nat) (y : Int32) (hx : x = nI i) (hi : i ≤ 10) (hl : lok c (A 1) i L) (hp : p ≤ 200) (hy : y = nI p) : Con g yX7_reaches cX7_reaches 4 (some .boolean) 2 44 0 0 [.ref (d 0), .int x, .int y] [mc g d I A] (jR (some (.int (if reachB L y then 1 else 0))) [mc g d I A]) := by
  refine Con.of (own := RX7) (lv := [(0, .ref (d 0)), (1, .int x), (2, .int y)]) (by decide) rfl (Nat.le_of_ble_eq_true rfl) rfl ?_
  intro E hC hQ hN
  obtain ⟨hl1, hl2, ⟨hr1, hr2, hr3, hr4, hr5, hr6⟩, hl4⟩ := id hl
  refine j_aload_n hC dX7_reaches_0 rfl rfl ?_
  refine j_iload_n hC dX7_reaches_1 rfl rfl ?_
  refine j_iconst hC (0) dX7_reaches_2 (by decide) ?_
  refine j_callVR hC [0] (c_X7_of g _ _ _ _ 0 _ _ hx hi (by decide) (by decide)) mX7_of k811 rfl rfl rfl rfl rfl ⟨(Nat.le_of_ble_eq_true rfl), (Nat.le_of_ble_eq_true rfl)⟩ (Nat.le_of_ble_eq_true rfl) ⟨(Nat.le_of_ble_eq_true rfl), (Nat.le_of_ble_eq_true rfl)⟩ dX7_reaches_3 ?_
  dsimp only [jrepl, List.set, jstk]
  refine j_iload_n hC dX7_reaches_6 rfl rfl ?_
  refine j_icmp_le hC dX7_reaches_7 (tgt := 21) (by decide) (fun c_7 => ?_) (fun c_7 => ?_)
  · skip
    refine j_iload_n hC dX7_reaches_21 rfl rfl ?_
    refine j_aload_n hC dX7_reaches_22 rfl rfl ?_
    refine j_iload_n hC dX7_reaches_23 rfl rfl ?_
    refine j_iconst hC (0) dX7_reaches_24 (by decide) ?_
    refine j_callVR hC [0] (c_X7_of g _ _ _ _ 0 _ _ hx hi (by decide) (by decide)) mX7_of k811 rfl rfl rfl rfl rfl ⟨(Nat.le_of_ble_eq_true rfl), (Nat.le_of_ble_eq_true rfl)⟩ (Nat.le_of_ble_eq_true rfl) ⟨(Nat.le_of_ble_eq_true rfl), (Nat.le_of_ble_eq_true rfl)⟩ dX7_reaches_25 ?_
    dsimp only [jrepl, List.set, jstk]
    refine j_isub hC dX7_reaches_28 ?_
    refine j_istore_n hC dX7_reaches_29 rfl rfl rfl rfl (fun v_29 e_29 => ?_)
    refine j_iload_n hC dX7_reaches_30 rfl rfl ?_
    refine j_aload_n hC dX7_reaches_31 rfl rfl ?_
    refine j_iload_n hC dX7_reaches_32 rfl rfl ?_
    refine j_iconst hC (3) dX7_reaches_33 (by decide) ?_
    refine j_callVR hC [0] (c_X7_of g _ _ _ _ 3 _ _ hx hi (by decide) (by decide)) mX7_of k811 rfl rfl rfl rfl rfl ⟨(Nat.le_of_ble_eq_true rfl), (Nat.le_of_ble_eq_true rfl)⟩ (Nat.le_of_ble_eq_true rfl) ⟨(Nat.le_of_ble_eq_true rfl), (Nat.le_of_ble_eq_true rfl)⟩ dX7_reaches_34 ?_
    dsimp only [jrepl, List.set, jstk]
    refine j_callSR hC [] (c_X7_reachOf g _) mX7_reachOf k903 rfl rfl rfl ⟨(Nat.le_of_ble_eq_true rfl), (Nat.le_of_ble_eq_true rfl)⟩ (Nat.le_of_ble_eq_true rfl) ⟨(Nat.le_of_ble_eq_true rfl), (Nat.le_of_ble_eq_true rfl)⟩ dX7_reaches_37 ?_
    dsimp only [jrepl, List.set, jstk]
    refine j_icmp_gt hC dX7_reaches_40 (tgt := 47) (by decide) (fun c_40 => ?_) (fun c_40 => ?_)
    · skip
      have hv : ¬ reachB L y := by unfold reachB; first | (rw [← away_1 hl hp hy e_29 c_7, ← hl1 3 (by decide) (by decide)]; exact Int32.not_le.mpr c_40) | (rw [← away_2 hl hp hy e_29 c_7, ← hl1 3 (by decide) (by decide)]; exact Int32.not_le.mpr c_40)
      refine j_iconst hC (0) dX7_reaches_47 (by decide) ?_
      refine j_iret hC hQ rfl (by first | rfl | (subst_vars; rfl) | (split <;> rfl)) (Nat.le_of_ble_eq_true rfl) (Nat.le_of_ble_eq_true rfl) dX7_reaches_48 rfl ⟨?_, ?_⟩
      · first | exact congrArg (fun z => some (Value.int z)) (if_pos hv).symm | exact congrArg (fun z => some (Value.int z)) (if_neg hv).symm
      · rfl
    · skip
      have hv : reachB L y := by unfold reachB; first | (rw [← away_1 hl hp hy e_29 c_7, ← hl1 3 (by decide) (by decide)]; exact Int32.not_lt.mp c_40) | (rw [← away_2 hl hp hy e_29 c_7, ← hl1 3 (by decide) (by decide)]; exact Int32.not_lt.mp c_40)
      refine j_iconst hC (1) dX7_reaches_43 (by decide) ?_
      refine j_goto hC dX7_reaches_44 (tgt := 48) (by decide) ?_
      refine j_iret hC hQ rfl (by first | rfl | (subst_vars; rfl) | (split <;> rfl)) (Nat.le_of_ble_eq_true rfl) (Nat.le_of_ble_eq_true rfl) dX7_reaches_48 rfl ⟨?_, ?_⟩
      · first | exact congrArg (fun z => some (Value.int z)) (if_pos hv).symm | exact congrArg (fun z => some (Value.int z)) (if_neg hv).symm
      · rfl
  · skip
    refine j_aload_n hC dX7_reaches_10 rfl rfl ?_
    refine j_iload_n hC dX7_reaches_11 rfl rfl ?_
    refine j_iconst hC (0) dX7_reaches_12 (by decide) ?_
    refine j_callVR hC [0] (c_X7_of g _ _ _ _ 0 _ _ hx hi (by decide) (by decide)) mX7_of k811 rfl rfl rfl rfl rfl ⟨(Nat.le_of_ble_eq_true rfl), (Nat.le_of_ble_eq_true rfl)⟩ (Nat.le_of_ble_eq_true rfl) ⟨(Nat.le_of_ble_eq_true rfl), (Nat.le_of_ble_eq_true rfl)⟩ dX7_reaches_13 ?_
    dsimp only [jrepl, List.set, jstk]
    refine j_iload_n hC dX7_reaches_16 rfl rfl ?_
    refine j_isub hC dX7_reaches_17 ?_
    refine j_goto hC dX7_reaches_18 (tgt := 29) (by decide) ?_
    refine j_istore_n hC dX7_reaches_29 rfl rfl rfl rfl (fun v_29 e_29 => ?_)
    refine j_iload_n hC dX7_reaches_30 rfl rfl ?_
    refine j_aload_n hC dX7_reaches_31 rfl rfl ?_
    refine j_iload_n hC dX7_reaches_32 rfl rfl ?_
    refine j_iconst hC (3) dX7_reaches_33 (by decide) ?_
    refine j_callVR hC [0] (c_X7_of g _ _ _ _ 3 _ _ hx hi (by decide) (by decide)) mX7_of k811 rfl rfl rfl rfl rfl ⟨(Nat.le_of_ble_eq_true rfl), (Nat.le_of_ble_eq_true rfl)⟩ (Nat.le_of_ble_eq_true rfl) ⟨(Nat.le_of_ble_eq_true rfl), (Nat.le_of_ble_eq_true rfl)⟩ dX7_reaches_34 ?_
    dsimp only [jrepl, List.set, jstk]
    refine j_callSR hC [] (c_X7_reachOf g _) mX7_reachOf k903 rfl rfl rfl ⟨(Nat.le_of_ble_eq_true rfl), (Nat.le_of_ble_eq_true rfl)⟩ (Nat.le_of_ble_eq_true rfl) ⟨(Nat.le_of_ble_eq_true rfl), (Nat.le_of_ble_eq_true rfl)⟩ dX7_reaches_37 ?_
    dsimp only [jrepl, List.set, jstk]
    refine j_icmp_gt hC dX7_reaches_40 (tgt := 47) (by decide) (fun c_40 => ?_) (fun c_40 => ?_)
    · skip
      have hv : ¬ reachB L y := by unfold reachB; first | (rw [← away_1 hl hp hy e_29 c_7, ← hl1 3 (by decide) (by decide)]; exact Int32.not_le.mpr c_40) | (rw [← away_2 hl hp hy e_29 c_7, ← hl1 3 (by decide) (by decide)]; exact Int32.not_le.mpr c_40)
      refine j_iconst hC (0) dX7_reaches_47 (by decide) ?_
      refine j_iret hC hQ rfl (by first | rfl | (subst_vars; rfl) | (split <;> rfl)) (Nat.le_of_ble_eq_true rfl) (Nat.le_of_ble_eq_true rfl) dX7_reaches_48 rfl ⟨?_, ?_⟩
      · first | exact congrArg (fun z => some (Value.int z)) (if_pos hv).symm | exact congrArg (fun z => some (Value.int z)) (if_neg hv).symm
      · rfl
    · skip
      have hv : reachB L y := by unfold reachB; first | (rw [← away_1 hl hp hy e_29 c_7, ← hl1 3 (by decide) (by decide)]; exact Int32.not_lt.mp c_40) | (rw [← away_2 hl hp hy e_29 c_7, ← hl1 3 (by decide) (by decide)]; exact Int32.not_lt.mp c_40)
      refine j_iconst hC (1) dX7_reaches_43 (by decide) ?_
      refine j_goto hC dX7_reaches_44 (tgt := 48) (by decide) ?_
      refine j_iret hC hQ rfl (by first | rfl | (subst_vars; rfl) | (split <;> rfl)) (Nat.le_of_ble_eq_true rfl) (Nat.le_of_ble_eq_true rfl) dX7_reaches_48 rfl ⟨?_, ?_⟩
      · first | exact congrArg (fun z => some (Value.int z)) (if_pos hv).symm | exact congrArg (fun z => some (Value.int z)) (if_neg hv).symm
      · rfl
set_option maxHeartbeats 1000000 in
set_option maxRecDepth 100000 in
theorem c_X7_clips (g : jG) (d : Nat → Nat) (I : jF) (A : Nat → jF) (i : Nat) (L : jF) (c : Int) (x : Int32) (hx : x = nI i) (hi : i ≤ 10) (hl : lok c (A 1) i L) : Con g yX7_clips cX7_clips 3 none 4 87 0 0 [.ref (d 0), .int x] [mc g d I A] (fun r b => r = none ∧ ∃ A1 : Nat → jF, b = [mc g d I A1] ∧ (∀ q, q ≠ 1 → A1 q = A q) ∧ lok 5400 (A1 1) i (upd L 6 (jmin (L 6) (fullL L))) ∧ pfr i (A 1) (A1 1)) := by
  refine Con.of (own := RX7) (lv := [(0, .ref (d 0)), (1, .int x)]) (by decide) rfl (Nat.le_of_ble_eq_true rfl) rfl ?_
  intro E hC hQ hN
  obtain ⟨hl1, hl2, ⟨hr1, hr2, hr3, hr4, hr5, hr6⟩, hl4⟩ := id hl
  refine j_bipush hC (24) dX7_clips_0 (by decide) ?_
  refine j_aload_n hC dX7_clips_2 rfl rfl ?_
  refine j_iload_n hC dX7_clips_3 rfl rfl ?_
  refine j_callVR hC [0] (c_X7_capacityOfL g _ _ _ _ _ _ _ hx hi hl) mX7_capacityOf k803 rfl rfl rfl rfl rfl ⟨(Nat.le_of_ble_eq_true rfl), (Nat.le_of_ble_eq_true rfl)⟩ (Nat.le_of_ble_eq_true rfl) ⟨(Nat.le_of_ble_eq_true rfl), (Nat.le_of_ble_eq_true rfl)⟩ dX7_clips_4 ?_
  dsimp only [jrepl, List.set, jstk]
  refine j_imul hC dX7_clips_7 ?_
  refine j_istore_n hC dX7_clips_8 rfl rfl rfl rfl (fun v_8 e_8 => ?_)
  refine j_aload_n hC dX7_clips_9 rfl rfl ?_
  refine j_get hC uX7 0 0 0 rfl rfl k724 rfl dX7_clips_10 ?_
  refine j_aload_n hC dX7_clips_13 rfl rfl ?_
  refine j_iload_n hC dX7_clips_14 rfl rfl ?_
  refine j_bipush hC (6) dX7_clips_15 (by decide) ?_
  refine j_callVR hC [0] (c_X7_at g _ _ _ _ 6 _ _ hx hi (by decide) (by decide)) mX7_at k799 rfl rfl rfl rfl rfl ⟨(Nat.le_of_ble_eq_true rfl), (Nat.le_of_ble_eq_true rfl)⟩ (Nat.le_of_ble_eq_true rfl) ⟨(Nat.le_of_ble_eq_true rfl), (Nat.le_of_ble_eq_true rfl)⟩ dX7_clips_17 ?_
  dsimp only [jrepl, List.set, jstk]
  refine j_aload_n hC dX7_clips_20 rfl rfl ?_
  refine j_iload_n hC dX7_clips_21 rfl rfl ?_
  refine j_bipush hC (6) dX7_clips_22 (by decide) ?_
  refine j_callVR hC [0] (c_X7_of g _ _ _ _ 6 _ _ hx hi (by decide) (by decide)) mX7_of k811 rfl rfl rfl rfl rfl ⟨(Nat.le_of_ble_eq_true rfl), (Nat.le_of_ble_eq_true rfl)⟩ (Nat.le_of_ble_eq_true rfl) ⟨(Nat.le_of_ble_eq_true rfl), (Nat.le_of_ble_eq_true rfl)⟩ dX7_clips_24 ?_
  dsimp only [jrepl, List.set, jstk]
  refine j_iload_n hC dX7_clips_27 rfl rfl ?_
  refine j_icmp_le hC dX7_clips_28 (tgt := 35) (by decide) (fun c_28 => ?_) (fun c_28 => ?_)
  · skip
    refine j_aload_n hC dX7_clips_35 rfl rfl ?_
    refine j_iload_n hC dX7_clips_36 rfl rfl ?_
    refine j_bipush hC (6) dX7_clips_37 (by decide) ?_
    refine j_callVR hC [0] (c_X7_of g _ _ _ _ 6 _ _ hx hi (by decide) (by decide)) mX7_of k811 rfl rfl rfl rfl rfl ⟨(Nat.le_of_ble_eq_true rfl), (Nat.le_of_ble_eq_true rfl)⟩ (Nat.le_of_ble_eq_true rfl) ⟨(Nat.le_of_ble_eq_true rfl), (Nat.le_of_ble_eq_true rfl)⟩ dX7_clips_39 ?_
    dsimp only [jrepl, List.set, jstk]
    have e8 : v_8 = fullL L := e_8
    rw [hl1 6 (by decide) (by decide), e8] at c_28
    refine j_st_7_1 (bi := 0) hC rfl rfl (by omega) dX7_clips_42 (fun A_42 hA_42 hK_42 => ?_)
    dsimp only [List.set]
    refine j_vret hC hQ rfl (Nat.le_of_ble_eq_true rfl) (Nat.le_of_ble_eq_true rfl) dX7_clips_43 rfl ?_
    refine ⟨rfl, _, rfl, hK_42, lok_set (v := jmin (L 6) (fullL L)) hl (hA_42.trans ?_) (by decide) (by decide) (by decide) (clip_rg hl.2.2.1), pfr_upd pfr_refl hA_42 (by decide)⟩; first | rw [e8, ← clip_1 c_28] | rw [hl1 6 (by decide) (by decide), ← clip_2 c_28]
  · skip
    refine j_iload_n hC dX7_clips_31 rfl rfl ?_
    refine j_goto hC dX7_clips_32 (tgt := 42) (by decide) ?_
    have e8 : v_8 = fullL L := e_8
    rw [hl1 6 (by decide) (by decide), e8] at c_28
    refine j_st_7_1 (bi := 0) hC rfl rfl (by omega) dX7_clips_42 (fun A_42 hA_42 hK_42 => ?_)
    dsimp only [List.set]
    refine j_vret hC hQ rfl (Nat.le_of_ble_eq_true rfl) (Nat.le_of_ble_eq_true rfl) dX7_clips_43 rfl ?_
    refine ⟨rfl, _, rfl, hK_42, lok_set (v := jmin (L 6) (fullL L)) hl (hA_42.trans ?_) (by decide) (by decide) (by decide) (clip_rg hl.2.2.1), pfr_upd pfr_refl hA_42 (by decide)⟩; first | rw [e8, ← clip_1 c_28] | rw [hl1 6 (by decide) (by decide), ← clip_2 c_28]
set_option maxHeartbeats 1000000 in
set_option maxRecDepth 100000 in
theorem c_X7_wears (g : jG) (d : Nat → Nat) (I : jF) (A : Nat → jF) (i : Nat) (L : jF) (c : Int) (x : Int32) (y : Int32) (hx : x = nI i) (hi : i ≤ 10) (hl : lok c (A 1) i L) (hy : 0 ≤ y.toInt ∧ y.toInt ≤ 1000) : Con g yX7_wears cX7_wears 3 none 5 109 0 0 [.ref (d 0), .int x, .int y] [mc g d I A] (fun r b => r = none ∧ ∃ A1 : Nat → jF, b = [mc g d I A1] ∧ (∀ q, q ≠ 1 → A1 q = A q) ∧ lok 5400 (A1 1) i (ageL L y) ∧ pfr i (A 1) (A1 1)) := by
  refine Con.of (own := RX7) (lv := [(0, .ref (d 0)), (1, .int x), (2, .int y)]) (by decide) rfl (Nat.le_of_ble_eq_true rfl) rfl ?_
  intro E hC hQ hN
  obtain ⟨hl1, hl2, ⟨hr1, hr2, hr3, hr4, hr5, hr6⟩, hl4⟩ := id hl
  refine j_aload_n hC dX7_wears_0 rfl rfl ?_
  refine j_get hC uX7 0 0 0 rfl rfl k724 rfl dX7_wears_1 ?_
  refine j_aload_n hC dX7_wears_4 rfl rfl ?_
  refine j_iload_n hC dX7_wears_5 rfl rfl ?_
  refine j_iconst hC (5) dX7_wears_6 (by decide) ?_
  refine j_callVR hC [0] (c_X7_at g _ _ _ _ 5 _ _ hx hi (by decide) (by decide)) mX7_at k799 rfl rfl rfl rfl rfl ⟨(Nat.le_of_ble_eq_true rfl), (Nat.le_of_ble_eq_true rfl)⟩ (Nat.le_of_ble_eq_true rfl) ⟨(Nat.le_of_ble_eq_true rfl), (Nat.le_of_ble_eq_true rfl)⟩ dX7_wears_7 ?_
  dsimp only [jrepl, List.set, jstk]
  refine j_aload_n hC dX7_wears_10 rfl rfl ?_
  refine j_iload_n hC dX7_wears_11 rfl rfl ?_
  refine j_iconst hC (5) dX7_wears_12 (by decide) ?_
  refine j_callVR hC [0] (c_X7_of g _ _ _ _ 5 _ _ hx hi (by decide) (by decide)) mX7_of k811 rfl rfl rfl rfl rfl ⟨(Nat.le_of_ble_eq_true rfl), (Nat.le_of_ble_eq_true rfl)⟩ (Nat.le_of_ble_eq_true rfl) ⟨(Nat.le_of_ble_eq_true rfl), (Nat.le_of_ble_eq_true rfl)⟩ dX7_wears_13 ?_
  dsimp only [jrepl, List.set, jstk]
  refine j_iload_n hC dX7_wears_16 rfl rfl ?_
  refine j_icmp_le hC dX7_wears_17 (tgt := 31) (by decide) (fun c_17 => ?_) (fun c_17 => ?_)
  · skip
    refine j_iconst hC (0) dX7_wears_31 (by decide) ?_
    rw [hl1 5 (by decide) (by decide)] at c_17
    refine j_st_7_1 (bi := 0) hC rfl rfl (by omega) dX7_wears_32 (fun A_32 hA_32 hK_32 => ?_)
    dsimp only [List.set]
    refine j_aload_n hC dX7_wears_33 rfl rfl ?_
    refine j_iload_n hC dX7_wears_34 rfl rfl ?_
    have hl2 : lok c (A_32 1) i (upd L 5 (jmax 0 (L 5 - y))) := lok_set hl (hA_32.trans (by first | rw [hl1 5 (by decide) (by decide), ← wear_1 hr5 hy c_17] | rw [← wear_2 hr5 hy c_17])) (by decide) (by decide) (by decide) (rg_5 hl.2.2.1 (wear_rg hr5 hy).1 (wear_rg hr5 hy).2)
    refine j_callV hC [0] (c_X7_clips g _ _ _ _ _ _ _ hx hi hl2) mX7_clips k919 rfl rfl rfl rfl rfl ⟨(Nat.le_of_ble_eq_true rfl), (Nat.le_of_ble_eq_true rfl)⟩ (Nat.le_of_ble_eq_true rfl) ⟨(Nat.le_of_ble_eq_true rfl), (Nat.le_of_ble_eq_true rfl)⟩ dX7_wears_35 (fun r_35 b_35 hp_35 _ => ?_)
    obtain ⟨rfl, A_35, rfl, hK_35, hL_35, hF_35⟩ := hp_35
    dsimp only [jrepl, List.set, jstk]
    refine j_vret hC hQ rfl (Nat.le_of_ble_eq_true rfl) (Nat.le_of_ble_eq_true rfl) dX7_wears_38 rfl ?_
    exact ⟨rfl, _, rfl, fun q hq => (hK_35 q hq).trans (hK_32 q hq), hL_35, pfr_tr (pfr_upd pfr_refl hA_32 (by decide)) hF_35⟩
  · skip
    refine j_aload_n hC dX7_wears_20 rfl rfl ?_
    refine j_iload_n hC dX7_wears_21 rfl rfl ?_
    refine j_iconst hC (5) dX7_wears_22 (by decide) ?_
    refine j_callVR hC [0] (c_X7_of g _ _ _ _ 5 _ _ hx hi (by decide) (by decide)) mX7_of k811 rfl rfl rfl rfl rfl ⟨(Nat.le_of_ble_eq_true rfl), (Nat.le_of_ble_eq_true rfl)⟩ (Nat.le_of_ble_eq_true rfl) ⟨(Nat.le_of_ble_eq_true rfl), (Nat.le_of_ble_eq_true rfl)⟩ dX7_wears_23 ?_
    dsimp only [jrepl, List.set, jstk]
    refine j_iload_n hC dX7_wears_26 rfl rfl ?_
    refine j_isub hC dX7_wears_27 ?_
    refine j_goto hC dX7_wears_28 (tgt := 32) (by decide) ?_
    rw [hl1 5 (by decide) (by decide)] at c_17
    refine j_st_7_1 (bi := 0) hC rfl rfl (by omega) dX7_wears_32 (fun A_32 hA_32 hK_32 => ?_)
    dsimp only [List.set]
    refine j_aload_n hC dX7_wears_33 rfl rfl ?_
    refine j_iload_n hC dX7_wears_34 rfl rfl ?_
    have hl2 : lok c (A_32 1) i (upd L 5 (jmax 0 (L 5 - y))) := lok_set hl (hA_32.trans (by first | rw [hl1 5 (by decide) (by decide), ← wear_1 hr5 hy c_17] | rw [← wear_2 hr5 hy c_17])) (by decide) (by decide) (by decide) (rg_5 hl.2.2.1 (wear_rg hr5 hy).1 (wear_rg hr5 hy).2)
    refine j_callV hC [0] (c_X7_clips g _ _ _ _ _ _ _ hx hi hl2) mX7_clips k919 rfl rfl rfl rfl rfl ⟨(Nat.le_of_ble_eq_true rfl), (Nat.le_of_ble_eq_true rfl)⟩ (Nat.le_of_ble_eq_true rfl) ⟨(Nat.le_of_ble_eq_true rfl), (Nat.le_of_ble_eq_true rfl)⟩ dX7_wears_35 (fun r_35 b_35 hp_35 _ => ?_)
    obtain ⟨rfl, A_35, rfl, hK_35, hL_35, hF_35⟩ := hp_35
    dsimp only [jrepl, List.set, jstk]
    refine j_vret hC hQ rfl (Nat.le_of_ble_eq_true rfl) (Nat.le_of_ble_eq_true rfl) dX7_wears_38 rfl ?_
    exact ⟨rfl, _, rfl, fun q hq => (hK_35 q hq).trans (hK_32 q hq), hL_35, pfr_tr (pfr_upd pfr_refl hA_32 (by decide)) hF_35⟩
theorem lays_lok {P : jF} {i : Nat} {p c b l m : Int32} (hp : 0 ≤ p.toInt ∧ p.toInt ≤ 200) (hb : 0 ≤ b.toInt ∧ b.toInt ≤ 3) (hl : 0 ≤ l.toInt ∧ l.toInt ≤ 2) (hm : m = 0 ∨ m = 1) (h0 : P (1 + 9 * i + 0) = p) (h1 : P (1 + 9 * i + 1) = c) (h2 : P (1 + 9 * i + 2) = b) (h3 : P (1 + 9 * i + 3) = l) (h4 : P (1 + 9 * i + 4) = m) (h5 : P (1 + 9 * i + 5) = 1000) (h6 : P (1 + 9 * i + 6) = 24 * (5 * rated b * 1000 / 4000)) (h7 : P (1 + 9 * i + 7) = 0) (h8 : P (1 + 9 * i + 8) = -9) : lok 5400 P i (newL p c b l m) := by
  refine ⟨fun f hf q => ?_, ?_, ⟨hp, hb, hl, hm, by show 0 ≤ (1000 : Int32).toInt ∧ (1000 : Int32).toInt ≤ 1000; decide, ?_⟩, by rw [h7]; decide⟩
  · match f, hf, q with
    | 0, _, _ => exact h0
    | 1, _, _ => exact h1
    | 2, _, _ => exact h2
    | 3, _, _ => exact h3
    | 4, _, _ => exact h4
    | 5, _, _ => exact h5
    | 6, _, _ => exact h6
    | 7, _, q => exact absurd rfl q
    | 8, _, _ => exact h8
    | n + 9, h, _ => exact absurd h (by omega)
  · rw [h7]
    show lifeOf l = jmax 0 (lifeOf l - 0)
    rcases i0123 hl.1 (by omega) with rfl | rfl | rfl | rfl <;> rfl
  · obtain ⟨m', hm', e⟩ := full_nat (L := newL p c b l m) hb (by show 0 ≤ (1000 : Int32).toInt ∧ (1000 : Int32).toInt ≤ 1000; decide)
    have e2 : newL p c b l m 6 = nI m' := e
    rw [e2, nI_toInt (by omega)]
    omega
set_option maxHeartbeats 1000000 in
set_option maxRecDepth 100000 in
theorem c_X7_lays (g : jG) (d : Nat → Nat) (I : jF) (A : Nat → jF) (i : Nat) (x p c b l m : Int32) (hx : x = nI i) (hi : i ≤ 10) (hp : 0 ≤ p.toInt ∧ p.toInt ≤ 200) (hb : 0 ≤ b.toInt ∧ b.toInt ≤ 3) (hlm : 0 ≤ l.toInt ∧ l.toInt ≤ 2) (hm : m = 0 ∨ m = 1) : Con g yX7_lays cX7_lays 7 none 4 87 0 0 [.ref (d 0), .int x, .int p, .int c, .int b, .int l, .int m] [mc g d I A] (fun r b1 => r = none ∧ ∃ A1 : Nat → jF, b1 = [mc g d I A1] ∧ (∀ q, q ≠ 1 → A1 q = A q) ∧ lok 5400 (A1 1) i (newL p c b l m) ∧ pfr i (A 1) (A1 1)) := by
  refine Con.of (own := RX7) (lv := [(0, .ref (d 0)), (1, .int x), (2, .int p), (3, .int c), (4, .int b), (5, .int l), (6, .int m)]) (by decide) rfl (Nat.le_of_ble_eq_true rfl) rfl ?_
  intro E hC hQ hN
  refine j_aload_n hC dX7_lays_0 rfl rfl ?_
  refine j_get hC uX7 0 0 0 rfl rfl k724 rfl dX7_lays_1 ?_
  refine j_aload_n hC dX7_lays_4 rfl rfl ?_
  refine j_iload_n hC dX7_lays_5 rfl rfl ?_
  refine j_iconst hC (0) dX7_lays_6 (by decide) ?_
  refine j_callVR hC [0] (c_X7_at g _ _ _ _ 0 _ _ hx hi (by decide) (by decide)) mX7_at k799 rfl rfl rfl rfl rfl ⟨(Nat.le_of_ble_eq_true rfl), (Nat.le_of_ble_eq_true rfl)⟩ (Nat.le_of_ble_eq_true rfl) ⟨(Nat.le_of_ble_eq_true rfl), (Nat.le_of_ble_eq_true rfl)⟩ dX7_lays_7 ?_
  dsimp only [jrepl, List.set, jstk]
  refine j_iload_n hC dX7_lays_10 rfl rfl ?_
  refine j_st_7_1 (bi := 0) hC rfl rfl (by omega) dX7_lays_11 (fun A_11 hA_11 hK_11 => ?_)
  dsimp only [List.set]
  refine j_aload_n hC dX7_lays_12 rfl rfl ?_
  refine j_get hC uX7 0 0 0 rfl rfl k724 rfl dX7_lays_13 ?_
  refine j_aload_n hC dX7_lays_16 rfl rfl ?_
  refine j_iload_n hC dX7_lays_17 rfl rfl ?_
  refine j_iconst hC (1) dX7_lays_18 (by decide) ?_
  refine j_callVR hC [0] (c_X7_at g _ _ _ _ 1 _ _ hx hi (by decide) (by decide)) mX7_at k799 rfl rfl rfl rfl rfl ⟨(Nat.le_of_ble_eq_true rfl), (Nat.le_of_ble_eq_true rfl)⟩ (Nat.le_of_ble_eq_true rfl) ⟨(Nat.le_of_ble_eq_true rfl), (Nat.le_of_ble_eq_true rfl)⟩ dX7_lays_19 ?_
  dsimp only [jrepl, List.set, jstk]
  refine j_iload_n hC dX7_lays_22 rfl rfl ?_
  refine j_st_7_1 (bi := 0) hC rfl rfl (by omega) dX7_lays_23 (fun A_23 hA_23 hK_23 => ?_)
  dsimp only [List.set]
  refine j_aload_n hC dX7_lays_24 rfl rfl ?_
  refine j_get hC uX7 0 0 0 rfl rfl k724 rfl dX7_lays_25 ?_
  refine j_aload_n hC dX7_lays_28 rfl rfl ?_
  refine j_iload_n hC dX7_lays_29 rfl rfl ?_
  refine j_iconst hC (2) dX7_lays_30 (by decide) ?_
  refine j_callVR hC [0] (c_X7_at g _ _ _ _ 2 _ _ hx hi (by decide) (by decide)) mX7_at k799 rfl rfl rfl rfl rfl ⟨(Nat.le_of_ble_eq_true rfl), (Nat.le_of_ble_eq_true rfl)⟩ (Nat.le_of_ble_eq_true rfl) ⟨(Nat.le_of_ble_eq_true rfl), (Nat.le_of_ble_eq_true rfl)⟩ dX7_lays_31 ?_
  dsimp only [jrepl, List.set, jstk]
  refine j_iload hC dX7_lays_34 rfl ?_
  refine j_st_7_1 (bi := 0) hC rfl rfl (by omega) dX7_lays_36 (fun A_36 hA_36 hK_36 => ?_)
  dsimp only [List.set]
  refine j_aload_n hC dX7_lays_37 rfl rfl ?_
  refine j_get hC uX7 0 0 0 rfl rfl k724 rfl dX7_lays_38 ?_
  refine j_aload_n hC dX7_lays_41 rfl rfl ?_
  refine j_iload_n hC dX7_lays_42 rfl rfl ?_
  refine j_iconst hC (3) dX7_lays_43 (by decide) ?_
  refine j_callVR hC [0] (c_X7_at g _ _ _ _ 3 _ _ hx hi (by decide) (by decide)) mX7_at k799 rfl rfl rfl rfl rfl ⟨(Nat.le_of_ble_eq_true rfl), (Nat.le_of_ble_eq_true rfl)⟩ (Nat.le_of_ble_eq_true rfl) ⟨(Nat.le_of_ble_eq_true rfl), (Nat.le_of_ble_eq_true rfl)⟩ dX7_lays_44 ?_
  dsimp only [jrepl, List.set, jstk]
  refine j_iload hC dX7_lays_47 rfl ?_
  refine j_st_7_1 (bi := 0) hC rfl rfl (by omega) dX7_lays_49 (fun A_49 hA_49 hK_49 => ?_)
  dsimp only [List.set]
  refine j_aload_n hC dX7_lays_50 rfl rfl ?_
  refine j_get hC uX7 0 0 0 rfl rfl k724 rfl dX7_lays_51 ?_
  refine j_aload_n hC dX7_lays_54 rfl rfl ?_
  refine j_iload_n hC dX7_lays_55 rfl rfl ?_
  refine j_iconst hC (4) dX7_lays_56 (by decide) ?_
  refine j_callVR hC [0] (c_X7_at g _ _ _ _ 4 _ _ hx hi (by decide) (by decide)) mX7_at k799 rfl rfl rfl rfl rfl ⟨(Nat.le_of_ble_eq_true rfl), (Nat.le_of_ble_eq_true rfl)⟩ (Nat.le_of_ble_eq_true rfl) ⟨(Nat.le_of_ble_eq_true rfl), (Nat.le_of_ble_eq_true rfl)⟩ dX7_lays_57 ?_
  dsimp only [jrepl, List.set, jstk]
  refine j_iload hC dX7_lays_60 rfl ?_
  refine j_if_eq hC dX7_lays_62 (tgt := 69) (by decide) (fun c_62 => ?_) (fun c_62 => ?_)
  · skip
    refine j_iconst hC (0) dX7_lays_69 (by decide) ?_
    refine j_st_7_1 (bi := 0) hC rfl rfl (by omega) dX7_lays_70 (fun A_70 hA_70 hK_70 => ?_)
    dsimp only [List.set]
    refine j_aload_n hC dX7_lays_71 rfl rfl ?_
    refine j_get hC uX7 0 0 0 rfl rfl k724 rfl dX7_lays_72 ?_
    refine j_aload_n hC dX7_lays_75 rfl rfl ?_
    refine j_iload_n hC dX7_lays_76 rfl rfl ?_
    refine j_iconst hC (5) dX7_lays_77 (by decide) ?_
    refine j_callVR hC [0] (c_X7_at g _ _ _ _ 5 _ _ hx hi (by decide) (by decide)) mX7_at k799 rfl rfl rfl rfl rfl ⟨(Nat.le_of_ble_eq_true rfl), (Nat.le_of_ble_eq_true rfl)⟩ (Nat.le_of_ble_eq_true rfl) ⟨(Nat.le_of_ble_eq_true rfl), (Nat.le_of_ble_eq_true rfl)⟩ dX7_lays_78 ?_
    dsimp only [jrepl, List.set, jstk]
    refine j_sipush hC (1000) dX7_lays_81 (by decide) ?_
    refine j_st_7_1 (bi := 0) hC rfl rfl (by omega) dX7_lays_84 (fun A_84 hA_84 hK_84 => ?_)
    dsimp only [List.set]
    refine j_aload_n hC dX7_lays_85 rfl rfl ?_
    refine j_get hC uX7 0 0 0 rfl rfl k724 rfl dX7_lays_86 ?_
    refine j_aload_n hC dX7_lays_89 rfl rfl ?_
    refine j_iload_n hC dX7_lays_90 rfl rfl ?_
    refine j_bipush hC (6) dX7_lays_91 (by decide) ?_
    refine j_callVR hC [0] (c_X7_at g _ _ _ _ 6 _ _ hx hi (by decide) (by decide)) mX7_at k799 rfl rfl rfl rfl rfl ⟨(Nat.le_of_ble_eq_true rfl), (Nat.le_of_ble_eq_true rfl)⟩ (Nat.le_of_ble_eq_true rfl) ⟨(Nat.le_of_ble_eq_true rfl), (Nat.le_of_ble_eq_true rfl)⟩ dX7_lays_93 ?_
    dsimp only [jrepl, List.set, jstk]
    refine j_bipush hC (24) dX7_lays_96 (by decide) ?_
    refine j_aload_n hC dX7_lays_98 rfl rfl ?_
    refine j_iload_n hC dX7_lays_99 rfl rfl ?_
    refine j_callVR hC [0] (c_X7_capacityOf g _ _ _ _ b 1000 _ hx hi (by rw [hA_84, pk_un (by omega), hA_70, pk_un (by omega), hA_49, pk_un (by omega), hA_36, pk_us]) hb (by rw [hA_84, pk_us])) mX7_capacityOf k803 rfl rfl rfl rfl rfl ⟨(Nat.le_of_ble_eq_true rfl), (Nat.le_of_ble_eq_true rfl)⟩ (Nat.le_of_ble_eq_true rfl) ⟨(Nat.le_of_ble_eq_true rfl), (Nat.le_of_ble_eq_true rfl)⟩ dX7_lays_100 ?_
    dsimp only [jrepl, List.set, jstk]
    refine j_imul hC dX7_lays_103 ?_
    refine j_st_7_1 (bi := 0) hC rfl rfl (by omega) dX7_lays_104 (fun A_104 hA_104 hK_104 => ?_)
    dsimp only [List.set]
    refine j_aload_n hC dX7_lays_105 rfl rfl ?_
    refine j_get hC uX7 0 0 0 rfl rfl k724 rfl dX7_lays_106 ?_
    refine j_aload_n hC dX7_lays_109 rfl rfl ?_
    refine j_iload_n hC dX7_lays_110 rfl rfl ?_
    refine j_bipush hC (7) dX7_lays_111 (by decide) ?_
    refine j_callVR hC [0] (c_X7_at g _ _ _ _ 7 _ _ hx hi (by decide) (by decide)) mX7_at k799 rfl rfl rfl rfl rfl ⟨(Nat.le_of_ble_eq_true rfl), (Nat.le_of_ble_eq_true rfl)⟩ (Nat.le_of_ble_eq_true rfl) ⟨(Nat.le_of_ble_eq_true rfl), (Nat.le_of_ble_eq_true rfl)⟩ dX7_lays_113 ?_
    dsimp only [jrepl, List.set, jstk]
    refine j_iconst hC (0) dX7_lays_116 (by decide) ?_
    refine j_st_7_1 (bi := 0) hC rfl rfl (by omega) dX7_lays_117 (fun A_117 hA_117 hK_117 => ?_)
    dsimp only [List.set]
    refine j_aload_n hC dX7_lays_118 rfl rfl ?_
    refine j_get hC uX7 0 0 0 rfl rfl k724 rfl dX7_lays_119 ?_
    refine j_aload_n hC dX7_lays_122 rfl rfl ?_
    refine j_iload_n hC dX7_lays_123 rfl rfl ?_
    refine j_bipush hC (8) dX7_lays_124 (by decide) ?_
    refine j_callVR hC [0] (c_X7_at g _ _ _ _ 8 _ _ hx hi (by decide) (by decide)) mX7_at k799 rfl rfl rfl rfl rfl ⟨(Nat.le_of_ble_eq_true rfl), (Nat.le_of_ble_eq_true rfl)⟩ (Nat.le_of_ble_eq_true rfl) ⟨(Nat.le_of_ble_eq_true rfl), (Nat.le_of_ble_eq_true rfl)⟩ dX7_lays_126 ?_
    dsimp only [jrepl, List.set, jstk]
    refine j_bipush hC (-9) dX7_lays_129 (by decide) ?_
    refine j_st_7_1 (bi := 0) hC rfl rfl (by omega) dX7_lays_131 (fun A_131 hA_131 hK_131 => ?_)
    dsimp only [List.set]
    refine j_vret hC hQ rfl (Nat.le_of_ble_eq_true rfl) (Nat.le_of_ble_eq_true rfl) dX7_lays_132 rfl ?_
    refine ⟨rfl, _, rfl, fun q hq => (hK_131 q hq).trans ((hK_117 q hq).trans ((hK_104 q hq).trans ((hK_84 q hq).trans ((hK_70 q hq).trans ((hK_49 q hq).trans ((hK_36 q hq).trans ((hK_23 q hq).trans (hK_11 q hq)))))))), lays_lok hp hb hlm hm (by rw [hA_131, pk_un (by omega), hA_117, pk_un (by omega), hA_104, pk_un (by omega), hA_84, pk_un (by omega), hA_70, pk_un (by omega), hA_49, pk_un (by omega), hA_36, pk_un (by omega), hA_23, pk_un (by omega), hA_11, pk_us]) (by rw [hA_131, pk_un (by omega), hA_117, pk_un (by omega), hA_104, pk_un (by omega), hA_84, pk_un (by omega), hA_70, pk_un (by omega), hA_49, pk_un (by omega), hA_36, pk_un (by omega), hA_23, pk_us]) (by rw [hA_131, pk_un (by omega), hA_117, pk_un (by omega), hA_104, pk_un (by omega), hA_84, pk_un (by omega), hA_70, pk_un (by omega), hA_49, pk_un (by omega), hA_36, pk_us]) (by rw [hA_131, pk_un (by omega), hA_117, pk_un (by omega), hA_104, pk_un (by omega), hA_84, pk_un (by omega), hA_70, pk_un (by omega), hA_49, pk_us]) (by rw [hA_131, pk_un (by omega), hA_117, pk_un (by omega), hA_104, pk_un (by omega), hA_84, pk_un (by omega), hA_70, pk_us]; first | exact c_62.symm | exact (hm.resolve_left c_62).symm) (by rw [hA_131, pk_un (by omega), hA_117, pk_un (by omega), hA_104, pk_un (by omega), hA_84, pk_us]) (by rw [hA_131, pk_un (by omega), hA_117, pk_un (by omega), hA_104, pk_us]) (by rw [hA_131, pk_un (by omega), hA_117, pk_us]) (by rw [hA_131, pk_us]), pfr_upd (pfr_upd (pfr_upd (pfr_upd (pfr_upd (pfr_upd (pfr_upd (pfr_upd (pfr_upd (pfr_refl) hA_11 (by decide)) hA_23 (by decide)) hA_36 (by decide)) hA_49 (by decide)) hA_70 (by decide)) hA_84 (by decide)) hA_104 (by decide)) hA_117 (by decide)) hA_131 (by decide)⟩
  · skip
    refine j_iconst hC (1) dX7_lays_65 (by decide) ?_
    refine j_goto hC dX7_lays_66 (tgt := 70) (by decide) ?_
    refine j_st_7_1 (bi := 0) hC rfl rfl (by omega) dX7_lays_70 (fun A_70 hA_70 hK_70 => ?_)
    dsimp only [List.set]
    refine j_aload_n hC dX7_lays_71 rfl rfl ?_
    refine j_get hC uX7 0 0 0 rfl rfl k724 rfl dX7_lays_72 ?_
    refine j_aload_n hC dX7_lays_75 rfl rfl ?_
    refine j_iload_n hC dX7_lays_76 rfl rfl ?_
    refine j_iconst hC (5) dX7_lays_77 (by decide) ?_
    refine j_callVR hC [0] (c_X7_at g _ _ _ _ 5 _ _ hx hi (by decide) (by decide)) mX7_at k799 rfl rfl rfl rfl rfl ⟨(Nat.le_of_ble_eq_true rfl), (Nat.le_of_ble_eq_true rfl)⟩ (Nat.le_of_ble_eq_true rfl) ⟨(Nat.le_of_ble_eq_true rfl), (Nat.le_of_ble_eq_true rfl)⟩ dX7_lays_78 ?_
    dsimp only [jrepl, List.set, jstk]
    refine j_sipush hC (1000) dX7_lays_81 (by decide) ?_
    refine j_st_7_1 (bi := 0) hC rfl rfl (by omega) dX7_lays_84 (fun A_84 hA_84 hK_84 => ?_)
    dsimp only [List.set]
    refine j_aload_n hC dX7_lays_85 rfl rfl ?_
    refine j_get hC uX7 0 0 0 rfl rfl k724 rfl dX7_lays_86 ?_
    refine j_aload_n hC dX7_lays_89 rfl rfl ?_
    refine j_iload_n hC dX7_lays_90 rfl rfl ?_
    refine j_bipush hC (6) dX7_lays_91 (by decide) ?_
    refine j_callVR hC [0] (c_X7_at g _ _ _ _ 6 _ _ hx hi (by decide) (by decide)) mX7_at k799 rfl rfl rfl rfl rfl ⟨(Nat.le_of_ble_eq_true rfl), (Nat.le_of_ble_eq_true rfl)⟩ (Nat.le_of_ble_eq_true rfl) ⟨(Nat.le_of_ble_eq_true rfl), (Nat.le_of_ble_eq_true rfl)⟩ dX7_lays_93 ?_
    dsimp only [jrepl, List.set, jstk]
    refine j_bipush hC (24) dX7_lays_96 (by decide) ?_
    refine j_aload_n hC dX7_lays_98 rfl rfl ?_
    refine j_iload_n hC dX7_lays_99 rfl rfl ?_
    refine j_callVR hC [0] (c_X7_capacityOf g _ _ _ _ b 1000 _ hx hi (by rw [hA_84, pk_un (by omega), hA_70, pk_un (by omega), hA_49, pk_un (by omega), hA_36, pk_us]) hb (by rw [hA_84, pk_us])) mX7_capacityOf k803 rfl rfl rfl rfl rfl ⟨(Nat.le_of_ble_eq_true rfl), (Nat.le_of_ble_eq_true rfl)⟩ (Nat.le_of_ble_eq_true rfl) ⟨(Nat.le_of_ble_eq_true rfl), (Nat.le_of_ble_eq_true rfl)⟩ dX7_lays_100 ?_
    dsimp only [jrepl, List.set, jstk]
    refine j_imul hC dX7_lays_103 ?_
    refine j_st_7_1 (bi := 0) hC rfl rfl (by omega) dX7_lays_104 (fun A_104 hA_104 hK_104 => ?_)
    dsimp only [List.set]
    refine j_aload_n hC dX7_lays_105 rfl rfl ?_
    refine j_get hC uX7 0 0 0 rfl rfl k724 rfl dX7_lays_106 ?_
    refine j_aload_n hC dX7_lays_109 rfl rfl ?_
    refine j_iload_n hC dX7_lays_110 rfl rfl ?_
    refine j_bipush hC (7) dX7_lays_111 (by decide) ?_
    refine j_callVR hC [0] (c_X7_at g _ _ _ _ 7 _ _ hx hi (by decide) (by decide)) mX7_at k799 rfl rfl rfl rfl rfl ⟨(Nat.le_of_ble_eq_true rfl), (Nat.le_of_ble_eq_true rfl)⟩ (Nat.le_of_ble_eq_true rfl) ⟨(Nat.le_of_ble_eq_true rfl), (Nat.le_of_ble_eq_true rfl)⟩ dX7_lays_113 ?_
    dsimp only [jrepl, List.set, jstk]
    refine j_iconst hC (0) dX7_lays_116 (by decide) ?_
    refine j_st_7_1 (bi := 0) hC rfl rfl (by omega) dX7_lays_117 (fun A_117 hA_117 hK_117 => ?_)
    dsimp only [List.set]
    refine j_aload_n hC dX7_lays_118 rfl rfl ?_
    refine j_get hC uX7 0 0 0 rfl rfl k724 rfl dX7_lays_119 ?_
    refine j_aload_n hC dX7_lays_122 rfl rfl ?_
    refine j_iload_n hC dX7_lays_123 rfl rfl ?_
    refine j_bipush hC (8) dX7_lays_124 (by decide) ?_
    refine j_callVR hC [0] (c_X7_at g _ _ _ _ 8 _ _ hx hi (by decide) (by decide)) mX7_at k799 rfl rfl rfl rfl rfl ⟨(Nat.le_of_ble_eq_true rfl), (Nat.le_of_ble_eq_true rfl)⟩ (Nat.le_of_ble_eq_true rfl) ⟨(Nat.le_of_ble_eq_true rfl), (Nat.le_of_ble_eq_true rfl)⟩ dX7_lays_126 ?_
    dsimp only [jrepl, List.set, jstk]
    refine j_bipush hC (-9) dX7_lays_129 (by decide) ?_
    refine j_st_7_1 (bi := 0) hC rfl rfl (by omega) dX7_lays_131 (fun A_131 hA_131 hK_131 => ?_)
    dsimp only [List.set]
    refine j_vret hC hQ rfl (Nat.le_of_ble_eq_true rfl) (Nat.le_of_ble_eq_true rfl) dX7_lays_132 rfl ?_
    refine ⟨rfl, _, rfl, fun q hq => (hK_131 q hq).trans ((hK_117 q hq).trans ((hK_104 q hq).trans ((hK_84 q hq).trans ((hK_70 q hq).trans ((hK_49 q hq).trans ((hK_36 q hq).trans ((hK_23 q hq).trans (hK_11 q hq)))))))), lays_lok hp hb hlm hm (by rw [hA_131, pk_un (by omega), hA_117, pk_un (by omega), hA_104, pk_un (by omega), hA_84, pk_un (by omega), hA_70, pk_un (by omega), hA_49, pk_un (by omega), hA_36, pk_un (by omega), hA_23, pk_un (by omega), hA_11, pk_us]) (by rw [hA_131, pk_un (by omega), hA_117, pk_un (by omega), hA_104, pk_un (by omega), hA_84, pk_un (by omega), hA_70, pk_un (by omega), hA_49, pk_un (by omega), hA_36, pk_un (by omega), hA_23, pk_us]) (by rw [hA_131, pk_un (by omega), hA_117, pk_un (by omega), hA_104, pk_un (by omega), hA_84, pk_un (by omega), hA_70, pk_un (by omega), hA_49, pk_un (by omega), hA_36, pk_us]) (by rw [hA_131, pk_un (by omega), hA_117, pk_un (by omega), hA_104, pk_un (by omega), hA_84, pk_un (by omega), hA_70, pk_un (by omega), hA_49, pk_us]) (by rw [hA_131, pk_un (by omega), hA_117, pk_un (by omega), hA_104, pk_un (by omega), hA_84, pk_un (by omega), hA_70, pk_us]; first | exact c_62.symm | exact (hm.resolve_left c_62).symm) (by rw [hA_131, pk_un (by omega), hA_117, pk_un (by omega), hA_104, pk_un (by omega), hA_84, pk_us]) (by rw [hA_131, pk_un (by omega), hA_117, pk_un (by omega), hA_104, pk_us]) (by rw [hA_131, pk_un (by omega), hA_117, pk_us]) (by rw [hA_131, pk_us]), pfr_upd (pfr_upd (pfr_upd (pfr_upd (pfr_upd (pfr_upd (pfr_upd (pfr_upd (pfr_upd (pfr_refl) hA_11 (by decide)) hA_23 (by decide)) hA_36 (by decide)) hA_49 (by decide)) hA_70 (by decide)) hA_84 (by decide)) hA_104 (by decide)) hA_117 (by decide)) hA_131 (by decide)⟩
