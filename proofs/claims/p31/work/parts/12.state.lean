/-! the pictures: what a block of cells is, of numbers; iteration; calls that answer a function of the start -/
abbrev jF : Type := Nat → Int32
def jR (v : Option Value) (B : List va_W) : Option Value → List va_W → Prop := fun r b => r = v ∧ b = B
def lf (L : jF) : List Value := [.int (L 0), .int (L 1), .int (L 2), .int (L 3), .int (L 4), .int (L 5), .int (L 6), .int (L 7), .int (L 8)]
def lb (a : Nat) (L : jF) : va_W := [(a, .inr (2, lf L))]
def lts (X : List (Nat × jF)) : va_W := X.map (fun q => (q.1, .inr (2, lf q.2)))
def lrf (X : List (Nat × jF)) : Nat → Option Nat := fun i => (X[i]?).map (fun q => q.1)
def bc (g : jG) (d : Nat → Nat) (I : jF) (A : Nat → jF) (r : Nat → Option Nat) : va_W :=
  [(d 0, .inr (0, [.ref (d 1), .int (I 1), .ref (d 2), .ref (d 3), .int (I 4), .int (I 5), .int (I 6), .ref (d 4), .int (I 8), .int (I 9)])),
   (d 1, .inl (g.2.2 4, 10, .inr (.inr (.inr (.inr r))))), (d 2, .inl (g.2.2 1, 6, .inl (A 0))), (d 3, .inl (g.2.2 1, 6, .inl (A 1))), (d 4, .inl (g.2.2 1, 3, .inl (A 2)))]
def hc (g : jG) (d : Nat → Nat) (I : jF) (r : Nat → Option Nat) : va_W := [(d 0, .inr (1, [.ref (d 1), .int (I 1), .int (I 2)])), (d 1, .inl (g.2.2 3, 8, .inr (.inr (.inr (.inr r)))))]
def pcc (g : jG) (d : Nat → Nat) (I : jF) (A : Nat → jF) : va_W := [(d 0, .inr (3, [.ref (d 1), .ref (d 2), .int (I 2), .int (I 3)])), (d 1, .inl (g.2.2 0, 1024, .inl (A 0))), (d 2, .inl (g.2.2 1, 10, .inl (A 1)))]
def rc (g : jG) (d : Nat → Nat) (A : Nat → jF) : va_W := [(d 0, .inr (4, [.ref (d 1), .ref (d 2)])), (d 1, .inl (g.2.2 1, 201, .inl (A 0))), (d 2, .inl (g.2.2 1, 201, .inl (A 1)))]
def tc (g : jG) (d : Nat → Nat) (I : jF) (f : jF) : va_W := [(d 0, .inr (5, [.ref (d 1), .int (I 1), .int (I 2), .int (I 3)])), (d 1, .inl (g.2.2 0, 80, .inl f))]
def xc (d : Nat → Nat) : va_W := [(d 0, .inr (6, [.ref (d 1), .ref (d 2), .ref (d 3), .ref (d 4), .ref (d 5), .ref (d 6)]))]
def jiter {σ : Type} (f : Nat → σ → σ) (s : σ) : Nat → σ
  | 0 => s
  | i + 1 => f i (jiter f s i)
theorem jne {x c : Int32} (h : ¬ x = c) : x.toInt ≠ c.toInt := fun e => h (Int32.toInt_inj.mp e)
theorem jt_all : ∀ k : Nat, k < 32 → (Int32.ofNat k).toInt = k := by decide
theorem jin {x : Int32} {N : Nat} (h1 : ¬ x < 0) (h2 : ¬ nI N ≤ x) (hN : N < 2 ^ 31) : vp_in x N := by
  rw [vp_in_iff]
  simp only [Int32.lt_iff_toInt_lt, Int32.le_iff_toInt_le, Int32.toInt_zero, nI_toInt hN] at h1 h2
  omega
theorem jout2 {x : Int32} (s0 : ¬ x = 0) (s1 : ¬ x = 1) : x.toInt < 0 ∨ 1 < x.toInt := by
  have q0 : x.toInt ≠ 0 := fun e => s0 (Int32.toInt_inj.mp e)
  have q1 : x.toInt ≠ 1 := fun e => s1 (Int32.toInt_inj.mp e)
  omega
theorem jout3 {x : Int32} (s0 : ¬ x = 0) (s1 : ¬ x = 1) (s2 : ¬ x = 2) : x.toInt < 0 ∨ 2 < x.toInt := by
  have q0 : x.toInt ≠ 0 := fun e => s0 (Int32.toInt_inj.mp e)
  have q1 : x.toInt ≠ 1 := fun e => s1 (Int32.toInt_inj.mp e)
  have q2 : x.toInt ≠ 2 := fun e => s2 (Int32.toInt_inj.mp e)
  omega
theorem jout4 {x : Int32} (s0 : ¬ x = 0) (s1 : ¬ x = 1) (s2 : ¬ x = 2) (s3 : ¬ x = 3) : x.toInt < 0 ∨ 3 < x.toInt := by
  have q0 : x.toInt ≠ 0 := fun e => s0 (Int32.toInt_inj.mp e)
  have q1 : x.toInt ≠ 1 := fun e => s1 (Int32.toInt_inj.mp e)
  have q2 : x.toInt ≠ 2 := fun e => s2 (Int32.toInt_inj.mp e)
  have q3 : x.toInt ≠ 3 := fun e => s3 (Int32.toInt_inj.mp e)
  omega
theorem jout5 {x : Int32} (s0 : ¬ x = 0) (s1 : ¬ x = 1) (s2 : ¬ x = 2) (s3 : ¬ x = 3) (s4 : ¬ x = 4) : x.toInt < 0 ∨ 4 < x.toInt := by
  have q0 : x.toInt ≠ 0 := fun e => s0 (Int32.toInt_inj.mp e)
  have q1 : x.toInt ≠ 1 := fun e => s1 (Int32.toInt_inj.mp e)
  have q2 : x.toInt ≠ 2 := fun e => s2 (Int32.toInt_inj.mp e)
  have q3 : x.toInt ≠ 3 := fun e => s3 (Int32.toInt_inj.mp e)
  have q4 : x.toInt ≠ 4 := fun e => s4 (Int32.toInt_inj.mp e)
  omega
theorem jout6 {x : Int32} (s0 : ¬ x = 0) (s1 : ¬ x = 1) (s2 : ¬ x = 2) (s3 : ¬ x = 3) (s4 : ¬ x = 4) (s5 : ¬ x = 5) : x.toInt < 0 ∨ 5 < x.toInt := by
  have q0 : x.toInt ≠ 0 := fun e => s0 (Int32.toInt_inj.mp e)
  have q1 : x.toInt ≠ 1 := fun e => s1 (Int32.toInt_inj.mp e)
  have q2 : x.toInt ≠ 2 := fun e => s2 (Int32.toInt_inj.mp e)
  have q3 : x.toInt ≠ 3 := fun e => s3 (Int32.toInt_inj.mp e)
  have q4 : x.toInt ≠ 4 := fun e => s4 (Int32.toInt_inj.mp e)
  have q5 : x.toInt ≠ 5 := fun e => s5 (Int32.toInt_inj.mp e)
  omega
theorem jout7 {x : Int32} (s0 : ¬ x = 0) (s1 : ¬ x = 1) (s2 : ¬ x = 2) (s3 : ¬ x = 3) (s4 : ¬ x = 4) (s5 : ¬ x = 5) (s6 : ¬ x = 6) : x.toInt < 0 ∨ 6 < x.toInt := by
  have q0 : x.toInt ≠ 0 := fun e => s0 (Int32.toInt_inj.mp e)
  have q1 : x.toInt ≠ 1 := fun e => s1 (Int32.toInt_inj.mp e)
  have q2 : x.toInt ≠ 2 := fun e => s2 (Int32.toInt_inj.mp e)
  have q3 : x.toInt ≠ 3 := fun e => s3 (Int32.toInt_inj.mp e)
  have q4 : x.toInt ≠ 4 := fun e => s4 (Int32.toInt_inj.mp e)
  have q5 : x.toInt ≠ 5 := fun e => s5 (Int32.toInt_inj.mp e)
  have q6 : x.toInt ≠ 6 := fun e => s6 (Int32.toInt_inj.mp e)
  omega
theorem jout11 {x : Int32} (s0 : ¬ x = 0) (s1 : ¬ x = 1) (s2 : ¬ x = 2) (s3 : ¬ x = 3) (s4 : ¬ x = 4) (s5 : ¬ x = 5) (s6 : ¬ x = 6) (s7 : ¬ x = 7) (s8 : ¬ x = 8) (s9 : ¬ x = 9) (s10 : ¬ x = 10) : x.toInt < 0 ∨ 10 < x.toInt := by
  have q0 : x.toInt ≠ 0 := fun e => s0 (Int32.toInt_inj.mp e)
  have q1 : x.toInt ≠ 1 := fun e => s1 (Int32.toInt_inj.mp e)
  have q2 : x.toInt ≠ 2 := fun e => s2 (Int32.toInt_inj.mp e)
  have q3 : x.toInt ≠ 3 := fun e => s3 (Int32.toInt_inj.mp e)
  have q4 : x.toInt ≠ 4 := fun e => s4 (Int32.toInt_inj.mp e)
  have q5 : x.toInt ≠ 5 := fun e => s5 (Int32.toInt_inj.mp e)
  have q6 : x.toInt ≠ 6 := fun e => s6 (Int32.toInt_inj.mp e)
  have q7 : x.toInt ≠ 7 := fun e => s7 (Int32.toInt_inj.mp e)
  have q8 : x.toInt ≠ 8 := fun e => s8 (Int32.toInt_inj.mp e)
  have q9 : x.toInt ≠ 9 := fun e => s9 (Int32.toInt_inj.mp e)
  have q10 : x.toInt ≠ 10 := fun e => s10 (Int32.toInt_inj.mp e)
  omega
theorem jout13 {x : Int32} (s0 : ¬ x = 0) (s1 : ¬ x = 1) (s2 : ¬ x = 2) (s3 : ¬ x = 3) (s4 : ¬ x = 4) (s5 : ¬ x = 5) (s6 : ¬ x = 6) (s7 : ¬ x = 7) (s8 : ¬ x = 8) (s9 : ¬ x = 9) (s10 : ¬ x = 10) (s11 : ¬ x = 11) (s12 : ¬ x = 12) : x.toInt < 0 ∨ 12 < x.toInt := by
  have q0 : x.toInt ≠ 0 := fun e => s0 (Int32.toInt_inj.mp e)
  have q1 : x.toInt ≠ 1 := fun e => s1 (Int32.toInt_inj.mp e)
  have q2 : x.toInt ≠ 2 := fun e => s2 (Int32.toInt_inj.mp e)
  have q3 : x.toInt ≠ 3 := fun e => s3 (Int32.toInt_inj.mp e)
  have q4 : x.toInt ≠ 4 := fun e => s4 (Int32.toInt_inj.mp e)
  have q5 : x.toInt ≠ 5 := fun e => s5 (Int32.toInt_inj.mp e)
  have q6 : x.toInt ≠ 6 := fun e => s6 (Int32.toInt_inj.mp e)
  have q7 : x.toInt ≠ 7 := fun e => s7 (Int32.toInt_inj.mp e)
  have q8 : x.toInt ≠ 8 := fun e => s8 (Int32.toInt_inj.mp e)
  have q9 : x.toInt ≠ 9 := fun e => s9 (Int32.toInt_inj.mp e)
  have q10 : x.toInt ≠ 10 := fun e => s10 (Int32.toInt_inj.mp e)
  have q11 : x.toInt ≠ 11 := fun e => s11 (Int32.toInt_inj.mp e)
  have q12 : x.toInt ≠ 12 := fun e => s12 (Int32.toInt_inj.mp e)
  omega
theorem jout14 {x : Int32} (s0 : ¬ x = 0) (s1 : ¬ x = 1) (s2 : ¬ x = 2) (s3 : ¬ x = 3) (s4 : ¬ x = 4) (s5 : ¬ x = 5) (s6 : ¬ x = 6) (s7 : ¬ x = 7) (s8 : ¬ x = 8) (s9 : ¬ x = 9) (s10 : ¬ x = 10) (s11 : ¬ x = 11) (s12 : ¬ x = 12) (s13 : ¬ x = 13) : x.toInt < 0 ∨ 13 < x.toInt := by
  have q0 : x.toInt ≠ 0 := fun e => s0 (Int32.toInt_inj.mp e)
  have q1 : x.toInt ≠ 1 := fun e => s1 (Int32.toInt_inj.mp e)
  have q2 : x.toInt ≠ 2 := fun e => s2 (Int32.toInt_inj.mp e)
  have q3 : x.toInt ≠ 3 := fun e => s3 (Int32.toInt_inj.mp e)
  have q4 : x.toInt ≠ 4 := fun e => s4 (Int32.toInt_inj.mp e)
  have q5 : x.toInt ≠ 5 := fun e => s5 (Int32.toInt_inj.mp e)
  have q6 : x.toInt ≠ 6 := fun e => s6 (Int32.toInt_inj.mp e)
  have q7 : x.toInt ≠ 7 := fun e => s7 (Int32.toInt_inj.mp e)
  have q8 : x.toInt ≠ 8 := fun e => s8 (Int32.toInt_inj.mp e)
  have q9 : x.toInt ≠ 9 := fun e => s9 (Int32.toInt_inj.mp e)
  have q10 : x.toInt ≠ 10 := fun e => s10 (Int32.toInt_inj.mp e)
  have q11 : x.toInt ≠ 11 := fun e => s11 (Int32.toInt_inj.mp e)
  have q12 : x.toInt ≠ 12 := fun e => s12 (Int32.toInt_inj.mp e)
  have q13 : x.toInt ≠ 13 := fun e => s13 (Int32.toInt_inj.mp e)
  omega
theorem jout28 {x : Int32} (s0 : ¬ x = 0) (s1 : ¬ x = 1) (s2 : ¬ x = 2) (s3 : ¬ x = 3) (s4 : ¬ x = 4) (s5 : ¬ x = 5) (s6 : ¬ x = 6) (s7 : ¬ x = 7) (s8 : ¬ x = 8) (s9 : ¬ x = 9) (s10 : ¬ x = 10) (s11 : ¬ x = 11) (s12 : ¬ x = 12) (s13 : ¬ x = 13) (s14 : ¬ x = 14) (s15 : ¬ x = 15) (s16 : ¬ x = 16) (s17 : ¬ x = 17) (s18 : ¬ x = 18) (s19 : ¬ x = 19) (s20 : ¬ x = 20) (s21 : ¬ x = 21) (s22 : ¬ x = 22) (s23 : ¬ x = 23) (s24 : ¬ x = 24) (s25 : ¬ x = 25) (s26 : ¬ x = 26) (s27 : ¬ x = 27) : x.toInt < 0 ∨ 27 < x.toInt := by
  have q0 : x.toInt ≠ 0 := fun e => s0 (Int32.toInt_inj.mp e)
  have q1 : x.toInt ≠ 1 := fun e => s1 (Int32.toInt_inj.mp e)
  have q2 : x.toInt ≠ 2 := fun e => s2 (Int32.toInt_inj.mp e)
  have q3 : x.toInt ≠ 3 := fun e => s3 (Int32.toInt_inj.mp e)
  have q4 : x.toInt ≠ 4 := fun e => s4 (Int32.toInt_inj.mp e)
  have q5 : x.toInt ≠ 5 := fun e => s5 (Int32.toInt_inj.mp e)
  have q6 : x.toInt ≠ 6 := fun e => s6 (Int32.toInt_inj.mp e)
  have q7 : x.toInt ≠ 7 := fun e => s7 (Int32.toInt_inj.mp e)
  have q8 : x.toInt ≠ 8 := fun e => s8 (Int32.toInt_inj.mp e)
  have q9 : x.toInt ≠ 9 := fun e => s9 (Int32.toInt_inj.mp e)
  have q10 : x.toInt ≠ 10 := fun e => s10 (Int32.toInt_inj.mp e)
  have q11 : x.toInt ≠ 11 := fun e => s11 (Int32.toInt_inj.mp e)
  have q12 : x.toInt ≠ 12 := fun e => s12 (Int32.toInt_inj.mp e)
  have q13 : x.toInt ≠ 13 := fun e => s13 (Int32.toInt_inj.mp e)
  have q14 : x.toInt ≠ 14 := fun e => s14 (Int32.toInt_inj.mp e)
  have q15 : x.toInt ≠ 15 := fun e => s15 (Int32.toInt_inj.mp e)
  have q16 : x.toInt ≠ 16 := fun e => s16 (Int32.toInt_inj.mp e)
  have q17 : x.toInt ≠ 17 := fun e => s17 (Int32.toInt_inj.mp e)
  have q18 : x.toInt ≠ 18 := fun e => s18 (Int32.toInt_inj.mp e)
  have q19 : x.toInt ≠ 19 := fun e => s19 (Int32.toInt_inj.mp e)
  have q20 : x.toInt ≠ 20 := fun e => s20 (Int32.toInt_inj.mp e)
  have q21 : x.toInt ≠ 21 := fun e => s21 (Int32.toInt_inj.mp e)
  have q22 : x.toInt ≠ 22 := fun e => s22 (Int32.toInt_inj.mp e)
  have q23 : x.toInt ≠ 23 := fun e => s23 (Int32.toInt_inj.mp e)
  have q24 : x.toInt ≠ 24 := fun e => s24 (Int32.toInt_inj.mp e)
  have q25 : x.toInt ≠ 25 := fun e => s25 (Int32.toInt_inj.mp e)
  have q26 : x.toInt ≠ 26 := fun e => s26 (Int32.toInt_inj.mp e)
  have q27 : x.toInt ≠ 27 := fun e => s27 (Int32.toInt_inj.mp e)
  omega
theorem joutL6_7 {x : Int32} (s0 : ¬ x = 6) (s1 : ¬ x = 7) (s2 : ¬ x = 8) (s3 : ¬ x = 9) (s4 : ¬ x = 10) (s5 : ¬ x = 11) (s6 : ¬ x = 12) : x.toInt < 6 ∨ 12 < x.toInt := by
  have q0 : x.toInt ≠ 6 := fun e => s0 (Int32.toInt_inj.mp e)
  have q1 : x.toInt ≠ 7 := fun e => s1 (Int32.toInt_inj.mp e)
  have q2 : x.toInt ≠ 8 := fun e => s2 (Int32.toInt_inj.mp e)
  have q3 : x.toInt ≠ 9 := fun e => s3 (Int32.toInt_inj.mp e)
  have q4 : x.toInt ≠ 10 := fun e => s4 (Int32.toInt_inj.mp e)
  have q5 : x.toInt ≠ 11 := fun e => s5 (Int32.toInt_inj.mp e)
  have q6 : x.toInt ≠ 12 := fun e => s6 (Int32.toInt_inj.mp e)
  omega
theorem Con.imp {g : jG} {y : MethodName} {cc : ByteArray} {nL : Nat} {ret : Option FieldType} {fr lo mc ms : Nat} {av : List Value} {bl : List va_W} {Post Post' : Option Value → List va_W → Prop} (h : Con g y cc nL ret fr lo mc ms av bl Post) (hi : ∀ r b, Post r b → Post' r b) : Con g y cc nL ret fr lo mc ms av bl Post' := by
  intro sz
  intro p e ha hc hk s m args below hf happ hP hK
  obtain ⟨n, o, h1, h2, h3, ⟨⟨r, b1, q1, q2, q3, q4⟩, q5⟩, h5⟩ := h sz p e ha hc hk s m args below hf happ hP hK
  exact ⟨n, o, h1, h2, h3, ⟨⟨r, b1, q1, hi _ _ q2, q3, q4⟩, q5⟩, h5⟩
section JR
variable {g : jG} {R : Room} {E : jE} {cc : ByteArray} {own : String} {nL pc : Nat} {lv : List (Nat × Value)} {st : List Value} {bl : List va_W} {k n : Nat}
theorem j_case {x : Int32} (v : Int32) (h1 : x = v → J g R E nL pc lv (.int x :: st) bl k n) (h2 : ¬ x = v → J g R E nL pc lv (.int x :: st) bl k n) : J g R E nL pc lv (.int x :: st) bl k n := by
  by_cases h : x = v
  · exact h1 h
  · exact h2 h
theorem jerase {α : Type} {a : α} : ∀ {l : List α} {i : Nat}, l[i]? = some a → l.Perm (a :: l.eraseIdx i)
  | [], i, h => by simp at h
  | x :: t, 0, h => by
    have e : x = a := by simpa using h
    subst e
    exact List.Perm.refl _
  | x :: t, i + 1, h => by
    have h1 := jerase (l := t) (i := i) (a := a) (by simpa using h)
    rw [List.eraseIdx_cons_succ]
    exact (h1.cons x).trans (List.Perm.swap a x _)
theorem lts_erase {X : List (Nat × jF)} {i a : Nat} {L : jF} (hX : X[i]? = some (a, L)) : (lts X).Perm (lb a L ++ lts (X.eraseIdx i)) :=
  (jerase hX).map (fun q : Nat × jF => ((q.1, .inr (2, lf q.2)) : Nat × va_E))
theorem j_focus (i bi : Nat) {X : List (Nat × jF)} {a : Nat} {L : jF} (hX : X[i]? = some (a, L)) (hb : bl[bi]? = some (lts X)) (kk : J g R E nL pc lv st (bl.set bi (lts (X.eraseIdx i)) ++ [lb a L]) k n) : J g R E nL pc lv st bl k n := by
  refine j_perm ?_ kk
  have hlt := (List.getElem?_eq_some_iff.mp hb).1
  have h1 := jset_flat (c := lts X) hlt
  rw [jset_self hb] at h1
  have h2 := jset_flat (c := lts (X.eraseIdx i)) hlt
  rw [List.flatten_append]
  refine h1.trans ?_
  refine (((lts_erase hX).append_right _)).trans ?_
  rw [List.append_assoc]
  refine (List.perm_append_comm).trans ?_
  rw [show ([lb a L] : List va_W).flatten = lb a L by simp]
  exact h2.symm.append_right _
theorem j_unfocus (i bi : Nat) {X : List (Nat × jF)} {a : Nat} {L0 L : jF} (hX : X[i]? = some (a, L0)) (hb : bl[bi]? = some (lts (X.eraseIdx i))) (hl : bl.getLast? = some (lb a L)) (hn : Nat.blt (bi + 1) bl.length = true) (kk : J g R E nL pc lv st (bl.set bi (lts (X.set i (a, L)))).dropLast k n) : J g R E nL pc lv st bl k n := by
  refine j_perm ?_ kk
  have hn : bi + 1 < bl.length := Nat.le_of_ble_eq_true hn
  obtain ⟨b0, rfl⟩ : ∃ b0, bl = b0 ++ [lb a L] := by
    obtain ⟨ys, hys⟩ := List.getLast?_eq_some_iff.mp hl
    exact ⟨ys, hys⟩
  have hlt : bi < b0.length := by simp at hn; omega
  rw [List.getElem?_append_left hlt] at hb
  rw [List.set_append_left _ _ hlt, List.dropLast_concat]
  have hX2 : (X.set i (a, L))[i]? = some (a, L) := by
    rw [List.getElem?_set_self (List.getElem?_eq_some_iff.mp hX).1]
  have h1 := jset_flat (c := lts (X.eraseIdx i)) hlt
  rw [jset_self hb] at h1
  have h2 := jset_flat (c := lts (X.set i (a, L))) hlt
  have h3 := lts_erase hX2
  rw [List.eraseIdx_set_eq] at h3
  rw [List.flatten_append, show ([lb a L] : List va_W).flatten = lb a L by simp]
  refine (List.perm_append_comm).trans ?_
  refine (h1.append_left _).trans ?_
  rw [← List.append_assoc]
  exact (h3.symm.append_right _).trans h2.symm
theorem lts_same {X : List (Nat × jF)} {i a : Nat} {L : jF} (hX : X[i]? = some (a, L)) : X.set i (a, L) = X := by
  apply List.ext_getElem?
  intro j
  by_cases hj : i = j
  · subst hj
    rw [List.getElem?_set_self (List.getElem?_eq_some_iff.mp hX).1, hX]
  · rw [List.getElem?_set_ne hj]
theorem j_callVR (hC : jC g R E cc own nL) {y : MethodName} {cy : ByteArray} {nLy fr lo mc ms index a ci : Nat} {ret : Option FieldType} {As rest : List Value} {blc B1 : List va_W} {v : Option Value} {fs : List Value} (ic : List Nat) (hcon : Con g y cy nLy ret fr lo mc ms (.ref a :: As) blc (jR v B1)) (hM : jM y cy nLy ret As.length) (hlink : Cond.methodLink own index y ∈ jT) (hst : st = As.reverse ++ .ref a :: rest) (hbl : ic.map (fun i => bl[i]?) = blc.map some) (hnd : va_nd ic = true) (hrv : jat blc 0 0 = some (a, .inr (ci, fs))) (hcl : (vwCl[ci]?).map (fun q => q.1) = some y.cls)
    (hR : fr + 1 ≤ R.frames ∧ 8 + (nLy + 11) + lo ≤ R.locals) (hcat : (rest.map fun v => v.category).sum ≤ 8) (hkn : k + mc ≤ R.cells ∧ n + ms ≤ R.slots) (hd : decode cc pc = .ok (.invokevirtual index, 3))
    (kk : J g R E nL (pc + 3) lv (jstk v rest) (jrepl bl ic B1) (k + mc) (n + ms)) : J g R E nL pc lv st bl k n :=
  j_callV hC ic hcon hM hlink hst hbl hnd hrv hcl hR hcat hkn hd (fun r b1 hp _ => by obtain ⟨rfl, rfl⟩ := hp; exact kk)
theorem j_callSR (hC : jC g R E cc own nL) {y : MethodName} {cy : ByteArray} {nLy fr lo mc ms index : Nat} {ret : Option FieldType} {As rest : List Value} {blc B1 : List va_W} {v : Option Value} (ic : List Nat) (hcon : Con g y cy nLy ret fr lo mc ms As blc (jR v B1)) (hM : jMs y cy nLy ret As.length) (hlink : Cond.methodLink own index y ∈ jT) (hst : st = As.reverse ++ rest) (hbl : ic.map (fun i => bl[i]?) = blc.map some) (hnd : va_nd ic = true)
    (hR : fr + 1 ≤ R.frames ∧ 8 + (nLy + 11) + lo ≤ R.locals) (hcat : (rest.map fun v => v.category).sum ≤ 8) (hkn : k + mc ≤ R.cells ∧ n + ms ≤ R.slots) (hd : decode cc pc = .ok (.invokestatic index, 3))
    (kk : J g R E nL (pc + 3) lv (jstk v rest) (jrepl bl ic B1) (k + mc) (n + ms)) : J g R E nL pc lv st bl k n :=
  j_callS hC ic hcon hM hlink hst hbl hnd hR hcat hkn hd (fun r b1 hp _ => by obtain ⟨rfl, rfl⟩ := hp; exact kk)
theorem j_callSNR (hC : jC g R E cc own nL) {y : MethodName} {cy : ByteArray} {nLy fr lo mc ms index : Nat} {host : String} {ret : Option FieldType} {As rest : List Value} {blc B1 : List va_W} {v : Option Value} (ic : List Nat) (hcon : Con g y cy nLy ret fr lo mc ms As blc (jR v B1)) (hM : jMs y cy nLy ret As.length) (hlink : Cond.methodLinkNest own index y host ∈ jNw) (hst : st = As.reverse ++ rest) (hbl : ic.map (fun i => bl[i]?) = blc.map some) (hnd : va_nd ic = true)
    (hR : fr + 1 ≤ R.frames ∧ 8 + (nLy + 11) + lo ≤ R.locals) (hcat : (rest.map fun v => v.category).sum ≤ 8) (hkn : k + mc ≤ R.cells ∧ n + ms ≤ R.slots) (hd : decode cc pc = .ok (.invokestatic index, 3))
    (kk : J g R E nL (pc + 3) lv (jstk v rest) (jrepl bl ic B1) (k + mc) (n + ms)) : J g R E nL pc lv st bl k n :=
  j_callSN hC ic hcon hM hlink hst hbl hnd hR hcat hkn hd (fun r b1 hp _ => by obtain ⟨rfl, rfl⟩ := hp; exact kk)
theorem j_callIR (hC : jC g R E cc own nL) {y : MethodName} {cy : ByteArray} {nLy fr lo mc ms index a : Nat} {As rest : List Value} {blc B1 : List va_W} {v : Option Value} (ic : List Nat) (hcon : Con g y cy nLy none fr lo mc ms (.ref a :: As) blc (jR v B1)) (hM : jMi y cy nLy As.length) (hlink : Cond.methodLink own index y ∈ jT) (hst : st = As.reverse ++ .ref a :: rest) (hbl : ic.map (fun i => bl[i]?) = blc.map some) (hnd : va_nd ic = true)
    (hR : fr + 1 ≤ R.frames ∧ 8 + (nLy + 11) + lo ≤ R.locals) (hcat : (rest.map fun v => v.category).sum ≤ 8) (hkn : k + mc ≤ R.cells ∧ n + ms ≤ R.slots) (hd : decode cc pc = .ok (.invokespecial index, 3))
    (kk : J g R E nL (pc + 3) lv (jstk v rest) (jrepl bl ic B1) (k + mc) (n + ms)) : J g R E nL pc lv st bl k n :=
  j_callI hC ic hcon hM hlink hst hbl hnd hR hcat hkn hd (fun r b1 hp _ => by obtain ⟨rfl, rfl⟩ := hp; exact kk)
theorem j_callINR (hC : jC g R E cc own nL) {y : MethodName} {cy : ByteArray} {nLy fr lo mc ms index a : Nat} {host : String} {As rest : List Value} {blc B1 : List va_W} {v : Option Value} (ic : List Nat) (hcon : Con g y cy nLy none fr lo mc ms (.ref a :: As) blc (jR v B1)) (hM : jMi y cy nLy As.length) (hlink : Cond.methodLinkNest own index y host ∈ jNw) (hst : st = As.reverse ++ .ref a :: rest) (hbl : ic.map (fun i => bl[i]?) = blc.map some) (hnd : va_nd ic = true)
    (hR : fr + 1 ≤ R.frames ∧ 8 + (nLy + 11) + lo ≤ R.locals) (hcat : (rest.map fun v => v.category).sum ≤ 8) (hkn : k + mc ≤ R.cells ∧ n + ms ≤ R.slots) (hd : decode cc pc = .ok (.invokespecial index, 3))
    (kk : J g R E nL (pc + 3) lv (jstk v rest) (jrepl bl ic B1) (k + mc) (n + ms)) : J g R E nL pc lv st bl k n :=
  j_callIN hC ic hcon hM hlink hst hbl hnd hR hcat hkn hd (fun r b1 hp _ => by obtain ⟨rfl, rfl⟩ := hp; exact kk)
theorem j_put_0_1 (hC : jC g R E cc own nL) {d : Nat → Nat} {I : jF} {A : Nat → jF} {r : Nat → Option Nat} {bi index : Nat} {v : Int32} (hb : bl[bi]? = some (bc g d I A r)) (hlink : Cond.fieldLink own index (TX0 1).1 (TX0 1).2.1 (TX0 1).2.2.1 ∈ jT) (hd : decode cc pc = .ok (.putfield index, 3)) (kk : J g R E nL (pc + 3) lv st (bl.set bi (bc g d (upd I 1 v) A r)) k n) : J g R E nL pc lv (.int v :: .ref (d 0) :: st) bl k n :=
  j_put hC uX0 hb (bj := 0) rfl (kf := 1) (by decide) hlink rfl rfl rfl (Nat.le_of_ble_eq_true rfl) hd kk
theorem j_put_0_4 (hC : jC g R E cc own nL) {d : Nat → Nat} {I : jF} {A : Nat → jF} {r : Nat → Option Nat} {bi index : Nat} {v : Int32} (hb : bl[bi]? = some (bc g d I A r)) (hlink : Cond.fieldLink own index (TX0 4).1 (TX0 4).2.1 (TX0 4).2.2.1 ∈ jT) (hd : decode cc pc = .ok (.putfield index, 3)) (kk : J g R E nL (pc + 3) lv st (bl.set bi (bc g d (upd I 4 v) A r)) k n) : J g R E nL pc lv (.int v :: .ref (d 0) :: st) bl k n :=
  j_put hC uX0 hb (bj := 0) rfl (kf := 4) (by decide) hlink rfl rfl rfl (Nat.le_of_ble_eq_true rfl) hd kk
theorem j_put_0_5 (hC : jC g R E cc own nL) {d : Nat → Nat} {I : jF} {A : Nat → jF} {r : Nat → Option Nat} {bi index : Nat} {v : Int32} (hb : bl[bi]? = some (bc g d I A r)) (hlink : Cond.fieldLink own index (TX0 5).1 (TX0 5).2.1 (TX0 5).2.2.1 ∈ jT) (hd : decode cc pc = .ok (.putfield index, 3)) (kk : J g R E nL (pc + 3) lv st (bl.set bi (bc g d (upd I 5 v) A r)) k n) : J g R E nL pc lv (.int v :: .ref (d 0) :: st) bl k n :=
  j_put hC uX0 hb (bj := 0) rfl (kf := 5) (by decide) hlink rfl rfl rfl (Nat.le_of_ble_eq_true rfl) hd kk
theorem j_put_0_6 (hC : jC g R E cc own nL) {d : Nat → Nat} {I : jF} {A : Nat → jF} {r : Nat → Option Nat} {bi index : Nat} {v : Int32} (hb : bl[bi]? = some (bc g d I A r)) (hlink : Cond.fieldLink own index (TX0 6).1 (TX0 6).2.1 (TX0 6).2.2.1 ∈ jT) (hd : decode cc pc = .ok (.putfield index, 3)) (kk : J g R E nL (pc + 3) lv st (bl.set bi (bc g d (upd I 6 v) A r)) k n) : J g R E nL pc lv (.int v :: .ref (d 0) :: st) bl k n :=
  j_put hC uX0 hb (bj := 0) rfl (kf := 6) (by decide) hlink rfl rfl rfl (Nat.le_of_ble_eq_true rfl) hd kk
theorem j_put_0_8 (hC : jC g R E cc own nL) {d : Nat → Nat} {I : jF} {A : Nat → jF} {r : Nat → Option Nat} {bi index : Nat} {v : Int32} (hb : bl[bi]? = some (bc g d I A r)) (hlink : Cond.fieldLink own index (TX0 8).1 (TX0 8).2.1 (TX0 8).2.2.1 ∈ jT) (hd : decode cc pc = .ok (.putfield index, 3)) (kk : J g R E nL (pc + 3) lv st (bl.set bi (bc g d (upd I 8 v) A r)) k n) : J g R E nL pc lv (.int v :: .ref (d 0) :: st) bl k n :=
  j_put hC uX0 hb (bj := 0) rfl (kf := 8) (by decide) hlink rfl rfl rfl (Nat.le_of_ble_eq_true rfl) hd kk
theorem j_put_0_9 (hC : jC g R E cc own nL) {d : Nat → Nat} {I : jF} {A : Nat → jF} {r : Nat → Option Nat} {bi index : Nat} {v : Int32} (hb : bl[bi]? = some (bc g d I A r)) (hlink : Cond.fieldLink own index (TX0 9).1 (TX0 9).2.1 (TX0 9).2.2.1 ∈ jT) (hd : decode cc pc = .ok (.putfield index, 3)) (kk : J g R E nL (pc + 3) lv st (bl.set bi (bc g d (upd I 9 v) A r)) k n) : J g R E nL pc lv (.int v :: .ref (d 0) :: st) bl k n :=
  j_put hC uX0 hb (bj := 0) rfl (kf := 9) (by decide) hlink rfl rfl rfl (Nat.le_of_ble_eq_true rfl) hd kk
theorem j_put_1_1 (hC : jC g R E cc own nL) {d : Nat → Nat} {I : jF} {r : Nat → Option Nat} {bi index : Nat} {v : Int32} (hb : bl[bi]? = some (hc g d I r)) (hlink : Cond.fieldLink own index (TX1 1).1 (TX1 1).2.1 (TX1 1).2.2.1 ∈ jT) (hd : decode cc pc = .ok (.putfield index, 3)) (kk : J g R E nL (pc + 3) lv st (bl.set bi (hc g d (upd I 1 v) r)) k n) : J g R E nL pc lv (.int v :: .ref (d 0) :: st) bl k n :=
  j_put hC uX1 hb (bj := 0) rfl (kf := 1) (by decide) hlink rfl rfl rfl (Nat.le_of_ble_eq_true rfl) hd kk
theorem j_put_1_2 (hC : jC g R E cc own nL) {d : Nat → Nat} {I : jF} {r : Nat → Option Nat} {bi index : Nat} {v : Int32} (hb : bl[bi]? = some (hc g d I r)) (hlink : Cond.fieldLink own index (TX1 2).1 (TX1 2).2.1 (TX1 2).2.2.1 ∈ jT) (hd : decode cc pc = .ok (.putfield index, 3)) (kk : J g R E nL (pc + 3) lv st (bl.set bi (hc g d (upd I 2 v) r)) k n) : J g R E nL pc lv (.int v :: .ref (d 0) :: st) bl k n :=
  j_put hC uX1 hb (bj := 0) rfl (kf := 2) (by decide) hlink rfl rfl rfl (Nat.le_of_ble_eq_true rfl) hd kk
theorem j_put_2_0 (hC : jC g R E cc own nL) {a : Nat} {L : jF} {bi index : Nat} {v : Int32} (hb : bl[bi]? = some (lb a L)) (hlink : Cond.fieldLink own index (TX2 0).1 (TX2 0).2.1 (TX2 0).2.2.1 ∈ jT) (hd : decode cc pc = .ok (.putfield index, 3)) (kk : J g R E nL (pc + 3) lv st (bl.set bi (lb a (upd L 0 v))) k n) : J g R E nL pc lv (.int v :: .ref (a) :: st) bl k n :=
  j_put hC uX2 hb (bj := 0) rfl (kf := 0) (by decide) hlink rfl rfl rfl (Nat.le_of_ble_eq_true rfl) hd kk
theorem j_put_2_1 (hC : jC g R E cc own nL) {a : Nat} {L : jF} {bi index : Nat} {v : Int32} (hb : bl[bi]? = some (lb a L)) (hlink : Cond.fieldLink own index (TX2 1).1 (TX2 1).2.1 (TX2 1).2.2.1 ∈ jT) (hd : decode cc pc = .ok (.putfield index, 3)) (kk : J g R E nL (pc + 3) lv st (bl.set bi (lb a (upd L 1 v))) k n) : J g R E nL pc lv (.int v :: .ref (a) :: st) bl k n :=
  j_put hC uX2 hb (bj := 0) rfl (kf := 1) (by decide) hlink rfl rfl rfl (Nat.le_of_ble_eq_true rfl) hd kk
theorem j_put_2_2 (hC : jC g R E cc own nL) {a : Nat} {L : jF} {bi index : Nat} {v : Int32} (hb : bl[bi]? = some (lb a L)) (hlink : Cond.fieldLink own index (TX2 2).1 (TX2 2).2.1 (TX2 2).2.2.1 ∈ jT) (hd : decode cc pc = .ok (.putfield index, 3)) (kk : J g R E nL (pc + 3) lv st (bl.set bi (lb a (upd L 2 v))) k n) : J g R E nL pc lv (.int v :: .ref (a) :: st) bl k n :=
  j_put hC uX2 hb (bj := 0) rfl (kf := 2) (by decide) hlink rfl rfl rfl (Nat.le_of_ble_eq_true rfl) hd kk
theorem j_put_2_3 (hC : jC g R E cc own nL) {a : Nat} {L : jF} {bi index : Nat} {v : Int32} (hb : bl[bi]? = some (lb a L)) (hlink : Cond.fieldLink own index (TX2 3).1 (TX2 3).2.1 (TX2 3).2.2.1 ∈ jT) (hd : decode cc pc = .ok (.putfield index, 3)) (kk : J g R E nL (pc + 3) lv st (bl.set bi (lb a (upd L 3 v))) k n) : J g R E nL pc lv (.int v :: .ref (a) :: st) bl k n :=
  j_put hC uX2 hb (bj := 0) rfl (kf := 3) (by decide) hlink rfl rfl rfl (Nat.le_of_ble_eq_true rfl) hd kk
theorem j_put_2_4 (hC : jC g R E cc own nL) {a : Nat} {L : jF} {bi index : Nat} {v : Int32} (hb : bl[bi]? = some (lb a L)) (hlink : Cond.fieldLink own index (TX2 4).1 (TX2 4).2.1 (TX2 4).2.2.1 ∈ jT) (hz : v = 0 ∨ v = 1) (hd : decode cc pc = .ok (.putfield index, 3)) (kk : J g R E nL (pc + 3) lv st (bl.set bi (lb a (upd L 4 v))) k n) : J g R E nL pc lv (.int v :: .ref (a) :: st) bl k n :=
  j_put hC uX2 hb (bj := 0) rfl (kf := 4) (by decide) hlink rfl (by rcases hz with h | h <;> subst h <;> rfl) (by rcases hz with h | h <;> subst h <;> rfl) (Nat.le_of_ble_eq_true rfl) hd kk
theorem j_put_2_5 (hC : jC g R E cc own nL) {a : Nat} {L : jF} {bi index : Nat} {v : Int32} (hb : bl[bi]? = some (lb a L)) (hlink : Cond.fieldLink own index (TX2 5).1 (TX2 5).2.1 (TX2 5).2.2.1 ∈ jT) (hd : decode cc pc = .ok (.putfield index, 3)) (kk : J g R E nL (pc + 3) lv st (bl.set bi (lb a (upd L 5 v))) k n) : J g R E nL pc lv (.int v :: .ref (a) :: st) bl k n :=
  j_put hC uX2 hb (bj := 0) rfl (kf := 5) (by decide) hlink rfl rfl rfl (Nat.le_of_ble_eq_true rfl) hd kk
theorem j_put_2_6 (hC : jC g R E cc own nL) {a : Nat} {L : jF} {bi index : Nat} {v : Int32} (hb : bl[bi]? = some (lb a L)) (hlink : Cond.fieldLink own index (TX2 6).1 (TX2 6).2.1 (TX2 6).2.2.1 ∈ jT) (hd : decode cc pc = .ok (.putfield index, 3)) (kk : J g R E nL (pc + 3) lv st (bl.set bi (lb a (upd L 6 v))) k n) : J g R E nL pc lv (.int v :: .ref (a) :: st) bl k n :=
  j_put hC uX2 hb (bj := 0) rfl (kf := 6) (by decide) hlink rfl rfl rfl (Nat.le_of_ble_eq_true rfl) hd kk
theorem j_put_2_7 (hC : jC g R E cc own nL) {a : Nat} {L : jF} {bi index : Nat} {v : Int32} (hb : bl[bi]? = some (lb a L)) (hlink : Cond.fieldLink own index (TX2 7).1 (TX2 7).2.1 (TX2 7).2.2.1 ∈ jT) (hd : decode cc pc = .ok (.putfield index, 3)) (kk : J g R E nL (pc + 3) lv st (bl.set bi (lb a (upd L 7 v))) k n) : J g R E nL pc lv (.int v :: .ref (a) :: st) bl k n :=
  j_put hC uX2 hb (bj := 0) rfl (kf := 7) (by decide) hlink rfl rfl rfl (Nat.le_of_ble_eq_true rfl) hd kk
theorem j_put_2_8 (hC : jC g R E cc own nL) {a : Nat} {L : jF} {bi index : Nat} {v : Int32} (hb : bl[bi]? = some (lb a L)) (hlink : Cond.fieldLink own index (TX2 8).1 (TX2 8).2.1 (TX2 8).2.2.1 ∈ jT) (hd : decode cc pc = .ok (.putfield index, 3)) (kk : J g R E nL (pc + 3) lv st (bl.set bi (lb a (upd L 8 v))) k n) : J g R E nL pc lv (.int v :: .ref (a) :: st) bl k n :=
  j_put hC uX2 hb (bj := 0) rfl (kf := 8) (by decide) hlink rfl rfl rfl (Nat.le_of_ble_eq_true rfl) hd kk
theorem j_put_3_2 (hC : jC g R E cc own nL) {d : Nat → Nat} {I : jF} {A : Nat → jF} {bi index : Nat} {v : Int32} (hb : bl[bi]? = some (pcc g d I A)) (hlink : Cond.fieldLink own index (TX3 2).1 (TX3 2).2.1 (TX3 2).2.2.1 ∈ jT) (hd : decode cc pc = .ok (.putfield index, 3)) (kk : J g R E nL (pc + 3) lv st (bl.set bi (pcc g d (upd I 2 v) A)) k n) : J g R E nL pc lv (.int v :: .ref (d 0) :: st) bl k n :=
  j_put hC uX3 hb (bj := 0) rfl (kf := 2) (by decide) hlink rfl rfl rfl (Nat.le_of_ble_eq_true rfl) hd kk
theorem j_put_3_3 (hC : jC g R E cc own nL) {d : Nat → Nat} {I : jF} {A : Nat → jF} {bi index : Nat} {v : Int32} (hb : bl[bi]? = some (pcc g d I A)) (hlink : Cond.fieldLink own index (TX3 3).1 (TX3 3).2.1 (TX3 3).2.2.1 ∈ jT) (hz : v = 0 ∨ v = 1) (hd : decode cc pc = .ok (.putfield index, 3)) (kk : J g R E nL (pc + 3) lv st (bl.set bi (pcc g d (upd I 3 v) A)) k n) : J g R E nL pc lv (.int v :: .ref (d 0) :: st) bl k n :=
  j_put hC uX3 hb (bj := 0) rfl (kf := 3) (by decide) hlink rfl (by rcases hz with h | h <;> subst h <;> rfl) (by rcases hz with h | h <;> subst h <;> rfl) (Nat.le_of_ble_eq_true rfl) hd kk
theorem j_put_5_1 (hC : jC g R E cc own nL) {d : Nat → Nat} {I f : jF} {bi index : Nat} {v : Int32} (hb : bl[bi]? = some (tc g d I f)) (hlink : Cond.fieldLink own index (TX5 1).1 (TX5 1).2.1 (TX5 1).2.2.1 ∈ jT) (hd : decode cc pc = .ok (.putfield index, 3)) (kk : J g R E nL (pc + 3) lv st (bl.set bi (tc g d (upd I 1 v) f)) k n) : J g R E nL pc lv (.int v :: .ref (d 0) :: st) bl k n :=
  j_put hC uX5 hb (bj := 0) rfl (kf := 1) (by decide) hlink rfl rfl rfl (Nat.le_of_ble_eq_true rfl) hd kk
theorem j_put_5_2 (hC : jC g R E cc own nL) {d : Nat → Nat} {I f : jF} {bi index : Nat} {v : Int32} (hb : bl[bi]? = some (tc g d I f)) (hlink : Cond.fieldLink own index (TX5 2).1 (TX5 2).2.1 (TX5 2).2.2.1 ∈ jT) (hd : decode cc pc = .ok (.putfield index, 3)) (kk : J g R E nL (pc + 3) lv st (bl.set bi (tc g d (upd I 2 v) f)) k n) : J g R E nL pc lv (.int v :: .ref (d 0) :: st) bl k n :=
  j_put hC uX5 hb (bj := 0) rfl (kf := 2) (by decide) hlink rfl rfl rfl (Nat.le_of_ble_eq_true rfl) hd kk
theorem j_put_5_3 (hC : jC g R E cc own nL) {d : Nat → Nat} {I f : jF} {bi index : Nat} {v : Int32} (hb : bl[bi]? = some (tc g d I f)) (hlink : Cond.fieldLink own index (TX5 3).1 (TX5 3).2.1 (TX5 3).2.2.1 ∈ jT) (hd : decode cc pc = .ok (.putfield index, 3)) (kk : J g R E nL (pc + 3) lv st (bl.set bi (tc g d (upd I 3 v) f)) k n) : J g R E nL pc lv (.int v :: .ref (d 0) :: st) bl k n :=
  j_put hC uX5 hb (bj := 0) rfl (kf := 3) (by decide) hlink rfl rfl rfl (Nat.le_of_ble_eq_true rfl) hd kk
theorem j_ast_0_0 (hC : jC g R E cc own nL) {d : Nat → Nat} {I : jF} {A : Nat → jF} {r : Nat → Option Nat} {bi : Nat} {i x : Int32} (hb : bl[bi]? = some (bc g d I A r)) (hin : vp_in i 6) (hd : decode cc pc = .ok (.iastore, 1)) (kk : J g R E nL (pc + 1) lv st (bl.set bi (bc g d I (va_up A 0 (upd (A 0) i.toNatClampNeg x)) r)) k n) : J g R E nL pc lv (.int x :: .int i :: .ref (d 2) :: st) bl k n :=
  j_iast hC hb (bj := 2) rfl hin hd kk
theorem j_ast_0_1 (hC : jC g R E cc own nL) {d : Nat → Nat} {I : jF} {A : Nat → jF} {r : Nat → Option Nat} {bi : Nat} {i x : Int32} (hb : bl[bi]? = some (bc g d I A r)) (hin : vp_in i 6) (hd : decode cc pc = .ok (.iastore, 1)) (kk : J g R E nL (pc + 1) lv st (bl.set bi (bc g d I (va_up A 1 (upd (A 1) i.toNatClampNeg x)) r)) k n) : J g R E nL pc lv (.int x :: .int i :: .ref (d 3) :: st) bl k n :=
  j_iast hC hb (bj := 3) rfl hin hd kk
theorem j_ast_0_2 (hC : jC g R E cc own nL) {d : Nat → Nat} {I : jF} {A : Nat → jF} {r : Nat → Option Nat} {bi : Nat} {i x : Int32} (hb : bl[bi]? = some (bc g d I A r)) (hin : vp_in i 3) (hd : decode cc pc = .ok (.iastore, 1)) (kk : J g R E nL (pc + 1) lv st (bl.set bi (bc g d I (va_up A 2 (upd (A 2) i.toNatClampNeg x)) r)) k n) : J g R E nL pc lv (.int x :: .int i :: .ref (d 4) :: st) bl k n :=
  j_iast hC hb (bj := 4) rfl hin hd kk
theorem j_ast_3_0 (hC : jC g R E cc own nL) {d : Nat → Nat} {I : jF} {A : Nat → jF} {bi : Nat} {i x : Int32} (hb : bl[bi]? = some (pcc g d I A)) (hin : vp_in i 1024) (hd : decode cc pc = .ok (.bastore, 1)) (kk : J g R E nL (pc + 1) lv st (bl.set bi (pcc g d I (va_up A 0 (upd (A 0) i.toNatClampNeg (vp_nar .byte x))))) k n) : J g R E nL pc lv (.int x :: .int i :: .ref (d 1) :: st) bl k n :=
  j_bast hC hb (bj := 1) rfl hin hd kk
theorem j_ast_3_1 (hC : jC g R E cc own nL) {d : Nat → Nat} {I : jF} {A : Nat → jF} {bi : Nat} {i x : Int32} (hb : bl[bi]? = some (pcc g d I A)) (hin : vp_in i 10) (hd : decode cc pc = .ok (.iastore, 1)) (kk : J g R E nL (pc + 1) lv st (bl.set bi (pcc g d I (va_up A 1 (upd (A 1) i.toNatClampNeg x)))) k n) : J g R E nL pc lv (.int x :: .int i :: .ref (d 2) :: st) bl k n :=
  j_iast hC hb (bj := 2) rfl hin hd kk
theorem j_ast_4_0 (hC : jC g R E cc own nL) {d : Nat → Nat} {A : Nat → jF} {bi : Nat} {i x : Int32} (hb : bl[bi]? = some (rc g d A)) (hin : vp_in i 201) (hd : decode cc pc = .ok (.iastore, 1)) (kk : J g R E nL (pc + 1) lv st (bl.set bi (rc g d (va_up A 0 (upd (A 0) i.toNatClampNeg x)))) k n) : J g R E nL pc lv (.int x :: .int i :: .ref (d 1) :: st) bl k n :=
  j_iast hC hb (bj := 1) rfl hin hd kk
theorem j_ast_4_1 (hC : jC g R E cc own nL) {d : Nat → Nat} {A : Nat → jF} {bi : Nat} {i x : Int32} (hb : bl[bi]? = some (rc g d A)) (hin : vp_in i 201) (hd : decode cc pc = .ok (.iastore, 1)) (kk : J g R E nL (pc + 1) lv st (bl.set bi (rc g d (va_up A 1 (upd (A 1) i.toNatClampNeg x)))) k n) : J g R E nL pc lv (.int x :: .int i :: .ref (d 2) :: st) bl k n :=
  j_iast hC hb (bj := 2) rfl hin hd kk
theorem j_ast_5_0 (hC : jC g R E cc own nL) {d : Nat → Nat} {I f : jF} {bi : Nat} {i x : Int32} (hb : bl[bi]? = some (tc g d I f)) (hin : vp_in i 80) (hd : decode cc pc = .ok (.bastore, 1)) (kk : J g R E nL (pc + 1) lv st (bl.set bi (tc g d I (upd f i.toNatClampNeg (vp_nar .byte x)))) k n) : J g R E nL pc lv (.int x :: .int i :: .ref (d 1) :: st) bl k n :=
  j_bast hC hb (bj := 1) rfl hin hd kk
end JR
