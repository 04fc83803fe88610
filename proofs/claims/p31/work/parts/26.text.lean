/-! the class's reader of texts -/
def tPk (I f : jF) : Int32 := if ¬ I 2 < 0 ∧ ¬ I 1 ≤ I 2 ∧ ¬ 80 ≤ I 2 then f (I 2).toNatClampNeg else -1
abbrev tDig (I f : jF) : Prop := ¬ tPk I f < 48 ∧ ¬ 57 < tPk I f
def tFl (I : jF) (w : Int32) : jF := if I 3 = -1 then upd I 3 w else I
def tEx (I f : jF) (c : Int32) : jF := if tPk I f = c then upd I 2 (I 2 + 1) else tFl I (I 2)
def rnl (f : jF) : Nat → jF → Int32 → jF × Int32
  | 0, I, v => (I, v)
  | m + 1, I, v => if tDig I f then rnl f m (upd I 2 (I 2 + 1)) (10 * v + tPk I f - 48) else (I, v)
def rnF (I f : jF) (m : Nat) (lo hi : Int32) : jF := if (rnl f m I 0).1 2 = I 2 ∨ tDig (rnl f m I 0).1 f then tFl (rnl f m I 0).1 ((rnl f m I 0).1 2) else if (rnl f m I 0).2 < lo ∨ ¬ (rnl f m I 0).2 ≤ hi then tFl (rnl f m I 0).1 ((rnl f m I 0).1 2 - 1) else (rnl f m I 0).1
theorem rnF_a {I f : jF} {m : Nat} {lo hi : Int32} (h : (rnl f m I 0).1 2 = I 2 ∨ tDig (rnl f m I 0).1 f) : rnF I f m lo hi = tFl (rnl f m I 0).1 ((rnl f m I 0).1 2) := if_pos h
theorem rnF_b {I f : jF} {m : Nat} {lo hi : Int32} (h : ¬ ((rnl f m I 0).1 2 = I 2 ∨ tDig (rnl f m I 0).1 f)) (h2 : (rnl f m I 0).2 < lo ∨ ¬ (rnl f m I 0).2 ≤ hi) : rnF I f m lo hi = tFl (rnl f m I 0).1 ((rnl f m I 0).1 2 - 1) := (if_neg h).trans (if_pos h2)
theorem rnF_c {I f : jF} {m : Nat} {lo hi : Int32} (h : ¬ ((rnl f m I 0).1 2 = I 2 ∨ tDig (rnl f m I 0).1 f)) (h2 : ¬ ((rnl f m I 0).2 < lo ∨ ¬ (rnl f m I 0).2 ≤ hi)) : rnF I f m lo hi = (rnl f m I 0).1 := (if_neg h).trans (if_neg h2)
theorem rnl_0 {f : jF} {I : jF} {v : Int32} : rnl f 0 I v = (I, v) := rfl
theorem rnl_1 {f : jF} {m : Nat} {I : jF} {v : Int32} (h : tDig I f) : rnl f (m + 1) I v = rnl f m (upd I 2 (I 2 + 1)) (10 * v + tPk I f - 48) := if_pos h
theorem rnl_2 {f : jF} {m : Nat} {I : jF} {v : Int32} (h : ¬ tDig I f) : rnl f (m + 1) I v = (I, v) := if_neg h
theorem jbyte2 {x : Int32} : x.toInt8.toInt32.toInt8.toInt32 = x.toInt8.toInt32 := by simp
