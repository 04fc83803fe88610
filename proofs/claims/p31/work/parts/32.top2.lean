theorem jsubadd {x y : Int32} : y = x + (y - x) := by rw [Int32.add_comm, Int32.sub_add_cancel]
theorem nI_predP {n : Nat} (h : 0 < n) : nI n - 1 = nI (n - 1) := by
  obtain ⟨m, rfl⟩ : ∃ m, n = m + 1 := ⟨n - 1, by omega⟩
  exact nI_pred _
theorem jsub1 {x : Int32} : x - 1 = x + -1 := by rw [Int32.sub_eq_add_neg]
theorem stock_after {A : Nat → jF} {y : Int32} (hy : okLamp y) : stockOf A y - 1 = stockOf (stockTo A y (-1)) y := by
  unfold stockOf stockTo
  rw [if_pos hy, if_pos hy, if_pos hy]
  unfold va_up upd
  rw [if_pos rfl, if_pos rfl]
  exact jsub1
theorem jaddsub {x : Int32} : x + 1 - 1 = x := by rw [Int32.add_sub_cancel]
theorem okLamp_cases {x : Int32} (h : okLamp x) : x = 0 ∨ x = 1 ∨ x = 2 := by
  obtain ⟨a, b⟩ := h
  rw [Int32.lt_iff_toInt_lt] at a b
  rw [show (0 : Int32).toInt = 0 by decide] at a
  rw [show (2 : Int32).toInt = 2 by decide] at b
  have q : x.toInt = (0 : Int32).toInt ∨ x.toInt = (1 : Int32).toInt ∨ x.toInt = (2 : Int32).toInt := by
    rw [show (0 : Int32).toInt = 0 by decide, show (1 : Int32).toInt = 1 by decide, show (2 : Int32).toInt = 2 by decide]; omega
  rcases q with q | q | q
  · exact Or.inl (Int32.toInt_inj.mp q)
  · exact Or.inr (Or.inl (Int32.toInt_inj.mp q))
  · exact Or.inr (Or.inr (Int32.toInt_inj.mp q))
/-! the whole state that a script speaks of (building, remembered ones, text), and what each call answers and leaves -/
abbrev St3 : Type := BS × List BS × List Int32
def planOk (S : BS) (Ip : jF) (Ap : Nat → jF) : Prop := planned (bNeed S) (lsX (bLs S)) (bLs S).length (bRs S).length (raS S) (rbS S) (Ip 2) (Ap 1)
def CI (dn : Nat → Nat) (In : jF) (An : Nat → jF) (Xn Xu : List (Nat × jF)) (It ft Ih : jF) (K : Nat → Option BV) (Ip : jF) (Ap : Nat → jF) (T : St3) : Prop :=
  isB (dn, In, An, Xn) T.1 ∧ Xu.length ≤ 10 ∧ chist Ih K T.2.1 ∧ ctext It ft T.2.2 ∧ (Ip 2).toInt ≤ 10 ∧ Ap 0 0 = 0 ∧ (Ip 3 = 0 ∨ planOk T.1 Ip Ap)
def CW (g : jG) (a : Nat) (T : St3) (b : List va_W) : Prop := ∃ (dt dn du dh dr dp : Nat → Nat) (It ft In : jF) (An : Nat → jF) (Xn : List (Nat × jF)) (Iu : jF) (Au : Nat → jF) (Xu : List (Nat × jF)) (Ih : jF) (K : Nat → Option BV) (Ar : Nat → jF) (Ip : jF) (Ap : Nat → jF),
  b = [xo a dt dn du dh dr dp, tc g dt It ft, bc g dn In An (lrf Xn), lts Xn, bc g du Iu Au (lrf Xu), lts Xu, hc g dh Ih (kr K), kb g K, rc g dr Ar, pcc g dp Ip Ap] ∧ CI dn In An Xn Xu It ft Ih K Ip Ap T
theorem CW.mk {g : jG} {a : Nat} {T : St3} {dt dn du dh dr dp : Nat → Nat} {It ft In : jF} {An : Nat → jF} {Xn : List (Nat × jF)} {Iu : jF} {Au : Nat → jF} {Xu : List (Nat × jF)} {Ih : jF} {K : Nat → Option BV} {Ar : Nat → jF} {Ip : jF} {Ap : Nat → jF} (h : CI dn In An Xn Xu It ft Ih K Ip Ap T) : CW g a T [xo a dt dn du dh dr dp, tc g dt It ft, bc g dn In An (lrf Xn), lts Xn, bc g du Iu Au (lrf Xu), lts Xu, hc g dh Ih (kr K), kb g K, rc g dr Ar, pcc g dp Ip Ap] :=
  ⟨dt, dn, du, dh, dr, dp, It, ft, In, An, Xn, Iu, Au, Xu, Ih, K, Ar, Ip, Ap, rfl, h⟩
theorem cw_o {g : jG} {a : Nat} {o : Int32 × St3} {v : Int32} {T : St3} {b : List va_W} (h : o = (v, T)) (hc : CW g a T b) : some (Value.int v) = some (Value.int o.1) ∧ CW g a o.2 b := by
  rw [h]; exact ⟨rfl, hc⟩
def oPush (T : St3) (S : BS) : St3 := (S, (T.1 :: T.2.1).take 8, T.2.2)
abbrev hLX (x : Int32) (n : Nat) : Prop := ¬ x < 0 ∧ ¬ nI n ≤ x
theorem hLX_nat {x : Int32} {n : Nat} (hn : n < 2 ^ 31) (h : hLX x n) : ∃ j, j < n ∧ x = nI j := by
  obtain ⟨a, b⟩ := h
  obtain ⟨j, hj, rfl⟩ := nI_of a
  refine ⟨j, ?_, rfl⟩
  rw [nI_leI hn hj] at b
  omega
theorem hLX_of {x : Int32} {n j : Nat} (hn : n < 2 ^ 31) (hj : j < n) (hx : x = nI j) : hLX x n := by
  rw [hx]
  exact ⟨by rw [← nI_0, nI_ltI (by omega) (by omega)]; omega, by rw [nI_leI (by omega) (by omega)]; omega⟩
theorem hLX_hasL {I : jF} {X : List (Nat × jF)} {k : Nat} {x : Int32} (h : bok I X k) (q : hLX x k) : hasL I x := by
  obtain ⟨j, hj, hx⟩ := hLX_nat (by have := h.2; omega) q
  exact hasL_in h hj hx
theorem hLX_hasR {I : jF} {n : Nat} {x : Int32} (h : I 4 = nI n) (hn : n ≤ 6) (q : hLX x n) : hasR I x := by
  obtain ⟨j, hj, hx⟩ := hLX_nat (by omega) q
  show ¬ x < 0 ∧ ¬ I 4 ≤ x ∧ ¬ 6 ≤ x
  rw [hx, h]
  exact ⟨by rw [← nI_0, nI_ltI (by omega) (by omega)]; omega, by rw [nI_leI (by omega) (by omega)]; omega, by show ¬ nI 6 ≤ nI j; rw [nI_leI (by omega) (by omega)]; omega⟩
def sLs (S : BS) (ls : List jF) : BS := (ls, S.2)
def sRs (S : BS) (rs : List (Int32 × Int32)) : BS := (S.1, rs, S.2.2)
def sNeed (S : BS) (v : Int32) : BS := (S.1, S.2.1, v, S.2.2.2)
def sSt (S : BS) (st : Int32 × Int32 × Int32) : BS := (S.1, S.2.1, S.2.2.1, S.2.2.2.1, st, S.2.2.2.2.2)
def stk (st : Int32 × Int32 × Int32) (x : Int32) : Int32 := if x = 0 then st.1 else if x = 1 then st.2.1 else st.2.2
def stTo (st : Int32 × Int32 × Int32) (x v : Int32) : Int32 × Int32 × Int32 := if x = 0 then (v, st.2) else if x = 1 then (st.1, v, st.2.2) else (st.1, st.2.1, v)
def lg (S : BS) (x : Int32) : jF := (bLs S).getD x.toNatClampNeg (fun _ => 0)
def oType (T : St3) (c : Int32) : Int32 × St3 := if c < 33 then (-1, T) else if c ≤ 126 then (if T.2.2.length < 80 then (nI (T.2.2.length + 1), (T.1, T.2.1, T.2.2 ++ [c])) else (-3, T)) else (-1, T)
def oClear (T : St3) : Int32 × St3 := (nI T.2.2.length, (T.1, T.2.1, []))
def oAdd (T : St3) (p c b l : Int32) : Int32 × St3 := if ¬ okPlace p ∨ c < 0 ∨ 3 < c ∨ b < 0 ∨ 3 < b ∨ ¬ okLamp l then (-1, T) else if (bLs T.1).length < 10 then (nI (bLs T.1).length, oPush T (sLs T.1 (bLs T.1 ++ [newL p c b l 0]))) else (-3, T)
def oDrop (T : St3) (x : Int32) : Int32 × St3 := if hLX x (bLs T.1).length then (nI ((bLs T.1).length - 1), oPush T (sLs T.1 ((bLs T.1).eraseIdx x.toNatClampNeg))) else (-1, T)
def oMaintain (T : St3) (x y : Int32) : Int32 × St3 := if hLX x (bLs T.1).length then (if lg T.1 x 4 = 0 then 0 else 1, oPush T (sLs T.1 ((bLs T.1).set x.toNatClampNeg (upd (lg T.1 x) 4 y)))) else (-1, T)
def oRoute (T : St3) (x y : Int32) : Int32 × St3 := if ¬ okPlace x ∨ ¬ okPlace y ∨ y < x then (-1, T) else if (bRs T.1).length < 6 then (nI (bRs T.1).length, oPush T (sRs T.1 (bRs T.1 ++ [(x, y)]))) else (-3, T)
def oDropRoute (T : St3) (x : Int32) : Int32 × St3 := if hLX x (bRs T.1).length then (nI ((bRs T.1).length - 1), oPush T (sRs T.1 ((bRs T.1).eraseIdx x.toNatClampNeg))) else (-1, T)
def oSetNeed (T : St3) (x : Int32) : Int32 × St3 := if x < 1 then (-1, T) else if x ≤ 180 then (bNeed T.1, oPush T (sNeed T.1 x)) else (-1, T)
def oSetStock (T : St3) (x y : Int32) : Int32 × St3 := if ¬ okLamp x ∨ y < 0 ∨ 99 < y then (-1, T) else (stk (bSt T.1) x, oPush T (sSt T.1 (stTo (bSt T.1) x y)))
def oRenew (T : St3) (x : Int32) : Int32 × St3 := if hLX x (bLs T.1).length then (lg T.1 x 5, oPush T (sLs T.1 ((bLs T.1).set x.toNatClampNeg (upd (upd (lg T.1 x) 5 1000) 6 0)))) else (-1, T)
def oSwap (T : St3) (x y : Int32) : Int32 × St3 := if ¬ hLX x (bLs T.1).length ∨ ¬ okLamp y then (-1, T) else if stk (bSt T.1) y = 0 then (-2, T) else
  (stk (bSt T.1) y - 1, oPush T (sSt (sLs T.1 ((bLs T.1).set x.toNatClampNeg (putL (lg T.1 x) y))) (stTo (bSt T.1) y (stk (bSt T.1) y - 1))))
theorem isB_need {d : Nat → Nat} {I : jF} {A : Nat → jF} {X : List (Nat × jF)} {S : BS} {v : Int32} (h : isB (d, I, A, X) S) : isB (d, upd I 5 v, A, X) (sNeed S v) := by
  obtain ⟨⟨⟨g1, g2, g3⟩, g4, g5, g6⟩, h2, h3, h4, h5, h6, h7, h8⟩ := h
  exact ⟨⟨⟨g1, g2, g3⟩, g4, g5, g6⟩, h2, h3, rfl, h5, h6, h7, h8⟩
theorem isB_lts {d : Nat → Nat} {I I1 : jF} {A : Nat → jF} {X Y : List (Nat × jF)} {S : BS} {ls : List jF} (h : isB (d, I, A, X) S) (h1 : I1 1 = nI ls.length) (hf : ∀ f, f ≠ 1 → I1 f = I f) (hk : ls.length ≤ Y.length) (hY : Y.length ≤ 10) (hl : ∀ j, j < ls.length → ls[j]? = some (jL Y j)) (hm : ∀ j, j < ls.length → jL Y j 4 = 0 ∨ jL Y j 4 = 1) : isB (d, I1, A, Y) (sLs S ls) := by
  obtain ⟨⟨⟨g1, g2, g3⟩, g4, g5, g6⟩, h2, h3, h4, h5, h6, h7, h8⟩ := h
  exact ⟨⟨⟨h1, hk, hY⟩, (hf 4 (by decide)).trans g4, g5, hm⟩, hl, h3, (hf 5 (by decide)).trans h4, (hf 6 (by decide)).trans h5, h6, (hf 8 (by decide)).trans h7, (hf 9 (by decide)).trans h8⟩
theorem isB_set {d : Nat → Nat} {I : jF} {A : Nat → jF} {X : List (Nat × jF)} {S : BS} {j : Nat} {L : jF} (h : isB (d, I, A, X) S) (hj : j < (bLs S).length) (hm : L 4 = 0 ∨ L 4 = 1) : isB (d, I, A, X.set j (jAd X j, L)) (sLs S ((bLs S).set j L)) := by
  obtain ⟨⟨⟨g1, g2, g3⟩, g4, g5, g6⟩, h2, -⟩ := id h
  have g1 : I 1 = nI (bLs S).length := g1
  have g2 : (bLs S).length ≤ X.length := g2
  have g3 : X.length ≤ 10 := g3
  have hx : ∀ i, i < (bLs S).length → ((bLs S).set j L)[i]? = some (jL (X.set j (jAd X j, L)) i) ∧ (jL (X.set j (jAd X j, L)) i 4 = 0 ∨ jL (X.set j (jAd X j, L)) i 4 = 1) := by
    intro i hi
    by_cases q : j = i
    · subst q
      rw [jL_set (by omega), List.getElem?_set_self hi]
      exact ⟨rfl, hm⟩
    · rw [jL_set_ne q, List.getElem?_set_ne q]
      exact ⟨h2 i hi, g6 i hi⟩
  refine isB_lts h (by rw [List.length_set]; exact g1) (fun _ _ => rfl) (by rw [List.length_set, List.length_set]; exact g2) (by rw [List.length_set]; exact g3) ?_ ?_
  · intro i hi; rw [List.length_set] at hi; exact (hx i hi).1
  · intro i hi; rw [List.length_set] at hi; exact (hx i hi).2
theorem lg_isB {V : BV} {S : BS} {j : Nat} {x : Int32} (h : isB V S) (hj : j < (bLs S).length) (hx : x = nI j) : lg S x = jL V.2.2.2 j := by
  have := h.1.1.2.1
  have := h.1.1.2.2
  unfold lg
  rw [hx, nI_cl (by omega), List.getD_eq_getElem?_getD, h.2.1 j hj, Option.getD_some]
theorem isB_stock {d : Nat → Nat} {I : jF} {A : Nat → jF} {X : List (Nat × jF)} {S : BS} {x : Int32} (h : isB (d, I, A, X) S) (hx : okLamp x) : stockOf A x = stk (bSt S) x := by
  have h6 := h.2.2.2.2.2.1
  have hh : x = 0 ∨ x = 1 ∨ x = 2 := okLamp_cases hx
  unfold stockOf
  rw [if_pos hx, ← h6]
  rcases hh with rfl | rfl | rfl <;> rfl
theorem isB_stockTo {d : Nat → Nat} {I : jF} {A : Nat → jF} {X : List (Nat × jF)} {S : BS} {x y w : Int32} (h : isB (d, I, A, X) S) (hx : okLamp x) (hw : w = stk (bSt S) x + y) : isB (d, I, stockTo A x y, X) (sSt S (stTo (bSt S) x w)) := by
  obtain ⟨g, h2, h3, h4, h5, h6, h7, h8⟩ := h
  have hh : x = 0 ∨ x = 1 ∨ x = 2 := okLamp_cases hx
  have hA : ∀ t, t < 2 → stockTo A x y t = A t := by
    intro t ht
    unfold stockTo
    rw [if_pos hx]
    unfold va_up
    rw [if_neg (by omega)]
  refine ⟨g, h2, fun t ht => ?_, h4, h5, ?_, h7, h8⟩
  · show _ = some (stockTo A x y 0 t, stockTo A x y 1 t)
    rw [hA 0 (by decide), hA 1 (by decide)]
    exact h3 t ht
  · show (stockTo A x y 2 0, stockTo A x y 2 1, stockTo A x y 2 2) = stTo (bSt S) x w
    rw [hw, ← h6]
    unfold stockTo
    rw [if_pos hx]
    rcases hh with rfl | rfl | rfl <;> rfl
theorem rotX_gt {X : List (Nat × jF)} {j k i : Nat} (hj : j < k) (hk : k ≤ X.length) (hi : i < k - 1) : (rotX X j k)[i]? = if i < j then X[i]? else X[i + 1]? := by
  rw [rotX_get hj hk]
  by_cases q : i < j
  · rw [if_pos q, if_pos q]
  · rw [if_neg q, if_neg q, if_pos (by omega)]
theorem rotX_length {X : List (Nat × jF)} {j k : Nat} (hj : j < k) (hk : k ≤ X.length) : (rotX X j k).length = X.length := by
  have := (rotX_perm (X := X) hj hk).length_eq
  omega
theorem isB_dropL {d : Nat → Nat} {I : jF} {A : Nat → jF} {X : List (Nat × jF)} {S : BS} {j : Nat} (h : isB (d, I, A, X) S) (hj : j < (bLs S).length) : isB (d, upd I 1 (I 1 - 1), A, rotX X j (bLs S).length) (sLs S ((bLs S).eraseIdx j)) := by
  obtain ⟨⟨⟨g1, g2, g3⟩, g4, g5, g6⟩, h2, -⟩ := id h
  have g1 : I 1 = nI (bLs S).length := g1
  have g2 : (bLs S).length ≤ X.length := g2
  have g3 : X.length ≤ 10 := g3
  have g6 : ∀ j, j < (bLs S).length → jL X j 4 = 0 ∨ jL X j 4 = 1 := g6
  have h2 : ∀ j, j < (bLs S).length → (bLs S)[j]? = some (jL X j) := h2
  have hl : ((bLs S).eraseIdx j).length = (bLs S).length - 1 := List.length_eraseIdx_of_lt hj
  have hx : ∀ i, i < (bLs S).length - 1 → jL (rotX X j (bLs S).length) i = if i < j then jL X i else jL X (i + 1) := by
    intro i hi
    have := rotX_gt hj g2 hi
    by_cases q : i < j
    · rw [if_pos q] at this ⊢
      exact jL_of this
    · rw [if_neg q] at this ⊢
      unfold jL; rw [this]
  refine isB_lts h ?_ (fun f hf => by unfold upd; rw [if_neg hf]) (by rw [hl, rotX_length hj g2]; omega) (by rw [rotX_length hj g2]; exact g3) ?_ ?_
  · show I 1 - 1 = _
    rw [g1, hl, nI_predP (by omega)]
  · intro i hi
    rw [hl] at hi
    rw [hx i hi, List.getElem?_eraseIdx]
    by_cases q : i < j
    · rw [if_pos q, if_pos q]; exact h2 i (by omega)
    · rw [if_neg q, if_neg q]; exact h2 (i + 1) (by omega)
  · intro i hi
    rw [hl] at hi
    rw [hx i hi]
    by_cases q : i < j
    · rw [if_pos q]; exact g6 i (by omega)
    · rw [if_neg q]; exact g6 (i + 1) (by omega)
theorem isB_addL {d : Nat → Nat} {I : jF} {A : Nat → jF} {X Y : List (Nat × jF)} {S : BS} {L : jF} {q : Nat} (h : isB (d, I, A, X) S) (hY : grown X (bLs S).length Y) (hm : L 4 = 0 ∨ L 4 = 1) : isB (d, upd I 1 (I 1 + 1), A, Y.set (bLs S).length (q, L)) (sLs S (bLs S ++ [L])) := by
  obtain ⟨⟨⟨g1, g2, g3⟩, g4, g5, g6⟩, h2, -⟩ := id h
  have g1 : I 1 = nI (bLs S).length := g1
  obtain ⟨y1, y2, y3, y4⟩ := hY
  have hx : ∀ i, i < (bLs S).length + 1 → (bLs S ++ [L])[i]? = some (jL (Y.set (bLs S).length (q, L)) i) ∧ (jL (Y.set (bLs S).length (q, L)) i 4 = 0 ∨ jL (Y.set (bLs S).length (q, L)) i 4 = 1) := by
    intro i hi
    by_cases w : (bLs S).length = i
    · subst w
      rw [jL_set y1, List.getElem?_append_right (by omega), Nat.sub_self]
      exact ⟨rfl, hm⟩
    · rw [jL_set_ne w, List.getElem?_append_left (by omega), jL_of (y4 i (by omega))]
      exact ⟨h2 i (by omega), g6 i (by omega)⟩
  refine isB_lts h ?_ (fun f hf => by unfold upd; rw [if_neg hf]) (by rw [List.length_append, List.length_set]; exact y1) (by rw [List.length_set]; exact y2) ?_ ?_
  · show I 1 + 1 = _
    rw [g1, List.length_append]; exact nI_1 _
  · intro i hi; rw [List.length_append] at hi; exact (hx i hi).1
  · intro i hi; rw [List.length_append] at hi; exact (hx i hi).2
theorem isB_rts {d : Nat → Nat} {I I1 : jF} {A B : Nat → jF} {X : List (Nat × jF)} {S : BS} {rs : List (Int32 × Int32)} (h : isB (d, I, A, X) S) (h1 : I1 4 = nI rs.length) (h6 : rs.length ≤ 6) (hf : ∀ f, f ≠ 4 → I1 f = I f) (hB : B 2 = A 2) (hl : ∀ t, t < rs.length → rs[t]? = some (B 0 t, B 1 t)) : isB (d, I1, B, X) (sRs S rs) := by
  obtain ⟨⟨⟨g1, g2, g3⟩, g4, g5, g6⟩, h2, h3, h4, h5, h6', h7, h8⟩ := h
  refine ⟨⟨⟨(hf 1 (by decide)).trans g1, g2, g3⟩, h1, h6, g6⟩, h2, hl, (hf 5 (by decide)).trans h4, (hf 6 (by decide)).trans h5, ?_, (hf 8 (by decide)).trans h7, (hf 9 (by decide)).trans h8⟩
  show (B 2 0, B 2 1, B 2 2) = bSt S
  rw [hB]; exact h6'
theorem isB_addR {d : Nat → Nat} {I : jF} {A : Nat → jF} {X : List (Nat × jF)} {S : BS} {x y : Int32} (h : isB (d, I, A, X) S) (hn : (bRs S).length < 6) : isB (d, upd I 4 (I 4 + 1), appA A (I 4).toNatClampNeg x y, X) (sRs S (bRs S ++ [(x, y)])) := by
  have g4 : I 4 = nI (bRs S).length := h.1.2.1
  have h3 := h.2.2.1
  refine isB_rts h ?_ (by rw [List.length_append]; exact hn) (fun f hf => by unfold upd; rw [if_neg hf]) rfl ?_
  · show I 4 + 1 = _
    rw [g4, List.length_append]; exact nI_1 _
  · intro t ht
    rw [List.length_append] at ht
    have ht : t < (bRs S).length + 1 := ht
    rw [g4, nI_cl (by omega)]
    show _ = some (upd (A 0) (bRs S).length x t, upd (A 1) (bRs S).length y t)
    by_cases q : t = (bRs S).length
    · rw [q]
      unfold upd
      rw [if_pos rfl, if_pos rfl, List.getElem?_append_right (by omega), Nat.sub_self]
      rfl
    · unfold upd
      rw [if_neg q, if_neg q, List.getElem?_append_left (by omega)]
      exact h3 t (by omega)
theorem rmI {j : Nat} {A : Nat → jF} : ∀ (m : Nat) (q : Nat), jiter (fun t A => rmA (j + t) A) A m 2 = A 2 ∧ (jiter (fun t A => rmA (j + t) A) A m 0 q = if j ≤ q ∧ q < j + m then A 0 (q + 1) else A 0 q) ∧ (jiter (fun t A => rmA (j + t) A) A m 1 q = if j ≤ q ∧ q < j + m then A 1 (q + 1) else A 1 q)
  | 0, q => ⟨rfl, by rw [if_neg (by omega)]; rfl, by rw [if_neg (by omega)]; rfl⟩
  | m + 1, q => by
    have ih := rmI (j := j) (A := A) m
    have e : jiter (fun t A => rmA (j + t) A) A (m + 1) = rmA (j + m) (jiter (fun t A => rmA (j + t) A) A m) := rfl
    rw [e]
    generalize hJ : jiter (fun t A => rmA (j + t) A) A m = B at ih
    refine ⟨(ih 0).1, ?_, ?_⟩
    · show upd (B 0) (j + m) (B 0 (j + m + 1)) q = _
      unfold upd
      by_cases w : q = j + m
      · rw [if_pos w, if_pos (by omega), (ih (j + m + 1)).2.1, if_neg (by omega), w]
      · rw [if_neg w, (ih q).2.1]
        by_cases u : j ≤ q ∧ q < j + m
        · rw [if_pos u, if_pos (by omega)]
        · rw [if_neg u, if_neg (by omega)]
    · show upd (B 1) (j + m) (B 1 (j + m + 1)) q = _
      unfold upd
      by_cases w : q = j + m
      · rw [if_pos w, if_pos (by omega), (ih (j + m + 1)).2.2, if_neg (by omega), w]
      · rw [if_neg w, (ih q).2.2]
        by_cases u : j ≤ q ∧ q < j + m
        · rw [if_pos u, if_pos (by omega)]
        · rw [if_neg u, if_neg (by omega)]
theorem isB_dropR {d : Nat → Nat} {I : jF} {A : Nat → jF} {X : List (Nat × jF)} {S : BS} {j : Nat} (h : isB (d, I, A, X) S) (hj : j < (bRs S).length) : isB (d, upd I 4 (I 4 - 1), jiter (fun t A => rmA (j + t) A) A ((bRs S).length - 1 - j), X) (sRs S ((bRs S).eraseIdx j)) := by
  have g4 : I 4 = nI (bRs S).length := h.1.2.1
  have g6 : (bRs S).length ≤ 6 := h.1.2.2.1
  have h3 := h.2.2.1
  have hl : ((bRs S).eraseIdx j).length = (bRs S).length - 1 := List.length_eraseIdx_of_lt hj
  have hi := rmI (j := j) (A := A) ((bRs S).length - 1 - j)
  refine isB_rts h ?_ (by omega) (fun f hf => by unfold upd; rw [if_neg hf]) (hi 0).1 ?_
  · show I 4 - 1 = _
    rw [g4, hl, nI_predP (by omega)]
  · intro t ht
    rw [hl] at ht
    rw [(hi t).2.1, (hi t).2.2, List.getElem?_eraseIdx]
    by_cases q : t < j
    · rw [if_pos q, if_neg (by omega), if_neg (by omega)]; exact h3 t (by omega)
    · rw [if_neg q, if_pos (by omega), if_pos (by omega)]; exact h3 (t + 1) (by omega)
theorem ctext_push {It ft : jF} {ts : List Int32} {c : Int32} (h : ctext It ft ts) (hn : ts.length < 80) : ctext (upd It 1 (It 1 + 1)) (upd ft ts.length c) (ts ++ [c]) := by
  obtain ⟨h1, h2, h3⟩ := h
  refine ⟨?_, by rw [List.length_append]; exact hn, fun i hi => ?_⟩
  · show It 1 + 1 = _
    rw [h1, List.length_append]; exact nI_1 _
  · rw [List.length_append] at hi
    have hi : i < ts.length + 1 := hi
    unfold upd
    by_cases q : i = ts.length
    · rw [if_pos q, q, List.getElem?_append_right (by omega), Nat.sub_self]; rfl
    · rw [if_neg q, List.getElem?_append_left (by omega)]; exact h3 i (by omega)
theorem jbyte {c : Int32} (h1 : ¬ c < 33) (h2 : c ≤ 126) : c.toInt8.toInt32 = c := by
  rw [Int32.lt_iff_toInt_lt, show (33 : Int32).toInt = 33 by decide] at h1
  rw [Int32.le_iff_toInt_le, show (126 : Int32).toInt = 126 by decide] at h2
  rw [← Int32.toInt_inj, Int8.toInt_toInt32, Int32.toInt_toInt8]
  exact Int.bmod_eq_of_le (by omega) (by omega)
set_option maxHeartbeats 1000000 in
set_option maxRecDepth 100000 in
theorem c_X6_setNeed (g : jG) (a : Nat) (T : St3) (b : List va_W) (x : Int32) (h : CW g a T b) : Con g yX6_setNeed cX6_setNeed 3 (some .int) 7 144 15 125 [.ref a, .int x] b (fun rr bb => rr = some (.int (oSetNeed T x).1) ∧ CW g a (oSetNeed T x).2 bb) := by
  obtain ⟨dt, dn, du, dh, dr, dp, It, ft, In, An, Xn, Iu, Au, Xu, Ih, K, Ar, Ip, Ap, rfl, hCI⟩ := h
  obtain ⟨hB, hu, hH, hT, hp2, hp0, hpl⟩ := id hCI
  obtain ⟨⟨hg1, hg2, hg3, hg4⟩, hb2, hb3, hb5, hb6, hb7, hb8, hb9⟩ := id hB
  have hg1 : bok In Xn (bLs T.1).length := hg1
  have hg2 : In 4 = nI (bRs T.1).length := hg2
  have hb5 : In 5 = bNeed T.1 := hb5
  have hk10 : (bLs T.1).length ≤ 10 := Nat.le_trans hg1.2.1 hg1.2.2
  refine Con.of (own := RX6) (lv := [(0, .ref a), (1, .int x)]) (by decide) rfl (Nat.le_of_ble_eq_true rfl) rfl ?_
  intro E hC hQ hN
  refine j_iload_n hC dX6_setNeed_0 rfl rfl ?_
  refine j_iconst hC (1) dX6_setNeed_1 (by decide) ?_
  refine j_icmp_lt hC dX6_setNeed_2 (tgt := 12) (by decide) (fun c_2 => ?_) (fun c_2 => ?_)
  · skip
    refine j_iconst hC (-1) dX6_setNeed_12 (by decide) ?_
    refine j_iret hC hQ rfl rfl (Nat.le_of_ble_eq_true rfl) (Nat.le_of_ble_eq_true rfl) dX6_setNeed_13 rfl ?_
    first | exact cw_o (T := T) (by unfold oSetNeed; rw [if_pos c_2]) (CW.mk hCI) | exact cw_o (T := T) (by unfold oSetNeed; rw [if_neg c_2, if_neg c_9]) (CW.mk hCI) | exact cw_o (T := oPush T (sNeed T.1 x)) (by unfold oSetNeed; rw [if_neg c_2, if_pos c_9, e_25]; exact congrArg (fun z => (z, _)) hb5.symm) (CW.mk ⟨isB_need hB, hu, hH1, hT, hp2, hp0, Or.inl rfl⟩)
  · skip
    refine j_iload_n hC dX6_setNeed_5 rfl rfl ?_
    refine j_sipush hC (180) dX6_setNeed_6 (by decide) ?_
    refine j_icmp_le hC dX6_setNeed_9 (tgt := 14) (by decide) (fun c_9 => ?_) (fun c_9 => ?_)
    · skip
      refine j_aload_n hC dX6_setNeed_14 rfl rfl ?_
      refine j_callV hC [0, 1, 2, 3, 4, 5, 6, 7, 8, 9] (c_X6_remember g _ _ _ _ _ _ _ _ _ _ _ _ _ _ _ _ _ _ _ _ T.1 T.2.1 hB hH) mX6_remember k219 rfl rfl rfl rfl rfl ⟨(Nat.le_of_ble_eq_true rfl), (Nat.le_of_ble_eq_true rfl)⟩ (Nat.le_of_ble_eq_true rfl) ⟨(Nat.le_of_ble_eq_true rfl), (Nat.le_of_ble_eq_true rfl)⟩ dX6_setNeed_15 (fun r_15 b_15 hp_15 _ => ?_)
      obtain ⟨rfl, Ih1, K1, rfl, hH1⟩ := hp_15
      dsimp only [jrepl, List.set, jstk]
      refine j_aload_n hC dX6_setNeed_18 rfl rfl ?_
      refine j_get hC uX6 0 0 1 rfl rfl k143 rfl dX6_setNeed_19 ?_
      refine j_get hC uX0 2 0 5 rfl rfl k60 rfl dX6_setNeed_22 ?_
      refine j_istore_n hC dX6_setNeed_25 rfl rfl rfl rfl (fun v_25 e_25 => ?_)
      refine j_aload_n hC dX6_setNeed_26 rfl rfl ?_
      refine j_get hC uX6 0 0 1 rfl rfl k143 rfl dX6_setNeed_27 ?_
      refine j_iload_n hC dX6_setNeed_30 rfl rfl ?_
      refine j_put_0_5 (bi := 2) hC rfl k60 dX6_setNeed_31 ?_
      dsimp only [List.set]
      refine j_iload_n hC dX6_setNeed_34 rfl rfl ?_
      refine j_iret hC hQ rfl rfl (Nat.le_of_ble_eq_true rfl) (Nat.le_of_ble_eq_true rfl) dX6_setNeed_35 rfl ?_
      first | exact cw_o (T := T) (by unfold oSetNeed; rw [if_pos c_2]) (CW.mk hCI) | exact cw_o (T := T) (by unfold oSetNeed; rw [if_neg c_2, if_neg c_9]) (CW.mk hCI) | exact cw_o (T := oPush T (sNeed T.1 x)) (by unfold oSetNeed; rw [if_neg c_2, if_pos c_9, e_25]; exact congrArg (fun z => (z, _)) hb5.symm) (CW.mk ⟨isB_need hB, hu, hH1, hT, hp2, hp0, Or.inl rfl⟩)
    · skip
      refine j_iconst hC (-1) dX6_setNeed_12 (by decide) ?_
      refine j_iret hC hQ rfl rfl (Nat.le_of_ble_eq_true rfl) (Nat.le_of_ble_eq_true rfl) dX6_setNeed_13 rfl ?_
      first | exact cw_o (T := T) (by unfold oSetNeed; rw [if_pos c_2]) (CW.mk hCI) | exact cw_o (T := T) (by unfold oSetNeed; rw [if_neg c_2, if_neg c_9]) (CW.mk hCI) | exact cw_o (T := oPush T (sNeed T.1 x)) (by unfold oSetNeed; rw [if_neg c_2, if_pos c_9, e_25]; exact congrArg (fun z => (z, _)) hb5.symm) (CW.mk ⟨isB_need hB, hu, hH1, hT, hp2, hp0, Or.inl rfl⟩)
set_option maxHeartbeats 1000000 in
set_option maxRecDepth 100000 in
theorem c_X6_setStock (g : jG) (a : Nat) (T : St3) (b : List va_W) (x y : Int32) (h : CW g a T b) : Con g yX6_setStock cX6_setStock 4 (some .int) 7 144 15 125 [.ref a, .int x, .int y] b (fun rr bb => rr = some (.int (oSetStock T x y).1) ∧ CW g a (oSetStock T x y).2 bb) := by
  obtain ⟨dt, dn, du, dh, dr, dp, It, ft, In, An, Xn, Iu, Au, Xu, Ih, K, Ar, Ip, Ap, rfl, hCI⟩ := h
  obtain ⟨hB, hu, hH, hT, hp2, hp0, hpl⟩ := id hCI
  obtain ⟨⟨hg1, hg2, hg3, hg4⟩, hb2, hb3, hb5, hb6, hb7, hb8, hb9⟩ := id hB
  have hg1 : bok In Xn (bLs T.1).length := hg1
  have hg2 : In 4 = nI (bRs T.1).length := hg2
  have hb5 : In 5 = bNeed T.1 := hb5
  have hk10 : (bLs T.1).length ≤ 10 := Nat.le_trans hg1.2.1 hg1.2.2
  refine Con.of (own := RX6) (lv := [(0, .ref a), (1, .int x), (2, .int y)]) (by decide) rfl (Nat.le_of_ble_eq_true rfl) rfl ?_
  intro E hC hQ hN
  refine j_iload_n hC dX6_setStock_0 rfl rfl ?_
  refine j_callSR hC [] (c_X6_isLamp g _) mX6_isLamp k345 rfl rfl rfl ⟨(Nat.le_of_ble_eq_true rfl), (Nat.le_of_ble_eq_true rfl)⟩ (Nat.le_of_ble_eq_true rfl) ⟨(Nat.le_of_ble_eq_true rfl), (Nat.le_of_ble_eq_true rfl)⟩ dX6_setStock_1 ?_
  dsimp only [jrepl, List.set, jstk]
  refine j_if_eq hC dX6_setStock_4 (tgt := 17) (by decide) (fun c_4 => ?_) (fun c_4 => ?_)
  · skip
    refine j_iconst hC (-1) dX6_setStock_17 (by decide) ?_
    refine j_iret hC hQ rfl rfl (Nat.le_of_ble_eq_true rfl) (Nat.le_of_ble_eq_true rfl) dX6_setStock_18 rfl ?_
    first | exact cw_o (T := T) (by unfold oSetStock; rw [if_pos (Or.inl (jb0 c_4))]) (CW.mk hCI) | exact cw_o (T := T) (by unfold oSetStock; rw [if_pos (Or.inr (Or.inl c_8))]) (CW.mk hCI) | exact cw_o (T := T) (by unfold oSetStock; rw [if_pos (Or.inr (Or.inr (Int32.not_le.mp c_14)))]) (CW.mk hCI) | exact cw_o (T := oPush T (sSt T.1 (stTo (bSt T.1) x y))) (by unfold oSetStock; rw [if_neg (fun q => q.elim (fun w => w (jb1 c_4)) (fun w => w.elim c_8 (fun w => Int32.not_lt.mpr c_14 w))), e_31, isB_stock hB (jb1 c_4)]) (CW.mk ⟨isB_stockTo hB (jb1 c_4) (by rw [e_31, isB_stock hB (jb1 c_4)]; exact jsubadd), hu, hH1, hT, hp2, hp0, Or.inl rfl⟩)
  · skip
    refine j_iload_n hC dX6_setStock_7 rfl rfl ?_
    refine j_if_lt hC dX6_setStock_8 (tgt := 17) (by decide) (fun c_8 => ?_) (fun c_8 => ?_)
    · skip
      refine j_iconst hC (-1) dX6_setStock_17 (by decide) ?_
      refine j_iret hC hQ rfl rfl (Nat.le_of_ble_eq_true rfl) (Nat.le_of_ble_eq_true rfl) dX6_setStock_18 rfl ?_
      first | exact cw_o (T := T) (by unfold oSetStock; rw [if_pos (Or.inl (jb0 c_4))]) (CW.mk hCI) | exact cw_o (T := T) (by unfold oSetStock; rw [if_pos (Or.inr (Or.inl c_8))]) (CW.mk hCI) | exact cw_o (T := T) (by unfold oSetStock; rw [if_pos (Or.inr (Or.inr (Int32.not_le.mp c_14)))]) (CW.mk hCI) | exact cw_o (T := oPush T (sSt T.1 (stTo (bSt T.1) x y))) (by unfold oSetStock; rw [if_neg (fun q => q.elim (fun w => w (jb1 c_4)) (fun w => w.elim c_8 (fun w => Int32.not_lt.mpr c_14 w))), e_31, isB_stock hB (jb1 c_4)]) (CW.mk ⟨isB_stockTo hB (jb1 c_4) (by rw [e_31, isB_stock hB (jb1 c_4)]; exact jsubadd), hu, hH1, hT, hp2, hp0, Or.inl rfl⟩)
    · skip
      refine j_iload_n hC dX6_setStock_11 rfl rfl ?_
      refine j_bipush hC (99) dX6_setStock_12 (by decide) ?_
      refine j_icmp_le hC dX6_setStock_14 (tgt := 19) (by decide) (fun c_14 => ?_) (fun c_14 => ?_)
      · skip
        refine j_aload_n hC dX6_setStock_19 rfl rfl ?_
        refine j_callV hC [0, 1, 2, 3, 4, 5, 6, 7, 8, 9] (c_X6_remember g _ _ _ _ _ _ _ _ _ _ _ _ _ _ _ _ _ _ _ _ T.1 T.2.1 hB hH) mX6_remember k219 rfl rfl rfl rfl rfl ⟨(Nat.le_of_ble_eq_true rfl), (Nat.le_of_ble_eq_true rfl)⟩ (Nat.le_of_ble_eq_true rfl) ⟨(Nat.le_of_ble_eq_true rfl), (Nat.le_of_ble_eq_true rfl)⟩ dX6_setStock_20 (fun r_20 b_20 hp_20 _ => ?_)
        obtain ⟨rfl, Ih1, K1, rfl, hH1⟩ := hp_20
        dsimp only [jrepl, List.set, jstk]
        refine j_aload_n hC dX6_setStock_23 rfl rfl ?_
        refine j_get hC uX6 0 0 1 rfl rfl k143 rfl dX6_setStock_24 ?_
        refine j_iload_n hC dX6_setStock_27 rfl rfl ?_
        refine j_callVR hC [2] (c_X0_stockOf g _ _ _ _ _) mX0_stockOf k417 rfl rfl rfl rfl rfl ⟨(Nat.le_of_ble_eq_true rfl), (Nat.le_of_ble_eq_true rfl)⟩ (Nat.le_of_ble_eq_true rfl) ⟨(Nat.le_of_ble_eq_true rfl), (Nat.le_of_ble_eq_true rfl)⟩ dX6_setStock_28 ?_
        dsimp only [jrepl, List.set, jstk]
        refine j_istore_n hC dX6_setStock_31 rfl rfl rfl rfl (fun v_31 e_31 => ?_)
        refine j_aload_n hC dX6_setStock_32 rfl rfl ?_
        refine j_get hC uX6 0 0 1 rfl rfl k143 rfl dX6_setStock_33 ?_
        refine j_iload_n hC dX6_setStock_36 rfl rfl ?_
        refine j_iload_n hC dX6_setStock_37 rfl rfl ?_
        refine j_iload_n hC dX6_setStock_38 rfl rfl ?_
        refine j_isub hC dX6_setStock_39 ?_
        refine j_callVR hC [2] (c_X0_changeStock g _ _ _ _ _ _) mX0_changeStock k589 rfl rfl rfl rfl rfl ⟨(Nat.le_of_ble_eq_true rfl), (Nat.le_of_ble_eq_true rfl)⟩ (Nat.le_of_ble_eq_true rfl) ⟨(Nat.le_of_ble_eq_true rfl), (Nat.le_of_ble_eq_true rfl)⟩ dX6_setStock_40 ?_
        dsimp only [jrepl, List.set, jstk]
        refine j_iload_n hC dX6_setStock_43 rfl rfl ?_
        refine j_iret hC hQ rfl rfl (Nat.le_of_ble_eq_true rfl) (Nat.le_of_ble_eq_true rfl) dX6_setStock_44 rfl ?_
        first | exact cw_o (T := T) (by unfold oSetStock; rw [if_pos (Or.inl (jb0 c_4))]) (CW.mk hCI) | exact cw_o (T := T) (by unfold oSetStock; rw [if_pos (Or.inr (Or.inl c_8))]) (CW.mk hCI) | exact cw_o (T := T) (by unfold oSetStock; rw [if_pos (Or.inr (Or.inr (Int32.not_le.mp c_14)))]) (CW.mk hCI) | exact cw_o (T := oPush T (sSt T.1 (stTo (bSt T.1) x y))) (by unfold oSetStock; rw [if_neg (fun q => q.elim (fun w => w (jb1 c_4)) (fun w => w.elim c_8 (fun w => Int32.not_lt.mpr c_14 w))), e_31, isB_stock hB (jb1 c_4)]) (CW.mk ⟨isB_stockTo hB (jb1 c_4) (by rw [e_31, isB_stock hB (jb1 c_4)]; exact jsubadd), hu, hH1, hT, hp2, hp0, Or.inl rfl⟩)
      · skip
        refine j_iconst hC (-1) dX6_setStock_17 (by decide) ?_
        refine j_iret hC hQ rfl rfl (Nat.le_of_ble_eq_true rfl) (Nat.le_of_ble_eq_true rfl) dX6_setStock_18 rfl ?_
        first | exact cw_o (T := T) (by unfold oSetStock; rw [if_pos (Or.inl (jb0 c_4))]) (CW.mk hCI) | exact cw_o (T := T) (by unfold oSetStock; rw [if_pos (Or.inr (Or.inl c_8))]) (CW.mk hCI) | exact cw_o (T := T) (by unfold oSetStock; rw [if_pos (Or.inr (Or.inr (Int32.not_le.mp c_14)))]) (CW.mk hCI) | exact cw_o (T := oPush T (sSt T.1 (stTo (bSt T.1) x y))) (by unfold oSetStock; rw [if_neg (fun q => q.elim (fun w => w (jb1 c_4)) (fun w => w.elim c_8 (fun w => Int32.not_lt.mpr c_14 w))), e_31, isB_stock hB (jb1 c_4)]) (CW.mk ⟨isB_stockTo hB (jb1 c_4) (by rw [e_31, isB_stock hB (jb1 c_4)]; exact jsubadd), hu, hH1, hT, hp2, hp0, Or.inl rfl⟩)
set_option maxHeartbeats 1000000 in
set_option maxRecDepth 100000 in
theorem c_X6_route (g : jG) (a : Nat) (T : St3) (b : List va_W) (x y : Int32) (h : CW g a T b) : Con g yX6_route cX6_route 3 (some .int) 7 144 15 125 [.ref a, .int x, .int y] b (fun rr bb => rr = some (.int (oRoute T x y).1) ∧ CW g a (oRoute T x y).2 bb) := by
  obtain ⟨dt, dn, du, dh, dr, dp, It, ft, In, An, Xn, Iu, Au, Xu, Ih, K, Ar, Ip, Ap, rfl, hCI⟩ := h
  obtain ⟨hB, hu, hH, hT, hp2, hp0, hpl⟩ := id hCI
  obtain ⟨⟨hg1, hg2, hg3, hg4⟩, hb2, hb3, hb5, hb6, hb7, hb8, hb9⟩ := id hB
  have hg1 : bok In Xn (bLs T.1).length := hg1
  have hg2 : In 4 = nI (bRs T.1).length := hg2
  have hb5 : In 5 = bNeed T.1 := hb5
  have hk10 : (bLs T.1).length ≤ 10 := Nat.le_trans hg1.2.1 hg1.2.2
  refine Con.of (own := RX6) (lv := [(0, .ref a), (1, .int x), (2, .int y)]) (by decide) rfl (Nat.le_of_ble_eq_true rfl) rfl ?_
  intro E hC hQ hN
  refine j_iload_n hC dX6_route_0 rfl rfl ?_
  refine j_callSR hC [] (c_X6_isPlace g _) mX6_isPlace k342 rfl rfl rfl ⟨(Nat.le_of_ble_eq_true rfl), (Nat.le_of_ble_eq_true rfl)⟩ (Nat.le_of_ble_eq_true rfl) ⟨(Nat.le_of_ble_eq_true rfl), (Nat.le_of_ble_eq_true rfl)⟩ dX6_route_1 ?_
  dsimp only [jrepl, List.set, jstk]
  refine j_if_eq hC dX6_route_4 (tgt := 19) (by decide) (fun c_4 => ?_) (fun c_4 => ?_)
  · skip
    refine j_iconst hC (-1) dX6_route_19 (by decide) ?_
    refine j_iret hC hQ rfl rfl (Nat.le_of_ble_eq_true rfl) (Nat.le_of_ble_eq_true rfl) dX6_route_20 rfl ?_
    first | exact cw_o (T := T) (by unfold oRoute; rw [if_pos (Or.inl (jb0 c_4))]) (CW.mk hCI) | exact cw_o (T := T) (by unfold oRoute; rw [if_pos (Or.inr (Or.inl (jb0 c_11)))]) (CW.mk hCI) | exact cw_o (T := T) (by unfold oRoute; rw [if_pos (Or.inr (Or.inr (Int32.not_le.mp c_16)))]) (CW.mk hCI) | exact cw_o (T := T) (by unfold oRoute; rw [if_neg (fun q => q.elim (fun w => w (jb1 c_4)) (fun w => w.elim (fun w => w (jb1 c_11)) (fun w => Int32.not_lt.mpr c_16 w))), if_neg (fun q => c_30 (by rw [hg2]; exact (nI_ltI (b := 6) (by omega) (by omega)).mpr q))]) (CW.mk hCI) | exact cw_o (T := oPush T (sRs T.1 (bRs T.1 ++ [(x, y)]))) (by unfold oRoute; rw [if_neg (fun q => q.elim (fun w => w (jb1 c_4)) (fun w => w.elim (fun w => w (jb1 c_11)) (fun w => Int32.not_lt.mpr c_16 w))), if_pos hr6]; exact congrArg (fun z => (z, _)) (show nI (bRs T.1).length = In 4 + 1 - 1 by rw [hg2]; exact jaddsub.symm)) (CW.mk ⟨isB_addR hB hr6, hu, hH1, hT, hp2, hp0, Or.inl rfl⟩)
  · skip
    refine j_iload_n hC dX6_route_7 rfl rfl ?_
    refine j_callSR hC [] (c_X6_isPlace g _) mX6_isPlace k342 rfl rfl rfl ⟨(Nat.le_of_ble_eq_true rfl), (Nat.le_of_ble_eq_true rfl)⟩ (Nat.le_of_ble_eq_true rfl) ⟨(Nat.le_of_ble_eq_true rfl), (Nat.le_of_ble_eq_true rfl)⟩ dX6_route_8 ?_
    dsimp only [jrepl, List.set, jstk]
    refine j_if_eq hC dX6_route_11 (tgt := 19) (by decide) (fun c_11 => ?_) (fun c_11 => ?_)
    · skip
      refine j_iconst hC (-1) dX6_route_19 (by decide) ?_
      refine j_iret hC hQ rfl rfl (Nat.le_of_ble_eq_true rfl) (Nat.le_of_ble_eq_true rfl) dX6_route_20 rfl ?_
      first | exact cw_o (T := T) (by unfold oRoute; rw [if_pos (Or.inl (jb0 c_4))]) (CW.mk hCI) | exact cw_o (T := T) (by unfold oRoute; rw [if_pos (Or.inr (Or.inl (jb0 c_11)))]) (CW.mk hCI) | exact cw_o (T := T) (by unfold oRoute; rw [if_pos (Or.inr (Or.inr (Int32.not_le.mp c_16)))]) (CW.mk hCI) | exact cw_o (T := T) (by unfold oRoute; rw [if_neg (fun q => q.elim (fun w => w (jb1 c_4)) (fun w => w.elim (fun w => w (jb1 c_11)) (fun w => Int32.not_lt.mpr c_16 w))), if_neg (fun q => c_30 (by rw [hg2]; exact (nI_ltI (b := 6) (by omega) (by omega)).mpr q))]) (CW.mk hCI) | exact cw_o (T := oPush T (sRs T.1 (bRs T.1 ++ [(x, y)]))) (by unfold oRoute; rw [if_neg (fun q => q.elim (fun w => w (jb1 c_4)) (fun w => w.elim (fun w => w (jb1 c_11)) (fun w => Int32.not_lt.mpr c_16 w))), if_pos hr6]; exact congrArg (fun z => (z, _)) (show nI (bRs T.1).length = In 4 + 1 - 1 by rw [hg2]; exact jaddsub.symm)) (CW.mk ⟨isB_addR hB hr6, hu, hH1, hT, hp2, hp0, Or.inl rfl⟩)
    · skip
      refine j_iload_n hC dX6_route_14 rfl rfl ?_
      refine j_iload_n hC dX6_route_15 rfl rfl ?_
      refine j_icmp_ge hC dX6_route_16 (tgt := 21) (by decide) (fun c_16 => ?_) (fun c_16 => ?_)
      · skip
        refine j_aload_n hC dX6_route_21 rfl rfl ?_
        refine j_get hC uX6 0 0 1 rfl rfl k143 rfl dX6_route_22 ?_
        refine j_get hC uX0 2 0 4 rfl rfl k57 rfl dX6_route_25 ?_
        refine j_bipush hC (6) dX6_route_28 (by decide) ?_
        refine j_icmp_lt hC dX6_route_30 (tgt := 36) (by decide) (fun c_30 => ?_) (fun c_30 => ?_)
        · skip
          refine j_aload_n hC dX6_route_36 rfl rfl ?_
          have hr6 : (bRs T.1).length < 6 := jlt (show (6 : Int32) = nI 6 from rfl) hg2 (by omega) (by omega) (Int32.not_le.mpr c_30)
          refine j_callV hC [0, 1, 2, 3, 4, 5, 6, 7, 8, 9] (c_X6_remember g _ _ _ _ _ _ _ _ _ _ _ _ _ _ _ _ _ _ _ _ T.1 T.2.1 hB hH) mX6_remember k219 rfl rfl rfl rfl rfl ⟨(Nat.le_of_ble_eq_true rfl), (Nat.le_of_ble_eq_true rfl)⟩ (Nat.le_of_ble_eq_true rfl) ⟨(Nat.le_of_ble_eq_true rfl), (Nat.le_of_ble_eq_true rfl)⟩ dX6_route_37 (fun r_37 b_37 hp_37 _ => ?_)
          obtain ⟨rfl, Ih1, K1, rfl, hH1⟩ := hp_37
          dsimp only [jrepl, List.set, jstk]
          refine j_aload_n hC dX6_route_40 rfl rfl ?_
          refine j_get hC uX6 0 0 1 rfl rfl k143 rfl dX6_route_41 ?_
          refine j_iload_n hC dX6_route_44 rfl rfl ?_
          refine j_iload_n hC dX6_route_45 rfl rfl ?_
          refine j_callVR hC [2] (c_X0_appendRoute g _ _ _ _ _ _ (by rw [hg2, ← nI_0, nI_ltI (by omega) (by omega)]; omega) (by rw [hg2]; show ¬ nI 6 ≤ nI _; rw [nI_leI (by omega) (by omega)]; omega)) mX0_appendRoute k370 rfl rfl rfl rfl rfl ⟨(Nat.le_of_ble_eq_true rfl), (Nat.le_of_ble_eq_true rfl)⟩ (Nat.le_of_ble_eq_true rfl) ⟨(Nat.le_of_ble_eq_true rfl), (Nat.le_of_ble_eq_true rfl)⟩ dX6_route_46 ?_
          dsimp only [jrepl, List.set, jstk]
          refine j_aload_n hC dX6_route_49 rfl rfl ?_
          refine j_get hC uX6 0 0 1 rfl rfl k143 rfl dX6_route_50 ?_
          refine j_get hC uX0 2 0 4 rfl rfl k57 rfl dX6_route_53 ?_
          refine j_iconst hC (1) dX6_route_56 (by decide) ?_
          refine j_isub hC dX6_route_57 ?_
          refine j_iret hC hQ rfl rfl (Nat.le_of_ble_eq_true rfl) (Nat.le_of_ble_eq_true rfl) dX6_route_58 rfl ?_
          first | exact cw_o (T := T) (by unfold oRoute; rw [if_pos (Or.inl (jb0 c_4))]) (CW.mk hCI) | exact cw_o (T := T) (by unfold oRoute; rw [if_pos (Or.inr (Or.inl (jb0 c_11)))]) (CW.mk hCI) | exact cw_o (T := T) (by unfold oRoute; rw [if_pos (Or.inr (Or.inr (Int32.not_le.mp c_16)))]) (CW.mk hCI) | exact cw_o (T := T) (by unfold oRoute; rw [if_neg (fun q => q.elim (fun w => w (jb1 c_4)) (fun w => w.elim (fun w => w (jb1 c_11)) (fun w => Int32.not_lt.mpr c_16 w))), if_neg (fun q => c_30 (by rw [hg2]; exact (nI_ltI (b := 6) (by omega) (by omega)).mpr q))]) (CW.mk hCI) | exact cw_o (T := oPush T (sRs T.1 (bRs T.1 ++ [(x, y)]))) (by unfold oRoute; rw [if_neg (fun q => q.elim (fun w => w (jb1 c_4)) (fun w => w.elim (fun w => w (jb1 c_11)) (fun w => Int32.not_lt.mpr c_16 w))), if_pos hr6]; exact congrArg (fun z => (z, _)) (show nI (bRs T.1).length = In 4 + 1 - 1 by rw [hg2]; exact jaddsub.symm)) (CW.mk ⟨isB_addR hB hr6, hu, hH1, hT, hp2, hp0, Or.inl rfl⟩)
        · skip
          refine j_bipush hC (-3) dX6_route_33 (by decide) ?_
          refine j_iret hC hQ rfl rfl (Nat.le_of_ble_eq_true rfl) (Nat.le_of_ble_eq_true rfl) dX6_route_35 rfl ?_
          first | exact cw_o (T := T) (by unfold oRoute; rw [if_pos (Or.inl (jb0 c_4))]) (CW.mk hCI) | exact cw_o (T := T) (by unfold oRoute; rw [if_pos (Or.inr (Or.inl (jb0 c_11)))]) (CW.mk hCI) | exact cw_o (T := T) (by unfold oRoute; rw [if_pos (Or.inr (Or.inr (Int32.not_le.mp c_16)))]) (CW.mk hCI) | exact cw_o (T := T) (by unfold oRoute; rw [if_neg (fun q => q.elim (fun w => w (jb1 c_4)) (fun w => w.elim (fun w => w (jb1 c_11)) (fun w => Int32.not_lt.mpr c_16 w))), if_neg (fun q => c_30 (by rw [hg2]; exact (nI_ltI (b := 6) (by omega) (by omega)).mpr q))]) (CW.mk hCI) | exact cw_o (T := oPush T (sRs T.1 (bRs T.1 ++ [(x, y)]))) (by unfold oRoute; rw [if_neg (fun q => q.elim (fun w => w (jb1 c_4)) (fun w => w.elim (fun w => w (jb1 c_11)) (fun w => Int32.not_lt.mpr c_16 w))), if_pos hr6]; exact congrArg (fun z => (z, _)) (show nI (bRs T.1).length = In 4 + 1 - 1 by rw [hg2]; exact jaddsub.symm)) (CW.mk ⟨isB_addR hB hr6, hu, hH1, hT, hp2, hp0, Or.inl rfl⟩)
      · skip
        refine j_iconst hC (-1) dX6_route_19 (by decide) ?_
        refine j_iret hC hQ rfl rfl (Nat.le_of_ble_eq_true rfl) (Nat.le_of_ble_eq_true rfl) dX6_route_20 rfl ?_
        first | exact cw_o (T := T) (by unfold oRoute; rw [if_pos (Or.inl (jb0 c_4))]) (CW.mk hCI) | exact cw_o (T := T) (by unfold oRoute; rw [if_pos (Or.inr (Or.inl (jb0 c_11)))]) (CW.mk hCI) | exact cw_o (T := T) (by unfold oRoute; rw [if_pos (Or.inr (Or.inr (Int32.not_le.mp c_16)))]) (CW.mk hCI) | exact cw_o (T := T) (by unfold oRoute; rw [if_neg (fun q => q.elim (fun w => w (jb1 c_4)) (fun w => w.elim (fun w => w (jb1 c_11)) (fun w => Int32.not_lt.mpr c_16 w))), if_neg (fun q => c_30 (by rw [hg2]; exact (nI_ltI (b := 6) (by omega) (by omega)).mpr q))]) (CW.mk hCI) | exact cw_o (T := oPush T (sRs T.1 (bRs T.1 ++ [(x, y)]))) (by unfold oRoute; rw [if_neg (fun q => q.elim (fun w => w (jb1 c_4)) (fun w => w.elim (fun w => w (jb1 c_11)) (fun w => Int32.not_lt.mpr c_16 w))), if_pos hr6]; exact congrArg (fun z => (z, _)) (show nI (bRs T.1).length = In 4 + 1 - 1 by rw [hg2]; exact jaddsub.symm)) (CW.mk ⟨isB_addR hB hr6, hu, hH1, hT, hp2, hp0, Or.inl rfl⟩)
set_option maxHeartbeats 1000000 in
set_option maxRecDepth 100000 in
theorem c_X6_maintain (g : jG) (a : Nat) (T : St3) (b : List va_W) (x y : Int32) (h : CW g a T b) (hy : y = 0 ∨ y = 1) : Con g yX6_maintain cX6_maintain 5 (some .int) 7 144 15 125 [.ref a, .int x, .int y] b (fun rr bb => rr = some (.int (oMaintain T x y).1) ∧ CW g a (oMaintain T x y).2 bb) := by
  obtain ⟨dt, dn, du, dh, dr, dp, It, ft, In, An, Xn, Iu, Au, Xu, Ih, K, Ar, Ip, Ap, rfl, hCI⟩ := h
  obtain ⟨hB, hu, hH, hT, hp2, hp0, hpl⟩ := id hCI
  obtain ⟨⟨hg1, hg2, hg3, hg4⟩, hb2, hb3, hb5, hb6, hb7, hb8, hb9⟩ := id hB
  have hg1 : bok In Xn (bLs T.1).length := hg1
  have hg2 : In 4 = nI (bRs T.1).length := hg2
  have hb5 : In 5 = bNeed T.1 := hb5
  have hk10 : (bLs T.1).length ≤ 10 := Nat.le_trans hg1.2.1 hg1.2.2
  refine Con.of (own := RX6) (lv := [(0, .ref a), (1, .int x), (2, .int y)]) (by decide) rfl (Nat.le_of_ble_eq_true rfl) rfl ?_
  intro E hC hQ hN
  refine j_aload_n hC dX6_maintain_0 rfl rfl ?_
  refine j_get hC uX6 0 0 1 rfl rfl k143 rfl dX6_maintain_1 ?_
  refine j_iload_n hC dX6_maintain_4 rfl rfl ?_
  refine j_callVR hC [2] (c_X0_find g _ _ _ _ _) mX0_find k365 rfl rfl rfl rfl rfl ⟨(Nat.le_of_ble_eq_true rfl), (Nat.le_of_ble_eq_true rfl)⟩ (Nat.le_of_ble_eq_true rfl) ⟨(Nat.le_of_ble_eq_true rfl), (Nat.le_of_ble_eq_true rfl)⟩ dX6_maintain_5 ?_
  dsimp only [jrepl, List.set, jstk]
  by_cases hin : hasL In x
  · skip
    obtain ⟨j, hj, hx⟩ := hasL_nat hg1 hin
    have hjX : j < Xn.length := by have := hg1.2; omega
    have hlx : hLX x (bLs T.1).length := hLX_of (by omega) hj hx
    have hcl : x.toNatClampNeg = j := by rw [hx, nI_cl (by omega)]
    have hlg : lg T.1 x = jL Xn j := lg_isB hB hj hx
    rw [if_pos hin, show va_rf (lrf Xn x.toNatClampNeg) = .ref (jAd Xn j) by rw [hcl, lrf_get hjX]; rfl]
    refine j_astore_n hC dX6_maintain_8 rfl rfl rfl rfl ?_
    refine j_aload_n hC dX6_maintain_9 rfl rfl ?_
    refine j_ifnonnull hC dX6_maintain_10 (tgt := 15) (by decide) ?_
    refine j_aload_n hC dX6_maintain_15 rfl rfl ?_
    refine j_callV hC [0, 1, 2, 3, 4, 5, 6, 7, 8, 9] (c_X6_remember g _ _ _ _ _ _ _ _ _ _ _ _ _ _ _ _ _ _ _ _ T.1 T.2.1 hB hH) mX6_remember k219 rfl rfl rfl rfl rfl ⟨(Nat.le_of_ble_eq_true rfl), (Nat.le_of_ble_eq_true rfl)⟩ (Nat.le_of_ble_eq_true rfl) ⟨(Nat.le_of_ble_eq_true rfl), (Nat.le_of_ble_eq_true rfl)⟩ dX6_maintain_16 (fun r_16 b_16 hp_16 _ => ?_)
    obtain ⟨rfl, Ih1, K1, rfl, hH1⟩ := hp_16
    dsimp only [jrepl, List.set, jstk]
    refine j_focus j 3 (jX_get (X := Xn) hjX) rfl ?_
    dsimp only [List.set, List.cons_append, List.nil_append]
    refine j_aload_n hC dX6_maintain_19 rfl rfl ?_
    refine j_get hC uX2 10 0 4 rfl rfl k260 rfl dX6_maintain_20 ?_
    refine j_if_eq hC dX6_maintain_23 (tgt := 30) (by decide) (fun c_23 => ?_) (fun c_23 => ?_)
    · skip
      refine j_iconst hC (0) dX6_maintain_30 (by decide) ?_
      refine j_istore hC dX6_maintain_31 rfl rfl rfl (fun v_31 e_31 => ?_)
      refine j_aload_n hC dX6_maintain_33 rfl rfl ?_
      refine j_iload_n hC dX6_maintain_34 rfl rfl ?_
      refine j_put_2_4 (bi := 10) hC rfl k260 (by first | exact Or.inl rfl | exact Or.inr rfl | assumption | (subst_vars; first | exact Or.inl rfl | exact Or.inr rfl | assumption)) dX6_maintain_35 ?_
      dsimp only [List.set]
      refine j_unfocus j 3 (jX_get (X := Xn) hjX) rfl rfl rfl ?_
      dsimp only [List.set, List.dropLast]
      rw [lrf_set (L := upd (jL Xn j) 4 y) hjX]
      refine j_iload hC dX6_maintain_38 rfl ?_
      refine j_iret hC hQ rfl rfl (Nat.le_of_ble_eq_true rfl) (Nat.le_of_ble_eq_true rfl) dX6_maintain_40 rfl ?_
      first | exact cw_o (T := T) (by unfold oMaintain; rw [if_neg (fun q => hin (hLX_hasL hg1 q))]) (CW.mk hCI) | exact cw_o (T := oPush T (sLs T.1 ((bLs T.1).set j (upd (jL Xn j) 4 y)))) (by unfold oMaintain; rw [if_pos hlx, hcl, hlg, e_31, if_pos c_23]) (CW.mk ⟨isB_set hB hj hy, hu, hH1, hT, hp2, hp0, Or.inl rfl⟩) | exact cw_o (T := oPush T (sLs T.1 ((bLs T.1).set j (upd (jL Xn j) 4 y)))) (by unfold oMaintain; rw [if_pos hlx, hcl, hlg, e_31, if_neg c_23]) (CW.mk ⟨isB_set hB hj hy, hu, hH1, hT, hp2, hp0, Or.inl rfl⟩)
    · skip
      refine j_iconst hC (1) dX6_maintain_26 (by decide) ?_
      refine j_goto hC dX6_maintain_27 (tgt := 31) (by decide) ?_
      refine j_istore hC dX6_maintain_31 rfl rfl rfl (fun v_31 e_31 => ?_)
      refine j_aload_n hC dX6_maintain_33 rfl rfl ?_
      refine j_iload_n hC dX6_maintain_34 rfl rfl ?_
      refine j_put_2_4 (bi := 10) hC rfl k260 (by first | exact Or.inl rfl | exact Or.inr rfl | assumption | (subst_vars; first | exact Or.inl rfl | exact Or.inr rfl | assumption)) dX6_maintain_35 ?_
      dsimp only [List.set]
      refine j_unfocus j 3 (jX_get (X := Xn) hjX) rfl rfl rfl ?_
      dsimp only [List.set, List.dropLast]
      rw [lrf_set (L := upd (jL Xn j) 4 y) hjX]
      refine j_iload hC dX6_maintain_38 rfl ?_
      refine j_iret hC hQ rfl rfl (Nat.le_of_ble_eq_true rfl) (Nat.le_of_ble_eq_true rfl) dX6_maintain_40 rfl ?_
      first | exact cw_o (T := T) (by unfold oMaintain; rw [if_neg (fun q => hin (hLX_hasL hg1 q))]) (CW.mk hCI) | exact cw_o (T := oPush T (sLs T.1 ((bLs T.1).set j (upd (jL Xn j) 4 y)))) (by unfold oMaintain; rw [if_pos hlx, hcl, hlg, e_31, if_pos c_23]) (CW.mk ⟨isB_set hB hj hy, hu, hH1, hT, hp2, hp0, Or.inl rfl⟩) | exact cw_o (T := oPush T (sLs T.1 ((bLs T.1).set j (upd (jL Xn j) 4 y)))) (by unfold oMaintain; rw [if_pos hlx, hcl, hlg, e_31, if_neg c_23]) (CW.mk ⟨isB_set hB hj hy, hu, hH1, hT, hp2, hp0, Or.inl rfl⟩)
  · skip
    rw [if_neg hin]
    refine j_astore_nN hC dX6_maintain_8 rfl rfl rfl rfl ?_
    refine j_aload_nN hC dX6_maintain_9 rfl rfl ?_
    refine j_ifnonnullN hC dX6_maintain_10 ?_
    refine j_iconst hC (-1) dX6_maintain_13 (by decide) ?_
    refine j_iret hC hQ rfl rfl (Nat.le_of_ble_eq_true rfl) (Nat.le_of_ble_eq_true rfl) dX6_maintain_14 rfl ?_
    first | exact cw_o (T := T) (by unfold oMaintain; rw [if_neg (fun q => hin (hLX_hasL hg1 q))]) (CW.mk hCI) | exact cw_o (T := oPush T (sLs T.1 ((bLs T.1).set j (upd (jL Xn j) 4 y)))) (by unfold oMaintain; rw [if_pos hlx, hcl, hlg, e_31, if_pos c_23]) (CW.mk ⟨isB_set hB hj hy, hu, hH1, hT, hp2, hp0, Or.inl rfl⟩) | exact cw_o (T := oPush T (sLs T.1 ((bLs T.1).set j (upd (jL Xn j) 4 y)))) (by unfold oMaintain; rw [if_pos hlx, hcl, hlg, e_31, if_neg c_23]) (CW.mk ⟨isB_set hB hj hy, hu, hH1, hT, hp2, hp0, Or.inl rfl⟩)
set_option maxHeartbeats 1000000 in
set_option maxRecDepth 100000 in
theorem c_X6_swap (g : jG) (a : Nat) (T : St3) (b : List va_W) (x y : Int32) (h : CW g a T b) : Con g yX6_swap cX6_swap 4 (some .int) 7 144 15 125 [.ref a, .int x, .int y] b (fun rr bb => rr = some (.int (oSwap T x y).1) ∧ CW g a (oSwap T x y).2 bb) := by
  obtain ⟨dt, dn, du, dh, dr, dp, It, ft, In, An, Xn, Iu, Au, Xu, Ih, K, Ar, Ip, Ap, rfl, hCI⟩ := h
  obtain ⟨hB, hu, hH, hT, hp2, hp0, hpl⟩ := id hCI
  obtain ⟨⟨hg1, hg2, hg3, hg4⟩, hb2, hb3, hb5, hb6, hb7, hb8, hb9⟩ := id hB
  have hg1 : bok In Xn (bLs T.1).length := hg1
  have hg2 : In 4 = nI (bRs T.1).length := hg2
  have hb5 : In 5 = bNeed T.1 := hb5
  have hk10 : (bLs T.1).length ≤ 10 := Nat.le_trans hg1.2.1 hg1.2.2
  refine Con.of (own := RX6) (lv := [(0, .ref a), (1, .int x), (2, .int y)]) (by decide) rfl (Nat.le_of_ble_eq_true rfl) rfl ?_
  intro E hC hQ hN
  refine j_aload_n hC dX6_swap_0 rfl rfl ?_
  refine j_get hC uX6 0 0 1 rfl rfl k143 rfl dX6_swap_1 ?_
  refine j_iload_n hC dX6_swap_4 rfl rfl ?_
  refine j_callVR hC [2] (c_X0_find g _ _ _ _ _) mX0_find k365 rfl rfl rfl rfl rfl ⟨(Nat.le_of_ble_eq_true rfl), (Nat.le_of_ble_eq_true rfl)⟩ (Nat.le_of_ble_eq_true rfl) ⟨(Nat.le_of_ble_eq_true rfl), (Nat.le_of_ble_eq_true rfl)⟩ dX6_swap_5 ?_
  dsimp only [jrepl, List.set, jstk]
  by_cases hin : hasL In x
  · skip
    obtain ⟨j, hj, hx⟩ := hasL_nat hg1 hin
    have hjX : j < Xn.length := by have := hg1.2; omega
    have hlx : hLX x (bLs T.1).length := hLX_of (by omega) hj hx
    have hcl : x.toNatClampNeg = j := by rw [hx, nI_cl (by omega)]
    have hlg : lg T.1 x = jL Xn j := lg_isB hB hj hx
    rw [if_pos hin, show va_rf (lrf Xn x.toNatClampNeg) = .ref (jAd Xn j) by rw [hcl, lrf_get hjX]; rfl]
    refine j_astore_n hC dX6_swap_8 rfl rfl rfl rfl ?_
    refine j_aload_n hC dX6_swap_9 rfl rfl ?_
    refine j_ifnull hC dX6_swap_10 ?_
    refine j_iload_n hC dX6_swap_13 rfl rfl ?_
    refine j_callSR hC [] (c_X6_isLamp g _) mX6_isLamp k345 rfl rfl rfl ⟨(Nat.le_of_ble_eq_true rfl), (Nat.le_of_ble_eq_true rfl)⟩ (Nat.le_of_ble_eq_true rfl) ⟨(Nat.le_of_ble_eq_true rfl), (Nat.le_of_ble_eq_true rfl)⟩ dX6_swap_14 ?_
    dsimp only [jrepl, List.set, jstk]
    refine j_if_ne hC dX6_swap_17 (tgt := 22) (by decide) (fun c_17 => ?_) (fun c_17 => ?_)
    · skip
      have hy := jb1 c_17
      refine j_aload_n hC dX6_swap_22 rfl rfl ?_
      refine j_get hC uX6 0 0 1 rfl rfl k143 rfl dX6_swap_23 ?_
      refine j_iload_n hC dX6_swap_26 rfl rfl ?_
      refine j_callVR hC [2] (c_X0_stockOf g _ _ _ _ _) mX0_stockOf k417 rfl rfl rfl rfl rfl ⟨(Nat.le_of_ble_eq_true rfl), (Nat.le_of_ble_eq_true rfl)⟩ (Nat.le_of_ble_eq_true rfl) ⟨(Nat.le_of_ble_eq_true rfl), (Nat.le_of_ble_eq_true rfl)⟩ dX6_swap_27 ?_
      dsimp only [jrepl, List.set, jstk]
      refine j_if_ne hC dX6_swap_30 (tgt := 36) (by decide) (fun c_30 => ?_) (fun c_30 => ?_)
      · skip
        refine j_aload_n hC dX6_swap_36 rfl rfl ?_
        refine j_callV hC [0, 1, 2, 3, 4, 5, 6, 7, 8, 9] (c_X6_remember g _ _ _ _ _ _ _ _ _ _ _ _ _ _ _ _ _ _ _ _ T.1 T.2.1 hB hH) mX6_remember k219 rfl rfl rfl rfl rfl ⟨(Nat.le_of_ble_eq_true rfl), (Nat.le_of_ble_eq_true rfl)⟩ (Nat.le_of_ble_eq_true rfl) ⟨(Nat.le_of_ble_eq_true rfl), (Nat.le_of_ble_eq_true rfl)⟩ dX6_swap_37 (fun r_37 b_37 hp_37 _ => ?_)
        obtain ⟨rfl, Ih1, K1, rfl, hH1⟩ := hp_37
        dsimp only [jrepl, List.set, jstk]
        refine j_aload_n hC dX6_swap_40 rfl rfl ?_
        refine j_iload_n hC dX6_swap_41 rfl rfl ?_
        refine j_focus j 3 (jX_get (X := Xn) hjX) rfl ?_
        dsimp only [List.set, List.cons_append, List.nil_append]
        refine j_callVR hC [10] (c_X2_putLamp g _ _ _) mX2_putLamp k579 rfl rfl rfl rfl rfl ⟨(Nat.le_of_ble_eq_true rfl), (Nat.le_of_ble_eq_true rfl)⟩ (Nat.le_of_ble_eq_true rfl) ⟨(Nat.le_of_ble_eq_true rfl), (Nat.le_of_ble_eq_true rfl)⟩ dX6_swap_42 ?_
        dsimp only [jrepl, List.set, jstk]
        refine j_unfocus j 3 (jX_get (X := Xn) hjX) rfl rfl rfl ?_
        dsimp only [List.set, List.dropLast]
        rw [lrf_set (L := putL (jL Xn j) y) hjX]
        refine j_aload_n hC dX6_swap_45 rfl rfl ?_
        refine j_get hC uX6 0 0 1 rfl rfl k143 rfl dX6_swap_46 ?_
        refine j_iload_n hC dX6_swap_49 rfl rfl ?_
        refine j_iconst hC (-1) dX6_swap_50 (by decide) ?_
        refine j_callVR hC [2] (c_X0_changeStock g _ _ _ _ _ _) mX0_changeStock k589 rfl rfl rfl rfl rfl ⟨(Nat.le_of_ble_eq_true rfl), (Nat.le_of_ble_eq_true rfl)⟩ (Nat.le_of_ble_eq_true rfl) ⟨(Nat.le_of_ble_eq_true rfl), (Nat.le_of_ble_eq_true rfl)⟩ dX6_swap_51 ?_
        dsimp only [jrepl, List.set, jstk]
        refine j_aload_n hC dX6_swap_54 rfl rfl ?_
        refine j_get hC uX6 0 0 1 rfl rfl k143 rfl dX6_swap_55 ?_
        refine j_iload_n hC dX6_swap_58 rfl rfl ?_
        refine j_callVR hC [2] (c_X0_stockOf g _ _ _ _ _) mX0_stockOf k417 rfl rfl rfl rfl rfl ⟨(Nat.le_of_ble_eq_true rfl), (Nat.le_of_ble_eq_true rfl)⟩ (Nat.le_of_ble_eq_true rfl) ⟨(Nat.le_of_ble_eq_true rfl), (Nat.le_of_ble_eq_true rfl)⟩ dX6_swap_59 ?_
        dsimp only [jrepl, List.set, jstk]
        refine j_iret hC hQ rfl rfl (Nat.le_of_ble_eq_true rfl) (Nat.le_of_ble_eq_true rfl) dX6_swap_62 rfl ?_
        first | exact cw_o (T := T) (by unfold oSwap; rw [if_pos (Or.inl (fun q => hin (hLX_hasL hg1 q)))]) (CW.mk hCI) | exact cw_o (T := T) (by unfold oSwap; rw [if_pos (Or.inr (jb0 c_17))]) (CW.mk hCI) | exact cw_o (T := T) (by unfold oSwap; rw [if_neg (fun q => q.elim (fun w => w hlx) (fun w => w hy)), if_pos (by rw [← isB_stock hB hy]; exact c_30)]) (CW.mk hCI) | exact cw_o (T := oPush T (sSt (sLs T.1 ((bLs T.1).set j (putL (jL Xn j) y))) (stTo (bSt T.1) y (stk (bSt T.1) y - 1)))) (by unfold oSwap; rw [if_neg (fun q => q.elim (fun w => w hlx) (fun w => w hy)), if_neg (by rw [← isB_stock hB hy]; exact c_30), hcl, hlg]; exact congrArg (fun z => (z, _)) (show stk (bSt T.1) y - 1 = stockOf (stockTo An y (-1)) y by rw [← isB_stock hB hy]; exact stock_after hy)) (CW.mk ⟨isB_stockTo (isB_set hB hj (hg4 j hj)) hy jsub1, hu, hH1, hT, hp2, hp0, Or.inl rfl⟩)
      · skip
        refine j_bipush hC (-2) dX6_swap_33 (by decide) ?_
        refine j_iret hC hQ rfl rfl (Nat.le_of_ble_eq_true rfl) (Nat.le_of_ble_eq_true rfl) dX6_swap_35 rfl ?_
        first | exact cw_o (T := T) (by unfold oSwap; rw [if_pos (Or.inl (fun q => hin (hLX_hasL hg1 q)))]) (CW.mk hCI) | exact cw_o (T := T) (by unfold oSwap; rw [if_pos (Or.inr (jb0 c_17))]) (CW.mk hCI) | exact cw_o (T := T) (by unfold oSwap; rw [if_neg (fun q => q.elim (fun w => w hlx) (fun w => w hy)), if_pos (by rw [← isB_stock hB hy]; exact c_30)]) (CW.mk hCI) | exact cw_o (T := oPush T (sSt (sLs T.1 ((bLs T.1).set j (putL (jL Xn j) y))) (stTo (bSt T.1) y (stk (bSt T.1) y - 1)))) (by unfold oSwap; rw [if_neg (fun q => q.elim (fun w => w hlx) (fun w => w hy)), if_neg (by rw [← isB_stock hB hy]; exact c_30), hcl, hlg]; exact congrArg (fun z => (z, _)) (show stk (bSt T.1) y - 1 = stockOf (stockTo An y (-1)) y by rw [← isB_stock hB hy]; exact stock_after hy)) (CW.mk ⟨isB_stockTo (isB_set hB hj (hg4 j hj)) hy jsub1, hu, hH1, hT, hp2, hp0, Or.inl rfl⟩)
    · skip
      refine j_iconst hC (-1) dX6_swap_20 (by decide) ?_
      refine j_iret hC hQ rfl rfl (Nat.le_of_ble_eq_true rfl) (Nat.le_of_ble_eq_true rfl) dX6_swap_21 rfl ?_
      first | exact cw_o (T := T) (by unfold oSwap; rw [if_pos (Or.inl (fun q => hin (hLX_hasL hg1 q)))]) (CW.mk hCI) | exact cw_o (T := T) (by unfold oSwap; rw [if_pos (Or.inr (jb0 c_17))]) (CW.mk hCI) | exact cw_o (T := T) (by unfold oSwap; rw [if_neg (fun q => q.elim (fun w => w hlx) (fun w => w hy)), if_pos (by rw [← isB_stock hB hy]; exact c_30)]) (CW.mk hCI) | exact cw_o (T := oPush T (sSt (sLs T.1 ((bLs T.1).set j (putL (jL Xn j) y))) (stTo (bSt T.1) y (stk (bSt T.1) y - 1)))) (by unfold oSwap; rw [if_neg (fun q => q.elim (fun w => w hlx) (fun w => w hy)), if_neg (by rw [← isB_stock hB hy]; exact c_30), hcl, hlg]; exact congrArg (fun z => (z, _)) (show stk (bSt T.1) y - 1 = stockOf (stockTo An y (-1)) y by rw [← isB_stock hB hy]; exact stock_after hy)) (CW.mk ⟨isB_stockTo (isB_set hB hj (hg4 j hj)) hy jsub1, hu, hH1, hT, hp2, hp0, Or.inl rfl⟩)
  · skip
    rw [if_neg hin]
    refine j_astore_nN hC dX6_swap_8 rfl rfl rfl rfl ?_
    refine j_aload_nN hC dX6_swap_9 rfl rfl ?_
    refine j_ifnullN hC dX6_swap_10 (tgt := 20) (by decide) ?_
    refine j_iconst hC (-1) dX6_swap_20 (by decide) ?_
    refine j_iret hC hQ rfl rfl (Nat.le_of_ble_eq_true rfl) (Nat.le_of_ble_eq_true rfl) dX6_swap_21 rfl ?_
    first | exact cw_o (T := T) (by unfold oSwap; rw [if_pos (Or.inl (fun q => hin (hLX_hasL hg1 q)))]) (CW.mk hCI) | exact cw_o (T := T) (by unfold oSwap; rw [if_pos (Or.inr (jb0 c_17))]) (CW.mk hCI) | exact cw_o (T := T) (by unfold oSwap; rw [if_neg (fun q => q.elim (fun w => w hlx) (fun w => w hy)), if_pos (by rw [← isB_stock hB hy]; exact c_30)]) (CW.mk hCI) | exact cw_o (T := oPush T (sSt (sLs T.1 ((bLs T.1).set j (putL (jL Xn j) y))) (stTo (bSt T.1) y (stk (bSt T.1) y - 1)))) (by unfold oSwap; rw [if_neg (fun q => q.elim (fun w => w hlx) (fun w => w hy)), if_neg (by rw [← isB_stock hB hy]; exact c_30), hcl, hlg]; exact congrArg (fun z => (z, _)) (show stk (bSt T.1) y - 1 = stockOf (stockTo An y (-1)) y by rw [← isB_stock hB hy]; exact stock_after hy)) (CW.mk ⟨isB_stockTo (isB_set hB hj (hg4 j hj)) hy jsub1, hu, hH1, hT, hp2, hp0, Or.inl rfl⟩)
set_option maxHeartbeats 1000000 in
set_option maxRecDepth 100000 in
theorem c_X6_add (g : jG) (a : Nat) (T : St3) (b : List va_W) (p c x l : Int32) (h : CW g a T b) : Con g yX6_add cX6_add 6 (some .int) 7 144 16 134 [.ref a, .int p, .int c, .int x, .int l] b (fun rr bb => rr = some (.int (oAdd T p c x l).1) ∧ CW g a (oAdd T p c x l).2 bb) := by
  obtain ⟨dt, dn, du, dh, dr, dp, It, ft, In, An, Xn, Iu, Au, Xu, Ih, K, Ar, Ip, Ap, rfl, hCI⟩ := h
  obtain ⟨hB, hu, hH, hT, hp2, hp0, hpl⟩ := id hCI
  obtain ⟨⟨hg1, hg2, hg3, hg4⟩, hb2, hb3, hb5, hb6, hb7, hb8, hb9⟩ := id hB
  have hg1 : bok In Xn (bLs T.1).length := hg1
  have hg2 : In 4 = nI (bRs T.1).length := hg2
  have hb5 : In 5 = bNeed T.1 := hb5
  have hk10 : (bLs T.1).length ≤ 10 := Nat.le_trans hg1.2.1 hg1.2.2
  refine Con.of (own := RX6) (lv := [(0, .ref a), (1, .int p), (2, .int c), (3, .int x), (4, .int l)]) (by decide) rfl (Nat.le_of_ble_eq_true rfl) rfl ?_
  intro E hC hQ hN
  refine j_iload_n hC dX6_add_0 rfl rfl ?_
  refine j_callSR hC [] (c_X6_isPlace g _) mX6_isPlace k342 rfl rfl rfl ⟨(Nat.le_of_ble_eq_true rfl), (Nat.le_of_ble_eq_true rfl)⟩ (Nat.le_of_ble_eq_true rfl) ⟨(Nat.le_of_ble_eq_true rfl), (Nat.le_of_ble_eq_true rfl)⟩ dX6_add_1 ?_
  dsimp only [jrepl, List.set, jstk]
  refine j_if_eq hC dX6_add_4 (tgt := 33) (by decide) (fun c_4 => ?_) (fun c_4 => ?_)
  · skip
    refine j_iconst hC (-1) dX6_add_33 (by decide) ?_
    refine j_iret hC hQ rfl rfl (Nat.le_of_ble_eq_true rfl) (Nat.le_of_ble_eq_true rfl) dX6_add_34 rfl ?_
    first | exact cw_o (T := T) (by unfold oAdd; rw [if_pos (Or.inl (jb0 c_4))]) (CW.mk hCI) | exact cw_o (T := T) (by unfold oAdd; rw [if_pos (Or.inr (Or.inl c_8))]) (CW.mk hCI) | exact cw_o (T := T) (by unfold oAdd; rw [if_pos (Or.inr (Or.inr (Or.inl c_13)))]) (CW.mk hCI) | exact cw_o (T := T) (by unfold oAdd; rw [if_pos (Or.inr (Or.inr (Or.inr (Or.inl c_17))))]) (CW.mk hCI) | exact cw_o (T := T) (by unfold oAdd; rw [if_pos (Or.inr (Or.inr (Or.inr (Or.inr (Or.inl c_22)))))]) (CW.mk hCI) | exact cw_o (T := T) (by unfold oAdd; rw [if_pos (Or.inr (Or.inr (Or.inr (Or.inr (Or.inr (jb0 c_30))))))]) (CW.mk hCI) | exact cw_o (T := T) (by unfold oAdd; rw [if_neg (fun q => q.elim (fun w => w (jb1 c_4)) (fun w => w.elim c_8 (fun w => w.elim c_13 (fun w => w.elim c_17 (fun w => w.elim c_22 (fun w => w (jb1 c_30))))))), if_neg (fun q => c_44 (by rw [hg1.1]; exact (nI_ltI (b := 10) (by omega) (by omega)).mpr q))]) (CW.mk hCI) | exact cw_o (T := oPush T (sLs T.1 (bLs T.1 ++ [newL p c x l 0]))) (by unfold oAdd; rw [if_neg (fun q => q.elim (fun w => w (jb1 c_4)) (fun w => w.elim c_8 (fun w => w.elim c_13 (fun w => w.elim c_17 (fun w => w.elim c_22 (fun w => w (jb1 c_30))))))), if_pos ha10]; exact congrArg (fun z => (z, _)) (show nI (bLs T.1).length = In 1 + 1 - 1 by rw [hg1.1]; exact jaddsub.symm)) (CW.mk ⟨isB_addL hB hY (Or.inl rfl), hu, hH1, hT, hp2, hp0, Or.inl rfl⟩)
  · skip
    refine j_iload_n hC dX6_add_7 rfl rfl ?_
    refine j_if_lt hC dX6_add_8 (tgt := 33) (by decide) (fun c_8 => ?_) (fun c_8 => ?_)
    · skip
      refine j_iconst hC (-1) dX6_add_33 (by decide) ?_
      refine j_iret hC hQ rfl rfl (Nat.le_of_ble_eq_true rfl) (Nat.le_of_ble_eq_true rfl) dX6_add_34 rfl ?_
      first | exact cw_o (T := T) (by unfold oAdd; rw [if_pos (Or.inl (jb0 c_4))]) (CW.mk hCI) | exact cw_o (T := T) (by unfold oAdd; rw [if_pos (Or.inr (Or.inl c_8))]) (CW.mk hCI) | exact cw_o (T := T) (by unfold oAdd; rw [if_pos (Or.inr (Or.inr (Or.inl c_13)))]) (CW.mk hCI) | exact cw_o (T := T) (by unfold oAdd; rw [if_pos (Or.inr (Or.inr (Or.inr (Or.inl c_17))))]) (CW.mk hCI) | exact cw_o (T := T) (by unfold oAdd; rw [if_pos (Or.inr (Or.inr (Or.inr (Or.inr (Or.inl c_22)))))]) (CW.mk hCI) | exact cw_o (T := T) (by unfold oAdd; rw [if_pos (Or.inr (Or.inr (Or.inr (Or.inr (Or.inr (jb0 c_30))))))]) (CW.mk hCI) | exact cw_o (T := T) (by unfold oAdd; rw [if_neg (fun q => q.elim (fun w => w (jb1 c_4)) (fun w => w.elim c_8 (fun w => w.elim c_13 (fun w => w.elim c_17 (fun w => w.elim c_22 (fun w => w (jb1 c_30))))))), if_neg (fun q => c_44 (by rw [hg1.1]; exact (nI_ltI (b := 10) (by omega) (by omega)).mpr q))]) (CW.mk hCI) | exact cw_o (T := oPush T (sLs T.1 (bLs T.1 ++ [newL p c x l 0]))) (by unfold oAdd; rw [if_neg (fun q => q.elim (fun w => w (jb1 c_4)) (fun w => w.elim c_8 (fun w => w.elim c_13 (fun w => w.elim c_17 (fun w => w.elim c_22 (fun w => w (jb1 c_30))))))), if_pos ha10]; exact congrArg (fun z => (z, _)) (show nI (bLs T.1).length = In 1 + 1 - 1 by rw [hg1.1]; exact jaddsub.symm)) (CW.mk ⟨isB_addL hB hY (Or.inl rfl), hu, hH1, hT, hp2, hp0, Or.inl rfl⟩)
    · skip
      refine j_iload_n hC dX6_add_11 rfl rfl ?_
      refine j_iconst hC (3) dX6_add_12 (by decide) ?_
      refine j_icmp_gt hC dX6_add_13 (tgt := 33) (by decide) (fun c_13 => ?_) (fun c_13 => ?_)
      · skip
        refine j_iconst hC (-1) dX6_add_33 (by decide) ?_
        refine j_iret hC hQ rfl rfl (Nat.le_of_ble_eq_true rfl) (Nat.le_of_ble_eq_true rfl) dX6_add_34 rfl ?_
        first | exact cw_o (T := T) (by unfold oAdd; rw [if_pos (Or.inl (jb0 c_4))]) (CW.mk hCI) | exact cw_o (T := T) (by unfold oAdd; rw [if_pos (Or.inr (Or.inl c_8))]) (CW.mk hCI) | exact cw_o (T := T) (by unfold oAdd; rw [if_pos (Or.inr (Or.inr (Or.inl c_13)))]) (CW.mk hCI) | exact cw_o (T := T) (by unfold oAdd; rw [if_pos (Or.inr (Or.inr (Or.inr (Or.inl c_17))))]) (CW.mk hCI) | exact cw_o (T := T) (by unfold oAdd; rw [if_pos (Or.inr (Or.inr (Or.inr (Or.inr (Or.inl c_22)))))]) (CW.mk hCI) | exact cw_o (T := T) (by unfold oAdd; rw [if_pos (Or.inr (Or.inr (Or.inr (Or.inr (Or.inr (jb0 c_30))))))]) (CW.mk hCI) | exact cw_o (T := T) (by unfold oAdd; rw [if_neg (fun q => q.elim (fun w => w (jb1 c_4)) (fun w => w.elim c_8 (fun w => w.elim c_13 (fun w => w.elim c_17 (fun w => w.elim c_22 (fun w => w (jb1 c_30))))))), if_neg (fun q => c_44 (by rw [hg1.1]; exact (nI_ltI (b := 10) (by omega) (by omega)).mpr q))]) (CW.mk hCI) | exact cw_o (T := oPush T (sLs T.1 (bLs T.1 ++ [newL p c x l 0]))) (by unfold oAdd; rw [if_neg (fun q => q.elim (fun w => w (jb1 c_4)) (fun w => w.elim c_8 (fun w => w.elim c_13 (fun w => w.elim c_17 (fun w => w.elim c_22 (fun w => w (jb1 c_30))))))), if_pos ha10]; exact congrArg (fun z => (z, _)) (show nI (bLs T.1).length = In 1 + 1 - 1 by rw [hg1.1]; exact jaddsub.symm)) (CW.mk ⟨isB_addL hB hY (Or.inl rfl), hu, hH1, hT, hp2, hp0, Or.inl rfl⟩)
      · skip
        refine j_iload_n hC dX6_add_16 rfl rfl ?_
        refine j_if_lt hC dX6_add_17 (tgt := 33) (by decide) (fun c_17 => ?_) (fun c_17 => ?_)
        · skip
          refine j_iconst hC (-1) dX6_add_33 (by decide) ?_
          refine j_iret hC hQ rfl rfl (Nat.le_of_ble_eq_true rfl) (Nat.le_of_ble_eq_true rfl) dX6_add_34 rfl ?_
          first | exact cw_o (T := T) (by unfold oAdd; rw [if_pos (Or.inl (jb0 c_4))]) (CW.mk hCI) | exact cw_o (T := T) (by unfold oAdd; rw [if_pos (Or.inr (Or.inl c_8))]) (CW.mk hCI) | exact cw_o (T := T) (by unfold oAdd; rw [if_pos (Or.inr (Or.inr (Or.inl c_13)))]) (CW.mk hCI) | exact cw_o (T := T) (by unfold oAdd; rw [if_pos (Or.inr (Or.inr (Or.inr (Or.inl c_17))))]) (CW.mk hCI) | exact cw_o (T := T) (by unfold oAdd; rw [if_pos (Or.inr (Or.inr (Or.inr (Or.inr (Or.inl c_22)))))]) (CW.mk hCI) | exact cw_o (T := T) (by unfold oAdd; rw [if_pos (Or.inr (Or.inr (Or.inr (Or.inr (Or.inr (jb0 c_30))))))]) (CW.mk hCI) | exact cw_o (T := T) (by unfold oAdd; rw [if_neg (fun q => q.elim (fun w => w (jb1 c_4)) (fun w => w.elim c_8 (fun w => w.elim c_13 (fun w => w.elim c_17 (fun w => w.elim c_22 (fun w => w (jb1 c_30))))))), if_neg (fun q => c_44 (by rw [hg1.1]; exact (nI_ltI (b := 10) (by omega) (by omega)).mpr q))]) (CW.mk hCI) | exact cw_o (T := oPush T (sLs T.1 (bLs T.1 ++ [newL p c x l 0]))) (by unfold oAdd; rw [if_neg (fun q => q.elim (fun w => w (jb1 c_4)) (fun w => w.elim c_8 (fun w => w.elim c_13 (fun w => w.elim c_17 (fun w => w.elim c_22 (fun w => w (jb1 c_30))))))), if_pos ha10]; exact congrArg (fun z => (z, _)) (show nI (bLs T.1).length = In 1 + 1 - 1 by rw [hg1.1]; exact jaddsub.symm)) (CW.mk ⟨isB_addL hB hY (Or.inl rfl), hu, hH1, hT, hp2, hp0, Or.inl rfl⟩)
        · skip
          refine j_iload_n hC dX6_add_20 rfl rfl ?_
          refine j_iconst hC (3) dX6_add_21 (by decide) ?_
          refine j_icmp_gt hC dX6_add_22 (tgt := 33) (by decide) (fun c_22 => ?_) (fun c_22 => ?_)
          · skip
            refine j_iconst hC (-1) dX6_add_33 (by decide) ?_
            refine j_iret hC hQ rfl rfl (Nat.le_of_ble_eq_true rfl) (Nat.le_of_ble_eq_true rfl) dX6_add_34 rfl ?_
            first | exact cw_o (T := T) (by unfold oAdd; rw [if_pos (Or.inl (jb0 c_4))]) (CW.mk hCI) | exact cw_o (T := T) (by unfold oAdd; rw [if_pos (Or.inr (Or.inl c_8))]) (CW.mk hCI) | exact cw_o (T := T) (by unfold oAdd; rw [if_pos (Or.inr (Or.inr (Or.inl c_13)))]) (CW.mk hCI) | exact cw_o (T := T) (by unfold oAdd; rw [if_pos (Or.inr (Or.inr (Or.inr (Or.inl c_17))))]) (CW.mk hCI) | exact cw_o (T := T) (by unfold oAdd; rw [if_pos (Or.inr (Or.inr (Or.inr (Or.inr (Or.inl c_22)))))]) (CW.mk hCI) | exact cw_o (T := T) (by unfold oAdd; rw [if_pos (Or.inr (Or.inr (Or.inr (Or.inr (Or.inr (jb0 c_30))))))]) (CW.mk hCI) | exact cw_o (T := T) (by unfold oAdd; rw [if_neg (fun q => q.elim (fun w => w (jb1 c_4)) (fun w => w.elim c_8 (fun w => w.elim c_13 (fun w => w.elim c_17 (fun w => w.elim c_22 (fun w => w (jb1 c_30))))))), if_neg (fun q => c_44 (by rw [hg1.1]; exact (nI_ltI (b := 10) (by omega) (by omega)).mpr q))]) (CW.mk hCI) | exact cw_o (T := oPush T (sLs T.1 (bLs T.1 ++ [newL p c x l 0]))) (by unfold oAdd; rw [if_neg (fun q => q.elim (fun w => w (jb1 c_4)) (fun w => w.elim c_8 (fun w => w.elim c_13 (fun w => w.elim c_17 (fun w => w.elim c_22 (fun w => w (jb1 c_30))))))), if_pos ha10]; exact congrArg (fun z => (z, _)) (show nI (bLs T.1).length = In 1 + 1 - 1 by rw [hg1.1]; exact jaddsub.symm)) (CW.mk ⟨isB_addL hB hY (Or.inl rfl), hu, hH1, hT, hp2, hp0, Or.inl rfl⟩)
          · skip
            refine j_iload hC dX6_add_25 rfl ?_
            refine j_callSR hC [] (c_X6_isLamp g _) mX6_isLamp k345 rfl rfl rfl ⟨(Nat.le_of_ble_eq_true rfl), (Nat.le_of_ble_eq_true rfl)⟩ (Nat.le_of_ble_eq_true rfl) ⟨(Nat.le_of_ble_eq_true rfl), (Nat.le_of_ble_eq_true rfl)⟩ dX6_add_27 ?_
            dsimp only [jrepl, List.set, jstk]
            refine j_if_ne hC dX6_add_30 (tgt := 35) (by decide) (fun c_30 => ?_) (fun c_30 => ?_)
            · skip
              refine j_aload_n hC dX6_add_35 rfl rfl ?_
              refine j_get hC uX6 0 0 1 rfl rfl k143 rfl dX6_add_36 ?_
              refine j_get hC uX0 2 0 1 rfl rfl k52 rfl dX6_add_39 ?_
              refine j_bipush hC (10) dX6_add_42 (by decide) ?_
              refine j_icmp_lt hC dX6_add_44 (tgt := 50) (by decide) (fun c_44 => ?_) (fun c_44 => ?_)
              · skip
                refine j_aload_n hC dX6_add_50 rfl rfl ?_
                have ha10 : (bLs T.1).length < 10 := jlt (show (10 : Int32) = nI 10 from rfl) hg1.1 (by omega) (by omega) (Int32.not_le.mpr c_44)
                refine j_callV hC [0, 1, 2, 3, 4, 5, 6, 7, 8, 9] (c_X6_remember g _ _ _ _ _ _ _ _ _ _ _ _ _ _ _ _ _ _ _ _ T.1 T.2.1 hB hH) mX6_remember k219 rfl rfl rfl rfl rfl ⟨(Nat.le_of_ble_eq_true rfl), (Nat.le_of_ble_eq_true rfl)⟩ (Nat.le_of_ble_eq_true rfl) ⟨(Nat.le_of_ble_eq_true rfl), (Nat.le_of_ble_eq_true rfl)⟩ dX6_add_51 (fun r_51 b_51 hp_51 _ => ?_)
                obtain ⟨rfl, Ih1, K1, rfl, hH1⟩ := hp_51
                dsimp only [jrepl, List.set, jstk]
                refine j_aload_n hC dX6_add_54 rfl rfl ?_
                refine j_get hC uX6 0 0 1 rfl rfl k143 rfl dX6_add_55 ?_
                refine j_callV hC [2, 3] (c_X0_grow g _ _ _ _ (bLs T.1).length hg1 ha10) mX0_grow k348 rfl rfl rfl rfl rfl ⟨(Nat.le_of_ble_eq_true rfl), (Nat.le_of_ble_eq_true rfl)⟩ (Nat.le_of_ble_eq_true rfl) ⟨(Nat.le_of_ble_eq_true rfl), (Nat.le_of_ble_eq_true rfl)⟩ dX6_add_58 (fun r_58 b_58 hp_58 _ => ?_)
                obtain ⟨Y, rfl, rfl, hY⟩ := hp_58
                dsimp only [jrepl, List.set, jstk]
                refine j_astore hC dX6_add_61 rfl rfl rfl ?_
                refine j_aload hC dX6_add_63 rfl ?_
                refine j_ifnull hC dX6_add_65 ?_
                refine j_aload hC dX6_add_68 rfl ?_
                refine j_iload_n hC dX6_add_70 rfl rfl ?_
                refine j_iload_n hC dX6_add_71 rfl rfl ?_
                refine j_iload_n hC dX6_add_72 rfl rfl ?_
                refine j_iload hC dX6_add_73 rfl ?_
                refine j_iconst hC (0) dX6_add_75 (by decide) ?_
                refine j_focus (bLs T.1).length 3 (jX_get (X := Y) hY.1) rfl ?_
                dsimp only [List.set, List.cons_append, List.nil_append]
                refine j_callVR hC [10] (c_X2_begin g _ _ _ _ _ _ _ (Or.inl rfl)) mX2_begin k349 rfl rfl rfl rfl rfl ⟨(Nat.le_of_ble_eq_true rfl), (Nat.le_of_ble_eq_true rfl)⟩ (Nat.le_of_ble_eq_true rfl) ⟨(Nat.le_of_ble_eq_true rfl), (Nat.le_of_ble_eq_true rfl)⟩ dX6_add_76 ?_
                dsimp only [jrepl, List.set, jstk]
                refine j_unfocus (bLs T.1).length 3 (jX_get (X := Y) hY.1) rfl rfl rfl ?_
                dsimp only [List.set, List.dropLast]
                rw [lrf_set (L := newL p c x l 0) hY.1]
                refine j_aload_n hC dX6_add_79 rfl rfl ?_
                refine j_get hC uX6 0 0 1 rfl rfl k143 rfl dX6_add_80 ?_
                refine j_get hC uX0 2 0 1 rfl rfl k52 rfl dX6_add_83 ?_
                refine j_iconst hC (1) dX6_add_86 (by decide) ?_
                refine j_isub hC dX6_add_87 ?_
                refine j_iret hC hQ rfl rfl (Nat.le_of_ble_eq_true rfl) (Nat.le_of_ble_eq_true rfl) dX6_add_88 rfl ?_
                first | exact cw_o (T := T) (by unfold oAdd; rw [if_pos (Or.inl (jb0 c_4))]) (CW.mk hCI) | exact cw_o (T := T) (by unfold oAdd; rw [if_pos (Or.inr (Or.inl c_8))]) (CW.mk hCI) | exact cw_o (T := T) (by unfold oAdd; rw [if_pos (Or.inr (Or.inr (Or.inl c_13)))]) (CW.mk hCI) | exact cw_o (T := T) (by unfold oAdd; rw [if_pos (Or.inr (Or.inr (Or.inr (Or.inl c_17))))]) (CW.mk hCI) | exact cw_o (T := T) (by unfold oAdd; rw [if_pos (Or.inr (Or.inr (Or.inr (Or.inr (Or.inl c_22)))))]) (CW.mk hCI) | exact cw_o (T := T) (by unfold oAdd; rw [if_pos (Or.inr (Or.inr (Or.inr (Or.inr (Or.inr (jb0 c_30))))))]) (CW.mk hCI) | exact cw_o (T := T) (by unfold oAdd; rw [if_neg (fun q => q.elim (fun w => w (jb1 c_4)) (fun w => w.elim c_8 (fun w => w.elim c_13 (fun w => w.elim c_17 (fun w => w.elim c_22 (fun w => w (jb1 c_30))))))), if_neg (fun q => c_44 (by rw [hg1.1]; exact (nI_ltI (b := 10) (by omega) (by omega)).mpr q))]) (CW.mk hCI) | exact cw_o (T := oPush T (sLs T.1 (bLs T.1 ++ [newL p c x l 0]))) (by unfold oAdd; rw [if_neg (fun q => q.elim (fun w => w (jb1 c_4)) (fun w => w.elim c_8 (fun w => w.elim c_13 (fun w => w.elim c_17 (fun w => w.elim c_22 (fun w => w (jb1 c_30))))))), if_pos ha10]; exact congrArg (fun z => (z, _)) (show nI (bLs T.1).length = In 1 + 1 - 1 by rw [hg1.1]; exact jaddsub.symm)) (CW.mk ⟨isB_addL hB hY (Or.inl rfl), hu, hH1, hT, hp2, hp0, Or.inl rfl⟩)
              · skip
                refine j_bipush hC (-3) dX6_add_47 (by decide) ?_
                refine j_iret hC hQ rfl rfl (Nat.le_of_ble_eq_true rfl) (Nat.le_of_ble_eq_true rfl) dX6_add_49 rfl ?_
                first | exact cw_o (T := T) (by unfold oAdd; rw [if_pos (Or.inl (jb0 c_4))]) (CW.mk hCI) | exact cw_o (T := T) (by unfold oAdd; rw [if_pos (Or.inr (Or.inl c_8))]) (CW.mk hCI) | exact cw_o (T := T) (by unfold oAdd; rw [if_pos (Or.inr (Or.inr (Or.inl c_13)))]) (CW.mk hCI) | exact cw_o (T := T) (by unfold oAdd; rw [if_pos (Or.inr (Or.inr (Or.inr (Or.inl c_17))))]) (CW.mk hCI) | exact cw_o (T := T) (by unfold oAdd; rw [if_pos (Or.inr (Or.inr (Or.inr (Or.inr (Or.inl c_22)))))]) (CW.mk hCI) | exact cw_o (T := T) (by unfold oAdd; rw [if_pos (Or.inr (Or.inr (Or.inr (Or.inr (Or.inr (jb0 c_30))))))]) (CW.mk hCI) | exact cw_o (T := T) (by unfold oAdd; rw [if_neg (fun q => q.elim (fun w => w (jb1 c_4)) (fun w => w.elim c_8 (fun w => w.elim c_13 (fun w => w.elim c_17 (fun w => w.elim c_22 (fun w => w (jb1 c_30))))))), if_neg (fun q => c_44 (by rw [hg1.1]; exact (nI_ltI (b := 10) (by omega) (by omega)).mpr q))]) (CW.mk hCI) | exact cw_o (T := oPush T (sLs T.1 (bLs T.1 ++ [newL p c x l 0]))) (by unfold oAdd; rw [if_neg (fun q => q.elim (fun w => w (jb1 c_4)) (fun w => w.elim c_8 (fun w => w.elim c_13 (fun w => w.elim c_17 (fun w => w.elim c_22 (fun w => w (jb1 c_30))))))), if_pos ha10]; exact congrArg (fun z => (z, _)) (show nI (bLs T.1).length = In 1 + 1 - 1 by rw [hg1.1]; exact jaddsub.symm)) (CW.mk ⟨isB_addL hB hY (Or.inl rfl), hu, hH1, hT, hp2, hp0, Or.inl rfl⟩)
            · skip
              refine j_iconst hC (-1) dX6_add_33 (by decide) ?_
              refine j_iret hC hQ rfl rfl (Nat.le_of_ble_eq_true rfl) (Nat.le_of_ble_eq_true rfl) dX6_add_34 rfl ?_
              first | exact cw_o (T := T) (by unfold oAdd; rw [if_pos (Or.inl (jb0 c_4))]) (CW.mk hCI) | exact cw_o (T := T) (by unfold oAdd; rw [if_pos (Or.inr (Or.inl c_8))]) (CW.mk hCI) | exact cw_o (T := T) (by unfold oAdd; rw [if_pos (Or.inr (Or.inr (Or.inl c_13)))]) (CW.mk hCI) | exact cw_o (T := T) (by unfold oAdd; rw [if_pos (Or.inr (Or.inr (Or.inr (Or.inl c_17))))]) (CW.mk hCI) | exact cw_o (T := T) (by unfold oAdd; rw [if_pos (Or.inr (Or.inr (Or.inr (Or.inr (Or.inl c_22)))))]) (CW.mk hCI) | exact cw_o (T := T) (by unfold oAdd; rw [if_pos (Or.inr (Or.inr (Or.inr (Or.inr (Or.inr (jb0 c_30))))))]) (CW.mk hCI) | exact cw_o (T := T) (by unfold oAdd; rw [if_neg (fun q => q.elim (fun w => w (jb1 c_4)) (fun w => w.elim c_8 (fun w => w.elim c_13 (fun w => w.elim c_17 (fun w => w.elim c_22 (fun w => w (jb1 c_30))))))), if_neg (fun q => c_44 (by rw [hg1.1]; exact (nI_ltI (b := 10) (by omega) (by omega)).mpr q))]) (CW.mk hCI) | exact cw_o (T := oPush T (sLs T.1 (bLs T.1 ++ [newL p c x l 0]))) (by unfold oAdd; rw [if_neg (fun q => q.elim (fun w => w (jb1 c_4)) (fun w => w.elim c_8 (fun w => w.elim c_13 (fun w => w.elim c_17 (fun w => w.elim c_22 (fun w => w (jb1 c_30))))))), if_pos ha10]; exact congrArg (fun z => (z, _)) (show nI (bLs T.1).length = In 1 + 1 - 1 by rw [hg1.1]; exact jaddsub.symm)) (CW.mk ⟨isB_addL hB hY (Or.inl rfl), hu, hH1, hT, hp2, hp0, Or.inl rfl⟩)
