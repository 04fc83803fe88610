/-! the model's page as a state, the remembered ones, the text -/
def LI (S : BS) (i : Nat) : jF := jL (lsX (bLs S)) i
theorem LI_get {S : BS} {i : Nat} (h : i < (bLs S).length) : (bLs S)[i]? = some (LI S i) := by
  have h1 : (bLs S)[i]? = some ((bLs S)[i]) := List.getElem?_eq_getElem h
  rw [h1]
  exact congrArg some (lsX_get h1).symm
theorem LI_of {S : BS} {i : Nat} {L : jF} (h : (bLs S)[i]? = some L) : LI S i = L := lsX_get h
theorem lg_LI {S : BS} {j : Nat} {x : Int32} (hj : j < (bLs S).length) (hj2 : j < 2 ^ 31) (hx : x = nI j) : lg S x = LI S j := by
  unfold lg
  rw [hx, nI_cl hj2, List.getD_eq_getElem?_getD, LI_get hj, Option.getD_some]
def MP (P : jF) (S : BS) : Prop := (P 0 = nI (bLs S).length ∧ (bLs S).length ≤ 10) ∧ (∀ i, i < (bLs S).length → lok 5400 P i (LI S i)) ∧ (P 91 = nI (bRs S).length ∧ (bRs S).length ≤ 6) ∧ (∀ r, r < (bRs S).length → (bRs S)[r]? = some (P (92 + 2 * r), P (92 + 2 * r + 1)) ∧ ∃ a b : Nat, P (92 + 2 * r) = nI a ∧ P (92 + 2 * r + 1) = nI b ∧ a ≤ b ∧ b ≤ 200) ∧ (P 104 = bNeed S ∧ 1 ≤ (bNeed S).toInt ∧ (bNeed S).toInt ≤ 180) ∧ (P 105 = bHrs S ∧ ∃ h : Nat, bHrs S = nI h ∧ h ≤ 100000) ∧ ((P 106, P 107, P 108) = bSt S ∧ ∀ l, l < 3 → 0 ≤ (P (106 + l)).toInt ∧ (P (106 + l)).toInt ≤ 99) ∧ P 109 = bPa S ∧ P 110 = bFa S
def MH (P : jF) (hs : List BS) : Prop := hs.length ≤ 8 ∧ ∀ q, q < hs.length → ∃ S, hs[q]? = some S ∧ MP (fun k => P (111 * (hs.length - q) + k)) S
def MT (I : jF) (f : jF) (ts : List Int32) : Prop := I 3 = nI ts.length ∧ ts.length ≤ 80 ∧ ∀ i, i < ts.length → ts[i]? = some (f i) ∧ 33 ≤ (f i).toInt ∧ (f i).toInt ≤ 126
def MI (I : jF) (A : Nat → jF) (T : St3) : Prop := I 1 = nI T.2.1.length ∧ MP (A 1) T.1 ∧ MH (A 1) T.2.1 ∧ MT I (A 2) T.2.2
def MW (g : jG) (d : Nat → Nat) (T : St3) (b : List va_W) : Prop := ∃ (I : jF) (A : Nat → jF), b = [mc g d I A] ∧ MI I A T
theorem MP_eq {P Q : jF} {S : BS} (h : MP P S) (e : ∀ k, k < 111 → Q k = P k) : MP Q S := by
  obtain ⟨⟨h1, h2⟩, h3, ⟨h4, h5⟩, h6, ⟨h7, h8⟩, ⟨h9, h10⟩, ⟨h11, h12⟩, h13, h14⟩ := h
  refine ⟨⟨(e 0 (by decide)).trans h1, h2⟩, fun i hi => lok_eq (h3 i hi) (fun f hf => e _ (by omega)), ⟨(e 91 (by decide)).trans h4, h5⟩, fun r hr => ?_, ⟨(e 104 (by decide)).trans h7, h8⟩, ⟨(e 105 (by decide)).trans h9, h10⟩, ⟨?_, fun l hl => ?_⟩, (e 109 (by decide)).trans h13, (e 110 (by decide)).trans h14⟩
  · rw [e (92 + 2 * r) (by omega), e (92 + 2 * r + 1) (by omega)]; exact h6 r hr
  · rw [e 106 (by decide), e 107 (by decide), e 108 (by decide)]; exact h11
  · rw [e (106 + l) (by omega)]; exact h12 l hl
theorem MH_eq {P Q : jF} {hs : List BS} (h : MH P hs) (e : ∀ k, 111 ≤ k → k < 999 → Q k = P k) : MH Q hs := by
  refine ⟨h.1, fun q hq => ?_⟩
  obtain ⟨S, h1, h2⟩ := h.2 q hq
  have h8 := h.1
  exact ⟨S, h1, MP_eq h2 (fun k hk => e _ (by omega) (by omega))⟩
theorem mp_rs {P : jF} {S : BS} (h : MP P S) : rswf (bRs S) := by
  intro q hq
  obtain ⟨r, hr⟩ := List.getElem?_of_mem hq
  have hr2 : r < (bRs S).length := (List.getElem?_eq_some_iff.mp hr).1
  obtain ⟨h1, a, b, h2, h3, h4⟩ := h.2.2.2.1 r hr2
  rw [hr] at h1
  exact ⟨a, b, by rw [← h2, ← h3]; exact Option.some.inj h1, h4⟩
theorem mp_ra {P : jF} {S : BS} (h : MP P S) {r : Nat} (hr : r < (bRs S).length) : P (92 + 2 * r) = nI (raS S r) ∧ P (92 + 2 * r + 1) = nI (rbS S r) ∧ raS S r ≤ rbS S r ∧ rbS S r ≤ 200 := by
  obtain ⟨h1, a, b, h2, h3, h4, h5⟩ := h.2.2.2.1 r hr
  have g1 : raS S r = a := by
    unfold raS
    rw [List.getD_eq_getElem?_getD, h1, Option.getD_some, h2, nI_cl (by omega)]
  have g2 : rbS S r = b := by
    unfold rbS
    rw [List.getD_eq_getElem?_getD, h1, Option.getD_some, h3, nI_cl (by omega)]
  rw [g1, g2]
  exact ⟨h2, h3, h4, h5⟩
theorem mp_hrs {P : jF} {S : BS} (h : MP P S) : ∃ n : Nat, bHrs S = nI n ∧ n ≤ 100000 := h.2.2.2.2.2.1.2
theorem mp_stk {P : jF} {S : BS} (h : MP P S) {l : Nat} (hl : l < 3) : P (106 + l) = stk (bSt S) (nI l) ∧ 0 ≤ (P (106 + l)).toInt ∧ (P (106 + l)).toInt ≤ 99 := by
  refine ⟨?_, h.2.2.2.2.2.2.1.2 l hl⟩
  rw [← h.2.2.2.2.2.2.1.1]
  match l, hl with
  | 0, _ => rfl
  | 1, _ => rfl
  | 2, _ => rfl
theorem mi_hist {I : jF} {A B : Nat → jF} {S S' : BS} {hs : List BS} {ts : List Int32} (h : MI I A (S, hs, ts)) (h2 : B 2 = A 2) (hq : ∀ q, 111 ≤ q → q < 999 → B 1 q = A 1 q) (hp : MP (B 1) S') : MI I B (S', hs, ts) := by
  obtain ⟨h1, -, h3, h4⟩ := h
  exact ⟨h1, hp, MH_eq h3 hq, by rw [h2]; exact h4⟩
/-- after records, and what is set in the page's first part -/
theorem mi_set {I : jF} {A B : Nat → jF} {T : St3} {S' : BS} (h : MI I A (oPush T T.1)) (hk : ∀ q, q ≠ 1 → B q = A q) (hq : ∀ q, 111 ≤ q → q < 999 → B 1 q = A 1 q) (hp : MP (B 1) S') : MI I B (oPush T S') := mi_hist h (hk 2 (by decide)) hq hp
/-- what else than the page and the text is set does not count -/
theorem mi_oth {I : jF} {A B : Nat → jF} {T : St3} (h : MI I A T) (h1 : B 1 = A 1) (h2 : B 2 = A 2) : MI I B T := by
  unfold MI at h ⊢
  rw [h1, h2]; exact h
theorem pfr_111 {i : Nat} {P Q : jF} (hi : i ≤ 10) (h : pfr i P Q) : ∀ q, 111 ≤ q → q < 999 → Q q = P q := fun q h1 _ => h q (by omega)
theorem LI_set {S : BS} {j i : Nat} {L : jF} (hi : i < (bLs S).length) : LI (sLs S ((bLs S).set j L)) i = if i = j then L else LI S i := by
  apply LI_of
  show ((bLs S).set j L)[i]? = _
  by_cases q : i = j
  · rw [if_pos q, q, List.getElem?_set_self (by omega)]
  · rw [if_neg q, List.getElem?_set_ne (Ne.symm q)]; exact LI_get hi
theorem MP_light {P Q : jF} {S : BS} {j : Nat} {L : jF} (h : MP P S) (hj : j < (bLs S).length) (hL : lok 5400 Q j L) (hf : pfr j P Q) : MP Q (sLs S ((bLs S).set j L)) := by
  obtain ⟨⟨h1, h2⟩, h3, ⟨h4, h5⟩, h6, ⟨h7, h8⟩, ⟨h9, h10⟩, ⟨h11, h12⟩, h13, h14⟩ := h
  have hlen : (bLs (sLs S ((bLs S).set j L))).length = (bLs S).length := by show ((bLs S).set j L).length = _; rw [List.length_set]
  have e : ∀ k, 91 ≤ k → Q k = P k := fun k hk => hf k (by omega)
  refine ⟨⟨by rw [hlen, hf 0 (by omega)]; exact h1, by rw [hlen]; exact h2⟩, fun i hi => ?_, ⟨(e 91 (by decide)).trans h4, h5⟩, fun r hr => ?_, ⟨(e 104 (by decide)).trans h7, h8⟩, ⟨(e 105 (by decide)).trans h9, h10⟩, ⟨?_, fun l hl => ?_⟩, (e 109 (by decide)).trans h13, (e 110 (by decide)).trans h14⟩
  · rw [hlen] at hi
    rw [LI_set hi]
    by_cases q : i = j
    · rw [if_pos q, q]; exact hL
    · rw [if_neg q]; exact lok_fr (h3 i hi) hf (Ne.symm q)
  · rw [e (92 + 2 * r) (by omega), e (92 + 2 * r + 1) (by omega)]; exact h6 r hr
  · rw [e 106 (by decide), e 107 (by decide), e 108 (by decide)]; exact h11
  · rw [e (106 + l) (by omega)]; exact h12 l hl
theorem lok_out {c : Int} {P Q : jF} {i k : Nat} {L : jF} {v : Int32} (h : lok c P i L) (e : Q = upd P k v) (hk : k < 1 + 9 * i ∨ 1 + 9 * i + 9 ≤ k) : lok c Q i L := lok_eq h (fun f hf => by rw [e, pk_un (by omega)])
theorem MP_need {P Q : jF} {S : BS} {v : Int32} (h : MP P S) (e : Q = upd P 104 v) (hv : 1 ≤ v.toInt ∧ v.toInt ≤ 180) : MP Q (sNeed S v) := by
  obtain ⟨⟨h1, h2⟩, h3, ⟨h4, h5⟩, h6, ⟨h7, h8⟩, ⟨h9, h10⟩, ⟨h11, h12⟩, h13, h14⟩ := h
  subst e
  refine ⟨⟨h1, h2⟩, fun i hi => lok_out (h3 i hi) rfl (by have : i < (bLs S).length := hi; omega), ⟨h4, h5⟩, fun r hr => ?_, ⟨rfl, hv⟩, ⟨h9, h10⟩, ⟨h11, fun l hl => ?_⟩, h13, h14⟩
  · have : r < (bRs S).length := hr
    rw [pk_un (by omega), pk_un (by omega)]; exact h6 r hr
  · rw [pk_un (by omega)]; exact h12 l hl
theorem MP_st {P Q : jF} {S : BS} {l : Nat} {v : Int32} (h : MP P S) (hl : l < 3) (e : Q = upd P (106 + l) v) (hv : 0 ≤ v.toInt ∧ v.toInt ≤ 99) : MP Q (sSt S (stTo (bSt S) (nI l) v)) := by
  obtain ⟨⟨h1, h2⟩, h3, ⟨h4, h5⟩, h6, ⟨h7, h8⟩, ⟨h9, h10⟩, ⟨h11, h12⟩, h13, h14⟩ := h
  subst e
  refine ⟨⟨by rw [pk_un (by omega)]; exact h1, h2⟩, fun i hi => lok_out (h3 i hi) rfl (by have : i < (bLs S).length := hi; omega), ⟨by rw [pk_un (by omega)]; exact h4, h5⟩, fun r hr => ?_, ⟨by rw [pk_un (by omega)]; exact h7, h8⟩, ⟨by rw [pk_un (by omega)]; exact h9, h10⟩, ⟨?_, fun q hq => ?_⟩, by rw [pk_un (by omega)]; exact h13, by rw [pk_un (by omega)]; exact h14⟩
  · have : r < (bRs S).length := hr
    rw [pk_un (by omega), pk_un (by omega)]; exact h6 r hr
  · show _ = stTo (bSt S) (nI l) v
    rw [← h11]
    match l, hl with
    | 0, _ => rfl
    | 1, _ => rfl
    | 2, _ => rfl
  · by_cases w : q = l
    · rw [w, pk_us]; exact hv
    · rw [pk_un (by omega)]; exact h12 q hq
theorem MP_addL {P Q : jF} {S : BS} {L : jF} (h : MP P S) (hn : (bLs S).length < 10) (h0 : Q 0 = P 0 + 1) (hL : lok 5400 Q (bLs S).length L) (hf : ∀ q, 0 < q → (q < 1 + 9 * (bLs S).length ∨ 1 + 9 * (bLs S).length + 9 ≤ q) → Q q = P q) : MP Q (sLs S (bLs S ++ [L])) := by
  obtain ⟨⟨h1, h2⟩, h3, ⟨h4, h5⟩, h6, ⟨h7, h8⟩, ⟨h9, h10⟩, ⟨h11, h12⟩, h13, h14⟩ := h
  have hlen : (bLs (sLs S (bLs S ++ [L]))).length = (bLs S).length + 1 := by show (bLs S ++ [L]).length = _; rw [List.length_append]; rfl
  have e : ∀ k, 91 ≤ k → Q k = P k := fun k hk => hf k (by omega) (by omega)
  refine ⟨⟨by rw [hlen, h0, h1]; exact nI_1 _, by rw [hlen]; omega⟩, fun i hi => ?_, ⟨(e 91 (by decide)).trans h4, h5⟩, fun r hr => ?_, ⟨(e 104 (by decide)).trans h7, h8⟩, ⟨(e 105 (by decide)).trans h9, h10⟩, ⟨?_, fun l hl => ?_⟩, (e 109 (by decide)).trans h13, (e 110 (by decide)).trans h14⟩
  · rw [hlen] at hi
    rcases Nat.lt_or_ge i (bLs S).length with q | q
    · rw [show LI (sLs S (bLs S ++ [L])) i = LI S i from LI_of ((List.getElem?_append_left q).trans (LI_get q))]
      exact lok_eq (h3 i q) (fun f hf' => hf _ (by omega) (by omega))
    · have e2 : i = (bLs S).length := by omega
      subst e2
      rw [show LI (sLs S (bLs S ++ [L])) (bLs S).length = L from LI_of (by show (bLs S ++ [L])[(bLs S).length]? = _; rw [List.getElem?_append_right (Nat.le_refl _)]; simp)]
      exact hL
  · rw [e (92 + 2 * r) (by omega), e (92 + 2 * r + 1) (by omega)]; exact h6 r hr
  · rw [e 106 (by decide), e 107 (by decide), e 108 (by decide)]; exact h11
  · rw [e (106 + l) (by omega)]; exact h12 l hl
theorem MP_dropL {P Q : jF} {S : BS} {j : Nat} (h : MP P S) (hj : j < (bLs S).length) (h0 : Q 0 = P 0 - 1) (hm : ∀ q, 1 + 9 * j ≤ q → q < 1 + 9 * ((bLs S).length - 1) → Q q = P (q + 9)) (hf : ∀ q, 0 < q → (q < 1 + 9 * j ∨ 1 + 9 * ((bLs S).length - 1) ≤ q) → Q q = P q) : MP Q (sLs S ((bLs S).eraseIdx j)) := by
  obtain ⟨⟨h1, h2⟩, h3, ⟨h4, h5⟩, h6, ⟨h7, h8⟩, ⟨h9, h10⟩, ⟨h11, h12⟩, h13, h14⟩ := h
  have hlen : (bLs (sLs S ((bLs S).eraseIdx j))).length = (bLs S).length - 1 := by show ((bLs S).eraseIdx j).length = _; rw [List.length_eraseIdx_of_lt hj]
  have e : ∀ k, 91 ≤ k → Q k = P k := fun k hk => hf k (by omega) (by omega)
  refine ⟨⟨by rw [hlen, h0, h1]; exact nI_predP (by omega), by rw [hlen]; omega⟩, fun i hi => ?_, ⟨(e 91 (by decide)).trans h4, h5⟩, fun r hr => ?_, ⟨(e 104 (by decide)).trans h7, h8⟩, ⟨(e 105 (by decide)).trans h9, h10⟩, ⟨?_, fun l hl => ?_⟩, (e 109 (by decide)).trans h13, (e 110 (by decide)).trans h14⟩
  · rw [hlen] at hi
    rcases Nat.lt_or_ge i j with q | q
    · rw [show LI (sLs S ((bLs S).eraseIdx j)) i = LI S i from LI_of (by show ((bLs S).eraseIdx j)[i]? = _; rw [List.getElem?_eraseIdx, if_pos q]; exact LI_get (by omega))]
      exact lok_eq (h3 i (by omega)) (fun f hf' => hf _ (by omega) (by omega))
    · rw [show LI (sLs S ((bLs S).eraseIdx j)) i = LI S (i + 1) from LI_of (by show ((bLs S).eraseIdx j)[i]? = _; rw [List.getElem?_eraseIdx, if_neg (by omega)]; exact LI_get (by omega))]
      have g := h3 (i + 1) (by omega)
      have e2 : ∀ f, f < 9 → Q (1 + 9 * i + f) = P (1 + 9 * (i + 1) + f) := fun f hf' => by rw [hm _ (by omega) (by omega)]; exact congrArg P (by omega)
      obtain ⟨g1, g2, g3, g4⟩ := g
      exact ⟨fun f hf' h7' => (e2 f hf').trans (g1 f hf' h7'), by rw [e2 7 (by decide)]; exact g2, g3, by rw [e2 7 (by decide)]; exact g4⟩
  · rw [e (92 + 2 * r) (by omega), e (92 + 2 * r + 1) (by omega)]; exact h6 r hr
  · rw [e 106 (by decide), e 107 (by decide), e 108 (by decide)]; exact h11
  · rw [e (106 + l) (by omega)]; exact h12 l hl
theorem MP_rts {P Q : jF} {S : BS} {rs : List (Int32 × Int32)} (h : MP P S) (h91 : Q 91 = nI rs.length) (h6r : rs.length ≤ 6) (hr : ∀ r, r < rs.length → rs[r]? = some (Q (92 + 2 * r), Q (92 + 2 * r + 1)) ∧ ∃ a b : Nat, Q (92 + 2 * r) = nI a ∧ Q (92 + 2 * r + 1) = nI b ∧ a ≤ b ∧ b ≤ 200) (hf : ∀ q, q < 91 ∨ 104 ≤ q → Q q = P q) : MP Q (sRs S rs) := by
  obtain ⟨⟨h1, h2⟩, h3, -, -, ⟨h7, h8⟩, ⟨h9, h10⟩, ⟨h11, h12⟩, h13, h14⟩ := h
  refine ⟨⟨(hf 0 (by omega)).trans h1, h2⟩, fun i hi => lok_eq (h3 i hi) (fun f hf' => hf _ (by have : i < (bLs S).length := hi; omega)), ⟨h91, h6r⟩, hr, ⟨(hf 104 (by omega)).trans h7, h8⟩, ⟨(hf 105 (by omega)).trans h9, h10⟩, ⟨?_, fun l hl => ?_⟩, (hf 109 (by omega)).trans h13, (hf 110 (by omega)).trans h14⟩
  · rw [hf 106 (by omega), hf 107 (by omega), hf 108 (by omega)]; exact h11
  · rw [hf (106 + l) (by omega)]; exact h12 l hl
theorem MP_addR {P Q : jF} {S : BS} {x y : Int32} (h : MP P S) (hn : (bRs S).length < 6) (h91 : Q 91 = P 91 + 1) (hx : Q (92 + 2 * (bRs S).length) = x) (hy : Q (92 + 2 * (bRs S).length + 1) = y) (hxy : ∃ a b : Nat, x = nI a ∧ y = nI b ∧ a ≤ b ∧ b ≤ 200) (hf : ∀ q, q ≠ 91 → q ≠ 92 + 2 * (bRs S).length → q ≠ 92 + 2 * (bRs S).length + 1 → Q q = P q) : MP Q (sRs S (bRs S ++ [(x, y)])) := by
  obtain ⟨⟨h4, h5⟩, h6⟩ := And.intro h.2.2.1 h.2.2.2.1
  refine MP_rts h (by rw [h91, h4, List.length_append]; exact nI_1 _) (by rw [List.length_append]; show _ + 1 ≤ 6; omega) (fun r hr => ?_) (fun q hq => hf q (by omega) (by omega) (by omega))
  rcases Nat.lt_or_ge r (bRs S).length with w | w
  · rw [hf (92 + 2 * r) (by omega) (by omega) (by omega), hf (92 + 2 * r + 1) (by omega) (by omega) (by omega), List.getElem?_append_left w]
    exact h6 r w
  · have e : r = (bRs S).length := by rw [List.length_append] at hr; have : r < (bRs S).length + 1 := hr; omega
    subst e
    rw [hx, hy]
    exact ⟨by rw [List.getElem?_append_right (Nat.le_refl _)]; simp, hxy⟩
theorem MP_dropR {P Q : jF} {S : BS} {j : Nat} (h : MP P S) (hj : j < (bRs S).length) (h91 : Q 91 = P 91 - 1) (hm : ∀ q, 92 + 2 * j ≤ q → q < 92 + 2 * ((bRs S).length - 1) → Q q = P (q + 2)) (hf : ∀ q, q ≠ 91 → (q < 92 + 2 * j ∨ 92 + 2 * ((bRs S).length - 1) ≤ q) → Q q = P q) : MP Q (sRs S ((bRs S).eraseIdx j)) := by
  obtain ⟨⟨h4, h5⟩, h6⟩ := And.intro h.2.2.1 h.2.2.2.1
  have hlen : ((bRs S).eraseIdx j).length = (bRs S).length - 1 := List.length_eraseIdx_of_lt hj
  refine MP_rts h (by rw [h91, h4, hlen]; exact nI_predP (by omega)) (by rw [hlen]; omega) (fun r hr => ?_) (fun q hq => hf q (by omega) (by omega))
  rw [hlen] at hr
  rw [List.getElem?_eraseIdx]
  rcases Nat.lt_or_ge r j with w | w
  · rw [if_pos w, hf (92 + 2 * r) (by omega) (by omega), hf (92 + 2 * r + 1) (by omega) (by omega)]
    exact h6 r (by omega)
  · have g := h6 (r + 1) (by omega)
    rw [if_neg (by omega), hm (92 + 2 * r) (by omega) (by omega), hm (92 + 2 * r + 1) (by omega) (by omega)]
    rw [show 92 + 2 * r + 2 = 92 + 2 * (r + 1) by omega, show 92 + 2 * r + 1 + 2 = 92 + 2 * (r + 1) + 1 by omega]
    exact g
theorem in_iff {x y z : Int32} : in01 x y z ↔ ¬ x < y ∧ ¬ z < x := by
  unfold in01
  rw [Int32.not_lt, Int32.not_lt]
theorem in_len {x v : Int32} {n : Nat} (h : v = nI n) (hn : n ≤ 10) : in01 x 0 (v - 1) ↔ hLX x n := by
  have e : (v - 1).toInt = (n : Int) - 1 := by rw [h]; exact isub_t (nI_toInt (by omega)) (by decide) (by omega) (by omega)
  unfold in01 hLX
  rw [ile_t, ile_t, ile_t, ilt_t, e, z_t, nI_toInt (by omega)]
  omega
theorem in_nat {x : Int32} {M : Int32} {m : Nat} (hM : M = nI m) (hm : m < 2 ^ 31) (h : in01 x 0 M) : ∃ j : Nat, j ≤ m ∧ x = nI j := by
  obtain ⟨h1, h2⟩ := h
  rw [ile_t, z_t] at h1
  obtain ⟨a, ha, e, e2⟩ := jnat_of h1
  rw [ile_t, hM, nI_toInt hm] at h2
  exact ⟨a, by omega, e⟩
theorem shf1 {P P1 Q : jF} {m : Nat} (h : ∀ q, P1 q = if 111 ≤ q ∧ q < m then P (q + 111) else P q) (hm : 111 ≤ m) (e : Q = upd P1 m (P1 (m + 111))) : ∀ q, Q q = if 111 ≤ q ∧ q < m + 1 then P (q + 111) else P q := by
  intro q
  rw [e]
  by_cases w : q = m
  · rw [w, pk_us, h (m + 111), if_neg (by omega), if_pos (by omega)]
  · rw [pk_un w, h q]
    by_cases w2 : 111 ≤ q ∧ q < m
    · rw [if_pos w2, if_pos (by omega)]
    · rw [if_neg w2, if_neg (by omega)]
theorem MH_shift {P Q : jF} {hs : List BS} (h : MH P hs) (h8 : hs.length = 8) (e : ∀ q, 111 ≤ q → q < 888 → Q q = P (q + 111)) : MH Q (hs.take 7) := by
  have hl : (hs.take 7).length = 7 := by rw [List.length_take]; omega
  refine ⟨by omega, fun q hq => ?_⟩
  rw [hl] at hq
  obtain ⟨S, h1, h2⟩ := h.2 q (by omega)
  refine ⟨S, by rw [List.getElem?_take, if_pos hq]; exact h1, ?_⟩
  rw [hl]
  refine MP_eq h2 (fun k hk => ?_)
  show Q (111 * (7 - q) + k) = P (111 * (hs.length - q) + k)
  rw [e _ (by omega) (by omega), h8]
  exact congrArg P (by omega)
theorem cpy1 {P P1 Q : jF} {m M : Nat} (h : ∀ q, P1 q = if 111 * M ≤ q ∧ q < 111 * M + m then P (q - 111 * M) else P q) (hm : m < 111) (hM : 1 ≤ M) (e : Q = upd P1 (111 * M + m) (P1 m)) : ∀ q, Q q = if 111 * M ≤ q ∧ q < 111 * M + (m + 1) then P (q - 111 * M) else P q := by
  intro q
  rw [e]
  by_cases w : q = 111 * M + m
  · rw [w, pk_us, h m, if_neg (by omega), if_pos (by omega)]
    exact congrArg P (by omega)
  · rw [pk_un w, h q]
    by_cases w2 : 111 * M ≤ q ∧ q < 111 * M + m
    · rw [if_pos w2, if_pos (by omega)]
    · rw [if_neg w2, if_neg (by omega)]
theorem MH_push {P Q : jF} {hs : List BS} {S : BS} (h : MH P hs) (h7 : hs.length ≤ 7) (hS : MP P S) (e : ∀ q, Q q = if 111 * (hs.length + 1) ≤ q ∧ q < 111 * (hs.length + 1) + 111 then P (q - 111 * (hs.length + 1)) else P q) : MH Q (S :: hs) ∧ MP Q S := by
  refine ⟨⟨by show hs.length + 1 ≤ 8; omega, fun q hq => ?_⟩, MP_eq hS (fun k hk => by rw [e, if_neg (by omega)])⟩
  cases q with
  | zero =>
    refine ⟨S, rfl, MP_eq hS (fun k hk => ?_)⟩
    show Q (111 * (hs.length + 1 - 0) + k) = P k
    rw [e, if_pos (by omega)]
    exact congrArg P (by omega)
  | succ q =>
    have hq : q < hs.length := by have : q + 1 < hs.length + 1 := hq; omega
    obtain ⟨S', h1, h2⟩ := h.2 q hq
    refine ⟨S', h1, MP_eq h2 (fun k hk => ?_)⟩
    show Q (111 * (hs.length + 1 - (q + 1)) + k) = P (111 * (hs.length - q) + k)
    rw [e, if_neg (by omega)]
    exact congrArg P (by omega)
theorem take8 {T : St3} : oPush T T.1 = (T.1, T.1 :: T.2.1.take 7, T.2.2) := rfl
section JG
variable {g : jG} {R : Room} {E : jE} {nL pc : Nat} {lv : List (Nat × Value)} {st : List Value} {k n : Nat}
theorem j_mgen {d : Nat → Nat} {I : jF} {A : Nat → jF} (kk : ∀ (I2 : jF) (A2 : Nat → jF), I2 = I → A2 = A → J g R E nL pc lv st [mc g d I2 A2] k n) : J g R E nL pc lv st [mc g d I A] k n := kk I A rfl rfl
end JG
/-- between the two loops of records -/
def recMid (I I2 : jF) (A A3 : Nat → jF) (T : St3) : Prop := I2 1 = nI ((T.2.1.take 7).length + 1) ∧ I2 3 = I 3 ∧ MP (A3 1) T.1 ∧ MH (A3 1) (T.2.1.take 7) ∧ ∀ q, q ≠ 1 → A3 q = A q
theorem recMid_a {I I2 : jF} {A A3 : Nat → jF} {T : St3} (h : MI I A T) (c : ¬ I 1 = 8) (e : I2 = upd I 1 (I 1 + 1)) (e2 : A3 = A) : recMid I I2 A A3 T := by
  obtain ⟨h1, h2, h3, h4⟩ := h
  have h8 := h3.1
  have h7 : T.2.1.length ≤ 7 := by
    have : T.2.1.length ≠ 8 := fun q => c (by rw [h1, q]; rfl)
    omega
  have ht : T.2.1.take 7 = T.2.1 := List.take_of_length_le h7
  subst e2
  refine ⟨by rw [e, pk_us, h1, ht]; exact nI_1 _, by rw [e, pk_un (by decide)], h2, by rw [ht]; exact h3, fun _ _ => rfl⟩
theorem recMid_b {I I2 : jF} {A A1 A3 : Nat → jF} {T : St3} (h : MI I A T) (c : I 1 = 8) (hP : ∀ q, A1 1 q = if 111 ≤ q ∧ q < 888 then A 1 (q + 111) else A 1 q) (hK : ∀ q, q ≠ 1 → A1 q = A q) (e : I2 = upd (upd I 1 (I 1 - 1)) 1 (upd I 1 (I 1 - 1) 1 + 1)) (e2 : A3 = A1) : recMid I I2 A A3 T := by
  obtain ⟨h1, h2, h3, h4⟩ := h
  have h8' := h3.1
  have h8 : T.2.1.length = 8 := nI_injN (by omega) (by decide) (h1.symm.trans c)
  have hl : (T.2.1.take 7).length = 7 := by rw [List.length_take]; omega
  subst e2
  refine ⟨by rw [e, pk_us, pk_us, c, hl]; rfl, by rw [e, pk_un (by decide), pk_un (by decide)], MP_eq h2 (fun k hk => by rw [hP, if_neg (by omega)]), MH_shift h3 h8 (fun q h9 h10 => by rw [hP, if_pos ⟨h9, h10⟩]), hK⟩
theorem recEnd {I I2 : jF} {A A3 A2 : Nat → jF} {T : St3} (h : MI I A T) (hm : recMid I I2 A A3 T) (hP : ∀ q, A2 1 q = if 111 * ((T.2.1.take 7).length + 1) ≤ q ∧ q < 111 * ((T.2.1.take 7).length + 1) + 111 then A3 1 (q - 111 * ((T.2.1.take 7).length + 1)) else A3 1 q) (hK : ∀ q, q ≠ 1 → A2 q = A3 q) : MI I2 A2 (oPush T T.1) := by
  obtain ⟨m1, m2, m3, m4, m5⟩ := hm
  have hl : (T.2.1.take 7).length ≤ 7 := by rw [List.length_take]; omega
  obtain ⟨p1, p2⟩ := MH_push m4 hl m3 hP
  rw [take8]
  refine ⟨m1, p2, p1, ?_⟩
  show MT I2 (A2 2) T.2.2
  rw [hK 2 (by decide), m5 2 (by decide)]
  unfold MT
  rw [m2]
  exact h.2.2.2
set_option maxHeartbeats 1000000 in
set_option maxRecDepth 100000 in
theorem c_X7_records (g : jG) (d : Nat → Nat) (I : jF) (A : Nat → jF) (T : St3) (hMI : MI I A T) : Con g yX7_records cX7_records 2 none 0 0 0 0 [.ref (d 0)] [mc g d I A] (fun r b => r = none ∧ ∃ (I1 : jF) (A1 : Nat → jF), b = [mc g d I1 A1] ∧ MI I1 A1 (oPush T T.1)) := by
  refine Con.of (own := RX7) (lv := [(0, .ref (d 0))]) (by decide) rfl (Nat.le_of_ble_eq_true rfl) rfl ?_
  intro E hC hQ hN
  refine j_aload_n hC dX7_records_0 rfl rfl ?_
  refine j_get hC uX7 0 0 1 rfl rfl k725 rfl dX7_records_1 ?_
  refine j_bipush hC (8) dX7_records_4 (by decide) ?_
  refine j_icmp_ne hC dX7_records_6 (tgt := 50) (by decide) (fun c_6 => ?_) (fun c_6 => ?_)
  · skip
    refine j_aload_n hC dX7_records_50 rfl rfl ?_
    refine j_dup hC dX7_records_51 rfl ?_
    refine j_get hC uX7 0 0 1 rfl rfl k725 rfl dX7_records_52 ?_
    refine j_iconst hC (1) dX7_records_55 (by decide) ?_
    refine j_iadd hC dX7_records_56 ?_
    refine j_put_7_1 (bi := 0) hC rfl k725 dX7_records_57 ?_
    dsimp only [List.set]
    refine j_mgen (fun I2 A3 hI2 hA3 => ?_)
    have hmid : recMid I I2 A A3 T := by first | exact recMid_a hMI c_6 hI2 hA3 | exact recMid_b hMI (Decidable.not_not.mp c_6) hP hK hI2 hA3 | exact recMid_b hMI c_6 hP hK hI2 hA3
    have hl7 : (T.2.1.take 7).length ≤ 7 := by rw [List.length_take]; omega
    refine j_iconst hC (0) dX7_records_60 (by decide) ?_
    refine j_istore_n hC dX7_records_61 rfl rfl rfl rfl (fun v_61 e_61 => ?_)
    have L_62 : ∀ (fu : Nat) (m : Nat) (x1 : Int32) (A2 : Nat → jF) (hfu : 112 ≤ m + fu) (hm : m ≤ 111) (h1 : x1 = nI m) (hP2 : ∀ q, A2 1 q = if 111 * ((T.2.1.take 7).length + 1) ≤ q ∧ q < 111 * ((T.2.1.take 7).length + 1) + m then A3 1 (q - 111 * ((T.2.1.take 7).length + 1)) else A3 1 q) (hK2 : ∀ q, q ≠ 1 → A2 q = A3 q), J g (jRm 0 0 0 0) E 2 62 [(0, .ref (d 0)), (1, .int x1)] [] [mc g d I2 A2] (0) (0) := by
      intro fu
      induction fu with
      | zero => intro m x1 A2 hfu hm h1 hP2 hK2; exact absurd hfu (by omega)
      | succ fu ih_62 =>
        intro m x1 A2 hfu hm h1 hP2 hK2
        refine j_iload_n hC dX7_records_62 rfl rfl ?_
        refine j_bipush hC (111) dX7_records_63 (by decide) ?_
        refine j_icmp_ge hC dX7_records_65 (tgt := 94) (by decide) (fun c_65 => ?_) (fun c_65 => ?_)
        · skip
          have hme : m = 111 := Nat.le_antisymm (by omega) (jge (show (111 : Int32) = nI 111 from rfl) h1 (by decide) (by omega) c_65)
          rw [hme] at hP2
          refine j_vret hC hQ rfl (Nat.le_of_ble_eq_true rfl) (Nat.le_of_ble_eq_true rfl) dX7_records_94 rfl ?_
          exact ⟨rfl, I2, A2, rfl, recEnd hMI hmid hP2 hK2⟩
        · skip
          have hml : m < 111 := jlt (show (111 : Int32) = nI 111 from rfl) h1 (by decide) (by omega) c_65
          refine j_aload_n hC dX7_records_68 rfl rfl ?_
          refine j_get hC uX7 0 0 0 rfl rfl k724 rfl dX7_records_69 ?_
          refine j_bipush hC (111) dX7_records_72 (by decide) ?_
          refine j_aload_n hC dX7_records_74 rfl rfl ?_
          refine j_get hC uX7 0 0 1 rfl rfl k725 rfl dX7_records_75 ?_
          refine j_imul hC dX7_records_78 ?_
          refine j_iload_n hC dX7_records_79 rfl rfl ?_
          refine j_iadd hC dX7_records_80 ?_
          refine j_aload_n hC dX7_records_81 rfl rfl ?_
          refine j_get hC uX7 0 0 0 rfl rfl k724 rfl dX7_records_82 ?_
          refine j_iload_n hC dX7_records_85 rfl rfl ?_
          refine j_ildN hC (m := m) 0 1 rfl rfl h1 (by omega) dX7_records_86 ?_
          refine j_st_7_1 (bi := 0) (m := 111 * ((T.2.1.take 7).length + 1) + m) hC rfl (by rw [hmid.1, h1, show (111 : Int32) = nI 111 from rfl, pk_mul, nI_add]) (by omega) dX7_records_87 (fun A_87 hA_87 hK_87 => ?_)
          dsimp only [List.set]
          refine j_iinc hC (1) dX7_records_88 rfl rfl rfl rfl rfl (fun v_88 e_88 => ?_)
          refine j_goto hC dX7_records_91 (tgt := 62) (by decide) ?_
          refine j_pick [0, 1] ?_
          exact ih_62 (m + 1) _ _ (by omega) (by omega) (jsucc e_88 h1) (cpy1 hP2 hml (by omega) hA_87) (fun q hq => (hK_87 q hq).trans (hK2 q hq))
    refine j_pick [0, 1] ?_
    exact L_62 (112) 0 _ _ (by omega) (by omega) (e_61.trans nI_0.symm) (fun q => by rw [if_neg (by omega)]) (fun _ _ => rfl)
  · skip
    refine j_bipush hC (111) dX7_records_9 (by decide) ?_
    refine j_istore_n hC dX7_records_11 rfl rfl rfl rfl (fun v_11 e_11 => ?_)
    have L_12 : ∀ (fu : Nat) (m : Nat) (x1 : Int32) (A1 : Nat → jF) (hfu : 889 ≤ m + fu) (hm : 111 ≤ m ∧ m ≤ 888) (h1 : x1 = nI m) (hP : ∀ q, A1 1 q = if 111 ≤ q ∧ q < m then A 1 (q + 111) else A 1 q) (hK : ∀ q, q ≠ 1 → A1 q = A q), J g (jRm 0 0 0 0) E 2 12 [(0, .ref (d 0)), (1, .int x1)] [] [mc g d I A1] (0) (0) := by
      intro fu
      induction fu with
      | zero => intro m x1 A1 hfu hm h1 hP hK; exact absurd hfu (by omega)
      | succ fu ih_12 =>
        intro m x1 A1 hfu hm h1 hP hK
        refine j_iload_n hC dX7_records_12 rfl rfl ?_
        refine j_sipush hC (888) dX7_records_13 (by decide) ?_
        refine j_icmp_ge hC dX7_records_16 (tgt := 40) (by decide) (fun c_16 => ?_) (fun c_16 => ?_)
        · skip
          have hme : m = 888 := Nat.le_antisymm (by omega) (jge (show (888 : Int32) = nI 888 from rfl) h1 (by decide) (by omega) c_16)
          rw [hme] at hP
          refine j_aload_n hC dX7_records_40 rfl rfl ?_
          refine j_dup hC dX7_records_41 rfl ?_
          refine j_get hC uX7 0 0 1 rfl rfl k725 rfl dX7_records_42 ?_
          refine j_iconst hC (1) dX7_records_45 (by decide) ?_
          refine j_isub hC dX7_records_46 ?_
          refine j_put_7_1 (bi := 0) hC rfl k725 dX7_records_47 ?_
          dsimp only [List.set]
          refine j_aload_n hC dX7_records_50 rfl rfl ?_
          refine j_dup hC dX7_records_51 rfl ?_
          refine j_get hC uX7 0 0 1 rfl rfl k725 rfl dX7_records_52 ?_
          refine j_iconst hC (1) dX7_records_55 (by decide) ?_
          refine j_iadd hC dX7_records_56 ?_
          refine j_put_7_1 (bi := 0) hC rfl k725 dX7_records_57 ?_
          dsimp only [List.set]
          refine j_mgen (fun I2 A3 hI2 hA3 => ?_)
          have hmid : recMid I I2 A A3 T := by first | exact recMid_a hMI c_6 hI2 hA3 | exact recMid_b hMI (Decidable.not_not.mp c_6) hP hK hI2 hA3 | exact recMid_b hMI c_6 hP hK hI2 hA3
          have hl7 : (T.2.1.take 7).length ≤ 7 := by rw [List.length_take]; omega
          refine j_iconst hC (0) dX7_records_60 (by decide) ?_
          refine j_istore_n hC dX7_records_61 rfl rfl rfl rfl (fun v_61 e_61 => ?_)
          have L_62 : ∀ (fu : Nat) (m : Nat) (x1 : Int32) (A2 : Nat → jF) (hfu : 112 ≤ m + fu) (hm : m ≤ 111) (h1 : x1 = nI m) (hP2 : ∀ q, A2 1 q = if 111 * ((T.2.1.take 7).length + 1) ≤ q ∧ q < 111 * ((T.2.1.take 7).length + 1) + m then A3 1 (q - 111 * ((T.2.1.take 7).length + 1)) else A3 1 q) (hK2 : ∀ q, q ≠ 1 → A2 q = A3 q), J g (jRm 0 0 0 0) E 2 62 [(0, .ref (d 0)), (1, .int x1)] [] [mc g d I2 A2] (0) (0) := by
            intro fu
            induction fu with
            | zero => intro m x1 A2 hfu hm h1 hP2 hK2; exact absurd hfu (by omega)
            | succ fu ih_62 =>
              intro m x1 A2 hfu hm h1 hP2 hK2
              refine j_iload_n hC dX7_records_62 rfl rfl ?_
              refine j_bipush hC (111) dX7_records_63 (by decide) ?_
              refine j_icmp_ge hC dX7_records_65 (tgt := 94) (by decide) (fun c_65 => ?_) (fun c_65 => ?_)
              · skip
                have hme : m = 111 := Nat.le_antisymm (by omega) (jge (show (111 : Int32) = nI 111 from rfl) h1 (by decide) (by omega) c_65)
                rw [hme] at hP2
                refine j_vret hC hQ rfl (Nat.le_of_ble_eq_true rfl) (Nat.le_of_ble_eq_true rfl) dX7_records_94 rfl ?_
                exact ⟨rfl, I2, A2, rfl, recEnd hMI hmid hP2 hK2⟩
              · skip
                have hml : m < 111 := jlt (show (111 : Int32) = nI 111 from rfl) h1 (by decide) (by omega) c_65
                refine j_aload_n hC dX7_records_68 rfl rfl ?_
                refine j_get hC uX7 0 0 0 rfl rfl k724 rfl dX7_records_69 ?_
                refine j_bipush hC (111) dX7_records_72 (by decide) ?_
                refine j_aload_n hC dX7_records_74 rfl rfl ?_
                refine j_get hC uX7 0 0 1 rfl rfl k725 rfl dX7_records_75 ?_
                refine j_imul hC dX7_records_78 ?_
                refine j_iload_n hC dX7_records_79 rfl rfl ?_
                refine j_iadd hC dX7_records_80 ?_
                refine j_aload_n hC dX7_records_81 rfl rfl ?_
                refine j_get hC uX7 0 0 0 rfl rfl k724 rfl dX7_records_82 ?_
                refine j_iload_n hC dX7_records_85 rfl rfl ?_
                refine j_ildN hC (m := m) 0 1 rfl rfl h1 (by omega) dX7_records_86 ?_
                refine j_st_7_1 (bi := 0) (m := 111 * ((T.2.1.take 7).length + 1) + m) hC rfl (by rw [hmid.1, h1, show (111 : Int32) = nI 111 from rfl, pk_mul, nI_add]) (by omega) dX7_records_87 (fun A_87 hA_87 hK_87 => ?_)
                dsimp only [List.set]
                refine j_iinc hC (1) dX7_records_88 rfl rfl rfl rfl rfl (fun v_88 e_88 => ?_)
                refine j_goto hC dX7_records_91 (tgt := 62) (by decide) ?_
                refine j_pick [0, 1] ?_
                exact ih_62 (m + 1) _ _ (by omega) (by omega) (jsucc e_88 h1) (cpy1 hP2 hml (by omega) hA_87) (fun q hq => (hK_87 q hq).trans (hK2 q hq))
          refine j_pick [0, 1] ?_
          exact L_62 (112) 0 _ _ (by omega) (by omega) (e_61.trans nI_0.symm) (fun q => by rw [if_neg (by omega)]) (fun _ _ => rfl)
        · skip
          have hml : m < 888 := jlt (show (888 : Int32) = nI 888 from rfl) h1 (by decide) (by omega) c_16
          refine j_aload_n hC dX7_records_19 rfl rfl ?_
          refine j_get hC uX7 0 0 0 rfl rfl k724 rfl dX7_records_20 ?_
          refine j_iload_n hC dX7_records_23 rfl rfl ?_
          refine j_aload_n hC dX7_records_24 rfl rfl ?_
          refine j_get hC uX7 0 0 0 rfl rfl k724 rfl dX7_records_25 ?_
          refine j_iload_n hC dX7_records_28 rfl rfl ?_
          refine j_bipush hC (111) dX7_records_29 (by decide) ?_
          refine j_iadd hC dX7_records_31 ?_
          refine j_ildN hC (m := m + 111) 0 1 rfl rfl (by rw [h1]; exact nI_add m 111) (by omega) dX7_records_32 ?_
          refine j_st_7_1 (bi := 0) (m := m) hC rfl h1 (by omega) dX7_records_33 (fun A_33 hA_33 hK_33 => ?_)
          dsimp only [List.set]
          refine j_iinc hC (1) dX7_records_34 rfl rfl rfl rfl rfl (fun v_34 e_34 => ?_)
          refine j_goto hC dX7_records_37 (tgt := 12) (by decide) ?_
          refine j_pick [0, 1] ?_
          exact ih_12 (m + 1) _ _ (by omega) (by omega) (jsucc e_34 h1) (shf1 hP hm.1 hA_33) (fun q hq => (hK_33 q hq).trans (hK q hq))
    refine j_pick [0, 1] ?_
    exact L_12 (889) 111 _ _ (by omega) (by omega) (e_11.trans rfl) (fun q => by rw [if_neg (by omega)]) (fun _ _ => rfl)
