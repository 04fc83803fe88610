/-! the state that the document speaks of, and how the class holds it -/
abbrev BS : Type := List jF × List (Int32 × Int32) × Int32 × Int32 × (Int32 × Int32 × Int32) × Int32 × Int32
abbrev bLs (S : BS) : List jF := S.1
abbrev bRs (S : BS) : List (Int32 × Int32) := S.2.1
abbrev bNeed (S : BS) : Int32 := S.2.2.1
abbrev bHrs (S : BS) : Int32 := S.2.2.2.1
abbrev bSt (S : BS) : Int32 × Int32 × Int32 := S.2.2.2.2.1
abbrev bPa (S : BS) : Int32 := S.2.2.2.2.2.1
abbrev bFa (S : BS) : Int32 := S.2.2.2.2.2.2
def lsX (ls : List jF) : List (Nat × jF) := ls.map (fun L => (0, L))
def xeq (X Y : List (Nat × jF)) (k : Nat) : Prop := ∀ j, j < k → jL X j = jL Y j
theorem lsX_get {ls : List jF} {j : Nat} {L : jF} (h : ls[j]? = some L) : jL (lsX ls) j = L := by
  unfold jL lsX
  rw [List.getElem?_map, h]
  rfl
def isB (V : BV) (S : BS) : Prop := bgood V (bLs S).length (bRs S).length ∧ (∀ j, j < (bLs S).length → (bLs S)[j]? = some (jL V.2.2.2 j)) ∧ (∀ t, t < (bRs S).length → (bRs S)[t]? = some (V.2.2.1 0 t, V.2.2.1 1 t)) ∧ V.2.1 5 = bNeed S ∧ V.2.1 6 = bHrs S ∧ (V.2.2.1 2 0, V.2.2.1 2 1, V.2.2.1 2 2) = bSt S ∧ V.2.1 8 = bPa S ∧ V.2.1 9 = bFa S
def raS (S : BS) (t : Nat) : Nat := ((bRs S).getD t (0, 0)).1.toNatClampNeg
def rbS (S : BS) (t : Nat) : Nat := ((bRs S).getD t (0, 0)).2.toNatClampNeg
def rswf (rs : List (Int32 × Int32)) : Prop := ∀ q ∈ rs, ∃ a b : Nat, q = (nI a, nI b) ∧ a ≤ b ∧ b ≤ 200
theorem isB_rok {V : BV} {S : BS} (h : isB V S) (hw : rswf (bRs S)) : rok V.2.2.1 (raS S) (rbS S) (bRs S).length := by
  intro r hr
  have h1 := h.2.2.1 r hr
  obtain ⟨a, b, e, h2, h3⟩ := hw _ (List.mem_of_getElem? h1)
  have e1 : V.2.2.1 0 r = nI a := congrArg Prod.fst e
  have e2 : V.2.2.1 1 r = nI b := congrArg Prod.snd e
  have g1 : raS S r = a := by
    unfold raS
    rw [List.getD_eq_getElem?_getD, h1, Option.getD_some, e1, nI_cl (by omega)]
  have g2 : rbS S r = b := by
    unfold rbS
    rw [List.getD_eq_getElem?_getD, h1, Option.getD_some, e2, nI_cl (by omega)]
  rw [g1, g2]
  exact ⟨e1, e2, h2, h3⟩
theorem isB_beq {V W : BV} {S : BS} (hb : beq V W (bLs S).length (bRs S).length) (h : isB W S) : isB V S := by
  obtain ⟨⟨⟨g1, g2, g3⟩, g4, g5, g6⟩, h2, h3, h4, h5, h6, h7, h8⟩ := h
  obtain ⟨b1, ⟨b2, b3, b4⟩, b5, b6⟩ := hb
  refine ⟨⟨⟨(b1 1 (by simp)).trans g1, b2, b3⟩, (b1 4 (by simp)).trans g4, g5, fun j hj => by rw [b4 j hj]; exact g6 j hj⟩, fun j hj => by rw [b4 j hj]; exact h2 j hj, fun t ht => by rw [(b5 t ht).1, (b5 t ht).2]; exact h3 t ht, (b1 5 (by simp)).trans h4, (b1 6 (by simp)).trans h5, ?_, (b1 8 (by simp)).trans h7, (b1 9 (by simp)).trans h8⟩
  rw [b6 0 (by decide), b6 1 (by decide), b6 2 (by decide)]; exact h6
theorem isB_xeq {V : BV} {S : BS} (h : isB V S) : xeq V.2.2.2 (lsX (bLs S)) (bLs S).length := fun j hj => (lsX_get (h.2.1 j hj)).symm
def ctext (It ft : jF) (ts : List Int32) : Prop := It 1 = nI ts.length ∧ ts.length ≤ 80 ∧ ∀ i, i < ts.length → ts[i]? = some (ft i)
def chist (Ih : jF) (K : Nat → Option BV) (hs : List BS) : Prop := ∃ nx : Nat, nx < 8 ∧ Ih 1 = nI nx ∧ Ih 2 = nI hs.length ∧ hs.length ≤ 8 ∧ (∀ i, i < hs.length → ∃ (V : BV) (S : BS), K ((nx + 7 - i) % 8) = some V ∧ hs[i]? = some S ∧ isB V S) ∧ ∀ j V, K j = some V → V.2.2.2.length ≤ 10
theorem chist_push {Ih I2 : jF} {K : Nat → Option BV} {hs : List BS} {S : BS} {V : BV} {nx : Nat} (hnx : nx < 8) (h2 : Ih 2 = nI hs.length) (h8 : hs.length ≤ 8) (h5 : ∀ i, i < hs.length → ∃ (V : BV) (S : BS), K ((nx + 7 - i) % 8) = some V ∧ hs[i]? = some S ∧ isB V S) (h6 : ∀ j V, K j = some V → V.2.2.2.length ≤ 10)
    (e1 : I2 1 = nI ((nx + 1) % 8)) (e2 : I2 2 = nI (min (hs.length + 1) 8)) (hV : isB V S) : chist I2 (va_up K nx (some V)) ((S :: hs).take 8) := by
  have hl : ((S :: hs).take 8).length = min (hs.length + 1) 8 := by rw [List.length_take, List.length_cons]; omega
  refine ⟨(nx + 1) % 8, Nat.mod_lt _ (by decide), e1, by rw [hl]; exact e2, by rw [hl]; omega, fun i hi => ?_, fun j W hj => ?_⟩
  · rw [hl] at hi
    rcases Nat.eq_zero_or_pos i with rfl | hp
    · refine ⟨V, S, ?_, by simp, hV⟩
      rw [show ((nx + 1) % 8 + 7 - 0) % 8 = nx by omega]; exact va_up_at
    · obtain ⟨W, T, q1, q2, q3⟩ := h5 (i - 1) (by omega)
      refine ⟨W, T, ?_, ?_, q3⟩
      · unfold va_up
        rw [if_neg (by omega), show ((nx + 1) % 8 + 7 - i) % 8 = (nx + 7 - (i - 1)) % 8 by omega]; exact q1
      · rw [List.getElem?_take, if_pos (by omega)]
        obtain ⟨u, rfl⟩ : ∃ u, i = u + 1 := ⟨i - 1, by omega⟩
        exact q2
  · unfold va_up at hj
    by_cases hq : j = nx
    · rw [if_pos hq] at hj
      cases hj
      exact hV.1.1.2.2
    · rw [if_neg hq] at hj; exact h6 j W hj
/-- what a plan of the state is: the days, and the sets of the days -/
def planned (need : Int32) (X : List (Nat × jF)) (k n : Nat) (ra rb : Nat → Nat) (v : Int32) (σ : Nat → Int32) : Prop :=
  ∃ F F2 : jF, F 0 = 0 ∧ fdOut need X k n ra rb F F2 v ∧ ∀ t : Nat, t < 10 → (t : Int) < v.toInt → σ t = nI (fsN F2 (lft F2 (2 ^ k - 1) t))
def darkX (need : Int32) (X : List (Nat × jF)) (k a b : Nat) (s : Int32) : Int32 := jiter (fun t n => if lookN need X k (a + t) &&& s = 0 then n + 1 else n) 0 (b + 1 - a)
theorem jiter_congr {σ : Type} {f h : Nat → σ → σ} {s : σ} : ∀ {k : Nat}, (∀ i, i < k → ∀ x, f i x = h i x) → jiter f s k = jiter h s k
  | 0, _ => rfl
  | k + 1, hh => by
    show f k (jiter f s k) = h k (jiter h s k)
    rw [jiter_congr (k := k) (fun i hi => hh i (by omega)), hh k (by omega)]
theorem darkN_look {N : jF} {need : Int32} {X : List (Nat × jF)} {k a b : Nat} {s : Int32} (h : ∀ q, q ≤ 200 → N q = lookN need X k q) (hb : b ≤ 200) : darkN N a b s = darkX need X k a b s := by
  unfold darkN darkX
  apply jiter_congr
  intro i hi x
  rw [nearT_nat (by omega), h _ (by omega)]
set_option maxHeartbeats 1000000 in
set_option maxRecDepth 100000 in
theorem c_X6_remember (g : jG) (a : Nat) (dt dn du dh dr dp : Nat → Nat) (It ft In : jF) (An : Nat → jF) (Xn : List (Nat × jF)) (Iu : jF) (Au : Nat → jF) (Xu : List (Nat × jF)) (Ih : jF) (K : Nat → Option BV) (Ar : Nat → jF) (Ip : jF) (Ap : Nat → jF) (S : BS) (hs : List BS) (hB : isB (dn, In, An, Xn) S) (hH : chist Ih K hs) : Con g yX6_remember cX6_remember 1 none 6 124 15 125 [.ref a] [xo a dt dn du dh dr dp, tc g dt It ft, bc g dn In An (lrf Xn), lts Xn, bc g du Iu Au (lrf Xu), lts Xu, hc g dh Ih (kr K), kb g K, rc g dr Ar, pcc g dp Ip Ap] (fun r b => r = none ∧ ∃ (Ih1 : jF) (K1 : Nat → Option BV), b = [xo a dt dn du dh dr dp, tc g dt It ft, bc g dn In An (lrf Xn), lts Xn, bc g du Iu Au (lrf Xu), lts Xu, hc g dh Ih1 (kr K1), kb g K1, rc g dr Ar, pcc g dp (upd Ip 3 0) Ap] ∧ chist Ih1 K1 ((S :: hs).take 8)) := by
  refine Con.of (own := RX6) (lv := [(0, .ref a)]) (by decide) rfl (Nat.le_of_ble_eq_true rfl) rfl ?_
  intro E hC hQ hN
  obtain ⟨nx, hnx, hh1, hh2, hh3, hh4, hh5⟩ := id hH
  refine j_aload_n hC dX6_remember_0 rfl rfl ?_
  refine j_get hC uX6 0 0 3 rfl rfl k145 rfl dX6_remember_1 ?_
  refine j_aload_n hC dX6_remember_4 rfl rfl ?_
  refine j_get hC uX6 0 0 1 rfl rfl k143 rfl dX6_remember_5 ?_
  refine j_callV hC [6, 7, 2, 3] (c_X1_keep g _ _ _ _ _ _ _ _ _ nx _ hB.1 hnx hh3 hh1 hh2 (fun V => hh5 nx V)) mX1_keep k223 rfl rfl rfl rfl rfl ⟨(Nat.le_of_ble_eq_true rfl), (Nat.le_of_ble_eq_true rfl)⟩ (Nat.le_of_ble_eq_true rfl) ⟨(Nat.le_of_ble_eq_true rfl), (Nat.le_of_ble_eq_true rfl)⟩ dX6_remember_8 (fun r_8 b_8 hp_8 _ => ?_)
  obtain ⟨rfl, V, I1, rfl, q1, q2, q3⟩ := hp_8
  dsimp only [jrepl, List.set, jstk]
  refine j_aload_n hC dX6_remember_11 rfl rfl ?_
  refine j_get hC uX6 0 0 5 rfl rfl k147 rfl dX6_remember_12 ?_
  refine j_callVR hC [9] (c_X3_forget g _ _ _) mX3_forget k296 rfl rfl rfl rfl rfl ⟨(Nat.le_of_ble_eq_true rfl), (Nat.le_of_ble_eq_true rfl)⟩ (Nat.le_of_ble_eq_true rfl) ⟨(Nat.le_of_ble_eq_true rfl), (Nat.le_of_ble_eq_true rfl)⟩ dX6_remember_15 ?_
  dsimp only [jrepl, List.set, jstk]
  refine j_vret hC hQ rfl (Nat.le_of_ble_eq_true rfl) (Nat.le_of_ble_eq_true rfl) dX6_remember_18 rfl ?_
  exact ⟨rfl, I1, _, rfl, chist_push hnx hh2 hh3 hh4 hh5 q1 q2 (isB_beq q3 hB)⟩
set_option maxHeartbeats 1000000 in
set_option maxRecDepth 100000 in
theorem c_X6_darkPlaces (g : jG) (a : Nat) (dt dn du dh dr dp : Nat → Nat) (It ft In : jF) (An : Nat → jF) (Xn : List (Nat × jF)) (Iu : jF) (Au : Nat → jF) (Xu : List (Nat × jF)) (Ih : jF) (K : Nat → Option BV) (Ar : Nat → jF) (Ip : jF) (Ap : Nat → jF) (S : BS) (j : Nat) (x : Int32) (hB : isB (dn, In, An, Xn) S) (hw : rswf (bRs S)) (hj : j < (bRs S).length) (hx : x = nI j) : Con g yX6_darkPlaces cX6_darkPlaces 2 (some .int) 3 66 0 0 [.ref a, .int x] [xo a dt dn du dh dr dp, tc g dt It ft, bc g dn In An (lrf Xn), lts Xn, bc g du Iu Au (lrf Xu), lts Xu, hc g dh Ih (kr K), kb g K, rc g dr Ar, pcc g dp Ip Ap] (fun r b => ∃ A1 : Nat → jF, r = some (.int (darkX (In 5) Xn (bLs S).length (raS S j) (rbS S j) 1023)) ∧ b = [xo a dt dn du dh dr dp, tc g dt It ft, bc g dn In An (lrf Xn), lts Xn, bc g du Iu Au (lrf Xu), lts Xu, hc g dh Ih (kr K), kb g K, rc g dr A1, pcc g dp Ip Ap]) := by
  refine Con.of (own := RX6) (lv := [(0, .ref a), (1, .int x)]) (by decide) rfl (Nat.le_of_ble_eq_true rfl) rfl ?_
  intro E hC hQ hN
  obtain ⟨⟨hg1, hg2, hg3, hg4⟩, hb2, hb3, hb5, hb6, hb7, hb8, hb9⟩ := id hB
  obtain ⟨hr1, hr2, hr3, hr4⟩ := isB_rok hB hw j hj
  refine j_aload_n hC dX6_darkPlaces_0 rfl rfl ?_
  refine j_get hC uX6 0 0 4 rfl rfl k146 rfl dX6_darkPlaces_1 ?_
  refine j_aload_n hC dX6_darkPlaces_4 rfl rfl ?_
  refine j_get hC uX6 0 0 1 rfl rfl k143 rfl dX6_darkPlaces_5 ?_
  refine j_callV hC [8, 2, 3] (c_X4_look g _ _ _ _ _ _ _ hg1) mX4_look k173 rfl rfl rfl rfl rfl ⟨(Nat.le_of_ble_eq_true rfl), (Nat.le_of_ble_eq_true rfl)⟩ (Nat.le_of_ble_eq_true rfl) ⟨(Nat.le_of_ble_eq_true rfl), (Nat.le_of_ble_eq_true rfl)⟩ dX6_darkPlaces_8 (fun r_8 b_8 hp_8 _ => ?_)
  obtain ⟨rfl, A1, rfl, hA1, hN⟩ := hp_8
  dsimp only [jrepl, List.set, jstk]
  refine j_aload_n hC dX6_darkPlaces_11 rfl rfl ?_
  refine j_get hC uX6 0 0 4 rfl rfl k146 rfl dX6_darkPlaces_12 ?_
  refine j_aload_n hC dX6_darkPlaces_15 rfl rfl ?_
  refine j_get hC uX6 0 0 1 rfl rfl k143 rfl dX6_darkPlaces_16 ?_
  refine j_iload_n hC dX6_darkPlaces_19 rfl rfl ?_
  refine j_callVR hC [2] (c_X0_firstPlace g _ _ _ _ _) mX0_firstPlace k199 rfl rfl rfl rfl rfl ⟨(Nat.le_of_ble_eq_true rfl), (Nat.le_of_ble_eq_true rfl)⟩ (Nat.le_of_ble_eq_true rfl) ⟨(Nat.le_of_ble_eq_true rfl), (Nat.le_of_ble_eq_true rfl)⟩ dX6_darkPlaces_20 ?_
  dsimp only [jrepl, List.set, jstk]
  rw [show firstP In An x = nI (raS S j) from (firstP_nat hg2 hg3 hj hx).trans hr1]
  refine j_aload_n hC dX6_darkPlaces_23 rfl rfl ?_
  refine j_get hC uX6 0 0 1 rfl rfl k143 rfl dX6_darkPlaces_24 ?_
  refine j_iload_n hC dX6_darkPlaces_27 rfl rfl ?_
  refine j_callVR hC [2] (c_X0_lastPlace g _ _ _ _ _) mX0_lastPlace k207 rfl rfl rfl rfl rfl ⟨(Nat.le_of_ble_eq_true rfl), (Nat.le_of_ble_eq_true rfl)⟩ (Nat.le_of_ble_eq_true rfl) ⟨(Nat.le_of_ble_eq_true rfl), (Nat.le_of_ble_eq_true rfl)⟩ dX6_darkPlaces_28 ?_
  dsimp only [jrepl, List.set, jstk]
  rw [show lastP In An x = nI (rbS S j) from (lastP_nat hg2 hg3 hj hx).trans hr2]
  refine j_sipush hC (1023) dX6_darkPlaces_31 (by decide) ?_
  refine j_callVR hC [8] (c_X4_dark g _ _ (raS S j) (rbS S j) _ _ _ rfl rfl hr3 hr4) mX4_dark k211 rfl rfl rfl rfl rfl ⟨(Nat.le_of_ble_eq_true rfl), (Nat.le_of_ble_eq_true rfl)⟩ (Nat.le_of_ble_eq_true rfl) ⟨(Nat.le_of_ble_eq_true rfl), (Nat.le_of_ble_eq_true rfl)⟩ dX6_darkPlaces_34 ?_
  dsimp only [jrepl, List.set, jstk]
  refine j_iret hC hQ rfl rfl (Nat.le_of_ble_eq_true rfl) (Nat.le_of_ble_eq_true rfl) dX6_darkPlaces_37 rfl ?_
  exact ⟨A1, by rw [darkN_look hN hr4], rfl⟩
set_option maxHeartbeats 1000000 in
set_option maxRecDepth 100000 in
theorem c_X6_countSafe (g : jG) (a : Nat) (dt dn du dh dr dp : Nat → Nat) (It ft In : jF) (An : Nat → jF) (Xn : List (Nat × jF)) (Iu : jF) (Au : Nat → jF) (Xu : List (Nat × jF)) (Ih : jF) (K : Nat → Option BV) (Ar : Nat → jF) (Ip : jF) (Ap : Nat → jF) (S : BS) (hB : isB (dn, In, An, Xn) S) (hw : rswf (bRs S)) : Con g yX6_countSafe cX6_countSafe 3 (some .int) 4 87 0 0 [.ref a] [xo a dt dn du dh dr dp, tc g dt It ft, bc g dn In An (lrf Xn), lts Xn, bc g du Iu Au (lrf Xu), lts Xu, hc g dh Ih (kr K), kb g K, rc g dr Ar, pcc g dp Ip Ap] (fun r b => ∃ A1 : Nat → jF, r = some (.int (jiter (fun j n => if darkX (In 5) Xn (bLs S).length (raS S j) (rbS S j) 1023 = 0 then n + 1 else n) 0 (bRs S).length)) ∧ b = [xo a dt dn du dh dr dp, tc g dt It ft, bc g dn In An (lrf Xn), lts Xn, bc g du Iu Au (lrf Xu), lts Xu, hc g dh Ih (kr K), kb g K, rc g dr A1, pcc g dp Ip Ap]) := by
  refine Con.of (own := RX6) (lv := [(0, .ref a)]) (by decide) rfl (Nat.le_of_ble_eq_true rfl) rfl ?_
  intro E hC hQ hN
  obtain ⟨⟨hg1, hg2, hg3, hg4⟩, hb2, hb3, hb5, hb6, hb7, hb8, hb9⟩ := id hB
  refine j_iconst hC (0) dX6_countSafe_0 (by decide) ?_
  refine j_istore_n hC dX6_countSafe_1 rfl rfl rfl rfl (fun v_1 e_1 => ?_)
  refine j_iconst hC (0) dX6_countSafe_2 (by decide) ?_
  refine j_istore_n hC dX6_countSafe_3 rfl rfl rfl rfl (fun v_3 e_3 => ?_)
  have L_4 : ∀ (fu : Nat) (i : Nat) (x1 x2 : Int32) (A1 : Nat → jF) (hfu : (bRs S).length + 1 ≤ i + fu) (hi : i ≤ (bRs S).length) (h1 : x1 = jiter (fun j n => if darkX (In 5) Xn (bLs S).length (raS S j) (rbS S j) 1023 = 0 then n + 1 else n) 0 i) (h2 : x2 = nI i), J g (jRm 4 87 0 0) E 3 4 [(0, .ref a), (1, .int x1), (2, .int x2)] [] [xo a dt dn du dh dr dp, tc g dt It ft, bc g dn In An (lrf Xn), lts Xn, bc g du Iu Au (lrf Xu), lts Xu, hc g dh Ih (kr K), kb g K, rc g dr A1, pcc g dp Ip Ap] (0) (0) := by
    intro fu
    induction fu with
    | zero => intro i x1 x2 A1 hfu hi h1 h2; exact absurd hfu (by omega)
    | succ fu ih_4 =>
      intro i x1 x2 A1 hfu hi h1 h2
      refine j_iload_n hC dX6_countSafe_4 rfl rfl ?_
      refine j_aload_n hC dX6_countSafe_5 rfl rfl ?_
      refine j_get hC uX6 0 0 1 rfl rfl k143 rfl dX6_countSafe_6 ?_
      refine j_get hC uX0 2 0 4 rfl rfl k57 rfl dX6_countSafe_9 ?_
      refine j_icmp_ge hC dX6_countSafe_12 (tgt := 32) (by decide) (fun c_12 => ?_) (fun c_12 => ?_)
      · skip
        have hik : i = (bRs S).length := Nat.le_antisymm hi (jge hg2 h2 (by omega) (by omega) c_12)
        refine j_iload_n hC dX6_countSafe_32 rfl rfl ?_
        refine j_iret hC hQ rfl rfl (Nat.le_of_ble_eq_true rfl) (Nat.le_of_ble_eq_true rfl) dX6_countSafe_33 rfl ?_
        exact ⟨A1, by rw [h1, hik], rfl⟩
      · skip
        have hik : i < (bRs S).length := jlt hg2 h2 (by omega) (by omega) c_12
        refine j_aload_n hC dX6_countSafe_15 rfl rfl ?_
        refine j_iload_n hC dX6_countSafe_16 rfl rfl ?_
        refine j_callV hC [0, 1, 2, 3, 4, 5, 6, 7, 8, 9] (c_X6_darkPlaces g _ _ _ _ _ _ _ _ _ _ _ _ _ _ _ _ _ _ _ _ S i _ hB hw hik h2) mX6_darkPlaces k413 rfl rfl rfl rfl rfl ⟨(Nat.le_of_ble_eq_true rfl), (Nat.le_of_ble_eq_true rfl)⟩ (Nat.le_of_ble_eq_true rfl) ⟨(Nat.le_of_ble_eq_true rfl), (Nat.le_of_ble_eq_true rfl)⟩ dX6_countSafe_17 (fun r_17 b_17 hp_17 _ => ?_)
        obtain ⟨A2, rfl, rfl⟩ := hp_17
        dsimp only [jrepl, List.set, jstk]
        refine j_if_ne hC dX6_countSafe_20 (tgt := 26) (by decide) (fun c_20 => ?_) (fun c_20 => ?_)
        · skip
          refine j_iinc hC (1) dX6_countSafe_26 rfl rfl rfl rfl rfl (fun v_26 e_26 => ?_)
          refine j_goto hC dX6_countSafe_29 (tgt := 4) (by decide) ?_
          refine j_pick [0, 1, 2] ?_
          exact ih_4 (i + 1) _ _ _ (by omega) (by omega) (by show _ = (if _ then _ else _); rw [← h1]; first | exact e_23.trans (if_pos c_20).symm | exact (if_neg c_20).symm) (jsucc e_26 h2)
        · skip
          refine j_iinc hC (1) dX6_countSafe_23 rfl rfl rfl rfl rfl (fun v_23 e_23 => ?_)
          refine j_iinc hC (1) dX6_countSafe_26 rfl rfl rfl rfl rfl (fun v_26 e_26 => ?_)
          refine j_goto hC dX6_countSafe_29 (tgt := 4) (by decide) ?_
          refine j_pick [0, 1, 2] ?_
          exact ih_4 (i + 1) _ _ _ (by omega) (by omega) (by show _ = (if _ then _ else _); rw [← h1]; first | exact e_23.trans (if_pos c_20).symm | exact (if_neg c_20).symm) (jsucc e_26 h2)
  refine j_pick [0, 1, 2] ?_
  exact L_4 ((bRs S).length + 1) 0 _ _ _ (by omega) (by omega) e_1 (e_3.trans nI_0.symm)
set_option maxHeartbeats 1000000 in
set_option maxRecDepth 100000 in
theorem c_X6_worstCircuit (g : jG) (a : Nat) (dt dn du dh dr dp : Nat → Nat) (It ft In : jF) (An : Nat → jF) (Xn : List (Nat × jF)) (Iu : jF) (Au : Nat → jF) (Xu : List (Nat × jF)) (Ih : jF) (K : Nat → Option BV) (Ar : Nat → jF) (Ip : jF) (Ap : Nat → jF) (S : BS) (j : Nat) (x : Int32) (hB : isB (dn, In, An, Xn) S) (hw : rswf (bRs S)) (hj : j < (bRs S).length) (hx : x = nI j) : Con g yX6_worstCircuit cX6_worstCircuit 6 (some .int) 4 94 0 0 [.ref a, .int x] [xo a dt dn du dh dr dp, tc g dt It ft, bc g dn In An (lrf Xn), lts Xn, bc g du Iu Au (lrf Xu), lts Xu, hc g dh Ih (kr K), kb g K, rc g dr Ar, pcc g dp Ip Ap] (fun r b => ∃ A1 : Nat → jF, r = some (.int (jiter (fun t (s : Int32 × Int32) => if minN Xn (bLs S).length (jiter (cOther Xn (nI (t + 1))) 0 (bLs S).length) (raS S j) (rbS S j) < s.2 then (nI (t + 1), minN Xn (bLs S).length (jiter (cOther Xn (nI (t + 1))) 0 (bLs S).length) (raS S j) (rbS S j)) else s) ((0 : Int32), minN Xn (bLs S).length (jiter (cOther Xn 0) 0 (bLs S).length) (raS S j) (rbS S j)) 3).1) ∧ b = [xo a dt dn du dh dr dp, tc g dt It ft, bc g dn In An (lrf Xn), lts Xn, bc g du Iu Au (lrf Xu), lts Xu, hc g dh Ih (kr K), kb g K, rc g dr A1, pcc g dp Ip Ap]) := by
  refine Con.of (own := RX6) (lv := [(0, .ref a), (1, .int x)]) (by decide) rfl (Nat.le_of_ble_eq_true rfl) rfl ?_
  intro E hC hQ hN
  obtain ⟨⟨hg1, hg2, hg3, hg4⟩, hb2, hb3, hb5, hb6, hb7, hb8, hb9⟩ := id hB
  obtain ⟨hr1, hr2, hr3, hr4⟩ := isB_rok hB hw j hj
  have hff := (firstP_nat (A := An) hg2 hg3 hj hx).trans hr1
  have hll := (lastP_nat (A := An) hg2 hg3 hj hx).trans hr2
  refine j_iconst hC (0) dX6_worstCircuit_0 (by decide) ?_
  refine j_istore_n hC dX6_worstCircuit_1 rfl rfl rfl rfl (fun v_1 e_1 => ?_)
  refine j_aload_n hC dX6_worstCircuit_2 rfl rfl ?_
  refine j_get hC uX6 0 0 4 rfl rfl k146 rfl dX6_worstCircuit_3 ?_
  refine j_aload_n hC dX6_worstCircuit_6 rfl rfl ?_
  refine j_get hC uX6 0 0 1 rfl rfl k143 rfl dX6_worstCircuit_7 ?_
  refine j_iload_n hC dX6_worstCircuit_10 rfl rfl ?_
  refine j_aload_n hC dX6_worstCircuit_11 rfl rfl ?_
  refine j_get hC uX6 0 0 1 rfl rfl k143 rfl dX6_worstCircuit_12 ?_
  refine j_iconst hC (0) dX6_worstCircuit_15 (by decide) ?_
  refine j_callVR hC [2, 3] (c_X0_withoutCircuit g _ _ _ _ _ _ hg1) mX0_withoutCircuit k511 rfl rfl rfl rfl rfl ⟨(Nat.le_of_ble_eq_true rfl), (Nat.le_of_ble_eq_true rfl)⟩ (Nat.le_of_ble_eq_true rfl) ⟨(Nat.le_of_ble_eq_true rfl), (Nat.le_of_ble_eq_true rfl)⟩ dX6_worstCircuit_16 ?_
  dsimp only [jrepl, List.set, jstk]
  refine j_callV hC [8, 2, 3] (c_X4_minutes g _ _ _ _ _ _ _ (raS S j) (rbS S j) _ _ hg1 hff hll hr3 hr4) mX4_minutes k496 rfl rfl rfl rfl rfl ⟨(Nat.le_of_ble_eq_true rfl), (Nat.le_of_ble_eq_true rfl)⟩ (Nat.le_of_ble_eq_true rfl) ⟨(Nat.le_of_ble_eq_true rfl), (Nat.le_of_ble_eq_true rfl)⟩ dX6_worstCircuit_19 (fun r_19 b_19 hp_19 _ => ?_)
  obtain ⟨A1, rfl, rfl, hA1⟩ := hp_19
  dsimp only [jrepl, List.set, jstk]
  refine j_istore_n hC dX6_worstCircuit_22 rfl rfl rfl rfl (fun v_22 e_22 => ?_)
  refine j_iconst hC (1) dX6_worstCircuit_23 (by decide) ?_
  refine j_istore hC dX6_worstCircuit_24 rfl rfl rfl (fun v_24 e_24 => ?_)
  have L_26 : ∀ (fu : Nat) (t : Nat) (x2 x3 x4 : Int32) (A1b : Nat → jF) (hfu : 4 ≤ t + fu) (ht : t ≤ 3) (h23 : (x2, x3) = jiter (fun t (s : Int32 × Int32) => if minN Xn (bLs S).length (jiter (cOther Xn (nI (t + 1))) 0 (bLs S).length) (raS S j) (rbS S j) < s.2 then (nI (t + 1), minN Xn (bLs S).length (jiter (cOther Xn (nI (t + 1))) 0 (bLs S).length) (raS S j) (rbS S j)) else s) ((0 : Int32), minN Xn (bLs S).length (jiter (cOther Xn 0) 0 (bLs S).length) (raS S j) (rbS S j)) t) (h4 : x4 = nI (t + 1)), J g (jRm 4 94 0 0) E 6 26 [(0, .ref a), (1, .int x), (2, .int x2), (3, .int x3), (4, .int x4)] [] [xo a dt dn du dh dr dp, tc g dt It ft, bc g dn In An (lrf Xn), lts Xn, bc g du Iu Au (lrf Xu), lts Xu, hc g dh Ih (kr K), kb g K, rc g dr A1b, pcc g dp Ip Ap] (0) (0) := by
    intro fu
    induction fu with
    | zero => intro t x2 x3 x4 A1b hfu ht h23 h4; exact absurd hfu (by omega)
    | succ fu ih_26 =>
      intro t x2 x3 x4 A1b hfu ht h23 h4
      refine j_iload hC dX6_worstCircuit_26 rfl ?_
      refine j_iconst hC (3) dX6_worstCircuit_28 (by decide) ?_
      refine j_icmp_gt hC dX6_worstCircuit_29 (tgt := 73) (by decide) (fun c_29 => ?_) (fun c_29 => ?_)
      · skip
        refine j_iload_n hC dX6_worstCircuit_73 rfl rfl ?_
        refine j_iret hC hQ rfl rfl (Nat.le_of_ble_eq_true rfl) (Nat.le_of_ble_eq_true rfl) dX6_worstCircuit_74 rfl ?_
        (have q2 := jgt h4 (by omega) c_29; rw [show (3 : Int32).toInt = 3 by decide] at q2; have e3 : t = 3 := (by omega); rw [e3] at h23; exact ⟨A1b, congrArg (fun z => some (Value.int z)) (congrArg Prod.fst h23), rfl⟩)
      · skip
        have ht3 : t < 3 := by have q := jngt h4 (by omega) c_29; rw [show (3 : Int32).toInt = 3 by decide] at q; omega
        refine j_aload_n hC dX6_worstCircuit_32 rfl rfl ?_
        refine j_get hC uX6 0 0 4 rfl rfl k146 rfl dX6_worstCircuit_33 ?_
        refine j_aload_n hC dX6_worstCircuit_36 rfl rfl ?_
        refine j_get hC uX6 0 0 1 rfl rfl k143 rfl dX6_worstCircuit_37 ?_
        refine j_iload_n hC dX6_worstCircuit_40 rfl rfl ?_
        refine j_aload_n hC dX6_worstCircuit_41 rfl rfl ?_
        refine j_get hC uX6 0 0 1 rfl rfl k143 rfl dX6_worstCircuit_42 ?_
        refine j_iload hC dX6_worstCircuit_45 rfl ?_
        refine j_callVR hC [2, 3] (c_X0_withoutCircuit g _ _ _ _ _ _ hg1) mX0_withoutCircuit k511 rfl rfl rfl rfl rfl ⟨(Nat.le_of_ble_eq_true rfl), (Nat.le_of_ble_eq_true rfl)⟩ (Nat.le_of_ble_eq_true rfl) ⟨(Nat.le_of_ble_eq_true rfl), (Nat.le_of_ble_eq_true rfl)⟩ dX6_worstCircuit_47 ?_
        dsimp only [jrepl, List.set, jstk]
        refine j_callV hC [8, 2, 3] (c_X4_minutes g _ _ _ _ _ _ _ (raS S j) (rbS S j) _ _ hg1 hff hll hr3 hr4) mX4_minutes k496 rfl rfl rfl rfl rfl ⟨(Nat.le_of_ble_eq_true rfl), (Nat.le_of_ble_eq_true rfl)⟩ (Nat.le_of_ble_eq_true rfl) ⟨(Nat.le_of_ble_eq_true rfl), (Nat.le_of_ble_eq_true rfl)⟩ dX6_worstCircuit_50 (fun r_50 b_50 hp_50 _ => ?_)
        obtain ⟨A2, rfl, rfl, hA2⟩ := hp_50
        dsimp only [jrepl, List.set, jstk]
        refine j_istore hC dX6_worstCircuit_53 rfl rfl rfl (fun v_53 e_53 => ?_)
        refine j_iload hC dX6_worstCircuit_55 rfl ?_
        refine j_iload_n hC dX6_worstCircuit_57 rfl rfl ?_
        refine j_icmp_ge hC dX6_worstCircuit_58 (tgt := 67) (by decide) (fun c_58 => ?_) (fun c_58 => ?_)
        · skip
          refine j_iinc hC (1) dX6_worstCircuit_67 rfl rfl rfl rfl rfl (fun v_67 e_67 => ?_)
          refine j_goto hC dX6_worstCircuit_70 (tgt := 26) (by decide) ?_
          refine j_pick [0, 1, 2, 3, 4] ?_
          exact ih_26 (t + 1) _ _ _ _ (by omega) (by omega) (by rw [h4] at e_53; show _ = (if _ then _ else _); rw [← h23]; first | (rw [if_neg (by rw [← e_53]; exact Int32.not_lt.mpr c_58)]) | (rw [if_pos (by rw [← e_53]; exact Int32.not_le.mp c_58), e_63, e_66, h4, e_53])) (jsucc e_67 h4)
        · skip
          refine j_iload hC dX6_worstCircuit_61 rfl ?_
          refine j_istore_n hC dX6_worstCircuit_63 rfl rfl rfl rfl (fun v_63 e_63 => ?_)
          refine j_iload hC dX6_worstCircuit_64 rfl ?_
          refine j_istore_n hC dX6_worstCircuit_66 rfl rfl rfl rfl (fun v_66 e_66 => ?_)
          refine j_iinc hC (1) dX6_worstCircuit_67 rfl rfl rfl rfl rfl (fun v_67 e_67 => ?_)
          refine j_goto hC dX6_worstCircuit_70 (tgt := 26) (by decide) ?_
          refine j_pick [0, 1, 2, 3, 4] ?_
          exact ih_26 (t + 1) _ _ _ _ (by omega) (by omega) (by rw [h4] at e_53; show _ = (if _ then _ else _); rw [← h23]; first | (rw [if_neg (by rw [← e_53]; exact Int32.not_lt.mpr c_58)]) | (rw [if_pos (by rw [← e_53]; exact Int32.not_le.mp c_58), e_63, e_66, h4, e_53])) (jsucc e_67 h4)
  refine j_pick [0, 1, 2, 3, 4] ?_
  exact L_26 (4) 0 _ _ _ _ (by omega) (by omega) (by rw [e_1, e_22]; rfl) e_24
set_option maxHeartbeats 1000000 in
set_option maxRecDepth 100000 in
theorem c_X6_daysWithLamp (g : jG) (a : Nat) (dt dn du dh dr dp : Nat → Nat) (It ft In : jF) (An : Nat → jF) (Xn : List (Nat × jF)) (Iu : jF) (Au : Nat → jF) (Xu : List (Nat × jF)) (Ih : jF) (K : Nat → Option BV) (Ar : Nat → jF) (Ip : jF) (Ap : Nat → jF) (S : BS) (j : Nat) (x y : Int32) (hB : isB (dn, In, An, Xn) S) (hw : rswf (bRs S)) (hu : Xu.length ≤ 10) (hj : j < (bLs S).length) (hx : x = nI j) : Con g yX6_daysWithLamp cX6_daysWithLamp 4 (some .int) 5 103 10 90 [.ref a, .int x, .int y] [xo a dt dn du dh dr dp, tc g dt It ft, bc g dn In An (lrf Xn), lts Xn, bc g du Iu Au (lrf Xu), lts Xu, hc g dh Ih (kr K), kb g K, rc g dr Ar, pcc g dp Ip Ap] (fun r b => ∃ (v : Int32) (Iu1 : jF) (Au1 : Nat → jF) (Y : List (Nat × jF)) (A1 : Nat → jF) (F2 : jF), r = some (.int v) ∧ b = [xo a dt dn du dh dr dp, tc g dt It ft, bc g dn In An (lrf Xn), lts Xn, bc g du Iu1 Au1 (lrf Y), lts Y, hc g dh Ih (kr K), kb g K, rc g dr A1, pcc g dp Ip (va_up Ap 0 F2)] ∧ Y.length ≤ 10 ∧ (∀ i, i < (bLs S).length → jL Y i = if i = j then putL (jL Xn i) y else jL Xn i) ∧ fdOut (In 5) Y (bLs S).length (bRs S).length (raS S) (rbS S) (Ap 0) F2 v) := by
  refine Con.of (own := RX6) (lv := [(0, .ref a), (1, .int x), (2, .int y)]) (by decide) rfl (Nat.le_of_ble_eq_true rfl) rfl ?_
  intro E hC hQ hN
  obtain ⟨⟨hg1, hg2, hg3, hg4⟩, hb2, hb3, hb5, hb6, hb7, hb8, hb9⟩ := id hB
  refine j_aload_n hC dX6_daysWithLamp_0 rfl rfl ?_
  refine j_get hC uX6 0 0 2 rfl rfl k144 rfl dX6_daysWithLamp_1 ?_
  refine j_aload_n hC dX6_daysWithLamp_4 rfl rfl ?_
  refine j_get hC uX6 0 0 1 rfl rfl k143 rfl dX6_daysWithLamp_5 ?_
  refine j_callV hC [4, 5, 2, 3] (c_X0_copyFrom g _ _ _ _ _ _ _ _ _ _ hg1 hu hg2 hg3 hg4) mX0_copyFrom k578 rfl rfl rfl rfl rfl ⟨(Nat.le_of_ble_eq_true rfl), (Nat.le_of_ble_eq_true rfl)⟩ (Nat.le_of_ble_eq_true rfl) ⟨(Nat.le_of_ble_eq_true rfl), (Nat.le_of_ble_eq_true rfl)⟩ dX6_daysWithLamp_8 (fun r_8 b_8 hp_8 _ => ?_)
  obtain ⟨rfl, Iu1, Au1, Y, rfl, hI1, hY, hAr, hA2⟩ := hp_8
  have hbu : bok Iu1 Y (bLs S).length := ⟨(hI1 1 (by simp)).trans hg1.1, hY.1, hY.2.1⟩
  have hjY : j < Y.length := by have := hY.1; omega
  dsimp only [jrepl, List.set, jstk]
  refine j_aload_n hC dX6_daysWithLamp_11 rfl rfl ?_
  refine j_get hC uX6 0 0 2 rfl rfl k144 rfl dX6_daysWithLamp_12 ?_
  refine j_iload_n hC dX6_daysWithLamp_15 rfl rfl ?_
  refine j_callVR hC [4] (c_X0_find_in g _ _ _ _ _ _ _ hbu hj hx) mX0_find k365 rfl rfl rfl rfl rfl ⟨(Nat.le_of_ble_eq_true rfl), (Nat.le_of_ble_eq_true rfl)⟩ (Nat.le_of_ble_eq_true rfl) ⟨(Nat.le_of_ble_eq_true rfl), (Nat.le_of_ble_eq_true rfl)⟩ dX6_daysWithLamp_16 ?_
  dsimp only [jrepl, List.set, jstk]
  refine j_astore_n hC dX6_daysWithLamp_19 rfl rfl rfl rfl ?_
  refine j_aload_n hC dX6_daysWithLamp_20 rfl rfl ?_
  refine j_ifnonnull hC dX6_daysWithLamp_21 (tgt := 27) (by decide) ?_
  refine j_aload_n hC dX6_daysWithLamp_27 rfl rfl ?_
  refine j_iload_n hC dX6_daysWithLamp_28 rfl rfl ?_
  refine j_focus j 5 (jX_get (X := Y) hjY) rfl ?_
  dsimp only [List.set, List.cons_append, List.nil_append]
  refine j_callVR hC [10] (c_X2_putLamp g _ _ _) mX2_putLamp k579 rfl rfl rfl rfl rfl ⟨(Nat.le_of_ble_eq_true rfl), (Nat.le_of_ble_eq_true rfl)⟩ (Nat.le_of_ble_eq_true rfl) ⟨(Nat.le_of_ble_eq_true rfl), (Nat.le_of_ble_eq_true rfl)⟩ dX6_daysWithLamp_29 ?_
  dsimp only [jrepl, List.set, jstk]
  refine j_unfocus j 5 (jX_get (X := Y) hjY) rfl rfl rfl ?_
  dsimp only [List.set, List.dropLast]
  rw [lrf_set (L := putL (jL Y j) y) hjY]
  refine j_aload_n hC dX6_daysWithLamp_32 rfl rfl ?_
  refine j_get hC uX6 0 0 5 rfl rfl k147 rfl dX6_daysWithLamp_33 ?_
  refine j_aload_n hC dX6_daysWithLamp_36 rfl rfl ?_
  refine j_get hC uX6 0 0 2 rfl rfl k144 rfl dX6_daysWithLamp_37 ?_
  refine j_aload_n hC dX6_daysWithLamp_40 rfl rfl ?_
  refine j_get hC uX6 0 0 4 rfl rfl k146 rfl dX6_daysWithLamp_41 ?_
  have hbu2 : bok Iu1 (Y.set j (jAd Y j, putL (jL Y j) y)) (bLs S).length := ⟨hbu.1, by rw [List.length_set]; exact hbu.2.1, by rw [List.length_set]; exact hbu.2.2⟩
  have hrk : rok Au1 (raS S) (rbS S) (bRs S).length := fun r hr => by rw [(hAr r hr).1, (hAr r hr).2]; exact isB_rok hB hw r hr
  refine j_callV hC [9, 4, 5, 8] (c_X3_fewestDays g _ _ _ _ _ _ _ _ _ _ (bRs S).length (raS S) (rbS S) hbu2 ((hI1 4 (by simp)).trans hg2) hg3 hrk) mX3_fewestDays k580 rfl rfl rfl rfl rfl ⟨(Nat.le_of_ble_eq_true rfl), (Nat.le_of_ble_eq_true rfl)⟩ (Nat.le_of_ble_eq_true rfl) ⟨(Nat.le_of_ble_eq_true rfl), (Nat.le_of_ble_eq_true rfl)⟩ dX6_daysWithLamp_44 (fun r_44 b_44 hp_44 _ => ?_)
  obtain ⟨v, F2, A4, rfl, rfl, hF⟩ := hp_44
  dsimp only [jrepl, List.set, jstk]
  refine j_iret hC hQ rfl rfl (Nat.le_of_ble_eq_true rfl) (Nat.le_of_ble_eq_true rfl) dX6_daysWithLamp_47 rfl ?_
  exact ⟨v, Iu1, Au1, _, A4, F2, rfl, rfl, hbu2.2.2, fun i hi => (Nat.lt_trichotomy i j).elim (fun q => by rw [if_neg (by omega), jL_set_ne (by omega), hY.2.2 i hi]) (fun w => w.elim (fun q => by rw [q, if_pos rfl, jL_set hjY, hY.2.2 j hj]) (fun q => by rw [if_neg (by omega), jL_set_ne (by omega), hY.2.2 i hi])), by have q := hI1 5 (by simp); rw [show In 5 = Iu1 5 from q.symm]; exact hF⟩
