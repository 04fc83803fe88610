/-! the model's changes -/
theorem mw_o {g : jG} {d : Nat → Nat} {o : Int32 × St3} {v : Int32} {T : St3} {I : jF} {A : Nat → jF} (h : o = (v, T)) (hc : MI I A T) : some (Value.int v) = some (Value.int o.1) ∧ MW g d o.2 [mc g d I A] := by
  rw [h]; exact ⟨rfl, I, A, rfl, hc⟩
theorem mw_c {g : jG} {d : Nat → Nat} {o : Int32 × St3} {v w : Int32} {T : St3} {I : jF} {A : Nat → jF} (h : o = (v, T)) (hv : w = v) (hc : MI I A T) : some (Value.int w) = some (Value.int o.1) ∧ MW g d o.2 [mc g d I A] := by
  rw [h, hv]; exact ⟨rfl, I, A, rfl, hc⟩
theorem in_t {x y z : Int32} (h : in01 x y z) : y.toInt ≤ x.toInt ∧ x.toInt ≤ z.toInt := ⟨ile_t.mp h.1, ile_t.mp h.2⟩
theorem len_eq {n m : Nat} {v c : Int32} (h : v = nI n) (hc : v = c) (e : c = nI m) (hn : n < 2 ^ 31) (hm : m < 2 ^ 31) : n = m := nI_injN hn hm (h.symm.trans (hc.trans e))
theorem sn_bad {T : St3} {x : Int32} (h : ¬ in01 x 1 180) : oSetNeed T x = (-1, T) := by
  unfold oSetNeed
  by_cases q : x < 1
  · rw [if_pos q]
  · rw [if_neg q, if_neg (fun w => h ⟨Int32.not_lt.mp q, w⟩)]
theorem sn_ok {T : St3} {x : Int32} (h : in01 x 1 180) : oSetNeed T x = (bNeed T.1, oPush T (sNeed T.1 x)) := by
  unfold oSetNeed
  rw [if_neg (Int32.not_lt.mpr h.1), if_pos h.2]
theorem ss_bad {T : St3} {x y : Int32} (h : ¬ (in01 x 0 2 ∧ in01 y 0 99)) : oSetStock T x y = (-1, T) := by
  unfold oSetStock
  rw [in_iff, in_iff] at h
  by_cases q : okLamp x
  · by_cases w : y < 0
    · rw [if_pos (Or.inr (Or.inl w))]
    · by_cases z : 99 < y
      · rw [if_pos (Or.inr (Or.inr z))]
      · exact absurd ⟨q, w, z⟩ h
  · rw [if_pos (Or.inl q)]
theorem ss_ok {T : St3} {x y : Int32} (h : in01 x 0 2) (h2 : in01 y 0 99) : oSetStock T x y = (stk (bSt T.1) x, oPush T (sSt T.1 (stTo (bSt T.1) x y))) := by
  unfold oSetStock
  rw [in_iff] at h h2
  rw [if_neg (fun q => q.elim (fun w => w h) (fun w => w.elim h2.1 h2.2))]
theorem sa_bad {T : St3} {p c b l : Int32} (h : ¬ (in01 p 0 200 ∧ in01 c 0 3 ∧ in01 b 0 3 ∧ in01 l 0 2)) : oAdd T p c b l = (-1, T) := by
  unfold oAdd
  rw [in_iff, in_iff, in_iff, in_iff] at h
  refine if_pos (Decidable.byContradiction (fun q => h ?_))
  refine ⟨Decidable.byContradiction (fun w => q (Or.inl w)), ⟨fun w => q (Or.inr (Or.inl w)), fun w => q (Or.inr (Or.inr (Or.inl w)))⟩, ⟨fun w => q (Or.inr (Or.inr (Or.inr (Or.inl w)))), fun w => q (Or.inr (Or.inr (Or.inr (Or.inr (Or.inl w)))))⟩, Decidable.byContradiction (fun w => q (Or.inr (Or.inr (Or.inr (Or.inr (Or.inr w))))))⟩
theorem sa_full {T : St3} {p c b l : Int32} (h : in01 p 0 200 ∧ in01 c 0 3 ∧ in01 b 0 3 ∧ in01 l 0 2) : oAdd T p c b l = if (bLs T.1).length < 10 then (nI (bLs T.1).length, oPush T (sLs T.1 (bLs T.1 ++ [newL p c b l 0]))) else (-3, T) := by
  unfold oAdd
  rw [in_iff, in_iff, in_iff, in_iff] at h
  obtain ⟨h1, h2, h3, h4⟩ := h
  rw [if_neg (fun q => q.elim (fun w => w h1) (fun w => w.elim h2.1 (fun w => w.elim h2.2 (fun w => w.elim h3.1 (fun w => w.elim h3.2 (fun w => w h4))))))]
theorem sr_bad {T : St3} {x y : Int32} (h : ¬ (in01 x 0 200 ∧ in01 y x 200)) : oRoute T x y = (-1, T) := by
  unfold oRoute
  refine if_pos (Decidable.byContradiction (fun q => h ?_))
  rw [in_iff, in_iff]
  have q1 : okPlace x := Decidable.byContradiction (fun w => q (Or.inl w))
  have q2 : okPlace y := Decidable.byContradiction (fun w => q (Or.inr (Or.inl w)))
  exact ⟨q1, fun w => q (Or.inr (Or.inr w)), q2.2⟩
theorem sr_full {T : St3} {x y : Int32} (h : in01 x 0 200) (h2 : in01 y x 200) : oRoute T x y = if (bRs T.1).length < 6 then (nI (bRs T.1).length, oPush T (sRs T.1 (bRs T.1 ++ [(x, y)]))) else (-3, T) := by
  unfold oRoute
  have q1 := in_iff.mp h
  have q2 := in_iff.mp h2
  refine if_neg (fun q => q.elim (fun w => w q1) (fun w => w.elim (fun w => w ⟨fun z => ?_, q2.2⟩) q2.1))
  have a := ilt_t.mp z
  have b := (in_t h).1
  have c := (in_t h2).1
  omega
theorem r_idx {v : Int32} {n : Nat} (h : v = nI n) : 92 + 2 * v = nI (92 + 2 * n) := by
  rw [h, show (2 : Int32) = nI 2 from rfl, show (92 : Int32) = nI 92 from rfl, pk_mul, nI_add]
theorem r_idx1 {v : Int32} {n : Nat} (h : v = nI n) : 92 + 2 * v + 1 = nI (92 + 2 * n + 1) := by
  rw [r_idx h]; exact nI_1 _
theorem shf {P P1 Q : jF} {m lo dl : Nat} (h : ∀ q, P1 q = if lo ≤ q ∧ q < m then P (q + dl) else P q) (hd : 0 < dl) (hm : lo ≤ m) (e : Q = upd P1 m (P1 (m + dl))) : ∀ q, Q q = if lo ≤ q ∧ q < m + 1 then P (q + dl) else P q := by
  intro q
  rw [e]
  by_cases w : q = m
  · rw [w, pk_us, h (m + dl), if_neg (by omega), if_pos (by omega)]
  · rw [pk_un w, h q]
    by_cases w2 : lo ≤ q ∧ q < m
    · rw [if_pos w2, if_pos (by omega)]
    · rw [if_neg w2, if_neg (by omega)]
theorem MT_push {I f f' : jF} {ts : List Int32} {x : Int32} (h : MT I f ts) (h8 : ts.length < 80) (hx : 33 ≤ x.toInt ∧ x.toInt ≤ 126) (e : f' = upd f ts.length x) : MT (upd I 3 (I 3 + 1)) f' (ts ++ [x]) := by
  obtain ⟨h1, h2, h3⟩ := h
  subst e
  refine ⟨by rw [pk_us, h1, List.length_append]; exact nI_1 _, by rw [List.length_append]; show _ + 1 ≤ 80; omega, fun i hi => ?_⟩
  rcases Nat.lt_or_ge i ts.length with w | w
  · rw [List.getElem?_append_left w, pk_un (by omega)]; exact h3 i w
  · have e : i = ts.length := by rw [List.length_append] at hi; have : i < ts.length + 1 := hi; omega
    subst e
    rw [pk_us]
    exact ⟨by rw [List.getElem?_append_right (Nat.le_refl _)]; simp, hx⟩
theorem MT_I {I J f : jF} {ts : List Int32} (h : MT I f ts) (e : J 3 = I 3) : MT J f ts := by
  unfold MT; rw [e]; exact h
theorem MI_text {I J : jF} {A B : Nat → jF} {T : St3} {ts : List Int32} (h : MI I A T) (h1 : J 1 = I 1) (h2 : B 1 = A 1) (ht : MT J (B 2) ts) : MI J B (T.1, T.2.1, ts) := by
  obtain ⟨g1, g2, g3, g4⟩ := h
  exact ⟨h1.trans g1, by rw [h2]; exact g2, by rw [h2]; exact g3, ht⟩
theorem cpy0 {P P1 Q : jF} {m M : Nat} (h : ∀ q, P1 q = if q < m then P (111 * M + q) else P q) (hm : m < 111) (hM : 1 ≤ M) (e : Q = upd P1 m (P1 (111 * M + m))) : ∀ q, Q q = if q < m + 1 then P (111 * M + q) else P q := by
  intro q
  rw [e]
  by_cases w : q = m
  · rw [w, pk_us, h (111 * M + m), if_neg (by omega), if_pos (by omega)]
  · rw [pk_un w, h q]
    by_cases w2 : q < m
    · rw [if_pos w2, if_pos (by omega)]
    · rw [if_neg w2, if_neg (by omega)]
theorem MI_pop {I : jF} {A B : Nat → jF} {T : St3} {S : BS} {tl : List BS} (h : MI I A T) (e : T.2.1 = S :: tl) (hP : ∀ q, B 1 q = if q < 111 then A 1 (111 * T.2.1.length + q) else A 1 q) (hK : ∀ q, q ≠ 1 → B q = A q) : MI (upd I 1 (I 1 - 1)) B (S, tl, T.2.2) := by
  obtain ⟨g1, g2, g3, g4⟩ := h
  have hlen : T.2.1.length = tl.length + 1 := by rw [e]; rfl
  have h8 := g3.1
  refine ⟨?_, ?_, ⟨by show tl.length ≤ 8; omega, fun q hq => ?_⟩, ?_⟩
  · rw [pk_us, g1, hlen]; exact nI_pred _
  · obtain ⟨S', h1, h2⟩ := g3.2 0 (by omega)
    rw [e] at h1
    have h1 : some S = some S' := h1
    rw [show S = S' from Option.some.inj h1]
    exact MP_eq h2 (fun k hk => by show B 1 k = A 1 (111 * (T.2.1.length - 0) + k); rw [hP, if_pos hk]; rfl)
  · have hq : q < tl.length := hq
    obtain ⟨S', h1, h2⟩ := g3.2 (q + 1) (by omega)
    rw [e] at h1
    exact ⟨S', h1, MP_eq h2 (fun k hk => by show B 1 (111 * (tl.length - q) + k) = A 1 (111 * (T.2.1.length - (q + 1)) + k); rw [hP, if_neg (by omega), hlen]; exact congrArg (A 1) (by omega))⟩
  · show MT (upd I 1 (I 1 - 1)) (B 2) T.2.2
    rw [hK 2 (by decide)]
    exact MT_I g4 (pk_un (by decide))
set_option maxHeartbeats 1000000 in
set_option maxRecDepth 100000 in
theorem c_X7_setNeed (g : jG) (d : Nat → Nat) (T : St3) (b : List va_W) (x : Int32) (h : MW g d T b) : Con g yX7_setNeed cX7_setNeed 3 (some .int) 1 22 0 0 [.ref (d 0), .int x] b (fun rr bb => rr = some (.int (oSetNeed T x).1) ∧ MW g d (oSetNeed T x).2 bb) := by
  obtain ⟨I, A, rfl, hMI⟩ := h
  obtain ⟨hm1, hmp, hmh, hmt⟩ := id hMI
  obtain ⟨⟨hq0, hk10⟩, hql, ⟨hq91, hn6⟩, hqr, ⟨hq4, hnd⟩, ⟨hq5, hqh⟩, ⟨hq6, hqs⟩, hq9, hq10⟩ := id hmp
  refine Con.of (own := RX7) (lv := [(0, .ref (d 0)), (1, .int x)]) (by decide) rfl (Nat.le_of_ble_eq_true rfl) rfl ?_
  intro E hC hQ hN
  refine j_iload_n hC dX7_setNeed_0 rfl rfl ?_
  refine j_iconst hC (1) dX7_setNeed_1 (by decide) ?_
  refine j_sipush hC (180) dX7_setNeed_2 (by decide) ?_
  refine j_callSR hC [] (c_X7_in g _ _ _) mX7_in k781 rfl rfl rfl ⟨(Nat.le_of_ble_eq_true rfl), (Nat.le_of_ble_eq_true rfl)⟩ (Nat.le_of_ble_eq_true rfl) ⟨(Nat.le_of_ble_eq_true rfl), (Nat.le_of_ble_eq_true rfl)⟩ dX7_setNeed_5 ?_
  dsimp only [jrepl, List.set, jstk]
  refine j_if_ne hC dX7_setNeed_8 (tgt := 13) (by decide) (fun c_8 => ?_) (fun c_8 => ?_)
  · skip
    refine j_aload_n hC dX7_setNeed_13 rfl rfl ?_
    refine j_callV hC [0] (c_X7_records g _ _ _ T hMI) mX7_records k791 rfl rfl rfl rfl rfl ⟨(Nat.le_of_ble_eq_true rfl), (Nat.le_of_ble_eq_true rfl)⟩ (Nat.le_of_ble_eq_true rfl) ⟨(Nat.le_of_ble_eq_true rfl), (Nat.le_of_ble_eq_true rfl)⟩ dX7_setNeed_14 (fun r_14 b_14 hp_14 _ => ?_)
    obtain ⟨rfl, I_14, A_14, rfl, hR_14⟩ := hp_14
    have hP_14 : MP (A_14 1) T.1 := hR_14.2.1
    dsimp only [jrepl, List.set, jstk]
    refine j_aload_n hC dX7_setNeed_17 rfl rfl ?_
    refine j_get hC uX7 0 0 0 rfl rfl k724 rfl dX7_setNeed_18 ?_
    refine j_bipush hC (104) dX7_setNeed_21 (by decide) ?_
    refine j_ildN hC (m := 104) 0 1 rfl rfl (by decide) (by decide) dX7_setNeed_23 ?_
    refine j_istore_n hC dX7_setNeed_24 rfl rfl rfl rfl (fun v_24 e_24 => ?_)
    refine j_aload_n hC dX7_setNeed_25 rfl rfl ?_
    refine j_get hC uX7 0 0 0 rfl rfl k724 rfl dX7_setNeed_26 ?_
    refine j_bipush hC (104) dX7_setNeed_29 (by decide) ?_
    refine j_iload_n hC dX7_setNeed_31 rfl rfl ?_
    refine j_st_7_1 (bi := 0) (m := 104) hC rfl (by decide) (by decide) dX7_setNeed_32 (fun A_32 hA_32 hK_32 => ?_)
    dsimp only [List.set]
    refine j_iload_n hC dX7_setNeed_33 rfl rfl ?_
    refine j_iret hC hQ rfl rfl (Nat.le_of_ble_eq_true rfl) (Nat.le_of_ble_eq_true rfl) dX7_setNeed_34 rfl ?_
    exact mw_c (sn_ok (jb1 c_8)) (e_24.trans hP_14.2.2.2.2.1.1) (mi_set hR_14 hK_32 (fun q h1 _ => by rw [hA_32, pk_un (by omega)]) (MP_need hP_14 hA_32 (in_t (jb1 c_8))))
  · skip
    refine j_iconst hC (-1) dX7_setNeed_11 (by decide) ?_
    refine j_iret hC hQ rfl rfl (Nat.le_of_ble_eq_true rfl) (Nat.le_of_ble_eq_true rfl) dX7_setNeed_12 rfl ?_
    exact mw_o (sn_bad (jb0 c_8)) hMI
set_option maxHeartbeats 1000000 in
set_option maxRecDepth 100000 in
theorem c_X7_setStock (g : jG) (d : Nat → Nat) (T : St3) (b : List va_W) (x y : Int32) (h : MW g d T b) : Con g yX7_setStock cX7_setStock 4 (some .int) 2 42 0 0 [.ref (d 0), .int x, .int y] b (fun rr bb => rr = some (.int (oSetStock T x y).1) ∧ MW g d (oSetStock T x y).2 bb) := by
  obtain ⟨I, A, rfl, hMI⟩ := h
  obtain ⟨hm1, hmp, hmh, hmt⟩ := id hMI
  obtain ⟨⟨hq0, hk10⟩, hql, ⟨hq91, hn6⟩, hqr, ⟨hq4, hnd⟩, ⟨hq5, hqh⟩, ⟨hq6, hqs⟩, hq9, hq10⟩ := id hmp
  refine Con.of (own := RX7) (lv := [(0, .ref (d 0)), (1, .int x), (2, .int y)]) (by decide) rfl (Nat.le_of_ble_eq_true rfl) rfl ?_
  intro E hC hQ hN
  refine j_iload_n hC dX7_setStock_0 rfl rfl ?_
  refine j_callSR hC [] (c_X7_isLamp g _) mX7_isLamp k784 rfl rfl rfl ⟨(Nat.le_of_ble_eq_true rfl), (Nat.le_of_ble_eq_true rfl)⟩ (Nat.le_of_ble_eq_true rfl) ⟨(Nat.le_of_ble_eq_true rfl), (Nat.le_of_ble_eq_true rfl)⟩ dX7_setStock_1 ?_
  dsimp only [jrepl, List.set, jstk]
  refine j_if_eq hC dX7_setStock_4 (tgt := 17) (by decide) (fun c_4 => ?_) (fun c_4 => ?_)
  · skip
    refine j_iconst hC (-1) dX7_setStock_17 (by decide) ?_
    refine j_iret hC hQ rfl rfl (Nat.le_of_ble_eq_true rfl) (Nat.le_of_ble_eq_true rfl) dX7_setStock_18 rfl ?_
    first | exact mw_o (ss_bad (fun q => jb0 c_4 q.1)) hMI | exact mw_o (ss_bad (fun q => jb0 c_14 q.2)) hMI
  · skip
    refine j_iload_n hC dX7_setStock_7 rfl rfl ?_
    refine j_iconst hC (0) dX7_setStock_8 (by decide) ?_
    refine j_bipush hC (99) dX7_setStock_9 (by decide) ?_
    refine j_callSR hC [] (c_X7_in g _ _ _) mX7_in k781 rfl rfl rfl ⟨(Nat.le_of_ble_eq_true rfl), (Nat.le_of_ble_eq_true rfl)⟩ (Nat.le_of_ble_eq_true rfl) ⟨(Nat.le_of_ble_eq_true rfl), (Nat.le_of_ble_eq_true rfl)⟩ dX7_setStock_11 ?_
    dsimp only [jrepl, List.set, jstk]
    refine j_if_ne hC dX7_setStock_14 (tgt := 19) (by decide) (fun c_14 => ?_) (fun c_14 => ?_)
    · skip
      obtain ⟨l, hl, hx⟩ := in_nat (M := 2) (m := 2) rfl (by decide) (jb1 c_4)
      refine j_aload_n hC dX7_setStock_19 rfl rfl ?_
      refine j_callV hC [0] (c_X7_records g _ _ _ T hMI) mX7_records k791 rfl rfl rfl rfl rfl ⟨(Nat.le_of_ble_eq_true rfl), (Nat.le_of_ble_eq_true rfl)⟩ (Nat.le_of_ble_eq_true rfl) ⟨(Nat.le_of_ble_eq_true rfl), (Nat.le_of_ble_eq_true rfl)⟩ dX7_setStock_20 (fun r_20 b_20 hp_20 _ => ?_)
      obtain ⟨rfl, I_20, A_20, rfl, hR_20⟩ := hp_20
      have hP_20 : MP (A_20 1) T.1 := hR_20.2.1
      dsimp only [jrepl, List.set, jstk]
      refine j_aload_n hC dX7_setStock_23 rfl rfl ?_
      refine j_get hC uX7 0 0 0 rfl rfl k724 rfl dX7_setStock_24 ?_
      refine j_bipush hC (106) dX7_setStock_27 (by decide) ?_
      refine j_iload_n hC dX7_setStock_29 rfl rfl ?_
      refine j_iadd hC dX7_setStock_30 ?_
      refine j_ildN hC (m := 106 + l) 0 1 rfl rfl (by rw [hx]; exact nI_add 106 l) (by omega) dX7_setStock_31 ?_
      refine j_istore_n hC dX7_setStock_32 rfl rfl rfl rfl (fun v_32 e_32 => ?_)
      refine j_aload_n hC dX7_setStock_33 rfl rfl ?_
      refine j_get hC uX7 0 0 0 rfl rfl k724 rfl dX7_setStock_34 ?_
      refine j_bipush hC (106) dX7_setStock_37 (by decide) ?_
      refine j_iload_n hC dX7_setStock_39 rfl rfl ?_
      refine j_iadd hC dX7_setStock_40 ?_
      refine j_iload_n hC dX7_setStock_41 rfl rfl ?_
      refine j_st_7_1 (bi := 0) (m := 106 + l) hC rfl (by rw [hx]; exact nI_add 106 l) (by omega) dX7_setStock_42 (fun A_42 hA_42 hK_42 => ?_)
      dsimp only [List.set]
      refine j_iload_n hC dX7_setStock_43 rfl rfl ?_
      refine j_iret hC hQ rfl rfl (Nat.le_of_ble_eq_true rfl) (Nat.le_of_ble_eq_true rfl) dX7_setStock_44 rfl ?_
      exact mw_c (ss_ok (jb1 c_4) (jb1 c_14)) (by rw [e_32, hx]; exact (mp_stk hP_20 (by omega)).1) (mi_set hR_20 hK_42 (fun q h1 _ => by rw [hA_42, pk_un (by omega)]) (by rw [hx]; exact MP_st hP_20 (by omega) hA_42 (in_t (jb1 c_14))))
    · skip
      refine j_iconst hC (-1) dX7_setStock_17 (by decide) ?_
      refine j_iret hC hQ rfl rfl (Nat.le_of_ble_eq_true rfl) (Nat.le_of_ble_eq_true rfl) dX7_setStock_18 rfl ?_
      first | exact mw_o (ss_bad (fun q => jb0 c_4 q.1)) hMI | exact mw_o (ss_bad (fun q => jb0 c_14 q.2)) hMI
theorem ty_bad {T : St3} {x : Int32} (h : ¬ in01 x 33 126) : oType T x = (-1, T) := by
  unfold oType
  by_cases q : x < 33
  · rw [if_pos q]
  · rw [if_neg q, if_neg (fun w => h ⟨Int32.not_lt.mp q, w⟩)]
theorem ty_ok {T : St3} {x : Int32} (h : in01 x 33 126) : oType T x = if T.2.2.length < 80 then (nI (T.2.2.length + 1), (T.1, T.2.1, T.2.2 ++ [x])) else (-3, T) := by
  unfold oType
  rw [if_neg (Int32.not_lt.mpr h.1), if_pos h.2]
set_option maxHeartbeats 1000000 in
set_option maxRecDepth 100000 in
theorem c_X7_type (g : jG) (d : Nat → Nat) (T : St3) (b : List va_W) (x : Int32) (h : MW g d T b) : Con g yX7_type cX7_type 2 (some .int) 1 22 0 0 [.ref (d 0), .int x] b (fun rr bb => rr = some (.int (oType T x).1) ∧ MW g d (oType T x).2 bb) := by
  obtain ⟨I, A, rfl, hMI⟩ := h
  obtain ⟨hm1, hmp, hmh, hmt⟩ := id hMI
  obtain ⟨⟨hq0, hk10⟩, hql, ⟨hq91, hn6⟩, hqr, ⟨hq4, hnd⟩, ⟨hq5, hqh⟩, ⟨hq6, hqs⟩, hq9, hq10⟩ := id hmp
  refine Con.of (own := RX7) (lv := [(0, .ref (d 0)), (1, .int x)]) (by decide) rfl (Nat.le_of_ble_eq_true rfl) rfl ?_
  intro E hC hQ hN
  refine j_iload_n hC dX7_type_0 rfl rfl ?_
  refine j_bipush hC (33) dX7_type_1 (by decide) ?_
  refine j_bipush hC (126) dX7_type_3 (by decide) ?_
  refine j_callSR hC [] (c_X7_in g _ _ _) mX7_in k781 rfl rfl rfl ⟨(Nat.le_of_ble_eq_true rfl), (Nat.le_of_ble_eq_true rfl)⟩ (Nat.le_of_ble_eq_true rfl) ⟨(Nat.le_of_ble_eq_true rfl), (Nat.le_of_ble_eq_true rfl)⟩ dX7_type_5 ?_
  dsimp only [jrepl, List.set, jstk]
  refine j_if_ne hC dX7_type_8 (tgt := 13) (by decide) (fun c_8 => ?_) (fun c_8 => ?_)
  · skip
    refine j_aload_n hC dX7_type_13 rfl rfl ?_
    refine j_get hC uX7 0 0 3 rfl rfl k727 rfl dX7_type_14 ?_
    refine j_bipush hC (80) dX7_type_17 (by decide) ?_
    refine j_icmp_ne hC dX7_type_19 (tgt := 25) (by decide) (fun c_19 => ?_) (fun c_19 => ?_)
    · skip
      have h80 : T.2.2.length < 80 := by have := hmt.2.1; have : T.2.2.length ≠ 80 := fun q => c_19 (by rw [hmt.1, q]; rfl); omega
      refine j_aload_n hC dX7_type_25 rfl rfl ?_
      refine j_get hC uX7 0 0 2 rfl rfl k726 rfl dX7_type_26 ?_
      refine j_aload_n hC dX7_type_29 rfl rfl ?_
      refine j_get hC uX7 0 0 3 rfl rfl k727 rfl dX7_type_30 ?_
      refine j_iload_n hC dX7_type_33 rfl rfl ?_
      refine j_st_7_2 (bi := 0) (m := T.2.2.length) hC rfl hmt.1 (by omega) dX7_type_34 (fun A_34 hA_34 hK_34 => ?_)
      dsimp only [List.set]
      refine j_aload_n hC dX7_type_35 rfl rfl ?_
      refine j_dup hC dX7_type_36 rfl ?_
      refine j_get hC uX7 0 0 3 rfl rfl k727 rfl dX7_type_37 ?_
      refine j_iconst hC (1) dX7_type_40 (by decide) ?_
      refine j_iadd hC dX7_type_41 ?_
      refine j_put_7_3 (bi := 0) hC rfl k727 dX7_type_42 ?_
      dsimp only [List.set]
      refine j_aload_n hC dX7_type_45 rfl rfl ?_
      refine j_get hC uX7 0 0 3 rfl rfl k727 rfl dX7_type_46 ?_
      refine j_iret hC hQ rfl rfl (Nat.le_of_ble_eq_true rfl) (Nat.le_of_ble_eq_true rfl) dX7_type_49 rfl ?_
      exact mw_c ((ty_ok (jb1 c_8)).trans (if_pos h80)) (by rw [pk_us, hmt.1]; exact nI_1 _) (MI_text hMI (pk_un (by decide)) (hK_34 1 (by decide)) (MT_push hmt h80 (in_t (jb1 c_8)) hA_34))
    · skip
      refine j_bipush hC (-3) dX7_type_22 (by decide) ?_
      refine j_iret hC hQ rfl rfl (Nat.le_of_ble_eq_true rfl) (Nat.le_of_ble_eq_true rfl) dX7_type_24 rfl ?_
      first | exact mw_o ((ty_ok (jb1 c_8)).trans (if_neg (by have q := len_eq (m := 80) hmt.1 c_19 rfl (by have := hmt.2.1; omega) (by decide); omega))) hMI | exact mw_o ((ty_ok (jb1 c_8)).trans (if_neg (by have q := len_eq (m := 80) hmt.1 (Decidable.not_not.mp c_19) rfl (by have := hmt.2.1; omega) (by decide); omega))) hMI
  · skip
    refine j_iconst hC (-1) dX7_type_11 (by decide) ?_
    refine j_iret hC hQ rfl rfl (Nat.le_of_ble_eq_true rfl) (Nat.le_of_ble_eq_true rfl) dX7_type_12 rfl ?_
    exact mw_o (ty_bad (jb0 c_8)) hMI
set_option maxHeartbeats 1000000 in
set_option maxRecDepth 100000 in
theorem c_X7_clear (g : jG) (d : Nat → Nat) (T : St3) (b : List va_W) (h : MW g d T b) : Con g yX7_clear cX7_clear 2 (some .int) 0 0 0 0 [.ref (d 0)] b (fun rr bb => rr = some (.int (oClear T).1) ∧ MW g d (oClear T).2 bb) := by
  obtain ⟨I, A, rfl, hMI⟩ := h
  obtain ⟨hm1, hmp, hmh, hmt⟩ := id hMI
  obtain ⟨⟨hq0, hk10⟩, hql, ⟨hq91, hn6⟩, hqr, ⟨hq4, hnd⟩, ⟨hq5, hqh⟩, ⟨hq6, hqs⟩, hq9, hq10⟩ := id hmp
  refine Con.of (own := RX7) (lv := [(0, .ref (d 0))]) (by decide) rfl (Nat.le_of_ble_eq_true rfl) rfl ?_
  intro E hC hQ hN
  refine j_aload_n hC dX7_clear_0 rfl rfl ?_
  refine j_get hC uX7 0 0 3 rfl rfl k727 rfl dX7_clear_1 ?_
  refine j_istore_n hC dX7_clear_4 rfl rfl rfl rfl (fun v_4 e_4 => ?_)
  refine j_aload_n hC dX7_clear_5 rfl rfl ?_
  refine j_iconst hC (0) dX7_clear_6 (by decide) ?_
  refine j_put_7_3 (bi := 0) hC rfl k727 dX7_clear_7 ?_
  dsimp only [List.set]
  refine j_iload_n hC dX7_clear_10 rfl rfl ?_
  refine j_iret hC hQ rfl rfl (Nat.le_of_ble_eq_true rfl) (Nat.le_of_ble_eq_true rfl) dX7_clear_11 rfl ?_
  exact mw_c rfl (e_4.trans hmt.1) (MI_text hMI (pk_un (by decide)) rfl ⟨pk_us.trans nI_0.symm, Nat.zero_le _, fun i hi => absurd hi (Nat.not_lt_zero i)⟩)
set_option maxHeartbeats 1000000 in
set_option maxRecDepth 100000 in
theorem c_X7_undo (g : jG) (d : Nat → Nat) (T : St3) (b : List va_W) (h : MW g d T b) : Con g yX7_undo cX7_undo 2 (some .int) 0 0 0 0 [.ref (d 0)] b (fun rr bb => rr = some (.int (oUndo T).1) ∧ MW g d (oUndo T).2 bb) := by
  obtain ⟨I, A, rfl, hMI⟩ := h
  obtain ⟨hm1, hmp, hmh, hmt⟩ := id hMI
  obtain ⟨⟨hq0, hk10⟩, hql, ⟨hq91, hn6⟩, hqr, ⟨hq4, hnd⟩, ⟨hq5, hqh⟩, ⟨hq6, hqs⟩, hq9, hq10⟩ := id hmp
  refine Con.of (own := RX7) (lv := [(0, .ref (d 0))]) (by decide) rfl (Nat.le_of_ble_eq_true rfl) rfl ?_
  intro E hC hQ hN
  refine j_aload_n hC dX7_undo_0 rfl rfl ?_
  refine j_get hC uX7 0 0 1 rfl rfl k725 rfl dX7_undo_1 ?_
  refine j_if_ne hC dX7_undo_4 (tgt := 10) (by decide) (fun c_4 => ?_) (fun c_4 => ?_)
  · skip
    have hr1 : 1 ≤ T.2.1.length := by rcases Nat.eq_zero_or_pos T.2.1.length with w | w; exact absurd (by rw [hm1, w]; rfl) c_4; exact w
    have h8 := hmh.1
    refine j_iconst hC (0) dX7_undo_10 (by decide) ?_
    refine j_istore_n hC dX7_undo_11 rfl rfl rfl rfl (fun v_11 e_11 => ?_)
    have L_12 : ∀ (fu : Nat) (m : Nat) (x1 : Int32) (A1 : Nat → jF) (hfu : 112 ≤ m + fu) (hm : m ≤ 111) (h1 : x1 = nI m) (hP : ∀ q, A1 1 q = if q < m then A 1 (111 * T.2.1.length + q) else A 1 q) (hK : ∀ q, q ≠ 1 → A1 q = A q), J g (jRm 0 0 0 0) E 2 12 [(0, .ref (d 0)), (1, .int x1)] [] [mc g d I A1] (0) (0) := by
      intro fu
      induction fu with
      | zero => intro m x1 A1 hfu hm h1 hP hK; exact absurd hfu (by omega)
      | succ fu ih_12 =>
        intro m x1 A1 hfu hm h1 hP hK
        refine j_iload_n hC dX7_undo_12 rfl rfl ?_
        refine j_bipush hC (111) dX7_undo_13 (by decide) ?_
        refine j_icmp_ge hC dX7_undo_15 (tgt := 44) (by decide) (fun c_15 => ?_) (fun c_15 => ?_)
        · skip
          have hme : m = 111 := Nat.le_antisymm (by omega) (jge (show (111 : Int32) = nI 111 from rfl) h1 (by decide) (by omega) c_15)
          rw [hme] at hP
          obtain ⟨S, tl, he⟩ : ∃ S tl, T.2.1 = S :: tl := by cases hc : T.2.1 with | nil => rw [hc] at hr1; exact absurd hr1 (by decide) | cons S tl => exact ⟨S, tl, rfl⟩
          refine j_aload_n hC dX7_undo_44 rfl rfl ?_
          refine j_dup hC dX7_undo_45 rfl ?_
          refine j_get hC uX7 0 0 1 rfl rfl k725 rfl dX7_undo_46 ?_
          refine j_iconst hC (1) dX7_undo_49 (by decide) ?_
          refine j_isub hC dX7_undo_50 ?_
          refine j_put_7_1 (bi := 0) hC rfl k725 dX7_undo_51 ?_
          dsimp only [List.set]
          refine j_aload_n hC dX7_undo_54 rfl rfl ?_
          refine j_get hC uX7 0 0 1 rfl rfl k725 rfl dX7_undo_55 ?_
          refine j_iret hC hQ rfl rfl (Nat.le_of_ble_eq_true rfl) (Nat.le_of_ble_eq_true rfl) dX7_undo_58 rfl ?_
          exact mw_c (oUndo_cons he) (by rw [pk_us, hm1, he]; exact nI_pred _) (MI_pop hMI he hP hK)
        · skip
          have hml : m < 111 := jlt (show (111 : Int32) = nI 111 from rfl) h1 (by decide) (by omega) c_15
          refine j_aload_n hC dX7_undo_18 rfl rfl ?_
          refine j_get hC uX7 0 0 0 rfl rfl k724 rfl dX7_undo_19 ?_
          refine j_iload_n hC dX7_undo_22 rfl rfl ?_
          refine j_aload_n hC dX7_undo_23 rfl rfl ?_
          refine j_get hC uX7 0 0 0 rfl rfl k724 rfl dX7_undo_24 ?_
          refine j_bipush hC (111) dX7_undo_27 (by decide) ?_
          refine j_aload_n hC dX7_undo_29 rfl rfl ?_
          refine j_get hC uX7 0 0 1 rfl rfl k725 rfl dX7_undo_30 ?_
          refine j_imul hC dX7_undo_33 ?_
          refine j_iload_n hC dX7_undo_34 rfl rfl ?_
          refine j_iadd hC dX7_undo_35 ?_
          refine j_ildN hC (m := 111 * T.2.1.length + m) 0 1 rfl rfl (by rw [hm1, h1, show (111 : Int32) = nI 111 from rfl, pk_mul, nI_add]) (by omega) dX7_undo_36 ?_
          refine j_st_7_1 (bi := 0) (m := m) hC rfl h1 (by omega) dX7_undo_37 (fun A_37 hA_37 hK_37 => ?_)
          dsimp only [List.set]
          refine j_iinc hC (1) dX7_undo_38 rfl rfl rfl rfl rfl (fun v_38 e_38 => ?_)
          refine j_goto hC dX7_undo_41 (tgt := 12) (by decide) ?_
          refine j_pick [0, 1] ?_
          exact ih_12 (m + 1) _ _ (by omega) (by omega) (jsucc e_38 h1) (cpy0 hP hml hr1 hA_37) (fun q hq => (hK_37 q hq).trans (hK q hq))
    refine j_pick [0, 1] ?_
    exact L_12 (112) 0 _ _ (by omega) (by omega) (e_11.trans nI_0.symm) (fun q => by rw [if_neg (by omega)]) (fun _ _ => rfl)
  · skip
    refine j_bipush hC (-2) dX7_undo_7 (by decide) ?_
    refine j_iret hC hQ rfl rfl (Nat.le_of_ble_eq_true rfl) (Nat.le_of_ble_eq_true rfl) dX7_undo_9 rfl ?_
    exact mw_o (oUndo_nil (nI_injN (by have := hmh.1; omega) (by decide) (hm1.symm.trans (by first | exact c_4.trans nI_0.symm | exact (Decidable.not_not.mp c_4).trans nI_0.symm)))) hMI
set_option maxHeartbeats 1000000 in
set_option maxRecDepth 100000 in
theorem c_X7_maintain (g : jG) (d : Nat → Nat) (T : St3) (b : List va_W) (x y : Int32) (h : MW g d T b) (hy : y = 0 ∨ y = 1) : Con g yX7_maintain cX7_maintain 4 (some .int) 2 44 0 0 [.ref (d 0), .int x, .int y] b (fun rr bb => rr = some (.int (oMaintain T x y).1) ∧ MW g d (oMaintain T x y).2 bb) := by
  obtain ⟨I, A, rfl, hMI⟩ := h
  obtain ⟨hm1, hmp, hmh, hmt⟩ := id hMI
  obtain ⟨⟨hq0, hk10⟩, hql, ⟨hq91, hn6⟩, hqr, ⟨hq4, hnd⟩, ⟨hq5, hqh⟩, ⟨hq6, hqs⟩, hq9, hq10⟩ := id hmp
  refine Con.of (own := RX7) (lv := [(0, .ref (d 0)), (1, .int x), (2, .int y)]) (by decide) rfl (Nat.le_of_ble_eq_true rfl) rfl ?_
  intro E hC hQ hN
  refine j_aload_n hC dX7_maintain_0 rfl rfl ?_
  refine j_iload_n hC dX7_maintain_1 rfl rfl ?_
  refine j_callVR hC [0] (c_X7_isLight g _ _ _ _) mX7_isLight k819 rfl rfl rfl rfl rfl ⟨(Nat.le_of_ble_eq_true rfl), (Nat.le_of_ble_eq_true rfl)⟩ (Nat.le_of_ble_eq_true rfl) ⟨(Nat.le_of_ble_eq_true rfl), (Nat.le_of_ble_eq_true rfl)⟩ dX7_maintain_2 ?_
  dsimp only [jrepl, List.set, jstk]
  refine j_if_ne hC dX7_maintain_5 (tgt := 10) (by decide) (fun c_5 => ?_) (fun c_5 => ?_)
  · skip
    have hlx : hLX x (bLs T.1).length := (in_len hq0 hk10).mp (jb1 c_5)
    obtain ⟨j, hj, hx⟩ := hLX_nat (by omega) hlx
    have hi : j ≤ 10 := by omega
    have hlg : lg T.1 x = LI T.1 j := lg_LI hj (by omega) hx
    have hcl : x.toNatClampNeg = j := by rw [hx, nI_cl (by omega)]
    have hlj := hql j hj
    refine j_aload_n hC dX7_maintain_10 rfl rfl ?_
    refine j_callV hC [0] (c_X7_records g _ _ _ T hMI) mX7_records k791 rfl rfl rfl rfl rfl ⟨(Nat.le_of_ble_eq_true rfl), (Nat.le_of_ble_eq_true rfl)⟩ (Nat.le_of_ble_eq_true rfl) ⟨(Nat.le_of_ble_eq_true rfl), (Nat.le_of_ble_eq_true rfl)⟩ dX7_maintain_11 (fun r_11 b_11 hp_11 _ => ?_)
    obtain ⟨rfl, I_11, A_11, rfl, hR_11⟩ := hp_11
    have hP_11 : MP (A_11 1) T.1 := hR_11.2.1
    dsimp only [jrepl, List.set, jstk]
    have hl1 := hP_11.2.1 j hj
    refine j_aload_n hC dX7_maintain_14 rfl rfl ?_
    refine j_iload_n hC dX7_maintain_15 rfl rfl ?_
    refine j_iconst hC (4) dX7_maintain_16 (by decide) ?_
    refine j_callVR hC [0] (c_X7_of g _ _ _ _ 4 _ _ hx hi (by decide) (by decide)) mX7_of k811 rfl rfl rfl rfl rfl ⟨(Nat.le_of_ble_eq_true rfl), (Nat.le_of_ble_eq_true rfl)⟩ (Nat.le_of_ble_eq_true rfl) ⟨(Nat.le_of_ble_eq_true rfl), (Nat.le_of_ble_eq_true rfl)⟩ dX7_maintain_17 ?_
    dsimp only [jrepl, List.set, jstk]
    refine j_istore_n hC dX7_maintain_20 rfl rfl rfl rfl (fun v_20 e_20 => ?_)
    refine j_aload_n hC dX7_maintain_21 rfl rfl ?_
    refine j_get hC uX7 0 0 0 rfl rfl k724 rfl dX7_maintain_22 ?_
    refine j_aload_n hC dX7_maintain_25 rfl rfl ?_
    refine j_iload_n hC dX7_maintain_26 rfl rfl ?_
    refine j_iconst hC (4) dX7_maintain_27 (by decide) ?_
    refine j_callVR hC [0] (c_X7_at g _ _ _ _ 4 _ _ hx hi (by decide) (by decide)) mX7_at k799 rfl rfl rfl rfl rfl ⟨(Nat.le_of_ble_eq_true rfl), (Nat.le_of_ble_eq_true rfl)⟩ (Nat.le_of_ble_eq_true rfl) ⟨(Nat.le_of_ble_eq_true rfl), (Nat.le_of_ble_eq_true rfl)⟩ dX7_maintain_28 ?_
    dsimp only [jrepl, List.set, jstk]
    refine j_iload_n hC dX7_maintain_31 rfl rfl ?_
    refine j_if_eq hC dX7_maintain_32 (tgt := 39) (by decide) (fun c_32 => ?_) (fun c_32 => ?_)
    · skip
      refine j_iconst hC (0) dX7_maintain_39 (by decide) ?_
      refine j_st_7_1 (bi := 0) hC rfl rfl (by omega) dX7_maintain_40 (fun A_40 hA_40 hK_40 => ?_)
      dsimp only [List.set]
      refine j_iload_n hC dX7_maintain_41 rfl rfl ?_
      refine j_iret hC hQ rfl rfl (Nat.le_of_ble_eq_true rfl) (Nat.le_of_ble_eq_true rfl) dX7_maintain_42 rfl ?_
      exact mw_c (by unfold oMaintain; rw [if_pos hlx, hcl, hlg]) (e_20.trans ((hl1.1 4 (by decide) (by decide)).trans (by rcases hl1.2.2.1.2.2.2.1 with w | w; rw [w, if_pos rfl]; rw [w, if_neg (by decide)]))) (mi_set hR_11 hK_40 (fun q q1 _ => by rw [hA_40, pk_un (by omega)]) (MP_light hP_11 hj (lok_set hl1 (hA_40.trans (by first | rw [show y = 0 from c_32] | rw [show y = 1 from hy.resolve_left c_32])) (by decide) (by decide) (by decide) (rg_4 hl1.2.2.1 hy)) (pfr_upd pfr_refl hA_40 (by decide))))
    · skip
      refine j_iconst hC (1) dX7_maintain_35 (by decide) ?_
      refine j_goto hC dX7_maintain_36 (tgt := 40) (by decide) ?_
      refine j_st_7_1 (bi := 0) hC rfl rfl (by omega) dX7_maintain_40 (fun A_40 hA_40 hK_40 => ?_)
      dsimp only [List.set]
      refine j_iload_n hC dX7_maintain_41 rfl rfl ?_
      refine j_iret hC hQ rfl rfl (Nat.le_of_ble_eq_true rfl) (Nat.le_of_ble_eq_true rfl) dX7_maintain_42 rfl ?_
      exact mw_c (by unfold oMaintain; rw [if_pos hlx, hcl, hlg]) (e_20.trans ((hl1.1 4 (by decide) (by decide)).trans (by rcases hl1.2.2.1.2.2.2.1 with w | w; rw [w, if_pos rfl]; rw [w, if_neg (by decide)]))) (mi_set hR_11 hK_40 (fun q q1 _ => by rw [hA_40, pk_un (by omega)]) (MP_light hP_11 hj (lok_set hl1 (hA_40.trans (by first | rw [show y = 0 from c_32] | rw [show y = 1 from hy.resolve_left c_32])) (by decide) (by decide) (by decide) (rg_4 hl1.2.2.1 hy)) (pfr_upd pfr_refl hA_40 (by decide))))
  · skip
    refine j_iconst hC (-1) dX7_maintain_8 (by decide) ?_
    refine j_iret hC hQ rfl rfl (Nat.le_of_ble_eq_true rfl) (Nat.le_of_ble_eq_true rfl) dX7_maintain_9 rfl ?_
    exact mw_o (by unfold oMaintain; rw [if_neg (fun q => jb0 c_5 ((in_len hq0 hk10).mpr q))]) hMI
set_option maxHeartbeats 1000000 in
set_option maxRecDepth 100000 in
theorem c_X7_renew (g : jG) (d : Nat → Nat) (T : St3) (b : List va_W) (x : Int32) (h : MW g d T b) : Con g yX7_renew cX7_renew 3 (some .int) 2 44 0 0 [.ref (d 0), .int x] b (fun rr bb => rr = some (.int (oRenew T x).1) ∧ MW g d (oRenew T x).2 bb) := by
  obtain ⟨I, A, rfl, hMI⟩ := h
  obtain ⟨hm1, hmp, hmh, hmt⟩ := id hMI
  obtain ⟨⟨hq0, hk10⟩, hql, ⟨hq91, hn6⟩, hqr, ⟨hq4, hnd⟩, ⟨hq5, hqh⟩, ⟨hq6, hqs⟩, hq9, hq10⟩ := id hmp
  refine Con.of (own := RX7) (lv := [(0, .ref (d 0)), (1, .int x)]) (by decide) rfl (Nat.le_of_ble_eq_true rfl) rfl ?_
  intro E hC hQ hN
  refine j_aload_n hC dX7_renew_0 rfl rfl ?_
  refine j_iload_n hC dX7_renew_1 rfl rfl ?_
  refine j_callVR hC [0] (c_X7_isLight g _ _ _ _) mX7_isLight k819 rfl rfl rfl rfl rfl ⟨(Nat.le_of_ble_eq_true rfl), (Nat.le_of_ble_eq_true rfl)⟩ (Nat.le_of_ble_eq_true rfl) ⟨(Nat.le_of_ble_eq_true rfl), (Nat.le_of_ble_eq_true rfl)⟩ dX7_renew_2 ?_
  dsimp only [jrepl, List.set, jstk]
  refine j_if_ne hC dX7_renew_5 (tgt := 10) (by decide) (fun c_5 => ?_) (fun c_5 => ?_)
  · skip
    have hlx : hLX x (bLs T.1).length := (in_len hq0 hk10).mp (jb1 c_5)
    obtain ⟨j, hj, hx⟩ := hLX_nat (by omega) hlx
    have hi : j ≤ 10 := by omega
    have hlg : lg T.1 x = LI T.1 j := lg_LI hj (by omega) hx
    have hcl : x.toNatClampNeg = j := by rw [hx, nI_cl (by omega)]
    have hlj := hql j hj
    refine j_aload_n hC dX7_renew_10 rfl rfl ?_
    refine j_callV hC [0] (c_X7_records g _ _ _ T hMI) mX7_records k791 rfl rfl rfl rfl rfl ⟨(Nat.le_of_ble_eq_true rfl), (Nat.le_of_ble_eq_true rfl)⟩ (Nat.le_of_ble_eq_true rfl) ⟨(Nat.le_of_ble_eq_true rfl), (Nat.le_of_ble_eq_true rfl)⟩ dX7_renew_11 (fun r_11 b_11 hp_11 _ => ?_)
    obtain ⟨rfl, I_11, A_11, rfl, hR_11⟩ := hp_11
    have hP_11 : MP (A_11 1) T.1 := hR_11.2.1
    dsimp only [jrepl, List.set, jstk]
    have hl1 := hP_11.2.1 j hj
    refine j_aload_n hC dX7_renew_14 rfl rfl ?_
    refine j_iload_n hC dX7_renew_15 rfl rfl ?_
    refine j_iconst hC (5) dX7_renew_16 (by decide) ?_
    refine j_callVR hC [0] (c_X7_of g _ _ _ _ 5 _ _ hx hi (by decide) (by decide)) mX7_of k811 rfl rfl rfl rfl rfl ⟨(Nat.le_of_ble_eq_true rfl), (Nat.le_of_ble_eq_true rfl)⟩ (Nat.le_of_ble_eq_true rfl) ⟨(Nat.le_of_ble_eq_true rfl), (Nat.le_of_ble_eq_true rfl)⟩ dX7_renew_17 ?_
    dsimp only [jrepl, List.set, jstk]
    refine j_istore_n hC dX7_renew_20 rfl rfl rfl rfl (fun v_20 e_20 => ?_)
    refine j_aload_n hC dX7_renew_21 rfl rfl ?_
    refine j_get hC uX7 0 0 0 rfl rfl k724 rfl dX7_renew_22 ?_
    refine j_aload_n hC dX7_renew_25 rfl rfl ?_
    refine j_iload_n hC dX7_renew_26 rfl rfl ?_
    refine j_iconst hC (5) dX7_renew_27 (by decide) ?_
    refine j_callVR hC [0] (c_X7_at g _ _ _ _ 5 _ _ hx hi (by decide) (by decide)) mX7_at k799 rfl rfl rfl rfl rfl ⟨(Nat.le_of_ble_eq_true rfl), (Nat.le_of_ble_eq_true rfl)⟩ (Nat.le_of_ble_eq_true rfl) ⟨(Nat.le_of_ble_eq_true rfl), (Nat.le_of_ble_eq_true rfl)⟩ dX7_renew_28 ?_
    dsimp only [jrepl, List.set, jstk]
    refine j_sipush hC (1000) dX7_renew_31 (by decide) ?_
    refine j_st_7_1 (bi := 0) hC rfl rfl (by omega) dX7_renew_34 (fun A_34 hA_34 hK_34 => ?_)
    dsimp only [List.set]
    refine j_aload_n hC dX7_renew_35 rfl rfl ?_
    refine j_get hC uX7 0 0 0 rfl rfl k724 rfl dX7_renew_36 ?_
    refine j_aload_n hC dX7_renew_39 rfl rfl ?_
    refine j_iload_n hC dX7_renew_40 rfl rfl ?_
    refine j_bipush hC (6) dX7_renew_41 (by decide) ?_
    refine j_callVR hC [0] (c_X7_at g _ _ _ _ 6 _ _ hx hi (by decide) (by decide)) mX7_at k799 rfl rfl rfl rfl rfl ⟨(Nat.le_of_ble_eq_true rfl), (Nat.le_of_ble_eq_true rfl)⟩ (Nat.le_of_ble_eq_true rfl) ⟨(Nat.le_of_ble_eq_true rfl), (Nat.le_of_ble_eq_true rfl)⟩ dX7_renew_43 ?_
    dsimp only [jrepl, List.set, jstk]
    refine j_iconst hC (0) dX7_renew_46 (by decide) ?_
    refine j_st_7_1 (bi := 0) hC rfl rfl (by omega) dX7_renew_47 (fun A_47 hA_47 hK_47 => ?_)
    dsimp only [List.set]
    refine j_iload_n hC dX7_renew_48 rfl rfl ?_
    refine j_iret hC hQ rfl rfl (Nat.le_of_ble_eq_true rfl) (Nat.le_of_ble_eq_true rfl) dX7_renew_49 rfl ?_
    exact mw_c (by unfold oRenew; rw [if_pos hlx, hcl, hlg]) (e_20.trans (hl1.1 5 (by decide) (by decide))) (mi_set hR_11 (fun q hq => (hK_47 q hq).trans (hK_34 q hq)) (fun q q1 _ => by rw [hA_47, pk_un (by omega), hA_34, pk_un (by omega)]) (MP_light hP_11 hj (lok_set (lok_set hl1 hA_34 (by decide) (by decide) (by decide) (rg_5 hl1.2.2.1 (by decide) (by decide))) hA_47 (by decide) (by decide) (by decide) (rg_6 (rg_5 hl1.2.2.1 (by decide) (by decide)) (by decide) (by decide))) (pfr_upd (pfr_upd pfr_refl hA_34 (by decide)) hA_47 (by decide))))
  · skip
    refine j_iconst hC (-1) dX7_renew_8 (by decide) ?_
    refine j_iret hC hQ rfl rfl (Nat.le_of_ble_eq_true rfl) (Nat.le_of_ble_eq_true rfl) dX7_renew_9 rfl ?_
    exact mw_o (by unfold oRenew; rw [if_neg (fun q => jb0 c_5 ((in_len hq0 hk10).mpr q))]) hMI
set_option maxHeartbeats 1000000 in
set_option maxRecDepth 100000 in
theorem c_X7_add (g : jG) (d : Nat → Nat) (T : St3) (b : List va_W) (p c bt l : Int32) (h : MW g d T b) : Con g yX7_add cX7_add 5 (some .int) 5 113 0 0 [.ref (d 0), .int p, .int c, .int bt, .int l] b (fun rr bb => rr = some (.int (oAdd T p c bt l).1) ∧ MW g d (oAdd T p c bt l).2 bb) := by
  obtain ⟨I, A, rfl, hMI⟩ := h
  obtain ⟨hm1, hmp, hmh, hmt⟩ := id hMI
  obtain ⟨⟨hq0, hk10⟩, hql, ⟨hq91, hn6⟩, hqr, ⟨hq4, hnd⟩, ⟨hq5, hqh⟩, ⟨hq6, hqs⟩, hq9, hq10⟩ := id hmp
  refine Con.of (own := RX7) (lv := [(0, .ref (d 0)), (1, .int p), (2, .int c), (3, .int bt), (4, .int l)]) (by decide) rfl (Nat.le_of_ble_eq_true rfl) rfl ?_
  intro E hC hQ hN
  refine j_iload_n hC dX7_add_0 rfl rfl ?_
  refine j_callSR hC [] (c_X7_isPlace g _) mX7_isPlace k778 rfl rfl rfl ⟨(Nat.le_of_ble_eq_true rfl), (Nat.le_of_ble_eq_true rfl)⟩ (Nat.le_of_ble_eq_true rfl) ⟨(Nat.le_of_ble_eq_true rfl), (Nat.le_of_ble_eq_true rfl)⟩ dX7_add_1 ?_
  dsimp only [jrepl, List.set, jstk]
  refine j_if_eq hC dX7_add_4 (tgt := 33) (by decide) (fun c_4 => ?_) (fun c_4 => ?_)
  · skip
    refine j_iconst hC (-1) dX7_add_33 (by decide) ?_
    refine j_iret hC hQ rfl rfl (Nat.le_of_ble_eq_true rfl) (Nat.le_of_ble_eq_true rfl) dX7_add_34 rfl ?_
    first | exact mw_o (sa_bad (fun q => jb0 c_4 q.1)) hMI | exact mw_o (sa_bad (fun q => jb0 c_13 q.2.1)) hMI | exact mw_o (sa_bad (fun q => jb0 c_22 q.2.2.1)) hMI | exact mw_o (sa_bad (fun q => jb0 c_30 q.2.2.2)) hMI
  · skip
    refine j_iload_n hC dX7_add_7 rfl rfl ?_
    refine j_iconst hC (0) dX7_add_8 (by decide) ?_
    refine j_iconst hC (3) dX7_add_9 (by decide) ?_
    refine j_callSR hC [] (c_X7_in g _ _ _) mX7_in k781 rfl rfl rfl ⟨(Nat.le_of_ble_eq_true rfl), (Nat.le_of_ble_eq_true rfl)⟩ (Nat.le_of_ble_eq_true rfl) ⟨(Nat.le_of_ble_eq_true rfl), (Nat.le_of_ble_eq_true rfl)⟩ dX7_add_10 ?_
    dsimp only [jrepl, List.set, jstk]
    refine j_if_eq hC dX7_add_13 (tgt := 33) (by decide) (fun c_13 => ?_) (fun c_13 => ?_)
    · skip
      refine j_iconst hC (-1) dX7_add_33 (by decide) ?_
      refine j_iret hC hQ rfl rfl (Nat.le_of_ble_eq_true rfl) (Nat.le_of_ble_eq_true rfl) dX7_add_34 rfl ?_
      first | exact mw_o (sa_bad (fun q => jb0 c_4 q.1)) hMI | exact mw_o (sa_bad (fun q => jb0 c_13 q.2.1)) hMI | exact mw_o (sa_bad (fun q => jb0 c_22 q.2.2.1)) hMI | exact mw_o (sa_bad (fun q => jb0 c_30 q.2.2.2)) hMI
    · skip
      refine j_iload_n hC dX7_add_16 rfl rfl ?_
      refine j_iconst hC (0) dX7_add_17 (by decide) ?_
      refine j_iconst hC (3) dX7_add_18 (by decide) ?_
      refine j_callSR hC [] (c_X7_in g _ _ _) mX7_in k781 rfl rfl rfl ⟨(Nat.le_of_ble_eq_true rfl), (Nat.le_of_ble_eq_true rfl)⟩ (Nat.le_of_ble_eq_true rfl) ⟨(Nat.le_of_ble_eq_true rfl), (Nat.le_of_ble_eq_true rfl)⟩ dX7_add_19 ?_
      dsimp only [jrepl, List.set, jstk]
      refine j_if_eq hC dX7_add_22 (tgt := 33) (by decide) (fun c_22 => ?_) (fun c_22 => ?_)
      · skip
        refine j_iconst hC (-1) dX7_add_33 (by decide) ?_
        refine j_iret hC hQ rfl rfl (Nat.le_of_ble_eq_true rfl) (Nat.le_of_ble_eq_true rfl) dX7_add_34 rfl ?_
        first | exact mw_o (sa_bad (fun q => jb0 c_4 q.1)) hMI | exact mw_o (sa_bad (fun q => jb0 c_13 q.2.1)) hMI | exact mw_o (sa_bad (fun q => jb0 c_22 q.2.2.1)) hMI | exact mw_o (sa_bad (fun q => jb0 c_30 q.2.2.2)) hMI
      · skip
        refine j_iload hC dX7_add_25 rfl ?_
        refine j_callSR hC [] (c_X7_isLamp g _) mX7_isLamp k784 rfl rfl rfl ⟨(Nat.le_of_ble_eq_true rfl), (Nat.le_of_ble_eq_true rfl)⟩ (Nat.le_of_ble_eq_true rfl) ⟨(Nat.le_of_ble_eq_true rfl), (Nat.le_of_ble_eq_true rfl)⟩ dX7_add_27 ?_
        dsimp only [jrepl, List.set, jstk]
        refine j_if_ne hC dX7_add_30 (tgt := 35) (by decide) (fun c_30 => ?_) (fun c_30 => ?_)
        · skip
          have hc1 := jb1 c_4
          have hc2 := jb1 c_13
          have hc3 := jb1 c_22
          have hc4 := jb1 c_30
          refine j_aload_n hC dX7_add_35 rfl rfl ?_
          refine j_callVR hC [0] (c_X7_lights g _ _ _) mX7_lights k787 rfl rfl rfl rfl rfl ⟨(Nat.le_of_ble_eq_true rfl), (Nat.le_of_ble_eq_true rfl)⟩ (Nat.le_of_ble_eq_true rfl) ⟨(Nat.le_of_ble_eq_true rfl), (Nat.le_of_ble_eq_true rfl)⟩ dX7_add_36 ?_
          dsimp only [jrepl, List.set, jstk]
          refine j_bipush hC (10) dX7_add_39 (by decide) ?_
          refine j_icmp_ne hC dX7_add_41 (tgt := 47) (by decide) (fun c_41 => ?_) (fun c_41 => ?_)
          · skip
            have hn : (bLs T.1).length < 10 := by have : (bLs T.1).length ≠ 10 := fun q => c_41 (by rw [hq0, q]; rfl); omega
            refine j_aload_n hC dX7_add_47 rfl rfl ?_
            refine j_callV hC [0] (c_X7_records g _ _ _ T hMI) mX7_records k791 rfl rfl rfl rfl rfl ⟨(Nat.le_of_ble_eq_true rfl), (Nat.le_of_ble_eq_true rfl)⟩ (Nat.le_of_ble_eq_true rfl) ⟨(Nat.le_of_ble_eq_true rfl), (Nat.le_of_ble_eq_true rfl)⟩ dX7_add_48 (fun r_48 b_48 hp_48 _ => ?_)
            obtain ⟨rfl, I_48, A_48, rfl, hR_48⟩ := hp_48
            have hP_48 : MP (A_48 1) T.1 := hR_48.2.1
            dsimp only [jrepl, List.set, jstk]
            refine j_aload_n hC dX7_add_51 rfl rfl ?_
            refine j_aload_n hC dX7_add_52 rfl rfl ?_
            refine j_callVR hC [0] (c_X7_lights g _ _ _) mX7_lights k787 rfl rfl rfl rfl rfl ⟨(Nat.le_of_ble_eq_true rfl), (Nat.le_of_ble_eq_true rfl)⟩ (Nat.le_of_ble_eq_true rfl) ⟨(Nat.le_of_ble_eq_true rfl), (Nat.le_of_ble_eq_true rfl)⟩ dX7_add_53 ?_
            dsimp only [jrepl, List.set, jstk]
            refine j_iload_n hC dX7_add_56 rfl rfl ?_
            refine j_iload_n hC dX7_add_57 rfl rfl ?_
            refine j_iload_n hC dX7_add_58 rfl rfl ?_
            refine j_iload hC dX7_add_59 rfl ?_
            refine j_iconst hC (0) dX7_add_61 (by decide) ?_
            refine j_callV hC [0] (c_X7_lays g _ _ _ (bLs T.1).length _ _ _ _ _ _ hP_48.1.1 (by omega) (in_t hc1) (in_t hc3) (in_t hc4) (Or.inl rfl)) mX7_lays k795 rfl rfl rfl rfl rfl ⟨(Nat.le_of_ble_eq_true rfl), (Nat.le_of_ble_eq_true rfl)⟩ (Nat.le_of_ble_eq_true rfl) ⟨(Nat.le_of_ble_eq_true rfl), (Nat.le_of_ble_eq_true rfl)⟩ dX7_add_62 (fun r_62 b_62 hp_62 _ => ?_)
            obtain ⟨rfl, A_62, rfl, hK_62, hL_62, hF_62⟩ := hp_62
            dsimp only [jrepl, List.set, jstk]
            refine j_aload_n hC dX7_add_65 rfl rfl ?_
            refine j_get hC uX7 0 0 0 rfl rfl k724 rfl dX7_add_66 ?_
            refine j_iconst hC (0) dX7_add_69 (by decide) ?_
            refine j_dup2 hC dX7_add_70 rfl rfl ?_
            refine j_ildN hC (m := 0) 0 1 rfl rfl (by decide) (by decide) dX7_add_71 ?_
            refine j_iconst hC (1) dX7_add_72 (by decide) ?_
            refine j_iadd hC dX7_add_73 ?_
            refine j_st_7_1 (bi := 0) (m := 0) hC rfl (by decide) (by decide) dX7_add_74 (fun A_74 hA_74 hK_74 => ?_)
            dsimp only [List.set]
            refine j_aload_n hC dX7_add_75 rfl rfl ?_
            refine j_callVR hC [0] (c_X7_lights g _ _ _) mX7_lights k787 rfl rfl rfl rfl rfl ⟨(Nat.le_of_ble_eq_true rfl), (Nat.le_of_ble_eq_true rfl)⟩ (Nat.le_of_ble_eq_true rfl) ⟨(Nat.le_of_ble_eq_true rfl), (Nat.le_of_ble_eq_true rfl)⟩ dX7_add_76 ?_
            dsimp only [jrepl, List.set, jstk]
            refine j_iconst hC (1) dX7_add_79 (by decide) ?_
            refine j_isub hC dX7_add_80 ?_
            refine j_iret hC hQ rfl rfl (Nat.le_of_ble_eq_true rfl) (Nat.le_of_ble_eq_true rfl) dX7_add_81 rfl ?_
            exact mw_c ((sa_full ⟨hc1, hc2, hc3, hc4⟩).trans (if_pos hn)) (by rw [hA_74, pk_us, hF_62 0 (by omega), hP_48.1.1]; exact jaddsub) (mi_set hR_48 (fun q hq => (hK_74 q hq).trans (hK_62 q hq)) (fun q q1 _ => by rw [hA_74, pk_un (by omega)]; exact hF_62 q (by omega)) (MP_addL hP_48 hn (by rw [hA_74, pk_us, hF_62 0 (by omega)]) (lok_out hL_62 hA_74 (by omega)) (fun q q0 hq => by rw [hA_74, pk_un (by omega)]; exact hF_62 q hq)))
          · skip
            refine j_bipush hC (-3) dX7_add_44 (by decide) ?_
            refine j_iret hC hQ rfl rfl (Nat.le_of_ble_eq_true rfl) (Nat.le_of_ble_eq_true rfl) dX7_add_46 rfl ?_
            first | exact mw_o ((sa_full ⟨hc1, hc2, hc3, hc4⟩).trans (if_neg (by have q := len_eq (m := 10) hq0 c_41 rfl (by omega) (by decide); omega))) hMI | exact mw_o ((sa_full ⟨hc1, hc2, hc3, hc4⟩).trans (if_neg (by have q := len_eq (m := 10) hq0 (Decidable.not_not.mp c_41) rfl (by omega) (by decide); omega))) hMI
        · skip
          refine j_iconst hC (-1) dX7_add_33 (by decide) ?_
          refine j_iret hC hQ rfl rfl (Nat.le_of_ble_eq_true rfl) (Nat.le_of_ble_eq_true rfl) dX7_add_34 rfl ?_
          first | exact mw_o (sa_bad (fun q => jb0 c_4 q.1)) hMI | exact mw_o (sa_bad (fun q => jb0 c_13 q.2.1)) hMI | exact mw_o (sa_bad (fun q => jb0 c_22 q.2.2.1)) hMI | exact mw_o (sa_bad (fun q => jb0 c_30 q.2.2.2)) hMI
set_option maxHeartbeats 1000000 in
set_option maxRecDepth 100000 in
theorem c_X7_drop (g : jG) (d : Nat → Nat) (T : St3) (b : List va_W) (x : Int32) (h : MW g d T b) : Con g yX7_drop cX7_drop 3 (some .int) 2 43 0 0 [.ref (d 0), .int x] b (fun rr bb => rr = some (.int (oDrop T x).1) ∧ MW g d (oDrop T x).2 bb) := by
  obtain ⟨I, A, rfl, hMI⟩ := h
  obtain ⟨hm1, hmp, hmh, hmt⟩ := id hMI
  obtain ⟨⟨hq0, hk10⟩, hql, ⟨hq91, hn6⟩, hqr, ⟨hq4, hnd⟩, ⟨hq5, hqh⟩, ⟨hq6, hqs⟩, hq9, hq10⟩ := id hmp
  refine Con.of (own := RX7) (lv := [(0, .ref (d 0)), (1, .int x)]) (by decide) rfl (Nat.le_of_ble_eq_true rfl) rfl ?_
  intro E hC hQ hN
  refine j_aload_n hC dX7_drop_0 rfl rfl ?_
  refine j_iload_n hC dX7_drop_1 rfl rfl ?_
  refine j_callVR hC [0] (c_X7_isLight g _ _ _ _) mX7_isLight k819 rfl rfl rfl rfl rfl ⟨(Nat.le_of_ble_eq_true rfl), (Nat.le_of_ble_eq_true rfl)⟩ (Nat.le_of_ble_eq_true rfl) ⟨(Nat.le_of_ble_eq_true rfl), (Nat.le_of_ble_eq_true rfl)⟩ dX7_drop_2 ?_
  dsimp only [jrepl, List.set, jstk]
  refine j_if_ne hC dX7_drop_5 (tgt := 10) (by decide) (fun c_5 => ?_) (fun c_5 => ?_)
  · skip
    have hlx : hLX x (bLs T.1).length := (in_len hq0 hk10).mp (jb1 c_5)
    obtain ⟨j, hj, hx⟩ := hLX_nat (by omega) hlx
    have hi : j ≤ 10 := by omega
    have hlg : lg T.1 x = LI T.1 j := lg_LI hj (by omega) hx
    have hcl : x.toNatClampNeg = j := by rw [hx, nI_cl (by omega)]
    have hlj := hql j hj
    refine j_aload_n hC dX7_drop_10 rfl rfl ?_
    refine j_callV hC [0] (c_X7_records g _ _ _ T hMI) mX7_records k791 rfl rfl rfl rfl rfl ⟨(Nat.le_of_ble_eq_true rfl), (Nat.le_of_ble_eq_true rfl)⟩ (Nat.le_of_ble_eq_true rfl) ⟨(Nat.le_of_ble_eq_true rfl), (Nat.le_of_ble_eq_true rfl)⟩ dX7_drop_11 (fun r_11 b_11 hp_11 _ => ?_)
    obtain ⟨rfl, I_11, A_11, rfl, hR_11⟩ := hp_11
    have hP_11 : MP (A_11 1) T.1 := hR_11.2.1
    dsimp only [jrepl, List.set, jstk]
    refine j_aload_n hC dX7_drop_14 rfl rfl ?_
    refine j_get hC uX7 0 0 0 rfl rfl k724 rfl dX7_drop_15 ?_
    refine j_iconst hC (0) dX7_drop_18 (by decide) ?_
    refine j_dup2 hC dX7_drop_19 rfl rfl ?_
    refine j_ildN hC (m := 0) 0 1 rfl rfl (by decide) (by decide) dX7_drop_20 ?_
    refine j_iconst hC (1) dX7_drop_21 (by decide) ?_
    refine j_isub hC dX7_drop_22 ?_
    refine j_st_7_1 (bi := 0) (m := 0) hC rfl (by decide) (by decide) dX7_drop_23 (fun A_23 hA_23 hK_23 => ?_)
    dsimp only [List.set]
    refine j_aload_n hC dX7_drop_24 rfl rfl ?_
    refine j_iload_n hC dX7_drop_25 rfl rfl ?_
    refine j_iconst hC (0) dX7_drop_26 (by decide) ?_
    refine j_callVR hC [0] (c_X7_at g _ _ _ _ 0 _ _ hx hi (by decide) (by decide)) mX7_at k799 rfl rfl rfl rfl rfl ⟨(Nat.le_of_ble_eq_true rfl), (Nat.le_of_ble_eq_true rfl)⟩ (Nat.le_of_ble_eq_true rfl) ⟨(Nat.le_of_ble_eq_true rfl), (Nat.le_of_ble_eq_true rfl)⟩ dX7_drop_27 ?_
    dsimp only [jrepl, List.set, jstk]
    refine j_istore_n hC dX7_drop_30 rfl rfl rfl rfl (fun v_30 e_30 => ?_)
    have L_31 : ∀ (fu : Nat) (m : Nat) (x2 : Int32) (A1 : Nat → jF) (hfu : 100 ≤ m + fu) (hm : 1 + 9 * j ≤ m ∧ m ≤ 1 + 9 * ((bLs T.1).length - 1)) (h1 : x2 = nI m) (hP : ∀ q, A1 1 q = if 1 + 9 * j ≤ q ∧ q < m then A_23 1 (q + 9) else A_23 1 q) (hK : ∀ q, q ≠ 1 → A1 q = A_23 q), J g (jRm 2 43 0 0) E 3 31 [(0, .ref (d 0)), (1, .int x), (2, .int x2)] [] [mc g d I_11 A1] (0) (0) := by
      intro fu
      induction fu with
      | zero => intro m x2 A1 hfu hm h1 hP hK; exact absurd hfu (by omega)
      | succ fu ih_31 =>
        intro m x2 A1 hfu hm h1 hP hK
        have hl0 : A1 1 0 = nI ((bLs T.1).length - 1) := by rw [hP 0, if_neg (by omega), hA_23, pk_us, hP_11.1.1]; exact nI_predP (by omega)
        refine j_iload_n hC dX7_drop_31 rfl rfl ?_
        refine j_aload_n hC dX7_drop_32 rfl rfl ?_
        refine j_aload_n hC dX7_drop_33 rfl rfl ?_
        refine j_callVR hC [0] (c_X7_lights g _ _ _) mX7_lights k787 rfl rfl rfl rfl rfl ⟨(Nat.le_of_ble_eq_true rfl), (Nat.le_of_ble_eq_true rfl)⟩ (Nat.le_of_ble_eq_true rfl) ⟨(Nat.le_of_ble_eq_true rfl), (Nat.le_of_ble_eq_true rfl)⟩ dX7_drop_34 ?_
        dsimp only [jrepl, List.set, jstk]
        refine j_iconst hC (0) dX7_drop_37 (by decide) ?_
        refine j_callVR hC [0] (c_X7_at g _ _ _ ((bLs T.1).length - 1) 0 _ _ hl0 (by omega) rfl (by decide)) mX7_at k799 rfl rfl rfl rfl rfl ⟨(Nat.le_of_ble_eq_true rfl), (Nat.le_of_ble_eq_true rfl)⟩ (Nat.le_of_ble_eq_true rfl) ⟨(Nat.le_of_ble_eq_true rfl), (Nat.le_of_ble_eq_true rfl)⟩ dX7_drop_38 ?_
        dsimp only [jrepl, List.set, jstk]
        refine j_icmp_ge hC dX7_drop_41 (tgt := 65) (by decide) (fun c_41 => ?_) (fun c_41 => ?_)
        · skip
          have hme : m = 1 + 9 * ((bLs T.1).length - 1) := Nat.le_antisymm (by omega) (jge rfl h1 (by omega) (by omega) c_41)
          rw [hme] at hP
          refine j_aload_n hC dX7_drop_65 rfl rfl ?_
          refine j_callVR hC [0] (c_X7_lights g _ _ _) mX7_lights k787 rfl rfl rfl rfl rfl ⟨(Nat.le_of_ble_eq_true rfl), (Nat.le_of_ble_eq_true rfl)⟩ (Nat.le_of_ble_eq_true rfl) ⟨(Nat.le_of_ble_eq_true rfl), (Nat.le_of_ble_eq_true rfl)⟩ dX7_drop_66 ?_
          dsimp only [jrepl, List.set, jstk]
          refine j_iret hC hQ rfl rfl (Nat.le_of_ble_eq_true rfl) (Nat.le_of_ble_eq_true rfl) dX7_drop_69 rfl ?_
          exact mw_c (by unfold oDrop; rw [if_pos hlx, hcl]) hl0 (mi_set hR_11 (fun q hq => (hK q hq).trans (hK_23 q hq)) (fun q q1 _ => by rw [hP, if_neg (by omega), hA_23, pk_un (by omega)]) (MP_dropL hP_11 hj (by rw [hP 0, if_neg (by omega), hA_23, pk_us]) (fun q q1 q2 => by rw [hP, if_pos ⟨q1, q2⟩, hA_23, pk_un (by omega)]) (fun q q0 hq => by rw [hP, if_neg (by omega), hA_23, pk_un (by omega)])))
        · skip
          have hml : m < 1 + 9 * ((bLs T.1).length - 1) + 0 := jlt rfl h1 (by omega) (by omega) c_41
          refine j_aload_n hC dX7_drop_44 rfl rfl ?_
          refine j_get hC uX7 0 0 0 rfl rfl k724 rfl dX7_drop_45 ?_
          refine j_iload_n hC dX7_drop_48 rfl rfl ?_
          refine j_aload_n hC dX7_drop_49 rfl rfl ?_
          refine j_get hC uX7 0 0 0 rfl rfl k724 rfl dX7_drop_50 ?_
          refine j_iload_n hC dX7_drop_53 rfl rfl ?_
          refine j_bipush hC (9) dX7_drop_54 (by decide) ?_
          refine j_iadd hC dX7_drop_56 ?_
          refine j_ildN hC (m := m + 9) 0 1 rfl rfl (by rw [h1]; exact nI_add m 9) (by omega) dX7_drop_57 ?_
          refine j_st_7_1 (bi := 0) (m := m) hC rfl h1 (by omega) dX7_drop_58 (fun A_58 hA_58 hK_58 => ?_)
          dsimp only [List.set]
          refine j_iinc hC (1) dX7_drop_59 rfl rfl rfl rfl rfl (fun v_59 e_59 => ?_)
          refine j_goto hC dX7_drop_62 (tgt := 31) (by decide) ?_
          refine j_pick [0, 1, 2] ?_
          exact ih_31 (m + 1) _ _ (by omega) (by omega) (jsucc e_59 h1) (shf hP (by decide) hm.1 hA_58) (fun q hq => (hK_58 q hq).trans (hK q hq))
    refine j_pick [0, 1, 2] ?_
    exact L_31 (100) (1 + 9 * j) _ _ (by omega) (by omega) (by rw [e_30]; rfl) (fun q => by rw [if_neg (by omega)]) (fun _ _ => rfl)
  · skip
    refine j_iconst hC (-1) dX7_drop_8 (by decide) ?_
    refine j_iret hC hQ rfl rfl (Nat.le_of_ble_eq_true rfl) (Nat.le_of_ble_eq_true rfl) dX7_drop_9 rfl ?_
    exact mw_o (by unfold oDrop; rw [if_neg (fun q => jb0 c_5 ((in_len hq0 hk10).mpr q))]) hMI
theorem r_nats {x y : Int32} (h : in01 x 0 200) (h2 : in01 y x 200) : ∃ a b : Nat, x = nI a ∧ y = nI b ∧ a ≤ b ∧ b ≤ 200 := by
  obtain ⟨q1, q2⟩ := in_t h
  obtain ⟨q3, q4⟩ := in_t h2
  have e : (200 : Int32).toInt = 200 := by decide
  rw [z_t] at q1
  obtain ⟨a, ha, ea, ha2⟩ := jnat_of q1
  obtain ⟨b, hb, eb, hb2⟩ := jnat_of (x := y) (by omega)
  exact ⟨a, b, ea, eb, by omega, by omega⟩
set_option maxHeartbeats 1000000 in
set_option maxRecDepth 100000 in
theorem c_X7_route (g : jG) (d : Nat → Nat) (T : St3) (b : List va_W) (x y : Int32) (h : MW g d T b) : Con g yX7_route cX7_route 3 (some .int) 2 42 0 0 [.ref (d 0), .int x, .int y] b (fun rr bb => rr = some (.int (oRoute T x y).1) ∧ MW g d (oRoute T x y).2 bb) := by
  obtain ⟨I, A, rfl, hMI⟩ := h
  obtain ⟨hm1, hmp, hmh, hmt⟩ := id hMI
  obtain ⟨⟨hq0, hk10⟩, hql, ⟨hq91, hn6⟩, hqr, ⟨hq4, hnd⟩, ⟨hq5, hqh⟩, ⟨hq6, hqs⟩, hq9, hq10⟩ := id hmp
  refine Con.of (own := RX7) (lv := [(0, .ref (d 0)), (1, .int x), (2, .int y)]) (by decide) rfl (Nat.le_of_ble_eq_true rfl) rfl ?_
  intro E hC hQ hN
  refine j_iload_n hC dX7_route_0 rfl rfl ?_
  refine j_callSR hC [] (c_X7_isPlace g _) mX7_isPlace k778 rfl rfl rfl ⟨(Nat.le_of_ble_eq_true rfl), (Nat.le_of_ble_eq_true rfl)⟩ (Nat.le_of_ble_eq_true rfl) ⟨(Nat.le_of_ble_eq_true rfl), (Nat.le_of_ble_eq_true rfl)⟩ dX7_route_1 ?_
  dsimp only [jrepl, List.set, jstk]
  refine j_if_eq hC dX7_route_4 (tgt := 18) (by decide) (fun c_4 => ?_) (fun c_4 => ?_)
  · skip
    refine j_iconst hC (-1) dX7_route_18 (by decide) ?_
    refine j_iret hC hQ rfl rfl (Nat.le_of_ble_eq_true rfl) (Nat.le_of_ble_eq_true rfl) dX7_route_19 rfl ?_
    first | exact mw_o (sr_bad (fun q => jb0 c_4 q.1)) hMI | exact mw_o (sr_bad (fun q => jb0 c_15 q.2)) hMI
  · skip
    refine j_iload_n hC dX7_route_7 rfl rfl ?_
    refine j_iload_n hC dX7_route_8 rfl rfl ?_
    refine j_sipush hC (200) dX7_route_9 (by decide) ?_
    refine j_callSR hC [] (c_X7_in g _ _ _) mX7_in k781 rfl rfl rfl ⟨(Nat.le_of_ble_eq_true rfl), (Nat.le_of_ble_eq_true rfl)⟩ (Nat.le_of_ble_eq_true rfl) ⟨(Nat.le_of_ble_eq_true rfl), (Nat.le_of_ble_eq_true rfl)⟩ dX7_route_12 ?_
    dsimp only [jrepl, List.set, jstk]
    refine j_if_ne hC dX7_route_15 (tgt := 20) (by decide) (fun c_15 => ?_) (fun c_15 => ?_)
    · skip
      have hc1 := jb1 c_4
      have hc2 := jb1 c_15
      refine j_aload_n hC dX7_route_20 rfl rfl ?_
      refine j_get hC uX7 0 0 0 rfl rfl k724 rfl dX7_route_21 ?_
      refine j_bipush hC (91) dX7_route_24 (by decide) ?_
      refine j_ildN hC (m := 91) 0 1 rfl rfl (by decide) (by decide) dX7_route_26 ?_
      refine j_bipush hC (6) dX7_route_27 (by decide) ?_
      refine j_icmp_ne hC dX7_route_29 (tgt := 35) (by decide) (fun c_29 => ?_) (fun c_29 => ?_)
      · skip
        have hn : (bRs T.1).length < 6 := by have : (bRs T.1).length ≠ 6 := fun q => c_29 (by rw [hq91, q]; rfl); omega
        refine j_aload_n hC dX7_route_35 rfl rfl ?_
        refine j_callV hC [0] (c_X7_records g _ _ _ T hMI) mX7_records k791 rfl rfl rfl rfl rfl ⟨(Nat.le_of_ble_eq_true rfl), (Nat.le_of_ble_eq_true rfl)⟩ (Nat.le_of_ble_eq_true rfl) ⟨(Nat.le_of_ble_eq_true rfl), (Nat.le_of_ble_eq_true rfl)⟩ dX7_route_36 (fun r_36 b_36 hp_36 _ => ?_)
        obtain ⟨rfl, I_36, A_36, rfl, hR_36⟩ := hp_36
        have hP_36 : MP (A_36 1) T.1 := hR_36.2.1
        dsimp only [jrepl, List.set, jstk]
        have h91 : A_36 1 91 = nI (bRs T.1).length := hP_36.2.2.1.1
        refine j_aload_n hC dX7_route_39 rfl rfl ?_
        refine j_get hC uX7 0 0 0 rfl rfl k724 rfl dX7_route_40 ?_
        refine j_bipush hC (92) dX7_route_43 (by decide) ?_
        refine j_iconst hC (2) dX7_route_45 (by decide) ?_
        refine j_aload_n hC dX7_route_46 rfl rfl ?_
        refine j_get hC uX7 0 0 0 rfl rfl k724 rfl dX7_route_47 ?_
        refine j_bipush hC (91) dX7_route_50 (by decide) ?_
        refine j_ildN hC (m := 91) 0 1 rfl rfl (by decide) (by decide) dX7_route_52 ?_
        refine j_imul hC dX7_route_53 ?_
        refine j_iadd hC dX7_route_54 ?_
        refine j_iload_n hC dX7_route_55 rfl rfl ?_
        refine j_st_7_1 (bi := 0) (m := 92 + 2 * (bRs T.1).length) hC rfl (r_idx h91) (by omega) dX7_route_56 (fun A_56 hA_56 hK_56 => ?_)
        dsimp only [List.set]
        have h91b : A_56 1 91 = nI (bRs T.1).length := by rw [hA_56, pk_un (by omega)]; exact h91
        refine j_aload_n hC dX7_route_57 rfl rfl ?_
        refine j_get hC uX7 0 0 0 rfl rfl k724 rfl dX7_route_58 ?_
        refine j_bipush hC (92) dX7_route_61 (by decide) ?_
        refine j_iconst hC (2) dX7_route_63 (by decide) ?_
        refine j_aload_n hC dX7_route_64 rfl rfl ?_
        refine j_get hC uX7 0 0 0 rfl rfl k724 rfl dX7_route_65 ?_
        refine j_bipush hC (91) dX7_route_68 (by decide) ?_
        refine j_ildN hC (m := 91) 0 1 rfl rfl (by decide) (by decide) dX7_route_70 ?_
        refine j_imul hC dX7_route_71 ?_
        refine j_iadd hC dX7_route_72 ?_
        refine j_iconst hC (1) dX7_route_73 (by decide) ?_
        refine j_iadd hC dX7_route_74 ?_
        refine j_iload_n hC dX7_route_75 rfl rfl ?_
        refine j_st_7_1 (bi := 0) (m := 92 + 2 * (bRs T.1).length + 1) hC rfl (r_idx1 h91b) (by omega) dX7_route_76 (fun A_76 hA_76 hK_76 => ?_)
        dsimp only [List.set]
        refine j_aload_n hC dX7_route_77 rfl rfl ?_
        refine j_get hC uX7 0 0 0 rfl rfl k724 rfl dX7_route_78 ?_
        refine j_bipush hC (91) dX7_route_81 (by decide) ?_
        refine j_dup2 hC dX7_route_83 rfl rfl ?_
        refine j_ildN hC (m := 91) 0 1 rfl rfl (by decide) (by decide) dX7_route_84 ?_
        refine j_iconst hC (1) dX7_route_85 (by decide) ?_
        refine j_iadd hC dX7_route_86 ?_
        refine j_st_7_1 (bi := 0) (m := 91) hC rfl (by decide) (by decide) dX7_route_87 (fun A_87 hA_87 hK_87 => ?_)
        dsimp only [List.set]
        refine j_aload_n hC dX7_route_88 rfl rfl ?_
        refine j_get hC uX7 0 0 0 rfl rfl k724 rfl dX7_route_89 ?_
        refine j_bipush hC (91) dX7_route_92 (by decide) ?_
        refine j_ildN hC (m := 91) 0 1 rfl rfl (by decide) (by decide) dX7_route_94 ?_
        refine j_iconst hC (1) dX7_route_95 (by decide) ?_
        refine j_isub hC dX7_route_96 ?_
        have h91c : A_87 1 91 = A_36 1 91 + 1 := by rw [hA_87, pk_us, hA_76, pk_un (by omega), hA_56, pk_un (by omega)]
        refine j_iret hC hQ rfl rfl (Nat.le_of_ble_eq_true rfl) (Nat.le_of_ble_eq_true rfl) dX7_route_97 rfl ?_
        exact mw_c ((sr_full hc1 hc2).trans (if_pos hn)) (by rw [h91c, h91]; exact jaddsub) (mi_set hR_36 (fun q hq => (hK_87 q hq).trans ((hK_76 q hq).trans (hK_56 q hq))) (fun q q1 _ => by rw [hA_87, pk_un (by omega), hA_76, pk_un (by omega), hA_56, pk_un (by omega)]) (MP_addR hP_36 hn h91c (by rw [hA_87, pk_un (by omega), hA_76, pk_un (by omega), hA_56, pk_us]) (by rw [hA_87, pk_un (by omega), hA_76, pk_us]) (r_nats hc1 hc2) (fun q q1 q2 q3 => by rw [hA_87, pk_un q1, hA_76, pk_un q3, hA_56, pk_un q2])))
      · skip
        refine j_bipush hC (-3) dX7_route_32 (by decide) ?_
        refine j_iret hC hQ rfl rfl (Nat.le_of_ble_eq_true rfl) (Nat.le_of_ble_eq_true rfl) dX7_route_34 rfl ?_
        first | exact mw_o ((sr_full hc1 hc2).trans (if_neg (by have q := len_eq (m := 6) hq91 c_29 rfl (by omega) (by decide); omega))) hMI | exact mw_o ((sr_full hc1 hc2).trans (if_neg (by have q := len_eq (m := 6) hq91 (Decidable.not_not.mp c_29) rfl (by omega) (by decide); omega))) hMI
    · skip
      refine j_iconst hC (-1) dX7_route_18 (by decide) ?_
      refine j_iret hC hQ rfl rfl (Nat.le_of_ble_eq_true rfl) (Nat.le_of_ble_eq_true rfl) dX7_route_19 rfl ?_
      first | exact mw_o (sr_bad (fun q => jb0 c_4 q.1)) hMI | exact mw_o (sr_bad (fun q => jb0 c_15 q.2)) hMI
set_option maxHeartbeats 1000000 in
set_option maxRecDepth 100000 in
theorem c_X7_dropRoute (g : jG) (d : Nat → Nat) (T : St3) (b : List va_W) (x : Int32) (h : MW g d T b) : Con g yX7_dropRoute cX7_dropRoute 3 (some .int) 2 43 0 0 [.ref (d 0), .int x] b (fun rr bb => rr = some (.int (oDropRoute T x).1) ∧ MW g d (oDropRoute T x).2 bb) := by
  obtain ⟨I, A, rfl, hMI⟩ := h
  obtain ⟨hm1, hmp, hmh, hmt⟩ := id hMI
  obtain ⟨⟨hq0, hk10⟩, hql, ⟨hq91, hn6⟩, hqr, ⟨hq4, hnd⟩, ⟨hq5, hqh⟩, ⟨hq6, hqs⟩, hq9, hq10⟩ := id hmp
  refine Con.of (own := RX7) (lv := [(0, .ref (d 0)), (1, .int x)]) (by decide) rfl (Nat.le_of_ble_eq_true rfl) rfl ?_
  intro E hC hQ hN
  refine j_aload_n hC dX7_dropRoute_0 rfl rfl ?_
  refine j_iload_n hC dX7_dropRoute_1 rfl rfl ?_
  refine j_callVR hC [0] (c_X7_isRoute g _ _ _ _) mX7_isRoute k835 rfl rfl rfl rfl rfl ⟨(Nat.le_of_ble_eq_true rfl), (Nat.le_of_ble_eq_true rfl)⟩ (Nat.le_of_ble_eq_true rfl) ⟨(Nat.le_of_ble_eq_true rfl), (Nat.le_of_ble_eq_true rfl)⟩ dX7_dropRoute_2 ?_
  dsimp only [jrepl, List.set, jstk]
  refine j_if_ne hC dX7_dropRoute_5 (tgt := 10) (by decide) (fun c_5 => ?_) (fun c_5 => ?_)
  · skip
    have hlx : hLX x (bRs T.1).length := (in_len hq91 (by omega)).mp (jb1 c_5)
    obtain ⟨j, hj, hx⟩ := hLX_nat (by omega) hlx
    have hcl : x.toNatClampNeg = j := by rw [hx, nI_cl (by omega)]
    refine j_aload_n hC dX7_dropRoute_10 rfl rfl ?_
    refine j_callV hC [0] (c_X7_records g _ _ _ T hMI) mX7_records k791 rfl rfl rfl rfl rfl ⟨(Nat.le_of_ble_eq_true rfl), (Nat.le_of_ble_eq_true rfl)⟩ (Nat.le_of_ble_eq_true rfl) ⟨(Nat.le_of_ble_eq_true rfl), (Nat.le_of_ble_eq_true rfl)⟩ dX7_dropRoute_11 (fun r_11 b_11 hp_11 _ => ?_)
    obtain ⟨rfl, I_11, A_11, rfl, hR_11⟩ := hp_11
    have hP_11 : MP (A_11 1) T.1 := hR_11.2.1
    dsimp only [jrepl, List.set, jstk]
    refine j_aload_n hC dX7_dropRoute_14 rfl rfl ?_
    refine j_get hC uX7 0 0 0 rfl rfl k724 rfl dX7_dropRoute_15 ?_
    refine j_bipush hC (91) dX7_dropRoute_18 (by decide) ?_
    refine j_dup2 hC dX7_dropRoute_20 rfl rfl ?_
    refine j_ildN hC (m := 91) 0 1 rfl rfl (by decide) (by decide) dX7_dropRoute_21 ?_
    refine j_iconst hC (1) dX7_dropRoute_22 (by decide) ?_
    refine j_isub hC dX7_dropRoute_23 ?_
    refine j_st_7_1 (bi := 0) (m := 91) hC rfl (by decide) (by decide) dX7_dropRoute_24 (fun A_24 hA_24 hK_24 => ?_)
    dsimp only [List.set]
    refine j_bipush hC (92) dX7_dropRoute_25 (by decide) ?_
    refine j_iconst hC (2) dX7_dropRoute_27 (by decide) ?_
    refine j_iload_n hC dX7_dropRoute_28 rfl rfl ?_
    refine j_imul hC dX7_dropRoute_29 ?_
    refine j_iadd hC dX7_dropRoute_30 ?_
    refine j_istore_n hC dX7_dropRoute_31 rfl rfl rfl rfl (fun v_31 e_31 => ?_)
    have L_32 : ∀ (fu : Nat) (m : Nat) (x2 : Int32) (A1 : Nat → jF) (hfu : 110 ≤ m + fu) (hm : 92 + 2 * j ≤ m ∧ m ≤ 92 + 2 * ((bRs T.1).length - 1)) (h1 : x2 = nI m) (hP : ∀ q, A1 1 q = if 92 + 2 * j ≤ q ∧ q < m then A_24 1 (q + 2) else A_24 1 q) (hK : ∀ q, q ≠ 1 → A1 q = A_24 q), J g (jRm 2 43 0 0) E 3 32 [(0, .ref (d 0)), (1, .int x), (2, .int x2)] [] [mc g d I_11 A1] (0) (0) := by
      intro fu
      induction fu with
      | zero => intro m x2 A1 hfu hm h1 hP hK; exact absurd hfu (by omega)
      | succ fu ih_32 =>
        intro m x2 A1 hfu hm h1 hP hK
        have hl0 : A1 1 91 = nI ((bRs T.1).length - 1) := by rw [hP 91, if_neg (by omega), hA_24, pk_us, hP_11.2.2.1.1]; exact nI_predP (by omega)
        refine j_iload_n hC dX7_dropRoute_32 rfl rfl ?_
        refine j_bipush hC (92) dX7_dropRoute_33 (by decide) ?_
        refine j_iconst hC (2) dX7_dropRoute_35 (by decide) ?_
        refine j_aload_n hC dX7_dropRoute_36 rfl rfl ?_
        refine j_get hC uX7 0 0 0 rfl rfl k724 rfl dX7_dropRoute_37 ?_
        refine j_bipush hC (91) dX7_dropRoute_40 (by decide) ?_
        refine j_ildN hC (m := 91) 0 1 rfl rfl (by decide) (by decide) dX7_dropRoute_42 ?_
        refine j_imul hC dX7_dropRoute_43 ?_
        refine j_iadd hC dX7_dropRoute_44 ?_
        refine j_icmp_ge hC dX7_dropRoute_45 (tgt := 68) (by decide) (fun c_45 => ?_) (fun c_45 => ?_)
        · skip
          have hme : m = 92 + 2 * ((bRs T.1).length - 1) := Nat.le_antisymm (by omega) (jge (r_idx hl0) h1 (by omega) (by omega) c_45)
          rw [hme] at hP
          refine j_aload_n hC dX7_dropRoute_68 rfl rfl ?_
          refine j_get hC uX7 0 0 0 rfl rfl k724 rfl dX7_dropRoute_69 ?_
          refine j_bipush hC (91) dX7_dropRoute_72 (by decide) ?_
          refine j_ildN hC (m := 91) 0 1 rfl rfl (by decide) (by decide) dX7_dropRoute_74 ?_
          refine j_iret hC hQ rfl rfl (Nat.le_of_ble_eq_true rfl) (Nat.le_of_ble_eq_true rfl) dX7_dropRoute_75 rfl ?_
          exact mw_c (by unfold oDropRoute; rw [if_pos hlx, hcl]) hl0 (mi_set hR_11 (fun q hq => (hK q hq).trans (hK_24 q hq)) (fun q q1 _ => by rw [hP, if_neg (by omega), hA_24, pk_un (by omega)]) (MP_dropR hP_11 hj (by rw [hP 91, if_neg (by omega), hA_24, pk_us]) (fun q q1 q2 => by rw [hP, if_pos ⟨q1, q2⟩, hA_24, pk_un (by omega)]) (fun q q0 hq => by rw [hP, if_neg (by omega), hA_24, pk_un q0])))
        · skip
          have hml : m < 92 + 2 * ((bRs T.1).length - 1) := jlt (r_idx hl0) h1 (by omega) (by omega) c_45
          refine j_aload_n hC dX7_dropRoute_48 rfl rfl ?_
          refine j_get hC uX7 0 0 0 rfl rfl k724 rfl dX7_dropRoute_49 ?_
          refine j_iload_n hC dX7_dropRoute_52 rfl rfl ?_
          refine j_aload_n hC dX7_dropRoute_53 rfl rfl ?_
          refine j_get hC uX7 0 0 0 rfl rfl k724 rfl dX7_dropRoute_54 ?_
          refine j_iload_n hC dX7_dropRoute_57 rfl rfl ?_
          refine j_iconst hC (2) dX7_dropRoute_58 (by decide) ?_
          refine j_iadd hC dX7_dropRoute_59 ?_
          refine j_ildN hC (m := m + 2) 0 1 rfl rfl (by rw [h1]; exact nI_add m 2) (by omega) dX7_dropRoute_60 ?_
          refine j_st_7_1 (bi := 0) (m := m) hC rfl h1 (by omega) dX7_dropRoute_61 (fun A_61 hA_61 hK_61 => ?_)
          dsimp only [List.set]
          refine j_iinc hC (1) dX7_dropRoute_62 rfl rfl rfl rfl rfl (fun v_62 e_62 => ?_)
          refine j_goto hC dX7_dropRoute_65 (tgt := 32) (by decide) ?_
          refine j_pick [0, 1, 2] ?_
          exact ih_32 (m + 1) _ _ (by omega) (by omega) (jsucc e_62 h1) (shf hP (by decide) hm.1 hA_61) (fun q hq => (hK_61 q hq).trans (hK q hq))
    refine j_pick [0, 1, 2] ?_
    exact L_32 (110) (92 + 2 * j) _ _ (by omega) (by omega) (e_31.trans (r_idx hx)) (fun q => by rw [if_neg (by omega)]) (fun _ _ => rfl)
  · skip
    refine j_iconst hC (-1) dX7_dropRoute_8 (by decide) ?_
    refine j_iret hC hQ rfl rfl (Nat.le_of_ble_eq_true rfl) (Nat.le_of_ble_eq_true rfl) dX7_dropRoute_9 rfl ?_
    exact mw_o (by unfold oDropRoute; rw [if_neg (fun q => jb0 c_5 ((in_len hq91 (by omega)).mpr q))]) hMI
