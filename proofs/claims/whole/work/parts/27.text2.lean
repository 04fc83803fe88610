def lE (I f : jF) (c : Int32) (m : Nat) (lo hi : Int32) : jF := rnF (tEx I f c) f m lo hi
def lV (I f : jF) (c : Int32) (m : Nat) : Int32 := (rnl f m (tEx I f c) 0).2
def rlA (I f : jF) : jF := lE I f 112 3 0 200
def rlB (I f : jF) : jF := lE (rlA I f) f 99 1 0 3
def rlC (I f : jF) : jF := lE (rlB I f) f 98 1 0 3
def rlD (I f : jF) : jF := lE (rlC I f) f 108 1 0 2
def rlM (I f : jF) : Int32 := if tPk (rlD I f) f = 109 then 1 else 0
def rlZ (I f : jF) : jF := tEx (if tPk (rlD I f) f = 109 then tEx (rlD I f) f 109 else rlD I f) f 59
def rlL (I f : jF) : jF := newL (lV I f 112 3) (lV (rlA I f) f 99 1) (lV (rlB I f) f 98 1) (lV (rlC I f) f 108 1) (rlM I f)
def rrA (I f : jF) : jF := lE I f 114 3 0 200
def rrZ (I f : jF) : jF := tEx (lE (rrA I f) f 45 3 (lV I f 114 3) 200) f 59
def rrF (I f : jF) : Int32 := lV I f 114 3
def rrT (I f : jF) : Int32 := lV (rrA I f) f 45 3
theorem rlZ_a {I f : jF} (h : tPk (rlD I f) f = 109) : rlZ I f = tEx (tEx (rlD I f) f 109) f 59 := by unfold rlZ; rw [if_pos h]
theorem rlZ_b {I f : jF} (h : ¬ tPk (rlD I f) f = 109) : rlZ I f = tEx (rlD I f) f 59 := by unfold rlZ; rw [if_neg h]
def rInto (f : jF) : Nat → jF → List jF → List (Int32 × Int32) → jF × List jF × List (Int32 × Int32)
  | 0, I, ls, rs => (I, ls, rs)
  | fu + 1, I, ls, rs => if ¬ I 1 ≤ I 2 ∧ I 3 = -1 then
      (if tPk I f = 112 ∧ ls.length < 10 then rInto f fu (rlZ I f) (if rlZ I f 3 = -1 then ls ++ [rlL I f] else ls) rs
       else if tPk I f = 114 ∧ rs.length < 6 then rInto f fu (rrZ I f) ls (if rrZ I f 3 = -1 then rs ++ [(rrF I f, rrT I f)] else rs)
       else rInto f fu (tFl I (I 2)) ls rs) else (I, ls, rs)
theorem rInto_0 {f : jF} {fu : Nat} {I : jF} {ls : List jF} {rs : List (Int32 × Int32)} (h : ¬ (¬ I 1 ≤ I 2 ∧ I 3 = -1)) : rInto f fu I ls rs = (I, ls, rs) := by
  cases fu with
  | zero => rfl
  | succ fu => exact if_neg h
theorem rInto_a {f : jF} {fu : Nat} {I : jF} {ls : List jF} {rs : List (Int32 × Int32)} (h : ¬ I 1 ≤ I 2 ∧ I 3 = -1) (h2 : tPk I f = 112 ∧ ls.length < 10) : rInto f (fu + 1) I ls rs = rInto f fu (rlZ I f) (if rlZ I f 3 = -1 then ls ++ [rlL I f] else ls) rs := (if_pos h).trans (if_pos h2)
theorem rInto_b {f : jF} {fu : Nat} {I : jF} {ls : List jF} {rs : List (Int32 × Int32)} (h : ¬ I 1 ≤ I 2 ∧ I 3 = -1) (h2 : ¬ (tPk I f = 112 ∧ ls.length < 10)) (h3 : tPk I f = 114 ∧ rs.length < 6) : rInto f (fu + 1) I ls rs = rInto f fu (rrZ I f) ls (if rrZ I f 3 = -1 then rs ++ [(rrF I f, rrT I f)] else rs) := (if_pos h).trans ((if_neg h2).trans (if_pos h3))
theorem rInto_c {f : jF} {fu : Nat} {I : jF} {ls : List jF} {rs : List (Int32 × Int32)} (h : ¬ I 1 ≤ I 2 ∧ I 3 = -1) (h2 : ¬ (tPk I f = 112 ∧ ls.length < 10)) (h3 : ¬ (tPk I f = 114 ∧ rs.length < 6)) : rInto f (fu + 1) I ls rs = rInto f fu (tFl I (I 2)) ls rs := (if_pos h).trans ((if_neg h2).trans (if_neg h3))
/-- a building that has just these lights and routes, else what it had -/
def blaid (I0 : jF) (A0 : Nat → jF) (I : jF) (A : Nat → jF) (Y : List (Nat × jF)) (ls : List jF) (rs : List (Int32 × Int32)) : Prop :=
  bok I Y ls.length ∧ ls.length ≤ 10 ∧ (∀ j, j < ls.length → ls[j]? = some (jL Y j)) ∧ I 4 = nI rs.length ∧ rs.length ≤ 6 ∧ (∀ t, t < rs.length → rs[t]? = some (A 0 t, A 1 t)) ∧ (∀ q, q ≠ 1 → q ≠ 4 → I q = I0 q) ∧ A 2 = A0 2
theorem blaid_light {I0 : jF} {A0 : Nat → jF} {I : jF} {A : Nat → jF} {X Y : List (Nat × jF)} {ls : List jF} {rs : List (Int32 × Int32)} {L : jF} (h : blaid I0 A0 I A X ls rs) (hk : ls.length < 10) (hY : grown X ls.length Y) (hL : jL Y ls.length = L) : blaid I0 A0 (upd I 1 (I 1 + 1)) A Y (ls ++ [L]) rs := by
  obtain ⟨⟨h1, h2, h3⟩, h4, h5, h6, h7, h8, h9, h10⟩ := h
  obtain ⟨g1, g2, g3, g4⟩ := hY
  refine ⟨⟨?_, by simp; omega, g2⟩, by simp; omega, fun j hj => ?_, h6, h7, h8, fun q q1 q2 => ?_, h10⟩
  · show I 1 + 1 = _
    rw [h1, List.length_append]; exact nI_1 _
  · rcases Nat.lt_or_ge j ls.length with q | q
    · rw [List.getElem?_append_left q, h5 j q, jL_of (g4 j q)]
    · have e : j = ls.length := by simp at hj; omega
      subst e
      rw [List.getElem?_append_right (Nat.le_refl _), hL]
      simp
  · show (if q = 1 then _ else I q) = _
    rw [if_neg q1]; exact h9 q q1 q2
theorem blaid_route {I0 : jF} {A0 : Nat → jF} {I : jF} {A : Nat → jF} {Y : List (Nat × jF)} {ls : List jF} {rs : List (Int32 × Int32)} {x y : Int32} (h : blaid I0 A0 I A Y ls rs) (hr : rs.length < 6) : blaid I0 A0 (upd I 4 (I 4 + 1)) (appA A (I 4).toNatClampNeg x y) Y ls (rs ++ [(x, y)]) := by
  obtain ⟨⟨h1, h2, h3⟩, h4, h5, h6, h7, h8, h9, h10⟩ := h
  rw [h6, nI_cl (by omega)]
  refine ⟨⟨h1, h2, h3⟩, h4, h5, ?_, by simp; omega, fun t ht => ?_, fun q q1 q2 => ?_, h10⟩
  · show nI rs.length + 1 = _
    rw [List.length_append]; exact nI_1 _
  · show (rs ++ [(x, y)])[t]? = some (if t = rs.length then x else A 0 t, if t = rs.length then y else A 1 t)
    rcases Nat.lt_or_ge t rs.length with q | q
    · rw [List.getElem?_append_left q, h8 t q, if_neg (by omega), if_neg (by omega)]
    · have e : t = rs.length := by simp at ht; omega
      subst e
      rw [List.getElem?_append_right (Nat.le_refl _), if_pos rfl, if_pos rfl]
      simp
  · show (if q = 4 then _ else I q) = _
    rw [if_neg q2]; exact h9 q q1 q2
set_option maxHeartbeats 1000000 in
set_option maxRecDepth 100000 in
theorem c_X5_readLight (g : jG) (d : Nat → Nat) (I f : jF) (d2 : Nat → Nat) (I0 : jF) (A0 : Nat → jF) (X : List (Nat × jF)) (k : Nat) (h : bok I0 X k) (hk : k < 10) : Con g yX5_readLight cX5_readLight 8 none 4 85 1 9 [.ref (d 0), .ref (d2 0)] [tc g d I f, bc g d2 I0 A0 (lrf X), lts X] (fun r b => r = none ∧ ∃ (I1 : jF) (Y : List (Nat × jF)), b = [tc g d (rlZ I f) f, bc g d2 I1 A0 (lrf Y), lts Y] ∧ ((¬ rlZ I f 3 = -1 ∧ I1 = I0 ∧ Y = X) ∨ (rlZ I f 3 = -1 ∧ I1 = upd I0 1 (I0 1 + 1) ∧ grown X k Y ∧ jL Y k = rlL I f))) := by
  refine Con.of (own := RX5) (lv := [(0, .ref (d 0)), (1, .ref (d2 0))]) (by decide) rfl (Nat.le_of_ble_eq_true rfl) rfl ?_
  intro E hC hQ hN
  refine j_aload_n hC dX5_readLight_0 rfl rfl ?_
  refine j_bipush hC (112) dX5_readLight_1 (by decide) ?_
  refine j_callVR hC [0] (c_X5_expect g _ _ _ _) mX5_expect k237 rfl rfl rfl rfl rfl ⟨(Nat.le_of_ble_eq_true rfl), (Nat.le_of_ble_eq_true rfl)⟩ (Nat.le_of_ble_eq_true rfl) ⟨(Nat.le_of_ble_eq_true rfl), (Nat.le_of_ble_eq_true rfl)⟩ dX5_readLight_3 ?_
  dsimp only [jrepl, List.set, jstk]
  generalize hJ1 : tEx I f 112 = J1
  refine j_aload_n hC dX5_readLight_6 rfl rfl ?_
  refine j_iconst hC (3) dX5_readLight_7 (by decide) ?_
  refine j_iconst hC (0) dX5_readLight_8 (by decide) ?_
  refine j_sipush hC (200) dX5_readLight_9 (by decide) ?_
  refine j_callVR hC [0] (c_X5_readNumber g _ _ _ _ _ _ _ (show _ = nI 3 from rfl) (by decide)) mX5_readNumber k245 rfl rfl rfl rfl rfl ⟨(Nat.le_of_ble_eq_true rfl), (Nat.le_of_ble_eq_true rfl)⟩ (Nat.le_of_ble_eq_true rfl) ⟨(Nat.le_of_ble_eq_true rfl), (Nat.le_of_ble_eq_true rfl)⟩ dX5_readLight_12 ?_
  dsimp only [jrepl, List.set, jstk]
  generalize hJ2 : rnF J1 f 3 0 200 = J2
  refine j_istore_n hC dX5_readLight_15 rfl rfl rfl rfl (fun v_15 e_15 => ?_)
  refine j_aload_n hC dX5_readLight_16 rfl rfl ?_
  refine j_bipush hC (99) dX5_readLight_17 (by decide) ?_
  refine j_callVR hC [0] (c_X5_expect g _ _ _ _) mX5_expect k237 rfl rfl rfl rfl rfl ⟨(Nat.le_of_ble_eq_true rfl), (Nat.le_of_ble_eq_true rfl)⟩ (Nat.le_of_ble_eq_true rfl) ⟨(Nat.le_of_ble_eq_true rfl), (Nat.le_of_ble_eq_true rfl)⟩ dX5_readLight_19 ?_
  dsimp only [jrepl, List.set, jstk]
  generalize hJ3 : tEx J2 f 99 = J3
  refine j_aload_n hC dX5_readLight_22 rfl rfl ?_
  refine j_iconst hC (1) dX5_readLight_23 (by decide) ?_
  refine j_iconst hC (0) dX5_readLight_24 (by decide) ?_
  refine j_iconst hC (3) dX5_readLight_25 (by decide) ?_
  refine j_callVR hC [0] (c_X5_readNumber g _ _ _ _ _ _ _ (show _ = nI 1 from rfl) (by decide)) mX5_readNumber k245 rfl rfl rfl rfl rfl ⟨(Nat.le_of_ble_eq_true rfl), (Nat.le_of_ble_eq_true rfl)⟩ (Nat.le_of_ble_eq_true rfl) ⟨(Nat.le_of_ble_eq_true rfl), (Nat.le_of_ble_eq_true rfl)⟩ dX5_readLight_26 ?_
  dsimp only [jrepl, List.set, jstk]
  generalize hJ4 : rnF J3 f 1 0 3 = J4
  refine j_istore_n hC dX5_readLight_29 rfl rfl rfl rfl (fun v_29 e_29 => ?_)
  refine j_aload_n hC dX5_readLight_30 rfl rfl ?_
  refine j_bipush hC (98) dX5_readLight_31 (by decide) ?_
  refine j_callVR hC [0] (c_X5_expect g _ _ _ _) mX5_expect k237 rfl rfl rfl rfl rfl ⟨(Nat.le_of_ble_eq_true rfl), (Nat.le_of_ble_eq_true rfl)⟩ (Nat.le_of_ble_eq_true rfl) ⟨(Nat.le_of_ble_eq_true rfl), (Nat.le_of_ble_eq_true rfl)⟩ dX5_readLight_33 ?_
  dsimp only [jrepl, List.set, jstk]
  generalize hJ5 : tEx J4 f 98 = J5
  refine j_aload_n hC dX5_readLight_36 rfl rfl ?_
  refine j_iconst hC (1) dX5_readLight_37 (by decide) ?_
  refine j_iconst hC (0) dX5_readLight_38 (by decide) ?_
  refine j_iconst hC (3) dX5_readLight_39 (by decide) ?_
  refine j_callVR hC [0] (c_X5_readNumber g _ _ _ _ _ _ _ (show _ = nI 1 from rfl) (by decide)) mX5_readNumber k245 rfl rfl rfl rfl rfl ⟨(Nat.le_of_ble_eq_true rfl), (Nat.le_of_ble_eq_true rfl)⟩ (Nat.le_of_ble_eq_true rfl) ⟨(Nat.le_of_ble_eq_true rfl), (Nat.le_of_ble_eq_true rfl)⟩ dX5_readLight_40 ?_
  dsimp only [jrepl, List.set, jstk]
  generalize hJ6 : rnF J5 f 1 0 3 = J6
  refine j_istore hC dX5_readLight_43 rfl rfl rfl (fun v_43 e_43 => ?_)
  refine j_aload_n hC dX5_readLight_45 rfl rfl ?_
  refine j_bipush hC (108) dX5_readLight_46 (by decide) ?_
  refine j_callVR hC [0] (c_X5_expect g _ _ _ _) mX5_expect k237 rfl rfl rfl rfl rfl ⟨(Nat.le_of_ble_eq_true rfl), (Nat.le_of_ble_eq_true rfl)⟩ (Nat.le_of_ble_eq_true rfl) ⟨(Nat.le_of_ble_eq_true rfl), (Nat.le_of_ble_eq_true rfl)⟩ dX5_readLight_48 ?_
  dsimp only [jrepl, List.set, jstk]
  generalize hJ7 : tEx J6 f 108 = J7
  refine j_aload_n hC dX5_readLight_51 rfl rfl ?_
  refine j_iconst hC (1) dX5_readLight_52 (by decide) ?_
  refine j_iconst hC (0) dX5_readLight_53 (by decide) ?_
  refine j_iconst hC (2) dX5_readLight_54 (by decide) ?_
  refine j_callVR hC [0] (c_X5_readNumber g _ _ _ _ _ _ _ (show _ = nI 1 from rfl) (by decide)) mX5_readNumber k245 rfl rfl rfl rfl rfl ⟨(Nat.le_of_ble_eq_true rfl), (Nat.le_of_ble_eq_true rfl)⟩ (Nat.le_of_ble_eq_true rfl) ⟨(Nat.le_of_ble_eq_true rfl), (Nat.le_of_ble_eq_true rfl)⟩ dX5_readLight_55 ?_
  dsimp only [jrepl, List.set, jstk]
  generalize hJ8 : rnF J7 f 1 0 2 = J8
  refine j_istore hC dX5_readLight_58 rfl rfl rfl (fun v_58 e_58 => ?_)
  refine j_aload_n hC dX5_readLight_60 rfl rfl ?_
  refine j_callVR hC [0] (c_X5_peek g _ _ _) mX5_peek k229 rfl rfl rfl rfl rfl ⟨(Nat.le_of_ble_eq_true rfl), (Nat.le_of_ble_eq_true rfl)⟩ (Nat.le_of_ble_eq_true rfl) ⟨(Nat.le_of_ble_eq_true rfl), (Nat.le_of_ble_eq_true rfl)⟩ dX5_readLight_61 ?_
  dsimp only [jrepl, List.set, jstk]
  refine j_bipush hC (109) dX5_readLight_64 (by decide) ?_
  refine j_icmp_ne hC dX5_readLight_66 (tgt := 73) (by decide) (fun c_66 => ?_) (fun c_66 => ?_)
  · skip
    refine j_iconst hC (0) dX5_readLight_73 (by decide) ?_
    refine j_istore hC dX5_readLight_74 rfl rfl rfl (fun v_74 e_74 => ?_)
    refine j_iload hC dX5_readLight_76 rfl ?_
    refine j_if_eq hC dX5_readLight_78 (tgt := 87) (by decide) (fun c_78 => ?_) (fun c_78 => ?_)
    · skip
      refine j_aload_n hC dX5_readLight_87 rfl rfl ?_
      refine j_bipush hC (59) dX5_readLight_88 (by decide) ?_
      refine j_callVR hC [0] (c_X5_expect g _ _ _ _) mX5_expect k237 rfl rfl rfl rfl rfl ⟨(Nat.le_of_ble_eq_true rfl), (Nat.le_of_ble_eq_true rfl)⟩ (Nat.le_of_ble_eq_true rfl) ⟨(Nat.le_of_ble_eq_true rfl), (Nat.le_of_ble_eq_true rfl)⟩ dX5_readLight_90 ?_
      dsimp only [jrepl, List.set, jstk]
      first | generalize hJ10 : tEx J9 f 59 = J10 | generalize hJ10 : tEx J8 f 59 = J10
      refine j_aload_n hC dX5_readLight_93 rfl rfl ?_
      refine j_get hC uX5 0 0 3 rfl rfl k75 rfl dX5_readLight_94 ?_
      refine j_iconst hC (-1) dX5_readLight_97 (by decide) ?_
      refine j_icmp_ne hC dX5_readLight_98 (tgt := 108) (by decide) (fun c_98 => ?_) (fun c_98 => ?_)
      · skip
        refine j_null hC dX5_readLight_108 ?_
        refine j_astoreN hC dX5_readLight_109 rfl rfl rfl ?_
        refine j_aloadN hC dX5_readLight_111 rfl ?_
        refine j_ifnullN hC dX5_readLight_113 (tgt := 129) (by decide) ?_
        have hA : rlA I f = J2 := by unfold rlA lE; rw [hJ1, hJ2]
        have hB : rlB I f = J4 := by unfold rlB lE; rw [hA, hJ3, hJ4]
        have hCC : rlC I f = J6 := by unfold rlC lE; rw [hB, hJ5, hJ6]
        have hD : rlD I f = J8 := by unfold rlD lE; rw [hCC, hJ7, hJ8]
        have hM : rlM I f = v_74 := by unfold rlM; rw [hD, e_74]; first | rw [if_pos c_66] | rw [if_neg c_66]
        have hZ : rlZ I f = J10 := by unfold rlZ; rw [hD]; first | rw [if_pos c_66, hJ9, hJ10] | rw [if_neg c_66, hJ10]
        have hL : rlL I f = newL v_15 v_29 v_43 v_58 v_74 := by unfold rlL lV; rw [hM, hA, hB, hCC, hJ1, hJ3, hJ5, hJ7, ← e_15, ← e_29, ← e_43, ← e_58]
        refine j_vret hC hQ rfl (Nat.le_of_ble_eq_true rfl) (Nat.le_of_ble_eq_true rfl) dX5_readLight_129 rfl ?_
        rw [hZ, hL]; first | exact ⟨rfl, I0, X, rfl, Or.inl ⟨fun q => c_98 q, rfl, rfl⟩⟩ | exact ⟨rfl, upd I0 1 (I0 1 + 1), Y.set k (jAd Y k, newL v_15 v_29 v_43 v_58 v_74), by rw [← lrf_set hY.1], Or.inr ⟨c_98, rfl, ⟨by rw [List.length_set]; exact hY.1, by rw [List.length_set]; exact hY.2.1, by rw [List.length_set]; exact hY.2.2.1, fun j hj => by rw [List.getElem?_set_ne (by omega)]; exact hY.2.2.2 j hj⟩, jL_set hY.1⟩⟩
      · skip
        refine j_aload_n hC dX5_readLight_101 rfl rfl ?_
        refine j_callV hC [1, 2] (c_X0_grow g _ _ _ _ _ h hk) mX0_grow k253 rfl rfl rfl rfl rfl ⟨(Nat.le_of_ble_eq_true rfl), (Nat.le_of_ble_eq_true rfl)⟩ (Nat.le_of_ble_eq_true rfl) ⟨(Nat.le_of_ble_eq_true rfl), (Nat.le_of_ble_eq_true rfl)⟩ dX5_readLight_102 (fun r_102 b_102 hp_102 _ => ?_)
        obtain ⟨Y, rfl, rfl, hY⟩ := hp_102
        dsimp only [jrepl, List.set, jstk]
        refine j_goto hC dX5_readLight_105 (tgt := 109) (by decide) ?_
        refine j_astore hC dX5_readLight_109 rfl rfl rfl ?_
        refine j_aload hC dX5_readLight_111 rfl ?_
        refine j_ifnull hC dX5_readLight_113 ?_
        refine j_aload hC dX5_readLight_116 rfl ?_
        refine j_iload_n hC dX5_readLight_118 rfl rfl ?_
        refine j_iload_n hC dX5_readLight_119 rfl rfl ?_
        refine j_iload hC dX5_readLight_120 rfl ?_
        refine j_iload hC dX5_readLight_122 rfl ?_
        refine j_iload hC dX5_readLight_124 rfl ?_
        refine j_focus k 2 (jX_get (X := Y) hY.1) rfl ?_
        dsimp only [List.set, List.cons_append, List.nil_append]
        refine j_callVR hC [3] (c_X2_begin g _ _ _ _ _ _ _ (by rw [e_74]; first | exact Or.inl rfl | exact Or.inr rfl)) mX2_begin k297 rfl rfl rfl rfl rfl ⟨(Nat.le_of_ble_eq_true rfl), (Nat.le_of_ble_eq_true rfl)⟩ (Nat.le_of_ble_eq_true rfl) ⟨(Nat.le_of_ble_eq_true rfl), (Nat.le_of_ble_eq_true rfl)⟩ dX5_readLight_126 ?_
        dsimp only [jrepl, List.set, jstk]
        refine j_unfocus k 2 (jX_get (X := Y) hY.1) rfl rfl rfl ?_
        dsimp only [List.set, List.dropLast]
        have hA : rlA I f = J2 := by unfold rlA lE; rw [hJ1, hJ2]
        have hB : rlB I f = J4 := by unfold rlB lE; rw [hA, hJ3, hJ4]
        have hCC : rlC I f = J6 := by unfold rlC lE; rw [hB, hJ5, hJ6]
        have hD : rlD I f = J8 := by unfold rlD lE; rw [hCC, hJ7, hJ8]
        have hM : rlM I f = v_74 := by unfold rlM; rw [hD, e_74]; first | rw [if_pos c_66] | rw [if_neg c_66]
        have hZ : rlZ I f = J10 := by unfold rlZ; rw [hD]; first | rw [if_pos c_66, hJ9, hJ10] | rw [if_neg c_66, hJ10]
        have hL : rlL I f = newL v_15 v_29 v_43 v_58 v_74 := by unfold rlL lV; rw [hM, hA, hB, hCC, hJ1, hJ3, hJ5, hJ7, ← e_15, ← e_29, ← e_43, ← e_58]
        refine j_vret hC hQ rfl (Nat.le_of_ble_eq_true rfl) (Nat.le_of_ble_eq_true rfl) dX5_readLight_129 rfl ?_
        rw [hZ, hL]; first | exact ⟨rfl, I0, X, rfl, Or.inl ⟨fun q => c_98 q, rfl, rfl⟩⟩ | exact ⟨rfl, upd I0 1 (I0 1 + 1), Y.set k (jAd Y k, newL v_15 v_29 v_43 v_58 v_74), by rw [← lrf_set hY.1], Or.inr ⟨c_98, rfl, ⟨by rw [List.length_set]; exact hY.1, by rw [List.length_set]; exact hY.2.1, by rw [List.length_set]; exact hY.2.2.1, fun j hj => by rw [List.getElem?_set_ne (by omega)]; exact hY.2.2.2 j hj⟩, jL_set hY.1⟩⟩
    · exact absurd c_78 (by rw [e_74]; decide)
  · skip
    refine j_iconst hC (1) dX5_readLight_69 (by decide) ?_
    refine j_goto hC dX5_readLight_70 (tgt := 74) (by decide) ?_
    refine j_istore hC dX5_readLight_74 rfl rfl rfl (fun v_74 e_74 => ?_)
    refine j_iload hC dX5_readLight_76 rfl ?_
    refine j_if_eq hC dX5_readLight_78 (tgt := 87) (by decide) (fun c_78 => ?_) (fun c_78 => ?_)
    · exact absurd c_78 (by rw [e_74]; decide)
    · skip
      refine j_aload_n hC dX5_readLight_81 rfl rfl ?_
      refine j_bipush hC (109) dX5_readLight_82 (by decide) ?_
      refine j_callVR hC [0] (c_X5_expect g _ _ _ _) mX5_expect k237 rfl rfl rfl rfl rfl ⟨(Nat.le_of_ble_eq_true rfl), (Nat.le_of_ble_eq_true rfl)⟩ (Nat.le_of_ble_eq_true rfl) ⟨(Nat.le_of_ble_eq_true rfl), (Nat.le_of_ble_eq_true rfl)⟩ dX5_readLight_84 ?_
      dsimp only [jrepl, List.set, jstk]
      generalize hJ9 : tEx J8 f 109 = J9
      refine j_aload_n hC dX5_readLight_87 rfl rfl ?_
      refine j_bipush hC (59) dX5_readLight_88 (by decide) ?_
      refine j_callVR hC [0] (c_X5_expect g _ _ _ _) mX5_expect k237 rfl rfl rfl rfl rfl ⟨(Nat.le_of_ble_eq_true rfl), (Nat.le_of_ble_eq_true rfl)⟩ (Nat.le_of_ble_eq_true rfl) ⟨(Nat.le_of_ble_eq_true rfl), (Nat.le_of_ble_eq_true rfl)⟩ dX5_readLight_90 ?_
      dsimp only [jrepl, List.set, jstk]
      first | generalize hJ10 : tEx J9 f 59 = J10 | generalize hJ10 : tEx J8 f 59 = J10
      refine j_aload_n hC dX5_readLight_93 rfl rfl ?_
      refine j_get hC uX5 0 0 3 rfl rfl k75 rfl dX5_readLight_94 ?_
      refine j_iconst hC (-1) dX5_readLight_97 (by decide) ?_
      refine j_icmp_ne hC dX5_readLight_98 (tgt := 108) (by decide) (fun c_98 => ?_) (fun c_98 => ?_)
      · skip
        refine j_null hC dX5_readLight_108 ?_
        refine j_astoreN hC dX5_readLight_109 rfl rfl rfl ?_
        refine j_aloadN hC dX5_readLight_111 rfl ?_
        refine j_ifnullN hC dX5_readLight_113 (tgt := 129) (by decide) ?_
        have hA : rlA I f = J2 := by unfold rlA lE; rw [hJ1, hJ2]
        have hB : rlB I f = J4 := by unfold rlB lE; rw [hA, hJ3, hJ4]
        have hCC : rlC I f = J6 := by unfold rlC lE; rw [hB, hJ5, hJ6]
        have hD : rlD I f = J8 := by unfold rlD lE; rw [hCC, hJ7, hJ8]
        have hM : rlM I f = v_74 := by unfold rlM; rw [hD, e_74]; first | rw [if_pos c_66] | rw [if_neg c_66]
        have hZ : rlZ I f = J10 := by unfold rlZ; rw [hD]; first | rw [if_pos c_66, hJ9, hJ10] | rw [if_neg c_66, hJ10]
        have hL : rlL I f = newL v_15 v_29 v_43 v_58 v_74 := by unfold rlL lV; rw [hM, hA, hB, hCC, hJ1, hJ3, hJ5, hJ7, ← e_15, ← e_29, ← e_43, ← e_58]
        refine j_vret hC hQ rfl (Nat.le_of_ble_eq_true rfl) (Nat.le_of_ble_eq_true rfl) dX5_readLight_129 rfl ?_
        rw [hZ, hL]; first | exact ⟨rfl, I0, X, rfl, Or.inl ⟨fun q => c_98 q, rfl, rfl⟩⟩ | exact ⟨rfl, upd I0 1 (I0 1 + 1), Y.set k (jAd Y k, newL v_15 v_29 v_43 v_58 v_74), by rw [← lrf_set hY.1], Or.inr ⟨c_98, rfl, ⟨by rw [List.length_set]; exact hY.1, by rw [List.length_set]; exact hY.2.1, by rw [List.length_set]; exact hY.2.2.1, fun j hj => by rw [List.getElem?_set_ne (by omega)]; exact hY.2.2.2 j hj⟩, jL_set hY.1⟩⟩
      · skip
        refine j_aload_n hC dX5_readLight_101 rfl rfl ?_
        refine j_callV hC [1, 2] (c_X0_grow g _ _ _ _ _ h hk) mX0_grow k253 rfl rfl rfl rfl rfl ⟨(Nat.le_of_ble_eq_true rfl), (Nat.le_of_ble_eq_true rfl)⟩ (Nat.le_of_ble_eq_true rfl) ⟨(Nat.le_of_ble_eq_true rfl), (Nat.le_of_ble_eq_true rfl)⟩ dX5_readLight_102 (fun r_102 b_102 hp_102 _ => ?_)
        obtain ⟨Y, rfl, rfl, hY⟩ := hp_102
        dsimp only [jrepl, List.set, jstk]
        refine j_goto hC dX5_readLight_105 (tgt := 109) (by decide) ?_
        refine j_astore hC dX5_readLight_109 rfl rfl rfl ?_
        refine j_aload hC dX5_readLight_111 rfl ?_
        refine j_ifnull hC dX5_readLight_113 ?_
        refine j_aload hC dX5_readLight_116 rfl ?_
        refine j_iload_n hC dX5_readLight_118 rfl rfl ?_
        refine j_iload_n hC dX5_readLight_119 rfl rfl ?_
        refine j_iload hC dX5_readLight_120 rfl ?_
        refine j_iload hC dX5_readLight_122 rfl ?_
        refine j_iload hC dX5_readLight_124 rfl ?_
        refine j_focus k 2 (jX_get (X := Y) hY.1) rfl ?_
        dsimp only [List.set, List.cons_append, List.nil_append]
        refine j_callVR hC [3] (c_X2_begin g _ _ _ _ _ _ _ (by rw [e_74]; first | exact Or.inl rfl | exact Or.inr rfl)) mX2_begin k297 rfl rfl rfl rfl rfl ⟨(Nat.le_of_ble_eq_true rfl), (Nat.le_of_ble_eq_true rfl)⟩ (Nat.le_of_ble_eq_true rfl) ⟨(Nat.le_of_ble_eq_true rfl), (Nat.le_of_ble_eq_true rfl)⟩ dX5_readLight_126 ?_
        dsimp only [jrepl, List.set, jstk]
        refine j_unfocus k 2 (jX_get (X := Y) hY.1) rfl rfl rfl ?_
        dsimp only [List.set, List.dropLast]
        have hA : rlA I f = J2 := by unfold rlA lE; rw [hJ1, hJ2]
        have hB : rlB I f = J4 := by unfold rlB lE; rw [hA, hJ3, hJ4]
        have hCC : rlC I f = J6 := by unfold rlC lE; rw [hB, hJ5, hJ6]
        have hD : rlD I f = J8 := by unfold rlD lE; rw [hCC, hJ7, hJ8]
        have hM : rlM I f = v_74 := by unfold rlM; rw [hD, e_74]; first | rw [if_pos c_66] | rw [if_neg c_66]
        have hZ : rlZ I f = J10 := by unfold rlZ; rw [hD]; first | rw [if_pos c_66, hJ9, hJ10] | rw [if_neg c_66, hJ10]
        have hL : rlL I f = newL v_15 v_29 v_43 v_58 v_74 := by unfold rlL lV; rw [hM, hA, hB, hCC, hJ1, hJ3, hJ5, hJ7, ← e_15, ← e_29, ← e_43, ← e_58]
        refine j_vret hC hQ rfl (Nat.le_of_ble_eq_true rfl) (Nat.le_of_ble_eq_true rfl) dX5_readLight_129 rfl ?_
        rw [hZ, hL]; first | exact ⟨rfl, I0, X, rfl, Or.inl ⟨fun q => c_98 q, rfl, rfl⟩⟩ | exact ⟨rfl, upd I0 1 (I0 1 + 1), Y.set k (jAd Y k, newL v_15 v_29 v_43 v_58 v_74), by rw [← lrf_set hY.1], Or.inr ⟨c_98, rfl, ⟨by rw [List.length_set]; exact hY.1, by rw [List.length_set]; exact hY.2.1, by rw [List.length_set]; exact hY.2.2.1, fun j hj => by rw [List.getElem?_set_ne (by omega)]; exact hY.2.2.2 j hj⟩, jL_set hY.1⟩⟩
set_option maxHeartbeats 1000000 in
set_option maxRecDepth 100000 in
theorem c_X5_readRoute (g : jG) (d : Nat → Nat) (I f : jF) (d2 : Nat → Nat) (I0 : jF) (A0 : Nat → jF) (r0 : Nat → Option Nat) (n : Nat) (hn : I0 4 = nI n) (hn6 : n < 6) : Con g yX5_readRoute cX5_readRoute 4 none 3 66 0 0 [.ref (d 0), .ref (d2 0)] [tc g d I f, bc g d2 I0 A0 r0] (fun r b => r = none ∧ ∃ (I1 : jF) (A1 : Nat → jF), b = [tc g d (rrZ I f) f, bc g d2 I1 A1 r0] ∧ ((¬ rrZ I f 3 = -1 ∧ I1 = I0 ∧ A1 = A0) ∨ (rrZ I f 3 = -1 ∧ I1 = upd I0 4 (I0 4 + 1) ∧ A1 = appA A0 (I0 4).toNatClampNeg (rrF I f) (rrT I f)))) := by
  refine Con.of (own := RX5) (lv := [(0, .ref (d 0)), (1, .ref (d2 0))]) (by decide) rfl (Nat.le_of_ble_eq_true rfl) rfl ?_
  intro E hC hQ hN
  refine j_aload_n hC dX5_readRoute_0 rfl rfl ?_
  refine j_bipush hC (114) dX5_readRoute_1 (by decide) ?_
  refine j_callVR hC [0] (c_X5_expect g _ _ _ _) mX5_expect k237 rfl rfl rfl rfl rfl ⟨(Nat.le_of_ble_eq_true rfl), (Nat.le_of_ble_eq_true rfl)⟩ (Nat.le_of_ble_eq_true rfl) ⟨(Nat.le_of_ble_eq_true rfl), (Nat.le_of_ble_eq_true rfl)⟩ dX5_readRoute_3 ?_
  dsimp only [jrepl, List.set, jstk]
  generalize hJ1 : tEx I f 114 = J1
  refine j_aload_n hC dX5_readRoute_6 rfl rfl ?_
  refine j_iconst hC (3) dX5_readRoute_7 (by decide) ?_
  refine j_iconst hC (0) dX5_readRoute_8 (by decide) ?_
  refine j_sipush hC (200) dX5_readRoute_9 (by decide) ?_
  refine j_callVR hC [0] (c_X5_readNumber g _ _ _ _ _ _ _ (show _ = nI 3 from rfl) (by decide)) mX5_readNumber k245 rfl rfl rfl rfl rfl ⟨(Nat.le_of_ble_eq_true rfl), (Nat.le_of_ble_eq_true rfl)⟩ (Nat.le_of_ble_eq_true rfl) ⟨(Nat.le_of_ble_eq_true rfl), (Nat.le_of_ble_eq_true rfl)⟩ dX5_readRoute_12 ?_
  dsimp only [jrepl, List.set, jstk]
  generalize hJ2 : rnF J1 f 3 0 200 = J2
  refine j_istore_n hC dX5_readRoute_15 rfl rfl rfl rfl (fun v_15 e_15 => ?_)
  refine j_aload_n hC dX5_readRoute_16 rfl rfl ?_
  refine j_bipush hC (45) dX5_readRoute_17 (by decide) ?_
  refine j_callVR hC [0] (c_X5_expect g _ _ _ _) mX5_expect k237 rfl rfl rfl rfl rfl ⟨(Nat.le_of_ble_eq_true rfl), (Nat.le_of_ble_eq_true rfl)⟩ (Nat.le_of_ble_eq_true rfl) ⟨(Nat.le_of_ble_eq_true rfl), (Nat.le_of_ble_eq_true rfl)⟩ dX5_readRoute_19 ?_
  dsimp only [jrepl, List.set, jstk]
  generalize hJ3 : tEx J2 f 45 = J3
  refine j_aload_n hC dX5_readRoute_22 rfl rfl ?_
  refine j_iconst hC (3) dX5_readRoute_23 (by decide) ?_
  refine j_iload_n hC dX5_readRoute_24 rfl rfl ?_
  refine j_sipush hC (200) dX5_readRoute_25 (by decide) ?_
  refine j_callVR hC [0] (c_X5_readNumber g _ _ _ _ _ _ _ (show _ = nI 3 from rfl) (by decide)) mX5_readNumber k245 rfl rfl rfl rfl rfl ⟨(Nat.le_of_ble_eq_true rfl), (Nat.le_of_ble_eq_true rfl)⟩ (Nat.le_of_ble_eq_true rfl) ⟨(Nat.le_of_ble_eq_true rfl), (Nat.le_of_ble_eq_true rfl)⟩ dX5_readRoute_28 ?_
  dsimp only [jrepl, List.set, jstk]
  generalize hJ4 : rnF J3 f 3 v_15 200 = J4
  refine j_istore_n hC dX5_readRoute_31 rfl rfl rfl rfl (fun v_31 e_31 => ?_)
  refine j_aload_n hC dX5_readRoute_32 rfl rfl ?_
  refine j_bipush hC (59) dX5_readRoute_33 (by decide) ?_
  refine j_callVR hC [0] (c_X5_expect g _ _ _ _) mX5_expect k237 rfl rfl rfl rfl rfl ⟨(Nat.le_of_ble_eq_true rfl), (Nat.le_of_ble_eq_true rfl)⟩ (Nat.le_of_ble_eq_true rfl) ⟨(Nat.le_of_ble_eq_true rfl), (Nat.le_of_ble_eq_true rfl)⟩ dX5_readRoute_35 ?_
  dsimp only [jrepl, List.set, jstk]
  generalize hJ5 : tEx J4 f 59 = J5
  refine j_aload_n hC dX5_readRoute_38 rfl rfl ?_
  refine j_get hC uX5 0 0 3 rfl rfl k75 rfl dX5_readRoute_39 ?_
  refine j_iconst hC (-1) dX5_readRoute_42 (by decide) ?_
  refine j_icmp_ne hC dX5_readRoute_43 (tgt := 52) (by decide) (fun c_43 => ?_) (fun c_43 => ?_)
  · skip
    have hA : rrA I f = J2 := by unfold rrA lE; rw [hJ1, hJ2]
    have hF : rrF I f = v_15 := by unfold rrF lV; rw [hJ1, ← e_15]
    have hT : rrT I f = v_31 := by unfold rrT lV; rw [hA, hJ3, ← e_31]
    have hZ : rrZ I f = J5 := by unfold rrZ lE; rw [show lV I f 114 3 = v_15 from hF, hA, hJ3, hJ4, hJ5]
    refine j_vret hC hQ rfl (Nat.le_of_ble_eq_true rfl) (Nat.le_of_ble_eq_true rfl) dX5_readRoute_52 rfl ?_
    rw [hZ, hF, hT]; first | exact ⟨rfl, I0, A0, rfl, Or.inl ⟨fun q => c_43 q, rfl, rfl⟩⟩ | exact ⟨rfl, _, _, rfl, Or.inr ⟨c_43, rfl, rfl⟩⟩
  · skip
    refine j_aload_n hC dX5_readRoute_46 rfl rfl ?_
    refine j_iload_n hC dX5_readRoute_47 rfl rfl ?_
    refine j_iload_n hC dX5_readRoute_48 rfl rfl ?_
    refine j_callVR hC [1] (c_X0_appendRoute g _ _ _ _ _ _ (by rw [hn, ← nI_0, nI_ltI (by omega) (by omega)]; omega) (by rw [hn]; show ¬ nI 6 ≤ nI n; rw [nI_leI (by omega) (by omega)]; omega)) mX0_appendRoute k325 rfl rfl rfl rfl rfl ⟨(Nat.le_of_ble_eq_true rfl), (Nat.le_of_ble_eq_true rfl)⟩ (Nat.le_of_ble_eq_true rfl) ⟨(Nat.le_of_ble_eq_true rfl), (Nat.le_of_ble_eq_true rfl)⟩ dX5_readRoute_49 ?_
    dsimp only [jrepl, List.set, jstk]
    have hA : rrA I f = J2 := by unfold rrA lE; rw [hJ1, hJ2]
    have hF : rrF I f = v_15 := by unfold rrF lV; rw [hJ1, ← e_15]
    have hT : rrT I f = v_31 := by unfold rrT lV; rw [hA, hJ3, ← e_31]
    have hZ : rrZ I f = J5 := by unfold rrZ lE; rw [show lV I f 114 3 = v_15 from hF, hA, hJ3, hJ4, hJ5]
    refine j_vret hC hQ rfl (Nat.le_of_ble_eq_true rfl) (Nat.le_of_ble_eq_true rfl) dX5_readRoute_52 rfl ?_
    rw [hZ, hF, hT]; first | exact ⟨rfl, I0, A0, rfl, Or.inl ⟨fun q => c_43 q, rfl, rfl⟩⟩ | exact ⟨rfl, _, _, rfl, Or.inr ⟨c_43, rfl, rfl⟩⟩
set_option maxHeartbeats 1000000 in
set_option maxRecDepth 100000 in
theorem c_X5_readInto (g : jG) (d : Nat → Nat) (I f : jF) (d2 : Nat → Nat) (I0 : jF) (A0 : Nat → jF) (X : List (Nat × jF)) (hX : X.length ≤ 10) : Con g yX5_readInto cX5_readInto 3 (some .int) 5 112 11 99 [.ref (d 0), .ref (d2 0)] [tc g d I f, bc g d2 I0 A0 (lrf X), lts X] (fun r b => ∃ (I1 : jF) (A1 : Nat → jF) (Y : List (Nat × jF)), r = some (.int ((rInto f 80 (upd (upd I 2 0) 3 (-1)) [] []).1 3)) ∧ b = [tc g d (rInto f 80 (upd (upd I 2 0) 3 (-1)) [] []).1 f, bc g d2 I1 A1 (lrf Y), lts Y] ∧ blaid I0 A0 I1 A1 Y (rInto f 80 (upd (upd I 2 0) 3 (-1)) [] []).2.1 (rInto f 80 (upd (upd I 2 0) 3 (-1)) [] []).2.2) := by
  refine Con.of (own := RX5) (lv := [(0, .ref (d 0)), (1, .ref (d2 0))]) (by decide) rfl (Nat.le_of_ble_eq_true rfl) rfl ?_
  intro E hC hQ hN
  refine j_aload_n hC dX5_readInto_0 rfl rfl ?_
  refine j_iconst hC (0) dX5_readInto_1 (by decide) ?_
  refine j_put_0_1 (bi := 1) hC rfl k97 dX5_readInto_2 ?_
  dsimp only [List.set]
  refine j_aload_n hC dX5_readInto_5 rfl rfl ?_
  refine j_iconst hC (0) dX5_readInto_6 (by decide) ?_
  refine j_put_0_4 (bi := 1) hC rfl k102 dX5_readInto_7 ?_
  dsimp only [List.set]
  refine j_aload_n hC dX5_readInto_10 rfl rfl ?_
  refine j_iconst hC (0) dX5_readInto_11 (by decide) ?_
  refine j_put_5_2 (bi := 0) hC rfl k74 dX5_readInto_12 ?_
  dsimp only [List.set]
  refine j_aload_n hC dX5_readInto_15 rfl rfl ?_
  refine j_iconst hC (-1) dX5_readInto_16 (by decide) ?_
  refine j_put_5_3 (bi := 0) hC rfl k75 dX5_readInto_17 ?_
  dsimp only [List.set]
  refine j_iconst hC (0) dX5_readInto_20 (by decide) ?_
  refine j_istore_n hC dX5_readInto_21 rfl rfl rfl rfl (fun v_21 e_21 => ?_)
  have L_22 : ∀ (fu : Nat) (p : Nat) (x2 : Int32) (I1 : jF) (I2 : jF) (A2 : Nat → jF) (Y : List (Nat × jF)) (ls : List jF) (rs : List (Int32 × Int32)) (hfu : 80 + 1 ≤ p + fu) (hp : p ≤ 80) (h2 : x2 = nI p) (hl : rInto f (80 - p) I1 ls rs = rInto f 80 (upd (upd I 2 0) 3 (-1)) [] []) (hb : blaid I0 A0 I2 A2 Y ls rs), J g (jRm 5 112 11 99) E 3 22 [(0, .ref (d 0)), (1, .ref (d2 0)), (2, .int x2)] [] [tc g d I1 f, bc g d2 I2 A2 (lrf Y), lts Y] (ls.length + if I1 3 = -1 then 0 else 1) (9 * (ls.length + if I1 3 = -1 then 0 else 1)) := by
    intro fu
    induction fu with
    | zero => intro p x2 I1 I2 A2 Y ls rs hfu hp h2 hl hb; exact absurd hfu (by omega)
    | succ fu ih_22 =>
      intro p x2 I1 I2 A2 Y ls rs hfu hp h2 hl hb
      have hb1 := hb.1.1
      have hb4 := hb.2.2.2.1
      have hb10 := hb.2.1
      have hb6 := hb.2.2.2.2.1
      refine j_iload_n hC dX5_readInto_22 rfl rfl ?_
      refine j_bipush hC (80) dX5_readInto_23 (by decide) ?_
      refine j_icmp_ge hC dX5_readInto_25 (tgt := 113) (by decide) (fun c_25 => ?_) (fun c_25 => ?_)
      · skip
        have he : (I1, ls, rs) = rInto f 80 (upd (upd I 2 0) 3 (-1)) [] [] := by
          first | (rw [← hl, rInto_0 (fun q => q.1 c_36)]) | (rw [← hl, rInto_0 (fun q => c_44 q.2)]) | (have := jge (show (80 : Int32) = nI 80 from rfl) h2 (by omega) (by omega) c_25; rw [← hl, show 80 - p = 0 by omega]; rfl)
        refine j_aload_n hC dX5_readInto_113 rfl rfl ?_
        refine j_get hC uX5 0 0 3 rfl rfl k75 rfl dX5_readInto_114 ?_
        refine j_iret hC hQ rfl rfl (by split <;> omega) (by split <;> omega) dX5_readInto_117 rfl ?_
        exact ⟨I2, A2, Y, congrArg (fun z => some (Value.int z)) (congrArg (fun z => z.1 3) he), by rw [← he], by rw [← he]; exact hb⟩
      · skip
        have hp80 : p < 80 := jlt (show (80 : Int32) = nI 80 from rfl) h2 (by omega) (by omega) c_25
        refine j_aload_n hC dX5_readInto_28 rfl rfl ?_
        refine j_get hC uX5 0 0 2 rfl rfl k74 rfl dX5_readInto_29 ?_
        refine j_aload_n hC dX5_readInto_32 rfl rfl ?_
        refine j_get hC uX5 0 0 1 rfl rfl k72 rfl dX5_readInto_33 ?_
        refine j_icmp_ge hC dX5_readInto_36 (tgt := 113) (by decide) (fun c_36 => ?_) (fun c_36 => ?_)
        · skip
          have he : (I1, ls, rs) = rInto f 80 (upd (upd I 2 0) 3 (-1)) [] [] := by
            first | (rw [← hl, rInto_0 (fun q => q.1 c_36)]) | (rw [← hl, rInto_0 (fun q => c_44 q.2)]) | (have := jge (show (80 : Int32) = nI 80 from rfl) h2 (by omega) (by omega) c_25; rw [← hl, show 80 - p = 0 by omega]; rfl)
          refine j_aload_n hC dX5_readInto_113 rfl rfl ?_
          refine j_get hC uX5 0 0 3 rfl rfl k75 rfl dX5_readInto_114 ?_
          refine j_iret hC hQ rfl rfl (by split <;> omega) (by split <;> omega) dX5_readInto_117 rfl ?_
          exact ⟨I2, A2, Y, congrArg (fun z => some (Value.int z)) (congrArg (fun z => z.1 3) he), by rw [← he], by rw [← he]; exact hb⟩
        · skip
          refine j_aload_n hC dX5_readInto_39 rfl rfl ?_
          refine j_get hC uX5 0 0 3 rfl rfl k75 rfl dX5_readInto_40 ?_
          refine j_iconst hC (-1) dX5_readInto_43 (by decide) ?_
          refine j_icmp_ne hC dX5_readInto_44 (tgt := 113) (by decide) (fun c_44 => ?_) (fun c_44 => ?_)
          · skip
            have he : (I1, ls, rs) = rInto f 80 (upd (upd I 2 0) 3 (-1)) [] [] := by
              first | (rw [← hl, rInto_0 (fun q => q.1 c_36)]) | (rw [← hl, rInto_0 (fun q => c_44 q.2)]) | (have := jge (show (80 : Int32) = nI 80 from rfl) h2 (by omega) (by omega) c_25; rw [← hl, show 80 - p = 0 by omega]; rfl)
            refine j_aload_n hC dX5_readInto_113 rfl rfl ?_
            refine j_get hC uX5 0 0 3 rfl rfl k75 rfl dX5_readInto_114 ?_
            refine j_iret hC hQ rfl rfl (by split <;> omega) (by split <;> omega) dX5_readInto_117 rfl ?_
            exact ⟨I2, A2, Y, congrArg (fun z => some (Value.int z)) (congrArg (fun z => z.1 3) he), by rw [← he], by rw [← he]; exact hb⟩
          · skip
            refine j_widen (k' := ls.length) (n' := 9 * ls.length) (by rw [if_pos c_44]; omega) (by rw [if_pos c_44]; omega) ?_
            refine j_aload_n hC dX5_readInto_47 rfl rfl ?_
            refine j_callVR hC [0] (c_X5_peek g _ _ _) mX5_peek k229 rfl rfl rfl rfl rfl ⟨(Nat.le_of_ble_eq_true rfl), (Nat.le_of_ble_eq_true rfl)⟩ (Nat.le_of_ble_eq_true rfl) ⟨by show ls.length + 0 ≤ 11; omega, by show 9 * ls.length + 0 ≤ 99; omega⟩ dX5_readInto_48 ?_
            dsimp only [jrepl, List.set, jstk]
            refine j_bipush hC (112) dX5_readInto_51 (by decide) ?_
            refine j_icmp_ne hC dX5_readInto_53 (tgt := 73) (by decide) (fun c_53 => ?_) (fun c_53 => ?_)
            · skip
              refine j_aload_n hC dX5_readInto_73 rfl rfl ?_
              refine j_callVR hC [0] (c_X5_peek g _ _ _) mX5_peek k229 rfl rfl rfl rfl rfl ⟨(Nat.le_of_ble_eq_true rfl), (Nat.le_of_ble_eq_true rfl)⟩ (Nat.le_of_ble_eq_true rfl) ⟨by first | (show ls.length + 0 + 0 ≤ 11; omega) | (show ls.length + 0 ≤ 11; omega), by first | (show 9 * ls.length + 0 + 0 ≤ 99; omega) | (show 9 * ls.length + 0 ≤ 99; omega)⟩ dX5_readInto_74 ?_
              dsimp only [jrepl, List.set, jstk]
              refine j_bipush hC (114) dX5_readInto_77 (by decide) ?_
              refine j_icmp_ne hC dX5_readInto_79 (tgt := 99) (by decide) (fun c_79 => ?_) (fun c_79 => ?_)
              · skip
                refine j_aload_n hC dX5_readInto_99 rfl rfl ?_
                refine j_aload_n hC dX5_readInto_100 rfl rfl ?_
                refine j_get hC uX5 0 0 2 rfl rfl k74 rfl dX5_readInto_101 ?_
                refine j_callVR hC [0] (c_X5_fail g _ _ _ _) mX5_fail k241 rfl rfl rfl rfl rfl ⟨(Nat.le_of_ble_eq_true rfl), (Nat.le_of_ble_eq_true rfl)⟩ (Nat.le_of_ble_eq_true rfl) ⟨by show ls.length + 0 + 0 + 0 ≤ 11; omega, by show 9 * ls.length + 0 + 0 + 0 ≤ 99; omega⟩ dX5_readInto_104 ?_
                dsimp only [jrepl, List.set, jstk]
                refine j_iinc hC (1) dX5_readInto_107 rfl rfl rfl rfl rfl (fun v_107 e_107 => ?_)
                refine j_goto hC dX5_readInto_110 (tgt := 22) (by decide) ?_
                refine j_pick [0, 1, 2] ?_
                have hc : ¬ I1 1 ≤ I1 2 ∧ I1 3 = -1 := ⟨c_36, c_44⟩
                obtain ⟨w, hw⟩ : ∃ w, 80 - p = w + 1 := ⟨79 - p, by omega⟩
                rw [hw] at hl
                first
                  | (rw [rInto_a hc ⟨c_53, hk10⟩] at hl
                     rcases hZ with ⟨z1, rfl, rfl⟩ | ⟨z1, rfl, z3, z4⟩
                     · rw [if_neg z1] at hl
                       refine j_widen (k' := ls.length + if rlZ I1 f 3 = -1 then 0 else 1) (n' := 9 * (ls.length + if rlZ I1 f 3 = -1 then 0 else 1)) (by rw [if_neg z1]; omega) (by rw [if_neg z1]; omega) ?_
                       exact ih_22 (p + 1) _ _ _ _ _ _ _ (by omega) (by omega) (jsucc e_107 h2) (by rw [show 80 - (p + 1) = w by omega]; exact hl) hb
                     · rw [if_pos z1] at hl
                       refine j_widen (k' := (ls ++ [rlL I1 f]).length + if rlZ I1 f 3 = -1 then 0 else 1) (n' := 9 * ((ls ++ [rlL I1 f]).length + if rlZ I1 f 3 = -1 then 0 else 1)) (by rw [if_pos z1]; simp; try omega) (by rw [if_pos z1]; simp; try omega) ?_
                       exact ih_22 (p + 1) _ _ _ _ _ _ _ (by omega) (by omega) (jsucc e_107 h2) (by rw [show 80 - (p + 1) = w by omega]; exact hl) (blaid_light hb hk10 z3 z4))
                  | (have hnp : ¬ (tPk I1 f = 112 ∧ ls.length < 10) := by
                       first | exact fun q => c_53 q.1 | exact fun q => absurd (jge (show (10 : Int32) = nI 10 from rfl) hb1 (by omega) (by omega) c_62) (by omega)
                     rw [rInto_b hc hnp ⟨c_79, hr6⟩] at hl
                     rcases hZ with ⟨z1, rfl, rfl⟩ | ⟨z1, rfl, rfl⟩
                     · rw [if_neg z1] at hl
                       refine j_widen (k' := ls.length + if rrZ I1 f 3 = -1 then 0 else 1) (n' := 9 * (ls.length + if rrZ I1 f 3 = -1 then 0 else 1)) (by rw [if_neg z1]; omega) (by rw [if_neg z1]; omega) ?_
                       exact ih_22 (p + 1) _ _ _ _ _ _ _ (by omega) (by omega) (jsucc e_107 h2) (by rw [show 80 - (p + 1) = w by omega]; exact hl) hb
                     · rw [if_pos z1] at hl
                       refine j_widen (k' := ls.length + if rrZ I1 f 3 = -1 then 0 else 1) (n' := 9 * (ls.length + if rrZ I1 f 3 = -1 then 0 else 1)) (by rw [if_pos z1]; omega) (by rw [if_pos z1]; omega) ?_
                       exact ih_22 (p + 1) _ _ _ _ _ _ _ (by omega) (by omega) (jsucc e_107 h2) (by rw [show 80 - (p + 1) = w by omega]; exact hl) (blaid_route hb hr6))
                  | (have hnp : ¬ (tPk I1 f = 112 ∧ ls.length < 10) := by
                       first | exact fun q => c_53 q.1 | exact fun q => absurd (jge (show (10 : Int32) = nI 10 from rfl) hb1 (by omega) (by omega) c_62) (by omega)
                     have hnr : ¬ (tPk I1 f = 114 ∧ rs.length < 6) := by
                       first | exact fun q => c_79 q.1 | exact fun q => absurd (jge (show (6 : Int32) = nI 6 from rfl) hb4 (by omega) (by omega) c_88) (by omega)
                     rw [rInto_c hc hnp hnr] at hl
                     refine j_widen (k' := ls.length + if tFl I1 (I1 2) 3 = -1 then 0 else 1) (n' := 9 * (ls.length + if tFl I1 (I1 2) 3 = -1 then 0 else 1)) (by split <;> omega) (by split <;> omega) ?_
                     exact ih_22 (p + 1) _ _ _ _ _ _ _ (by omega) (by omega) (jsucc e_107 h2) (by rw [show 80 - (p + 1) = w by omega]; exact hl) hb)
              · skip
                refine j_aload_n hC dX5_readInto_82 rfl rfl ?_
                refine j_get hC uX0 1 0 4 rfl rfl k102 rfl dX5_readInto_83 ?_
                refine j_bipush hC (6) dX5_readInto_86 (by decide) ?_
                refine j_icmp_ge hC dX5_readInto_88 (tgt := 99) (by decide) (fun c_88 => ?_) (fun c_88 => ?_)
                · skip
                  refine j_aload_n hC dX5_readInto_99 rfl rfl ?_
                  refine j_aload_n hC dX5_readInto_100 rfl rfl ?_
                  refine j_get hC uX5 0 0 2 rfl rfl k74 rfl dX5_readInto_101 ?_
                  refine j_callVR hC [0] (c_X5_fail g _ _ _ _) mX5_fail k241 rfl rfl rfl rfl rfl ⟨(Nat.le_of_ble_eq_true rfl), (Nat.le_of_ble_eq_true rfl)⟩ (Nat.le_of_ble_eq_true rfl) ⟨by show ls.length + 0 + 0 + 0 ≤ 11; omega, by show 9 * ls.length + 0 + 0 + 0 ≤ 99; omega⟩ dX5_readInto_104 ?_
                  dsimp only [jrepl, List.set, jstk]
                  refine j_iinc hC (1) dX5_readInto_107 rfl rfl rfl rfl rfl (fun v_107 e_107 => ?_)
                  refine j_goto hC dX5_readInto_110 (tgt := 22) (by decide) ?_
                  refine j_pick [0, 1, 2] ?_
                  have hc : ¬ I1 1 ≤ I1 2 ∧ I1 3 = -1 := ⟨c_36, c_44⟩
                  obtain ⟨w, hw⟩ : ∃ w, 80 - p = w + 1 := ⟨79 - p, by omega⟩
                  rw [hw] at hl
                  first
                    | (rw [rInto_a hc ⟨c_53, hk10⟩] at hl
                       rcases hZ with ⟨z1, rfl, rfl⟩ | ⟨z1, rfl, z3, z4⟩
                       · rw [if_neg z1] at hl
                         refine j_widen (k' := ls.length + if rlZ I1 f 3 = -1 then 0 else 1) (n' := 9 * (ls.length + if rlZ I1 f 3 = -1 then 0 else 1)) (by rw [if_neg z1]; omega) (by rw [if_neg z1]; omega) ?_
                         exact ih_22 (p + 1) _ _ _ _ _ _ _ (by omega) (by omega) (jsucc e_107 h2) (by rw [show 80 - (p + 1) = w by omega]; exact hl) hb
                       · rw [if_pos z1] at hl
                         refine j_widen (k' := (ls ++ [rlL I1 f]).length + if rlZ I1 f 3 = -1 then 0 else 1) (n' := 9 * ((ls ++ [rlL I1 f]).length + if rlZ I1 f 3 = -1 then 0 else 1)) (by rw [if_pos z1]; simp; try omega) (by rw [if_pos z1]; simp; try omega) ?_
                         exact ih_22 (p + 1) _ _ _ _ _ _ _ (by omega) (by omega) (jsucc e_107 h2) (by rw [show 80 - (p + 1) = w by omega]; exact hl) (blaid_light hb hk10 z3 z4))
                    | (have hnp : ¬ (tPk I1 f = 112 ∧ ls.length < 10) := by
                         first | exact fun q => c_53 q.1 | exact fun q => absurd (jge (show (10 : Int32) = nI 10 from rfl) hb1 (by omega) (by omega) c_62) (by omega)
                       rw [rInto_b hc hnp ⟨c_79, hr6⟩] at hl
                       rcases hZ with ⟨z1, rfl, rfl⟩ | ⟨z1, rfl, rfl⟩
                       · rw [if_neg z1] at hl
                         refine j_widen (k' := ls.length + if rrZ I1 f 3 = -1 then 0 else 1) (n' := 9 * (ls.length + if rrZ I1 f 3 = -1 then 0 else 1)) (by rw [if_neg z1]; omega) (by rw [if_neg z1]; omega) ?_
                         exact ih_22 (p + 1) _ _ _ _ _ _ _ (by omega) (by omega) (jsucc e_107 h2) (by rw [show 80 - (p + 1) = w by omega]; exact hl) hb
                       · rw [if_pos z1] at hl
                         refine j_widen (k' := ls.length + if rrZ I1 f 3 = -1 then 0 else 1) (n' := 9 * (ls.length + if rrZ I1 f 3 = -1 then 0 else 1)) (by rw [if_pos z1]; omega) (by rw [if_pos z1]; omega) ?_
                         exact ih_22 (p + 1) _ _ _ _ _ _ _ (by omega) (by omega) (jsucc e_107 h2) (by rw [show 80 - (p + 1) = w by omega]; exact hl) (blaid_route hb hr6))
                    | (have hnp : ¬ (tPk I1 f = 112 ∧ ls.length < 10) := by
                         first | exact fun q => c_53 q.1 | exact fun q => absurd (jge (show (10 : Int32) = nI 10 from rfl) hb1 (by omega) (by omega) c_62) (by omega)
                       have hnr : ¬ (tPk I1 f = 114 ∧ rs.length < 6) := by
                         first | exact fun q => c_79 q.1 | exact fun q => absurd (jge (show (6 : Int32) = nI 6 from rfl) hb4 (by omega) (by omega) c_88) (by omega)
                       rw [rInto_c hc hnp hnr] at hl
                       refine j_widen (k' := ls.length + if tFl I1 (I1 2) 3 = -1 then 0 else 1) (n' := 9 * (ls.length + if tFl I1 (I1 2) 3 = -1 then 0 else 1)) (by split <;> omega) (by split <;> omega) ?_
                       exact ih_22 (p + 1) _ _ _ _ _ _ _ (by omega) (by omega) (jsucc e_107 h2) (by rw [show 80 - (p + 1) = w by omega]; exact hl) hb)
                · skip
                  have hr6 : rs.length < 6 := jlt (show (6 : Int32) = nI 6 from rfl) hb4 (by omega) (by omega) c_88
                  refine j_aload_n hC dX5_readInto_91 rfl rfl ?_
                  refine j_aload_n hC dX5_readInto_92 rfl rfl ?_
                  refine j_callV hC [0, 1] (c_X5_readRoute g _ _ _ _ _ _ _ _ hb4 hr6) mX5_readRoute k321 rfl rfl rfl rfl rfl ⟨(Nat.le_of_ble_eq_true rfl), (Nat.le_of_ble_eq_true rfl)⟩ (Nat.le_of_ble_eq_true rfl) ⟨by show ls.length + 0 + 0 + 0 ≤ 11; omega, by show 9 * ls.length + 0 + 0 + 0 ≤ 99; omega⟩ dX5_readInto_93 (fun r_93 b_93 hp_93 _ => ?_)
                  obtain ⟨rfl, I3, A3, rfl, hZ⟩ := hp_93
                  dsimp only [jrepl, List.set, jstk]
                  refine j_goto hC dX5_readInto_96 (tgt := 107) (by decide) ?_
                  refine j_iinc hC (1) dX5_readInto_107 rfl rfl rfl rfl rfl (fun v_107 e_107 => ?_)
                  refine j_goto hC dX5_readInto_110 (tgt := 22) (by decide) ?_
                  refine j_pick [0, 1, 2] ?_
                  have hc : ¬ I1 1 ≤ I1 2 ∧ I1 3 = -1 := ⟨c_36, c_44⟩
                  obtain ⟨w, hw⟩ : ∃ w, 80 - p = w + 1 := ⟨79 - p, by omega⟩
                  rw [hw] at hl
                  first
                    | (rw [rInto_a hc ⟨c_53, hk10⟩] at hl
                       rcases hZ with ⟨z1, rfl, rfl⟩ | ⟨z1, rfl, z3, z4⟩
                       · rw [if_neg z1] at hl
                         refine j_widen (k' := ls.length + if rlZ I1 f 3 = -1 then 0 else 1) (n' := 9 * (ls.length + if rlZ I1 f 3 = -1 then 0 else 1)) (by rw [if_neg z1]; omega) (by rw [if_neg z1]; omega) ?_
                         exact ih_22 (p + 1) _ _ _ _ _ _ _ (by omega) (by omega) (jsucc e_107 h2) (by rw [show 80 - (p + 1) = w by omega]; exact hl) hb
                       · rw [if_pos z1] at hl
                         refine j_widen (k' := (ls ++ [rlL I1 f]).length + if rlZ I1 f 3 = -1 then 0 else 1) (n' := 9 * ((ls ++ [rlL I1 f]).length + if rlZ I1 f 3 = -1 then 0 else 1)) (by rw [if_pos z1]; simp; try omega) (by rw [if_pos z1]; simp; try omega) ?_
                         exact ih_22 (p + 1) _ _ _ _ _ _ _ (by omega) (by omega) (jsucc e_107 h2) (by rw [show 80 - (p + 1) = w by omega]; exact hl) (blaid_light hb hk10 z3 z4))
                    | (have hnp : ¬ (tPk I1 f = 112 ∧ ls.length < 10) := by
                         first | exact fun q => c_53 q.1 | exact fun q => absurd (jge (show (10 : Int32) = nI 10 from rfl) hb1 (by omega) (by omega) c_62) (by omega)
                       rw [rInto_b hc hnp ⟨c_79, hr6⟩] at hl
                       rcases hZ with ⟨z1, rfl, rfl⟩ | ⟨z1, rfl, rfl⟩
                       · rw [if_neg z1] at hl
                         refine j_widen (k' := ls.length + if rrZ I1 f 3 = -1 then 0 else 1) (n' := 9 * (ls.length + if rrZ I1 f 3 = -1 then 0 else 1)) (by rw [if_neg z1]; omega) (by rw [if_neg z1]; omega) ?_
                         exact ih_22 (p + 1) _ _ _ _ _ _ _ (by omega) (by omega) (jsucc e_107 h2) (by rw [show 80 - (p + 1) = w by omega]; exact hl) hb
                       · rw [if_pos z1] at hl
                         refine j_widen (k' := ls.length + if rrZ I1 f 3 = -1 then 0 else 1) (n' := 9 * (ls.length + if rrZ I1 f 3 = -1 then 0 else 1)) (by rw [if_pos z1]; omega) (by rw [if_pos z1]; omega) ?_
                         exact ih_22 (p + 1) _ _ _ _ _ _ _ (by omega) (by omega) (jsucc e_107 h2) (by rw [show 80 - (p + 1) = w by omega]; exact hl) (blaid_route hb hr6))
                    | (have hnp : ¬ (tPk I1 f = 112 ∧ ls.length < 10) := by
                         first | exact fun q => c_53 q.1 | exact fun q => absurd (jge (show (10 : Int32) = nI 10 from rfl) hb1 (by omega) (by omega) c_62) (by omega)
                       have hnr : ¬ (tPk I1 f = 114 ∧ rs.length < 6) := by
                         first | exact fun q => c_79 q.1 | exact fun q => absurd (jge (show (6 : Int32) = nI 6 from rfl) hb4 (by omega) (by omega) c_88) (by omega)
                       rw [rInto_c hc hnp hnr] at hl
                       refine j_widen (k' := ls.length + if tFl I1 (I1 2) 3 = -1 then 0 else 1) (n' := 9 * (ls.length + if tFl I1 (I1 2) 3 = -1 then 0 else 1)) (by split <;> omega) (by split <;> omega) ?_
                       exact ih_22 (p + 1) _ _ _ _ _ _ _ (by omega) (by omega) (jsucc e_107 h2) (by rw [show 80 - (p + 1) = w by omega]; exact hl) hb)
            · skip
              refine j_aload_n hC dX5_readInto_56 rfl rfl ?_
              refine j_get hC uX0 1 0 1 rfl rfl k97 rfl dX5_readInto_57 ?_
              refine j_bipush hC (10) dX5_readInto_60 (by decide) ?_
              refine j_icmp_ge hC dX5_readInto_62 (tgt := 73) (by decide) (fun c_62 => ?_) (fun c_62 => ?_)
              · skip
                refine j_aload_n hC dX5_readInto_73 rfl rfl ?_
                refine j_callVR hC [0] (c_X5_peek g _ _ _) mX5_peek k229 rfl rfl rfl rfl rfl ⟨(Nat.le_of_ble_eq_true rfl), (Nat.le_of_ble_eq_true rfl)⟩ (Nat.le_of_ble_eq_true rfl) ⟨by first | (show ls.length + 0 + 0 ≤ 11; omega) | (show ls.length + 0 ≤ 11; omega), by first | (show 9 * ls.length + 0 + 0 ≤ 99; omega) | (show 9 * ls.length + 0 ≤ 99; omega)⟩ dX5_readInto_74 ?_
                dsimp only [jrepl, List.set, jstk]
                refine j_bipush hC (114) dX5_readInto_77 (by decide) ?_
                refine j_icmp_ne hC dX5_readInto_79 (tgt := 99) (by decide) (fun c_79 => ?_) (fun c_79 => ?_)
                · skip
                  refine j_aload_n hC dX5_readInto_99 rfl rfl ?_
                  refine j_aload_n hC dX5_readInto_100 rfl rfl ?_
                  refine j_get hC uX5 0 0 2 rfl rfl k74 rfl dX5_readInto_101 ?_
                  refine j_callVR hC [0] (c_X5_fail g _ _ _ _) mX5_fail k241 rfl rfl rfl rfl rfl ⟨(Nat.le_of_ble_eq_true rfl), (Nat.le_of_ble_eq_true rfl)⟩ (Nat.le_of_ble_eq_true rfl) ⟨by show ls.length + 0 + 0 + 0 ≤ 11; omega, by show 9 * ls.length + 0 + 0 + 0 ≤ 99; omega⟩ dX5_readInto_104 ?_
                  dsimp only [jrepl, List.set, jstk]
                  refine j_iinc hC (1) dX5_readInto_107 rfl rfl rfl rfl rfl (fun v_107 e_107 => ?_)
                  refine j_goto hC dX5_readInto_110 (tgt := 22) (by decide) ?_
                  refine j_pick [0, 1, 2] ?_
                  have hc : ¬ I1 1 ≤ I1 2 ∧ I1 3 = -1 := ⟨c_36, c_44⟩
                  obtain ⟨w, hw⟩ : ∃ w, 80 - p = w + 1 := ⟨79 - p, by omega⟩
                  rw [hw] at hl
                  first
                    | (rw [rInto_a hc ⟨c_53, hk10⟩] at hl
                       rcases hZ with ⟨z1, rfl, rfl⟩ | ⟨z1, rfl, z3, z4⟩
                       · rw [if_neg z1] at hl
                         refine j_widen (k' := ls.length + if rlZ I1 f 3 = -1 then 0 else 1) (n' := 9 * (ls.length + if rlZ I1 f 3 = -1 then 0 else 1)) (by rw [if_neg z1]; omega) (by rw [if_neg z1]; omega) ?_
                         exact ih_22 (p + 1) _ _ _ _ _ _ _ (by omega) (by omega) (jsucc e_107 h2) (by rw [show 80 - (p + 1) = w by omega]; exact hl) hb
                       · rw [if_pos z1] at hl
                         refine j_widen (k' := (ls ++ [rlL I1 f]).length + if rlZ I1 f 3 = -1 then 0 else 1) (n' := 9 * ((ls ++ [rlL I1 f]).length + if rlZ I1 f 3 = -1 then 0 else 1)) (by rw [if_pos z1]; simp; try omega) (by rw [if_pos z1]; simp; try omega) ?_
                         exact ih_22 (p + 1) _ _ _ _ _ _ _ (by omega) (by omega) (jsucc e_107 h2) (by rw [show 80 - (p + 1) = w by omega]; exact hl) (blaid_light hb hk10 z3 z4))
                    | (have hnp : ¬ (tPk I1 f = 112 ∧ ls.length < 10) := by
                         first | exact fun q => c_53 q.1 | exact fun q => absurd (jge (show (10 : Int32) = nI 10 from rfl) hb1 (by omega) (by omega) c_62) (by omega)
                       rw [rInto_b hc hnp ⟨c_79, hr6⟩] at hl
                       rcases hZ with ⟨z1, rfl, rfl⟩ | ⟨z1, rfl, rfl⟩
                       · rw [if_neg z1] at hl
                         refine j_widen (k' := ls.length + if rrZ I1 f 3 = -1 then 0 else 1) (n' := 9 * (ls.length + if rrZ I1 f 3 = -1 then 0 else 1)) (by rw [if_neg z1]; omega) (by rw [if_neg z1]; omega) ?_
                         exact ih_22 (p + 1) _ _ _ _ _ _ _ (by omega) (by omega) (jsucc e_107 h2) (by rw [show 80 - (p + 1) = w by omega]; exact hl) hb
                       · rw [if_pos z1] at hl
                         refine j_widen (k' := ls.length + if rrZ I1 f 3 = -1 then 0 else 1) (n' := 9 * (ls.length + if rrZ I1 f 3 = -1 then 0 else 1)) (by rw [if_pos z1]; omega) (by rw [if_pos z1]; omega) ?_
                         exact ih_22 (p + 1) _ _ _ _ _ _ _ (by omega) (by omega) (jsucc e_107 h2) (by rw [show 80 - (p + 1) = w by omega]; exact hl) (blaid_route hb hr6))
                    | (have hnp : ¬ (tPk I1 f = 112 ∧ ls.length < 10) := by
                         first | exact fun q => c_53 q.1 | exact fun q => absurd (jge (show (10 : Int32) = nI 10 from rfl) hb1 (by omega) (by omega) c_62) (by omega)
                       have hnr : ¬ (tPk I1 f = 114 ∧ rs.length < 6) := by
                         first | exact fun q => c_79 q.1 | exact fun q => absurd (jge (show (6 : Int32) = nI 6 from rfl) hb4 (by omega) (by omega) c_88) (by omega)
                       rw [rInto_c hc hnp hnr] at hl
                       refine j_widen (k' := ls.length + if tFl I1 (I1 2) 3 = -1 then 0 else 1) (n' := 9 * (ls.length + if tFl I1 (I1 2) 3 = -1 then 0 else 1)) (by split <;> omega) (by split <;> omega) ?_
                       exact ih_22 (p + 1) _ _ _ _ _ _ _ (by omega) (by omega) (jsucc e_107 h2) (by rw [show 80 - (p + 1) = w by omega]; exact hl) hb)
                · skip
                  refine j_aload_n hC dX5_readInto_82 rfl rfl ?_
                  refine j_get hC uX0 1 0 4 rfl rfl k102 rfl dX5_readInto_83 ?_
                  refine j_bipush hC (6) dX5_readInto_86 (by decide) ?_
                  refine j_icmp_ge hC dX5_readInto_88 (tgt := 99) (by decide) (fun c_88 => ?_) (fun c_88 => ?_)
                  · skip
                    refine j_aload_n hC dX5_readInto_99 rfl rfl ?_
                    refine j_aload_n hC dX5_readInto_100 rfl rfl ?_
                    refine j_get hC uX5 0 0 2 rfl rfl k74 rfl dX5_readInto_101 ?_
                    refine j_callVR hC [0] (c_X5_fail g _ _ _ _) mX5_fail k241 rfl rfl rfl rfl rfl ⟨(Nat.le_of_ble_eq_true rfl), (Nat.le_of_ble_eq_true rfl)⟩ (Nat.le_of_ble_eq_true rfl) ⟨by show ls.length + 0 + 0 + 0 ≤ 11; omega, by show 9 * ls.length + 0 + 0 + 0 ≤ 99; omega⟩ dX5_readInto_104 ?_
                    dsimp only [jrepl, List.set, jstk]
                    refine j_iinc hC (1) dX5_readInto_107 rfl rfl rfl rfl rfl (fun v_107 e_107 => ?_)
                    refine j_goto hC dX5_readInto_110 (tgt := 22) (by decide) ?_
                    refine j_pick [0, 1, 2] ?_
                    have hc : ¬ I1 1 ≤ I1 2 ∧ I1 3 = -1 := ⟨c_36, c_44⟩
                    obtain ⟨w, hw⟩ : ∃ w, 80 - p = w + 1 := ⟨79 - p, by omega⟩
                    rw [hw] at hl
                    first
                      | (rw [rInto_a hc ⟨c_53, hk10⟩] at hl
                         rcases hZ with ⟨z1, rfl, rfl⟩ | ⟨z1, rfl, z3, z4⟩
                         · rw [if_neg z1] at hl
                           refine j_widen (k' := ls.length + if rlZ I1 f 3 = -1 then 0 else 1) (n' := 9 * (ls.length + if rlZ I1 f 3 = -1 then 0 else 1)) (by rw [if_neg z1]; omega) (by rw [if_neg z1]; omega) ?_
                           exact ih_22 (p + 1) _ _ _ _ _ _ _ (by omega) (by omega) (jsucc e_107 h2) (by rw [show 80 - (p + 1) = w by omega]; exact hl) hb
                         · rw [if_pos z1] at hl
                           refine j_widen (k' := (ls ++ [rlL I1 f]).length + if rlZ I1 f 3 = -1 then 0 else 1) (n' := 9 * ((ls ++ [rlL I1 f]).length + if rlZ I1 f 3 = -1 then 0 else 1)) (by rw [if_pos z1]; simp; try omega) (by rw [if_pos z1]; simp; try omega) ?_
                           exact ih_22 (p + 1) _ _ _ _ _ _ _ (by omega) (by omega) (jsucc e_107 h2) (by rw [show 80 - (p + 1) = w by omega]; exact hl) (blaid_light hb hk10 z3 z4))
                      | (have hnp : ¬ (tPk I1 f = 112 ∧ ls.length < 10) := by
                           first | exact fun q => c_53 q.1 | exact fun q => absurd (jge (show (10 : Int32) = nI 10 from rfl) hb1 (by omega) (by omega) c_62) (by omega)
                         rw [rInto_b hc hnp ⟨c_79, hr6⟩] at hl
                         rcases hZ with ⟨z1, rfl, rfl⟩ | ⟨z1, rfl, rfl⟩
                         · rw [if_neg z1] at hl
                           refine j_widen (k' := ls.length + if rrZ I1 f 3 = -1 then 0 else 1) (n' := 9 * (ls.length + if rrZ I1 f 3 = -1 then 0 else 1)) (by rw [if_neg z1]; omega) (by rw [if_neg z1]; omega) ?_
                           exact ih_22 (p + 1) _ _ _ _ _ _ _ (by omega) (by omega) (jsucc e_107 h2) (by rw [show 80 - (p + 1) = w by omega]; exact hl) hb
                         · rw [if_pos z1] at hl
                           refine j_widen (k' := ls.length + if rrZ I1 f 3 = -1 then 0 else 1) (n' := 9 * (ls.length + if rrZ I1 f 3 = -1 then 0 else 1)) (by rw [if_pos z1]; omega) (by rw [if_pos z1]; omega) ?_
                           exact ih_22 (p + 1) _ _ _ _ _ _ _ (by omega) (by omega) (jsucc e_107 h2) (by rw [show 80 - (p + 1) = w by omega]; exact hl) (blaid_route hb hr6))
                      | (have hnp : ¬ (tPk I1 f = 112 ∧ ls.length < 10) := by
                           first | exact fun q => c_53 q.1 | exact fun q => absurd (jge (show (10 : Int32) = nI 10 from rfl) hb1 (by omega) (by omega) c_62) (by omega)
                         have hnr : ¬ (tPk I1 f = 114 ∧ rs.length < 6) := by
                           first | exact fun q => c_79 q.1 | exact fun q => absurd (jge (show (6 : Int32) = nI 6 from rfl) hb4 (by omega) (by omega) c_88) (by omega)
                         rw [rInto_c hc hnp hnr] at hl
                         refine j_widen (k' := ls.length + if tFl I1 (I1 2) 3 = -1 then 0 else 1) (n' := 9 * (ls.length + if tFl I1 (I1 2) 3 = -1 then 0 else 1)) (by split <;> omega) (by split <;> omega) ?_
                         exact ih_22 (p + 1) _ _ _ _ _ _ _ (by omega) (by omega) (jsucc e_107 h2) (by rw [show 80 - (p + 1) = w by omega]; exact hl) hb)
                  · skip
                    have hr6 : rs.length < 6 := jlt (show (6 : Int32) = nI 6 from rfl) hb4 (by omega) (by omega) c_88
                    refine j_aload_n hC dX5_readInto_91 rfl rfl ?_
                    refine j_aload_n hC dX5_readInto_92 rfl rfl ?_
                    refine j_callV hC [0, 1] (c_X5_readRoute g _ _ _ _ _ _ _ _ hb4 hr6) mX5_readRoute k321 rfl rfl rfl rfl rfl ⟨(Nat.le_of_ble_eq_true rfl), (Nat.le_of_ble_eq_true rfl)⟩ (Nat.le_of_ble_eq_true rfl) ⟨by show ls.length + 0 + 0 + 0 ≤ 11; omega, by show 9 * ls.length + 0 + 0 + 0 ≤ 99; omega⟩ dX5_readInto_93 (fun r_93 b_93 hp_93 _ => ?_)
                    obtain ⟨rfl, I3, A3, rfl, hZ⟩ := hp_93
                    dsimp only [jrepl, List.set, jstk]
                    refine j_goto hC dX5_readInto_96 (tgt := 107) (by decide) ?_
                    refine j_iinc hC (1) dX5_readInto_107 rfl rfl rfl rfl rfl (fun v_107 e_107 => ?_)
                    refine j_goto hC dX5_readInto_110 (tgt := 22) (by decide) ?_
                    refine j_pick [0, 1, 2] ?_
                    have hc : ¬ I1 1 ≤ I1 2 ∧ I1 3 = -1 := ⟨c_36, c_44⟩
                    obtain ⟨w, hw⟩ : ∃ w, 80 - p = w + 1 := ⟨79 - p, by omega⟩
                    rw [hw] at hl
                    first
                      | (rw [rInto_a hc ⟨c_53, hk10⟩] at hl
                         rcases hZ with ⟨z1, rfl, rfl⟩ | ⟨z1, rfl, z3, z4⟩
                         · rw [if_neg z1] at hl
                           refine j_widen (k' := ls.length + if rlZ I1 f 3 = -1 then 0 else 1) (n' := 9 * (ls.length + if rlZ I1 f 3 = -1 then 0 else 1)) (by rw [if_neg z1]; omega) (by rw [if_neg z1]; omega) ?_
                           exact ih_22 (p + 1) _ _ _ _ _ _ _ (by omega) (by omega) (jsucc e_107 h2) (by rw [show 80 - (p + 1) = w by omega]; exact hl) hb
                         · rw [if_pos z1] at hl
                           refine j_widen (k' := (ls ++ [rlL I1 f]).length + if rlZ I1 f 3 = -1 then 0 else 1) (n' := 9 * ((ls ++ [rlL I1 f]).length + if rlZ I1 f 3 = -1 then 0 else 1)) (by rw [if_pos z1]; simp; try omega) (by rw [if_pos z1]; simp; try omega) ?_
                           exact ih_22 (p + 1) _ _ _ _ _ _ _ (by omega) (by omega) (jsucc e_107 h2) (by rw [show 80 - (p + 1) = w by omega]; exact hl) (blaid_light hb hk10 z3 z4))
                      | (have hnp : ¬ (tPk I1 f = 112 ∧ ls.length < 10) := by
                           first | exact fun q => c_53 q.1 | exact fun q => absurd (jge (show (10 : Int32) = nI 10 from rfl) hb1 (by omega) (by omega) c_62) (by omega)
                         rw [rInto_b hc hnp ⟨c_79, hr6⟩] at hl
                         rcases hZ with ⟨z1, rfl, rfl⟩ | ⟨z1, rfl, rfl⟩
                         · rw [if_neg z1] at hl
                           refine j_widen (k' := ls.length + if rrZ I1 f 3 = -1 then 0 else 1) (n' := 9 * (ls.length + if rrZ I1 f 3 = -1 then 0 else 1)) (by rw [if_neg z1]; omega) (by rw [if_neg z1]; omega) ?_
                           exact ih_22 (p + 1) _ _ _ _ _ _ _ (by omega) (by omega) (jsucc e_107 h2) (by rw [show 80 - (p + 1) = w by omega]; exact hl) hb
                         · rw [if_pos z1] at hl
                           refine j_widen (k' := ls.length + if rrZ I1 f 3 = -1 then 0 else 1) (n' := 9 * (ls.length + if rrZ I1 f 3 = -1 then 0 else 1)) (by rw [if_pos z1]; omega) (by rw [if_pos z1]; omega) ?_
                           exact ih_22 (p + 1) _ _ _ _ _ _ _ (by omega) (by omega) (jsucc e_107 h2) (by rw [show 80 - (p + 1) = w by omega]; exact hl) (blaid_route hb hr6))
                      | (have hnp : ¬ (tPk I1 f = 112 ∧ ls.length < 10) := by
                           first | exact fun q => c_53 q.1 | exact fun q => absurd (jge (show (10 : Int32) = nI 10 from rfl) hb1 (by omega) (by omega) c_62) (by omega)
                         have hnr : ¬ (tPk I1 f = 114 ∧ rs.length < 6) := by
                           first | exact fun q => c_79 q.1 | exact fun q => absurd (jge (show (6 : Int32) = nI 6 from rfl) hb4 (by omega) (by omega) c_88) (by omega)
                         rw [rInto_c hc hnp hnr] at hl
                         refine j_widen (k' := ls.length + if tFl I1 (I1 2) 3 = -1 then 0 else 1) (n' := 9 * (ls.length + if tFl I1 (I1 2) 3 = -1 then 0 else 1)) (by split <;> omega) (by split <;> omega) ?_
                         exact ih_22 (p + 1) _ _ _ _ _ _ _ (by omega) (by omega) (jsucc e_107 h2) (by rw [show 80 - (p + 1) = w by omega]; exact hl) hb)
              · skip
                have hk10 : ls.length < 10 := jlt (show (10 : Int32) = nI 10 from rfl) hb1 (by omega) (by omega) c_62
                refine j_aload_n hC dX5_readInto_65 rfl rfl ?_
                refine j_aload_n hC dX5_readInto_66 rfl rfl ?_
                refine j_callV hC [0, 1, 2] (c_X5_readLight g _ _ _ _ _ _ _ _ hb.1 hk10) mX5_readLight k233 rfl rfl rfl rfl rfl ⟨(Nat.le_of_ble_eq_true rfl), (Nat.le_of_ble_eq_true rfl)⟩ (Nat.le_of_ble_eq_true rfl) ⟨by show ls.length + 0 + 1 ≤ 11; omega, by show 9 * ls.length + 0 + 9 ≤ 99; omega⟩ dX5_readInto_67 (fun r_67 b_67 hp_67 _ => ?_)
                obtain ⟨rfl, I3, Z, rfl, hZ⟩ := hp_67
                dsimp only [jrepl, List.set, jstk]
                refine j_goto hC dX5_readInto_70 (tgt := 107) (by decide) ?_
                refine j_iinc hC (1) dX5_readInto_107 rfl rfl rfl rfl rfl (fun v_107 e_107 => ?_)
                refine j_goto hC dX5_readInto_110 (tgt := 22) (by decide) ?_
                refine j_pick [0, 1, 2] ?_
                have hc : ¬ I1 1 ≤ I1 2 ∧ I1 3 = -1 := ⟨c_36, c_44⟩
                obtain ⟨w, hw⟩ : ∃ w, 80 - p = w + 1 := ⟨79 - p, by omega⟩
                rw [hw] at hl
                first
                  | (rw [rInto_a hc ⟨c_53, hk10⟩] at hl
                     rcases hZ with ⟨z1, rfl, rfl⟩ | ⟨z1, rfl, z3, z4⟩
                     · rw [if_neg z1] at hl
                       refine j_widen (k' := ls.length + if rlZ I1 f 3 = -1 then 0 else 1) (n' := 9 * (ls.length + if rlZ I1 f 3 = -1 then 0 else 1)) (by rw [if_neg z1]; omega) (by rw [if_neg z1]; omega) ?_
                       exact ih_22 (p + 1) _ _ _ _ _ _ _ (by omega) (by omega) (jsucc e_107 h2) (by rw [show 80 - (p + 1) = w by omega]; exact hl) hb
                     · rw [if_pos z1] at hl
                       refine j_widen (k' := (ls ++ [rlL I1 f]).length + if rlZ I1 f 3 = -1 then 0 else 1) (n' := 9 * ((ls ++ [rlL I1 f]).length + if rlZ I1 f 3 = -1 then 0 else 1)) (by rw [if_pos z1]; simp; try omega) (by rw [if_pos z1]; simp; try omega) ?_
                       exact ih_22 (p + 1) _ _ _ _ _ _ _ (by omega) (by omega) (jsucc e_107 h2) (by rw [show 80 - (p + 1) = w by omega]; exact hl) (blaid_light hb hk10 z3 z4))
                  | (have hnp : ¬ (tPk I1 f = 112 ∧ ls.length < 10) := by
                       first | exact fun q => c_53 q.1 | exact fun q => absurd (jge (show (10 : Int32) = nI 10 from rfl) hb1 (by omega) (by omega) c_62) (by omega)
                     rw [rInto_b hc hnp ⟨c_79, hr6⟩] at hl
                     rcases hZ with ⟨z1, rfl, rfl⟩ | ⟨z1, rfl, rfl⟩
                     · rw [if_neg z1] at hl
                       refine j_widen (k' := ls.length + if rrZ I1 f 3 = -1 then 0 else 1) (n' := 9 * (ls.length + if rrZ I1 f 3 = -1 then 0 else 1)) (by rw [if_neg z1]; omega) (by rw [if_neg z1]; omega) ?_
                       exact ih_22 (p + 1) _ _ _ _ _ _ _ (by omega) (by omega) (jsucc e_107 h2) (by rw [show 80 - (p + 1) = w by omega]; exact hl) hb
                     · rw [if_pos z1] at hl
                       refine j_widen (k' := ls.length + if rrZ I1 f 3 = -1 then 0 else 1) (n' := 9 * (ls.length + if rrZ I1 f 3 = -1 then 0 else 1)) (by rw [if_pos z1]; omega) (by rw [if_pos z1]; omega) ?_
                       exact ih_22 (p + 1) _ _ _ _ _ _ _ (by omega) (by omega) (jsucc e_107 h2) (by rw [show 80 - (p + 1) = w by omega]; exact hl) (blaid_route hb hr6))
                  | (have hnp : ¬ (tPk I1 f = 112 ∧ ls.length < 10) := by
                       first | exact fun q => c_53 q.1 | exact fun q => absurd (jge (show (10 : Int32) = nI 10 from rfl) hb1 (by omega) (by omega) c_62) (by omega)
                     have hnr : ¬ (tPk I1 f = 114 ∧ rs.length < 6) := by
                       first | exact fun q => c_79 q.1 | exact fun q => absurd (jge (show (6 : Int32) = nI 6 from rfl) hb4 (by omega) (by omega) c_88) (by omega)
                     rw [rInto_c hc hnp hnr] at hl
                     refine j_widen (k' := ls.length + if tFl I1 (I1 2) 3 = -1 then 0 else 1) (n' := 9 * (ls.length + if tFl I1 (I1 2) 3 = -1 then 0 else 1)) (by split <;> omega) (by split <;> omega) ?_
                     exact ih_22 (p + 1) _ _ _ _ _ _ _ (by omega) (by omega) (jsucc e_107 h2) (by rw [show 80 - (p + 1) = w by omega]; exact hl) hb)
  refine j_pick [0, 1, 2] ?_
  refine j_widen (k' := ([] : List jF).length + if upd (upd I 2 0) 3 (-1) 3 = -1 then 0 else 1) (n' := 9 * (([] : List jF).length + if upd (upd I 2 0) 3 (-1) 3 = -1 then 0 else 1)) (by omega) (by omega) ?_
  exact L_22 (81) 0 _ _ _ _ X [] [] (by omega) (by omega) (e_21.trans nI_0.symm) rfl ⟨⟨rfl, Nat.zero_le _, hX⟩, Nat.zero_le _, fun j hj => absurd hj (Nat.not_lt_zero j), rfl, Nat.zero_le _, fun j hj => absurd hj (Nat.not_lt_zero j), fun q q1 q2 => by show (if q = 4 then _ else if q = 1 then _ else I0 q) = _; rw [if_neg q2, if_neg q1], rfl⟩
