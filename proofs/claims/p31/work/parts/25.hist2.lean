theorem prev8 : ∀ j, j < 8 → (nI j + 8 - 1) - (nI j + 8 - 1) / 8 * 8 = nI ((j + 7) % 8) := by decide
theorem va_up_up {α : Type} {f : Nat → α} {j : Nat} {v w : α} : va_up (va_up f j v) j w = va_up f j w := by
  funext i
  unfold va_up
  by_cases q : i = j
  · rw [if_pos q, if_pos q]
  · rw [if_neg q, if_neg q, if_neg q]
theorem va_up_at {α : Type} {f : Nat → α} {j : Nat} {v : α} : va_up f j v j = v := by unfold va_up; rw [if_pos rfl]
theorem kb_out {g : jG} {K : Nat → Option BV} {j : Nat} {V : BV} (hj : j < 8) (h : K j = some V) {w1 w2 w3 : va_W} : ([w1, kb g K, w2, w3] : List va_W).flatten.Perm ([w1, kb g (va_up K j none), w2, w3, bc g V.1 V.2.1 V.2.2.1 (lrf V.2.2.2), lts V.2.2.2] : List va_W).flatten := by
  have h1 := kb_split (g := g) (K := K) hj
  rw [h] at h1
  simp only [List.flatten_cons, List.flatten_nil, List.append_nil]
  refine List.Perm.append_left _ ?_
  have h2 : (kb g K).Perm (kb g (va_up K j none) ++ bcs g V) := h1.trans List.perm_append_comm
  refine (h2.append_right _).trans ?_
  rw [List.append_assoc]
  refine List.Perm.append_left _ ?_
  refine List.perm_append_comm.trans ?_
  rw [List.append_assoc]
  exact List.Perm.refl _
theorem kb_in {g : jG} {K : Nat → Option BV} {j : Nat} {V : BV} (hj : j < 8) {w1 w2 w3 : va_W} : ([w1, kb g (va_up K j none), w2, w3, bc g V.1 V.2.1 V.2.2.1 (lrf V.2.2.2), lts V.2.2.2] : List va_W).flatten.Perm ([w1, kb g (va_up K j (some V)), w2, w3] : List va_W).flatten := by
  have h := kb_out (g := g) (K := va_up K j (some V)) (w1 := w1) (w2 := w2) (w3 := w3) hj va_up_at
  rw [va_up_up] at h
  exact h.symm
theorem kr_same {K : Nat → Option BV} {j : Nat} {V W : BV} (h : V.1 = W.1) : kr (va_up K j (some V)) = kr (va_up K j (some W)) := by
  rw [← kr_put, ← kr_put, h]
def xo (a : Nat) (dt dn du dh dr dp : Nat → Nat) : va_W := [(a, .inr (6, [.ref (dt 0), .ref (dn 0), .ref (du 0), .ref (dh 0), .ref (dr 0), .ref (dp 0)]))]
set_option maxHeartbeats 1000000 in
set_option maxRecDepth 100000 in
theorem c_X1_keep (g : jG) (d : Nat → Nat) (I : jF) (K : Nat → Option BV) (d2 : Nat → Nat) (I2 : jF) (A2 : Nat → jF) (X2 : List (Nat × jF)) (k n nx m : Nat) (hg : bgood (d2, I2, A2, X2) k n) (hnx : nx < 8) (hm : m ≤ 8) (hI1 : I 1 = nI nx) (hI2 : I 2 = nI m) (hK : ∀ V, K nx = some V → V.2.2.2.length ≤ 10) : Con g yX1_keep cX1_keep 2 none 5 103 15 125 [.ref (d 0), .ref (d2 0)] [hc g d I (kr K), kb g K, bc g d2 I2 A2 (lrf X2), lts X2] (fun r b => r = none ∧ ∃ (V : BV) (I1 : jF), b = [hc g d I1 (kr (va_up K nx (some V))), kb g (va_up K nx (some V)), bc g d2 I2 A2 (lrf X2), lts X2] ∧ I1 1 = nI ((nx + 1) % 8) ∧ I1 2 = nI (min (m + 1) 8) ∧ beq V (d2, I2, A2, X2) k n) := by
  refine Con.of (own := RX1) (lv := [(0, .ref (d 0)), (1, .ref (d2 0))]) (by decide) rfl (Nat.le_of_ble_eq_true rfl) rfl ?_
  intro E hC hQ hN
  obtain ⟨hg1, hg2, hg3, hg4⟩ := id hg
  refine j_aload_n hC dX1_keep_0 rfl rfl ?_
  refine j_aload_n hC dX1_keep_1 rfl rfl ?_
  refine j_get hC uX1 0 0 1 rfl rfl k99 rfl dX1_keep_2 ?_
  refine j_callV hC [0, 1] (c_X1_slot g _ _ _ _ _ hnx hI1) mX1_slot k227 rfl rfl rfl rfl rfl ⟨(Nat.le_of_ble_eq_true rfl), (Nat.le_of_ble_eq_true rfl)⟩ (Nat.le_of_ble_eq_true rfl) ⟨(Nat.le_of_ble_eq_true rfl), (Nat.le_of_ble_eq_true rfl)⟩ dX1_keep_5 (fun r_5 b_5 hp_5 _ => ?_)
  obtain ⟨V, rfl, rfl, hV⟩ := hp_5
  dsimp only [jrepl, List.set, jstk]
  have hV10 : V.2.2.2.length ≤ 10 := hV.elim (fun q => hK V q) (fun q => by rw [q.2]; exact Nat.zero_le _)
  refine j_perm (kb_out hnx va_up_at) ?_
  rw [va_up_up]
  refine j_aload_n hC dX1_keep_8 rfl rfl ?_
  refine j_callV hC [4, 5, 2, 3] (c_X0_copyFrom g _ _ _ _ _ _ _ _ _ _ hg1 hV10 hg2 hg3 hg4) mX0_copyFrom k235 rfl rfl rfl rfl rfl ⟨(Nat.le_of_ble_eq_true rfl), (Nat.le_of_ble_eq_true rfl)⟩ (Nat.le_of_ble_eq_true rfl) ⟨(Nat.le_of_ble_eq_true rfl), (Nat.le_of_ble_eq_true rfl)⟩ dX1_keep_9 (fun r_9 b_9 hp_9 _ => ?_)
  obtain ⟨rfl, I1, A1, Y, rfl, hI1_9, hY, hAr, hA2⟩ := hp_9
  dsimp only [jrepl, List.set, jstk]
  refine j_perm (kb_in (V := (V.1, I1, A1, Y)) hnx) ?_
  rw [show kr (va_up K nx (some V)) = kr (va_up K nx (some (V.1, I1, A1, Y))) from kr_same rfl]
  refine j_aload_n hC dX1_keep_12 rfl rfl ?_
  refine j_aload_n hC dX1_keep_13 rfl rfl ?_
  refine j_get hC uX1 0 0 1 rfl rfl k99 rfl dX1_keep_14 ?_
  refine j_iconst hC (1) dX1_keep_17 (by decide) ?_
  refine j_iadd hC dX1_keep_18 ?_
  refine j_bipush hC (8) dX1_keep_19 (by decide) ?_
  refine j_irem hC dX1_keep_21 (by decide) ?_
  refine j_put_1_1 (bi := 0) hC rfl k99 dX1_keep_22 ?_
  dsimp only [List.set]
  refine j_aload_n hC dX1_keep_25 rfl rfl ?_
  refine j_aload_n hC dX1_keep_26 rfl rfl ?_
  refine j_get hC uX1 0 0 2 rfl rfl k100 rfl dX1_keep_27 ?_
  refine j_iconst hC (1) dX1_keep_30 (by decide) ?_
  refine j_iadd hC dX1_keep_31 ?_
  refine j_bipush hC (8) dX1_keep_32 (by decide) ?_
  refine j_min hC k295 k186 k12 k187 (Nat.le_of_ble_eq_true rfl) (Nat.le_of_ble_eq_true rfl) (Nat.le_of_ble_eq_true rfl) (Nat.le_of_ble_eq_true rfl) dX1_keep_34 ?_
  refine j_put_1_2 (bi := 0) hC rfl k100 dX1_keep_37 ?_
  dsimp only [List.set]
  refine j_vret hC hQ rfl (Nat.le_of_ble_eq_true rfl) (Nat.le_of_ble_eq_true rfl) dX1_keep_40 rfl ?_
  exact ⟨rfl, (V.1, I1, A1, Y), _, rfl, by show I 1 + 1 - (I 1 + 1) / 8 * 8 = _; rw [hI1, nI_1]; exact rem8 (nx + 1) (by omega), by show (if (8 : Int32) < I 2 + 1 then 8 else I 2 + 1) = _; rw [hI2, nI_1]; exact min8 (m + 1) (by omega), hI1_9, hY, hAr, hA2⟩
set_option maxHeartbeats 1000000 in
set_option maxRecDepth 100000 in
theorem c_X1_restore (g : jG) (d : Nat → Nat) (I : jF) (K : Nat → Option BV) (d2 : Nat → Nat) (I2 : jF) (A2 : Nat → jF) (X2 : List (Nat × jF)) (k n nx m : Nat) (V : BV) (hX : X2.length ≤ 10) (hnx : nx < 8) (hm0 : 0 < m) (hm : m ≤ 8) (hI1 : I 1 = nI nx) (hI2 : I 2 = nI m) (hK : K ((nx + 7) % 8) = some V) (hg : bgood V k n) : Con g yX1_restore cX1_restore 2 none 5 103 15 125 [.ref (d 0), .ref (d2 0)] [hc g d I (kr K), kb g K, bc g d2 I2 A2 (lrf X2), lts X2] (fun r b => r = none ∧ ∃ (I1 : jF) (A1 : Nat → jF) (Y : List (Nat × jF)), b = [hc g d (upd (upd I 1 (nI ((nx + 7) % 8))) 2 (nI (m - 1))) (kr K), kb g K, bc g d2 I1 A1 (lrf Y), lts Y] ∧ beq (d2, I1, A1, Y) V k n) := by
  refine Con.of (own := RX1) (lv := [(0, .ref (d 0)), (1, .ref (d2 0))]) (by decide) rfl (Nat.le_of_ble_eq_true rfl) rfl ?_
  intro E hC hQ hN
  obtain ⟨hg1, hg2, hg3, hg4⟩ := id hg
  have hj8 : (nx + 7) % 8 < 8 := Nat.mod_lt _ (by decide)
  have hmp : ¬ I 2 ≤ 0 := by rw [hI2, ← nI_0, nI_leI (by omega) (by omega)]; omega
  have hpv : I 1 + 8 - 1 - (I 1 + 8 - 1) / 8 * 8 = nI ((nx + 7) % 8) := by rw [hI1]; exact prev8 nx hnx
  refine j_aload_n hC dX1_restore_0 rfl rfl ?_
  refine j_get hC uX1 0 0 2 rfl rfl k100 rfl dX1_restore_1 ?_
  refine j_if_le hC dX1_restore_4 (tgt := 45) (by decide) (fun c_4 => ?_) (fun c_4 => ?_)
  · exact absurd c_4 hmp
  · skip
    refine j_aload_n hC dX1_restore_7 rfl rfl ?_
    refine j_aload_n hC dX1_restore_8 rfl rfl ?_
    refine j_get hC uX1 0 0 1 rfl rfl k99 rfl dX1_restore_9 ?_
    refine j_bipush hC (8) dX1_restore_12 (by decide) ?_
    refine j_iadd hC dX1_restore_14 ?_
    refine j_iconst hC (1) dX1_restore_15 (by decide) ?_
    refine j_isub hC dX1_restore_16 ?_
    refine j_bipush hC (8) dX1_restore_17 (by decide) ?_
    refine j_irem hC dX1_restore_19 (by decide) ?_
    refine j_put_1_1 (bi := 0) hC rfl k99 dX1_restore_20 ?_
    dsimp only [List.set]
    refine j_aload_n hC dX1_restore_23 rfl rfl ?_
    refine j_dup hC dX1_restore_24 rfl ?_
    refine j_get hC uX1 0 0 2 rfl rfl k100 rfl dX1_restore_25 ?_
    refine j_iconst hC (1) dX1_restore_28 (by decide) ?_
    refine j_isub hC dX1_restore_29 ?_
    refine j_put_1_2 (bi := 0) hC rfl k100 dX1_restore_30 ?_
    dsimp only [List.set]
    refine j_aload_n hC dX1_restore_33 rfl rfl ?_
    refine j_aload_n hC dX1_restore_34 rfl rfl ?_
    refine j_aload_n hC dX1_restore_35 rfl rfl ?_
    refine j_get hC uX1 0 0 1 rfl rfl k99 rfl dX1_restore_36 ?_
    refine j_callV hC [0, 1] (c_X1_slot g _ _ _ ((nx + 7) % 8) _ hj8 hpv) mX1_slot k227 rfl rfl rfl rfl rfl ⟨(Nat.le_of_ble_eq_true rfl), (Nat.le_of_ble_eq_true rfl)⟩ (Nat.le_of_ble_eq_true rfl) ⟨(Nat.le_of_ble_eq_true rfl), (Nat.le_of_ble_eq_true rfl)⟩ dX1_restore_39 (fun r_39 b_39 hp_39 _ => ?_)
    obtain ⟨V0, rfl, rfl, hV⟩ := hp_39
    obtain rfl : V0 = V := by rcases hV with q | q; exact Option.some.inj (q.symm.trans hK); exact absurd (q.1.symm.trans hK) (by simp)
    dsimp only [jrepl, List.set, jstk]
    rw [va_up_same hK]
    refine j_perm (kb_out hj8 hK) ?_
    refine j_callV hC [2, 3, 4, 5] (c_X0_copyFrom g _ _ _ _ _ _ _ _ _ _ hg1 hX hg2 hg3 hg4) mX0_copyFrom k235 rfl rfl rfl rfl rfl ⟨(Nat.le_of_ble_eq_true rfl), (Nat.le_of_ble_eq_true rfl)⟩ (Nat.le_of_ble_eq_true rfl) ⟨(Nat.le_of_ble_eq_true rfl), (Nat.le_of_ble_eq_true rfl)⟩ dX1_restore_42 (fun r_42 b_42 hp_42 _ => ?_)
    obtain ⟨rfl, I1, A1, Y, rfl, hI1_9, hY, hAr, hA2⟩ := hp_42
    dsimp only [jrepl, List.set, jstk]
    refine j_perm (kb_in (V := V0) hj8) ?_
    rw [va_up_same hK]
    refine j_vret hC hQ rfl (Nat.le_of_ble_eq_true rfl) (Nat.le_of_ble_eq_true rfl) dX1_restore_45 rfl ?_
    exact ⟨rfl, I1, A1, Y, by rw [show I 1 + 8 - 1 - (I 1 + 8 - 1) / 8 * 8 = nI ((nx + 7) % 8) from hpv, show upd I 1 (nI ((nx + 7) % 8)) 2 - 1 = nI (m - 1) from (by show I 2 - 1 = nI (m - 1); rw [hI2]; obtain ⟨mm, rfl⟩ : ∃ mm, m = mm + 1 := ⟨m - 1, by omega⟩; exact nI_pred _)], hI1_9, hY, hAr, hA2⟩
theorem dfn5 : ∀ j, j < 4 → defaultValue (tyX5 j) = vp_V [.null, .int 0, .int 0, .int 0] j := by
  intro j hj
  match j, hj with
  | 0, _ => rfl
  | 1, _ => rfl
  | 2, _ => rfl
  | 3, _ => rfl
  | n + 4, h => exact absurd h (by omega)
theorem dfn0 : ∀ j, j < 10 → defaultValue (tyX0 j) = vp_V [.null, .int 0, .null, .null, .int 0, .int 0, .int 0, .null, .int 0, .int 0] j := by
  intro j hj
  match j, hj with
  | 0, _ => rfl
  | 1, _ => rfl
  | 2, _ => rfl
  | 3, _ => rfl
  | 4, _ => rfl
  | 5, _ => rfl
  | 6, _ => rfl
  | 7, _ => rfl
  | 8, _ => rfl
  | 9, _ => rfl
  | n + 10, h => exact absurd h (by omega)
theorem dfn1 : ∀ j, j < 3 → defaultValue (tyX1 j) = vp_V [.null, .int 0, .int 0] j := by
  intro j hj
  match j, hj with
  | 0, _ => rfl
  | 1, _ => rfl
  | 2, _ => rfl
  | n + 3, h => exact absurd h (by omega)
theorem dfn4 : ∀ j, j < 2 → defaultValue (tyX4 j) = vp_V [.null, .null] j := by
  intro j hj
  match j, hj with
  | 0, _ => rfl
  | 1, _ => rfl
  | n + 2, h => exact absurd h (by omega)
theorem dfn3 : ∀ j, j < 4 → defaultValue (tyX3 j) = vp_V [.null, .null, .int 0, .int 0] j := by
  intro j hj
  match j, hj with
  | 0, _ => rfl
  | 1, _ => rfl
  | 2, _ => rfl
  | 3, _ => rfl
  | n + 4, h => exact absurd h (by omega)
theorem dfn6 : ∀ j, j < 6 → defaultValue (tyX6 j) = vp_V [.null, .null, .null, .null, .null, .null] j := by
  intro j hj
  match j, hj with
  | 0, _ => rfl
  | 1, _ => rfl
  | 2, _ => rfl
  | 3, _ => rfl
  | 4, _ => rfl
  | 5, _ => rfl
  | n + 6, h => exact absurd h (by omega)
set_option maxHeartbeats 1000000 in
set_option maxRecDepth 100000 in
theorem c_X6_init (g : jG) (a : Nat) : Con g yX6_init cX6_init 1 none 2 36 20 1700 [.ref a] [[(a, .inr (6, [.null, .null, .null, .null, .null, .null]))]] (fun r b => r = none ∧ ∃ dt dn du dh dr dp : Nat → Nat, b = [([xo a dt dn du dh dr dp, tc g dt (fun _ => 0) (fun _ => 0), bc g dn newI newA (lrf []), lts [], bc g du newI newA (lrf []), lts [], hc g dh (fun _ => 0) (kr (fun _ => none)), kb g (fun _ => none), rc g dr (fun _ _ => 0), pcc g dp (fun _ => 0) (fun _ _ => 0)] : List va_W).flatten]) := by
  refine Con.of (own := RX6) (lv := [(0, .ref a)]) (by decide) rfl (Nat.le_of_ble_eq_true rfl) rfl ?_
  intro E hC hQ hN
  refine j_aload_n hC dX6_init_0 rfl rfl ?_
  refine j_objInit hC k19 k20 k21 (Nat.le_of_ble_eq_true rfl) (Nat.le_of_ble_eq_true rfl) dX6_init_1 ?_
  refine j_aload_n hC dX6_init_4 rfl rfl ?_
  refine j_new hC uX5 (fs := [.null, .int 0, .int 0, .int 0]) dfn5 k22 k23 k7 (Nat.le_of_ble_eq_true rfl) (Nat.le_of_ble_eq_true rfl) dX6_init_5 (fun q_5 => ?_)
  dsimp only [List.cons_append, List.nil_append]
  refine j_dup hC dX6_init_8 rfl ?_
  refine j_callIN hC [1] (c_X5_init g _) mX5_init k24 rfl rfl rfl ⟨(Nat.le_of_ble_eq_true rfl), (Nat.le_of_ble_eq_true rfl)⟩ (Nat.le_of_ble_eq_true rfl) ⟨(Nat.le_of_ble_eq_true rfl), (Nat.le_of_ble_eq_true rfl)⟩ dX6_init_9 (fun r_9 b_9 hp_9 _ => ?_)
  obtain ⟨rfl, dt, hdt, rfl⟩ := hp_9
  dsimp only [jrepl, List.set, jstk]
  subst hdt
  refine j_putF hC hN uX6 (bi := 0) (bj := 0) (kf := 0) rfl rfl (by decide) k142 rfl rfl rfl rfl (Nat.le_of_ble_eq_true rfl) dX6_init_12 ?_
  dsimp only [List.set]
  refine j_aload_n hC dX6_init_15 rfl rfl ?_
  refine j_new hC uX0 (fs := [.null, .int 0, .null, .null, .int 0, .int 0, .int 0, .null, .int 0, .int 0]) dfn0 k40 k41 k8 (Nat.le_of_ble_eq_true rfl) (Nat.le_of_ble_eq_true rfl) dX6_init_16 (fun q_16 => ?_)
  dsimp only [List.cons_append, List.nil_append]
  refine j_dup hC dX6_init_19 rfl ?_
  refine j_callIN hC [2] (c_X0_init g _) mX0_init k42 rfl rfl rfl ⟨(Nat.le_of_ble_eq_true rfl), (Nat.le_of_ble_eq_true rfl)⟩ (Nat.le_of_ble_eq_true rfl) ⟨(Nat.le_of_ble_eq_true rfl), (Nat.le_of_ble_eq_true rfl)⟩ dX6_init_20 (fun r_20 b_20 hp_20 _ => ?_)
  obtain ⟨rfl, dn, hdn, rfl⟩ := hp_20
  dsimp only [jrepl, List.set, jstk]
  subst hdn
  refine j_putF hC hN uX6 (bi := 0) (bj := 0) (kf := 1) rfl rfl (by decide) k143 rfl rfl rfl rfl (Nat.le_of_ble_eq_true rfl) dX6_init_23 ?_
  dsimp only [List.set]
  refine j_aload_n hC dX6_init_26 rfl rfl ?_
  refine j_new hC uX0 (fs := [.null, .int 0, .null, .null, .int 0, .int 0, .int 0, .null, .int 0, .int 0]) dfn0 k40 k41 k8 (Nat.le_of_ble_eq_true rfl) (Nat.le_of_ble_eq_true rfl) dX6_init_27 (fun q_27 => ?_)
  dsimp only [List.cons_append, List.nil_append]
  refine j_dup hC dX6_init_30 rfl ?_
  refine j_callIN hC [3] (c_X0_init g _) mX0_init k42 rfl rfl rfl ⟨(Nat.le_of_ble_eq_true rfl), (Nat.le_of_ble_eq_true rfl)⟩ (Nat.le_of_ble_eq_true rfl) ⟨(Nat.le_of_ble_eq_true rfl), (Nat.le_of_ble_eq_true rfl)⟩ dX6_init_31 (fun r_31 b_31 hp_31 _ => ?_)
  obtain ⟨rfl, du, hdu, rfl⟩ := hp_31
  dsimp only [jrepl, List.set, jstk]
  subst hdu
  refine j_putF hC hN uX6 (bi := 0) (bj := 0) (kf := 2) rfl rfl (by decide) k144 rfl rfl rfl rfl (Nat.le_of_ble_eq_true rfl) dX6_init_34 ?_
  dsimp only [List.set]
  refine j_aload_n hC dX6_init_37 rfl rfl ?_
  refine j_new hC uX1 (fs := [.null, .int 0, .int 0]) dfn1 k90 k91 k9 (Nat.le_of_ble_eq_true rfl) (Nat.le_of_ble_eq_true rfl) dX6_init_38 (fun q_38 => ?_)
  dsimp only [List.cons_append, List.nil_append]
  refine j_dup hC dX6_init_41 rfl ?_
  refine j_callIN hC [4] (c_X1_init g _) mX1_init k92 rfl rfl rfl ⟨(Nat.le_of_ble_eq_true rfl), (Nat.le_of_ble_eq_true rfl)⟩ (Nat.le_of_ble_eq_true rfl) ⟨(Nat.le_of_ble_eq_true rfl), (Nat.le_of_ble_eq_true rfl)⟩ dX6_init_42 (fun r_42 b_42 hp_42 _ => ?_)
  obtain ⟨rfl, dh, hdh, rfl⟩ := hp_42
  dsimp only [jrepl, List.set, jstk]
  subst hdh
  refine j_putF hC hN uX6 (bi := 0) (bj := 0) (kf := 3) rfl rfl (by decide) k145 rfl rfl rfl rfl (Nat.le_of_ble_eq_true rfl) dX6_init_45 ?_
  dsimp only [List.set]
  refine j_aload_n hC dX6_init_48 rfl rfl ?_
  refine j_new hC uX4 (fs := [.null, .null]) dfn4 k109 k110 k10 (Nat.le_of_ble_eq_true rfl) (Nat.le_of_ble_eq_true rfl) dX6_init_49 (fun q_49 => ?_)
  dsimp only [List.cons_append, List.nil_append]
  refine j_dup hC dX6_init_52 rfl ?_
  refine j_callIN hC [5] (c_X4_init g _) mX4_init k111 rfl rfl rfl ⟨(Nat.le_of_ble_eq_true rfl), (Nat.le_of_ble_eq_true rfl)⟩ (Nat.le_of_ble_eq_true rfl) ⟨(Nat.le_of_ble_eq_true rfl), (Nat.le_of_ble_eq_true rfl)⟩ dX6_init_53 (fun r_53 b_53 hp_53 _ => ?_)
  obtain ⟨rfl, dr, hdr, rfl⟩ := hp_53
  dsimp only [jrepl, List.set, jstk]
  subst hdr
  refine j_putF hC hN uX6 (bi := 0) (bj := 0) (kf := 4) rfl rfl (by decide) k146 rfl rfl rfl rfl (Nat.le_of_ble_eq_true rfl) dX6_init_56 ?_
  dsimp only [List.set]
  refine j_aload_n hC dX6_init_59 rfl rfl ?_
  refine j_new hC uX3 (fs := [.null, .null, .int 0, .int 0]) dfn3 k122 k123 k11 (Nat.le_of_ble_eq_true rfl) (Nat.le_of_ble_eq_true rfl) dX6_init_60 (fun q_60 => ?_)
  dsimp only [List.cons_append, List.nil_append]
  refine j_dup hC dX6_init_63 rfl ?_
  refine j_callIN hC [6] (c_X3_init g _) mX3_init k124 rfl rfl rfl ⟨(Nat.le_of_ble_eq_true rfl), (Nat.le_of_ble_eq_true rfl)⟩ (Nat.le_of_ble_eq_true rfl) ⟨(Nat.le_of_ble_eq_true rfl), (Nat.le_of_ble_eq_true rfl)⟩ dX6_init_64 (fun r_64 b_64 hp_64 _ => ?_)
  obtain ⟨rfl, dp, hdp, rfl⟩ := hp_64
  dsimp only [jrepl, List.set, jstk]
  subst hdp
  refine j_putF hC hN uX6 (bi := 0) (bj := 0) (kf := 5) rfl rfl (by decide) k147 rfl rfl rfl rfl (Nat.le_of_ble_eq_true rfl) dX6_init_67 ?_
  dsimp only [List.set]
  refine j_eqfl [([xo a dt dn du dh dr dp, tc g dt (fun _ => 0) (fun _ => 0), bc g dn newI newA (lrf []), lts [], bc g du newI newA (lrf []), lts [], hc g dh (fun _ => 0) (kr (fun _ => none)), kb g (fun _ => none), rc g dr (fun _ _ => 0), pcc g dp (fun _ => 0) (fun _ _ => 0)] : List va_W).flatten] rfl ?_
  refine j_vret hC hQ rfl (Nat.le_of_ble_eq_true rfl) (Nat.le_of_ble_eq_true rfl) dX6_init_70 rfl ?_
  exact ⟨rfl, dt, dn, du, dh, dr, dp, rfl⟩
