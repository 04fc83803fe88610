/-- the rows of routes: from and to, as numbers -/
def rok (A : Nat → jF) (ra rb : Nat → Nat) (n : Nat) : Prop := ∀ r, r < n → A 0 r = nI (ra r) ∧ A 1 r = nI (rb r) ∧ ra r ≤ rb r ∧ rb r ≤ 200
def mkP (N : jF) (a : Nat) (F : jF) (t : Nat) : jF := jiter (fun t F => fbF F (nearT N (nI (a + t)))) F t
def mkR (N : jF) (ra rb : Nat → Nat) (F : jF) (n : Nat) : jF := jiter (fun r F => if darkN N (ra r) (rb r) 1023 = 0 then mkP N (ra r) F (rb r + 1 - ra r) else F) F n
def ones (al : Nat) (F : jF) : jF := fun q => if 1 ≤ q ∧ q ≤ al then 1 else F q
def onesP (p : Nat) (F : jF) : jF := fun q => if 1 ≤ q ∧ q < p then 1 else F q
theorem onesP_step {p : Nat} {F : jF} (h : 1 ≤ p) : upd (onesP p F) p 1 = onesP (p + 1) F := by
  funext q
  show (if q = p then (1 : Int32) else onesP p F q) = onesP (p + 1) F q
  unfold onesP
  by_cases hq : q = p
  · rw [if_pos hq, if_pos (by omega)]
  · rw [if_neg hq]
    by_cases h2 : 1 ≤ q ∧ q < p
    · rw [if_pos h2, if_pos (by omega)]
    · rw [if_neg h2, if_neg (by omega)]
theorem onesP_1 {F : jF} : onesP 1 F = F := by
  funext q
  unfold onesP
  rw [if_neg (by omega)]
theorem onesP_al {al : Nat} {F : jF} : onesP (al + 1) F = ones al F := by
  funext q
  unfold onesP ones
  by_cases h : 1 ≤ q ∧ q ≤ al
  · rw [if_pos h, if_pos (by omega)]
  · rw [if_neg h, if_neg (by omega)]
def fdStep (F : jF) (s : Nat) : jF := if ¬ F s ≤ 1 ∨ hfB F (nI s) = true then upd F s (faV F s).toInt8.toInt32 else F
def fdR (F : jF) (m : Nat) : jF := jiter (fun t F => fdStep F (t + 1)) F m
theorem fdStep_a {F : jF} {s : Nat} (h : ¬ F s ≤ 1 ∨ hfB F (nI s) = true) : fdStep F s = upd F s (faV F s).toInt8.toInt32 := if_pos h
theorem fdStep_b {F : jF} {s : Nat} (h : F s ≤ 1) (h2 : ¬ hfB F (nI s) = true) : fdStep F s = F := if_neg (fun q => q.elim (fun z => z h) h2)
theorem mk_a {N : jF} {ra rb : Nat → Nat} {F : jF} {r : Nat} (h : darkN N (ra r) (rb r) 1023 = 0) : mkR N ra rb F (r + 1) = mkP N (ra r) (mkR N ra rb F r) (rb r + 1 - ra r) := if_pos h
theorem mk_b {N : jF} {ra rb : Nat → Nat} {F : jF} {r : Nat} (h : ¬ darkN N (ra r) (rb r) 1023 = 0) : mkR N ra rb F (r + 1) = mkR N ra rb F r := if_neg h
theorem full_k : ∀ k, k < 11 → (1 <<< (nI k &&& 31)) - 1 = nI (2 ^ k - 1) := by decide
theorem full_lt : ∀ k, k < 11 → 2 ^ k - 1 < 1024 := by decide
theorem full_min : ∀ k, k < 11 → jmin 1023 (nI (2 ^ k - 1)) = nI (2 ^ k - 1) := by decide
def lft (F : jF) (l : Nat) (t : Nat) : Nat := jiter (fun _ l => l ^^^ fsN F l) l t
theorem lft_lt {F : jF} {l : Nat} (h : l < 1024) : ∀ t, lft F l t < 1024 := by
  intro t
  induction t with
  | zero => exact h
  | succ t ih => exact xor_lt ih (fsN_lt ih)
/-- what fewestDays makes of the row of the days -/
def fdOut (need : Int32) (X : List (Nat × jF)) (k n : Nat) (ra rb : Nat → Nat) (F F2 : jF) (v : Int32) : Prop :=
  ∃ N : jF, (∀ q, q ≤ 200 → N q = lookN need X k q) ∧
    (((∃ i, i < k ∧ ¬ dF (mkR N ra rb (ones (2 ^ k - 1) F) n) (1 <<< (nI i &&& 31)) ≤ 1) ∧ v = -9 ∧ F2 = mkR N ra rb (ones (2 ^ k - 1) F) n) ∨
     ((∀ i, i < k → dF (mkR N ra rb (ones (2 ^ k - 1) F) n) (1 <<< (nI i &&& 31)) ≤ 1) ∧ F2 = fdR (mkR N ra rb (ones (2 ^ k - 1) F) n) (2 ^ k - 1) ∧ v = dF F2 (nI (2 ^ k - 1))))
set_option maxHeartbeats 1000000 in
set_option maxRecDepth 100000 in
theorem c_X3_markForbidden (g : jG) (d : Nat → Nat) (I : jF) (A : Nat → jF) (d2 : Nat → Nat) (I2 : jF) (A2 : Nat → jF) (r0 : Nat → Option Nat) (d3 : Nat → Nat) (A3 : Nat → jF) (n al : Nat) (ra rb : Nat → Nat) (x : Int32) (hx : x = nI al) (hal : al < 1024) (hn : I2 4 = nI n) (hn6 : n ≤ 6) (hr : rok A2 ra rb n) : Con g yX3_markForbidden cX3_markForbidden 8 none 2 46 0 0 [.ref (d 0), .ref (d2 0), .ref (d3 0), .int x] [pcc g d I A, bc g d2 I2 A2 r0, rc g d3 A3] (jR (none) [pcc g d I (va_up A 0 (mkR (A3 0) ra rb (ones al (A 0)) n)), bc g d2 I2 A2 r0, rc g d3 A3]) := by
  refine Con.of (own := RX3) (lv := [(0, .ref (d 0)), (1, .ref (d2 0)), (2, .ref (d3 0)), (3, .int x)]) (by decide) rfl (Nat.le_of_ble_eq_true rfl) rfl ?_
  intro E hC hQ hN
  refine j_iconst hC (1) dX3_markForbidden_0 (by decide) ?_
  refine j_istore hC dX3_markForbidden_1 rfl rfl rfl (fun v_1 e_1 => ?_)
  have L_3 : ∀ (fu : Nat) (p : Nat) (x4 : Int32) (hfu : al + 2 ≤ p + fu) (hp : p ≤ al + 1) (hp1 : 1 ≤ p) (h4 : x4 = nI p), J g (jRm 2 46 0 0) E 8 3 [(0, .ref (d 0)), (1, .ref (d2 0)), (2, .ref (d3 0)), (3, .int x), (4, .int x4)] [] [pcc g d I (va_up A 0 (onesP p (A 0))), bc g d2 I2 A2 r0, rc g d3 A3] (0) (0) := by
    intro fu
    induction fu with
    | zero => intro p x4 hfu hp hp1 h4; exact absurd hfu (by omega)
    | succ fu ih_3 =>
      intro p x4 hfu hp hp1 h4
      refine j_iload hC dX3_markForbidden_3 rfl ?_
      refine j_iload_n hC dX3_markForbidden_5 rfl rfl ?_
      refine j_icmp_gt hC dX3_markForbidden_6 (tgt := 31) (by decide) (fun c_6 => ?_) (fun c_6 => ?_)
      · skip
        have hp1 : p = al + 1 := by first | (have := jgt h4 (by omega) c_6; rw [hx, nI_toInt (by omega)] at this; omega) | exact absurd (jgt h4 (by omega) c_14) (by rw [show (1023 : Int32).toInt = 1023 by decide]; omega)
        refine j_iconst hC (0) dX3_markForbidden_31 (by decide) ?_
        refine j_istore hC dX3_markForbidden_32 rfl rfl rfl (fun v_32 e_32 => ?_)
        have L_34 : ∀ (fu : Nat) (r : Nat) (x4r : Int32) (hfu : n + 1 ≤ r + fu) (hrr : r ≤ n) (h4r : x4r = nI r), J g (jRm 2 46 0 0) E 8 34 [(0, .ref (d 0)), (1, .ref (d2 0)), (2, .ref (d3 0)), (4, .int x4r)] [] [pcc g d I (va_up A 0 (mkR (A3 0) ra rb (ones al (A 0)) r)), bc g d2 I2 A2 r0, rc g d3 A3] (0) (0) := by
          intro fu
          induction fu with
          | zero => intro r x4r hfu hrr h4r; exact absurd hfu (by omega)
          | succ fu ih_34 =>
            intro r x4r hfu hrr h4r
            refine j_iload hC dX3_markForbidden_34 rfl ?_
            refine j_aload_n hC dX3_markForbidden_36 rfl rfl ?_
            refine j_get hC uX0 1 0 4 rfl rfl k56 rfl dX3_markForbidden_37 ?_
            refine j_icmp_ge hC dX3_markForbidden_40 (tgt := 106) (by decide) (fun c_40 => ?_) (fun c_40 => ?_)
            · skip
              have hrn : r = n := Nat.le_antisymm hrr (jge hn h4r (by omega) (by omega) c_40)
              refine j_vret hC hQ rfl (Nat.le_of_ble_eq_true rfl) (Nat.le_of_ble_eq_true rfl) dX3_markForbidden_106 rfl ⟨?_, ?_⟩
              · rfl
              · (rw [hrn])
            · skip
              have hrn : r < n := jlt hn h4r (by omega) (by omega) c_40
              obtain ⟨hr1, hr2, hr3, hr4⟩ := hr r hrn
              refine j_aload_n hC dX3_markForbidden_43 rfl rfl ?_
              refine j_iload hC dX3_markForbidden_44 rfl ?_
              refine j_callVR hC [1] (c_X0_firstPlace g _ _ _ _ _) mX0_firstPlace k444 rfl rfl rfl rfl rfl ⟨(Nat.le_of_ble_eq_true rfl), (Nat.le_of_ble_eq_true rfl)⟩ (Nat.le_of_ble_eq_true rfl) ⟨(Nat.le_of_ble_eq_true rfl), (Nat.le_of_ble_eq_true rfl)⟩ dX3_markForbidden_46 ?_
              dsimp only [jrepl, List.set, jstk]
              refine j_istore hC dX3_markForbidden_49 rfl rfl rfl (fun v_49 e_49 => ?_)
              refine j_aload_n hC dX3_markForbidden_51 rfl rfl ?_
              refine j_iload hC dX3_markForbidden_52 rfl ?_
              refine j_callVR hC [1] (c_X0_lastPlace g _ _ _ _ _) mX0_lastPlace k445 rfl rfl rfl rfl rfl ⟨(Nat.le_of_ble_eq_true rfl), (Nat.le_of_ble_eq_true rfl)⟩ (Nat.le_of_ble_eq_true rfl) ⟨(Nat.le_of_ble_eq_true rfl), (Nat.le_of_ble_eq_true rfl)⟩ dX3_markForbidden_54 ?_
              dsimp only [jrepl, List.set, jstk]
              refine j_istore hC dX3_markForbidden_57 rfl rfl rfl (fun v_57 e_57 => ?_)
              have e49 : v_49 = nI (ra r) := by rw [e_49, firstP_nat hn hn6 hrn h4r, hr1]
              have e57 : v_57 = nI (rb r) := by rw [e_57, lastP_nat hn hn6 hrn h4r, hr2]
              refine j_aload_n hC dX3_markForbidden_59 rfl rfl ?_
              refine j_iload hC dX3_markForbidden_60 rfl ?_
              refine j_iload hC dX3_markForbidden_62 rfl ?_
              refine j_sipush hC (1023) dX3_markForbidden_64 (by decide) ?_
              refine j_callVR hC [2] (c_X4_dark g _ _ (ra r) (rb r) _ _ _ e49 e57 hr3 hr4) mX4_dark k446 rfl rfl rfl rfl rfl ⟨(Nat.le_of_ble_eq_true rfl), (Nat.le_of_ble_eq_true rfl)⟩ (Nat.le_of_ble_eq_true rfl) ⟨(Nat.le_of_ble_eq_true rfl), (Nat.le_of_ble_eq_true rfl)⟩ dX3_markForbidden_67 ?_
              dsimp only [jrepl, List.set, jstk]
              refine j_if_ne hC dX3_markForbidden_70 (tgt := 100) (by decide) (fun c_70 => ?_) (fun c_70 => ?_)
              · skip
                try have hfin : mkR (A3 0) ra rb (ones al (A 0)) (r + 1) = mkP (A3 0) (ra r) (mkR (A3 0) ra rb (ones al (A 0)) r) t := by have q := jgt h7 (by omega) c_81; rw [e57, nI_toInt (by omega)] at q; rw [mk_a c_70, show rb r + 1 - ra r = t by omega]
                refine j_iinc hC (1) dX3_markForbidden_100 rfl rfl rfl rfl rfl (fun v_100 e_100 => ?_)
                refine j_goto hC dX3_markForbidden_103 (tgt := 34) (by decide) ?_
                refine j_pick [0, 1, 2, 4] ?_
                first | rw [← mk_b c_70] | rw [← hfin]
                exact ih_34 (r + 1) _ (by omega) (by omega) (jsucc e_100 h4r)
              · skip
                refine j_iload hC dX3_markForbidden_73 rfl ?_
                refine j_istore hC dX3_markForbidden_75 rfl rfl rfl (fun v_75 e_75 => ?_)
                have L_77 : ∀ (fu : Nat) (t : Nat) (x7 : Int32) (hfu : rb r + 2 ≤ ra r + t + fu) (ht : ra r + t ≤ rb r + 1) (h7 : x7 = nI (ra r + t)), J g (jRm 2 46 0 0) E 8 77 [(0, .ref (d 0)), (1, .ref (d2 0)), (2, .ref (d3 0)), (4, .int x4r), (6, .int v_57), (7, .int x7)] [] [pcc g d I (va_up A 0 (mkP (A3 0) (ra r) (mkR (A3 0) ra rb (ones al (A 0)) r) t)), bc g d2 I2 A2 r0, rc g d3 A3] (0) (0) := by
                  intro fu
                  induction fu with
                  | zero => intro t x7 hfu ht h7; exact absurd hfu (by omega)
                  | succ fu ih_77 =>
                    intro t x7 hfu ht h7
                    refine j_iload hC dX3_markForbidden_77 rfl ?_
                    refine j_iload hC dX3_markForbidden_79 rfl ?_
                    refine j_icmp_gt hC dX3_markForbidden_81 (tgt := 100) (by decide) (fun c_81 => ?_) (fun c_81 => ?_)
                    · skip
                      try have hfin : mkR (A3 0) ra rb (ones al (A 0)) (r + 1) = mkP (A3 0) (ra r) (mkR (A3 0) ra rb (ones al (A 0)) r) t := by have q := jgt h7 (by omega) c_81; rw [e57, nI_toInt (by omega)] at q; rw [mk_a c_70, show rb r + 1 - ra r = t by omega]
                      refine j_iinc hC (1) dX3_markForbidden_100 rfl rfl rfl rfl rfl (fun v_100 e_100 => ?_)
                      refine j_goto hC dX3_markForbidden_103 (tgt := 34) (by decide) ?_
                      refine j_pick [0, 1, 2, 4] ?_
                      first | rw [← mk_b c_70] | rw [← hfin]
                      exact ih_34 (r + 1) _ (by omega) (by omega) (jsucc e_100 h4r)
                    · skip
                      have hpq := jngt h7 (by omega) c_81
                      rw [e57, nI_toInt (by omega)] at hpq
                      refine j_aload_n hC dX3_markForbidden_84 rfl rfl ?_
                      refine j_aload_n hC dX3_markForbidden_85 rfl rfl ?_
                      refine j_iload hC dX3_markForbidden_86 rfl ?_
                      refine j_callVR hC [2] (c_X4_nearTo g _ _ _) mX4_nearTo k447 rfl rfl rfl rfl rfl ⟨(Nat.le_of_ble_eq_true rfl), (Nat.le_of_ble_eq_true rfl)⟩ (Nat.le_of_ble_eq_true rfl) ⟨(Nat.le_of_ble_eq_true rfl), (Nat.le_of_ble_eq_true rfl)⟩ dX3_markForbidden_88 ?_
                      dsimp only [jrepl, List.set, jstk]
                      refine j_callVR hC [0] (c_X3_forbid g _ _ _ _) mX3_forbid k448 rfl rfl rfl rfl rfl ⟨(Nat.le_of_ble_eq_true rfl), (Nat.le_of_ble_eq_true rfl)⟩ (Nat.le_of_ble_eq_true rfl) ⟨(Nat.le_of_ble_eq_true rfl), (Nat.le_of_ble_eq_true rfl)⟩ dX3_markForbidden_91 ?_
                      dsimp only [jrepl, List.set, jstk]
                      refine j_iinc hC (1) dX3_markForbidden_94 rfl rfl rfl rfl rfl (fun v_94 e_94 => ?_)
                      refine j_goto hC dX3_markForbidden_97 (tgt := 77) (by decide) ?_
                      refine j_pick [0, 1, 2, 4, 6, 7] ?_
                      rw [va_up_up, va_up_at, h7]
                      exact ih_77 (t + 1) _ (by omega) (by omega) (jsucc e_94 h7)
                refine j_pick [0, 1, 2, 4, 6, 7] ?_
                exact L_77 (rb r + 2) 0 _ (by omega) (by omega) (e_75.trans e49)
        refine j_pick [0, 1, 2, 4] ?_
        rw [hp1, onesP_al]
        exact L_34 (n + 1) 0 _ (by omega) (by omega) (e_32.trans nI_0.symm)
      · skip
        have hpal := jngt h4 (by omega) c_6
        rw [hx, nI_toInt (by omega)] at hpal
        have hvp : vp_in x4 1024 := by rw [h4]; exact vp_in_nI (by omega) (by decide)
        refine j_iload hC dX3_markForbidden_9 rfl ?_
        refine j_sipush hC (1023) dX3_markForbidden_11 (by decide) ?_
        refine j_icmp_gt hC dX3_markForbidden_14 (tgt := 31) (by decide) (fun c_14 => ?_) (fun c_14 => ?_)
        · exact absurd (jgt h4 (by omega) c_14) (by rw [show (1023 : Int32).toInt = 1023 by decide]; omega)
        · skip
          refine j_aload_n hC dX3_markForbidden_17 rfl rfl ?_
          refine j_get hC uX3 0 0 0 rfl rfl k128 rfl dX3_markForbidden_18 ?_
          refine j_iload hC dX3_markForbidden_21 rfl ?_
          refine j_iconst hC (1) dX3_markForbidden_23 (by decide) ?_
          refine j_ast_3_0 (bi := 0) hC rfl hvp dX3_markForbidden_24 ?_
          dsimp only [List.set]
          refine j_iinc hC (1) dX3_markForbidden_25 rfl rfl rfl rfl rfl (fun v_25 e_25 => ?_)
          refine j_goto hC dX3_markForbidden_28 (tgt := 3) (by decide) ?_
          refine j_pick [0, 1, 2, 3, 4] ?_
          rw [h4, nI_cl (j := p) (by omega), va_up_up, show vp_nar .byte 1 = 1 from rfl, va_up_at, onesP_step hp1]
          exact ih_3 (p + 1) _ (by omega) (by omega) (by omega) (jsucc e_25 h4)
  refine j_pick [0, 1, 2, 3, 4] ?_
  rw [show pcc g d I A = pcc g d I (va_up A 0 (onesP 1 (A 0))) by rw [onesP_1, va_up_same rfl]]
  exact L_3 (al + 2) 1 _ (by omega) (by omega) (by omega) e_1
set_option maxHeartbeats 1000000 in
set_option maxRecDepth 100000 in
theorem c_X3_fewestDays (g : jG) (d : Nat → Nat) (I : jF) (A : Nat → jF) (d2 : Nat → Nat) (I2 : jF) (A2 : Nat → jF) (X : List (Nat × jF)) (d3 : Nat → Nat) (A3 : Nat → jF) (k n : Nat) (ra rb : Nat → Nat) (h : bok I2 X k) (hn : I2 4 = nI n) (hn6 : n ≤ 6) (hr : rok A2 ra rb n) : Con g yX3_fewestDays cX3_fewestDays 5 (some .int) 3 73 0 0 [.ref (d 0), .ref (d2 0), .ref (d3 0)] [pcc g d I A, bc g d2 I2 A2 (lrf X), lts X, rc g d3 A3] (fun r b1 => ∃ (v : Int32) (F2 : jF) (A4 : Nat → jF), r = some (.int v) ∧ b1 = [pcc g d I (va_up A 0 F2), bc g d2 I2 A2 (lrf X), lts X, rc g d3 A4] ∧ fdOut (I2 5) X k n ra rb (A 0) F2 v) := by
  refine Con.of (own := RX3) (lv := [(0, .ref (d 0)), (1, .ref (d2 0)), (2, .ref (d3 0))]) (by decide) rfl (Nat.le_of_ble_eq_true rfl) rfl ?_
  intro E hC hQ hN
  obtain ⟨hk1, hk2, hk3⟩ := id h
  have hfl := full_lt k (by omega)
  have hp2 : 0 < 2 ^ k := Nat.two_pow_pos k
  refine j_sipush hC (1023) dX3_fewestDays_0 (by decide) ?_
  refine j_iconst hC (1) dX3_fewestDays_3 (by decide) ?_
  refine j_aload_n hC dX3_fewestDays_4 rfl rfl ?_
  refine j_get hC uX0 1 0 1 rfl rfl k51 rfl dX3_fewestDays_5 ?_
  refine j_ishl hC dX3_fewestDays_8 ?_
  refine j_iconst hC (1) dX3_fewestDays_9 (by decide) ?_
  refine j_isub hC dX3_fewestDays_10 ?_
  refine j_min hC k438 k186 k12 k187 (Nat.le_of_ble_eq_true rfl) (Nat.le_of_ble_eq_true rfl) (Nat.le_of_ble_eq_true rfl) (Nat.le_of_ble_eq_true rfl) dX3_fewestDays_11 ?_
  refine j_istore_n hC dX3_fewestDays_14 rfl rfl rfl rfl (fun v_14 e_14 => ?_)
  refine j_aload_n hC dX3_fewestDays_15 rfl rfl ?_
  refine j_aload_n hC dX3_fewestDays_16 rfl rfl ?_
  refine j_callV hC [3, 1, 2] (c_X4_look g _ _ _ _ _ _ _ h) mX4_look k439 rfl rfl rfl rfl rfl ⟨(Nat.le_of_ble_eq_true rfl), (Nat.le_of_ble_eq_true rfl)⟩ (Nat.le_of_ble_eq_true rfl) ⟨(Nat.le_of_ble_eq_true rfl), (Nat.le_of_ble_eq_true rfl)⟩ dX3_fewestDays_17 (fun r_17 b_17 hp_17 _ => ?_)
  obtain ⟨rfl, A4, rfl, hA1, hN⟩ := hp_17
  dsimp only [jrepl, List.set, jstk]
  refine j_aload_n hC dX3_fewestDays_20 rfl rfl ?_
  refine j_aload_n hC dX3_fewestDays_21 rfl rfl ?_
  refine j_aload_n hC dX3_fewestDays_22 rfl rfl ?_
  refine j_iload_n hC dX3_fewestDays_23 rfl rfl ?_
  have e14 : v_14 = nI (2 ^ k - 1) := by rw [e_14, hk1, full_k k (by omega)]; exact full_min k (by omega)
  refine j_callVR hC [0, 1, 3] (c_X3_markForbidden g _ _ _ _ _ _ _ _ _ n (2 ^ k - 1) ra rb _ e14 hfl hn hn6 hr) mX3_markForbidden k440 rfl rfl rfl rfl rfl ⟨(Nat.le_of_ble_eq_true rfl), (Nat.le_of_ble_eq_true rfl)⟩ (Nat.le_of_ble_eq_true rfl) ⟨(Nat.le_of_ble_eq_true rfl), (Nat.le_of_ble_eq_true rfl)⟩ dX3_fewestDays_24 ?_
  dsimp only [jrepl, List.set, jstk]
  refine j_iconst hC (0) dX3_fewestDays_27 (by decide) ?_
  refine j_istore hC dX3_fewestDays_28 rfl rfl rfl (fun v_28 e_28 => ?_)
  have e14 : v_14 = nI (2 ^ k - 1) := by rw [e_14, hk1, full_k k (by omega)]; exact full_min k (by omega)
  have L_30 : ∀ (fu : Nat) (i : Nat) (x4i : Int32) (hfu : k + 1 ≤ i + fu) (hi : i ≤ k) (h4i : x4i = nI i) (hone : ∀ j, j < i → dF (mkR (A4 0) ra rb (ones (2 ^ k - 1) (A 0)) n) (1 <<< (nI j &&& 31)) ≤ 1), J g (jRm 3 73 0 0) E 5 30 [(0, .ref (d 0)), (1, .ref (d2 0)), (3, .int v_14), (4, .int x4i)] [] [pcc g d I (va_up A 0 (mkR (A4 0) ra rb (ones (2 ^ k - 1) (A 0)) n)), bc g d2 I2 A2 (lrf X), lts X, rc g d3 A4] (0) (0) := by
    intro fu
    induction fu with
    | zero => intro i x4i hfu hi h4i hone; exact absurd hfu (by omega)
    | succ fu ih_30 =>
      intro i x4i hfu hi h4i hone
      refine j_iload hC dX3_fewestDays_30 rfl ?_
      refine j_aload_n hC dX3_fewestDays_32 rfl rfl ?_
      refine j_get hC uX0 1 0 1 rfl rfl k51 rfl dX3_fewestDays_33 ?_
      refine j_icmp_ge hC dX3_fewestDays_36 (tgt := 60) (by decide) (fun c_36 => ?_) (fun c_36 => ?_)
      · skip
        have hik : i = k := Nat.le_antisymm hi (jge hk1 h4i (by omega) (by omega) c_36)
        rw [hik] at hone
        refine j_iconst hC (1) dX3_fewestDays_60 (by decide) ?_
        refine j_istore hC dX3_fewestDays_61 rfl rfl rfl (fun v_61 e_61 => ?_)
        have L_63 : ∀ (fu : Nat) (s : Nat) (x4s : Int32) (hfu : 2 ^ k + 1 ≤ s + fu) (hs : s ≤ 2 ^ k - 1) (h4s : x4s = nI (s + 1)), J g (jRm 3 73 0 0) E 5 63 [(0, .ref (d 0)), (3, .int v_14), (4, .int x4s)] [] [pcc g d I (va_up A 0 (fdR (mkR (A4 0) ra rb (ones (2 ^ k - 1) (A 0)) n) s)), bc g d2 I2 A2 (lrf X), lts X, rc g d3 A4] (0) (0) := by
          intro fu
          induction fu with
          | zero => intro s x4s hfu hs h4s; exact absurd hfu (by omega)
          | succ fu ih_63 =>
            intro s x4s hfu hs h4s
            refine j_iload hC dX3_fewestDays_63 rfl ?_
            refine j_iload_n hC dX3_fewestDays_65 rfl rfl ?_
            refine j_icmp_gt hC dX3_fewestDays_66 (tgt := 109) (by decide) (fun c_66 => ?_) (fun c_66 => ?_)
            · skip
              have hs1 : s = 2 ^ k - 1 := by have := jgt h4s (by omega) c_66; rw [e14, nI_toInt (by omega)] at this; omega
              refine j_aload_n hC dX3_fewestDays_109 rfl rfl ?_
              refine j_iload_n hC dX3_fewestDays_110 rfl rfl ?_
              refine j_callVR hC [0] (c_X3_daysFor g _ _ _ _) mX3_daysFor k452 rfl rfl rfl rfl rfl ⟨(Nat.le_of_ble_eq_true rfl), (Nat.le_of_ble_eq_true rfl)⟩ (Nat.le_of_ble_eq_true rfl) ⟨(Nat.le_of_ble_eq_true rfl), (Nat.le_of_ble_eq_true rfl)⟩ dX3_fewestDays_111 ?_
              dsimp only [jrepl, List.set, jstk]
              refine j_iret hC hQ rfl rfl (Nat.le_of_ble_eq_true rfl) (Nat.le_of_ble_eq_true rfl) dX3_fewestDays_114 rfl ?_
              first | exact ⟨-9, _, A4, rfl, rfl, A4 0, hN, Or.inl ⟨⟨i, hik, by rw [h4i] at c_48; exact c_48⟩, rfl, rfl⟩⟩ | exact ⟨_, _, A4, rfl, rfl, A4 0, hN, Or.inr ⟨hone, by rw [hs1], by rw [va_up_at, e14]⟩⟩
            · skip
              have hsl := jngt h4s (by omega) c_66
              rw [e14, nI_toInt (by omega)] at hsl
              have hvs : vp_in x4s 1024 := by rw [h4s]; exact vp_in_nI (by omega) (by decide)
              refine j_aload_n hC dX3_fewestDays_69 rfl rfl ?_
              refine j_get hC uX3 0 0 0 rfl rfl k128 rfl dX3_fewestDays_70 ?_
              refine j_iload hC dX3_fewestDays_73 rfl ?_
              refine j_bald hC 0 1 rfl hvs dX3_fewestDays_75 ?_
              refine j_iconst hC (1) dX3_fewestDays_76 (by decide) ?_
              refine j_icmp_gt hC dX3_fewestDays_77 (tgt := 89) (by decide) (fun c_77 => ?_) (fun c_77 => ?_)
              · skip
                refine j_aload_n hC dX3_fewestDays_89 rfl rfl ?_
                refine j_get hC uX3 0 0 0 rfl rfl k128 rfl dX3_fewestDays_90 ?_
                refine j_iload hC dX3_fewestDays_93 rfl ?_
                refine j_aload_n hC dX3_fewestDays_95 rfl rfl ?_
                refine j_iload hC dX3_fewestDays_96 rfl ?_
                refine j_callVR hC [0] (c_X3_fewestApart g _ _ _ (s + 1) _ h4s (by omega)) mX3_fewestApart k460 rfl rfl rfl rfl rfl ⟨(Nat.le_of_ble_eq_true rfl), (Nat.le_of_ble_eq_true rfl)⟩ (Nat.le_of_ble_eq_true rfl) ⟨(Nat.le_of_ble_eq_true rfl), (Nat.le_of_ble_eq_true rfl)⟩ dX3_fewestDays_98 ?_
                dsimp only [jrepl, List.set, jstk]
                refine j_i2b hC dX3_fewestDays_101 ?_
                refine j_ast_3_0 (bi := 0) hC rfl hvs dX3_fewestDays_102 ?_
                dsimp only [List.set]
                refine j_iinc hC (1) dX3_fewestDays_103 rfl rfl rfl rfl rfl (fun v_103 e_103 => ?_)
                refine j_goto hC dX3_fewestDays_106 (tgt := 63) (by decide) ?_
                refine j_pick [0, 3, 4] ?_
                have hsp : 2 ^ k - 1 < 1024 := hfl
                first | (rw [va_up_up, h4s, nI_cl (j := s + 1) (by omega), va_up_at, vp_nar_byte, jbyte2] ; rw [show upd (fdR (mkR (A4 0) ra rb (ones (2 ^ k - 1) (A 0)) n) s) (s + 1) _ = fdR (mkR (A4 0) ra rb (ones (2 ^ k - 1) (A 0)) n) (s + 1) from (fdStep_a (by first | (refine Or.inl ?_; have q := c_77; rw [h4s, nI_cl (by omega)] at q; exact Int32.not_le.mpr q) | (refine Or.inr ?_; have q := c_86; rw [h4s] at q; exact jb1 q))).symm]) | (rw [show fdR (mkR (A4 0) ra rb (ones (2 ^ k - 1) (A 0)) n) s = fdR (mkR (A4 0) ra rb (ones (2 ^ k - 1) (A 0)) n) (s + 1) from (fdStep_b (by have q := c_77; rw [h4s, nI_cl (by omega)] at q; exact Int32.not_lt.mp q) (by have q := c_86; rw [h4s] at q; exact jb0 q)).symm])
                exact ih_63 (s + 1) _ (by omega) (by omega) (jsucc e_103 h4s)
              · skip
                refine j_aload_n hC dX3_fewestDays_80 rfl rfl ?_
                refine j_iload hC dX3_fewestDays_81 rfl ?_
                refine j_callVR hC [0] (c_X3_holdsForbidden g _ _ _ _) mX3_holdsForbidden k456 rfl rfl rfl rfl rfl ⟨(Nat.le_of_ble_eq_true rfl), (Nat.le_of_ble_eq_true rfl)⟩ (Nat.le_of_ble_eq_true rfl) ⟨(Nat.le_of_ble_eq_true rfl), (Nat.le_of_ble_eq_true rfl)⟩ dX3_fewestDays_83 ?_
                dsimp only [jrepl, List.set, jstk]
                refine j_if_eq hC dX3_fewestDays_86 (tgt := 103) (by decide) (fun c_86 => ?_) (fun c_86 => ?_)
                · skip
                  refine j_iinc hC (1) dX3_fewestDays_103 rfl rfl rfl rfl rfl (fun v_103 e_103 => ?_)
                  refine j_goto hC dX3_fewestDays_106 (tgt := 63) (by decide) ?_
                  refine j_pick [0, 3, 4] ?_
                  have hsp : 2 ^ k - 1 < 1024 := hfl
                  first | (rw [va_up_up, h4s, nI_cl (j := s + 1) (by omega), va_up_at, vp_nar_byte, jbyte2] ; rw [show upd (fdR (mkR (A4 0) ra rb (ones (2 ^ k - 1) (A 0)) n) s) (s + 1) _ = fdR (mkR (A4 0) ra rb (ones (2 ^ k - 1) (A 0)) n) (s + 1) from (fdStep_a (by first | (refine Or.inl ?_; have q := c_77; rw [h4s, nI_cl (by omega)] at q; exact Int32.not_le.mpr q) | (refine Or.inr ?_; have q := c_86; rw [h4s] at q; exact jb1 q))).symm]) | (rw [show fdR (mkR (A4 0) ra rb (ones (2 ^ k - 1) (A 0)) n) s = fdR (mkR (A4 0) ra rb (ones (2 ^ k - 1) (A 0)) n) (s + 1) from (fdStep_b (by have q := c_77; rw [h4s, nI_cl (by omega)] at q; exact Int32.not_lt.mp q) (by have q := c_86; rw [h4s] at q; exact jb0 q)).symm])
                  exact ih_63 (s + 1) _ (by omega) (by omega) (jsucc e_103 h4s)
                · skip
                  refine j_aload_n hC dX3_fewestDays_89 rfl rfl ?_
                  refine j_get hC uX3 0 0 0 rfl rfl k128 rfl dX3_fewestDays_90 ?_
                  refine j_iload hC dX3_fewestDays_93 rfl ?_
                  refine j_aload_n hC dX3_fewestDays_95 rfl rfl ?_
                  refine j_iload hC dX3_fewestDays_96 rfl ?_
                  refine j_callVR hC [0] (c_X3_fewestApart g _ _ _ (s + 1) _ h4s (by omega)) mX3_fewestApart k460 rfl rfl rfl rfl rfl ⟨(Nat.le_of_ble_eq_true rfl), (Nat.le_of_ble_eq_true rfl)⟩ (Nat.le_of_ble_eq_true rfl) ⟨(Nat.le_of_ble_eq_true rfl), (Nat.le_of_ble_eq_true rfl)⟩ dX3_fewestDays_98 ?_
                  dsimp only [jrepl, List.set, jstk]
                  refine j_i2b hC dX3_fewestDays_101 ?_
                  refine j_ast_3_0 (bi := 0) hC rfl hvs dX3_fewestDays_102 ?_
                  dsimp only [List.set]
                  refine j_iinc hC (1) dX3_fewestDays_103 rfl rfl rfl rfl rfl (fun v_103 e_103 => ?_)
                  refine j_goto hC dX3_fewestDays_106 (tgt := 63) (by decide) ?_
                  refine j_pick [0, 3, 4] ?_
                  have hsp : 2 ^ k - 1 < 1024 := hfl
                  first | (rw [va_up_up, h4s, nI_cl (j := s + 1) (by omega), va_up_at, vp_nar_byte, jbyte2] ; rw [show upd (fdR (mkR (A4 0) ra rb (ones (2 ^ k - 1) (A 0)) n) s) (s + 1) _ = fdR (mkR (A4 0) ra rb (ones (2 ^ k - 1) (A 0)) n) (s + 1) from (fdStep_a (by first | (refine Or.inl ?_; have q := c_77; rw [h4s, nI_cl (by omega)] at q; exact Int32.not_le.mpr q) | (refine Or.inr ?_; have q := c_86; rw [h4s] at q; exact jb1 q))).symm]) | (rw [show fdR (mkR (A4 0) ra rb (ones (2 ^ k - 1) (A 0)) n) s = fdR (mkR (A4 0) ra rb (ones (2 ^ k - 1) (A 0)) n) (s + 1) from (fdStep_b (by have q := c_77; rw [h4s, nI_cl (by omega)] at q; exact Int32.not_lt.mp q) (by have q := c_86; rw [h4s] at q; exact jb0 q)).symm])
                  exact ih_63 (s + 1) _ (by omega) (by omega) (jsucc e_103 h4s)
        refine j_pick [0, 3, 4] ?_
        exact L_63 (2 ^ k + 1) 0 _ (by omega) (by omega) e_61
      · skip
        have hik : i < k := jlt hk1 h4i (by omega) (by omega) c_36
        refine j_aload_n hC dX3_fewestDays_39 rfl rfl ?_
        refine j_iconst hC (1) dX3_fewestDays_40 (by decide) ?_
        refine j_iload hC dX3_fewestDays_41 rfl ?_
        refine j_ishl hC dX3_fewestDays_43 ?_
        refine j_callVR hC [0] (c_X3_daysFor g _ _ _ _) mX3_daysFor k452 rfl rfl rfl rfl rfl ⟨(Nat.le_of_ble_eq_true rfl), (Nat.le_of_ble_eq_true rfl)⟩ (Nat.le_of_ble_eq_true rfl) ⟨(Nat.le_of_ble_eq_true rfl), (Nat.le_of_ble_eq_true rfl)⟩ dX3_fewestDays_44 ?_
        dsimp only [jrepl, List.set, jstk]
        refine j_iconst hC (1) dX3_fewestDays_47 (by decide) ?_
        refine j_icmp_le hC dX3_fewestDays_48 (tgt := 54) (by decide) (fun c_48 => ?_) (fun c_48 => ?_)
        · skip
          refine j_iinc hC (1) dX3_fewestDays_54 rfl rfl rfl rfl rfl (fun v_54 e_54 => ?_)
          refine j_goto hC dX3_fewestDays_57 (tgt := 30) (by decide) ?_
          have e14 : v_14 = nI (2 ^ k - 1) := by rw [e_14, hk1, full_k k (by omega)]; exact full_min k (by omega)
          refine j_pick [0, 1, 3, 4] ?_
          exact ih_30 (i + 1) _ (by omega) (by omega) (jsucc e_54 h4i) (fun j hj => (Nat.lt_or_ge j i).elim (fun q => hone j q) (fun q => by have e : j = i := (by omega); rw [e, ← h4i]; exact c_48))
        · skip
          refine j_bipush hC (-9) dX3_fewestDays_51 (by decide) ?_
          refine j_iret hC hQ rfl rfl (Nat.le_of_ble_eq_true rfl) (Nat.le_of_ble_eq_true rfl) dX3_fewestDays_53 rfl ?_
          first | exact ⟨-9, _, A4, rfl, rfl, A4 0, hN, Or.inl ⟨⟨i, hik, by rw [h4i] at c_48; exact c_48⟩, rfl, rfl⟩⟩ | exact ⟨_, _, A4, rfl, rfl, A4 0, hN, Or.inr ⟨hone, by rw [hs1], by rw [va_up_at, e14]⟩⟩
  refine j_pick [0, 1, 3, 4] ?_
  exact L_30 (k + 1) 0 _ (by omega) (by omega) (e_28.trans nI_0.symm) (fun j hj => absurd hj (by omega))
theorem folStep {A1 : Nat → jF} {G : Nat → Int32} {t : Nat} (h : ∀ u, u < t → A1 1 u = G u) : ∀ u, u < t + 1 → va_up A1 1 (upd (A1 1) t (G t)) 1 u = G u := by
  intro u hu
  show (if u = t then G t else A1 1 u) = _
  by_cases q : u = t
  · rw [if_pos q, q]
  · rw [if_neg q]; exact h u (by omega)
set_option maxHeartbeats 1000000 in
set_option maxRecDepth 100000 in
theorem c_X3_follow (g : jG) (d : Nat → Nat) (I : jF) (A : Nat → jF) (d2 : Nat → Nat) (I2 : jF) (A2 : Nat → jF) (X : List (Nat × jF)) (d3 : Nat → Nat) (A3 : Nat → jF) (k n : Nat) (ra rb : Nat → Nat) (h : bok I2 X k) (hn : I2 4 = nI n) (hn6 : n ≤ 6) (hr : rok A2 ra rb n) : Con g yX3_follow cX3_follow 5 none 4 97 0 0 [.ref (d 0), .ref (d2 0), .ref (d3 0)] [pcc g d I A, bc g d2 I2 A2 (lrf X), lts X, rc g d3 A3] (fun r b1 => r = none ∧ ((¬ I 3 = 0 ∧ b1 = [pcc g d I A, bc g d2 I2 A2 (lrf X), lts X, rc g d3 A3]) ∨ (I 3 = 0 ∧ ∃ (v : Int32) (F2 : jF) (A1 A4 : Nat → jF), b1 = [pcc g d (upd (upd I 2 v) 3 1) A1, bc g d2 I2 A2 (lrf X), lts X, rc g d3 A4] ∧ A1 0 = F2 ∧ fdOut (I2 5) X k n ra rb (A 0) F2 v ∧ ∀ t : Nat, t < 10 → (t : Int) < v.toInt → A1 1 t = nI (fsN F2 (lft F2 (2 ^ k - 1) t))))) := by
  refine Con.of (own := RX3) (lv := [(0, .ref (d 0)), (1, .ref (d2 0)), (2, .ref (d3 0))]) (by decide) rfl (Nat.le_of_ble_eq_true rfl) rfl ?_
  intro E hC hQ hN
  obtain ⟨hk1, hk2, hk3⟩ := id h
  have hfl := full_lt k (by omega)
  refine j_aload_n hC dX3_follow_0 rfl rfl ?_
  refine j_get hC uX3 0 0 3 rfl rfl k132 rfl dX3_follow_1 ?_
  refine j_if_eq hC dX3_follow_4 (tgt := 8) (by decide) (fun c_4 => ?_) (fun c_4 => ?_)
  · skip
    refine j_aload_n hC dX3_follow_8 rfl rfl ?_
    refine j_aload_n hC dX3_follow_9 rfl rfl ?_
    refine j_aload_n hC dX3_follow_10 rfl rfl ?_
    refine j_aload_n hC dX3_follow_11 rfl rfl ?_
    refine j_callV hC [0, 1, 2, 3] (c_X3_fewestDays g _ _ _ _ _ _ _ _ _ _ _ _ _ h hn hn6 hr) mX3_fewestDays k434 rfl rfl rfl rfl rfl ⟨(Nat.le_of_ble_eq_true rfl), (Nat.le_of_ble_eq_true rfl)⟩ (Nat.le_of_ble_eq_true rfl) ⟨(Nat.le_of_ble_eq_true rfl), (Nat.le_of_ble_eq_true rfl)⟩ dX3_follow_12 (fun r_12 b_12 hp_12 _ => ?_)
    obtain ⟨v, F2, A4, rfl, rfl, hF⟩ := hp_12
    dsimp only [jrepl, List.set, jstk]
    refine j_put_3_2 (bi := 0) hC rfl k130 dX3_follow_15 ?_
    dsimp only [List.set]
    refine j_iconst hC (1) dX3_follow_18 (by decide) ?_
    refine j_aload_n hC dX3_follow_19 rfl rfl ?_
    refine j_get hC uX0 1 0 1 rfl rfl k51 rfl dX3_follow_20 ?_
    refine j_ishl hC dX3_follow_23 ?_
    refine j_iconst hC (1) dX3_follow_24 (by decide) ?_
    refine j_isub hC dX3_follow_25 ?_
    refine j_istore_n hC dX3_follow_26 rfl rfl rfl rfl (fun v_26 e_26 => ?_)
    refine j_iconst hC (0) dX3_follow_27 (by decide) ?_
    refine j_istore hC dX3_follow_28 rfl rfl rfl (fun v_28 e_28 => ?_)
    have L_30 : ∀ (fu : Nat) (t : Nat) (x3 x4 : Int32) (A1 : Nat → jF) (hfu : 11 ≤ t + fu) (ht : t ≤ 10) (h4 : x4 = nI t) (h3 : x3 = nI (lft F2 (2 ^ k - 1) t)) (hA10 : A1 0 = F2) (hset : ∀ u, u < t → A1 1 u = nI (fsN F2 (lft F2 (2 ^ k - 1) u))), J g (jRm 4 97 0 0) E 5 30 [(0, .ref (d 0)), (3, .int x3), (4, .int x4)] [] [pcc g d (upd I 2 v) A1, bc g d2 I2 A2 (lrf X), lts X, rc g d3 A4] (0) (0) := by
      intro fu
      induction fu with
      | zero => intro t x3 x4 A1 hfu ht h4 h3 hA10 hset; exact absurd hfu (by omega)
      | succ fu ih_30 =>
        intro t x3 x4 A1 hfu ht h4 h3 hA10 hset
        refine j_iload hC dX3_follow_30 rfl ?_
        refine j_aload_n hC dX3_follow_32 rfl rfl ?_
        refine j_get hC uX3 0 0 2 rfl rfl k130 rfl dX3_follow_33 ?_
        refine j_icmp_ge hC dX3_follow_36 (tgt := 74) (by decide) (fun c_36 => ?_) (fun c_36 => ?_)
        · skip
          have hend : ∀ u : Nat, u < 10 → (u : Int) < v.toInt → u < t := by
            intro u hu1 hu2
            first | (have q : v ≤ x4 := c_36; rw [Int32.le_iff_toInt_le, h4, nI_toInt (by omega)] at q; omega) | (have q := jge (show (10 : Int32) = nI 10 from rfl) h4 (by omega) (by omega) c_43; omega)
          refine j_aload_n hC dX3_follow_74 rfl rfl ?_
          refine j_iconst hC (1) dX3_follow_75 (by decide) ?_
          refine j_put_3_3 (bi := 0) hC rfl k132 (by first | exact Or.inl rfl | exact Or.inr rfl | assumption | (subst_vars; first | exact Or.inl rfl | exact Or.inr rfl | assumption)) dX3_follow_76 ?_
          dsimp only [List.set]
          refine j_vret hC hQ rfl (Nat.le_of_ble_eq_true rfl) (Nat.le_of_ble_eq_true rfl) dX3_follow_79 rfl ?_
          exact ⟨rfl, Or.inr ⟨c_4, v, F2, A1, A4, rfl, hA10, hF, fun u hu1 hu2 => hset u (hend u hu1 hu2)⟩⟩
        · skip
          refine j_iload hC dX3_follow_39 rfl ?_
          refine j_bipush hC (10) dX3_follow_41 (by decide) ?_
          refine j_icmp_ge hC dX3_follow_43 (tgt := 74) (by decide) (fun c_43 => ?_) (fun c_43 => ?_)
          · skip
            have hend : ∀ u : Nat, u < 10 → (u : Int) < v.toInt → u < t := by
              intro u hu1 hu2
              first | (have q : v ≤ x4 := c_36; rw [Int32.le_iff_toInt_le, h4, nI_toInt (by omega)] at q; omega) | (have q := jge (show (10 : Int32) = nI 10 from rfl) h4 (by omega) (by omega) c_43; omega)
            refine j_aload_n hC dX3_follow_74 rfl rfl ?_
            refine j_iconst hC (1) dX3_follow_75 (by decide) ?_
            refine j_put_3_3 (bi := 0) hC rfl k132 (by first | exact Or.inl rfl | exact Or.inr rfl | assumption | (subst_vars; first | exact Or.inl rfl | exact Or.inr rfl | assumption)) dX3_follow_76 ?_
            dsimp only [List.set]
            refine j_vret hC hQ rfl (Nat.le_of_ble_eq_true rfl) (Nat.le_of_ble_eq_true rfl) dX3_follow_79 rfl ?_
            exact ⟨rfl, Or.inr ⟨c_4, v, F2, A1, A4, rfl, hA10, hF, fun u hu1 hu2 => hset u (hend u hu1 hu2)⟩⟩
          · skip
            have ht10 : t < 10 := jlt (show (10 : Int32) = nI 10 from rfl) h4 (by omega) (by omega) c_43
            have hvt : vp_in x4 10 := by rw [h4]; exact vp_in_nI ht10 (by decide)
            refine j_aload_n hC dX3_follow_46 rfl rfl ?_
            refine j_get hC uX3 0 0 1 rfl rfl k129 rfl dX3_follow_47 ?_
            refine j_iload hC dX3_follow_50 rfl ?_
            refine j_aload_n hC dX3_follow_52 rfl rfl ?_
            refine j_iload_n hC dX3_follow_53 rfl rfl ?_
            refine j_callVR hC [0] (c_X3_firstSet g _ _ _ (lft F2 (2 ^ k - 1) t) _ h3 (lft_lt hfl t)) mX3_firstSet k464 rfl rfl rfl rfl rfl ⟨(Nat.le_of_ble_eq_true rfl), (Nat.le_of_ble_eq_true rfl)⟩ (Nat.le_of_ble_eq_true rfl) ⟨(Nat.le_of_ble_eq_true rfl), (Nat.le_of_ble_eq_true rfl)⟩ dX3_follow_54 ?_
            dsimp only [jrepl, List.set, jstk]
            refine j_ast_3_1 (bi := 0) hC rfl hvt dX3_follow_57 ?_
            dsimp only [List.set]
            refine j_iload_n hC dX3_follow_58 rfl rfl ?_
            refine j_aload_n hC dX3_follow_59 rfl rfl ?_
            refine j_get hC uX3 0 0 1 rfl rfl k129 rfl dX3_follow_60 ?_
            refine j_iload hC dX3_follow_63 rfl ?_
            refine j_iald hC 0 2 rfl hvt dX3_follow_65 ?_
            refine j_ixor hC dX3_follow_66 ?_
            refine j_istore_n hC dX3_follow_67 rfl rfl rfl rfl (fun v_67 e_67 => ?_)
            refine j_iinc hC (1) dX3_follow_68 rfl rfl rfl rfl rfl (fun v_68 e_68 => ?_)
            refine j_goto hC dX3_follow_71 (tgt := 30) (by decide) ?_
            refine j_pick [0, 3, 4] ?_
            have e57 : x4.toNatClampNeg = t := by rw [h4]; exact nI_cl (by omega)
            exact ih_30 (t + 1) _ _ _ (by omega) (by omega) (jsucc e_68 h4) (by rw [e_67, e57, h3]; show nI _ ^^^ (if t = t then _ else _) = _; rw [if_pos rfl, nI_xor, hA10]; rfl) hA10 (by rw [e57, hA10]; exact folStep hset)
    refine j_pick [0, 3, 4] ?_
    exact L_30 (11) 0 _ _ _ (by omega) (by omega) (e_28.trans nI_0.symm) (by rw [e_26, hk1]; exact full_k k (by omega)) va_up_at (fun u hu => absurd hu (by omega))
  · skip
    refine j_vret hC hQ rfl (Nat.le_of_ble_eq_true rfl) (Nat.le_of_ble_eq_true rfl) dX3_follow_7 rfl ?_
    exact ⟨rfl, Or.inl ⟨c_4, rfl⟩⟩
