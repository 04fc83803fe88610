/-! lamps of the stock; states of which some lights are done -/
theorem nI_ok : ∀ l, l < 3 → okLamp (nI l) := by decide
def pmS (S : BS) (f : Nat → jF → jF) (i : Nat) (h pa fa : Int32) : BS := ((bLs S).mapIdx (fun j L => if j < i then f j L else L), bRs S, bNeed S, h, bSt S, pa, fa)
theorem pm_len {S : BS} {f : Nat → jF → jF} {i : Nat} {h pa fa : Int32} : (bLs (pmS S f i h pa fa)).length = (bLs S).length := by show ((bLs S).mapIdx _).length = _; rw [List.length_mapIdx]
theorem pm_LI {S : BS} {f : Nat → jF → jF} {i j : Nat} {h pa fa : Int32} (hj : j < (bLs S).length) : LI (pmS S f i h pa fa) j = if j < i then f j (LI S j) else LI S j := by
  apply LI_of
  show ((bLs S).mapIdx _)[j]? = _
  rw [List.getElem?_mapIdx, LI_get hj]
  rfl
theorem pm_cur {S : BS} {f : Nat → jF → jF} {i : Nat} {h pa fa : Int32} (hj : i < (bLs S).length) : LI (pmS S f i h pa fa) i = LI S i := by rw [pm_LI hj, if_neg (Nat.lt_irrefl i)]
theorem pm_next {S : BS} {f : Nat → jF → jF} {i : Nat} (hi : i < (bLs S).length) : (bLs S).mapIdx (fun j L => if j < i + 1 then f j L else L) = ((bLs S).mapIdx (fun j L => if j < i then f j L else L)).set i (f i (LI S i)) := by
  apply List.ext_getElem?
  intro j
  by_cases q : i = j
  · subst q
    rw [List.getElem?_set_self (by rw [List.length_mapIdx]; exact hi), List.getElem?_mapIdx, LI_get hi]
    show some (if i < i + 1 then _ else _) = _
    rw [if_pos (Nat.lt_succ_self i)]
  · rw [List.getElem?_set_ne q, List.getElem?_mapIdx, List.getElem?_mapIdx]
    cases (bLs S)[j]? with
    | none => rfl
    | some L =>
      show some (if j < i + 1 then f j L else L) = some (if j < i then f j L else L)
      by_cases w : j < i
      · rw [if_pos w, if_pos (by omega)]
      · rw [if_neg w, if_neg (by omega)]
theorem pm_0 {S : BS} {f : Nat → jF → jF} : pmS S f 0 (bHrs S) (bPa S) (bFa S) = S := by
  have e : (bLs S).mapIdx (fun j L => if j < 0 then f j L else L) = bLs S := by
    apply List.ext_getElem?
    intro j
    rw [List.getElem?_mapIdx]
    cases (bLs S)[j]? with
    | none => rfl
    | some L => rfl
  unfold pmS
  rw [e]
theorem pm_end {S : BS} {f : Nat → jF → jF} {h pa fa : Int32} : pmS S f (bLs S).length h pa fa = sMap S f h pa fa := by
  have e : (bLs S).mapIdx (fun j L => if j < (bLs S).length then f j L else L) = (bLs S).mapIdx f := by
    apply List.ext_getElem?
    intro j
    rw [List.getElem?_mapIdx, List.getElem?_mapIdx]
    cases hc : (bLs S)[j]? with
    | none => rfl
    | some L =>
      have := (List.getElem?_eq_some_iff.mp hc).1
      show some (if j < (bLs S).length then f j L else L) = some (f j L)
      rw [if_pos this]
  unfold pmS sMap
  rw [e]
theorem MP_pm {P Q : jF} {S : BS} {f : Nat → jF → jF} {i : Nat} {h pa fa : Int32} (hp : MP P (pmS S f i h pa fa)) (hi : i < (bLs S).length) (hL : lok 5400 Q i (f i (LI S i))) (hf : pfr i P Q) : MP Q (pmS S f (i + 1) h pa fa) := by
  have e : pmS S f (i + 1) h pa fa = sLs (pmS S f i h pa fa) ((bLs (pmS S f i h pa fa)).set i (f i (LI S i))) := by
    unfold pmS
    rw [pm_next hi]
    rfl
  rw [e]
  exact MP_light hp (by rw [pm_len]; exact hi) hL hf
theorem pm_same {S : BS} {f : Nat → jF → jF} {i : Nat} {h pa fa : Int32} (hi : i < (bLs S).length) (e : f i (LI S i) = LI S i) : pmS S f (i + 1) h pa fa = pmS S f i h pa fa := by
  have e2 : (bLs S).mapIdx (fun j L => if j < i + 1 then f j L else L) = (bLs S).mapIdx (fun j L => if j < i then f j L else L) := by
    rw [pm_next hi, e]
    apply List.ext_getElem?
    intro j
    by_cases q : i = j
    · subst q
      rw [List.getElem?_set_self (by rw [List.length_mapIdx]; exact hi), List.getElem?_mapIdx, LI_get hi]
      show _ = some (if i < i then _ else _)
      rw [if_neg (Nat.lt_irrefl i)]
    · rw [List.getElem?_set_ne q]
  unfold pmS
  rw [e2]
def swI (x : Int32) (S : BS) (i : Nat) : BS := sSt (pmS S (fun j L => swL x (swA x S j).1 L) i (bHrs S) (bPa S) (bFa S)) (swA x S i).1
theorem swA_s {x : Int32} {S : BS} {i : Nat} : swA x S (i + 1) = if x ≤ LI S i 7 then swA x S i else if lipS (swA x S i).1 (LI S i 3) = -9 then swA x S i else (stDec (swA x S i).1 (lipS (swA x S i).1 (LI S i 3)), (swA x S i).2 + 1) := by
  unfold swA; rw [jit_s]; rfl
theorem swI_0 {x : Int32} {S : BS} : swI x S 0 = S := by
  have e : (swA x S 0).1 = bSt S := rfl
  unfold swI
  rw [pm_0, e]; rfl
theorem swI_len {x : Int32} {S : BS} {i : Nat} : (bLs (swI x S i)).length = (bLs S).length := pm_len (S := S) (f := fun j L => swL x (swA x S j).1 L) (i := i) (h := bHrs S) (pa := bPa S) (fa := bFa S)
theorem swI_end {x : Int32} {S : BS} : swI x S (bLs S).length = swS x S := by
  unfold swI swS
  rw [pm_end]
theorem swI_no {x : Int32} {S : BS} {i : Nat} (hi : i < (bLs S).length) (h : x ≤ LI S i 7 ∨ lipS (swA x S i).1 (LI S i 3) = -9) : swI x S (i + 1) = swI x S i ∧ (swA x S (i + 1)).2 = (swA x S i).2 := by
  have e1 : swA x S (i + 1) = swA x S i := by
    rw [swA_s]
    by_cases w : x ≤ LI S i 7
    · rw [if_pos w]
    · rw [if_neg w, if_pos (h.resolve_left w)]
  have e2 : swL x (swA x S i).1 (LI S i) = LI S i := by
    unfold swL
    by_cases w : x ≤ LI S i 7
    · rw [if_pos w]
    · rw [if_neg w, if_pos (h.resolve_left w)]
  refine ⟨?_, by rw [e1]⟩
  unfold swI
  rw [pm_same (f := fun j L => swL x (swA x S j).1 L) hi e2, e1]
theorem swI_yes {x k : Int32} {S : BS} {i : Nat} (hi : i < (bLs S).length) (h : ¬ x ≤ LI S i 7) (h2 : lipS (swA x S i).1 (LI S i 3) = k) (h9 : ¬ k = -9) (hk : okLamp k) : swI x S (i + 1) = putS (swI x S i) i k ∧ (swA x S (i + 1)).2 = (swA x S i).2 + 1 := by
  have e1 : swA x S (i + 1) = (stTo (swA x S i).1 k (stk (swA x S i).1 k - 1), (swA x S i).2 + 1) := by
    rw [swA_s, if_neg h, h2, if_neg h9]
    unfold stDec
    rw [if_pos hk, Int32.sub_eq_add_neg]
  have e2 : swL x (swA x S i).1 (LI S i) = putL (LI S i) k := by
    unfold swL
    rw [if_neg h, h2, if_neg h9]
  have e3 : LI (swI x S i) i = LI S i := pm_cur (h := bHrs S) (pa := bPa S) (fa := bFa S) hi
  refine ⟨?_, by rw [e1]⟩
  unfold putS
  rw [e3]
  unfold swI pmS
  rw [pm_next (f := fun j L => swL x (swA x S j).1 L) hi, e2, e1]
  rfl
theorem lip_ok {st : Int32 × Int32 × Int32} {x : Int32} (hx : okLamp x) (h : ¬ lipS st x = -9) : okLamp (lipS st x) ∧ ¬ stk st (lipS st x) ≤ 0 := by
  unfold lipS at h ⊢
  by_cases w : ¬ stkO st x ≤ 0
  · rw [if_pos w]
    unfold stkO at w
    rw [if_pos hx] at w
    exact ⟨hx, w⟩
  · rw [if_neg w] at h ⊢
    by_cases w2 : ¬ stkO st 2 ≤ 0
    · rw [if_pos w2] at h ⊢
      by_cases q : widthOf 2 < widthOf x
      · rw [if_pos q] at h; exact absurd rfl h
      · rw [if_neg q]; exact ⟨by decide, w2⟩
    · rw [if_neg w2] at h ⊢
      by_cases w1 : ¬ stkO st 1 ≤ 0
      · rw [if_pos w1] at h ⊢
        by_cases q : widthOf 1 < widthOf x
        · rw [if_pos q] at h; exact absurd rfl h
        · rw [if_neg q]; exact ⟨by decide, w1⟩
      · rw [if_neg w1] at h ⊢
        by_cases w0 : ¬ stkO st 0 ≤ 0
        · rw [if_pos w0] at h ⊢
          by_cases q : widthOf 0 < widthOf x
          · rw [if_pos q] at h; exact absurd rfl h
          · rw [if_neg q]; exact ⟨by decide, w0⟩
        · rw [if_neg w0] at h; exact absurd rfl h
theorem okLamp_nI {x : Int32} (h : okLamp x) : ∃ l, l < 3 ∧ x = nI l := by
  rcases okLamp_cases h with rfl | rfl | rfl
  · exact ⟨0, by decide, rfl⟩
  · exact ⟨1, by decide, rfl⟩
  · exact ⟨2, by decide, rfl⟩
theorem lamp_nI {x : Int32} (h : 0 ≤ x.toInt ∧ x.toInt ≤ 2) : ∃ l, l < 3 ∧ x = nI l := by
  rcases i0123 h.1 (by omega) with rfl | rfl | rfl | rfl
  · exact ⟨0, by decide, rfl⟩
  · exact ⟨1, by decide, rfl⟩
  · exact ⟨2, by decide, rfl⟩
  · exact absurd h.2 (by decide)
theorem pos_1 {P : jF} {S : BS} {l : Nat} (h : MP P S) (hl : l < 3) (hk : ¬ stk (bSt S) (nI l) ≤ 0) : 1 ≤ (P (106 + l)).toInt := by
  have q := mp_stk h hl
  rw [← q.1, ile_t, z_t] at hk
  omega
set_option maxHeartbeats 1000000 in
set_option maxRecDepth 100000 in
theorem c_X7_instead (g : jG) (d : Nat → Nat) (I : jF) (A : Nat → jF) (S : BS) (l : Nat) (x : Int32) (hp : MP (A 1) S) (hx : x = nI l) (hl : l < 3) : Con g yX7_instead cX7_instead 3 (some .int) 1 20 0 0 [.ref (d 0), .int x] [mc g d I A] (jR (some (.int (lipS (bSt S) x))) [mc g d I A]) := by
  refine Con.of (own := RX7) (lv := [(0, .ref (d 0)), (1, .int x)]) (by decide) rfl (Nat.le_of_ble_eq_true rfl) rfl ?_
  intro E hC hQ hN
  obtain ⟨⟨hq0, hk10⟩, hql, ⟨hq91, hn6⟩, hqr, ⟨hq4, hnd⟩, ⟨hq5, hqh⟩, ⟨hq6, hqs⟩, hq9, hq10⟩ := id hp
  have hok : okLamp x := by rw [hx]; exact nI_ok l hl
  have hs0 : stk (bSt S) x = A 1 (106 + l) := by rw [hx]; exact (mp_stk hp hl).1.symm
  refine j_aload_n hC dX7_instead_0 rfl rfl ?_
  refine j_get hC uX7 0 0 0 rfl rfl k724 rfl dX7_instead_1 ?_
  refine j_bipush hC (106) dX7_instead_4 (by decide) ?_
  refine j_iload_n hC dX7_instead_6 rfl rfl ?_
  refine j_iadd hC dX7_instead_7 ?_
  refine j_ildN hC (m := 106 + l) 0 1 rfl rfl (by rw [hx]; exact nI_add 106 l) (by omega) dX7_instead_8 ?_
  refine j_if_le hC dX7_instead_9 (tgt := 14) (by decide) (fun c_9 => ?_) (fun c_9 => ?_)
  · skip
    have hle : stk (bSt S) x ≤ 0 := by rw [hs0]; exact c_9
    refine j_iconst hC (2) dX7_instead_14 (by decide) ?_
    refine j_istore_n hC dX7_instead_15 rfl rfl rfl rfl (fun v_15 e_15 => ?_)
    have L_16 : ∀ (fu : Nat) (t : Nat) (x2 : Int32) (hfu : 4 ≤ t + fu) (ht : t ≤ 3) (h2 : x2 = kd t) (hz : ∀ u, u < t → stk (bSt S) (kd u) = 0), J g (jRm 1 20 0 0) E 3 16 [(0, .ref (d 0)), (1, .int x), (2, .int x2)] [] [mc g d I A] (0) (0) := by
      intro fu
      induction fu with
      | zero => intro t x2 hfu ht h2 hz; exact absurd hfu (by omega)
      | succ fu ih_16 =>
        intro t x2 hfu ht h2 hz
        refine j_iload_n hC dX7_instead_16 rfl rfl ?_
        refine j_if_lt hC dX7_instead_17 (tgt := 38) (by decide) (fun c_17 => ?_) (fun c_17 => ?_)
        · skip
          refine j_iload_n hC dX7_instead_38 rfl rfl ?_
          refine j_if_lt hC dX7_instead_39 (tgt := 57) (by decide) (fun c_39 => ?_) (fun c_39 => ?_)
          · skip
            try (rw [h2] at c_50)
            refine j_bipush hC (-9) dX7_instead_57 (by decide) ?_
            refine j_iret hC hQ rfl rfl (Nat.le_of_ble_eq_true rfl) (Nat.le_of_ble_eq_true rfl) dX7_instead_59 rfl ⟨?_, ?_⟩
            · first | exact congrArg (fun z => some (Value.int z)) (by rw [lip_k hok hle ht3 hz (by rw [hst]; exact (stk_pos (by have q := (mp_stk hp (l := 2 - t) (by omega)).2.1; rw [show 106 + (2 - t) = 108 - t by omega] at q; exact q)).mpr c_29), if_neg c_50]; exact h2) | exact congrArg (fun z => some (Value.int z)) (by rw [lip_k hok hle ht3 hz (by rw [hst]; exact (stk_pos (by have q := (mp_stk hp (l := 2 - t) (by omega)).2.1; rw [show 106 + (2 - t) = 108 - t by omega] at q; exact q)).mpr c_29), if_neg (Int32.not_lt.mpr c_50)]; exact h2) | exact congrArg (fun z => some (Value.int z)) (by rw [lip_k hok hle ht3 hz (by rw [hst]; exact (stk_pos (by have q := (mp_stk hp (l := 2 - t) (by omega)).2.1; rw [show 106 + (2 - t) = 108 - t by omega] at q; exact q)).mpr c_29), if_pos c_50]) | exact absurd c_39 c_17 | exact absurd c_17 c_39 | exact congrArg (fun z => some (Value.int z)) (lip_n hok hle (fun u hu => hz u (by have q := (kd_neg t (by omega)).mp (by rw [← h2]; exact c_17); omega))).symm
            · rfl
          · skip
            refine j_iload_n hC dX7_instead_42 rfl rfl ?_
            refine j_callSR hC [] (c_X7_reachOf g _) mX7_reachOf k903 rfl rfl rfl ⟨(Nat.le_of_ble_eq_true rfl), (Nat.le_of_ble_eq_true rfl)⟩ (Nat.le_of_ble_eq_true rfl) ⟨(Nat.le_of_ble_eq_true rfl), (Nat.le_of_ble_eq_true rfl)⟩ dX7_instead_43 ?_
            dsimp only [jrepl, List.set, jstk]
            refine j_iload_n hC dX7_instead_46 rfl rfl ?_
            refine j_callSR hC [] (c_X7_reachOf g _) mX7_reachOf k903 rfl rfl rfl ⟨(Nat.le_of_ble_eq_true rfl), (Nat.le_of_ble_eq_true rfl)⟩ (Nat.le_of_ble_eq_true rfl) ⟨(Nat.le_of_ble_eq_true rfl), (Nat.le_of_ble_eq_true rfl)⟩ dX7_instead_47 ?_
            dsimp only [jrepl, List.set, jstk]
            refine j_icmp_lt hC dX7_instead_50 (tgt := 57) (by decide) (fun c_50 => ?_) (fun c_50 => ?_)
            · skip
              try (rw [h2] at c_50)
              refine j_bipush hC (-9) dX7_instead_57 (by decide) ?_
              refine j_iret hC hQ rfl rfl (Nat.le_of_ble_eq_true rfl) (Nat.le_of_ble_eq_true rfl) dX7_instead_59 rfl ⟨?_, ?_⟩
              · first | exact congrArg (fun z => some (Value.int z)) (by rw [lip_k hok hle ht3 hz (by rw [hst]; exact (stk_pos (by have q := (mp_stk hp (l := 2 - t) (by omega)).2.1; rw [show 106 + (2 - t) = 108 - t by omega] at q; exact q)).mpr c_29), if_neg c_50]; exact h2) | exact congrArg (fun z => some (Value.int z)) (by rw [lip_k hok hle ht3 hz (by rw [hst]; exact (stk_pos (by have q := (mp_stk hp (l := 2 - t) (by omega)).2.1; rw [show 106 + (2 - t) = 108 - t by omega] at q; exact q)).mpr c_29), if_neg (Int32.not_lt.mpr c_50)]; exact h2) | exact congrArg (fun z => some (Value.int z)) (by rw [lip_k hok hle ht3 hz (by rw [hst]; exact (stk_pos (by have q := (mp_stk hp (l := 2 - t) (by omega)).2.1; rw [show 106 + (2 - t) = 108 - t by omega] at q; exact q)).mpr c_29), if_pos c_50]) | exact absurd c_39 c_17 | exact absurd c_17 c_39 | exact congrArg (fun z => some (Value.int z)) (lip_n hok hle (fun u hu => hz u (by have q := (kd_neg t (by omega)).mp (by rw [← h2]; exact c_17); omega))).symm
              · rfl
            · skip
              rw [h2] at c_50
              refine j_iload_n hC dX7_instead_53 rfl rfl ?_
              refine j_goto hC dX7_instead_54 (tgt := 59) (by decide) ?_
              refine j_iret hC hQ rfl rfl (Nat.le_of_ble_eq_true rfl) (Nat.le_of_ble_eq_true rfl) dX7_instead_59 rfl ⟨?_, ?_⟩
              · first | exact congrArg (fun z => some (Value.int z)) (by rw [lip_k hok hle ht3 hz (by rw [hst]; exact (stk_pos (by have q := (mp_stk hp (l := 2 - t) (by omega)).2.1; rw [show 106 + (2 - t) = 108 - t by omega] at q; exact q)).mpr c_29), if_neg c_50]; exact h2) | exact congrArg (fun z => some (Value.int z)) (by rw [lip_k hok hle ht3 hz (by rw [hst]; exact (stk_pos (by have q := (mp_stk hp (l := 2 - t) (by omega)).2.1; rw [show 106 + (2 - t) = 108 - t by omega] at q; exact q)).mpr c_29), if_neg (Int32.not_lt.mpr c_50)]; exact h2) | exact congrArg (fun z => some (Value.int z)) (by rw [lip_k hok hle ht3 hz (by rw [hst]; exact (stk_pos (by have q := (mp_stk hp (l := 2 - t) (by omega)).2.1; rw [show 106 + (2 - t) = 108 - t by omega] at q; exact q)).mpr c_29), if_pos c_50]) | exact absurd c_39 c_17 | exact absurd c_17 c_39 | exact congrArg (fun z => some (Value.int z)) (lip_n hok hle (fun u hu => hz u (by have q := (kd_neg t (by omega)).mp (by rw [← h2]; exact c_17); omega))).symm
              · rfl
        · skip
          have ht3 : t < 3 := by have q : ¬ t = 3 := fun w => c_17 (by rw [h2]; exact (kd_neg t (by omega)).mpr w); omega
          have hst : stk (bSt S) (kd t) = A 1 (108 - t) := by rw [kd_nI t ht3, ← (mp_stk hp (l := 2 - t) (by omega)).1]; exact congrArg (A 1) (by omega)
          refine j_aload_n hC dX7_instead_20 rfl rfl ?_
          refine j_get hC uX7 0 0 0 rfl rfl k724 rfl dX7_instead_21 ?_
          refine j_bipush hC (106) dX7_instead_24 (by decide) ?_
          refine j_iload_n hC dX7_instead_26 rfl rfl ?_
          refine j_iadd hC dX7_instead_27 ?_
          refine j_ildN hC (m := 108 - t) 0 1 rfl rfl (by rw [h2]; exact kd_idx t ht3) (by omega) dX7_instead_28 ?_
          refine j_if_ne hC dX7_instead_29 (tgt := 38) (by decide) (fun c_29 => ?_) (fun c_29 => ?_)
          · skip
            refine j_iload_n hC dX7_instead_38 rfl rfl ?_
            refine j_if_lt hC dX7_instead_39 (tgt := 57) (by decide) (fun c_39 => ?_) (fun c_39 => ?_)
            · skip
              try (rw [h2] at c_50)
              refine j_bipush hC (-9) dX7_instead_57 (by decide) ?_
              refine j_iret hC hQ rfl rfl (Nat.le_of_ble_eq_true rfl) (Nat.le_of_ble_eq_true rfl) dX7_instead_59 rfl ⟨?_, ?_⟩
              · first | exact congrArg (fun z => some (Value.int z)) (by rw [lip_k hok hle ht3 hz (by rw [hst]; exact (stk_pos (by have q := (mp_stk hp (l := 2 - t) (by omega)).2.1; rw [show 106 + (2 - t) = 108 - t by omega] at q; exact q)).mpr c_29), if_neg c_50]; exact h2) | exact congrArg (fun z => some (Value.int z)) (by rw [lip_k hok hle ht3 hz (by rw [hst]; exact (stk_pos (by have q := (mp_stk hp (l := 2 - t) (by omega)).2.1; rw [show 106 + (2 - t) = 108 - t by omega] at q; exact q)).mpr c_29), if_neg (Int32.not_lt.mpr c_50)]; exact h2) | exact congrArg (fun z => some (Value.int z)) (by rw [lip_k hok hle ht3 hz (by rw [hst]; exact (stk_pos (by have q := (mp_stk hp (l := 2 - t) (by omega)).2.1; rw [show 106 + (2 - t) = 108 - t by omega] at q; exact q)).mpr c_29), if_pos c_50]) | exact absurd c_39 c_17 | exact absurd c_17 c_39 | exact congrArg (fun z => some (Value.int z)) (lip_n hok hle (fun u hu => hz u (by have q := (kd_neg t (by omega)).mp (by rw [← h2]; exact c_17); omega))).symm
              · rfl
            · skip
              refine j_iload_n hC dX7_instead_42 rfl rfl ?_
              refine j_callSR hC [] (c_X7_reachOf g _) mX7_reachOf k903 rfl rfl rfl ⟨(Nat.le_of_ble_eq_true rfl), (Nat.le_of_ble_eq_true rfl)⟩ (Nat.le_of_ble_eq_true rfl) ⟨(Nat.le_of_ble_eq_true rfl), (Nat.le_of_ble_eq_true rfl)⟩ dX7_instead_43 ?_
              dsimp only [jrepl, List.set, jstk]
              refine j_iload_n hC dX7_instead_46 rfl rfl ?_
              refine j_callSR hC [] (c_X7_reachOf g _) mX7_reachOf k903 rfl rfl rfl ⟨(Nat.le_of_ble_eq_true rfl), (Nat.le_of_ble_eq_true rfl)⟩ (Nat.le_of_ble_eq_true rfl) ⟨(Nat.le_of_ble_eq_true rfl), (Nat.le_of_ble_eq_true rfl)⟩ dX7_instead_47 ?_
              dsimp only [jrepl, List.set, jstk]
              refine j_icmp_lt hC dX7_instead_50 (tgt := 57) (by decide) (fun c_50 => ?_) (fun c_50 => ?_)
              · skip
                try (rw [h2] at c_50)
                refine j_bipush hC (-9) dX7_instead_57 (by decide) ?_
                refine j_iret hC hQ rfl rfl (Nat.le_of_ble_eq_true rfl) (Nat.le_of_ble_eq_true rfl) dX7_instead_59 rfl ⟨?_, ?_⟩
                · first | exact congrArg (fun z => some (Value.int z)) (by rw [lip_k hok hle ht3 hz (by rw [hst]; exact (stk_pos (by have q := (mp_stk hp (l := 2 - t) (by omega)).2.1; rw [show 106 + (2 - t) = 108 - t by omega] at q; exact q)).mpr c_29), if_neg c_50]; exact h2) | exact congrArg (fun z => some (Value.int z)) (by rw [lip_k hok hle ht3 hz (by rw [hst]; exact (stk_pos (by have q := (mp_stk hp (l := 2 - t) (by omega)).2.1; rw [show 106 + (2 - t) = 108 - t by omega] at q; exact q)).mpr c_29), if_neg (Int32.not_lt.mpr c_50)]; exact h2) | exact congrArg (fun z => some (Value.int z)) (by rw [lip_k hok hle ht3 hz (by rw [hst]; exact (stk_pos (by have q := (mp_stk hp (l := 2 - t) (by omega)).2.1; rw [show 106 + (2 - t) = 108 - t by omega] at q; exact q)).mpr c_29), if_pos c_50]) | exact absurd c_39 c_17 | exact absurd c_17 c_39 | exact congrArg (fun z => some (Value.int z)) (lip_n hok hle (fun u hu => hz u (by have q := (kd_neg t (by omega)).mp (by rw [← h2]; exact c_17); omega))).symm
                · rfl
              · skip
                rw [h2] at c_50
                refine j_iload_n hC dX7_instead_53 rfl rfl ?_
                refine j_goto hC dX7_instead_54 (tgt := 59) (by decide) ?_
                refine j_iret hC hQ rfl rfl (Nat.le_of_ble_eq_true rfl) (Nat.le_of_ble_eq_true rfl) dX7_instead_59 rfl ⟨?_, ?_⟩
                · first | exact congrArg (fun z => some (Value.int z)) (by rw [lip_k hok hle ht3 hz (by rw [hst]; exact (stk_pos (by have q := (mp_stk hp (l := 2 - t) (by omega)).2.1; rw [show 106 + (2 - t) = 108 - t by omega] at q; exact q)).mpr c_29), if_neg c_50]; exact h2) | exact congrArg (fun z => some (Value.int z)) (by rw [lip_k hok hle ht3 hz (by rw [hst]; exact (stk_pos (by have q := (mp_stk hp (l := 2 - t) (by omega)).2.1; rw [show 106 + (2 - t) = 108 - t by omega] at q; exact q)).mpr c_29), if_neg (Int32.not_lt.mpr c_50)]; exact h2) | exact congrArg (fun z => some (Value.int z)) (by rw [lip_k hok hle ht3 hz (by rw [hst]; exact (stk_pos (by have q := (mp_stk hp (l := 2 - t) (by omega)).2.1; rw [show 106 + (2 - t) = 108 - t by omega] at q; exact q)).mpr c_29), if_pos c_50]) | exact absurd c_39 c_17 | exact absurd c_17 c_39 | exact congrArg (fun z => some (Value.int z)) (lip_n hok hle (fun u hu => hz u (by have q := (kd_neg t (by omega)).mp (by rw [← h2]; exact c_17); omega))).symm
                · rfl
          · skip
            refine j_iinc hC (-1) dX7_instead_32 rfl rfl rfl rfl rfl (fun v_32 e_32 => ?_)
            refine j_goto hC dX7_instead_35 (tgt := 16) (by decide) ?_
            refine j_pick [0, 1, 2] ?_
            exact ih_16 (t + 1) _ (by omega) (by omega) (by rw [e_32, h2]; exact kd_next t ht3) (fun u hu => (Nat.lt_or_ge u t).elim (hz u) (fun q => by rw [show u = t by omega, hst]; first | exact c_29 | exact Decidable.not_not.mp c_29))
    refine j_pick [0, 1, 2] ?_
    exact L_16 (4) 0 _ (by omega) (by omega) e_15 (fun u hu => absurd hu (Nat.not_lt_zero u))
  · skip
    refine j_iload_n hC dX7_instead_12 rfl rfl ?_
    refine j_iret hC hQ rfl rfl (Nat.le_of_ble_eq_true rfl) (Nat.le_of_ble_eq_true rfl) dX7_instead_13 rfl ⟨?_, ?_⟩
    · exact congrArg (fun z => some (Value.int z)) (lip_a hok (by rw [hs0]; exact c_9)).symm
    · rfl
set_option maxHeartbeats 1000000 in
set_option maxRecDepth 100000 in
theorem c_X7_swap (g : jG) (d : Nat → Nat) (T : St3) (b : List va_W) (x y : Int32) (h : MW g d T b) : Con g yX7_swap cX7_swap 3 (some .int) 2 44 0 0 [.ref (d 0), .int x, .int y] b (fun rr bb => rr = some (.int (oSwap T x y).1) ∧ MW g d (oSwap T x y).2 bb) := by
  obtain ⟨I, A, rfl, hMI⟩ := h
  obtain ⟨hm1, hmp, hmh, hmt⟩ := id hMI
  obtain ⟨⟨hq0, hk10⟩, hql, ⟨hq91, hn6⟩, hqr, ⟨hq4, hnd⟩, ⟨hq5, hqh⟩, ⟨hq6, hqs⟩, hq9, hq10⟩ := id hmp
  refine Con.of (own := RX7) (lv := [(0, .ref (d 0)), (1, .int x), (2, .int y)]) (by decide) rfl (Nat.le_of_ble_eq_true rfl) rfl ?_
  intro E hC hQ hN
  refine j_aload_n hC dX7_swap_0 rfl rfl ?_
  refine j_iload_n hC dX7_swap_1 rfl rfl ?_
  refine j_callVR hC [0] (c_X7_isLight g _ _ _ _) mX7_isLight k819 rfl rfl rfl rfl rfl ⟨(Nat.le_of_ble_eq_true rfl), (Nat.le_of_ble_eq_true rfl)⟩ (Nat.le_of_ble_eq_true rfl) ⟨(Nat.le_of_ble_eq_true rfl), (Nat.le_of_ble_eq_true rfl)⟩ dX7_swap_2 ?_
  dsimp only [jrepl, List.set, jstk]
  refine j_if_eq hC dX7_swap_5 (tgt := 15) (by decide) (fun c_5 => ?_) (fun c_5 => ?_)
  · skip
    refine j_iconst hC (-1) dX7_swap_15 (by decide) ?_
    refine j_iret hC hQ rfl rfl (Nat.le_of_ble_eq_true rfl) (Nat.le_of_ble_eq_true rfl) dX7_swap_16 rfl ?_
    first | exact mw_o (by unfold oSwap; rw [if_pos (Or.inl (fun q => jb0 c_5 ((in_len hq0 hk10).mpr q)))]) hMI | exact mw_o (by unfold oSwap; rw [if_pos (Or.inr (fun q => jb0 c_12 (in_iff.mpr q)))]) hMI
  · skip
    refine j_iload_n hC dX7_swap_8 rfl rfl ?_
    refine j_callSR hC [] (c_X7_isLamp g _) mX7_isLamp k784 rfl rfl rfl ⟨(Nat.le_of_ble_eq_true rfl), (Nat.le_of_ble_eq_true rfl)⟩ (Nat.le_of_ble_eq_true rfl) ⟨(Nat.le_of_ble_eq_true rfl), (Nat.le_of_ble_eq_true rfl)⟩ dX7_swap_9 ?_
    dsimp only [jrepl, List.set, jstk]
    refine j_if_ne hC dX7_swap_12 (tgt := 17) (by decide) (fun c_12 => ?_) (fun c_12 => ?_)
    · skip
      have hlx : hLX x (bLs T.1).length := (in_len hq0 hk10).mp (jb1 c_5)
      obtain ⟨j, hj, hx⟩ := hLX_nat (by omega) hlx
      have hi : j ≤ 10 := by omega
      have hlg : lg T.1 x = LI T.1 j := lg_LI hj (by omega) hx
      have hcl : x.toNatClampNeg = j := by rw [hx, nI_cl (by omega)]
      have hlj := hql j hj
      obtain ⟨l, hl, hy⟩ := in_nat (M := 2) (m := 2) rfl (by decide) (jb1 c_12)
      have hs0 : stk (bSt T.1) y = A 1 (106 + l) := by rw [hy]; exact (mp_stk hmp (by omega)).1.symm
      refine j_aload_n hC dX7_swap_17 rfl rfl ?_
      refine j_get hC uX7 0 0 0 rfl rfl k724 rfl dX7_swap_18 ?_
      refine j_bipush hC (106) dX7_swap_21 (by decide) ?_
      refine j_iload_n hC dX7_swap_23 rfl rfl ?_
      refine j_iadd hC dX7_swap_24 ?_
      refine j_ildN hC (m := 106 + l) 0 1 rfl rfl (by rw [hy]; exact nI_add 106 l) (by omega) dX7_swap_25 ?_
      refine j_if_ne hC dX7_swap_26 (tgt := 32) (by decide) (fun c_26 => ?_) (fun c_26 => ?_)
      · skip
        refine j_aload_n hC dX7_swap_32 rfl rfl ?_
        refine j_callV hC [0] (c_X7_records g _ _ _ T hMI) mX7_records k791 rfl rfl rfl rfl rfl ⟨(Nat.le_of_ble_eq_true rfl), (Nat.le_of_ble_eq_true rfl)⟩ (Nat.le_of_ble_eq_true rfl) ⟨(Nat.le_of_ble_eq_true rfl), (Nat.le_of_ble_eq_true rfl)⟩ dX7_swap_33 (fun r_33 b_33 hp_33 _ => ?_)
        obtain ⟨rfl, I_33, A_33, rfl, hR_33⟩ := hp_33
        have hP_33 : MP (A_33 1) T.1 := hR_33.2.1
        dsimp only [jrepl, List.set, jstk]
        refine j_aload_n hC dX7_swap_36 rfl rfl ?_
        refine j_iload_n hC dX7_swap_37 rfl rfl ?_
        refine j_iload_n hC dX7_swap_38 rfl rfl ?_
        have hs1 : 1 ≤ (A_33 1 (106 + l)).toInt := pos_1 hP_33 (by omega) (by rw [← hy, hs0]; exact (stk_pos (mp_stk hmp (show l < 3 by omega)).2.1).mpr c_26)
        refine j_callV hC [0] (c_X7_puts g _ _ _ T.1 j l _ _ hP_33 hx hj hy (by omega) hs1) mX7_puts k887 rfl rfl rfl rfl rfl ⟨(Nat.le_of_ble_eq_true rfl), (Nat.le_of_ble_eq_true rfl)⟩ (Nat.le_of_ble_eq_true rfl) ⟨(Nat.le_of_ble_eq_true rfl), (Nat.le_of_ble_eq_true rfl)⟩ dX7_swap_39 (fun r_39 b_39 hp_39 _ => ?_)
        obtain ⟨rfl, A_39, rfl, hK_39, hT_39, hP_39⟩ := hp_39
        dsimp only [jrepl, List.set, jstk]
        refine j_aload_n hC dX7_swap_42 rfl rfl ?_
        refine j_get hC uX7 0 0 0 rfl rfl k724 rfl dX7_swap_43 ?_
        refine j_bipush hC (106) dX7_swap_46 (by decide) ?_
        refine j_iload_n hC dX7_swap_48 rfl rfl ?_
        refine j_iadd hC dX7_swap_49 ?_
        refine j_ildN hC (m := 106 + l) 0 1 rfl rfl (by rw [hy]; exact nI_add 106 l) (by omega) dX7_swap_50 ?_
        refine j_iret hC hQ rfl rfl (Nat.le_of_ble_eq_true rfl) (Nat.le_of_ble_eq_true rfl) dX7_swap_51 rfl ?_
        exact mw_c (by unfold oSwap; rw [if_neg (fun q => q.elim (fun w => w hlx) (fun w => w (in_iff.mp (jb1 c_12)))), if_neg (by rw [hs0]; exact c_26), hcl, hlg]) (by rw [(mp_stk hP_39 (show l < 3 by omega)).1, hy]; exact stk_to (by omega)) (mi_set hR_33 hK_39 hT_39 (by rw [hy]; exact hP_39))
      · skip
        refine j_bipush hC (-2) dX7_swap_29 (by decide) ?_
        refine j_iret hC hQ rfl rfl (Nat.le_of_ble_eq_true rfl) (Nat.le_of_ble_eq_true rfl) dX7_swap_31 rfl ?_
        exact mw_o (by unfold oSwap; rw [if_neg (fun q => q.elim (fun w => w hlx) (fun w => w (in_iff.mp (jb1 c_12)))), if_pos (by rw [hs0]; exact c_26)]) hMI
    · skip
      refine j_iconst hC (-1) dX7_swap_15 (by decide) ?_
      refine j_iret hC hQ rfl rfl (Nat.le_of_ble_eq_true rfl) (Nat.le_of_ble_eq_true rfl) dX7_swap_16 rfl ?_
      first | exact mw_o (by unfold oSwap; rw [if_pos (Or.inl (fun q => jb0 c_5 ((in_len hq0 hk10).mpr q)))]) hMI | exact mw_o (by unfold oSwap; rw [if_pos (Or.inr (fun q => jb0 c_12 (in_iff.mpr q)))]) hMI
set_option maxHeartbeats 1000000 in
set_option maxRecDepth 100000 in
theorem c_X7_swapAll (g : jG) (d : Nat → Nat) (T : St3) (b : List va_W) (x : Int32) (h : MW g d T b) : Con g yX7_swapAll cX7_swapAll 5 (some .int) 3 66 0 0 [.ref (d 0), .int x] b (fun rr bb => rr = some (.int (oSwapAll T x).1) ∧ MW g d (oSwapAll T x).2 bb) := by
  obtain ⟨I, A, rfl, hMI⟩ := h
  obtain ⟨hm1, hmp, hmh, hmt⟩ := id hMI
  obtain ⟨⟨hq0, hk10⟩, hql, ⟨hq91, hn6⟩, hqr, ⟨hq4, hnd⟩, ⟨hq5, hqh⟩, ⟨hq6, hqs⟩, hq9, hq10⟩ := id hmp
  refine Con.of (own := RX7) (lv := [(0, .ref (d 0)), (1, .int x)]) (by decide) rfl (Nat.le_of_ble_eq_true rfl) rfl ?_
  intro E hC hQ hN
  refine j_iload_n hC dX7_swapAll_0 rfl rfl ?_
  refine j_iconst hC (1) dX7_swapAll_1 (by decide) ?_
  refine j_sipush hC (9000) dX7_swapAll_2 (by decide) ?_
  refine j_callSR hC [] (c_X7_in g _ _ _) mX7_in k781 rfl rfl rfl ⟨(Nat.le_of_ble_eq_true rfl), (Nat.le_of_ble_eq_true rfl)⟩ (Nat.le_of_ble_eq_true rfl) ⟨(Nat.le_of_ble_eq_true rfl), (Nat.le_of_ble_eq_true rfl)⟩ dX7_swapAll_5 ?_
  dsimp only [jrepl, List.set, jstk]
  refine j_if_ne hC dX7_swapAll_8 (tgt := 13) (by decide) (fun c_8 => ?_) (fun c_8 => ?_)
  · skip
    refine j_aload_n hC dX7_swapAll_13 rfl rfl ?_
    refine j_callV hC [0] (c_X7_records g _ _ _ T hMI) mX7_records k791 rfl rfl rfl rfl rfl ⟨(Nat.le_of_ble_eq_true rfl), (Nat.le_of_ble_eq_true rfl)⟩ (Nat.le_of_ble_eq_true rfl) ⟨(Nat.le_of_ble_eq_true rfl), (Nat.le_of_ble_eq_true rfl)⟩ dX7_swapAll_14 (fun r_14 b_14 hp_14 _ => ?_)
    obtain ⟨rfl, I_14, A_14, rfl, hR_14⟩ := hp_14
    have hP_14 : MP (A_14 1) T.1 := hR_14.2.1
    dsimp only [jrepl, List.set, jstk]
    refine j_iconst hC (0) dX7_swapAll_17 (by decide) ?_
    refine j_istore_n hC dX7_swapAll_18 rfl rfl rfl rfl (fun v_18 e_18 => ?_)
    refine j_iconst hC (0) dX7_swapAll_19 (by decide) ?_
    refine j_istore_n hC dX7_swapAll_20 rfl rfl rfl rfl (fun v_20 e_20 => ?_)
    have L_21 : ∀ (fu : Nat) (i : Nat) (x2 x3 : Int32) (A1 : Nat → jF) (hfu : (bLs T.1).length + 1 ≤ i + fu) (hi : i ≤ (bLs T.1).length) (h2 : x2 = (swA x T.1 i).2) (h3 : x3 = nI i) (hPi : MP (A1 1) (swI x T.1 i)) (hK : ∀ q, q ≠ 1 → A1 q = A_14 q) (hT : ∀ q, 111 ≤ q → q < 999 → A1 1 q = A_14 1 q), J g (jRm 3 66 0 0) E 5 21 [(0, .ref (d 0)), (1, .int x), (2, .int x2), (3, .int x3)] [] [mc g d I_14 A1] (0) (0) := by
      intro fu
      induction fu with
      | zero => intro i x2 x3 A1 hfu hi h2 h3 hPi hK hT; exact absurd hfu (by omega)
      | succ fu ih_21 =>
        intro i x2 x3 A1 hfu hi h2 h3 hPi hK hT
        refine j_iload_n hC dX7_swapAll_21 rfl rfl ?_
        refine j_aload_n hC dX7_swapAll_22 rfl rfl ?_
        refine j_callVR hC [0] (c_X7_lights g _ _ _) mX7_lights k787 rfl rfl rfl rfl rfl ⟨(Nat.le_of_ble_eq_true rfl), (Nat.le_of_ble_eq_true rfl)⟩ (Nat.le_of_ble_eq_true rfl) ⟨(Nat.le_of_ble_eq_true rfl), (Nat.le_of_ble_eq_true rfl)⟩ dX7_swapAll_23 ?_
        dsimp only [jrepl, List.set, jstk]
        refine j_icmp_ge hC dX7_swapAll_26 (tgt := 78) (by decide) (fun c_26 => ?_) (fun c_26 => ?_)
        · skip
          have hie : i = (bLs T.1).length := by have q := hPi.1.1; rw [swI_len] at q; exact Nat.le_antisymm hi (jge q h3 (by omega) (by omega) c_26)
          refine j_iload_n hC dX7_swapAll_78 rfl rfl ?_
          refine j_iret hC hQ rfl rfl (Nat.le_of_ble_eq_true rfl) (Nat.le_of_ble_eq_true rfl) dX7_swapAll_79 rfl ?_
          exact mw_c (by unfold oSwapAll; rw [if_neg (Int32.not_lt.mpr (jb1 c_8).1), if_pos (jb1 c_8).2]) (by rw [h2, hie]) (mi_set hR_14 hK hT (by rw [← swI_end, ← hie]; exact hPi))
        · skip
          have hik : i < (bLs T.1).length := by have q := hPi.1.1; rw [swI_len] at q; exact jlt q h3 (by omega) (by omega) c_26
          have hli : lok 5400 (A1 1) i (LI T.1 i) := by have q := hPi.2.1 i (by rw [swI_len]; exact hik); rw [show LI (swI x T.1 i) i = LI T.1 i from pm_cur (h := bHrs T.1) (pa := bPa T.1) (fa := bFa T.1) hik] at q; exact q
          obtain ⟨ll, hll, hlx⟩ := lamp_nI hli.2.2.1.2.2.1
          refine j_aload_n hC dX7_swapAll_29 rfl rfl ?_
          refine j_iload_n hC dX7_swapAll_30 rfl rfl ?_
          refine j_callVR hC [0] (c_X7_restOf g _ _ _ _ _ _ _ h3 (by omega) hli) mX7_restOf k895 rfl rfl rfl rfl rfl ⟨(Nat.le_of_ble_eq_true rfl), (Nat.le_of_ble_eq_true rfl)⟩ (Nat.le_of_ble_eq_true rfl) ⟨(Nat.le_of_ble_eq_true rfl), (Nat.le_of_ble_eq_true rfl)⟩ dX7_swapAll_31 ?_
          dsimp only [jrepl, List.set, jstk]
          refine j_iload_n hC dX7_swapAll_34 rfl rfl ?_
          refine j_icmp_ge hC dX7_swapAll_35 (tgt := 51) (by decide) (fun c_35 => ?_) (fun c_35 => ?_)
          · skip
            refine j_bipush hC (-9) dX7_swapAll_51 (by decide) ?_
            refine j_istore hC dX7_swapAll_53 rfl rfl rfl (fun v_53 e_53 => ?_)
            refine j_iload hC dX7_swapAll_55 rfl ?_
            refine j_bipush hC (-9) dX7_swapAll_57 (by decide) ?_
            refine j_icmp_eq hC dX7_swapAll_59 (tgt := 72) (by decide) (fun c_59 => ?_) (fun c_59 => ?_)
            · skip
              refine j_iinc hC (1) dX7_swapAll_72 rfl rfl rfl rfl rfl (fun v_72 e_72 => ?_)
              refine j_goto hC dX7_swapAll_75 (tgt := 21) (by decide) ?_
              refine j_pick [0, 1, 2, 3] ?_
              first | exact ih_21 (i + 1) _ _ _ (by omega) (by omega) (by rw [e_69, hy2, h2]) (jsucc e_72 h3) (by rw [hy1]; exact hP_66) (fun q hq => (hK_66 q hq).trans (hK q hq)) (fun q q1 q2 => (hT_66 q q1 q2).trans (hT q q1 q2)) | exact ih_21 (i + 1) _ _ _ (by omega) (by omega) (h2.trans (swI_no hik (Or.inl c_35)).2.symm) (jsucc e_72 h3) (by rw [(swI_no hik (Or.inl c_35)).1]; exact hPi) hK hT | exact ih_21 (i + 1) _ _ _ (by omega) (by omega) (h2.trans (swI_no hik (Or.inr (e_53.symm.trans c_59))).2.symm) (jsucc e_72 h3) (by rw [(swI_no hik (Or.inr (e_53.symm.trans c_59))).1]; exact hPi) hK hT | exact ih_21 (i + 1) _ _ _ (by omega) (by omega) (h2.trans (swI_no hik (Or.inr (e_53.symm.trans (Decidable.not_not.mp c_59)))).2.symm) (jsucc e_72 h3) (by rw [(swI_no hik (Or.inr (e_53.symm.trans (Decidable.not_not.mp c_59)))).1]; exact hPi) hK hT
            · exact absurd c_59 (by rw [e_53]; decide)
          · skip
            refine j_aload_n hC dX7_swapAll_38 rfl rfl ?_
            refine j_aload_n hC dX7_swapAll_39 rfl rfl ?_
            refine j_iload_n hC dX7_swapAll_40 rfl rfl ?_
            refine j_iconst hC (3) dX7_swapAll_41 (by decide) ?_
            refine j_callVR hC [0] (c_X7_of g _ _ _ _ 3 _ _ h3 (by omega) (by decide) (by decide)) mX7_of k811 rfl rfl rfl rfl rfl ⟨(Nat.le_of_ble_eq_true rfl), (Nat.le_of_ble_eq_true rfl)⟩ (Nat.le_of_ble_eq_true rfl) ⟨(Nat.le_of_ble_eq_true rfl), (Nat.le_of_ble_eq_true rfl)⟩ dX7_swapAll_42 ?_
            dsimp only [jrepl, List.set, jstk]
            rw [hli.1 3 (by decide) (by decide)]
            refine j_callVR hC [0] (c_X7_instead g _ _ _ (swI x T.1 i) ll _ hPi hlx hll) mX7_instead k899 rfl rfl rfl rfl rfl ⟨(Nat.le_of_ble_eq_true rfl), (Nat.le_of_ble_eq_true rfl)⟩ (Nat.le_of_ble_eq_true rfl) ⟨(Nat.le_of_ble_eq_true rfl), (Nat.le_of_ble_eq_true rfl)⟩ dX7_swapAll_45 ?_
            dsimp only [jrepl, List.set, jstk]
            refine j_goto hC dX7_swapAll_48 (tgt := 53) (by decide) ?_
            refine j_istore hC dX7_swapAll_53 rfl rfl rfl (fun v_53 e_53 => ?_)
            refine j_iload hC dX7_swapAll_55 rfl ?_
            refine j_bipush hC (-9) dX7_swapAll_57 (by decide) ?_
            refine j_icmp_eq hC dX7_swapAll_59 (tgt := 72) (by decide) (fun c_59 => ?_) (fun c_59 => ?_)
            · skip
              refine j_iinc hC (1) dX7_swapAll_72 rfl rfl rfl rfl rfl (fun v_72 e_72 => ?_)
              refine j_goto hC dX7_swapAll_75 (tgt := 21) (by decide) ?_
              refine j_pick [0, 1, 2, 3] ?_
              first | exact ih_21 (i + 1) _ _ _ (by omega) (by omega) (by rw [e_69, hy2, h2]) (jsucc e_72 h3) (by rw [hy1]; exact hP_66) (fun q hq => (hK_66 q hq).trans (hK q hq)) (fun q q1 q2 => (hT_66 q q1 q2).trans (hT q q1 q2)) | exact ih_21 (i + 1) _ _ _ (by omega) (by omega) (h2.trans (swI_no hik (Or.inl c_35)).2.symm) (jsucc e_72 h3) (by rw [(swI_no hik (Or.inl c_35)).1]; exact hPi) hK hT | exact ih_21 (i + 1) _ _ _ (by omega) (by omega) (h2.trans (swI_no hik (Or.inr (e_53.symm.trans c_59))).2.symm) (jsucc e_72 h3) (by rw [(swI_no hik (Or.inr (e_53.symm.trans c_59))).1]; exact hPi) hK hT | exact ih_21 (i + 1) _ _ _ (by omega) (by omega) (h2.trans (swI_no hik (Or.inr (e_53.symm.trans (Decidable.not_not.mp c_59)))).2.symm) (jsucc e_72 h3) (by rw [(swI_no hik (Or.inr (e_53.symm.trans (Decidable.not_not.mp c_59)))).1]; exact hPi) hK hT
            · skip
              have hl9 : ¬ lipS (swA x T.1 i).1 (LI T.1 i 3) = -9 := by rw [← show v_53 = lipS (swA x T.1 i).1 (LI T.1 i 3) from e_53]; exact c_59
              obtain ⟨hko, hkp⟩ := lip_ok (by rw [hlx]; exact nI_ok ll hll) hl9
              obtain ⟨kl, hkl, hkx⟩ := okLamp_nI hko
              have hv : v_53 = nI kl := e_53.trans hkx
              obtain ⟨hy1, hy2⟩ := swI_yes hik c_35 hkx (by rw [← hkx]; exact hl9) (nI_ok kl hkl)
              refine j_aload_n hC dX7_swapAll_62 rfl rfl ?_
              refine j_iload_n hC dX7_swapAll_63 rfl rfl ?_
              refine j_iload hC dX7_swapAll_64 rfl ?_
              refine j_callV hC [0] (c_X7_puts g _ _ _ (swI x T.1 i) i kl _ _ hPi h3 (by rw [swI_len]; exact hik) hv hkl (pos_1 hPi hkl (by rw [← hkx]; exact hkp))) mX7_puts k887 rfl rfl rfl rfl rfl ⟨(Nat.le_of_ble_eq_true rfl), (Nat.le_of_ble_eq_true rfl)⟩ (Nat.le_of_ble_eq_true rfl) ⟨(Nat.le_of_ble_eq_true rfl), (Nat.le_of_ble_eq_true rfl)⟩ dX7_swapAll_66 (fun r_66 b_66 hp_66 _ => ?_)
              obtain ⟨rfl, A_66, rfl, hK_66, hT_66, hP_66⟩ := hp_66
              dsimp only [jrepl, List.set, jstk]
              refine j_iinc hC (1) dX7_swapAll_69 rfl rfl rfl rfl rfl (fun v_69 e_69 => ?_)
              refine j_iinc hC (1) dX7_swapAll_72 rfl rfl rfl rfl rfl (fun v_72 e_72 => ?_)
              refine j_goto hC dX7_swapAll_75 (tgt := 21) (by decide) ?_
              refine j_pick [0, 1, 2, 3] ?_
              first | exact ih_21 (i + 1) _ _ _ (by omega) (by omega) (by rw [e_69, hy2, h2]) (jsucc e_72 h3) (by rw [hy1]; exact hP_66) (fun q hq => (hK_66 q hq).trans (hK q hq)) (fun q q1 q2 => (hT_66 q q1 q2).trans (hT q q1 q2)) | exact ih_21 (i + 1) _ _ _ (by omega) (by omega) (h2.trans (swI_no hik (Or.inl c_35)).2.symm) (jsucc e_72 h3) (by rw [(swI_no hik (Or.inl c_35)).1]; exact hPi) hK hT | exact ih_21 (i + 1) _ _ _ (by omega) (by omega) (h2.trans (swI_no hik (Or.inr (e_53.symm.trans c_59))).2.symm) (jsucc e_72 h3) (by rw [(swI_no hik (Or.inr (e_53.symm.trans c_59))).1]; exact hPi) hK hT | exact ih_21 (i + 1) _ _ _ (by omega) (by omega) (h2.trans (swI_no hik (Or.inr (e_53.symm.trans (Decidable.not_not.mp c_59)))).2.symm) (jsucc e_72 h3) (by rw [(swI_no hik (Or.inr (e_53.symm.trans (Decidable.not_not.mp c_59)))).1]; exact hPi) hK hT
    refine j_pick [0, 1, 2, 3] ?_
    exact L_21 ((bLs T.1).length + 1) 0 _ _ _ (by omega) (by omega) (by rw [e_18]; rfl) (e_20.trans nI_0.symm) (by rw [swI_0]; exact hP_14) (fun _ _ => rfl) (fun _ _ _ => rfl)
  · skip
    refine j_iconst hC (-1) dX7_swapAll_11 (by decide) ?_
    refine j_iret hC hQ rfl rfl (Nat.le_of_ble_eq_true rfl) (Nat.le_of_ble_eq_true rfl) dX7_swapAll_12 rfl ?_
    exact mw_o (by unfold oSwapAll; by_cases q : x < 1; rw [if_pos q]; rw [if_neg q, if_neg (fun w => jb0 c_8 ⟨Int32.not_lt.mp q, w⟩)]) hMI
