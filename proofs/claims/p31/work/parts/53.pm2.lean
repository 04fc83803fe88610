/-! p31: routes: what reaches a place, what is dark, how long it lasts -/
theorem ov_reach {T : St3} {p r : Int32} {q : Nat} (hp : p = nI q) (hq : q ≤ 200) : (oReaching T p r).1 = sReach T.1 p r := by
  unfold oReaching
  rw [if_pos (show okPlace p from ⟨by rw [hp]; exact nI_pos (by omega), by rw [hp]; exact nI_nlt (a := 200) (b := q) hq (by omega)⟩)]
theorem ov_ra {T : St3} {x w : Int32} {r : Nat} (hx : x = nI r) (hr : r < (bRs T.1).length) (h6 : (bRs T.1).length ≤ 6) (h0 : ¬ w < 0) (hw : ¬ 6 < w) : (oRouteAt T x w).1 = raV T.1 x w := by
  unfold oRouteAt
  rw [if_pos ⟨hLX_of (by omega) hr hx, h0, hw⟩]
theorem ra_0 {T : St3} {x : Int32} {r : Nat} (hx : x = nI r) (hr : r < (bRs T.1).length) (h6 : (bRs T.1).length ≤ 6) : (oRouteAt T x 0).1 = nI (raS T.1 r) := by
  rw [ov_ra hx hr h6 (by decide) (by decide), hx]
  show nI (raS T.1 (nI r).toNatClampNeg) = _
  rw [nI_cl (by omega)]
theorem ra_1 {T : St3} {x : Int32} {r : Nat} (hx : x = nI r) (hr : r < (bRs T.1).length) (h6 : (bRs T.1).length ≤ 6) : (oRouteAt T x 1).1 = nI (rbS T.1 r) := by
  rw [ov_ra hx hr h6 (by decide) (by decide), hx]
  show nI (rbS T.1 (nI r).toNatClampNeg) = _
  rw [nI_cl (by omega)]
theorem ra_2 {T : St3} {x : Int32} {r : Nat} (hx : x = nI r) (hr : r < (bRs T.1).length) (h6 : (bRs T.1).length ≤ 6) : (oRouteAt T x 2).1 = sDark T.1 (raS T.1 r) (rbS T.1 r) 1023 := by
  rw [ov_ra hx hr h6 (by decide) (by decide), hx]
  show sDark T.1 (raS T.1 (nI r).toNatClampNeg) (rbS T.1 (nI r).toNatClampNeg) 1023 = _
  rw [nI_cl (by omega)]
theorem ra_3 {T : St3} {x : Int32} {r : Nat} (hx : x = nI r) (hr : r < (bRs T.1).length) (h6 : (bRs T.1).length ≤ 6) : (oRouteAt T x 3).1 = if sDark T.1 (raS T.1 r) (rbS T.1 r) 1023 = 0 then 1 else 0 := by
  rw [ov_ra hx hr h6 (by decide) (by decide), hx]
  show (if sDark T.1 (raS T.1 (nI r).toNatClampNeg) (rbS T.1 (nI r).toNatClampNeg) 1023 = 0 then (1 : Int32) else 0) = _
  rw [nI_cl (by omega)]
theorem ra_4 {T : St3} {x : Int32} {r : Nat} (hx : x = nI r) (hr : r < (bRs T.1).length) (h6 : (bRs T.1).length ≤ 6) : (oRouteAt T x 4).1 = sMin T.1 1023 (raS T.1 r) (rbS T.1 r) := by
  rw [ov_ra hx hr h6 (by decide) (by decide), hx]
  show sMin T.1 1023 (raS T.1 (nI r).toNatClampNeg) (rbS T.1 (nI r).toNatClampNeg) = _
  rw [nI_cl (by omega)]
theorem ra_5 {T : St3} {x : Int32} {r : Nat} (hx : x = nI r) (hr : r < (bRs T.1).length) (h6 : (bRs T.1).length ≤ 6) : (oRouteAt T x 5).1 = sMin T.1 (sWo T.1 (sWc T.1 (raS T.1 r) (rbS T.1 r))) (raS T.1 r) (rbS T.1 r) := by
  rw [ov_ra hx hr h6 (by decide) (by decide), hx]
  show sMin T.1 (sWo T.1 (sWc T.1 (raS T.1 (nI r).toNatClampNeg) (rbS T.1 (nI r).toNatClampNeg))) (raS T.1 (nI r).toNatClampNeg) (rbS T.1 (nI r).toNatClampNeg) = _
  rw [nI_cl (by omega)]
theorem ra_6 {T : St3} {x : Int32} {r : Nat} (hx : x = nI r) (hr : r < (bRs T.1).length) (h6 : (bRs T.1).length ≤ 6) : (oRouteAt T x 6).1 = sWc T.1 (raS T.1 r) (rbS T.1 r) := by
  rw [ov_ra hx hr h6 (by decide) (by decide), hx]
  show sWc T.1 (raS T.1 (nI r).toNatClampNeg) (rbS T.1 (nI r).toNatClampNeg) = _
  rw [nI_cl (by omega)]
theorem hld_nat {S : BS} {s : Nat} (hk : (bLs S).length ≤ 10) (h : s < 2 ^ (bLs S).length) : hldS S (nI s) := by
  have hp := pow_1024 hk
  have e : (1 : Int32) <<< (nI (bLs S).length &&& 31) = nI (2 ^ (bLs S).length) := by
    have : ∀ k, k < 11 → (1 : Int32) <<< (nI k &&& 31) = nI (2 ^ k) := by decide
    exact this _ (by omega)
  refine ⟨nI_pos (by omega), ?_⟩
  rw [e]
  exact nI_ge h (by omega)
theorem ov_lasts {T : St3} {x : Int32} {r s : Nat} (hx : x = nI r) (hr : r < (bRs T.1).length) (h6 : (bRs T.1).length ≤ 6) (hk : (bLs T.1).length ≤ 10) (hs : s < 2 ^ (bLs T.1).length) : (oLasts T x (nI s)).1 = sMin T.1 (nI s) (raS T.1 r) (rbS T.1 r) := by
  unfold oLasts
  rw [if_pos ⟨hLX_of (by omega) hr hx, hld_nat hk hs⟩, hx]
  show sMin T.1 (nI s) (raS T.1 (nI r).toNatClampNeg) (rbS T.1 (nI r).toNatClampNeg) = _
  rw [nI_cl (by omega)]
theorem oLasts_2 {T : St3} {x w : Int32} : (oLasts T x w).2 = T := by
  unfold oLasts
  by_cases h : hLX x (bRs T.1).length ∧ hldS T.1 w
  · rw [if_pos h]
  · rw [if_neg h]
theorem rs_ab {S : BS} (hw : rswf (bRs S)) {r : Nat} (hr : r < (bRs S).length) : raS S r ≤ rbS S r ∧ rbS S r ≤ 200 := by
  have h1 := List.getElem?_eq_getElem hr
  obtain ⟨a, b, e, h2, h3⟩ := hw _ (List.getElem_mem hr)
  rw [e] at h1
  unfold raS rbS
  rw [List.getD_eq_getElem?_getD, h1, Option.getD_some, nI_cl (by omega), nI_cl (by omega)]
  exact ⟨h2, h3⟩
/-! how far it is -/
theorem jabs_toInt {x : Int32} (h : -1000 ≤ x.toInt) : (jabs x).toInt = x.toInt.natAbs := by
  unfold jabs
  by_cases c : 0 ≤ x
  · rw [if_pos c]
    rw [Int32.le_iff_toInt_le, jlit0] at c
    omega
  · rw [if_neg c]
    rw [Int32.le_iff_toInt_le, jlit0] at c
    obtain ⟨m, hm, e⟩ : ∃ m : Nat, m ≤ 1000 ∧ x.toInt = -(m : Int) := ⟨x.toInt.natAbs, by omega, by omega⟩
    have ex : x = nI 0 - nI m := by
      apply Int32.toInt_inj.mp
      rw [pk_sub_toInt (by omega) (by omega), e]
      omega
    have e2 : (0 : Int32) - x = nI m := by
      rw [ex, show nI 0 = (0 : Int32) from rfl, Int32.zero_sub, Int32.zero_sub, Int32.neg_neg]
    rw [e2, nI_toInt (by omega), e]
    omega
theorem WL_at {L : jF} (h : WL L) : ∃ a w : Nat, a ≤ 200 ∧ w ≤ 9 ∧ L 0 = nI a ∧ widthOf (L 3) = nI w ∧ widthOf (L 3) = (if L 3 = 0 then 4 else if L 3 = 1 then 6 else 9) := by
  obtain ⟨p, c, b, l, hh, ch, r, e0, p0, e1, c1, e2, b2, e3, l3, -⟩ := h
  refine ⟨p, if l = 0 then 4 else if l = 1 then 6 else 9, p0, ?_, e0, by rw [e3]; exact width_all l (by omega), rfl⟩
  split
  · omega
  · split <;> omega
theorem away_a {L : jF} {x : Int32} {q : Nat} (h : WL L) (hx : x = nI q) (hq : q ≤ 200) (c : ¬ L 0 ≤ x) : L 0 - x = jabs (x - L 0) := by
  obtain ⟨a, w, ha, -, e, -⟩ := WL_at h
  rw [e, hx, nI_leI (by omega) (by omega)] at c
  apply Int32.toInt_inj.mp
  rw [jabs_toInt (by rw [e, hx, pk_sub_toInt (by omega) (by omega)]; omega), e, hx, pk_sub_toInt (by omega) (by omega), pk_sub_toInt (by omega) (by omega)]
  omega
theorem away_b {L : jF} {x : Int32} {q : Nat} (h : WL L) (hx : x = nI q) (hq : q ≤ 200) (c : L 0 ≤ x) : x - L 0 = jabs (x - L 0) := by
  obtain ⟨a, w, ha, -, e, -⟩ := WL_at h
  rw [e, hx, nI_leI (by omega) (by omega)] at c
  apply Int32.toInt_inj.mp
  rw [jabs_toInt (by rw [e, hx, pk_sub_toInt (by omega) (by omega)]; omega), e, hx, pk_sub_toInt (by omega) (by omega)]
  omega
theorem inR_iff {L : jF} {q : Nat} (h : WL L) (hq : q ≤ 200) : inR L q ↔ reachB L (nI q) := by
  obtain ⟨a, w, ha, hw, e, e2, -⟩ := WL_at h
  show ((jmax 0 (L 0 - widthOf (L 3))).toInt ≤ (q : Int) ∧ (q : Int) ≤ (jmin 200 (L 0 + widthOf (L 3))).toInt) ↔ jabs (nI q - L 0) ≤ widthOf (L 3)
  rw [e, e2, Int32.le_iff_toInt_le, jabs_toInt (by rw [pk_sub_toInt (by omega) (by omega)]; omega), pk_sub_toInt (by omega) (by omega), jmax_toInt, jmin_toInt, pk_sub_toInt (by omega) (by omega), nI_add, nI_toInt (by omega), nI_toInt (by omega), jlit0, jlit200]
  omega
theorem cr_1 {need : Int32} {X : List (Nat × jF)} {p r m : Int32} {j : Nat} (h : reachB (jL X j) p) (hr : r = 0) : cReach need X p r j m = m + 1 := if_pos ⟨h, Or.inl hr⟩
theorem cr_2 {need : Int32} {X : List (Nat × jF)} {p r m : Int32} {j : Nat} (h : ¬ reachB (jL X j) p) : cReach need X p r j m = m := if_neg (fun q => h q.1)
theorem cr_3 {need : Int32} {X : List (Nat × jF)} {p m : Int32} {j : Nat} (h : reachB (jL X j) p) : cReach need X p 1 j m = m + (if need ≤ endL (jL X j) then 1 else 0) := by
  unfold cReach
  by_cases c : need ≤ endL (jL X j)
  · rw [if_pos ⟨h, Or.inr c⟩, if_pos c]
  · rw [if_neg (fun q => q.2.elim (fun w => absurd w (by decide)) c), if_neg c, Int32.add_zero]
/-! what is dark -/
def rdyAt (S : BS) (q j : Nat) : Prop := bNeed S ≤ endL (lI S j) ∧ reachB (lI S j) (nI q)
theorem look_zero {S : BS} (hwl : ∀ L ∈ bLs S, WL L) (hk : (bLs S).length ≤ 10) {q : Nat} (hq : q ≤ 200) : ∀ k, k ≤ (bLs S).length → ∃ a, a < 2 ^ k ∧ lookN (bNeed S) (lsX (bLs S)) k q = nI a ∧ (a = 0 ↔ ∀ j, j < k → ¬ rdyAt S q j)
  | 0, _ => ⟨0, by decide, rfl, ⟨fun _ j hj => absurd hj (Nat.not_lt_zero j), fun _ => rfl⟩⟩
  | k + 1, h => by
    obtain ⟨a, h1, h2, h3⟩ := look_zero hwl hk hq k (by omega)
    have e : lookN (bNeed S) (lsX (bLs S)) (k + 1) q = lookStep (bNeed S) (lsX (bLs S)) q k (lookN (bNeed S) (lsX (bLs S)) k q) := rfl
    have hp : 2 ^ k < 2 ^ (k + 1) := Nat.pow_lt_pow_right (by decide) (by omega)
    have hL := WS_L hwl (j := k) (by omega)
    rw [e, h2]
    unfold lookStep
    by_cases c : ¬ endL (jL (lsX (bLs S)) k) < bNeed S ∧ inR (jL (lsX (bLs S)) k) q
    · rw [if_pos c, bits_sh k (by omega), nI_or]
      refine ⟨_, Nat.or_lt_two_pow (by omega) hp, rfl, ⟨fun w => ?_, fun w => ?_⟩⟩
      · have : 2 ^ k ≤ a ||| 2 ^ k := Nat.right_le_or
        have := Nat.two_pow_pos k
        omega
      · exact absurd ⟨Int32.not_lt.mp c.1, (inR_iff hL hq).mp c.2⟩ (w k (by omega))
    · rw [if_neg c]
      refine ⟨a, by omega, rfl, h3.trans ⟨fun w j hj => ?_, fun w j hj => w j (by omega)⟩⟩
      rcases Nat.lt_or_ge j k with z | z
      · exact w j z
      · have z2 : j = k := by omega
        rw [z2]
        exact fun y => c ⟨Int32.not_lt.mpr y.1, (inR_iff hL hq).mpr y.2⟩
theorem cnt_zero {P : Nat → Prop} [DecidablePred P] {m : Nat} (hm : m < 2 ^ 31) : jiter (fun t (n : Int32) => if P t then n + 1 else n) 0 m = 0 ↔ ∀ t, t < m → ¬ P t := by
  obtain ⟨c, h1, h2, h3⟩ := cnt_char (P := P) m
  rw [h1, ← h3]
  exact ⟨fun q => nI_injN (by omega) (by decide) (q.trans nI_0.symm), fun q => by rw [q]; rfl⟩
theorem reach_zero {S : BS} {q : Nat} (hk : (bLs S).length ≤ 10) : sReach S (nI q) 1 = 0 ↔ ∀ j, j < (bLs S).length → ¬ rdyAt S q j := by
  refine (cnt_zero (P := fun j => reachB (jL (lsX (bLs S)) j) (nI q) ∧ ((1 : Int32) = 0 ∨ bNeed S ≤ endL (jL (lsX (bLs S)) j))) (m := (bLs S).length) (by omega)).trans ?_
  exact ⟨fun h j hj y => h j hj ⟨y.2, Or.inr y.1⟩, fun h j hj y => h j hj ⟨y.2.elim (fun w => absurd w (by decide)) (fun w => w), y.1⟩⟩
theorem dark_at {S : BS} (hwl : ∀ L ∈ bLs S, WL L) (hk : (bLs S).length ≤ 10) {q : Nat} (hq : q ≤ 200) : lookN (bNeed S) (lsX (bLs S)) (bLs S).length q &&& 1023 = 0 ↔ sReach S (nI q) 1 = 0 := by
  obtain ⟨a, h1, h2, h3⟩ := look_zero hwl hk hq _ (Nat.le_refl _)
  have hp := pow_1024 hk
  rw [reach_zero hk, ← h3, h2, and_full (by omega)]
  exact ⟨fun w => nI_injN (by omega) (by decide) (w.trans nI_0.symm), fun w => by rw [w]; rfl⟩
/-- the places of a route that none reaches that is ready, as the law counts them -/
def drk (S : BS) (a m : Nat) : Int32 := jiter (fun t n => if sReach S (nI (a + t)) 1 = 0 then n + 1 else n) 0 m
theorem drk_dark {S : BS} (hwl : ∀ L ∈ bLs S, WL L) (hk : (bLs S).length ≤ 10) {a b : Nat} (hb : b ≤ 200) : drk S a (b + 1 - a) = sDark S a b 1023 := by
  unfold drk
  show _ = darkX _ _ _ _ _ _
  unfold darkX
  refine jiter_congr (fun t ht n => ?_)
  have h := dark_at hwl hk (q := a + t) (by omega)
  by_cases c : sReach S (nI (a + t)) 1 = 0
  · rw [if_pos c, if_pos (h.mpr c)]
  · rw [if_neg c, if_neg (fun w => c (h.mp w))]
theorem dark_no {S : BS} (hwl : ∀ L ∈ bLs S, WL L) (hk : (bLs S).length ≤ 10) {a b : Nat} (hb : b ≤ 200) : ∃ c, sDark S a b 1023 = nI c ∧ c ≤ 201 ∧ (c = 0 ↔ ∀ p, a ≤ p → p ≤ b → ∃ j, j < (bLs S).length ∧ rdyAt S p j) := by
  obtain ⟨c, h1, h2, h3⟩ := dark_char (need := bNeed S) (X := lsX (bLs S)) (k := (bLs S).length) (a := a) (b := b) (s := 1023) hb
  refine ⟨c, h1, h2, h3.trans ⟨fun w p p1 p2 => ?_, fun w p p1 p2 y => ?_⟩⟩
  · refine Classical.byContradiction (fun z => w p p1 p2 ?_)
    rw [dark_at hwl hk (by omega), reach_zero hk]
    exact fun j hj y => z ⟨j, hj, y⟩
  · rw [dark_at hwl hk (by omega), reach_zero hk] at y
    obtain ⟨j, hj, z⟩ := w p p1 p2
    exact y j hj z
/-! how long a route lasts -/
theorem minG_nat {S : BS} (hwl : ∀ L ∈ bLs S, WL L) {s : Int32} {q : Nat} (hq : q ≤ 200) : ∀ k, k ≤ (bLs S).length → ∃ m : Nat, minG (lsX (bLs S)) k s q = nI m ∧ m ≤ 225 ∧ ∀ v : Nat, 0 < v → (v ≤ m ↔ ∃ j, j < k ∧ (s >>> (nI j &&& 31)) &&& 1 = 1 ∧ reachB (lI S j) (nI q) ∧ (v : Int) ≤ (endL (lI S j)).toInt)
  | 0, _ => ⟨0, rfl, by omega, fun v hv => ⟨fun w => by omega, fun ⟨j, hj, _⟩ => absurd hj (Nat.not_lt_zero j)⟩⟩
  | k + 1, h => by
    obtain ⟨m, h1, h2, h3⟩ := minG_nat hwl (s := s) hq k (by omega)
    have hL := WS_L hwl (j := k) (by omega)
    obtain ⟨e, he, he2⟩ := WL_end hL
    have e1 : minG (lsX (bLs S)) (k + 1) s q = minStep (lsX (bLs S)) s q k (minG (lsX (bLs S)) k s q) := rfl
    rw [e1, h1]
    unfold minStep
    by_cases c : (s >>> (nI k &&& 31)) &&& 1 = 1 ∧ inR (jL (lsX (bLs S)) k) q
    · rw [if_pos c]
      refine ⟨max m e, ?_, by omega, fun v hv => ⟨fun w => ?_, fun ⟨j, hj, y1, y2, y3⟩ => ?_⟩⟩
      · apply Int32.toInt_inj.mp
        rw [jmax_toInt, show endL (jL (lsX (bLs S)) k) = nI e from he, nI_toInt (by omega), nI_toInt (by omega), nI_toInt (by omega)]
        omega
      · by_cases z : v ≤ m
        · obtain ⟨j, hj, y⟩ := (h3 v hv).mp z
          exact ⟨j, by omega, y⟩
        · exact ⟨k, by omega, c.1, (inR_iff hL hq).mp c.2, by rw [show endL (lI S k) = nI e from he, nI_toInt (by omega)]; omega⟩
      · rcases Nat.lt_or_ge j k with z | z
        · have := (h3 v hv).mpr ⟨j, z, y1, y2, y3⟩
          omega
        · have z2 : j = k := by omega
          rw [z2, show endL (lI S k) = nI e from he, nI_toInt (by omega)] at y3
          omega
    · rw [if_neg c]
      refine ⟨m, rfl, h2, fun v hv => (h3 v hv).trans ⟨fun ⟨j, hj, y⟩ => ⟨j, by omega, y⟩, fun ⟨j, hj, y1, y2, y3⟩ => ?_⟩⟩
      rcases Nat.lt_or_ge j k with z | z
      · exact ⟨j, z, y1, y2, y3⟩
      · have z2 : j = k := by omega
        rw [z2] at y1 y2
        exact absurd ⟨y1, (inR_iff hL hq).mpr y2⟩ c
/-- some light of the set is there for so many minutes at a place -/
def litFor (S : BS) (s : Int32) (v q : Nat) : Prop := ∃ j, j < (bLs S).length ∧ (s >>> (nI j &&& 31)) &&& 1 = 1 ∧ reachB (lI S j) (nI q) ∧ (v : Int) ≤ (endL (lI S j)).toInt
theorem minN_nat {S : BS} (hwl : ∀ L ∈ bLs S, WL L) {s : Int32} {a : Nat} : ∀ m, a + m ≤ 200 → ∃ c : Nat, jiter (fun t x => jmin x (minG (lsX (bLs S)) (bLs S).length s (a + 1 + t))) (minG (lsX (bLs S)) (bLs S).length s a) m = nI c ∧ c ≤ 225 ∧ ∀ v : Nat, 0 < v → (v ≤ c ↔ ∀ p, a ≤ p → p ≤ a + m → litFor S s v p)
  | 0, h => by
    obtain ⟨m, h1, h2, h3⟩ := minG_nat hwl (s := s) (q := a) (by omega) (bLs S).length (Nat.le_refl _)
    refine ⟨m, h1, h2, fun v hv => (h3 v hv).trans ⟨fun w p p1 p2 => ?_, fun w => w a (Nat.le_refl a) (by omega)⟩⟩
    have : p = a := by omega
    rw [this]
    exact w
  | m + 1, h => by
    obtain ⟨c, h1, h2, h3⟩ := minN_nat hwl (s := s) (a := a) m (by omega)
    obtain ⟨d, g1, g2, g3⟩ := minG_nat hwl (s := s) (q := a + 1 + m) (by omega) (bLs S).length (Nat.le_refl _)
    refine ⟨min c d, ?_, by omega, fun v hv => ?_⟩
    · rw [jit_s, h1, g1, jmin_nat (by omega) (by omega)]
    · have e1 := h3 v hv
      have e2 := g3 v hv
      constructor
      · intro w p p1 p2
        rcases Nat.lt_or_ge p (a + 1 + m) with z | z
        · exact e1.mp (by omega) p p1 (by omega)
        · have z2 : p = a + 1 + m := by omega
          rw [z2]
          exact e2.mp (by omega)
      · intro w
        have w1 := e1.mpr (fun p p1 p2 => w p p1 (by omega))
        have w2 := e2.mpr (w (a + 1 + m) (by omega) (by omega))
        omega
theorem sMin_nat {S : BS} (hwl : ∀ L ∈ bLs S, WL L) {s : Int32} {a b : Nat} (hab : a ≤ b) (hb : b ≤ 200) : ∃ c : Nat, sMin S s a b = nI c ∧ c ≤ 225 ∧ ∀ v : Nat, 0 < v → (v ≤ c ↔ ∀ p, a ≤ p → p ≤ b → litFor S s v p) := by
  obtain ⟨c, h1, h2, h3⟩ := minN_nat hwl (s := s) (a := a) (b - a) (by omega)
  refine ⟨c, h1, h2, fun v hv => ?_⟩
  rw [show b = a + (b - a) by omega]
  exact h3 v hv
theorem lit_mono {S : BS} {s t : Int32} {v q : Nat} (h : ∀ j, j < (bLs S).length → (s >>> (nI j &&& 31)) &&& 1 = 1 → (t >>> (nI j &&& 31)) &&& 1 = 1) (w : litFor S s v q) : litFor S t v q := by
  obtain ⟨j, hj, y1, y2⟩ := w
  exact ⟨j, hj, h j hj y1, y2⟩
theorem sMin_mono {S : BS} (hwl : ∀ L ∈ bLs S, WL L) {s t : Int32} {a b : Nat} (hab : a ≤ b) (hb : b ≤ 200) (h : ∀ j, j < (bLs S).length → (s >>> (nI j &&& 31)) &&& 1 = 1 → (t >>> (nI j &&& 31)) &&& 1 = 1) : ¬ sMin S t a b < sMin S s a b := by
  obtain ⟨c, c1, c2, c3⟩ := sMin_nat hwl (s := s) hab hb
  obtain ⟨d, d1, d2, d3⟩ := sMin_nat hwl (s := t) hab hb
  rw [c1, d1, nI_ltI (by omega) (by omega)]
  intro w
  have h1 := (c3 c (by omega)).mp (Nat.le_refl c)
  have h2 := (d3 c (by omega)).mpr (fun p p1 p2 => lit_mono h (h1 p p1 p2))
  omega
theorem bit_full : ∀ j, j < 10 → ((1023 : Int32) >>> (nI j &&& 31)) &&& 1 = 1 := by decide +kernel
theorem bit_all {k j : Nat} (hk : k ≤ 10) (hj : j < k) : (nI (2 ^ k - 1) >>> (nI j &&& 31)) &&& 1 = 1 :=
  (bits_tb j (by omega) _ (full_lt k (by omega))).mpr (full_bit hj)
theorem sMin_all {S : BS} (hwl : ∀ L ∈ bLs S, WL L) (hk : (bLs S).length ≤ 10) {a b : Nat} (hab : a ≤ b) (hb : b ≤ 200) : sMin S 1023 a b = sMin S (nI (2 ^ (bLs S).length - 1)) a b := by
  have h1 := sMin_mono hwl (s := 1023) (t := nI (2 ^ (bLs S).length - 1)) hab hb (fun j hj _ => bit_all hk hj)
  have h2 := sMin_mono hwl (s := nI (2 ^ (bLs S).length - 1)) (t := 1023) hab hb (fun j hj _ => bit_full j (by omega))
  rw [Int32.lt_iff_toInt_lt] at h1 h2
  apply Int32.toInt_inj.mp
  omega
theorem bit_none : ∀ j, j < 10 → ¬ ((0 : Int32) >>> (nI j &&& 31)) &&& 1 = 1 := by decide +kernel
theorem sMin_0 {S : BS} (hwl : ∀ L ∈ bLs S, WL L) (hk : (bLs S).length ≤ 10) {a b : Nat} (hab : a ≤ b) (hb : b ≤ 200) : sMin S 0 a b = 0 := by
  obtain ⟨c, c1, c2, c3⟩ := sMin_nat hwl (s := 0) hab hb
  rcases Nat.eq_zero_or_pos c with z | z
  · rw [c1, z]; rfl
  · obtain ⟨j, hj, y, -⟩ := (c3 c z).mp (Nat.le_refl c) a (Nat.le_refl a) hab
    exact absurd y (bit_none j (by omega))
theorem min_need {S : BS} (hwl : ∀ L ∈ bLs S, WL L) (hk : (bLs S).length ≤ 10) {d : Nat} (hd : bNeed S = nI d) (h1 : 1 ≤ d) (h180 : d ≤ 180) {a b : Nat} (hab : a ≤ b) (hb : b ≤ 200) : sDark S a b 1023 = 0 ↔ bNeed S ≤ sMin S 1023 a b := by
  obtain ⟨c, c1, c2, c3⟩ := dark_no hwl hk (a := a) hb
  obtain ⟨m, m1, m2, m3⟩ := sMin_nat hwl (s := 1023) hab hb
  rw [c1, m1, hd, nI_leI (by omega) (by omega), m3 d (by omega)]
  have h0 : nI c = 0 ↔ c = 0 := ⟨fun q => nI_injN (by omega) (by decide) (q.trans nI_0.symm), fun q => by rw [q]; rfl⟩
  rw [h0, c3]
  have key : ∀ p, (∃ j, j < (bLs S).length ∧ rdyAt S p j) ↔ litFor S 1023 d p := by
    intro p
    constructor
    · rintro ⟨j, hj, y1, y2⟩
      rw [hd, Int32.le_iff_toInt_le, nI_toInt (by omega)] at y1
      exact ⟨j, hj, bit_full j (by omega), y2, y1⟩
    · rintro ⟨j, hj, -, y2, y1⟩
      exact ⟨j, hj, by rw [hd, Int32.le_iff_toInt_le, nI_toInt (by omega)]; exact y1, y2⟩
  exact ⟨fun w p p1 p2 => (key p).mp (w p p1 p2), fun w p p1 p2 => (key p).mpr (w p p1 p2)⟩
/-! without a circuit -/
theorem wo_nat {X : List (Nat × jF)} {c : Int32} : ∀ k, k ≤ 10 → ∃ a, a < 2 ^ k ∧ jiter (cOther X c) 0 k = nI a
  | 0, _ => ⟨0, by decide, rfl⟩
  | k + 1, h => by
    obtain ⟨a, h1, h2⟩ := wo_nat (X := X) (c := c) k (by omega)
    have hp : 2 ^ k < 2 ^ (k + 1) := Nat.pow_lt_pow_right (by decide) (by omega)
    rw [jit_s, h2]
    unfold cOther
    by_cases q : jL X k 1 = c
    · rw [if_pos q]; exact ⟨a, by omega, rfl⟩
    · rw [if_neg q, bits_sh k (by omega), nI_or]
      exact ⟨_, Nat.or_lt_two_pow (by omega) hp, rfl⟩
abbrev sWm (S : BS) (a b c : Nat) : Int32 := sMin S (sWo S (nI c)) a b
/-- the first circuit without which it lasts shortest, as the law finds it -/
def wcG (S : BS) (a b : Nat) (n : Nat) : Int32 × Int32 := jiter (fun t s => if sWm S a b t < s.2 then (nI t, sWm S a b t) else s) (-1, 1000000) n
def wcC (S : BS) (a b : Nat) (n : Nat) : Int32 × Int32 := jiter (fun t (s : Int32 × Int32) => if sMin S (sWo S (nI (t + 1))) a b < s.2 then (nI (t + 1), sMin S (sWo S (nI (t + 1))) a b) else s) (0, sMin S (sWo S 0) a b) n
theorem wcG_s {S : BS} {a b n : Nat} : wcG S a b (n + 1) = if sWm S a b n < (wcG S a b n).2 then (nI n, sWm S a b n) else wcG S a b n := rfl
theorem wcC_s {S : BS} {a b n : Nat} : wcC S a b (n + 1) = if sWm S a b (n + 1) < (wcC S a b n).2 then (nI (n + 1), sWm S a b (n + 1)) else wcC S a b n := rfl
theorem wc_eq {S : BS} (hwl : ∀ L ∈ bLs S, WL L) {a b : Nat} (hab : a ≤ b) (hb : b ≤ 200) : ∀ n, wcG S a b (n + 1) = wcC S a b n ∧ ∃ c : Nat, wcC S a b n = (nI c, sWm S a b c)
  | 0 => by
    obtain ⟨m, m1, m2, -⟩ := sMin_nat hwl (s := sWo S (nI 0)) hab hb
    have e : wcG S a b 0 = (-1, 1000000) := rfl
    have e2 : wcC S a b 0 = (nI 0, sWm S a b 0) := rfl
    refine ⟨?_, 0, e2⟩
    rw [wcG_s, e, e2, if_pos]
    show sMin S (sWo S (nI 0)) a b < nI 1000000
    rw [m1, nI_ltI (by omega) (by omega)]
    omega
  | n + 1 => by
    obtain ⟨h1, c, h2⟩ := wc_eq hwl hab hb n
    rw [wcG_s, wcC_s, h1]
    refine ⟨rfl, ?_⟩
    by_cases q : sWm S a b (n + 1) < (wcC S a b n).2
    · rw [if_pos q]; exact ⟨n + 1, rfl⟩
    · rw [if_neg q]; exact ⟨c, h2⟩
theorem wc_end {S : BS} (hwl : ∀ L ∈ bLs S, WL L) {a b : Nat} (hab : a ≤ b) (hb : b ≤ 200) : sWc S a b = (wcG S a b 4).1 ∧ sMin S (sWo S (sWc S a b)) a b = (wcG S a b 4).2 := by
  obtain ⟨h1, c, h2⟩ := wc_eq hwl hab hb 3
  have e : sWc S a b = (wcC S a b 3).1 := rfl
  rw [e, h1, h2]
  exact ⟨rfl, rfl⟩
theorem wc_le {S : BS} (hwl : ∀ L ∈ bLs S, WL L) (hk : (bLs S).length ≤ 10) {a b : Nat} (hab : a ≤ b) (hb : b ≤ 200) : ¬ sMin S 1023 a b < (wcG S a b 4).2 := by
  rw [← (wc_end hwl hab hb).2]
  exact sMin_mono hwl hab hb (fun j hj _ => bit_full j (by omega))
