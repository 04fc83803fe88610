/-! hours, one by one and in stretches -/
theorem lok_cg {c : Int} {P : jF} {i : Nat} {L M : jF} (h : lok c P i L) (e : ∀ f, f < 9 → M f = L f) : lok c P i M := by
  obtain ⟨h1, h2, ⟨r1, r2, r3, r4, r5, r6⟩, h4⟩ := h
  refine ⟨fun f hf q => (h1 f hf q).trans (e f hf).symm, by rw [e 7 (by decide), e 3 (by decide)]; exact h2, ?_, h4⟩
  unfold rg
  rw [e 0 (by decide), e 2 (by decide), e 3 (by decide), e 4 (by decide), e 5 (by decide), e 6 (by decide)]
  exact ⟨r1, r2, r3, r4, r5, r6⟩
def wfL (L : jF) : Prop := rg 5400 L ∧ 0 ≤ (L 7).toInt ∧ (L 7).toInt ≤ 9059
theorem life_t {x : Int32} : (lifeOf x).toInt = 3000 ∨ (lifeOf x).toInt = 6000 ∨ (lifeOf x).toInt = 9000 := by
  unfold lifeOf
  by_cases q : x = 0
  · rw [if_pos q]; exact Or.inl (by decide)
  · rw [if_neg q]
    by_cases q : x = 1
    · rw [if_pos q]; exact Or.inr (Or.inl (by decide))
    · rw [if_neg q]; exact Or.inr (Or.inr (by decide))
theorem lok_wf {P : jF} {i : Nat} {L : jF} (h : lok 5400 P i L) : wfL L := by
  obtain ⟨h1, h2, h3, h4, h5⟩ := h
  have hl := life_t (x := L 3)
  refine ⟨h3, ?_⟩
  rw [h2, jmax_toInt, z_t, isub_t rfl rfl (by omega) (by omega)]
  omega
theorem hoursL_f {L : jF} {h : Int32} : ∀ k, hoursL L h k = if k = 6 then jmin (fullL L) (L 6 + h * capL L) else if k = 7 then (if L 4 = 0 then L 7 else jmax 0 (L 7 - 60 * h)) else L k := by
  intro k
  unfold hoursL restPass
  by_cases q : L 4 = 0
  · rw [if_pos q]
    by_cases w : k = 6
    · rw [w, pk_us, if_pos rfl]
    · rw [pk_un w, if_neg w]
      by_cases z : k = 7
      · rw [z, if_pos rfl, if_pos q]
      · rw [if_neg z]
  · rw [if_neg q]
    by_cases w : k = 6
    · rw [w, pk_us, if_pos rfl]; rfl
    · rw [pk_un w, if_neg w]
      by_cases z : k = 7
      · rw [z, pk_us, if_pos rfl, if_neg q]
      · rw [pk_un z, if_neg z]
theorem cap_hours {L : jF} {h : Int32} : capL (hoursL L h) = capL L := by
  unfold capL
  rw [hoursL_f 2, hoursL_f 5, if_neg (by decide), if_neg (by decide), if_neg (by decide), if_neg (by decide)]
theorem full_hours {L : jF} {h : Int32} : fullL (hoursL L h) = fullL L := by
  unfold fullL
  rw [cap_hours]
theorem hours_add {L : jF} {a : Nat} (hL : wfL L) (ha : a ≤ 3000) : hoursL (hoursL L (nI a)) 1 = hoursL L (nI (a + 1)) := by
  obtain ⟨⟨r1, r2, r3, r4, r5, r6⟩, r7, r8⟩ := hL
  funext k
  rw [hoursL_f k, hoursL_f (L := L) (h := nI (a + 1)) k, cap_hours, full_hours]
  by_cases w : k = 6
  · rw [if_pos w, if_pos w, hoursL_f 6, if_pos rfl]
    obtain ⟨p, hp, e⟩ := cap_nat r2 r5
    obtain ⟨c, hc, e2, hc2⟩ := jnat_of r6.1
    have hap : a * p ≤ 3000 * 225 := Nat.mul_le_mul ha hp
    have hap2 : (a + 1) * p ≤ 3001 * 225 := Nat.mul_le_mul (by omega) hp
    unfold fullL
    rw [e, e2, show (24 : Int32) = nI 24 from rfl, show (1 : Int32) = nI 1 from rfl, pk_mul, pk_mul, pk_mul, pk_mul, nI_add, jmin_nat (by omega) (by omega), nI_add, nI_add, jmin_nat (by omega) (by omega), jmin_nat (by omega) (by omega)]
    have e3 : (a + 1) * p = a * p + p := Nat.succ_mul a p
    exact congrArg nI (by omega)
  · rw [if_neg w, if_neg w]
    by_cases z : k = 7
    · rw [if_pos z, if_pos z, hoursL_4]
      by_cases q : L 4 = 0
      · rw [if_pos q, if_pos q, hoursL_f 7, if_neg (by decide), if_pos rfl, if_pos q]
      · rw [if_neg q, if_neg q, hoursL_f 7, if_neg (by decide), if_pos rfl, if_neg q]
        have e1 : (60 * nI a : Int32).toInt = 60 * a := by rw [show (60 : Int32) = nI 60 from rfl, pk_mul, nI_toInt (by omega)]; omega
        have e2 : (60 * nI (a + 1) : Int32).toInt = 60 * (a + 1) := by rw [show (60 : Int32) = nI 60 from rfl, pk_mul, nI_toInt (by omega)]; omega
        have e3 : (60 * (1 : Int32)).toInt = 60 := by decide
        have e4 : (L 7 - 60 * nI a).toInt = (L 7).toInt - 60 * a := isub_t rfl e1 (by omega) (by omega)
        apply i_eq
        rw [jmax_toInt, jmax_toInt, isub_t (jmax_toInt.trans (by rw [z_t, e4])) e3 (by omega) (by omega), isub_t rfl e2 (by omega) (by omega), z_t]
        omega
    · rw [if_neg z, if_neg z, hoursL_f k, if_neg w, if_neg z]
theorem hours_wf {L : jF} {a : Nat} (hL : wfL L) (ha : a ≤ 3000) : wfL (hoursL L (nI a)) := by
  obtain ⟨⟨r1, r2, r3, r4, r5, r6⟩, r7, r8⟩ := hL
  obtain ⟨p, hp, e⟩ := cap_nat r2 r5
  obtain ⟨c, hc, e2, hc2⟩ := jnat_of r6.1
  have hap : a * p ≤ 3000 * 225 := Nat.mul_le_mul ha hp
  have h6 : 0 ≤ (hoursL L (nI a) 6).toInt ∧ (hoursL L (nI a) 6).toInt ≤ 5400 := by
    rw [hoursL_f 6, if_pos rfl]
    unfold fullL
    rw [e, e2, show (24 : Int32) = nI 24 from rfl, pk_mul, pk_mul, nI_add, jmin_nat (by omega) (by omega), nI_toInt (by omega)]
    omega
  have h7 : 0 ≤ (hoursL L (nI a) 7).toInt ∧ (hoursL L (nI a) 7).toInt ≤ 9059 := by
    rw [hoursL_f 7, if_neg (by decide), if_pos rfl]
    by_cases q : L 4 = 0
    · rw [if_pos q]; exact ⟨r7, r8⟩
    · rw [if_neg q]
      have e1 : (60 * nI a : Int32).toInt = 60 * a := by rw [show (60 : Int32) = nI 60 from rfl, pk_mul, nI_toInt (by omega)]; omega
      rw [jmax_toInt, z_t, isub_t rfl e1 (by omega) (by omega)]
      omega
  refine ⟨⟨?_, ?_, ?_, ?_, ?_, h6⟩, h7⟩
  · rw [hoursL_f 0, if_neg (by decide), if_neg (by decide)]; exact r1
  · rw [hoursL_f 2, if_neg (by decide), if_neg (by decide)]; exact r2
  · rw [hoursL_f 3, if_neg (by decide), if_neg (by decide)]; exact r3
  · rw [hoursL_f 4, if_neg (by decide), if_neg (by decide)]; exact r4
  · rw [hoursL_f 5, if_neg (by decide), if_neg (by decide)]; exact r5
theorem age_wf {L : jF} {y : Int32} (hL : wfL L) (hy : 0 ≤ y.toInt ∧ y.toInt ≤ 1000) : wfL (ageL L y) := by
  obtain ⟨hr, h7⟩ := hL
  have h5 := wear_rg hr.2.2.2.2.1 hy
  exact ⟨clip_rg (rg_5 hr h5.1 h5.2), h7⟩
theorem str_wf {h : Int32} {L : jF} {a : Nat} (hL : wfL L) (ha : a ≤ 3000) : wfL (strL h (nI a) L) := by
  unfold strL
  by_cases q : ¬ h - h / 1000 * 1000 = 0
  · rw [if_pos q]; exact hours_wf hL ha
  · rw [if_neg q]; exact age_wf (hours_wf hL ha) (by decide)
def hrL (h : Nat) : Nat → jF → jF
  | 0, L => L
  | m + 1, L => strL (nI (h + m + 1)) 1 (hrL h m L)
theorem hrL_wf {h : Nat} {L : jF} (hL : wfL L) : ∀ m, wfL (hrL h m L)
  | 0 => hL
  | m + 1 => str_wf (a := 1) (hrL_wf hL m) (by decide)
theorem hrL_add {h a : Nat} {L : jF} : ∀ b, hrL h (a + b) L = hrL (h + a) b (hrL h a L)
  | 0 => rfl
  | b + 1 => by
    show strL (nI (h + (a + b) + 1)) 1 (hrL h (a + b) L) = strL (nI (h + a + b + 1)) 1 (hrL (h + a) b (hrL h a L))
    rw [hrL_add b, show h + (a + b) = h + a + b by omega]
theorem str_no {n : Nat} {x : Int32} {L : jF} (hn : n ≤ 103000) (c : n % 1000 ≠ 0) : strL (nI n) x L = hoursL L x := by
  refine strL_a (fun q => c ?_)
  rw [show (1000 : Int32) = nI 1000 from rfl, pk_rem (by omega) (by decide) (by decide)] at q
  exact nI_injN (by omega) (by decide) (q.trans nI_0.symm)
theorem str_ye {n : Nat} {x : Int32} {L : jF} (hn : n ≤ 103000) (c : n % 1000 = 0) : strL (nI n) x L = ageL (hoursL L x) 1 := by
  refine strL_b ?_
  rw [show (1000 : Int32) = nI 1000 from rfl, pk_rem (by omega) (by decide) (by decide), c]; exact nI_0
theorem stretch {h : Nat} {L : jF} (hL : wfL L) (hh : h ≤ 100000) : ∀ m, 1 ≤ m → m ≤ 3000 → (∀ u, 1 ≤ u → u < m → (h + u) % 1000 ≠ 0) → hrL h m L = strL (nI (h + m)) (nI m) L
  | 0, h1, _, _ => absurd h1 (by decide)
  | 1, _, _, _ => rfl
  | m + 2, _, h2, hu => by
    have ih := stretch hL hh (m + 1) (by omega) (by omega) (fun u u1 u2 => hu u u1 (by omega))
    show strL (nI (h + (m + 1) + 1)) 1 (hrL h (m + 1) L) = strL (nI (h + (m + 2))) (nI (m + 2)) L
    rw [ih, str_no (by omega) (hu (m + 1) (by omega) (by omega)), show h + (m + 1) + 1 = h + (m + 2) by omega]
    by_cases q : (h + (m + 2)) % 1000 = 0
    · rw [str_ye (by omega) q, str_ye (by omega) q, hours_add hL (by omega)]
    · rw [str_no (by omega) q, str_no (by omega) q, hours_add hL (by omega)]
theorem lhp_hr : ∀ (f : Nat) {h l : Nat} {L : jF}, wfL L → h % 1000 = 0 → h + l ≤ 100000 → l ≤ 1000 * f → lhp f (nI l) (nI h) L = hrL h l L
  | 0, h, l, L, _, _, _, h4 => by rw [show l = 0 by omega]; rfl
  | f + 1, h, l, L, hL, h2, h3, h4 => by
    rcases Nat.eq_zero_or_pos l with q | q
    · subst q; exact lhp_0 (by decide)
    · have e1 : jmin (nI l) 1000 = nI (min l 1000) := jmin_nat (a := l) (b := 1000) (by omega) (by decide)
      rw [lhp_1 (fun w => by rw [← nI_0, nI_leI (by omega) (by decide)] at w; omega), e1, nI_add]
      rw [← stretch hL (by omega) (min l 1000) (by omega) (by omega) (fun u u1 u2 => by omega)]
      rcases Nat.lt_or_ge l 1000 with w | w
      · rw [show min l 1000 = l by omega]
        refine lhp_0 ?_
        rw [ile_t, z_t, iadd_t (nI_toInt (by omega)) (show (-1000 : Int32).toInt = -1000 by decide) (by omega) (by omega)]
        omega
      · rw [show min l 1000 = 1000 by omega, show nI l + -1000 = nI (l - 1000) from i_eq (by rw [iadd_t (nI_toInt (by omega)) (show (-1000 : Int32).toInt = -1000 by decide) (by omega) (by omega), nI_toInt (by omega)]; omega)]
        rw [lhp_hr f (hrL_wf hL 1000) (by omega) (by omega) (by omega), ← hrL_add, show 1000 + (l - 1000) = l by omega]
theorem pas_hr {h m : Nat} {L : jF} (hL : wfL L) (h1 : 1 ≤ m) (h2 : m ≤ 2000) (h3 : h + m ≤ 100000) : pasL (nI h) (nI m) L = hrL h m L := by
  unfold pasL
  have hr : h % 1000 < 1000 := Nat.mod_lt _ (by decide)
  rw [hmod (by omega), show (1000 : Int32) = nI 1000 from rfl, pk_sub (by omega), jmin_nat (by omega) (by omega), pk_sub (by omega), nI_add]
  rw [← stretch hL (by omega) (min m (1000 - h % 1000)) (by omega) (by omega) (fun u u1 u2 => by omega)]
  rcases Nat.lt_or_ge m (1000 - h % 1000) with w | w
  · rw [show min m (1000 - h % 1000) = m by omega, Nat.sub_self]
    exact lhp_0 (by decide)
  · rw [show min m (1000 - h % 1000) = 1000 - h % 1000 by omega, lhp_hr 4 (hrL_wf hL _) (by omega) (by omega) (by omega), ← hrL_add, show 1000 - h % 1000 + (m - (1000 - h % 1000)) = m by omega]
/-- one hour of a building -/
def hrS (S : BS) : BS := sMap S (fun _ L => strL (bHrs S + 1) 1 L) (bHrs S + 1) (bPa S) (bFa S)
def hrsS (S : BS) (m : Nat) : BS := jiter (fun _ U => hrS U) S m
theorem map_map {S : BS} {f g' : jF → jF} {h h' pa fa : Int32} : sMap (sMap S (fun _ L => f L) h pa fa) (fun _ L => g' L) h' pa fa = sMap S (fun _ L => g' (f L)) h' pa fa := by
  have e : ((bLs S).mapIdx (fun _ L => f L)).mapIdx (fun _ L => g' L) = (bLs S).mapIdx (fun _ L => g' (f L)) := by
    apply List.ext_getElem?
    intro j
    rw [List.getElem?_mapIdx, List.getElem?_mapIdx, List.getElem?_mapIdx]
    cases (bLs S)[j]? <;> rfl
  unfold sMap
  exact congrArg (fun z => (z, _)) e
theorem map_cg {S : BS} {f g' : Nat → jF → jF} {h pa fa : Int32} (e : ∀ j, j < (bLs S).length → f j (LI S j) = g' j (LI S j)) : sMap S f h pa fa = sMap S g' h pa fa := by
  have e : (bLs S).mapIdx f = (bLs S).mapIdx g' := by
    apply List.ext_getElem?
    intro j
    rw [List.getElem?_mapIdx, List.getElem?_mapIdx]
    rcases Nat.lt_or_ge j (bLs S).length with w | w
    · rw [LI_get w]; exact congrArg some (e j w)
    · rw [List.getElem?_eq_none w]; rfl
  unfold sMap
  rw [e]
theorem map_id {S : BS} : sMap S (fun _ L => L) (bHrs S) (bPa S) (bFa S) = S := by
  have e : (bLs S).mapIdx (fun _ L => L) = bLs S := by
    apply List.ext_getElem?
    intro j
    rw [List.getElem?_mapIdx]
    cases (bLs S)[j]? <;> rfl
  unfold sMap
  rw [e]
theorem hrs_map {S : BS} {h : Nat} (hh : bHrs S = nI h) : ∀ m, hrsS S m = sMap S (fun _ L => hrL h m L) (nI (h + m)) (bPa S) (bFa S)
  | 0 => by
    have e : hrsS S 0 = S := rfl
    rw [e, Nat.add_zero, ← hh]
    exact map_id.symm
  | m + 1 => by
    have e : hrsS S (m + 1) = hrS (hrsS S m) := rfl
    rw [e, hrs_map hh m]
    have e2 : hrS (sMap S (fun _ L => hrL h m L) (nI (h + m)) (bPa S) (bFa S)) = sMap (sMap S (fun _ L => hrL h m L) (nI (h + m)) (bPa S) (bFa S)) (fun _ L => strL (nI (h + m) + 1) 1 L) (nI (h + m) + 1) (bPa S) (bFa S) := rfl
    rw [e2, map_map (f := hrL h m) (g' := strL (nI (h + m) + 1) 1), nI_1]
    rfl
theorem hrs_pas {S : BS} {h m : Nat} (hh : bHrs S = nI h) (hw : ∀ j, j < (bLs S).length → wfL (LI S j)) (h1 : 1 ≤ m) (h2 : m ≤ 2000) (h3 : h + m ≤ 100000) : hrsS S m = pasS (nI m) S := by
  rw [hrs_map hh]
  unfold pasS
  rw [hh, nI_add]
  exact map_cg (fun j hj => (pas_hr (hw j hj) h1 h2 h3).symm)
theorem MP_wf {P : jF} {S : BS} (h : MP P S) : ∀ j, j < (bLs S).length → wfL (LI S j) := fun j hj => lok_wf (h.2.1 j hj)
theorem MP_hour {P Q : jF} {S : BS} {f : Nat → jF → jF} {h v pa fa : Int32} {n : Nat} (hp : MP P (sMap S f h pa fa)) (e : Q = upd P 105 v) (hv : v = nI n) (hn : n ≤ 100000) : MP Q (sMap S f v pa fa) := by
  obtain ⟨⟨h1, h2⟩, h3, ⟨h4, h5⟩, h6, ⟨h7, h8⟩, ⟨h9, h10⟩, ⟨h11, h12⟩, h13, h14⟩ := hp
  subst e
  refine ⟨⟨h1, h2⟩, fun i hi => lok_out (h3 i hi) rfl (by have h8 : i < ((bLs S).mapIdx f).length := hi; have h9 : ((bLs S).mapIdx f).length ≤ 10 := h2; omega), ⟨h4, h5⟩, fun r hr => ?_, ⟨h7, h8⟩, ⟨rfl, n, hv, hn⟩, ⟨h11, fun l hl => ?_⟩, h13, h14⟩
  · have : r < (bRs S).length := hr
    have : (bRs S).length ≤ 6 := h5
    rw [pk_un (by omega), pk_un (by omega)]; exact h6 r hr
  · rw [pk_un (by omega)]; exact h12 l hl
theorem MP_pa {P Q : jF} {S : BS} {f : Nat → jF → jF} {i : Nat} {h v pa fa : Int32} (hp : MP P (pmS S f i h pa fa)) (e : Q = upd P 109 v) : MP Q (pmS S f i h v fa) := by
  obtain ⟨⟨h1, h2⟩, h3, ⟨h4, h5⟩, h6, ⟨h7, h8⟩, ⟨h9, h10⟩, ⟨h11, h12⟩, h13, h14⟩ := hp
  subst e
  refine ⟨⟨h1, h2⟩, fun i' hi => lok_out (h3 i' hi) rfl (by have h8 : i' < ((bLs S).mapIdx (fun j L => if j < i then f j L else L)).length := hi; have h9 : ((bLs S).mapIdx (fun j L => if j < i then f j L else L)).length ≤ 10 := h2; omega), ⟨h4, h5⟩, fun r hr => ?_, ⟨h7, h8⟩, ⟨h9, h10⟩, ⟨h11, fun l hl => ?_⟩, rfl, h14⟩
  · have : r < (bRs S).length := hr
    have : (bRs S).length ≤ 6 := h5
    rw [pk_un (by omega), pk_un (by omega)]; exact h6 r hr
  · rw [pk_un (by omega)]; exact h12 l hl
theorem MP_fa {P Q : jF} {S : BS} {f : Nat → jF → jF} {i : Nat} {h v pa fa : Int32} (hp : MP P (pmS S f i h pa fa)) (e : Q = upd P 110 v) : MP Q (pmS S f i h pa v) := by
  obtain ⟨⟨h1, h2⟩, h3, ⟨h4, h5⟩, h6, ⟨h7, h8⟩, ⟨h9, h10⟩, ⟨h11, h12⟩, h13, h14⟩ := hp
  subst e
  refine ⟨⟨h1, h2⟩, fun i' hi => lok_out (h3 i' hi) rfl (by have h8 : i' < ((bLs S).mapIdx (fun j L => if j < i then f j L else L)).length := hi; have h9 : ((bLs S).mapIdx (fun j L => if j < i then f j L else L)).length ≤ 10 := h2; omega), ⟨h4, h5⟩, fun r hr => ?_, ⟨h7, h8⟩, ⟨h9, h10⟩, ⟨h11, fun l hl => ?_⟩, h13, rfl⟩
  · have : r < (bRs S).length := hr
    have : (bRs S).length ≤ 6 := h5
    rw [pk_un (by omega), pk_un (by omega)]; exact h6 r hr
  · rw [pk_un (by omega)]; exact h12 l hl
theorem hr_l60 {P Q : jF} {i : Nat} {L : jF} {v : Int32} (h : lok 5400 P i L) (c1 : L 4 = 1) (c2 : ¬ L 7 ≤ 0) (e : Q = upd P (1 + 9 * i + 7) v) (hv : v = P (1 + 9 * i + 7) + 60) : lok 5400 Q i (restPass L 1) := by
  obtain ⟨h1, h2, h3, h4, h5⟩ := id h
  have hl := life_t (x := L 3)
  have e1 : (lifeOf (L 3) - P (1 + 9 * i + 7)).toInt = (lifeOf (L 3)).toInt - (P (1 + 9 * i + 7)).toInt := isub_t rfl rfl (by omega) (by omega)
  rw [h2, ile_t, jmax_toInt, z_t, e1] at c2
  have e2 : v.toInt = (P (1 + 9 * i + 7)).toInt + 60 := by rw [hv]; exact iadd_t rfl (show (60 : Int32).toInt = 60 by decide) (by omega) (by omega)
  have e3 : restPass L 1 = upd L 7 (jmax 0 (L 7 - 60 * 1)) := if_neg (by rw [c1]; decide)
  rw [e3]
  refine lok_lit h e (by omega) (by omega) (i_eq ?_)
  rw [h2, jmax_toInt, jmax_toInt, isub_t (jmax_toInt.trans (by rw [z_t, e1])) (show (60 * 1 : Int32).toInt = 60 by decide) (by omega) (by omega), isub_t rfl e2 (by omega) (by omega), z_t]
  omega
theorem hr_l0 {P Q : jF} {i : Nat} {L : jF} {v : Int32} (h : lok 5400 P i L) (c : L 4 = 0 ∨ L 7 ≤ 0) (e : Q = upd P (1 + 9 * i + 7) v) (hv : v = P (1 + 9 * i + 7) + 0) : lok 5400 Q i (restPass L 1) := by
  have e2 : Q = P := by
    rw [e, hv, Int32.add_zero]
    funext q
    by_cases w : q = 1 + 9 * i + 7
    · rw [w, pk_us]
    · rw [pk_un w]
  rw [e2]
  refine lok_cg h (fun f hf => ?_)
  unfold restPass
  by_cases q : L 4 = 0
  · rw [if_pos q]
  · rw [if_neg q]
    by_cases w : f = 7
    · rw [w, pk_us]
      have h7 := (lok_wf h).2
      have c := c.resolve_left q
      rw [ile_t, z_t] at c
      apply i_eq
      rw [jmax_toInt, isub_t rfl (show (60 * 1 : Int32).toInt = 60 by decide) (by omega) (by omega), z_t]
      omega
    · rw [pk_un w]
theorem hr_ch {L : jF} : ∀ f, hoursL L 1 f = upd (upd (restPass L 1) 6 (restPass L 1 6 + capL (restPass L 1))) 6 (jmin (upd (restPass L 1) 6 (restPass L 1 6 + capL (restPass L 1)) 6) (fullL (upd (restPass L 1) 6 (restPass L 1 6 + capL (restPass L 1))))) f := by
  intro f
  unfold hoursL
  by_cases w : f = 6
  · rw [w, pk_us, pk_us, pk_us, Int32.one_mul]
    have e : fullL (upd (restPass L 1) 6 (restPass L 1 6 + capL (restPass L 1))) = fullL (restPass L 1) := rfl
    rw [e]
    apply i_eq
    rw [jmin_toInt, jmin_toInt]
    omega
  · rw [pk_un w, pk_un w, pk_un w]
theorem rest_rg {L : jF} {c : Int} (h : rg c L) : rg c (restPass L 1) := by
  unfold restPass
  by_cases q : L 4 = 0
  · rw [if_pos q]; exact h
  · rw [if_neg q]; exact h
theorem ch_rg {L : jF} (h : rg 5400 L) : rg 5625 (upd L 6 (L 6 + capL L)) := by
  obtain ⟨p, hp, e⟩ := cap_nat h.2.1 h.2.2.2.2.1
  have h6 := h.2.2.2.2.2
  have e2 : (L 6 + capL L).toInt = (L 6).toInt + p := iadd_t rfl (by rw [e, nI_toInt (by omega)]) (by omega) (by omega)
  exact rg_6 h (by rw [e2]; omega) (by rw [e2]; omega)
def hrM (S : BS) : BS := sMap S (fun _ L => hoursL L 1) (bHrs S + 1) (bPa S) (bFa S)
theorem hr_a {S : BS} (c : ¬ (bHrs S + 1) - (bHrs S + 1) / 1000 * 1000 = 0) : hrM S = hrS S := map_cg (fun j hj => (strL_a c).symm)
theorem hr_b {S : BS} (c : (bHrs S + 1) - (bHrs S + 1) / 1000 * 1000 = 0) : pmS (hrM S) (fun _ L => ageL L 1) (bLs (hrM S)).length (bHrs S + 1) (bPa S) (bFa S) = hrS S := by
  rw [pm_end]
  unfold hrM
  rw [map_map (f := fun L => hoursL L 1) (g' := fun L => ageL L 1)]
  exact map_cg (fun j hj => (strL_b c).symm)
theorem hr_c {S : BS} (c : (bLs S).length = 0) : hrM S = hrS S := map_cg (fun j hj => absurd hj (by omega))
theorem hrM_len {S : BS} : (bLs (hrM S)).length = (bLs S).length := by show ((bLs S).mapIdx _).length = _; rw [List.length_mapIdx]
theorem hr_fin {P : jF} {S : BS} {i : Nat} (h : MP P (pmS (hrM S) (fun _ L => ageL L 1) i (bHrs S + 1) (bPa S) (bFa S))) (h0 : i = 0 ∨ bHrs S + 1 - (bHrs S + 1) / 1000 * 1000 = 0) (hi : i = (bLs (hrM S)).length) : MP P (hrS S) := by
  rcases h0 with q | q
  · rw [q, show pmS (hrM S) (fun _ L => ageL L 1) 0 (bHrs S + 1) (bPa S) (bFa S) = hrM S from pm_0, hr_c (by rw [← hrM_len, ← hi]; exact q)] at h; exact h
  · rw [hi, hr_b q] at h; exact h
set_option maxHeartbeats 1000000 in
set_option maxRecDepth 100000 in
theorem c_X7_hour (g : jG) (d : Nat → Nat) (I : jF) (A : Nat → jF) (S : BS) (n : Nat) (hp : MP (A 1) S) (hn : bHrs S = nI n) (hn5 : n + 1 ≤ 100000) : Con g yX7_hour cX7_hour 2 none 6 131 0 0 [.ref (d 0)] [mc g d I A] (fun r b => r = none ∧ ∃ A1 : Nat → jF, b = [mc g d I A1] ∧ (∀ q, q ≠ 1 → A1 q = A q) ∧ (∀ q, 111 ≤ q → q < 999 → A1 1 q = A 1 q) ∧ MP (A1 1) (hrS S)) := by
  refine Con.of (own := RX7) (lv := [(0, .ref (d 0))]) (by decide) rfl (Nat.le_of_ble_eq_true rfl) rfl ?_
  intro E hC hQ hN
  obtain ⟨⟨hq0, hk10⟩, hql, ⟨hq91, hn6⟩, hqr, ⟨hq4, hnd⟩, ⟨hq5, hqh⟩, ⟨hq6, hqs⟩, hq9, hq10⟩ := id hp
  refine j_iconst hC (0) dX7_hour_0 (by decide) ?_
  refine j_istore_n hC dX7_hour_1 rfl rfl rfl rfl (fun v_1 e_1 => ?_)
  have L_2 : ∀ (fu : Nat) (i : Nat) (x1 : Int32) (A1 : Nat → jF) (hfu : (bLs S).length + 1 ≤ i + fu) (hi : i ≤ (bLs S).length) (h1 : x1 = nI i) (hPi : MP (A1 1) (pmS S (fun _ L => hoursL L 1) i (bHrs S) (bPa S) (bFa S))) (hK : ∀ q, q ≠ 1 → A1 q = A q) (hT : ∀ q, 111 ≤ q → q < 999 → A1 1 q = A 1 q), J g (jRm 6 131 0 0) E 2 2 [(0, .ref (d 0)), (1, .int x1)] [] [mc g d I A1] (0) (0) := by
    intro fu
    induction fu with
    | zero => intro i x1 A1 hfu hi h1 hPi hK hT; exact absurd hfu (by omega)
    | succ fu ih_2 =>
      intro i x1 A1 hfu hi h1 hPi hK hT
      refine j_iload_n hC dX7_hour_2 rfl rfl ?_
      refine j_aload_n hC dX7_hour_3 rfl rfl ?_
      refine j_callVR hC [0] (c_X7_lights g _ _ _) mX7_lights k787 rfl rfl rfl rfl rfl ⟨(Nat.le_of_ble_eq_true rfl), (Nat.le_of_ble_eq_true rfl)⟩ (Nat.le_of_ble_eq_true rfl) ⟨(Nat.le_of_ble_eq_true rfl), (Nat.le_of_ble_eq_true rfl)⟩ dX7_hour_4 ?_
      dsimp only [jrepl, List.set, jstk]
      refine j_icmp_ge hC dX7_hour_7 (tgt := 80) (by decide) (fun c_7 => ?_) (fun c_7 => ?_)
      · skip
        have hie : i = (bLs S).length := Nat.le_antisymm hi (jge (by have q := hPi.1.1; rw [pm_len] at q; exact q) h1 (by omega) (by omega) c_7)
        rw [hie, pm_end] at hPi
        refine j_aload_n hC dX7_hour_80 rfl rfl ?_
        refine j_get hC uX7 0 0 0 rfl rfl k724 rfl dX7_hour_81 ?_
        refine j_bipush hC (105) dX7_hour_84 (by decide) ?_
        refine j_dup2 hC dX7_hour_86 rfl rfl ?_
        refine j_ildN hC (m := 105) 0 1 rfl rfl (by decide) (by decide) dX7_hour_87 ?_
        refine j_iconst hC (1) dX7_hour_88 (by decide) ?_
        refine j_iadd hC dX7_hour_89 ?_
        refine j_st_7_1 (bi := 0) (m := 105) hC rfl (by decide) (by decide) dX7_hour_90 (fun A_90 hA_90 hK_90 => ?_)
        dsimp only [List.set]
        have hPm : MP (A_90 1) (hrM S) := MP_hour hPi (hA_90.trans (by rw [hPi.2.2.2.2.2.1.1]; rfl)) (show bHrs S + 1 = nI (n + 1) by rw [hn]; exact nI_1 n) hn5
        refine j_iconst hC (0) dX7_hour_91 (by decide) ?_
        refine j_istore_n hC dX7_hour_92 rfl rfl rfl rfl (fun v_92 e_92 => ?_)
        have L_93 : ∀ (fu : Nat) (i : Nat) (x1 : Int32) (A2 : Nat → jF) (hfu : (bLs (hrM S)).length + 1 ≤ i + fu) (hi : i ≤ (bLs (hrM S)).length) (h2 : x1 = nI i) (hPj : MP (A2 1) (pmS (hrM S) (fun _ L => ageL L 1) i (bHrs S + 1) (bPa S) (bFa S))) (hK2 : ∀ q, q ≠ 1 → A2 q = A q) (hT2 : ∀ q, 111 ≤ q → q < 999 → A2 1 q = A 1 q) (h0 : i = 0 ∨ bHrs S + 1 - (bHrs S + 1) / 1000 * 1000 = 0), J g (jRm 6 131 0 0) E 2 93 [(0, .ref (d 0)), (1, .int x1)] [] [mc g d I A2] (0) (0) := by
          intro fu
          induction fu with
          | zero => intro i x1 A2 hfu hi h2 hPj hK2 hT2 h0; exact absurd hfu (by omega)
          | succ fu ih_93 =>
            intro i x1 A2 hfu hi h2 hPj hK2 hT2 h0
            refine j_iload_n hC dX7_hour_93 rfl rfl ?_
            refine j_aload_n hC dX7_hour_94 rfl rfl ?_
            refine j_callVR hC [0] (c_X7_lights g _ _ _) mX7_lights k787 rfl rfl rfl rfl rfl ⟨(Nat.le_of_ble_eq_true rfl), (Nat.le_of_ble_eq_true rfl)⟩ (Nat.le_of_ble_eq_true rfl) ⟨(Nat.le_of_ble_eq_true rfl), (Nat.le_of_ble_eq_true rfl)⟩ dX7_hour_95 ?_
            dsimp only [jrepl, List.set, jstk]
            refine j_icmp_ge hC dX7_hour_98 (tgt := 127) (by decide) (fun c_98 => ?_) (fun c_98 => ?_)
            · skip
              refine j_vret hC hQ rfl (Nat.le_of_ble_eq_true rfl) (Nat.le_of_ble_eq_true rfl) dX7_hour_127 rfl ?_
              first | exact ⟨rfl, A2, rfl, hK2, hT2, by have hz : i = 0 := h0.resolve_right (by rw [← show A2 1 105 = bHrs S + 1 from hPj.2.2.2.2.2.1.1]; exact c_112); rw [hz, show pmS (hrM S) (fun _ L => ageL L 1) 0 (bHrs S + 1) (bPa S) (bFa S) = hrM S from pm_0, hr_a (by rw [← show A2 1 105 = bHrs S + 1 from hPj.2.2.2.2.2.1.1]; exact c_112)] at hPj; exact hPj⟩ | exact ⟨rfl, A2, rfl, hK2, hT2, hr_fin hPj h0 (Nat.le_antisymm hi (jge (by have q := hPj.1.1; rw [pm_len] at q; exact q) h2 (by rw [hrM_len]; omega) (by rw [hrM_len] at hi; omega) c_98))⟩
            · skip
              have hik : i < (bLs (hrM S)).length := jlt (by have q := hPj.1.1; rw [pm_len] at q; exact q) h2 (by rw [hrM_len]; omega) (by rw [hrM_len] at hi; omega) c_98
              have hli : lok 5400 (A2 1) i (LI (hrM S) i) := by have q := hPj.2.1 i (by rw [pm_len]; exact hik); rw [pm_cur hik] at q; exact q
              refine j_aload_n hC dX7_hour_101 rfl rfl ?_
              refine j_get hC uX7 0 0 0 rfl rfl k724 rfl dX7_hour_102 ?_
              refine j_bipush hC (105) dX7_hour_105 (by decide) ?_
              refine j_ildN hC (m := 105) 0 1 rfl rfl (by decide) (by decide) dX7_hour_107 ?_
              refine j_sipush hC (1000) dX7_hour_108 (by decide) ?_
              refine j_irem hC dX7_hour_111 (by decide) ?_
              refine j_if_ne hC dX7_hour_112 (tgt := 127) (by decide) (fun c_112 => ?_) (fun c_112 => ?_)
              · skip
                refine j_vret hC hQ rfl (Nat.le_of_ble_eq_true rfl) (Nat.le_of_ble_eq_true rfl) dX7_hour_127 rfl ?_
                first | exact ⟨rfl, A2, rfl, hK2, hT2, by have hz : i = 0 := h0.resolve_right (by rw [← show A2 1 105 = bHrs S + 1 from hPj.2.2.2.2.2.1.1]; exact c_112); rw [hz, show pmS (hrM S) (fun _ L => ageL L 1) 0 (bHrs S + 1) (bPa S) (bFa S) = hrM S from pm_0, hr_a (by rw [← show A2 1 105 = bHrs S + 1 from hPj.2.2.2.2.2.1.1]; exact c_112)] at hPj; exact hPj⟩ | exact ⟨rfl, A2, rfl, hK2, hT2, hr_fin hPj h0 (Nat.le_antisymm hi (jge (by have q := hPj.1.1; rw [pm_len] at q; exact q) h2 (by rw [hrM_len]; omega) (by rw [hrM_len] at hi; omega) c_98))⟩
              · skip
                have hmu : bHrs S + 1 - (bHrs S + 1) / 1000 * 1000 = 0 := by rw [← show A2 1 105 = bHrs S + 1 from hPj.2.2.2.2.2.1.1]; first | exact c_112 | exact Decidable.not_not.mp c_112
                refine j_aload_n hC dX7_hour_115 rfl rfl ?_
                refine j_iload_n hC dX7_hour_116 rfl rfl ?_
                refine j_iconst hC (1) dX7_hour_117 (by decide) ?_
                refine j_callV hC [0] (c_X7_wears g _ _ _ _ _ _ _ _ h2 (by rw [hrM_len] at hik; omega) hli (by decide)) mX7_wears k923 rfl rfl rfl rfl rfl ⟨(Nat.le_of_ble_eq_true rfl), (Nat.le_of_ble_eq_true rfl)⟩ (Nat.le_of_ble_eq_true rfl) ⟨(Nat.le_of_ble_eq_true rfl), (Nat.le_of_ble_eq_true rfl)⟩ dX7_hour_118 (fun r_118 b_118 hp_118 _ => ?_)
                obtain ⟨rfl, A_118, rfl, hK_118, hL_118, hF_118⟩ := hp_118
                dsimp only [jrepl, List.set, jstk]
                refine j_iinc hC (1) dX7_hour_121 rfl rfl rfl rfl rfl (fun v_121 e_121 => ?_)
                refine j_goto hC dX7_hour_124 (tgt := 93) (by decide) ?_
                refine j_pick [0, 1] ?_
                exact ih_93 (i + 1) _ _ (by omega) (by omega) (jsucc e_121 h2) (MP_pm hPj hik hL_118 hF_118) (fun q hq => (hK_118 q hq).trans (hK2 q hq)) (fun q q1 q2 => by rw [hF_118 q (by rw [hrM_len] at hik; omega)]; exact hT2 q q1 q2) (Or.inr hmu)
        refine j_pick [0, 1] ?_
        exact L_93 ((bLs (hrM S)).length + 1) 0 _ _ (by omega) (by omega) (e_92.trans nI_0.symm) (by rw [show pmS (hrM S) (fun _ L => ageL L 1) 0 (bHrs S + 1) (bPa S) (bFa S) = hrM S from pm_0]; exact hPm) (fun q hq => (hK_90 q hq).trans (hK q hq)) (fun q q1 q2 => by rw [hA_90, pk_un (by omega)]; exact hT q q1 q2) (Or.inl rfl)
      · skip
        have hik : i < (bLs S).length := jlt (by have q := hPi.1.1; rw [pm_len] at q; exact q) h1 (by omega) (by omega) c_7
        have hi10 : i ≤ 10 := by omega
        have hli : lok 5400 (A1 1) i (LI S i) := by have q := hPi.2.1 i (by rw [pm_len]; exact hik); rw [pm_cur hik] at q; exact q
        refine j_aload_n hC dX7_hour_10 rfl rfl ?_
        refine j_get hC uX7 0 0 0 rfl rfl k724 rfl dX7_hour_11 ?_
        refine j_aload_n hC dX7_hour_14 rfl rfl ?_
        refine j_iload_n hC dX7_hour_15 rfl rfl ?_
        refine j_bipush hC (7) dX7_hour_16 (by decide) ?_
        refine j_callVR hC [0] (c_X7_at g _ _ _ _ 7 _ _ h1 hi10 (by decide) (by decide)) mX7_at k799 rfl rfl rfl rfl rfl ⟨(Nat.le_of_ble_eq_true rfl), (Nat.le_of_ble_eq_true rfl)⟩ (Nat.le_of_ble_eq_true rfl) ⟨(Nat.le_of_ble_eq_true rfl), (Nat.le_of_ble_eq_true rfl)⟩ dX7_hour_18 ?_
        dsimp only [jrepl, List.set, jstk]
        refine j_dup2 hC dX7_hour_21 rfl rfl ?_
        refine j_ildN hC (m := 1 + 9 * i + 7) 0 1 rfl rfl rfl (by omega) dX7_hour_22 ?_
        refine j_aload_n hC dX7_hour_23 rfl rfl ?_
        refine j_iload_n hC dX7_hour_24 rfl rfl ?_
        refine j_iconst hC (4) dX7_hour_25 (by decide) ?_
        refine j_callVR hC [0] (c_X7_of g _ _ _ _ 4 _ _ h1 hi10 (by decide) (by decide)) mX7_of k811 rfl rfl rfl rfl rfl ⟨(Nat.le_of_ble_eq_true rfl), (Nat.le_of_ble_eq_true rfl)⟩ (Nat.le_of_ble_eq_true rfl) ⟨(Nat.le_of_ble_eq_true rfl), (Nat.le_of_ble_eq_true rfl)⟩ dX7_hour_26 ?_
        dsimp only [jrepl, List.set, jstk]
        refine j_iconst hC (1) dX7_hour_29 (by decide) ?_
        refine j_icmp_ne hC dX7_hour_30 (tgt := 46) (by decide) (fun c_30 => ?_) (fun c_30 => ?_)
        · skip
          try (rw [hli.1 4 (by decide) (by decide)] at c_30)
          refine j_iconst hC (0) dX7_hour_46 (by decide) ?_
          refine j_iadd hC dX7_hour_47 ?_
          refine j_st_7_1 (bi := 0) (m := 1 + 9 * i + 7) hC rfl rfl (by omega) dX7_hour_48 (fun A_48 hA_48 hK_48 => ?_)
          dsimp only [List.set]
          have hl48 : lok 5400 (A_48 1) i (restPass (LI S i) 1) := by first | exact hr_l60 hli (by first | exact c_30 | exact Decidable.not_not.mp c_30) c_38 hA_48 rfl | exact hr_l0 hli (Or.inr c_38) hA_48 rfl | exact hr_l0 hli (Or.inl (hli.2.2.1.2.2.2.1.resolve_right c_30)) hA_48 rfl
          refine j_aload_n hC dX7_hour_49 rfl rfl ?_
          refine j_get hC uX7 0 0 0 rfl rfl k724 rfl dX7_hour_50 ?_
          refine j_aload_n hC dX7_hour_53 rfl rfl ?_
          refine j_iload_n hC dX7_hour_54 rfl rfl ?_
          refine j_bipush hC (6) dX7_hour_55 (by decide) ?_
          refine j_callVR hC [0] (c_X7_at g _ _ _ _ 6 _ _ h1 hi10 (by decide) (by decide)) mX7_at k799 rfl rfl rfl rfl rfl ⟨(Nat.le_of_ble_eq_true rfl), (Nat.le_of_ble_eq_true rfl)⟩ (Nat.le_of_ble_eq_true rfl) ⟨(Nat.le_of_ble_eq_true rfl), (Nat.le_of_ble_eq_true rfl)⟩ dX7_hour_57 ?_
          dsimp only [jrepl, List.set, jstk]
          refine j_dup2 hC dX7_hour_60 rfl rfl ?_
          refine j_ildN hC (m := 1 + 9 * i + 6) 0 1 rfl rfl rfl (by omega) dX7_hour_61 ?_
          refine j_aload_n hC dX7_hour_62 rfl rfl ?_
          refine j_iload_n hC dX7_hour_63 rfl rfl ?_
          refine j_callVR hC [0] (c_X7_capacityOfL g _ _ _ _ _ _ _ h1 hi10 hl48) mX7_capacityOf k803 rfl rfl rfl rfl rfl ⟨(Nat.le_of_ble_eq_true rfl), (Nat.le_of_ble_eq_true rfl)⟩ (Nat.le_of_ble_eq_true rfl) ⟨(Nat.le_of_ble_eq_true rfl), (Nat.le_of_ble_eq_true rfl)⟩ dX7_hour_64 ?_
          dsimp only [jrepl, List.set, jstk]
          refine j_iadd hC dX7_hour_67 ?_
          refine j_st_7_1 (bi := 0) (m := 1 + 9 * i + 6) hC rfl rfl (by omega) dX7_hour_68 (fun A_68 hA_68 hK_68 => ?_)
          dsimp only [List.set]
          have hl68 : lok 5625 (A_68 1) i (upd (restPass (LI S i) 1) 6 (restPass (LI S i) 1 6 + capL (restPass (LI S i) 1))) := lok_set (v := restPass (LI S i) 1 6 + capL (restPass (LI S i) 1)) hl48 (hA_68.trans (by rw [hl48.1 6 (by decide) (by decide)])) (by decide) (by decide) (by decide) (ch_rg hl48.2.2.1)
          refine j_aload_n hC dX7_hour_69 rfl rfl ?_
          refine j_iload_n hC dX7_hour_70 rfl rfl ?_
          refine j_callV hC [0] (c_X7_clips g _ _ _ _ _ _ _ h1 hi10 hl68) mX7_clips k919 rfl rfl rfl rfl rfl ⟨(Nat.le_of_ble_eq_true rfl), (Nat.le_of_ble_eq_true rfl)⟩ (Nat.le_of_ble_eq_true rfl) ⟨(Nat.le_of_ble_eq_true rfl), (Nat.le_of_ble_eq_true rfl)⟩ dX7_hour_71 (fun r_71 b_71 hp_71 _ => ?_)
          obtain ⟨rfl, A_71, rfl, hK_71, hL_71, hF_71⟩ := hp_71
          dsimp only [jrepl, List.set, jstk]
          refine j_iinc hC (1) dX7_hour_74 rfl rfl rfl rfl rfl (fun v_74 e_74 => ?_)
          refine j_goto hC dX7_hour_77 (tgt := 2) (by decide) ?_
          refine j_pick [0, 1] ?_
          exact ih_2 (i + 1) _ _ (by omega) (by omega) (jsucc e_74 h1) (MP_pm hPi hik (lok_cg hL_71 (fun f _ => hr_ch f)) (pfr_tr (pfr_upd (pfr_upd pfr_refl hA_48 (by decide)) hA_68 (by decide)) hF_71)) (fun q hq => (hK_71 q hq).trans ((hK_68 q hq).trans ((hK_48 q hq).trans (hK q hq)))) (fun q q1 q2 => by rw [hF_71 q (by omega), hA_68, pk_un (by omega), hA_48, pk_un (by omega)]; exact hT q q1 q2)
        · skip
          rw [hli.1 4 (by decide) (by decide)] at c_30
          refine j_aload_n hC dX7_hour_33 rfl rfl ?_
          refine j_iload_n hC dX7_hour_34 rfl rfl ?_
          refine j_callVR hC [0] (c_X7_restOf g _ _ _ _ _ _ _ h1 hi10 hli) mX7_restOf k895 rfl rfl rfl rfl rfl ⟨(Nat.le_of_ble_eq_true rfl), (Nat.le_of_ble_eq_true rfl)⟩ (Nat.le_of_ble_eq_true rfl) ⟨(Nat.le_of_ble_eq_true rfl), (Nat.le_of_ble_eq_true rfl)⟩ dX7_hour_35 ?_
          dsimp only [jrepl, List.set, jstk]
          refine j_if_le hC dX7_hour_38 (tgt := 46) (by decide) (fun c_38 => ?_) (fun c_38 => ?_)
          · skip
            try (rw [hli.1 4 (by decide) (by decide)] at c_30)
            refine j_iconst hC (0) dX7_hour_46 (by decide) ?_
            refine j_iadd hC dX7_hour_47 ?_
            refine j_st_7_1 (bi := 0) (m := 1 + 9 * i + 7) hC rfl rfl (by omega) dX7_hour_48 (fun A_48 hA_48 hK_48 => ?_)
            dsimp only [List.set]
            have hl48 : lok 5400 (A_48 1) i (restPass (LI S i) 1) := by first | exact hr_l60 hli (by first | exact c_30 | exact Decidable.not_not.mp c_30) c_38 hA_48 rfl | exact hr_l0 hli (Or.inr c_38) hA_48 rfl | exact hr_l0 hli (Or.inl (hli.2.2.1.2.2.2.1.resolve_right c_30)) hA_48 rfl
            refine j_aload_n hC dX7_hour_49 rfl rfl ?_
            refine j_get hC uX7 0 0 0 rfl rfl k724 rfl dX7_hour_50 ?_
            refine j_aload_n hC dX7_hour_53 rfl rfl ?_
            refine j_iload_n hC dX7_hour_54 rfl rfl ?_
            refine j_bipush hC (6) dX7_hour_55 (by decide) ?_
            refine j_callVR hC [0] (c_X7_at g _ _ _ _ 6 _ _ h1 hi10 (by decide) (by decide)) mX7_at k799 rfl rfl rfl rfl rfl ⟨(Nat.le_of_ble_eq_true rfl), (Nat.le_of_ble_eq_true rfl)⟩ (Nat.le_of_ble_eq_true rfl) ⟨(Nat.le_of_ble_eq_true rfl), (Nat.le_of_ble_eq_true rfl)⟩ dX7_hour_57 ?_
            dsimp only [jrepl, List.set, jstk]
            refine j_dup2 hC dX7_hour_60 rfl rfl ?_
            refine j_ildN hC (m := 1 + 9 * i + 6) 0 1 rfl rfl rfl (by omega) dX7_hour_61 ?_
            refine j_aload_n hC dX7_hour_62 rfl rfl ?_
            refine j_iload_n hC dX7_hour_63 rfl rfl ?_
            refine j_callVR hC [0] (c_X7_capacityOfL g _ _ _ _ _ _ _ h1 hi10 hl48) mX7_capacityOf k803 rfl rfl rfl rfl rfl ⟨(Nat.le_of_ble_eq_true rfl), (Nat.le_of_ble_eq_true rfl)⟩ (Nat.le_of_ble_eq_true rfl) ⟨(Nat.le_of_ble_eq_true rfl), (Nat.le_of_ble_eq_true rfl)⟩ dX7_hour_64 ?_
            dsimp only [jrepl, List.set, jstk]
            refine j_iadd hC dX7_hour_67 ?_
            refine j_st_7_1 (bi := 0) (m := 1 + 9 * i + 6) hC rfl rfl (by omega) dX7_hour_68 (fun A_68 hA_68 hK_68 => ?_)
            dsimp only [List.set]
            have hl68 : lok 5625 (A_68 1) i (upd (restPass (LI S i) 1) 6 (restPass (LI S i) 1 6 + capL (restPass (LI S i) 1))) := lok_set (v := restPass (LI S i) 1 6 + capL (restPass (LI S i) 1)) hl48 (hA_68.trans (by rw [hl48.1 6 (by decide) (by decide)])) (by decide) (by decide) (by decide) (ch_rg hl48.2.2.1)
            refine j_aload_n hC dX7_hour_69 rfl rfl ?_
            refine j_iload_n hC dX7_hour_70 rfl rfl ?_
            refine j_callV hC [0] (c_X7_clips g _ _ _ _ _ _ _ h1 hi10 hl68) mX7_clips k919 rfl rfl rfl rfl rfl ⟨(Nat.le_of_ble_eq_true rfl), (Nat.le_of_ble_eq_true rfl)⟩ (Nat.le_of_ble_eq_true rfl) ⟨(Nat.le_of_ble_eq_true rfl), (Nat.le_of_ble_eq_true rfl)⟩ dX7_hour_71 (fun r_71 b_71 hp_71 _ => ?_)
            obtain ⟨rfl, A_71, rfl, hK_71, hL_71, hF_71⟩ := hp_71
            dsimp only [jrepl, List.set, jstk]
            refine j_iinc hC (1) dX7_hour_74 rfl rfl rfl rfl rfl (fun v_74 e_74 => ?_)
            refine j_goto hC dX7_hour_77 (tgt := 2) (by decide) ?_
            refine j_pick [0, 1] ?_
            exact ih_2 (i + 1) _ _ (by omega) (by omega) (jsucc e_74 h1) (MP_pm hPi hik (lok_cg hL_71 (fun f _ => hr_ch f)) (pfr_tr (pfr_upd (pfr_upd pfr_refl hA_48 (by decide)) hA_68 (by decide)) hF_71)) (fun q hq => (hK_71 q hq).trans ((hK_68 q hq).trans ((hK_48 q hq).trans (hK q hq)))) (fun q q1 q2 => by rw [hF_71 q (by omega), hA_68, pk_un (by omega), hA_48, pk_un (by omega)]; exact hT q q1 q2)
          · skip
            refine j_bipush hC (60) dX7_hour_41 (by decide) ?_
            refine j_goto hC dX7_hour_43 (tgt := 47) (by decide) ?_
            refine j_iadd hC dX7_hour_47 ?_
            refine j_st_7_1 (bi := 0) (m := 1 + 9 * i + 7) hC rfl rfl (by omega) dX7_hour_48 (fun A_48 hA_48 hK_48 => ?_)
            dsimp only [List.set]
            have hl48 : lok 5400 (A_48 1) i (restPass (LI S i) 1) := by first | exact hr_l60 hli (by first | exact c_30 | exact Decidable.not_not.mp c_30) c_38 hA_48 rfl | exact hr_l0 hli (Or.inr c_38) hA_48 rfl | exact hr_l0 hli (Or.inl (hli.2.2.1.2.2.2.1.resolve_right c_30)) hA_48 rfl
            refine j_aload_n hC dX7_hour_49 rfl rfl ?_
            refine j_get hC uX7 0 0 0 rfl rfl k724 rfl dX7_hour_50 ?_
            refine j_aload_n hC dX7_hour_53 rfl rfl ?_
            refine j_iload_n hC dX7_hour_54 rfl rfl ?_
            refine j_bipush hC (6) dX7_hour_55 (by decide) ?_
            refine j_callVR hC [0] (c_X7_at g _ _ _ _ 6 _ _ h1 hi10 (by decide) (by decide)) mX7_at k799 rfl rfl rfl rfl rfl ⟨(Nat.le_of_ble_eq_true rfl), (Nat.le_of_ble_eq_true rfl)⟩ (Nat.le_of_ble_eq_true rfl) ⟨(Nat.le_of_ble_eq_true rfl), (Nat.le_of_ble_eq_true rfl)⟩ dX7_hour_57 ?_
            dsimp only [jrepl, List.set, jstk]
            refine j_dup2 hC dX7_hour_60 rfl rfl ?_
            refine j_ildN hC (m := 1 + 9 * i + 6) 0 1 rfl rfl rfl (by omega) dX7_hour_61 ?_
            refine j_aload_n hC dX7_hour_62 rfl rfl ?_
            refine j_iload_n hC dX7_hour_63 rfl rfl ?_
            refine j_callVR hC [0] (c_X7_capacityOfL g _ _ _ _ _ _ _ h1 hi10 hl48) mX7_capacityOf k803 rfl rfl rfl rfl rfl ⟨(Nat.le_of_ble_eq_true rfl), (Nat.le_of_ble_eq_true rfl)⟩ (Nat.le_of_ble_eq_true rfl) ⟨(Nat.le_of_ble_eq_true rfl), (Nat.le_of_ble_eq_true rfl)⟩ dX7_hour_64 ?_
            dsimp only [jrepl, List.set, jstk]
            refine j_iadd hC dX7_hour_67 ?_
            refine j_st_7_1 (bi := 0) (m := 1 + 9 * i + 6) hC rfl rfl (by omega) dX7_hour_68 (fun A_68 hA_68 hK_68 => ?_)
            dsimp only [List.set]
            have hl68 : lok 5625 (A_68 1) i (upd (restPass (LI S i) 1) 6 (restPass (LI S i) 1 6 + capL (restPass (LI S i) 1))) := lok_set (v := restPass (LI S i) 1 6 + capL (restPass (LI S i) 1)) hl48 (hA_68.trans (by rw [hl48.1 6 (by decide) (by decide)])) (by decide) (by decide) (by decide) (ch_rg hl48.2.2.1)
            refine j_aload_n hC dX7_hour_69 rfl rfl ?_
            refine j_iload_n hC dX7_hour_70 rfl rfl ?_
            refine j_callV hC [0] (c_X7_clips g _ _ _ _ _ _ _ h1 hi10 hl68) mX7_clips k919 rfl rfl rfl rfl rfl ⟨(Nat.le_of_ble_eq_true rfl), (Nat.le_of_ble_eq_true rfl)⟩ (Nat.le_of_ble_eq_true rfl) ⟨(Nat.le_of_ble_eq_true rfl), (Nat.le_of_ble_eq_true rfl)⟩ dX7_hour_71 (fun r_71 b_71 hp_71 _ => ?_)
            obtain ⟨rfl, A_71, rfl, hK_71, hL_71, hF_71⟩ := hp_71
            dsimp only [jrepl, List.set, jstk]
            refine j_iinc hC (1) dX7_hour_74 rfl rfl rfl rfl rfl (fun v_74 e_74 => ?_)
            refine j_goto hC dX7_hour_77 (tgt := 2) (by decide) ?_
            refine j_pick [0, 1] ?_
            exact ih_2 (i + 1) _ _ (by omega) (by omega) (jsucc e_74 h1) (MP_pm hPi hik (lok_cg hL_71 (fun f _ => hr_ch f)) (pfr_tr (pfr_upd (pfr_upd pfr_refl hA_48 (by decide)) hA_68 (by decide)) hF_71)) (fun q hq => (hK_71 q hq).trans ((hK_68 q hq).trans ((hK_48 q hq).trans (hK q hq)))) (fun q q1 q2 => by rw [hF_71 q (by omega), hA_68, pk_un (by omega), hA_48, pk_un (by omega)]; exact hT q q1 q2)
  refine j_pick [0, 1] ?_
  exact L_2 ((bLs S).length + 1) 0 _ _ (by omega) (by omega) (e_1.trans nI_0.symm) (by rw [pm_0]; exact hp) (fun _ _ => rfl) (fun _ _ _ => rfl)
