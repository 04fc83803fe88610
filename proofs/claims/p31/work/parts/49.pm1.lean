/-! p31: lights and states as they may be -/
def ratN (b : Nat) : Nat := if b = 0 then 60 else if b = 1 then 90 else if b = 2 then 120 else 180
def weaN (b : Nat) : Nat := if b = 0 then 5 else if b = 1 then 4 else if b = 2 then 3 else 2
def capN (b h : Nat) : Nat := 5 * ratN b * h / 4000
theorem rated_all : ∀ b, b < 4 → rated (nI b) = nI (ratN b) := by decide +kernel
theorem wear_all : ∀ b, b < 4 → wearOf (nI b) = nI (weaN b) ∧ weaN b ≤ 5 := by decide +kernel
theorem ratN_all : ∀ b, b < 4 → 60 ≤ ratN b ∧ ratN b ≤ 180 := by decide +kernel
theorem life_all : ∀ l, l < 3 → lifeOf (nI l) = nI (3000 * (l + 1)) := by decide +kernel
theorem width_all : ∀ l, l < 3 → widthOf (nI l) = nI (if l = 0 then 4 else if l = 1 then 6 else 9) := by decide +kernel
theorem capN_num {b h : Nat} (hb : b ≤ 3) (hh : h ≤ 1000) : 5 * ratN b * h ≤ 900000 := by
  have h1 := (ratN_all b (by omega)).2
  have h2 : 5 * ratN b * h ≤ 900 * 1000 := Nat.mul_le_mul (by omega) hh
  omega
theorem capN_le {b h : Nat} (hb : b ≤ 3) (hh : h ≤ 1000) : capN b h ≤ 225 := by
  have := capN_num hb hh
  unfold capN
  omega
theorem cap_nat {L : jF} {b h : Nat} (h2 : L 2 = nI b) (hb : b ≤ 3) (h5 : L 5 = nI h) (hh : h ≤ 1000) : capL L = nI (capN b h) := by
  have := capN_num hb hh
  unfold capL
  rw [h2, rated_all b (by omega), h5]
  show nI 5 * nI (ratN b) * nI h / nI 4000 = _
  rw [pk_mul, pk_mul, pk_div (by omega) (by decide) (by decide)]
  rfl
theorem full_nat {L : jF} {b h : Nat} (h2 : L 2 = nI b) (hb : b ≤ 3) (h5 : L 5 = nI h) (hh : h ≤ 1000) : fullL L = nI (24 * capN b h) := by
  unfold fullL
  rw [cap_nat h2 hb h5 hh]
  exact pk_mul 24 _
theorem jmax_sub {a b : Nat} (ha : a < 2 ^ 30) (hb : b < 2 ^ 30) : jmax 0 (nI a - nI b) = nI (a - b) := by
  apply Int32.toInt_inj.mp
  rw [jmax_toInt, jlit0, pk_sub_toInt ha hb, nI_toInt (by omega)]
  omega
/-- a light as it may be -/
def WL (L : jF) : Prop := ∃ p c b l h ch r : Nat, L 0 = nI p ∧ p ≤ 200 ∧ L 1 = nI c ∧ c ≤ 3 ∧ L 2 = nI b ∧ b ≤ 3 ∧ L 3 = nI l ∧ l ≤ 2 ∧ (L 4 = 0 ∨ L 4 = 1) ∧ L 5 = nI h ∧ h ≤ 1000 ∧ L 6 = nI ch ∧ ch ≤ 24 * capN b h ∧ L 7 = nI r ∧ r ≤ 9000 ∧ (L 8).toInt ≤ (rated (L 2)).toInt
theorem WL_new {p c b l : Nat} (hp : p ≤ 200) (hc : c ≤ 3) (hb : b ≤ 3) (hl : l ≤ 2) : WL (newL (nI p) (nI c) (nI b) (nI l) 0) := by
  have hcap : (24 : Int32) * (5 * rated (nI b) * 1000 / 4000) = nI (24 * capN b 1000) := full_nat (L := newL (nI p) (nI c) (nI b) (nI l) 0) (b := b) (h := 1000) rfl hb rfl (by omega)
  refine ⟨p, c, b, l, 1000, 24 * capN b 1000, 3000 * (l + 1), rfl, hp, rfl, hc, rfl, hb, rfl, hl, Or.inl rfl, rfl, by omega, hcap, Nat.le_refl _, life_all l (by omega), by omega, ?_⟩
  show (-9 : Int32).toInt ≤ (rated (nI b)).toInt
  have := ratN_all b (by omega)
  rw [rated_all b (by omega), nI_toInt (by omega), show (-9 : Int32).toInt = -9 by decide]
  omega
theorem WL_main {L : jF} {y : Int32} (h : WL L) (hy : y = 0 ∨ y = 1) : WL (upd L 4 y) := by
  obtain ⟨p, c, b, l, hh, ch, r, e0, p0, e1, c1, e2, b2, e3, l3, -, e5, h5, e6, h6, e7, h7, h8⟩ := h
  exact ⟨p, c, b, l, hh, ch, r, e0, p0, e1, c1, e2, b2, e3, l3, hy, e5, h5, e6, h6, e7, h7, h8⟩
theorem WL_put {L : jF} {l : Nat} (h : WL L) (hl : l ≤ 2) : WL (putL L (nI l)) := by
  obtain ⟨p, c, b, l0, hh, ch, r, e0, p0, e1, c1, e2, b2, e3, l3, e4, e5, h5, e6, h6, e7, h7, h8⟩ := h
  exact ⟨p, c, b, l, hh, ch, 3000 * (l + 1), e0, p0, e1, c1, e2, b2, rfl, hl, e4, e5, h5, e6, h6, life_all l (by omega), by omega, h8⟩
theorem WL_hours {L : jF} {s : Nat} (h : WL L) (hs : s ≤ 2000) : WL (hoursL L (nI s)) := by
  obtain ⟨p, c, b, l, hh, ch, r, e0, p0, e1, c1, e2, b2, e3, l3, e4, e5, h5, e6, h6, e7, h7, h8⟩ := h
  have hcn := capN_le b2 h5
  have hsc : s * capN b hh ≤ 2000 * 225 := Nat.mul_le_mul hs hcn
  have key : ∀ M : jF, M 0 = L 0 → M 1 = L 1 → M 2 = L 2 → M 3 = L 3 → M 4 = L 4 → M 5 = L 5 → M 6 = L 6 → M 8 = L 8 → (∃ r2 : Nat, M 7 = nI r2 ∧ r2 ≤ 9000) → WL (upd M 6 (jmin (fullL M) (M 6 + nI s * capL M))) := by
    rintro M f0 f1 f2 f3 f4 f5 f6 f8 ⟨r2, f7, g7⟩
    have k2 : M 2 = nI b := f2.trans e2
    have k5 : M 5 = nI hh := f5.trans e5
    refine ⟨p, c, b, l, hh, min (24 * capN b hh) (ch + s * capN b hh), r2, f0.trans e0, p0, f1.trans e1, c1, k2, b2, f3.trans e3, l3, by show M 4 = 0 ∨ M 4 = 1; rw [f4]; exact e4, k5, h5, ?_, Nat.min_le_left _ _, f7, g7, by show (M 8).toInt ≤ (rated (M 2)).toInt; rw [f8, f2]; exact h8⟩
    show jmin (fullL M) (M 6 + nI s * capL M) = _
    rw [full_nat k2 b2 k5 h5, cap_nat k2 b2 k5 h5, f6.trans e6, pk_mul, nI_add, jmin_nat (by omega) (by omega)]
  unfold hoursL
  by_cases q : L 4 = 0
  · have e : restPass L (nI s) = L := if_pos q
    rw [e]
    exact key L rfl rfl rfl rfl rfl rfl rfl rfl ⟨r, e7, h7⟩
  · have e : restPass L (nI s) = upd L 7 (jmax 0 (L 7 - 60 * nI s)) := if_neg q
    rw [e]
    refine key _ rfl rfl rfl rfl rfl rfl rfl rfl ⟨r - 60 * s, ?_, by omega⟩
    show jmax 0 (L 7 - 60 * nI s) = _
    rw [e7, show (60 : Int32) * nI s = nI (60 * s) from pk_mul 60 s, jmax_sub (by omega) (by omega)]
theorem min_div {a b r : Nat} : 24 * min (min (a / 24) r) b ≤ a := by
  have h1 : min (min (a / 24) r) b ≤ a / 24 := Nat.le_trans (Nat.min_le_left _ _) (Nat.min_le_left _ _)
  omega
theorem end_nat {L : jF} {ch r : Nat} (h6 : L 6 = nI ch) (hc : ch < 2 ^ 31) (h7 : L 7 = nI r) (hr : r < 2 ^ 31) : endL L = nI (min (ch / 24) r) := by
  unfold endL
  rw [h6, h7]
  show jmin (nI ch / nI 24) (nI r) = _
  rw [pk_div hc (by decide) (by decide), jmin_nat (by omega) hr]
theorem WL_end {L : jF} (h : WL L) : ∃ e : Nat, endL L = nI e ∧ e ≤ 225 := by
  obtain ⟨p, c, b, l, hh, ch, r, e0, p0, e1, c1, e2, b2, e3, l3, e4, e5, h5, e6, h6, e7, h7, h8⟩ := h
  have hcn := capN_le b2 h5
  exact ⟨_, end_nat e6 (by omega) e7 (by omega), by omega⟩
theorem WL_burn {L : jF} (h : WL L) : WL (burnL L) := by
  obtain ⟨p, c, b, l, hh, ch, r, e0, p0, e1, c1, e2, b2, e3, l3, e4, e5, h5, e6, h6, e7, h7, h8⟩ := h
  have hcn := capN_le b2 h5
  have hw := wear_all b (by omega)
  have hr := ratN_all b (by omega)
  have hbm : burnMin L = nI (min (min (ch / 24) r) (ratN b)) := by
    unfold burnMin
    rw [end_nat e6 (by omega) e7 (by omega), e2, rated_all b (by omega), jmin_nat (by omega) (by omega)]
  have hle : 24 * min (min (ch / 24) r) (ratN b) ≤ ch := min_div
  have hm7 : min (min (ch / 24) r) (ratN b) ≤ r := by omega
  have hmr : min (min (ch / 24) r) (ratN b) ≤ ratN b := by omega
  generalize min (min (ch / 24) r) (ratN b) = m at hbm hle hm7 hmr
  have hc2 := capN_le (b := b) (h := hh - weaN b) b2 (by omega)
  have n5 : jmax 0 (L 5 - wearOf (L 2)) = nI (hh - weaN b) := by
    rw [e5, e2, hw.1, jmax_sub (by omega) (by omega)]
  have n6 : L 6 - 24 * burnMin L = nI (ch - 24 * m) := by
    rw [e6, hbm, show (24 : Int32) * nI m = nI (24 * m) from pk_mul 24 m, pk_sub hle]
  refine ⟨p, c, b, l, hh - weaN b, min (ch - 24 * m) (24 * capN b (hh - weaN b)), r - m, e0, p0, e1, c1, e2, b2, e3, l3, e4, n5, by omega, ?_, Nat.min_le_right _ _, ?_, by omega, ?_⟩
  · show jmin (L 6 - 24 * burnMin L) (fullL (upd (burnL0 L) 5 (jmax 0 (L 5 - wearOf (L 2))))) = _
    rw [full_nat (L := upd (burnL0 L) 5 (jmax 0 (L 5 - wearOf (L 2)))) (b := b) (h := hh - weaN b) e2 b2 n5 (by omega), n6, jmin_nat (by omega) (by omega)]
  · show L 7 - burnMin L = _
    rw [e7, hbm, pk_sub hm7]
  · show (burnMin L).toInt ≤ (rated (L 2)).toInt
    rw [hbm, e2, rated_all b (by omega), nI_toInt (by omega), nI_toInt (by omega)]
    omega
/-! what burning a light changes, as its calls tell it -/
theorem burn_7 {L : jF} : burnL L 7 = L 7 - burnMin L := rfl
theorem burn_8 {L : jF} : burnL L 8 = burnMin L := rfl
theorem burn_6 {L : jF} : burnL L 6 = jmin (L 6 - 24 * burnMin L) (24 * capL (burnL L)) := by
  have a2 : burnL L 2 = L 2 := rfl
  have a5 : burnL L 5 = jmax 0 (L 5 - wearOf (L 2)) := rfl
  have e : fullL (upd (burnL0 L) 5 (jmax 0 (L 5 - wearOf (L 2)))) = 24 * capL (burnL L) := by
    unfold fullL capL
    rw [a2, a5, show upd (burnL0 L) 5 (jmax 0 (L 5 - wearOf (L 2))) 2 = L 2 from rfl, show upd (burnL0 L) 5 (jmax 0 (L 5 - wearOf (L 2))) 5 = jmax 0 (L 5 - wearOf (L 2)) from rfl]
  rw [← e]
  rfl
theorem burn_2 {L : jF} : burnL L 2 = L 2 := rfl
theorem jmin_a {x y : Int32} (h : ¬ y ≤ x) : jmin x y = x := if_neg (fun q => h (Int32.le_of_lt q))
theorem jmin_b {x y : Int32} (h : y ≤ x) : jmin x y = y := by
  apply Int32.toInt_inj.mp
  rw [jmin_toInt]
  rw [Int32.le_iff_toInt_le] at h
  omega
theorem WL_cap6 {L : jF} (h : WL L) : ¬ 24 * capL L < L 6 ∧ ¬ L 6 < 0 := by
  obtain ⟨p, c, b, l, hh, ch, r, e0, p0, e1, c1, e2, b2, e3, l3, e4, e5, h5, e6, h6, e7, h7, h8⟩ := h
  have hcn := capN_le b2 h5
  have hf : 24 * capL L = nI (24 * capN b hh) := full_nat e2 b2 e5 h5
  rw [hf, e6]
  exact ⟨nI_nlt h6 (by omega), nI_pos (by omega)⟩
theorem WL_res {L : jF} (h : WL L) : L 8 ≤ rated (L 2) := by
  obtain ⟨p, c, b, l, hh, ch, r, e0, p0, e1, c1, e2, b2, e3, l3, e4, e5, h5, e6, h6, e7, h7, h8⟩ := h
  exact Int32.le_iff_toInt_le.mpr h8
theorem WL_bat {L : jF} (h : WL L) : ∃ b : Nat, b ≤ 3 ∧ L 2 = nI b := by
  obtain ⟨p, c, b, l, hh, ch, r, e0, p0, e1, c1, e2, b2, -⟩ := h
  exact ⟨b, b2, e2⟩
theorem WL_4 {L : jF} (h : WL L) : L 4 = 0 ∨ L 4 = 1 := by
  obtain ⟨p, c, b, l, hh, ch, r, e0, p0, e1, c1, e2, b2, e3, l3, e4, -⟩ := h
  exact e4
/-- between two ageings: the hours that pass -/
theorem pas_small {h s : Nat} {L : jF} (h1 : 1 ≤ s) (h2 : h + s < 1000) : pasL (nI h) (nI s) L = hoursL L (nI s) := by
  have e1 : nI h - nI h / 1000 * 1000 = nI h := by
    have := pk_rem (a := h) (d := 1000) (by omega) (by decide) (by decide)
    rw [Nat.mod_eq_of_lt (by omega)] at this
    exact this
  have e2 : jmin (nI s) (1000 - (nI h - nI h / 1000 * 1000)) = nI s := by
    rw [e1, show (1000 : Int32) - nI h = nI (1000 - h) from pk_sub (a := 1000) (by omega), jmin_nat (by omega) (by omega), Nat.min_eq_left (by omega)]
  have e3 : nI s - nI s = 0 := Int32.sub_self _
  have e4 : nI h + nI s = nI (h + s) := nI_add h s
  have e5 : ¬ nI (h + s) - nI (h + s) / 1000 * 1000 = 0 := by
    have := pk_rem (a := h + s) (d := 1000) (by omega) (by decide) (by decide)
    rw [Nat.mod_eq_of_lt (by omega)] at this
    rw [show nI (h + s) - nI (h + s) / 1000 * 1000 = nI (h + s) from this]
    exact nI_ne0 (by omega) (by omega)
  unfold pasL
  rw [e2, e3, e4]
  have e6 : ∀ M : jF, lhp 4 0 (nI (h + s)) M = M := fun M => if_pos (by decide)
  rw [e6]
  exact if_pos e5
/-! states -/
abbrev lI (S : BS) (j : Nat) : jF := jL (lsX (bLs S)) j
theorem lI_get {S : BS} {j : Nat} (hj : j < (bLs S).length) : (bLs S)[j]? = some (lI S j) := by
  have h := List.getElem?_eq_getElem hj
  rw [h, show lI S j = (bLs S)[j] from lsX_get h]
theorem lI_of {S : BS} {j : Nat} {L : jF} (h : (bLs S)[j]? = some L) : lI S j = L := lsX_get h
theorem lg_lI {S : BS} {x : Int32} {j : Nat} (hx : x = nI j) (hj : j < (bLs S).length) (h31 : (bLs S).length < 2 ^ 31) : lg S x = lI S j := by
  unfold lg
  rw [hx, nI_cl (by omega), List.getD_eq_getElem?_getD, lI_get hj]
  rfl
theorem WS_L {S : BS} (h : ∀ L ∈ bLs S, WL L) {j : Nat} (hj : j < (bLs S).length) : WL (lI S j) := h _ (List.mem_of_getElem? (lI_get hj))
theorem WLs_set {ls : List jF} {j : Nat} {L : jF} (h : ∀ L ∈ ls, WL L) (hL : WL L) : ∀ M ∈ ls.set j L, WL M := by
  intro M hM
  rcases List.mem_or_eq_of_mem_set hM with h1 | h1
  · exact h M h1
  · rw [h1]; exact hL
theorem WLs_map {ls : List jF} {f : Nat → jF → jF} (h : ∀ L ∈ ls, WL L) (hf : ∀ j L, WL L → WL (f j L)) : ∀ M ∈ ls.mapIdx f, WL M := by
  intro M hM
  obtain ⟨i, hi, rfl⟩ := List.mem_mapIdx.mp hM
  exact hf i _ (h _ (List.getElem_mem hi))
theorem WL_bF {x : Int32} {j : Nat} {L : jF} (h : WL L) : WL (bF x j L) := by
  unfold bF
  by_cases c : ¬ (x >>> (nI j &&& 31)) &&& 1 = 1
  · rw [if_pos c]; exact h
  · rw [if_neg c]; exact WL_burn h
theorem lI_map {S : BS} {f : Nat → jF → jF} {h pa fa : Int32} {j : Nat} (hj : j < (bLs S).length) : lI (sMap S f h pa fa) j = f j (lI S j) := by
  apply lI_of
  show ((bLs S).mapIdx f)[j]? = _
  rw [List.getElem?_mapIdx, lI_get hj]
  rfl
