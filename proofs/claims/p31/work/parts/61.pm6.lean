/-! p31: how the law builds its state -/
def PS (T : St3) (n m : Nat) : Prop := (bLs T.1).length = n ∧ (∀ L ∈ bLs T.1, WL L) ∧ rswf (bRs T.1) ∧ (bRs T.1).length = m ∧ bNeed T.1 = 60 ∧ bHrs T.1 = 0 ∧ bSt T.1 = (0, 0, 0)
def QS (T : St3) (n H : Nat) : Prop := (bLs T.1).length = n ∧ (∀ L ∈ bLs T.1, WL L) ∧ (rswf (bRs T.1) ∧ (bRs T.1).length ≤ 6) ∧ (∃ d : Nat, bNeed T.1 = nI d ∧ 1 ≤ d ∧ d ≤ 180) ∧ (∃ h : Nat, bHrs T.1 = nI h ∧ h ≤ H) ∧ bSt T.1 = (0, 0, 0)
theorem PS_00 : PS T00 0 0 := ⟨rfl, fun L h => absurd h List.not_mem_nil, fun q h => absurd h List.not_mem_nil, rfl, rfl, rfl, rfl⟩
theorem QS_WS {T : St3} {n : Nat} (h : QS T n 100) (h1 : 1 ≤ n) (h7 : n ≤ 7) : WS T.1 := by
  obtain ⟨a1, a2, a3, a4, a5, a6⟩ := h
  exact ⟨⟨by omega, by omega⟩, a2, a3, a4, a5, a6⟩
theorem okp {p : Nat} (h : p ≤ 200) : okPlace (nI p) := ⟨nI_pos (by omega), nI_nlt (a := 200) (b := p) h (by omega)⟩
theorem add_PS {T : St3} {i p c b l : Nat} (h : PS T i 0) (hi : i ≤ 6) (hp : p ≤ 200) (hc : c ≤ 3) (hb : b ≤ 3) (hl : l ≤ 2) : ∃ T1 : St3, oAdd T (nI p) (nI c) (nI b) (nI l) = (nI i, T1) ∧ PS T1 (i + 1) 0 ∧ lI T1.1 i 4 = 0 := by
  obtain ⟨a1, a2, a3, a4, a5, a6, a7⟩ := h
  have k3 : ∀ c, c < 4 → ¬ nI c < 0 ∧ ¬ 3 < nI c := by decide
  have hc3 := k3 c (by omega)
  have hb3 := k3 b (by omega)
  have hol := okl l (by omega)
  refine ⟨oPush T (sLs T.1 (bLs T.1 ++ [newL (nI p) (nI c) (nI b) (nI l) 0])), ?_, ⟨?_, ?_, a3, a4, a5, a6, a7⟩, ?_⟩
  · unfold oAdd
    rw [if_neg, if_pos (by omega), a1]
    rintro (q | q | q | q | q | q)
    · exact q (okp hp)
    · exact hc3.1 q
    · exact hc3.2 q
    · exact hb3.1 q
    · exact hb3.2 q
    · exact q hol
  · show (bLs T.1 ++ [newL (nI p) (nI c) (nI b) (nI l) 0]).length = i + 1
    rw [List.length_append, a1]
    rfl
  · intro L hL
    rcases List.mem_append.mp (show L ∈ bLs T.1 ++ [newL (nI p) (nI c) (nI b) (nI l) 0] from hL) with h1 | h1
    · exact a2 L h1
    · rw [List.mem_singleton.mp h1]
      exact WL_new hp hc hb hl
  · rw [lI_of (S := (oPush T (sLs T.1 (bLs T.1 ++ [newL (nI p) (nI c) (nI b) (nI l) 0]))).1) (j := i) (L := newL (nI p) (nI c) (nI b) (nI l) 0) (by
      show (bLs T.1 ++ [newL (nI p) (nI c) (nI b) (nI l) 0])[i]? = _
      rw [List.getElem?_append_right (by omega), a1, Nat.sub_self]
      rfl)]
    rfl
theorem main_PS {T : St3} {i : Nat} {x y : Int32} (h : PS T (i + 1) 0) (h4 : lI T.1 i 4 = 0) (hi : i ≤ 6) (hx : x = nI i) (hy : y = 0 ∨ y = 1) : ∃ T1 : St3, oMaintain T x y = (0, T1) ∧ PS T1 (i + 1) 0 := by
  obtain ⟨a1, a2, a3, a4, a5, a6, a7⟩ := h
  have hlg := lg_lI (S := T.1) hx (by omega) (by omega)
  refine ⟨oPush T (sLs T.1 ((bLs T.1).set x.toNatClampNeg (upd (lg T.1 x) 4 y))), ?_, ⟨?_, ?_, a3, a4, a5, a6, a7⟩⟩
  · unfold oMaintain
    rw [if_pos (hLX_of (by omega) (by omega) hx), if_pos (by rw [hlg]; exact h4)]
  · show ((bLs T.1).set x.toNatClampNeg (upd (lg T.1 x) 4 y)).length = i + 1
    rw [List.length_set, a1]
  · exact WLs_set a2 (WL_main (by rw [hlg]; exact WS_L a2 (by omega)) hy)
theorem route_PS {T : St3} {n r a b : Nat} (h : PS T n r) (hr : r ≤ 5) (hab : a ≤ b) (hb : b ≤ 200) : ∃ T1 : St3, oRoute T (nI a) (nI b) = (nI r, T1) ∧ PS T1 n (r + 1) := by
  obtain ⟨a1, a2, a3, a4, a5, a6, a7⟩ := h
  refine ⟨oPush T (sRs T.1 (bRs T.1 ++ [(nI a, nI b)])), ?_, ⟨a1, a2, ?_, ?_, a5, a6, a7⟩⟩
  · unfold oRoute
    rw [if_neg, if_pos (by omega), a4]
    rintro (q | q | q)
    · exact q (okp (by omega))
    · exact q (okp hb)
    · exact nI_nlt hab (by omega) q
  · intro q hq
    rcases List.mem_append.mp (show q ∈ bRs T.1 ++ [(nI a, nI b)] from hq) with h1 | h1
    · exact a3 q h1
    · rw [List.mem_singleton.mp h1]
      exact ⟨a, b, rfl, hab, hb⟩
  · show (bRs T.1 ++ [(nI a, nI b)]).length = r + 1
    rw [List.length_append, a4]
    rfl
theorem need_PS {T : St3} {n r d : Nat} (h : PS T n r) (hr : r ≤ 6) (h1 : 1 ≤ d) (h2 : d ≤ 180) : ∃ T1 : St3, oSetNeed T (nI d) = (60, T1) ∧ QS T1 n 0 := by
  obtain ⟨a1, a2, a3, a4, a5, a6, a7⟩ := h
  refine ⟨oPush T (sNeed T.1 (nI d)), ?_, ⟨a1, a2, ⟨a3, by show (bRs T.1).length ≤ 6; omega⟩, ⟨d, rfl, h1, h2⟩, ⟨0, a6, Nat.le_refl 0⟩, a7⟩⟩
  unfold oSetNeed
  rw [if_neg (show ¬ nI d < (1 : Int32) from nI_nlt (a := d) (b := 1) h1 (by omega)), if_pos (show nI d ≤ (180 : Int32) from nI_le (a := d) (b := 180) h2 (by omega)), a5]
theorem QS_up {T : St3} {n H G : Nat} (h : QS T n H) (hg : H ≤ G) : QS T n G := by
  obtain ⟨a1, a2, a3, a4, ⟨hh, b1, b2⟩, a6⟩ := h
  exact ⟨a1, a2, a3, a4, ⟨hh, b1, by omega⟩, a6⟩
theorem rdy_nat {S : BS} : ∃ c : Nat, sRdy S = nI c ∧ c ≤ (bLs S).length := by
  obtain ⟨c, h1, h2, -⟩ := cnt_char (P := fun j => bNeed S ≤ endL (jL (lsX (bLs S)) j)) (bLs S).length
  exact ⟨c, h1, h2⟩
theorem due_nat {S : BS} {s : Int32} {k : Nat} : ∃ c : Nat, dueN S s k = nI c ∧ c ≤ k := by
  obtain ⟨c, h1, h2, -⟩ := cnt_char (P := fun j => dueP S s j) k
  exact ⟨c, h1, h2⟩
theorem pass_QS {T : St3} {n H s : Nat} (h : QS T n H) (hn : n ≤ 10) (h1 : 1 ≤ s) (h2 : s ≤ 60) (hH : H + s < 1000) : ∃ (T1 : St3) (c : Nat), oPass T (nI s) = (nI c, T1) ∧ c < 2 ^ 31 ∧ QS T1 n (H + s) := by
  obtain ⟨a1, a2, a3, a4, ⟨hh, b1, b2⟩, a6⟩ := h
  obtain ⟨c, c1, c2⟩ := rdy_nat (S := pasS (nI s) T.1)
  have hl : (bLs (pasS (nI s) T.1)).length = (bLs T.1).length := pas_len
  refine ⟨oPush T (pasS (nI s) T.1), c, ?_, by omega, ⟨hl.trans a1, ?_, a3, a4, ⟨hh + s, ?_, by omega⟩, a6⟩⟩
  · unfold oPass
    rw [if_neg (show ¬ nI s < (1 : Int32) from nI_nlt (a := s) (b := 1) h1 (by omega)), if_pos (show nI s ≤ (2000 : Int32) from nI_le (a := s) (b := 2000) (by omega) (by omega)), b1, nI_add, if_pos (show nI (hh + s) ≤ (100000 : Int32) from nI_le (a := hh + s) (b := 100000) (by omega) (by omega)), c1]
  · show ∀ L ∈ (bLs T.1).mapIdx (fun _ L => pasL (bHrs T.1) (nI s) L), WL L
    refine WLs_map a2 (fun j L hL => ?_)
    rw [b1, pas_small h1 (by omega)]
    exact WL_hours hL (by omega)
  · show bHrs T.1 + nI s = _
    rw [b1, nI_add]
theorem test_QS {T : St3} {n H s : Nat} {y : Int32} (h : QS T n H) (hn : n ≤ 10) (hy : y = nI s) (h1 : 1 ≤ s) (h2 : s < 2 ^ n) : ∃ (T1 : St3) (c : Nat), oTest T y 1 = (nI c, T1) ∧ c < 2 ^ 31 ∧ QS T1 n H := by
  obtain ⟨a1, a2, a3, a4, a5, a6⟩ := h
  obtain ⟨c, c1, c2⟩ := due_nat (S := T.1) (s := y) (k := (bLs T.1).length)
  refine ⟨oPush T (burS y T.1), c, ?_, by omega, ⟨len_bur.trans a1, ?_, a3, a4, a5, a6⟩⟩
  · rw [ot_yes (by omega) hy h1 (by rw [a1]; exact h2) (Or.inl rfl), c1]
  · exact WLs_map a2 (fun j L hL => WL_bF hL)
/-! numbers of the script -/
theorem rem_of {j d : Nat} {z : Int32} (hj : j < 2 ^ 31) (hd : z = nI d) (h0 : 0 < d) (h1 : d < 2 ^ 31) : nI j - nI j / z * z = nI (j % d) := by
  rw [hd]
  exact pk_rem hj h0 h1
theorem shr_of {j k : Nat} {z : Int32} (hj : j < 2 ^ 31) (hz : ((z &&& 31).toBitVec.smod 32).toNat = k) : ∃ m, m < 2 ^ 31 ∧ nI j >>> (z &&& 31) = nI m := by
  refine ⟨j / 2 ^ k, Nat.lt_of_le_of_lt (Nat.div_le_self _ _) hj, pk_shrN hj _ _ hz⟩
theorem rem_lt {x z : Int32} {d : Nat} (hx : ∃ m, m < 2 ^ 31 ∧ x = nI m) (hd : z = nI d) (h0 : 0 < d) (h1 : d < 2 ^ 31) : ∃ m, m < d ∧ x - x / z * z = nI m := by
  obtain ⟨m, hm, rfl⟩ := hx
  exact ⟨m % d, Nat.mod_lt _ h0, rem_of hm hd h0 h1⟩
