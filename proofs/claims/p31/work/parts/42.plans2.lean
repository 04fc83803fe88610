/-! the class's plan is the plan of the state -/
theorem lowb_pow : ∀ l, l < 1024 → 0 < l → ∃ i, i < 10 ∧ lowb l = 2 ^ i := by
  have h : ∀ l, l < 1024 → 0 < l → (List.range 10).any (fun i => lowb l == 2 ^ i) = true := by decide +kernel
  intro l h1 h2
  have h3 := h l h1 h2
  rw [List.any_eq_true] at h3
  obtain ⟨i, h4, h5⟩ := h3
  exact ⟨i, List.mem_range.mp h4, eq_of_beq h5⟩
theorem sub_pow : ∀ i, i < 10 → ∀ t, t < 1024 → t &&& 2 ^ i = t → t = 0 ∨ t = 2 ^ i := by decide +kernel
theorem pow_lt {i k : Nat} (h : i < k) : 2 ^ i ≤ 2 ^ k - 1 := by
  have : 2 ^ i < 2 ^ k := Nat.pow_lt_pow_right (by decide) h
  omega
theorem full_bit {i k : Nat} (h : i < k) : (2 ^ k - 1).testBit i = true := by
  rw [Nat.testBit_two_pow_sub_one]
  exact decide_eq_true h
theorem fd_out {S : BS} {F F2 : jF} {v : Int32} (hk : (bLs S).length ≤ 10) (hr : ∀ r, r < (bRs S).length → raS S r ≤ rbS S r ∧ rbS S r ≤ 200) (hF : F 0 = 0) (h : fdOut (bNeed S) (lsX (bLs S)) (bLs S).length (bRs S).length (raS S) (rbS S) F F2 v) : v = dysV S ∧ F2 0 = 0 ∧ (dysN S < 99 → dysN S ≤ 10 ∧ (∀ t, t ≤ 2 ^ (bLs S).length - 1 → F2 t = nI (dP (alS S) t)) ∧ ∀ t, t ≤ 2 ^ (bLs S).length - 1 → dP (alS S) t ≤ 10) := by
  obtain ⟨N, hN, h⟩ := h
  have hrb : ∀ r, r < (bRs S).length → rbS S r ≤ 200 := fun r q => (hr r q).2
  have hdc := alS_dcl hk hrb
  have hal := fun (s : Nat) (hs : s < 1024) => alw_char hk hrb hs
  have hpw := pow_1024 hk
  have hch := fun s hs => mkR_char (ra := raS S) (rb := rbS S) (F := ones (2 ^ (bLs S).length - 1) F) hk hN (bRs S).length hr s hs
  generalize hkE : (bLs S).length = k at *
  generalize hX : lsX (bLs S) = X at *
  generalize mkR N (raS S) (rbS S) (ones (2 ^ k - 1) F) (bRs S).length = B at *
  have hp0 : 0 < 2 ^ k := Nat.two_pow_pos k
  have hB0 : B 0 = 0 := by
    rw [(hch 1 (by decide)).2.2]
    show (if 1 ≤ 0 ∧ 0 ≤ 2 ^ k - 1 then 1 else F 0) = 0
    rw [if_neg (by omega)]
    exact hF
  have hB1 : ∀ s, 0 < s → s ≤ 2 ^ k - 1 → ¬ hitP (bNeed S) X k (bRs S).length (raS S) (rbS S) s → B s = 1 := by
    intro s hs hl q
    rw [(hch s hs).2.1 q]
    show (if 1 ≤ s ∧ s ≤ 2 ^ k - 1 then 1 else F s) = 1
    rw [if_pos ⟨hs, hl⟩]
  have hone : ∀ i, i < k → dF B (1 <<< (nI i &&& 31)) = B (2 ^ i) := by
    intro i hi
    have := pow_lt hi
    rw [bits_sh i (by omega), dF_nat (by omega)]
  rcases h with ⟨⟨i, hi, hb⟩, hv, he⟩ | ⟨hb, he, hv⟩
  · rw [hone i hi] at hb
    have hpl := pow_lt hi
    have hpp := Nat.two_pow_pos i
    have hhit : hitP (bNeed S) X k (bRs S).length (raS S) (rbS S) (2 ^ i) := by
      by_cases z : hitP (bNeed S) X k (bRs S).length (raS S) (rbS S) (2 ^ i)
      · exact z
      · rw [hB1 _ hpp hpl z] at hb
        exact absurd (by decide) hb
    have hna : ¬ alS S (2 ^ i) = true := fun q => (hal _ (by omega)).mp q _ hpp hhit (Nat.and_self _)
    have h99 : dysN S = 99 := by
      unfold dysN
      rw [hkE]
      exact dP_bad hdc hna _ (by omega) (full_bit hi)
    refine ⟨?_, by rw [he]; exact hB0, fun q => by omega⟩
    unfold dysV
    rw [if_neg (by omega), hv]
  · have hlow : ∀ l, 0 < l → l < (2 ^ k - 1) + 1 → alS S (lowb l) = true := by
      intro l hl1 hl2
      obtain ⟨i, hi, e⟩ := lowb_pow l (by omega) hl1
      have hle : lowb l ≤ l := sub_le (lowb_facts l (by omega)).1
      have hik : i < k := (Nat.pow_lt_pow_iff_right (a := 2) (by decide)).mp (by omega)
      have hpl := pow_lt hik
      have hbi := hb i hik
      rw [hone i hik] at hbi
      rw [e]
      refine (hal _ (by omega)).mpr (fun t ht hh q => ?_)
      have htl := sub_le q
      rcases sub_pow i hi t (by omega) q with z | z
      · omega
      · rw [z] at hh
        rw [(hch _ (Nat.two_pow_pos i)).1 hh] at hbi
        exact absurd hbi (by decide)
    have htab := (fdR_tab (al := alS S) (B := B) (N := 2 ^ k - 1) (by omega) hdc hal hB0 (fun s hs _ q => (hch s hs).1 q) hB1 hlow (2 ^ k - 1) (Nat.le_refl _)).1
    rw [← he] at htab
    have h10 : ∀ t, t ≤ 2 ^ k - 1 → dP (alS S) t ≤ 10 := fun t ht => Nat.le_trans (dP_le (al := alS S) (N := 2 ^ k - 1 + 1) (by omega) hlow t (by omega)) (cntb_facts t (by omega)).1
    have hdy : dysN S = dP (alS S) (2 ^ k - 1) := by unfold dysN; rw [hkE]
    have hd10 : dysN S ≤ 10 := by rw [hdy]; exact h10 _ (Nat.le_refl _)
    refine ⟨?_, by rw [htab 0 (Nat.zero_le _)]; rfl, fun _ => ⟨hd10, htab, h10⟩⟩
    unfold dysV
    rw [if_pos (by omega), hv, dF_nat (by omega), htab _ (Nat.le_refl _), hdy]
theorem planned_eq {S : BS} {v : Int32} {σ : Nat → Int32} (hk : (bLs S).length ≤ 10) (hr : ∀ r, r < (bRs S).length → raS S r ≤ rbS S r ∧ rbS S r ≤ 200) (h : planned (bNeed S) (lsX (bLs S)) (bLs S).length (bRs S).length (raS S) (rbS S) v σ) : v = dysV S ∧ (dysN S < 99 → dysN S ≤ 10 ∧ ∀ t, t < dysN S → σ t = nI (onN S t)) := by
  obtain ⟨F, F2, h0, h1, h2⟩ := h
  obtain ⟨e1, e2, e3⟩ := fd_out hk hr h0 h1
  refine ⟨e1, fun q => ⟨(e3 q).1, fun t ht => ?_⟩⟩
  obtain ⟨a1, a2, a3⟩ := e3 q
  have hpw := pow_1024 hk
  have hp0 : 0 < 2 ^ (bLs S).length := Nat.two_pow_pos _
  have hv : v.toInt = dysN S := by
    rw [e1]
    unfold dysV
    rw [if_pos q, nI_toInt (by omega)]
  rw [h2 t (by omega) (by omega), set_day (al := alS S) (by omega) a2 a3 ht]
  rfl
