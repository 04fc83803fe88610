/-! p31: what single calls answer -/
theorem lt_of {x : Int32} {i n : Nat} (h : x = nI i) (hi : i < 2 ^ 31) (hn : n < 2 ^ 31) (c : ¬ nI n ≤ x) : i < n := by
  rw [h, nI_leI hn hi] at c
  omega
theorem ge_of {x : Int32} {i n : Nat} (h : x = nI i) (hi : i < 2 ^ 31) (hn : n < 2 ^ 31) (c : nI n ≤ x) : n ≤ i := by
  rw [h, nI_leI hn hi] at c
  exact c
theorem tv_0 {T : St3} : (oTold T 0).1 = nI (bLs T.1).length := rfl
theorem tv_1 {T : St3} : (oTold T 1).1 = sRdy T.1 := rfl
theorem tv_2 {T : St3} : (oTold T 2).1 = nI (bRs T.1).length := rfl
theorem tv_3 {T : St3} : (oTold T 3).1 = sSafe T.1 := rfl
theorem tv_4 {T : St3} : (oTold T 4).1 = bNeed T.1 := rfl
theorem tv_5 {T : St3} : (oTold T 5).1 = bHrs T.1 := rfl
theorem tv_9 {T : St3} : (oTold T 9).1 = sBurnt T.1 := rfl
theorem tv_10 {T : St3} : (oTold T 10).1 = bPa T.1 := rfl
theorem tv_11 {T : St3} : (oTold T 11).1 = bFa T.1 := rfl
theorem oL_v {T : St3} {x w : Int32} {i : Nat} (hx : x = nI i) (hi : i < (bLs T.1).length) (hn : (bLs T.1).length ≤ 10) (h0 : ¬ w < 0) (h12 : ¬ 12 < w) (hw : ¬ w = 12) : (oLight T x w).1 = propL (lI T.1 i) w (bNeed T.1) := by
  unfold oLight
  rw [if_pos ⟨hLX_of (by omega) hi hx, h0, h12⟩, if_neg hw, lg_lI hx hi (by omega)]
theorem ol_0 {T : St3} {x : Int32} {i : Nat} (hx : x = nI i) (hi : i < (bLs T.1).length) (hn : (bLs T.1).length ≤ 10) : (oLight T x 0).1 = lI T.1 i 0 := (oL_v hx hi hn (by decide) (by decide) (by decide)).trans rfl
theorem ol_1 {T : St3} {x : Int32} {i : Nat} (hx : x = nI i) (hi : i < (bLs T.1).length) (hn : (bLs T.1).length ≤ 10) : (oLight T x 1).1 = lI T.1 i 1 := (oL_v hx hi hn (by decide) (by decide) (by decide)).trans rfl
theorem ol_2 {T : St3} {x : Int32} {i : Nat} (hx : x = nI i) (hi : i < (bLs T.1).length) (hn : (bLs T.1).length ≤ 10) : (oLight T x 2).1 = lI T.1 i 2 := (oL_v hx hi hn (by decide) (by decide) (by decide)).trans rfl
theorem ol_3 {T : St3} {x : Int32} {i : Nat} (hx : x = nI i) (hi : i < (bLs T.1).length) (hn : (bLs T.1).length ≤ 10) : (oLight T x 3).1 = lI T.1 i 3 := (oL_v hx hi hn (by decide) (by decide) (by decide)).trans rfl
theorem ol_5 {T : St3} {x : Int32} {i : Nat} (hx : x = nI i) (hi : i < (bLs T.1).length) (hn : (bLs T.1).length ≤ 10) : (oLight T x 5).1 = lI T.1 i 5 := (oL_v hx hi hn (by decide) (by decide) (by decide)).trans rfl
theorem ol_6 {T : St3} {x : Int32} {i : Nat} (hx : x = nI i) (hi : i < (bLs T.1).length) (hn : (bLs T.1).length ≤ 10) : (oLight T x 6).1 = capL (lI T.1 i) := (oL_v hx hi hn (by decide) (by decide) (by decide)).trans rfl
theorem ol_7 {T : St3} {x : Int32} {i : Nat} (hx : x = nI i) (hi : i < (bLs T.1).length) (hn : (bLs T.1).length ≤ 10) : (oLight T x 7).1 = lI T.1 i 6 := (oL_v hx hi hn (by decide) (by decide) (by decide)).trans rfl
theorem ol_8 {T : St3} {x : Int32} {i : Nat} (hx : x = nI i) (hi : i < (bLs T.1).length) (hn : (bLs T.1).length ≤ 10) : (oLight T x 8).1 = lI T.1 i 7 := (oL_v hx hi hn (by decide) (by decide) (by decide)).trans rfl
theorem ol_9 {T : St3} {x : Int32} {i : Nat} (hx : x = nI i) (hi : i < (bLs T.1).length) (hn : (bLs T.1).length ≤ 10) : (oLight T x 9).1 = endL (lI T.1 i) := (oL_v hx hi hn (by decide) (by decide) (by decide)).trans rfl
theorem ol_10 {T : St3} {x : Int32} {i : Nat} (hx : x = nI i) (hi : i < (bLs T.1).length) (hn : (bLs T.1).length ≤ 10) : (oLight T x 10).1 = (if bNeed T.1 ≤ endL (lI T.1 i) then 1 else 0) := (oL_v hx hi hn (by decide) (by decide) (by decide)).trans rfl
theorem ol_11 {T : St3} {x : Int32} {i : Nat} (hx : x = nI i) (hi : i < (bLs T.1).length) (hn : (bLs T.1).length ≤ 10) : (oLight T x 11).1 = lI T.1 i 8 := (oL_v hx hi hn (by decide) (by decide) (by decide)).trans rfl
