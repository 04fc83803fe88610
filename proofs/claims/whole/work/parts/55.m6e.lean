set_option maxHeartbeats 1000000 in
set_option maxRecDepth 100000 in
theorem c_X7_told (g : jG) (d : Nat → Nat) (T : St3) (b : List va_W) (x : Int32) (h : MW g d T b) : Con g yX7_told cX7_told 2 (some .int) 7 154 0 0 [.ref (d 0), .int x] b (fun rr bb => rr = some (.int (oTold T x).1) ∧ MW g d (oTold T x).2 bb) := by
  obtain ⟨I, A, rfl, hMI⟩ := h
  obtain ⟨hm1, hmp, hmh, hmt⟩ := id hMI
  obtain ⟨⟨hq0, hk10⟩, hql, ⟨hq91, hn6⟩, hqr, ⟨hq4, hnd⟩, ⟨hq5, hqh⟩, ⟨hq6, hqs⟩, hq9, hq10⟩ := id hmp
  refine Con.of (own := RX7) (lv := [(0, .ref (d 0)), (1, .int x)]) (by decide) rfl (Nat.le_of_ble_eq_true rfl) rfl ?_
  intro E hC hQ hN
  refine j_iload_n hC dX7_told_0 rfl rfl ?_
  refine j_case (0) (fun s_1_0 => ?_) (fun s_1_0 => ?_)
  · refine j_tableIn hC dX7_told_1 (by rw [s_1_0]; decide) (by rw [s_1_0]; decide) (off := 71) (by rw [s_1_0]; rfl) (tgt := 72) (by decide) ?_
    refine j_aload_n hC dX7_told_72 rfl rfl ?_
    refine j_callVR hC [0] (c_X7_lights g _ _ _) mX7_lights k787 rfl rfl rfl rfl rfl ⟨(Nat.le_of_ble_eq_true rfl), (Nat.le_of_ble_eq_true rfl)⟩ (Nat.le_of_ble_eq_true rfl) ⟨(Nat.le_of_ble_eq_true rfl), (Nat.le_of_ble_eq_true rfl)⟩ dX7_told_73 ?_
    dsimp only [jrepl, List.set, jstk]
    refine j_iret hC hQ rfl rfl (Nat.le_of_ble_eq_true rfl) (Nat.le_of_ble_eq_true rfl) dX7_told_76 rfl ?_
    exact mw_c (T := T) (o := oTold T x) (by unfold oTold toldV; rw [s_1_0]; rfl) (hq0) hMI
  refine j_case (1) (fun s_1_1 => ?_) (fun s_1_1 => ?_)
  · refine j_tableIn hC dX7_told_1 (by rw [s_1_1]; decide) (by rw [s_1_1]; decide) (off := 76) (by rw [s_1_1]; rfl) (tgt := 77) (by decide) ?_
    refine j_aload_n hC dX7_told_77 rfl rfl ?_
    refine j_callVR hC [0] (c_X7_ready g _ _ _ T.1 hmp) mX7_ready k927 rfl rfl rfl rfl rfl ⟨(Nat.le_of_ble_eq_true rfl), (Nat.le_of_ble_eq_true rfl)⟩ (Nat.le_of_ble_eq_true rfl) ⟨(Nat.le_of_ble_eq_true rfl), (Nat.le_of_ble_eq_true rfl)⟩ dX7_told_78 ?_
    dsimp only [jrepl, List.set, jstk]
    refine j_iret hC hQ rfl rfl (Nat.le_of_ble_eq_true rfl) (Nat.le_of_ble_eq_true rfl) dX7_told_81 rfl ?_
    exact mw_c (T := T) (o := oTold T x) (by unfold oTold toldV; rw [s_1_1]; rfl) (rfl) hMI
  refine j_case (2) (fun s_1_2 => ?_) (fun s_1_2 => ?_)
  · refine j_tableIn hC dX7_told_1 (by rw [s_1_2]; decide) (by rw [s_1_2]; decide) (off := 81) (by rw [s_1_2]; rfl) (tgt := 82) (by decide) ?_
    refine j_aload_n hC dX7_told_82 rfl rfl ?_
    refine j_get hC uX7 0 0 0 rfl rfl k724 rfl dX7_told_83 ?_
    refine j_bipush hC (91) dX7_told_86 (by decide) ?_
    refine j_ildN hC (m := 91) 0 1 rfl rfl (by decide) (by decide) dX7_told_88 ?_
    refine j_iret hC hQ rfl rfl (Nat.le_of_ble_eq_true rfl) (Nat.le_of_ble_eq_true rfl) dX7_told_89 rfl ?_
    exact mw_c (T := T) (o := oTold T x) (by unfold oTold toldV; rw [s_1_2]; rfl) (hq91) hMI
  refine j_case (3) (fun s_1_3 => ?_) (fun s_1_3 => ?_)
  · refine j_tableIn hC dX7_told_1 (by rw [s_1_3]; decide) (by rw [s_1_3]; decide) (off := 89) (by rw [s_1_3]; rfl) (tgt := 90) (by decide) ?_
    refine j_aload_n hC dX7_told_90 rfl rfl ?_
    refine j_callV hC [0] (c_X7_safe g _ _ _ T.1 hmp) mX7_safe k1047 rfl rfl rfl rfl rfl ⟨(Nat.le_of_ble_eq_true rfl), (Nat.le_of_ble_eq_true rfl)⟩ (Nat.le_of_ble_eq_true rfl) ⟨(Nat.le_of_ble_eq_true rfl), (Nat.le_of_ble_eq_true rfl)⟩ dX7_told_91 (fun r_91 b_91 hp_91 _ => ?_)
    obtain ⟨rfl, A_91, rfl, hK_91⟩ := hp_91
    have hM_91 : MI I A_91 T := mi_oth hMI (hK_91 1 (by decide) (by decide)) (hK_91 2 (by decide) (by decide))
    dsimp only [jrepl, List.set, jstk]
    refine j_iret hC hQ rfl rfl (Nat.le_of_ble_eq_true rfl) (Nat.le_of_ble_eq_true rfl) dX7_told_94 rfl ?_
    exact mw_c (T := T) (o := oTold T x) (by unfold oTold toldV; rw [s_1_3]; rfl) (rfl) hM_91
  refine j_case (4) (fun s_1_4 => ?_) (fun s_1_4 => ?_)
  · refine j_tableIn hC dX7_told_1 (by rw [s_1_4]; decide) (by rw [s_1_4]; decide) (off := 94) (by rw [s_1_4]; rfl) (tgt := 95) (by decide) ?_
    refine j_aload_n hC dX7_told_95 rfl rfl ?_
    refine j_get hC uX7 0 0 0 rfl rfl k724 rfl dX7_told_96 ?_
    refine j_bipush hC (104) dX7_told_99 (by decide) ?_
    refine j_ildN hC (m := 104) 0 1 rfl rfl (by decide) (by decide) dX7_told_101 ?_
    refine j_iret hC hQ rfl rfl (Nat.le_of_ble_eq_true rfl) (Nat.le_of_ble_eq_true rfl) dX7_told_102 rfl ?_
    exact mw_c (T := T) (o := oTold T x) (by unfold oTold toldV; rw [s_1_4]; rfl) (hq4) hMI
  refine j_case (5) (fun s_1_5 => ?_) (fun s_1_5 => ?_)
  · refine j_tableIn hC dX7_told_1 (by rw [s_1_5]; decide) (by rw [s_1_5]; decide) (off := 102) (by rw [s_1_5]; rfl) (tgt := 103) (by decide) ?_
    refine j_aload_n hC dX7_told_103 rfl rfl ?_
    refine j_get hC uX7 0 0 0 rfl rfl k724 rfl dX7_told_104 ?_
    refine j_bipush hC (105) dX7_told_107 (by decide) ?_
    refine j_ildN hC (m := 105) 0 1 rfl rfl (by decide) (by decide) dX7_told_109 ?_
    refine j_iret hC hQ rfl rfl (Nat.le_of_ble_eq_true rfl) (Nat.le_of_ble_eq_true rfl) dX7_told_110 rfl ?_
    exact mw_c (T := T) (o := oTold T x) (by unfold oTold toldV; rw [s_1_5]; rfl) (hq5) hMI
  refine j_case (6) (fun s_1_6 => ?_) (fun s_1_6 => ?_)
  · refine j_tableIn hC dX7_told_1 (by rw [s_1_6]; decide) (by rw [s_1_6]; decide) (off := 110) (by rw [s_1_6]; rfl) (tgt := 111) (by decide) ?_
    obtain ⟨wn, hwn, hwx⟩ : ∃ wn : Nat, wn < 3 ∧ x = nI (6 + wn) := by first | exact ⟨0, by decide, s_1_6⟩ | exact ⟨1, by decide, s_1_7⟩ | exact ⟨2, by decide, s_1_8⟩
    refine j_aload_n hC dX7_told_111 rfl rfl ?_
    refine j_get hC uX7 0 0 0 rfl rfl k724 rfl dX7_told_112 ?_
    refine j_bipush hC (106) dX7_told_115 (by decide) ?_
    refine j_iload_n hC dX7_told_117 rfl rfl ?_
    refine j_iadd hC dX7_told_118 ?_
    refine j_bipush hC (6) dX7_told_119 (by decide) ?_
    refine j_isub hC dX7_told_121 ?_
    refine j_ildN hC (m := 106 + wn) 0 1 rfl rfl (by rw [hwx, show (106 : Int32) = nI 106 from rfl, show (6 : Int32) = nI 6 from rfl, nI_add, pk_sub (by omega)]; exact congrArg nI (by omega)) (by omega) dX7_told_122 ?_
    refine j_iret hC hQ rfl rfl (Nat.le_of_ble_eq_true rfl) (Nat.le_of_ble_eq_true rfl) dX7_told_123 rfl ?_
    first | (have z : wn = 0 := by have q := nI_injN (b := 6) (by omega) (by decide) (hwx.symm.trans s_1_6); omega) | (have z : wn = 1 := by have q := nI_injN (b := 7) (by omega) (by decide) (hwx.symm.trans s_1_7); omega) | (have z : wn = 2 := by have q := nI_injN (b := 8) (by omega) (by decide) (hwx.symm.trans s_1_8); omega)
    first | (subst z; exact mw_c (T := T) (o := oTold T x) (by unfold oTold toldV; rw [s_1_6]; rfl) ((mp_stk hmp (l := 0) (by decide)).1) hMI) | (subst z; exact mw_c (T := T) (o := oTold T x) (by unfold oTold toldV; rw [s_1_7]; rfl) ((mp_stk hmp (l := 1) (by decide)).1) hMI) | (subst z; exact mw_c (T := T) (o := oTold T x) (by unfold oTold toldV; rw [s_1_8]; rfl) ((mp_stk hmp (l := 2) (by decide)).1) hMI)
  refine j_case (7) (fun s_1_7 => ?_) (fun s_1_7 => ?_)
  · refine j_tableIn hC dX7_told_1 (by rw [s_1_7]; decide) (by rw [s_1_7]; decide) (off := 110) (by rw [s_1_7]; rfl) (tgt := 111) (by decide) ?_
    obtain ⟨wn, hwn, hwx⟩ : ∃ wn : Nat, wn < 3 ∧ x = nI (6 + wn) := by first | exact ⟨0, by decide, s_1_6⟩ | exact ⟨1, by decide, s_1_7⟩ | exact ⟨2, by decide, s_1_8⟩
    refine j_aload_n hC dX7_told_111 rfl rfl ?_
    refine j_get hC uX7 0 0 0 rfl rfl k724 rfl dX7_told_112 ?_
    refine j_bipush hC (106) dX7_told_115 (by decide) ?_
    refine j_iload_n hC dX7_told_117 rfl rfl ?_
    refine j_iadd hC dX7_told_118 ?_
    refine j_bipush hC (6) dX7_told_119 (by decide) ?_
    refine j_isub hC dX7_told_121 ?_
    refine j_ildN hC (m := 106 + wn) 0 1 rfl rfl (by rw [hwx, show (106 : Int32) = nI 106 from rfl, show (6 : Int32) = nI 6 from rfl, nI_add, pk_sub (by omega)]; exact congrArg nI (by omega)) (by omega) dX7_told_122 ?_
    refine j_iret hC hQ rfl rfl (Nat.le_of_ble_eq_true rfl) (Nat.le_of_ble_eq_true rfl) dX7_told_123 rfl ?_
    first | (have z : wn = 0 := by have q := nI_injN (b := 6) (by omega) (by decide) (hwx.symm.trans s_1_6); omega) | (have z : wn = 1 := by have q := nI_injN (b := 7) (by omega) (by decide) (hwx.symm.trans s_1_7); omega) | (have z : wn = 2 := by have q := nI_injN (b := 8) (by omega) (by decide) (hwx.symm.trans s_1_8); omega)
    first | (subst z; exact mw_c (T := T) (o := oTold T x) (by unfold oTold toldV; rw [s_1_6]; rfl) ((mp_stk hmp (l := 0) (by decide)).1) hMI) | (subst z; exact mw_c (T := T) (o := oTold T x) (by unfold oTold toldV; rw [s_1_7]; rfl) ((mp_stk hmp (l := 1) (by decide)).1) hMI) | (subst z; exact mw_c (T := T) (o := oTold T x) (by unfold oTold toldV; rw [s_1_8]; rfl) ((mp_stk hmp (l := 2) (by decide)).1) hMI)
  refine j_case (8) (fun s_1_8 => ?_) (fun s_1_8 => ?_)
  · refine j_tableIn hC dX7_told_1 (by rw [s_1_8]; decide) (by rw [s_1_8]; decide) (off := 110) (by rw [s_1_8]; rfl) (tgt := 111) (by decide) ?_
    obtain ⟨wn, hwn, hwx⟩ : ∃ wn : Nat, wn < 3 ∧ x = nI (6 + wn) := by first | exact ⟨0, by decide, s_1_6⟩ | exact ⟨1, by decide, s_1_7⟩ | exact ⟨2, by decide, s_1_8⟩
    refine j_aload_n hC dX7_told_111 rfl rfl ?_
    refine j_get hC uX7 0 0 0 rfl rfl k724 rfl dX7_told_112 ?_
    refine j_bipush hC (106) dX7_told_115 (by decide) ?_
    refine j_iload_n hC dX7_told_117 rfl rfl ?_
    refine j_iadd hC dX7_told_118 ?_
    refine j_bipush hC (6) dX7_told_119 (by decide) ?_
    refine j_isub hC dX7_told_121 ?_
    refine j_ildN hC (m := 106 + wn) 0 1 rfl rfl (by rw [hwx, show (106 : Int32) = nI 106 from rfl, show (6 : Int32) = nI 6 from rfl, nI_add, pk_sub (by omega)]; exact congrArg nI (by omega)) (by omega) dX7_told_122 ?_
    refine j_iret hC hQ rfl rfl (Nat.le_of_ble_eq_true rfl) (Nat.le_of_ble_eq_true rfl) dX7_told_123 rfl ?_
    first | (have z : wn = 0 := by have q := nI_injN (b := 6) (by omega) (by decide) (hwx.symm.trans s_1_6); omega) | (have z : wn = 1 := by have q := nI_injN (b := 7) (by omega) (by decide) (hwx.symm.trans s_1_7); omega) | (have z : wn = 2 := by have q := nI_injN (b := 8) (by omega) (by decide) (hwx.symm.trans s_1_8); omega)
    first | (subst z; exact mw_c (T := T) (o := oTold T x) (by unfold oTold toldV; rw [s_1_6]; rfl) ((mp_stk hmp (l := 0) (by decide)).1) hMI) | (subst z; exact mw_c (T := T) (o := oTold T x) (by unfold oTold toldV; rw [s_1_7]; rfl) ((mp_stk hmp (l := 1) (by decide)).1) hMI) | (subst z; exact mw_c (T := T) (o := oTold T x) (by unfold oTold toldV; rw [s_1_8]; rfl) ((mp_stk hmp (l := 2) (by decide)).1) hMI)
  refine j_case (9) (fun s_1_9 => ?_) (fun s_1_9 => ?_)
  · refine j_tableIn hC dX7_told_1 (by rw [s_1_9]; decide) (by rw [s_1_9]; decide) (off := 123) (by rw [s_1_9]; rfl) (tgt := 124) (by decide) ?_
    refine j_aload_n hC dX7_told_124 rfl rfl ?_
    refine j_callVR hC [0] (c_X7_burntOut g _ _ _ T.1 hmp) mX7_burntOut k1051 rfl rfl rfl rfl rfl ⟨(Nat.le_of_ble_eq_true rfl), (Nat.le_of_ble_eq_true rfl)⟩ (Nat.le_of_ble_eq_true rfl) ⟨(Nat.le_of_ble_eq_true rfl), (Nat.le_of_ble_eq_true rfl)⟩ dX7_told_125 ?_
    dsimp only [jrepl, List.set, jstk]
    refine j_iret hC hQ rfl rfl (Nat.le_of_ble_eq_true rfl) (Nat.le_of_ble_eq_true rfl) dX7_told_128 rfl ?_
    exact mw_c (T := T) (o := oTold T x) (by unfold oTold toldV; rw [s_1_9]; rfl) (rfl) hMI
  refine j_case (10) (fun s_1_10 => ?_) (fun s_1_10 => ?_)
  · refine j_tableIn hC dX7_told_1 (by rw [s_1_10]; decide) (by rw [s_1_10]; decide) (off := 128) (by rw [s_1_10]; rfl) (tgt := 129) (by decide) ?_
    refine j_aload_n hC dX7_told_129 rfl rfl ?_
    refine j_get hC uX7 0 0 0 rfl rfl k724 rfl dX7_told_130 ?_
    refine j_bipush hC (109) dX7_told_133 (by decide) ?_
    refine j_ildN hC (m := 109) 0 1 rfl rfl (by decide) (by decide) dX7_told_135 ?_
    refine j_iret hC hQ rfl rfl (Nat.le_of_ble_eq_true rfl) (Nat.le_of_ble_eq_true rfl) dX7_told_136 rfl ?_
    exact mw_c (T := T) (o := oTold T x) (by unfold oTold toldV; rw [s_1_10]; rfl) (hq9) hMI
  refine j_case (11) (fun s_1_11 => ?_) (fun s_1_11 => ?_)
  · refine j_tableIn hC dX7_told_1 (by rw [s_1_11]; decide) (by rw [s_1_11]; decide) (off := 136) (by rw [s_1_11]; rfl) (tgt := 137) (by decide) ?_
    refine j_aload_n hC dX7_told_137 rfl rfl ?_
    refine j_get hC uX7 0 0 0 rfl rfl k724 rfl dX7_told_138 ?_
    refine j_bipush hC (110) dX7_told_141 (by decide) ?_
    refine j_ildN hC (m := 110) 0 1 rfl rfl (by decide) (by decide) dX7_told_143 ?_
    refine j_iret hC hQ rfl rfl (Nat.le_of_ble_eq_true rfl) (Nat.le_of_ble_eq_true rfl) dX7_told_144 rfl ?_
    exact mw_c (T := T) (o := oTold T x) (by unfold oTold toldV; rw [s_1_11]; rfl) (hq10) hMI
  refine j_case (12) (fun s_1_12 => ?_) (fun s_1_12 => ?_)
  · refine j_tableIn hC dX7_told_1 (by rw [s_1_12]; decide) (by rw [s_1_12]; decide) (off := 144) (by rw [s_1_12]; rfl) (tgt := 145) (by decide) ?_
    refine j_aload_n hC dX7_told_145 rfl rfl ?_
    refine j_get hC uX7 0 0 3 rfl rfl k727 rfl dX7_told_146 ?_
    refine j_iret hC hQ rfl rfl (Nat.le_of_ble_eq_true rfl) (Nat.le_of_ble_eq_true rfl) dX7_told_149 rfl ?_
    exact mw_c (T := T) (o := oTold T x) (by unfold oTold toldV; rw [s_1_12]; rfl) (hmt.1) hMI
  refine j_case (13) (fun s_1_13 => ?_) (fun s_1_13 => ?_)
  · refine j_tableIn hC dX7_told_1 (by rw [s_1_13]; decide) (by rw [s_1_13]; decide) (off := 149) (by rw [s_1_13]; rfl) (tgt := 150) (by decide) ?_
    refine j_aload_n hC dX7_told_150 rfl rfl ?_
    refine j_get hC uX7 0 0 1 rfl rfl k725 rfl dX7_told_151 ?_
    refine j_iret hC hQ rfl rfl (Nat.le_of_ble_eq_true rfl) (Nat.le_of_ble_eq_true rfl) dX7_told_154 rfl ?_
    exact mw_c (T := T) (o := oTold T x) (by unfold oTold toldV; rw [s_1_13]; rfl) (hm1) hMI
  refine j_tableOut hC dX7_told_1 (jout14 s_1_0 s_1_1 s_1_2 s_1_3 s_1_4 s_1_5 s_1_6 s_1_7 s_1_8 s_1_9 s_1_10 s_1_11 s_1_12 s_1_13) (tgt := 155) (by decide) ?_
  refine j_iconst hC (-1) dX7_told_155 (by decide) ?_
  refine j_iret hC hQ rfl rfl (Nat.le_of_ble_eq_true rfl) (Nat.le_of_ble_eq_true rfl) dX7_told_156 rfl ?_
  exact mw_c (T := T) (o := oTold T x) (v := -1) (by unfold oTold toldV; rw [if_neg s_1_0, if_neg s_1_1, if_neg s_1_2, if_neg s_1_3, if_neg s_1_4, if_neg s_1_5, if_neg s_1_6, if_neg s_1_7, if_neg s_1_8, if_neg s_1_9, if_neg s_1_10, if_neg s_1_11, if_neg s_1_12, if_neg s_1_13]) rfl hMI
