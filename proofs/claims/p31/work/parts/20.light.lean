theorem jz0 {x : Int32} (h : ¬ x = 0) : ¬ (0 : Int) = x.toInt := fun e => h (Int32.toInt_inj.mp e.symm)
theorem jz1 {x : Int32} (h : ¬ x = 1) : ¬ (1 : Int) = x.toInt := fun e => h (Int32.toInt_inj.mp e.symm)
/-! the class's lights: what each method answers, of the numbers of the light's cell -/
def rated (b : Int32) : Int32 := if b = 0 then 60 else if b = 1 then 90 else if b = 2 then 120 else 180
def wearOf (b : Int32) : Int32 := if b = 0 then 5 else if b = 1 then 4 else if b = 2 then 3 else 2
def lifeOf (l : Int32) : Int32 := if l = 0 then 3000 else if l = 1 then 6000 else 9000
def widthOf (l : Int32) : Int32 := if l = 0 then 4 else if l = 1 then 6 else 9
def jmin (x y : Int32) : Int32 := if y < x then y else x
def jmax (x y : Int32) : Int32 := if x < y then y else x
def jabs (x : Int32) : Int32 := if 0 ≤ x then x else 0 - x
def capL (L : jF) : Int32 := 5 * rated (L 2) * L 5 / 4000
def fullL (L : jF) : Int32 := 24 * capL L
def endL (L : jF) : Int32 := jmin (L 6 / 24) (L 7)
def restPass (L : jF) (h : Int32) : jF := if L 4 = 0 then L else upd L 7 (jmax 0 (L 7 - 60 * h))
def hoursL (L : jF) (h : Int32) : jF := upd (restPass L h) 6 (jmin (fullL (restPass L h)) (restPass L h 6 + h * capL (restPass L h)))
def ageL (L : jF) (p : Int32) : jF := upd (upd L 5 (jmax 0 (L 5 - p))) 6 (jmin (upd L 5 (jmax 0 (L 5 - p)) 6) (fullL (upd L 5 (jmax 0 (L 5 - p)))))
def burnMin (L : jF) : Int32 := jmin (endL L) (rated (L 2))
def burnL0 (L : jF) : jF := upd (upd L 7 (L 7 - burnMin L)) 6 (L 6 - 24 * burnMin L)
def burnL (L : jF) : jF := upd (ageL (burnL0 L) (wearOf (L 2))) 8 (burnMin L)
def putL (L : jF) (l : Int32) : jF := upd (upd L 3 l) 7 (lifeOf l)
def newL (p c b l m : Int32) : jF := fun i => match i with
  | 0 => p | 1 => c | 2 => b | 3 => l | 4 => m | 5 => 1000 | 6 => 24 * (5 * rated b * 1000 / 4000) | 7 => lifeOf l | _ => -9
def propL (L : jF) (w need : Int32) : Int32 := if w = 0 then L 0 else if w = 1 then L 1 else if w = 2 then L 2 else if w = 3 then L 3 else if w = 4 then (if L 4 = 0 then 0 else 1) else if w = 5 then L 5 else if w = 6 then capL L else if w = 7 then L 6 else if w = 8 then L 7 else if w = 9 then endL L else if w = 10 then (if need ≤ endL L then 1 else 0) else L 8
set_option maxHeartbeats 1000000 in
set_option maxRecDepth 100000 in
theorem c_X2_init (g : jG) (a : Nat) (L : jF) : Con g yX2_init cX2_init 1 none 1 16 0 0 [.ref a] [lb a L] (jR (none) [lb a L]) := by
  refine Con.of (own := RX2) (lv := [(0, .ref a)]) (by decide) rfl (Nat.le_of_ble_eq_true rfl) rfl ?_
  intro E hC hQ hN
  refine j_aload_n hC dX2_init_0 rfl rfl ?_
  refine j_objInit hC k252 k20 k21 (Nat.le_of_ble_eq_true rfl) (Nat.le_of_ble_eq_true rfl) dX2_init_1 ?_
  refine j_vret hC hQ rfl (Nat.le_of_ble_eq_true rfl) (Nat.le_of_ble_eq_true rfl) dX2_init_4 rfl ⟨?_, ?_⟩
  · first | rfl | (subst_vars; simp [jR, *]; done) | (subst_vars; simp_all [jR]; done)
  · rfl
set_option maxHeartbeats 1000000 in
set_option maxRecDepth 100000 in
theorem c_X2_ratedTime (g : jG) (a : Nat) (L : jF) : Con g yX2_ratedTime cX2_ratedTime 1 (some .int) 0 0 0 0 [.ref a] [lb a L] (jR (some (.int (rated (L 2)))) [lb a L]) := by
  refine Con.of (own := RX2) (lv := [(0, .ref a)]) (by decide) rfl (Nat.le_of_ble_eq_true rfl) rfl ?_
  intro E hC hQ hN
  refine j_aload_n hC dX2_ratedTime_0 rfl rfl ?_
  refine j_get hC uX2 0 0 2 rfl rfl k257 rfl dX2_ratedTime_1 ?_
  refine j_case (0) (fun s_4_0 => ?_) (fun s_4_0 => ?_)
  · refine j_tableIn hC dX2_ratedTime_4 (by rw [s_4_0]; decide) (by rw [s_4_0]; decide) (off := 28) (by rw [s_4_0]; rfl) (tgt := 32) (by decide) ?_
    refine j_bipush hC (60) dX2_ratedTime_32 (by decide) ?_
    refine j_iret hC hQ rfl rfl (Nat.le_of_ble_eq_true rfl) (Nat.le_of_ble_eq_true rfl) dX2_ratedTime_34 rfl ⟨?_, ?_⟩
    · first | rfl | (subst_vars; simp [rated, *]; done) | (subst_vars; simp_all [rated]; done)
    · rfl
  refine j_case (1) (fun s_4_1 => ?_) (fun s_4_1 => ?_)
  · refine j_tableIn hC dX2_ratedTime_4 (by rw [s_4_1]; decide) (by rw [s_4_1]; decide) (off := 31) (by rw [s_4_1]; rfl) (tgt := 35) (by decide) ?_
    refine j_bipush hC (90) dX2_ratedTime_35 (by decide) ?_
    refine j_iret hC hQ rfl rfl (Nat.le_of_ble_eq_true rfl) (Nat.le_of_ble_eq_true rfl) dX2_ratedTime_37 rfl ⟨?_, ?_⟩
    · first | rfl | (subst_vars; simp [rated, *]; done) | (subst_vars; simp_all [rated]; done)
    · rfl
  refine j_case (2) (fun s_4_2 => ?_) (fun s_4_2 => ?_)
  · refine j_tableIn hC dX2_ratedTime_4 (by rw [s_4_2]; decide) (by rw [s_4_2]; decide) (off := 34) (by rw [s_4_2]; rfl) (tgt := 38) (by decide) ?_
    refine j_bipush hC (120) dX2_ratedTime_38 (by decide) ?_
    refine j_iret hC hQ rfl rfl (Nat.le_of_ble_eq_true rfl) (Nat.le_of_ble_eq_true rfl) dX2_ratedTime_40 rfl ⟨?_, ?_⟩
    · first | rfl | (subst_vars; simp [rated, *]; done) | (subst_vars; simp_all [rated]; done)
    · rfl
  refine j_tableOut hC dX2_ratedTime_4 (jout3 s_4_0 s_4_1 s_4_2) (tgt := 41) (by decide) ?_
  refine j_sipush hC (180) dX2_ratedTime_41 (by decide) ?_
  refine j_iret hC hQ rfl rfl (Nat.le_of_ble_eq_true rfl) (Nat.le_of_ble_eq_true rfl) dX2_ratedTime_44 rfl ⟨?_, ?_⟩
  · first | rfl | (subst_vars; simp [rated, *]; done) | (subst_vars; simp_all [rated]; done)
  · rfl
set_option maxHeartbeats 1000000 in
set_option maxRecDepth 100000 in
theorem c_X2_wear (g : jG) (a : Nat) (L : jF) : Con g yX2_wear cX2_wear 1 (some .int) 0 0 0 0 [.ref a] [lb a L] (jR (some (.int (wearOf (L 2)))) [lb a L]) := by
  refine Con.of (own := RX2) (lv := [(0, .ref a)]) (by decide) rfl (Nat.le_of_ble_eq_true rfl) rfl ?_
  intro E hC hQ hN
  refine j_aload_n hC dX2_wear_0 rfl rfl ?_
  refine j_get hC uX2 0 0 2 rfl rfl k257 rfl dX2_wear_1 ?_
  refine j_case (0) (fun s_4_0 => ?_) (fun s_4_0 => ?_)
  · refine j_tableIn hC dX2_wear_4 (by rw [s_4_0]; decide) (by rw [s_4_0]; decide) (off := 28) (by rw [s_4_0]; rfl) (tgt := 32) (by decide) ?_
    refine j_iconst hC (5) dX2_wear_32 (by decide) ?_
    refine j_iret hC hQ rfl rfl (Nat.le_of_ble_eq_true rfl) (Nat.le_of_ble_eq_true rfl) dX2_wear_33 rfl ⟨?_, ?_⟩
    · first | rfl | (subst_vars; simp [wearOf, *]; done) | (subst_vars; simp_all [wearOf]; done)
    · rfl
  refine j_case (1) (fun s_4_1 => ?_) (fun s_4_1 => ?_)
  · refine j_tableIn hC dX2_wear_4 (by rw [s_4_1]; decide) (by rw [s_4_1]; decide) (off := 30) (by rw [s_4_1]; rfl) (tgt := 34) (by decide) ?_
    refine j_iconst hC (4) dX2_wear_34 (by decide) ?_
    refine j_iret hC hQ rfl rfl (Nat.le_of_ble_eq_true rfl) (Nat.le_of_ble_eq_true rfl) dX2_wear_35 rfl ⟨?_, ?_⟩
    · first | rfl | (subst_vars; simp [wearOf, *]; done) | (subst_vars; simp_all [wearOf]; done)
    · rfl
  refine j_case (2) (fun s_4_2 => ?_) (fun s_4_2 => ?_)
  · refine j_tableIn hC dX2_wear_4 (by rw [s_4_2]; decide) (by rw [s_4_2]; decide) (off := 32) (by rw [s_4_2]; rfl) (tgt := 36) (by decide) ?_
    refine j_iconst hC (3) dX2_wear_36 (by decide) ?_
    refine j_iret hC hQ rfl rfl (Nat.le_of_ble_eq_true rfl) (Nat.le_of_ble_eq_true rfl) dX2_wear_37 rfl ⟨?_, ?_⟩
    · first | rfl | (subst_vars; simp [wearOf, *]; done) | (subst_vars; simp_all [wearOf]; done)
    · rfl
  refine j_tableOut hC dX2_wear_4 (jout3 s_4_0 s_4_1 s_4_2) (tgt := 38) (by decide) ?_
  refine j_iconst hC (2) dX2_wear_38 (by decide) ?_
  refine j_iret hC hQ rfl rfl (Nat.le_of_ble_eq_true rfl) (Nat.le_of_ble_eq_true rfl) dX2_wear_39 rfl ⟨?_, ?_⟩
  · first | rfl | (subst_vars; simp [wearOf, *]; done) | (subst_vars; simp_all [wearOf]; done)
  · rfl
set_option maxHeartbeats 1000000 in
set_option maxRecDepth 100000 in
theorem c_X2_life (g : jG) (a : Nat) (L : jF) : Con g yX2_life cX2_life 1 (some .int) 0 0 0 0 [.ref a] [lb a L] (jR (some (.int (lifeOf (L 3)))) [lb a L]) := by
  refine Con.of (own := RX2) (lv := [(0, .ref a)]) (by decide) rfl (Nat.le_of_ble_eq_true rfl) rfl ?_
  intro E hC hQ hN
  refine j_aload_n hC dX2_life_0 rfl rfl ?_
  refine j_get hC uX2 0 0 3 rfl rfl k258 rfl dX2_life_1 ?_
  refine j_case (0) (fun s_4_0 => ?_) (fun s_4_0 => ?_)
  · refine j_lookup hC dX2_life_4 (by decide) (off := 28) (by rw [s_4_0]; decide) (tgt := 32) (by decide) ?_
    refine j_sipush hC (3000) dX2_life_32 (by decide) ?_
    refine j_iret hC hQ rfl rfl (Nat.le_of_ble_eq_true rfl) (Nat.le_of_ble_eq_true rfl) dX2_life_35 rfl ⟨?_, ?_⟩
    · first | rfl | (subst_vars; simp [lifeOf, *]; done) | (subst_vars; simp_all [lifeOf]; done)
    · rfl
  refine j_case (1) (fun s_4_1 => ?_) (fun s_4_1 => ?_)
  · refine j_lookup hC dX2_life_4 (by decide) (off := 32) (by rw [s_4_1]; decide) (tgt := 36) (by decide) ?_
    refine j_sipush hC (6000) dX2_life_36 (by decide) ?_
    refine j_iret hC hQ rfl rfl (Nat.le_of_ble_eq_true rfl) (Nat.le_of_ble_eq_true rfl) dX2_life_39 rfl ⟨?_, ?_⟩
    · first | rfl | (subst_vars; simp [lifeOf, *]; done) | (subst_vars; simp_all [lifeOf]; done)
    · rfl
  refine j_lookup hC dX2_life_4 (by decide) (off := 36) (by simp [Op.lookupswitch.offset, jz0 s_4_0, jz1 s_4_1]) (tgt := 40) (by decide) ?_
  refine j_sipush hC (9000) dX2_life_40 (by decide) ?_
  refine j_iret hC hQ rfl rfl (Nat.le_of_ble_eq_true rfl) (Nat.le_of_ble_eq_true rfl) dX2_life_43 rfl ⟨?_, ?_⟩
  · first | rfl | (subst_vars; simp [lifeOf, *]; done) | (subst_vars; simp_all [lifeOf]; done)
  · rfl
set_option maxHeartbeats 1000000 in
set_option maxRecDepth 100000 in
theorem c_X2_widthOf (g : jG) (x : Int32) : Con g yX2_widthOf cX2_widthOf 1 (some .int) 0 0 0 0 [.int x] [] (jR (some (.int (widthOf x))) []) := by
  refine Con.of (own := RX2) (lv := [(0, .int x)]) (by decide) rfl (Nat.le_of_ble_eq_true rfl) rfl ?_
  intro E hC hQ hN
  refine j_iload_n hC dX2_widthOf_0 rfl rfl ?_
  refine j_case (0) (fun s_1_0 => ?_) (fun s_1_0 => ?_)
  · refine j_lookup hC dX2_widthOf_1 (by decide) (off := 27) (by rw [s_1_0]; decide) (tgt := 28) (by decide) ?_
    refine j_iconst hC (4) dX2_widthOf_28 (by decide) ?_
    refine j_iret hC hQ rfl rfl (Nat.le_of_ble_eq_true rfl) (Nat.le_of_ble_eq_true rfl) dX2_widthOf_29 rfl ⟨?_, ?_⟩
    · first | rfl | (subst_vars; simp [widthOf, *]; done) | (subst_vars; simp_all [widthOf]; done)
    · rfl
  refine j_case (1) (fun s_1_1 => ?_) (fun s_1_1 => ?_)
  · refine j_lookup hC dX2_widthOf_1 (by decide) (off := 29) (by rw [s_1_1]; decide) (tgt := 30) (by decide) ?_
    refine j_bipush hC (6) dX2_widthOf_30 (by decide) ?_
    refine j_iret hC hQ rfl rfl (Nat.le_of_ble_eq_true rfl) (Nat.le_of_ble_eq_true rfl) dX2_widthOf_32 rfl ⟨?_, ?_⟩
    · first | rfl | (subst_vars; simp [widthOf, *]; done) | (subst_vars; simp_all [widthOf]; done)
    · rfl
  refine j_lookup hC dX2_widthOf_1 (by decide) (off := 32) (by simp [Op.lookupswitch.offset, jz0 s_1_0, jz1 s_1_1]) (tgt := 33) (by decide) ?_
  refine j_bipush hC (9) dX2_widthOf_33 (by decide) ?_
  refine j_iret hC hQ rfl rfl (Nat.le_of_ble_eq_true rfl) (Nat.le_of_ble_eq_true rfl) dX2_widthOf_35 rfl ⟨?_, ?_⟩
  · first | rfl | (subst_vars; simp [widthOf, *]; done) | (subst_vars; simp_all [widthOf]; done)
  · rfl
set_option maxHeartbeats 1000000 in
set_option maxRecDepth 100000 in
theorem c_X2_width (g : jG) (a : Nat) (L : jF) : Con g yX2_width cX2_width 1 (some .int) 1 20 0 0 [.ref a] [lb a L] (jR (some (.int (widthOf (L 3)))) [lb a L]) := by
  refine Con.of (own := RX2) (lv := [(0, .ref a)]) (by decide) rfl (Nat.le_of_ble_eq_true rfl) rfl ?_
  intro E hC hQ hN
  refine j_aload_n hC dX2_width_0 rfl rfl ?_
  refine j_get hC uX2 0 0 3 rfl rfl k258 rfl dX2_width_1 ?_
  refine j_callSR hC [] (c_X2_widthOf g _) mX2_widthOf k192 rfl rfl rfl ⟨(Nat.le_of_ble_eq_true rfl), (Nat.le_of_ble_eq_true rfl)⟩ (Nat.le_of_ble_eq_true rfl) ⟨(Nat.le_of_ble_eq_true rfl), (Nat.le_of_ble_eq_true rfl)⟩ dX2_width_4 ?_
  dsimp only [jrepl, List.set, jstk]
  refine j_iret hC hQ rfl rfl (Nat.le_of_ble_eq_true rfl) (Nat.le_of_ble_eq_true rfl) dX2_width_7 rfl ⟨?_, ?_⟩
  · first | rfl | (subst_vars; simp [jR, *]; done) | (subst_vars; simp_all [jR]; done)
  · rfl
set_option maxHeartbeats 1000000 in
set_option maxRecDepth 100000 in
theorem c_X2_capacity (g : jG) (a : Nat) (L : jF) : Con g yX2_capacity cX2_capacity 1 (some .int) 1 20 0 0 [.ref a] [lb a L] (jR (some (.int (capL L))) [lb a L]) := by
  refine Con.of (own := RX2) (lv := [(0, .ref a)]) (by decide) rfl (Nat.le_of_ble_eq_true rfl) rfl ?_
  intro E hC hQ hN
  refine j_iconst hC (5) dX2_capacity_0 (by decide) ?_
  refine j_aload_n hC dX2_capacity_1 rfl rfl ?_
  refine j_callVR hC [0] (c_X2_ratedTime g _ _) mX2_ratedTime k309 rfl rfl rfl rfl rfl ⟨(Nat.le_of_ble_eq_true rfl), (Nat.le_of_ble_eq_true rfl)⟩ (Nat.le_of_ble_eq_true rfl) ⟨(Nat.le_of_ble_eq_true rfl), (Nat.le_of_ble_eq_true rfl)⟩ dX2_capacity_2 ?_
  dsimp only [jrepl, List.set, jstk]
  refine j_imul hC dX2_capacity_5 ?_
  refine j_aload_n hC dX2_capacity_6 rfl rfl ?_
  refine j_get hC uX2 0 0 5 rfl rfl k261 rfl dX2_capacity_7 ?_
  refine j_imul hC dX2_capacity_10 ?_
  refine j_sipush hC (4000) dX2_capacity_11 (by decide) ?_
  refine j_idiv hC dX2_capacity_14 (by decide) ?_
  refine j_iret hC hQ rfl rfl (Nat.le_of_ble_eq_true rfl) (Nat.le_of_ble_eq_true rfl) dX2_capacity_15 rfl ⟨?_, ?_⟩
  · rfl
  · rfl
set_option maxHeartbeats 1000000 in
set_option maxRecDepth 100000 in
theorem c_X2_fullCharge (g : jG) (a : Nat) (L : jF) : Con g yX2_fullCharge cX2_fullCharge 1 (some .int) 2 40 0 0 [.ref a] [lb a L] (jR (some (.int (fullL L))) [lb a L]) := by
  refine Con.of (own := RX2) (lv := [(0, .ref a)]) (by decide) rfl (Nat.le_of_ble_eq_true rfl) rfl ?_
  intro E hC hQ hN
  refine j_bipush hC (24) dX2_fullCharge_0 (by decide) ?_
  refine j_aload_n hC dX2_fullCharge_2 rfl rfl ?_
  refine j_callVR hC [0] (c_X2_capacity g _ _) mX2_capacity k326 rfl rfl rfl rfl rfl ⟨(Nat.le_of_ble_eq_true rfl), (Nat.le_of_ble_eq_true rfl)⟩ (Nat.le_of_ble_eq_true rfl) ⟨(Nat.le_of_ble_eq_true rfl), (Nat.le_of_ble_eq_true rfl)⟩ dX2_fullCharge_3 ?_
  dsimp only [jrepl, List.set, jstk]
  refine j_imul hC dX2_fullCharge_6 ?_
  refine j_iret hC hQ rfl rfl (Nat.le_of_ble_eq_true rfl) (Nat.le_of_ble_eq_true rfl) dX2_fullCharge_7 rfl ⟨?_, ?_⟩
  · rfl
  · rfl
set_option maxHeartbeats 1000000 in
set_option maxRecDepth 100000 in
theorem c_X2_endurance (g : jG) (a : Nat) (L : jF) : Con g yX2_endurance cX2_endurance 1 (some .int) 1 18 0 0 [.ref a] [lb a L] (jR (some (.int (endL L))) [lb a L]) := by
  refine Con.of (own := RX2) (lv := [(0, .ref a)]) (by decide) rfl (Nat.le_of_ble_eq_true rfl) rfl ?_
  intro E hC hQ hN
  refine j_aload_n hC dX2_endurance_0 rfl rfl ?_
  refine j_get hC uX2 0 0 6 rfl rfl k262 rfl dX2_endurance_1 ?_
  refine j_bipush hC (24) dX2_endurance_4 (by decide) ?_
  refine j_idiv hC dX2_endurance_6 (by decide) ?_
  refine j_aload_n hC dX2_endurance_7 rfl rfl ?_
  refine j_get hC uX2 0 0 7 rfl rfl k263 rfl dX2_endurance_8 ?_
  refine j_min hC k185 k186 k12 k187 (Nat.le_of_ble_eq_true rfl) (Nat.le_of_ble_eq_true rfl) (Nat.le_of_ble_eq_true rfl) (Nat.le_of_ble_eq_true rfl) dX2_endurance_11 ?_
  refine j_iret hC hQ rfl rfl (Nat.le_of_ble_eq_true rfl) (Nat.le_of_ble_eq_true rfl) dX2_endurance_14 rfl ⟨?_, ?_⟩
  · rfl
  · rfl
set_option maxHeartbeats 1000000 in
set_option maxRecDepth 100000 in
theorem c_X2_isReady (g : jG) (a : Nat) (L : jF) (x : Int32) : Con g yX2_isReady cX2_isReady 2 (some .boolean) 2 38 0 0 [.ref a, .int x] [lb a L] (jR (some (.int (if x ≤ endL L then 1 else 0))) [lb a L]) := by
  refine Con.of (own := RX2) (lv := [(0, .ref a), (1, .int x)]) (by decide) rfl (Nat.le_of_ble_eq_true rfl) rfl ?_
  intro E hC hQ hN
  refine j_aload_n hC dX2_isReady_0 rfl rfl ?_
  refine j_callVR hC [0] (c_X2_endurance g _ _) mX2_endurance k308 rfl rfl rfl rfl rfl ⟨(Nat.le_of_ble_eq_true rfl), (Nat.le_of_ble_eq_true rfl)⟩ (Nat.le_of_ble_eq_true rfl) ⟨(Nat.le_of_ble_eq_true rfl), (Nat.le_of_ble_eq_true rfl)⟩ dX2_isReady_1 ?_
  dsimp only [jrepl, List.set, jstk]
  refine j_iload_n hC dX2_isReady_4 rfl rfl ?_
  refine j_icmp_lt hC dX2_isReady_5 (tgt := 12) (by decide) (fun c_5 => ?_) (fun c_5 => ?_)
  · skip
    refine j_iconst hC (0) dX2_isReady_12 (by decide) ?_
    refine j_iret hC hQ rfl (by first | rfl | (subst_vars; rfl) | (split <;> rfl)) (Nat.le_of_ble_eq_true rfl) (Nat.le_of_ble_eq_true rfl) dX2_isReady_13 rfl ⟨?_, ?_⟩
    · first | rfl | (subst_vars; simp [jR, *]; done) | (subst_vars; simp_all [jR]; done)
    · rfl
  · skip
    refine j_iconst hC (1) dX2_isReady_8 (by decide) ?_
    refine j_goto hC dX2_isReady_9 (tgt := 13) (by decide) ?_
    refine j_iret hC hQ rfl (by first | rfl | (subst_vars; rfl) | (split <;> rfl)) (Nat.le_of_ble_eq_true rfl) (Nat.le_of_ble_eq_true rfl) dX2_isReady_13 rfl ⟨?_, ?_⟩
    · first | rfl | (subst_vars; simp [jR, *]; done) | (subst_vars; simp_all [jR]; done)
    · rfl
set_option maxHeartbeats 1000000 in
set_option maxRecDepth 100000 in
theorem c_X2_reaches (g : jG) (a : Nat) (L : jF) (x : Int32) : Con g yX2_reaches cX2_reaches 2 (some .boolean) 2 40 0 0 [.ref a, .int x] [lb a L] (jR (some (.int (if jabs (x - L 0) ≤ widthOf (L 3) then 1 else 0))) [lb a L]) := by
  refine Con.of (own := RX2) (lv := [(0, .ref a), (1, .int x)]) (by decide) rfl (Nat.le_of_ble_eq_true rfl) rfl ?_
  intro E hC hQ hN
  refine j_iload_n hC dX2_reaches_0 rfl rfl ?_
  refine j_aload_n hC dX2_reaches_1 rfl rfl ?_
  refine j_get hC uX2 0 0 0 rfl rfl k253 rfl dX2_reaches_2 ?_
  refine j_isub hC dX2_reaches_5 ?_
  refine j_abs hC k527 k528 k12 k529 (Nat.le_of_ble_eq_true rfl) (Nat.le_of_ble_eq_true rfl) (Nat.le_of_ble_eq_true rfl) (Nat.le_of_ble_eq_true rfl) dX2_reaches_6 ?_
  refine j_aload_n hC dX2_reaches_9 rfl rfl ?_
  refine j_callVR hC [0] (c_X2_width g _ _) mX2_width k530 rfl rfl rfl rfl rfl ⟨(Nat.le_of_ble_eq_true rfl), (Nat.le_of_ble_eq_true rfl)⟩ (Nat.le_of_ble_eq_true rfl) ⟨(Nat.le_of_ble_eq_true rfl), (Nat.le_of_ble_eq_true rfl)⟩ dX2_reaches_10 ?_
  dsimp only [jrepl, List.set, jstk]
  refine j_icmp_gt hC dX2_reaches_13 (tgt := 20) (by decide) (fun c_13 => ?_) (fun c_13 => ?_)
  · skip
    refine j_iconst hC (0) dX2_reaches_20 (by decide) ?_
    refine j_iret hC hQ rfl (by first | rfl | (subst_vars; rfl) | (split <;> rfl)) (Nat.le_of_ble_eq_true rfl) (Nat.le_of_ble_eq_true rfl) dX2_reaches_21 rfl ⟨?_, ?_⟩
    · first | rfl | (subst_vars; simp [jabs, *]; done) | (subst_vars; simp_all [jabs]; done)
    · rfl
  · skip
    refine j_iconst hC (1) dX2_reaches_16 (by decide) ?_
    refine j_goto hC dX2_reaches_17 (tgt := 21) (by decide) ?_
    refine j_iret hC hQ rfl (by first | rfl | (subst_vars; rfl) | (split <;> rfl)) (Nat.le_of_ble_eq_true rfl) (Nat.le_of_ble_eq_true rfl) dX2_reaches_21 rfl ⟨?_, ?_⟩
    · first | rfl | (subst_vars; simp [jabs, *]; done) | (subst_vars; simp_all [jabs]; done)
    · rfl
set_option maxHeartbeats 1000000 in
set_option maxRecDepth 100000 in
theorem c_X2_putLamp (g : jG) (a : Nat) (L : jF) (x : Int32) : Con g yX2_putLamp cX2_putLamp 2 none 1 20 0 0 [.ref a, .int x] [lb a L] (jR (none) [lb a (putL L x)]) := by
  refine Con.of (own := RX2) (lv := [(0, .ref a), (1, .int x)]) (by decide) rfl (Nat.le_of_ble_eq_true rfl) rfl ?_
  intro E hC hQ hN
  refine j_aload_n hC dX2_putLamp_0 rfl rfl ?_
  refine j_iload_n hC dX2_putLamp_1 rfl rfl ?_
  refine j_put_2_3 (bi := 0) hC rfl k258 dX2_putLamp_2 ?_
  dsimp only [List.set]
  refine j_aload_n hC dX2_putLamp_5 rfl rfl ?_
  refine j_aload_n hC dX2_putLamp_6 rfl rfl ?_
  refine j_callVR hC [0] (c_X2_life g _ _) mX2_life k357 rfl rfl rfl rfl rfl ⟨(Nat.le_of_ble_eq_true rfl), (Nat.le_of_ble_eq_true rfl)⟩ (Nat.le_of_ble_eq_true rfl) ⟨(Nat.le_of_ble_eq_true rfl), (Nat.le_of_ble_eq_true rfl)⟩ dX2_putLamp_7 ?_
  dsimp only [jrepl, List.set, jstk]
  refine j_put_2_7 (bi := 0) hC rfl k263 dX2_putLamp_10 ?_
  dsimp only [List.set]
  refine j_vret hC hQ rfl (Nat.le_of_ble_eq_true rfl) (Nat.le_of_ble_eq_true rfl) dX2_putLamp_13 rfl ⟨?_, ?_⟩
  · first | rfl | (subst_vars; simp [jR, *]; done) | (subst_vars; simp_all [jR]; done)
  · rfl
set_option maxHeartbeats 1000000 in
set_option maxRecDepth 100000 in
theorem c_X2_begin (g : jG) (a : Nat) (L : jF) (p c b l m : Int32) (hm : m = 0 ∨ m = 1) : Con g yX2_begin cX2_begin 6 none 3 60 0 0 [.ref a, .int p, .int c, .int b, .int l, .int m] [lb a L] (jR (none) [lb a (newL p c b l m)]) := by
  refine Con.of (own := RX2) (lv := [(0, .ref a), (1, .int p), (2, .int c), (3, .int b), (4, .int l), (5, .int m)]) (by decide) rfl (Nat.le_of_ble_eq_true rfl) rfl ?_
  intro E hC hQ hN
  refine j_aload_n hC dX2_begin_0 rfl rfl ?_
  refine j_iload_n hC dX2_begin_1 rfl rfl ?_
  refine j_put_2_0 (bi := 0) hC rfl k253 dX2_begin_2 ?_
  dsimp only [List.set]
  refine j_aload_n hC dX2_begin_5 rfl rfl ?_
  refine j_iload_n hC dX2_begin_6 rfl rfl ?_
  refine j_put_2_1 (bi := 0) hC rfl k255 dX2_begin_7 ?_
  dsimp only [List.set]
  refine j_aload_n hC dX2_begin_10 rfl rfl ?_
  refine j_iload_n hC dX2_begin_11 rfl rfl ?_
  refine j_put_2_2 (bi := 0) hC rfl k257 dX2_begin_12 ?_
  dsimp only [List.set]
  refine j_aload_n hC dX2_begin_15 rfl rfl ?_
  refine j_iload hC dX2_begin_16 rfl ?_
  refine j_put_2_4 (bi := 0) hC rfl k259 (by first | exact Or.inl rfl | exact Or.inr rfl | assumption | (subst_vars; first | exact Or.inl rfl | exact Or.inr rfl | assumption)) dX2_begin_18 ?_
  dsimp only [List.set]
  refine j_aload_n hC dX2_begin_21 rfl rfl ?_
  refine j_sipush hC (1000) dX2_begin_22 (by decide) ?_
  refine j_put_2_5 (bi := 0) hC rfl k261 dX2_begin_25 ?_
  dsimp only [List.set]
  refine j_aload_n hC dX2_begin_28 rfl rfl ?_
  refine j_aload_n hC dX2_begin_29 rfl rfl ?_
  refine j_callVR hC [0] (c_X2_fullCharge g _ _) mX2_fullCharge k322 rfl rfl rfl rfl rfl ⟨(Nat.le_of_ble_eq_true rfl), (Nat.le_of_ble_eq_true rfl)⟩ (Nat.le_of_ble_eq_true rfl) ⟨(Nat.le_of_ble_eq_true rfl), (Nat.le_of_ble_eq_true rfl)⟩ dX2_begin_30 ?_
  dsimp only [jrepl, List.set, jstk]
  refine j_put_2_6 (bi := 0) hC rfl k262 dX2_begin_33 ?_
  dsimp only [List.set]
  refine j_aload_n hC dX2_begin_36 rfl rfl ?_
  refine j_bipush hC (-9) dX2_begin_37 (by decide) ?_
  refine j_put_2_8 (bi := 0) hC rfl k265 dX2_begin_39 ?_
  dsimp only [List.set]
  refine j_aload_n hC dX2_begin_42 rfl rfl ?_
  refine j_iload hC dX2_begin_43 rfl ?_
  refine j_callVR hC [0] (c_X2_putLamp g _ _ _) mX2_putLamp k353 rfl rfl rfl rfl rfl ⟨(Nat.le_of_ble_eq_true rfl), (Nat.le_of_ble_eq_true rfl)⟩ (Nat.le_of_ble_eq_true rfl) ⟨(Nat.le_of_ble_eq_true rfl), (Nat.le_of_ble_eq_true rfl)⟩ dX2_begin_45 ?_
  dsimp only [jrepl, List.set, jstk]
  refine j_vret hC hQ rfl (Nat.le_of_ble_eq_true rfl) (Nat.le_of_ble_eq_true rfl) dX2_begin_48 rfl ⟨?_, ?_⟩
  · first | rfl | (subst_vars; simp [jR, *]; done) | (subst_vars; simp_all [jR]; done)
  · rfl
set_option maxHeartbeats 1000000 in
set_option maxRecDepth 100000 in
theorem c_X2_copyFrom (g : jG) (a b : Nat) (L L2 : jF) (hm : L2 4 = 0 ∨ L2 4 = 1) : Con g yX2_copyFrom cX2_copyFrom 2 none 0 0 0 0 [.ref a, .ref b] [lb a L, lb b L2] (jR (none) [lb a L2, lb b L2]) := by
  refine Con.of (own := RX2) (lv := [(0, .ref a), (1, .ref b)]) (by decide) rfl (Nat.le_of_ble_eq_true rfl) rfl ?_
  intro E hC hQ hN
  refine j_aload_n hC dX2_copyFrom_0 rfl rfl ?_
  refine j_aload_n hC dX2_copyFrom_1 rfl rfl ?_
  refine j_get hC uX2 1 0 0 rfl rfl k253 rfl dX2_copyFrom_2 ?_
  refine j_put_2_0 (bi := 0) hC rfl k253 dX2_copyFrom_5 ?_
  dsimp only [List.set]
  refine j_aload_n hC dX2_copyFrom_8 rfl rfl ?_
  refine j_aload_n hC dX2_copyFrom_9 rfl rfl ?_
  refine j_get hC uX2 1 0 1 rfl rfl k255 rfl dX2_copyFrom_10 ?_
  refine j_put_2_1 (bi := 0) hC rfl k255 dX2_copyFrom_13 ?_
  dsimp only [List.set]
  refine j_aload_n hC dX2_copyFrom_16 rfl rfl ?_
  refine j_aload_n hC dX2_copyFrom_17 rfl rfl ?_
  refine j_get hC uX2 1 0 2 rfl rfl k257 rfl dX2_copyFrom_18 ?_
  refine j_put_2_2 (bi := 0) hC rfl k257 dX2_copyFrom_21 ?_
  dsimp only [List.set]
  refine j_aload_n hC dX2_copyFrom_24 rfl rfl ?_
  refine j_aload_n hC dX2_copyFrom_25 rfl rfl ?_
  refine j_get hC uX2 1 0 3 rfl rfl k258 rfl dX2_copyFrom_26 ?_
  refine j_put_2_3 (bi := 0) hC rfl k258 dX2_copyFrom_29 ?_
  dsimp only [List.set]
  refine j_aload_n hC dX2_copyFrom_32 rfl rfl ?_
  refine j_aload_n hC dX2_copyFrom_33 rfl rfl ?_
  refine j_get hC uX2 1 0 4 rfl rfl k259 rfl dX2_copyFrom_34 ?_
  refine j_put_2_4 (bi := 0) hC rfl k259 (by first | exact Or.inl rfl | exact Or.inr rfl | assumption | (subst_vars; first | exact Or.inl rfl | exact Or.inr rfl | assumption)) dX2_copyFrom_37 ?_
  dsimp only [List.set]
  refine j_aload_n hC dX2_copyFrom_40 rfl rfl ?_
  refine j_aload_n hC dX2_copyFrom_41 rfl rfl ?_
  refine j_get hC uX2 1 0 5 rfl rfl k261 rfl dX2_copyFrom_42 ?_
  refine j_put_2_5 (bi := 0) hC rfl k261 dX2_copyFrom_45 ?_
  dsimp only [List.set]
  refine j_aload_n hC dX2_copyFrom_48 rfl rfl ?_
  refine j_aload_n hC dX2_copyFrom_49 rfl rfl ?_
  refine j_get hC uX2 1 0 6 rfl rfl k262 rfl dX2_copyFrom_50 ?_
  refine j_put_2_6 (bi := 0) hC rfl k262 dX2_copyFrom_53 ?_
  dsimp only [List.set]
  refine j_aload_n hC dX2_copyFrom_56 rfl rfl ?_
  refine j_aload_n hC dX2_copyFrom_57 rfl rfl ?_
  refine j_get hC uX2 1 0 7 rfl rfl k263 rfl dX2_copyFrom_58 ?_
  refine j_put_2_7 (bi := 0) hC rfl k263 dX2_copyFrom_61 ?_
  dsimp only [List.set]
  refine j_aload_n hC dX2_copyFrom_64 rfl rfl ?_
  refine j_aload_n hC dX2_copyFrom_65 rfl rfl ?_
  refine j_get hC uX2 1 0 8 rfl rfl k265 rfl dX2_copyFrom_66 ?_
  refine j_put_2_8 (bi := 0) hC rfl k265 dX2_copyFrom_69 ?_
  dsimp only [List.set]
  refine j_vret hC hQ rfl (Nat.le_of_ble_eq_true rfl) (Nat.le_of_ble_eq_true rfl) dX2_copyFrom_72 rfl ⟨?_, ?_⟩
  · first | rfl | (subst_vars; simp [jR, *]; done) | (subst_vars; simp_all [jR]; done)
  · rfl
set_option maxHeartbeats 1000000 in
set_option maxRecDepth 100000 in
theorem c_X2_letHoursPass (g : jG) (a : Nat) (L : jF) (x : Int32) : Con g yX2_letHoursPass cX2_letHoursPass 2 none 3 60 0 0 [.ref a, .int x] [lb a L] (jR (none) [lb a (hoursL L x)]) := by
  refine Con.of (own := RX2) (lv := [(0, .ref a), (1, .int x)]) (by decide) rfl (Nat.le_of_ble_eq_true rfl) rfl ?_
  intro E hC hQ hN
  refine j_aload_n hC dX2_letHoursPass_0 rfl rfl ?_
  refine j_get hC uX2 0 0 4 rfl rfl k259 rfl dX2_letHoursPass_1 ?_
  refine j_if_eq hC dX2_letHoursPass_4 (tgt := 24) (by decide) (fun c_4 => ?_) (fun c_4 => ?_)
  · skip
    refine j_aload_n hC dX2_letHoursPass_24 rfl rfl ?_
    refine j_aload_n hC dX2_letHoursPass_25 rfl rfl ?_
    refine j_callVR hC [0] (c_X2_fullCharge g _ _) mX2_fullCharge k322 rfl rfl rfl rfl rfl ⟨(Nat.le_of_ble_eq_true rfl), (Nat.le_of_ble_eq_true rfl)⟩ (Nat.le_of_ble_eq_true rfl) ⟨(Nat.le_of_ble_eq_true rfl), (Nat.le_of_ble_eq_true rfl)⟩ dX2_letHoursPass_26 ?_
    dsimp only [jrepl, List.set, jstk]
    refine j_aload_n hC dX2_letHoursPass_29 rfl rfl ?_
    refine j_get hC uX2 0 0 6 rfl rfl k262 rfl dX2_letHoursPass_30 ?_
    refine j_iload_n hC dX2_letHoursPass_33 rfl rfl ?_
    refine j_aload_n hC dX2_letHoursPass_34 rfl rfl ?_
    refine j_callVR hC [0] (c_X2_capacity g _ _) mX2_capacity k326 rfl rfl rfl rfl rfl ⟨(Nat.le_of_ble_eq_true rfl), (Nat.le_of_ble_eq_true rfl)⟩ (Nat.le_of_ble_eq_true rfl) ⟨(Nat.le_of_ble_eq_true rfl), (Nat.le_of_ble_eq_true rfl)⟩ dX2_letHoursPass_35 ?_
    dsimp only [jrepl, List.set, jstk]
    refine j_imul hC dX2_letHoursPass_38 ?_
    refine j_iadd hC dX2_letHoursPass_39 ?_
    refine j_min hC k185 k186 k12 k187 (Nat.le_of_ble_eq_true rfl) (Nat.le_of_ble_eq_true rfl) (Nat.le_of_ble_eq_true rfl) (Nat.le_of_ble_eq_true rfl) dX2_letHoursPass_40 ?_
    refine j_put_2_6 (bi := 0) hC rfl k262 dX2_letHoursPass_43 ?_
    dsimp only [List.set]
    refine j_vret hC hQ rfl (Nat.le_of_ble_eq_true rfl) (Nat.le_of_ble_eq_true rfl) dX2_letHoursPass_46 rfl ⟨?_, ?_⟩
    · first | rfl | (subst_vars; simp [jR, *]; done) | (subst_vars; simp_all [jR]; done)
    · first | rfl | (unfold hoursL restPass; rw [if_pos c_4]; rfl) | (unfold hoursL restPass; rw [if_neg c_4]; rfl)
  · skip
    refine j_aload_n hC dX2_letHoursPass_7 rfl rfl ?_
    refine j_iconst hC (0) dX2_letHoursPass_8 (by decide) ?_
    refine j_aload_n hC dX2_letHoursPass_9 rfl rfl ?_
    refine j_get hC uX2 0 0 7 rfl rfl k263 rfl dX2_letHoursPass_10 ?_
    refine j_bipush hC (60) dX2_letHoursPass_13 (by decide) ?_
    refine j_iload_n hC dX2_letHoursPass_15 rfl rfl ?_
    refine j_imul hC dX2_letHoursPass_16 ?_
    refine j_isub hC dX2_letHoursPass_17 ?_
    refine j_max hC k321 k196 k12 k197 (Nat.le_of_ble_eq_true rfl) (Nat.le_of_ble_eq_true rfl) (Nat.le_of_ble_eq_true rfl) (Nat.le_of_ble_eq_true rfl) dX2_letHoursPass_18 ?_
    refine j_put_2_7 (bi := 0) hC rfl k263 dX2_letHoursPass_21 ?_
    dsimp only [List.set]
    refine j_aload_n hC dX2_letHoursPass_24 rfl rfl ?_
    refine j_aload_n hC dX2_letHoursPass_25 rfl rfl ?_
    refine j_callVR hC [0] (c_X2_fullCharge g _ _) mX2_fullCharge k322 rfl rfl rfl rfl rfl ⟨(Nat.le_of_ble_eq_true rfl), (Nat.le_of_ble_eq_true rfl)⟩ (Nat.le_of_ble_eq_true rfl) ⟨(Nat.le_of_ble_eq_true rfl), (Nat.le_of_ble_eq_true rfl)⟩ dX2_letHoursPass_26 ?_
    dsimp only [jrepl, List.set, jstk]
    refine j_aload_n hC dX2_letHoursPass_29 rfl rfl ?_
    refine j_get hC uX2 0 0 6 rfl rfl k262 rfl dX2_letHoursPass_30 ?_
    refine j_iload_n hC dX2_letHoursPass_33 rfl rfl ?_
    refine j_aload_n hC dX2_letHoursPass_34 rfl rfl ?_
    refine j_callVR hC [0] (c_X2_capacity g _ _) mX2_capacity k326 rfl rfl rfl rfl rfl ⟨(Nat.le_of_ble_eq_true rfl), (Nat.le_of_ble_eq_true rfl)⟩ (Nat.le_of_ble_eq_true rfl) ⟨(Nat.le_of_ble_eq_true rfl), (Nat.le_of_ble_eq_true rfl)⟩ dX2_letHoursPass_35 ?_
    dsimp only [jrepl, List.set, jstk]
    refine j_imul hC dX2_letHoursPass_38 ?_
    refine j_iadd hC dX2_letHoursPass_39 ?_
    refine j_min hC k185 k186 k12 k187 (Nat.le_of_ble_eq_true rfl) (Nat.le_of_ble_eq_true rfl) (Nat.le_of_ble_eq_true rfl) (Nat.le_of_ble_eq_true rfl) dX2_letHoursPass_40 ?_
    refine j_put_2_6 (bi := 0) hC rfl k262 dX2_letHoursPass_43 ?_
    dsimp only [List.set]
    refine j_vret hC hQ rfl (Nat.le_of_ble_eq_true rfl) (Nat.le_of_ble_eq_true rfl) dX2_letHoursPass_46 rfl ⟨?_, ?_⟩
    · first | rfl | (subst_vars; simp [jR, *]; done) | (subst_vars; simp_all [jR]; done)
    · first | rfl | (unfold hoursL restPass; rw [if_pos c_4]; rfl) | (unfold hoursL restPass; rw [if_neg c_4]; rfl)
set_option maxHeartbeats 1000000 in
set_option maxRecDepth 100000 in
theorem c_X2_age (g : jG) (a : Nat) (L : jF) (x : Int32) : Con g yX2_age cX2_age 2 none 3 60 0 0 [.ref a, .int x] [lb a L] (jR (none) [lb a (ageL L x)]) := by
  refine Con.of (own := RX2) (lv := [(0, .ref a), (1, .int x)]) (by decide) rfl (Nat.le_of_ble_eq_true rfl) rfl ?_
  intro E hC hQ hN
  refine j_aload_n hC dX2_age_0 rfl rfl ?_
  refine j_iconst hC (0) dX2_age_1 (by decide) ?_
  refine j_aload_n hC dX2_age_2 rfl rfl ?_
  refine j_get hC uX2 0 0 5 rfl rfl k261 rfl dX2_age_3 ?_
  refine j_iload_n hC dX2_age_6 rfl rfl ?_
  refine j_isub hC dX2_age_7 ?_
  refine j_max hC k321 k196 k12 k197 (Nat.le_of_ble_eq_true rfl) (Nat.le_of_ble_eq_true rfl) (Nat.le_of_ble_eq_true rfl) (Nat.le_of_ble_eq_true rfl) dX2_age_8 ?_
  refine j_put_2_5 (bi := 0) hC rfl k261 dX2_age_11 ?_
  dsimp only [List.set]
  refine j_aload_n hC dX2_age_14 rfl rfl ?_
  refine j_aload_n hC dX2_age_15 rfl rfl ?_
  refine j_get hC uX2 0 0 6 rfl rfl k262 rfl dX2_age_16 ?_
  refine j_aload_n hC dX2_age_19 rfl rfl ?_
  refine j_callVR hC [0] (c_X2_fullCharge g _ _) mX2_fullCharge k322 rfl rfl rfl rfl rfl ⟨(Nat.le_of_ble_eq_true rfl), (Nat.le_of_ble_eq_true rfl)⟩ (Nat.le_of_ble_eq_true rfl) ⟨(Nat.le_of_ble_eq_true rfl), (Nat.le_of_ble_eq_true rfl)⟩ dX2_age_20 ?_
  dsimp only [jrepl, List.set, jstk]
  refine j_min hC k185 k186 k12 k187 (Nat.le_of_ble_eq_true rfl) (Nat.le_of_ble_eq_true rfl) (Nat.le_of_ble_eq_true rfl) (Nat.le_of_ble_eq_true rfl) dX2_age_23 ?_
  refine j_put_2_6 (bi := 0) hC rfl k262 dX2_age_26 ?_
  dsimp only [List.set]
  refine j_vret hC hQ rfl (Nat.le_of_ble_eq_true rfl) (Nat.le_of_ble_eq_true rfl) dX2_age_29 rfl ⟨?_, ?_⟩
  · first | rfl | (subst_vars; simp [jR, *]; done) | (subst_vars; simp_all [jR]; done)
  · rfl
set_option maxHeartbeats 1000000 in
set_option maxRecDepth 100000 in
theorem c_X2_burn (g : jG) (a : Nat) (L : jF) : Con g yX2_burn cX2_burn 2 (some .boolean) 4 81 0 0 [.ref a] [lb a L] (jR (some (.int (if burnMin L = rated (L 2) then 1 else 0))) [lb a (burnL L)]) := by
  refine Con.of (own := RX2) (lv := [(0, .ref a)]) (by decide) rfl (Nat.le_of_ble_eq_true rfl) rfl ?_
  intro E hC hQ hN
  refine j_aload_n hC dX2_burn_0 rfl rfl ?_
  refine j_callVR hC [0] (c_X2_endurance g _ _) mX2_endurance k308 rfl rfl rfl rfl rfl ⟨(Nat.le_of_ble_eq_true rfl), (Nat.le_of_ble_eq_true rfl)⟩ (Nat.le_of_ble_eq_true rfl) ⟨(Nat.le_of_ble_eq_true rfl), (Nat.le_of_ble_eq_true rfl)⟩ dX2_burn_1 ?_
  dsimp only [jrepl, List.set, jstk]
  refine j_aload_n hC dX2_burn_4 rfl rfl ?_
  refine j_callVR hC [0] (c_X2_ratedTime g _ _) mX2_ratedTime k309 rfl rfl rfl rfl rfl ⟨(Nat.le_of_ble_eq_true rfl), (Nat.le_of_ble_eq_true rfl)⟩ (Nat.le_of_ble_eq_true rfl) ⟨(Nat.le_of_ble_eq_true rfl), (Nat.le_of_ble_eq_true rfl)⟩ dX2_burn_5 ?_
  dsimp only [jrepl, List.set, jstk]
  refine j_min hC k185 k186 k12 k187 (Nat.le_of_ble_eq_true rfl) (Nat.le_of_ble_eq_true rfl) (Nat.le_of_ble_eq_true rfl) (Nat.le_of_ble_eq_true rfl) dX2_burn_8 ?_
  refine j_istore_n hC dX2_burn_11 rfl rfl rfl rfl (fun v_11 e_11 => ?_)
  refine j_aload_n hC dX2_burn_12 rfl rfl ?_
  refine j_dup hC dX2_burn_13 rfl ?_
  refine j_get hC uX2 0 0 7 rfl rfl k263 rfl dX2_burn_14 ?_
  refine j_iload_n hC dX2_burn_17 rfl rfl ?_
  refine j_isub hC dX2_burn_18 ?_
  refine j_put_2_7 (bi := 0) hC rfl k263 dX2_burn_19 ?_
  dsimp only [List.set]
  refine j_aload_n hC dX2_burn_22 rfl rfl ?_
  refine j_dup hC dX2_burn_23 rfl ?_
  refine j_get hC uX2 0 0 6 rfl rfl k262 rfl dX2_burn_24 ?_
  refine j_bipush hC (24) dX2_burn_27 (by decide) ?_
  refine j_iload_n hC dX2_burn_29 rfl rfl ?_
  refine j_imul hC dX2_burn_30 ?_
  refine j_isub hC dX2_burn_31 ?_
  refine j_put_2_6 (bi := 0) hC rfl k262 dX2_burn_32 ?_
  dsimp only [List.set]
  refine j_aload_n hC dX2_burn_35 rfl rfl ?_
  refine j_aload_n hC dX2_burn_36 rfl rfl ?_
  refine j_callVR hC [0] (c_X2_wear g _ _) mX2_wear k313 rfl rfl rfl rfl rfl ⟨(Nat.le_of_ble_eq_true rfl), (Nat.le_of_ble_eq_true rfl)⟩ (Nat.le_of_ble_eq_true rfl) ⟨(Nat.le_of_ble_eq_true rfl), (Nat.le_of_ble_eq_true rfl)⟩ dX2_burn_37 ?_
  dsimp only [jrepl, List.set, jstk]
  refine j_callVR hC [0] (c_X2_age g _ _ _) mX2_age k317 rfl rfl rfl rfl rfl ⟨(Nat.le_of_ble_eq_true rfl), (Nat.le_of_ble_eq_true rfl)⟩ (Nat.le_of_ble_eq_true rfl) ⟨(Nat.le_of_ble_eq_true rfl), (Nat.le_of_ble_eq_true rfl)⟩ dX2_burn_40 ?_
  dsimp only [jrepl, List.set, jstk]
  refine j_aload_n hC dX2_burn_43 rfl rfl ?_
  refine j_iload_n hC dX2_burn_44 rfl rfl ?_
  refine j_put_2_8 (bi := 0) hC rfl k265 dX2_burn_45 ?_
  dsimp only [List.set]
  refine j_iload_n hC dX2_burn_48 rfl rfl ?_
  refine j_aload_n hC dX2_burn_49 rfl rfl ?_
  refine j_callVR hC [0] (c_X2_ratedTime g _ _) mX2_ratedTime k309 rfl rfl rfl rfl rfl ⟨(Nat.le_of_ble_eq_true rfl), (Nat.le_of_ble_eq_true rfl)⟩ (Nat.le_of_ble_eq_true rfl) ⟨(Nat.le_of_ble_eq_true rfl), (Nat.le_of_ble_eq_true rfl)⟩ dX2_burn_50 ?_
  dsimp only [jrepl, List.set, jstk]
  refine j_icmp_ne hC dX2_burn_53 (tgt := 60) (by decide) (fun c_53 => ?_) (fun c_53 => ?_)
  · skip
    refine j_iconst hC (0) dX2_burn_60 (by decide) ?_
    refine j_iret hC hQ rfl (by first | rfl | (subst_vars; rfl) | (split <;> rfl)) (Nat.le_of_ble_eq_true rfl) (Nat.le_of_ble_eq_true rfl) dX2_burn_61 rfl ⟨?_, ?_⟩
    · (subst_vars; first | exact congrArg (fun z => some (Value.int z)) (if_pos (c := burnMin L = rated (L 2)) c_53).symm | exact congrArg (fun z => some (Value.int z)) (if_neg (c := burnMin L = rated (L 2)) c_53).symm)
    · (subst_vars; rfl)
  · skip
    refine j_iconst hC (1) dX2_burn_56 (by decide) ?_
    refine j_goto hC dX2_burn_57 (tgt := 61) (by decide) ?_
    refine j_iret hC hQ rfl (by first | rfl | (subst_vars; rfl) | (split <;> rfl)) (Nat.le_of_ble_eq_true rfl) (Nat.le_of_ble_eq_true rfl) dX2_burn_61 rfl ⟨?_, ?_⟩
    · (subst_vars; first | exact congrArg (fun z => some (Value.int z)) (if_pos (c := burnMin L = rated (L 2)) c_53).symm | exact congrArg (fun z => some (Value.int z)) (if_neg (c := burnMin L = rated (L 2)) c_53).symm)
    · (subst_vars; rfl)
set_option maxHeartbeats 1000000 in
set_option maxRecDepth 100000 in
theorem c_X2_property (g : jG) (a : Nat) (L : jF) (x y : Int32) : Con g yX2_property cX2_property 3 (some .int) 3 59 0 0 [.ref a, .int x, .int y] [lb a L] (jR (some (.int (propL L x y))) [lb a L]) := by
  refine Con.of (own := RX2) (lv := [(0, .ref a), (1, .int x), (2, .int y)]) (by decide) rfl (Nat.le_of_ble_eq_true rfl) rfl ?_
  intro E hC hQ hN
  refine j_iload_n hC dX2_property_0 rfl rfl ?_
  refine j_case (0) (fun s_1_0 => ?_) (fun s_1_0 => ?_)
  · refine j_tableIn hC dX2_property_1 (by rw [s_1_0]; decide) (by rw [s_1_0]; decide) (off := 59) (by rw [s_1_0]; rfl) (tgt := 60) (by decide) ?_
    refine j_aload_n hC dX2_property_60 rfl rfl ?_
    refine j_get hC uX2 0 0 0 rfl rfl k253 rfl dX2_property_61 ?_
    refine j_iret hC hQ rfl rfl (Nat.le_of_ble_eq_true rfl) (Nat.le_of_ble_eq_true rfl) dX2_property_64 rfl ⟨?_, ?_⟩
    · first | rfl | (subst_vars; simp [propL, *]; done) | (subst_vars; simp_all [propL]; done)
    · rfl
  refine j_case (1) (fun s_1_1 => ?_) (fun s_1_1 => ?_)
  · refine j_tableIn hC dX2_property_1 (by rw [s_1_1]; decide) (by rw [s_1_1]; decide) (off := 64) (by rw [s_1_1]; rfl) (tgt := 65) (by decide) ?_
    refine j_aload_n hC dX2_property_65 rfl rfl ?_
    refine j_get hC uX2 0 0 1 rfl rfl k255 rfl dX2_property_66 ?_
    refine j_iret hC hQ rfl rfl (Nat.le_of_ble_eq_true rfl) (Nat.le_of_ble_eq_true rfl) dX2_property_69 rfl ⟨?_, ?_⟩
    · first | rfl | (subst_vars; simp [propL, *]; done) | (subst_vars; simp_all [propL]; done)
    · rfl
  refine j_case (2) (fun s_1_2 => ?_) (fun s_1_2 => ?_)
  · refine j_tableIn hC dX2_property_1 (by rw [s_1_2]; decide) (by rw [s_1_2]; decide) (off := 69) (by rw [s_1_2]; rfl) (tgt := 70) (by decide) ?_
    refine j_aload_n hC dX2_property_70 rfl rfl ?_
    refine j_get hC uX2 0 0 2 rfl rfl k257 rfl dX2_property_71 ?_
    refine j_iret hC hQ rfl rfl (Nat.le_of_ble_eq_true rfl) (Nat.le_of_ble_eq_true rfl) dX2_property_74 rfl ⟨?_, ?_⟩
    · first | rfl | (subst_vars; simp [propL, *]; done) | (subst_vars; simp_all [propL]; done)
    · rfl
  refine j_case (3) (fun s_1_3 => ?_) (fun s_1_3 => ?_)
  · refine j_tableIn hC dX2_property_1 (by rw [s_1_3]; decide) (by rw [s_1_3]; decide) (off := 74) (by rw [s_1_3]; rfl) (tgt := 75) (by decide) ?_
    refine j_aload_n hC dX2_property_75 rfl rfl ?_
    refine j_get hC uX2 0 0 3 rfl rfl k258 rfl dX2_property_76 ?_
    refine j_iret hC hQ rfl rfl (Nat.le_of_ble_eq_true rfl) (Nat.le_of_ble_eq_true rfl) dX2_property_79 rfl ⟨?_, ?_⟩
    · first | rfl | (subst_vars; simp [propL, *]; done) | (subst_vars; simp_all [propL]; done)
    · rfl
  refine j_case (4) (fun s_1_4 => ?_) (fun s_1_4 => ?_)
  · refine j_tableIn hC dX2_property_1 (by rw [s_1_4]; decide) (by rw [s_1_4]; decide) (off := 79) (by rw [s_1_4]; rfl) (tgt := 80) (by decide) ?_
    refine j_aload_n hC dX2_property_80 rfl rfl ?_
    refine j_get hC uX2 0 0 4 rfl rfl k259 rfl dX2_property_81 ?_
    refine j_if_eq hC dX2_property_84 (tgt := 91) (by decide) (fun c_84 => ?_) (fun c_84 => ?_)
    · skip
      refine j_iconst hC (0) dX2_property_91 (by decide) ?_
      refine j_iret hC hQ rfl rfl (Nat.le_of_ble_eq_true rfl) (Nat.le_of_ble_eq_true rfl) dX2_property_92 rfl ⟨?_, ?_⟩
      · first | rfl | (subst_vars; simp [propL, *]; done) | (subst_vars; simp_all [propL]; done)
      · rfl
    · skip
      refine j_iconst hC (1) dX2_property_87 (by decide) ?_
      refine j_goto hC dX2_property_88 (tgt := 92) (by decide) ?_
      refine j_iret hC hQ rfl rfl (Nat.le_of_ble_eq_true rfl) (Nat.le_of_ble_eq_true rfl) dX2_property_92 rfl ⟨?_, ?_⟩
      · first | rfl | (subst_vars; simp [propL, *]; done) | (subst_vars; simp_all [propL]; done)
      · rfl
  refine j_case (5) (fun s_1_5 => ?_) (fun s_1_5 => ?_)
  · refine j_tableIn hC dX2_property_1 (by rw [s_1_5]; decide) (by rw [s_1_5]; decide) (off := 92) (by rw [s_1_5]; rfl) (tgt := 93) (by decide) ?_
    refine j_aload_n hC dX2_property_93 rfl rfl ?_
    refine j_get hC uX2 0 0 5 rfl rfl k261 rfl dX2_property_94 ?_
    refine j_iret hC hQ rfl rfl (Nat.le_of_ble_eq_true rfl) (Nat.le_of_ble_eq_true rfl) dX2_property_97 rfl ⟨?_, ?_⟩
    · first | rfl | (subst_vars; simp [propL, *]; done) | (subst_vars; simp_all [propL]; done)
    · rfl
  refine j_case (6) (fun s_1_6 => ?_) (fun s_1_6 => ?_)
  · refine j_tableIn hC dX2_property_1 (by rw [s_1_6]; decide) (by rw [s_1_6]; decide) (off := 97) (by rw [s_1_6]; rfl) (tgt := 98) (by decide) ?_
    refine j_aload_n hC dX2_property_98 rfl rfl ?_
    refine j_callVR hC [0] (c_X2_capacity g _ _) mX2_capacity k326 rfl rfl rfl rfl rfl ⟨(Nat.le_of_ble_eq_true rfl), (Nat.le_of_ble_eq_true rfl)⟩ (Nat.le_of_ble_eq_true rfl) ⟨(Nat.le_of_ble_eq_true rfl), (Nat.le_of_ble_eq_true rfl)⟩ dX2_property_99 ?_
    dsimp only [jrepl, List.set, jstk]
    refine j_iret hC hQ rfl rfl (Nat.le_of_ble_eq_true rfl) (Nat.le_of_ble_eq_true rfl) dX2_property_102 rfl ⟨?_, ?_⟩
    · first | rfl | (subst_vars; simp [propL, *]; done) | (subst_vars; simp_all [propL]; done)
    · rfl
  refine j_case (7) (fun s_1_7 => ?_) (fun s_1_7 => ?_)
  · refine j_tableIn hC dX2_property_1 (by rw [s_1_7]; decide) (by rw [s_1_7]; decide) (off := 102) (by rw [s_1_7]; rfl) (tgt := 103) (by decide) ?_
    refine j_aload_n hC dX2_property_103 rfl rfl ?_
    refine j_get hC uX2 0 0 6 rfl rfl k262 rfl dX2_property_104 ?_
    refine j_iret hC hQ rfl rfl (Nat.le_of_ble_eq_true rfl) (Nat.le_of_ble_eq_true rfl) dX2_property_107 rfl ⟨?_, ?_⟩
    · first | rfl | (subst_vars; simp [propL, *]; done) | (subst_vars; simp_all [propL]; done)
    · rfl
  refine j_case (8) (fun s_1_8 => ?_) (fun s_1_8 => ?_)
  · refine j_tableIn hC dX2_property_1 (by rw [s_1_8]; decide) (by rw [s_1_8]; decide) (off := 107) (by rw [s_1_8]; rfl) (tgt := 108) (by decide) ?_
    refine j_aload_n hC dX2_property_108 rfl rfl ?_
    refine j_get hC uX2 0 0 7 rfl rfl k263 rfl dX2_property_109 ?_
    refine j_iret hC hQ rfl rfl (Nat.le_of_ble_eq_true rfl) (Nat.le_of_ble_eq_true rfl) dX2_property_112 rfl ⟨?_, ?_⟩
    · first | rfl | (subst_vars; simp [propL, *]; done) | (subst_vars; simp_all [propL]; done)
    · rfl
  refine j_case (9) (fun s_1_9 => ?_) (fun s_1_9 => ?_)
  · refine j_tableIn hC dX2_property_1 (by rw [s_1_9]; decide) (by rw [s_1_9]; decide) (off := 112) (by rw [s_1_9]; rfl) (tgt := 113) (by decide) ?_
    refine j_aload_n hC dX2_property_113 rfl rfl ?_
    refine j_callVR hC [0] (c_X2_endurance g _ _) mX2_endurance k308 rfl rfl rfl rfl rfl ⟨(Nat.le_of_ble_eq_true rfl), (Nat.le_of_ble_eq_true rfl)⟩ (Nat.le_of_ble_eq_true rfl) ⟨(Nat.le_of_ble_eq_true rfl), (Nat.le_of_ble_eq_true rfl)⟩ dX2_property_114 ?_
    dsimp only [jrepl, List.set, jstk]
    refine j_iret hC hQ rfl rfl (Nat.le_of_ble_eq_true rfl) (Nat.le_of_ble_eq_true rfl) dX2_property_117 rfl ⟨?_, ?_⟩
    · first | rfl | (subst_vars; simp [propL, *]; done) | (subst_vars; simp_all [propL]; done)
    · rfl
  refine j_case (10) (fun s_1_10 => ?_) (fun s_1_10 => ?_)
  · refine j_tableIn hC dX2_property_1 (by rw [s_1_10]; decide) (by rw [s_1_10]; decide) (off := 117) (by rw [s_1_10]; rfl) (tgt := 118) (by decide) ?_
    refine j_aload_n hC dX2_property_118 rfl rfl ?_
    refine j_iload_n hC dX2_property_119 rfl rfl ?_
    refine j_callVR hC [0] (c_X2_isReady g _ _ _) mX2_isReady k484 rfl rfl rfl rfl rfl ⟨(Nat.le_of_ble_eq_true rfl), (Nat.le_of_ble_eq_true rfl)⟩ (Nat.le_of_ble_eq_true rfl) ⟨(Nat.le_of_ble_eq_true rfl), (Nat.le_of_ble_eq_true rfl)⟩ dX2_property_120 ?_
    dsimp only [jrepl, List.set, jstk]
    refine j_if_eq hC dX2_property_123 (tgt := 130) (by decide) (fun c_123 => ?_) (fun c_123 => ?_)
    · skip
      refine j_iconst hC (0) dX2_property_130 (by decide) ?_
      refine j_iret hC hQ rfl rfl (Nat.le_of_ble_eq_true rfl) (Nat.le_of_ble_eq_true rfl) dX2_property_131 rfl ⟨?_, ?_⟩
      · first | rfl | (subst_vars; simp [propL, *]; done) | (subst_vars; simp_all [propL]; done)
      · rfl
    · skip
      refine j_iconst hC (1) dX2_property_126 (by decide) ?_
      refine j_goto hC dX2_property_127 (tgt := 131) (by decide) ?_
      refine j_iret hC hQ rfl rfl (Nat.le_of_ble_eq_true rfl) (Nat.le_of_ble_eq_true rfl) dX2_property_131 rfl ⟨?_, ?_⟩
      · first | rfl | (subst_vars; simp [propL, *]; done) | (subst_vars; simp_all [propL]; done)
      · rfl
  refine j_tableOut hC dX2_property_1 (jout11 s_1_0 s_1_1 s_1_2 s_1_3 s_1_4 s_1_5 s_1_6 s_1_7 s_1_8 s_1_9 s_1_10) (tgt := 132) (by decide) ?_
  refine j_aload_n hC dX2_property_132 rfl rfl ?_
  refine j_get hC uX2 0 0 8 rfl rfl k265 rfl dX2_property_133 ?_
  refine j_iret hC hQ rfl rfl (Nat.le_of_ble_eq_true rfl) (Nat.le_of_ble_eq_true rfl) dX2_property_136 rfl ⟨?_, ?_⟩
  · first | rfl | (subst_vars; simp [propL, *]; done) | (subst_vars; simp_all [propL]; done)
  · rfl
