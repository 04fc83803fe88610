set_option maxHeartbeats 4000000 in
set_option maxRecDepth 100000 in
theorem law_body {g : jG} {p : Program} {e : Env} {s : State} {m : MethodId} {below : List Frame} {meth : Method} {c : Code} {b L : Nat} {xs : Nat → Int32} {E : jE} (hE : E = lawE p e s m below meth c b) (hC : jC g room_1 E code RL 2) (hr : meth.sig.returnType = ret) (hL : L ≤ 260) (hX : va_X b L xs (jEs E) (jEs E).heap) (hbl : b < (jEs E).heap.size) (hbA : ¬ jEA E b) : J g room_1 E 2 0 [(0, .ref b)] [] [] 0 0 := by
  refine j_new hC uX6 (fs := [.null, .null, .null, .null, .null, .null]) dfn6 k14 k15 k6 (Nat.le_of_ble_eq_true rfl) (Nat.le_of_ble_eq_true rfl) dL_law_0 (fun a => ?_)
  dsimp only [List.cons_append, List.nil_append]
  refine j_dup hC dL_law_3 rfl ?_
  refine j_callI hC [0] (c_X6_init g a) mX6_init k16 rfl rfl rfl ⟨(Nat.le_of_ble_eq_true rfl), (Nat.le_of_ble_eq_true rfl)⟩ (Nat.le_of_ble_eq_true rfl) ⟨(Nat.le_of_ble_eq_true rfl), (Nat.le_of_ble_eq_true rfl)⟩ dL_law_4 (fun r_4 b_4 hp_4 _ => ?_)
  obtain ⟨rfl, dt, dn, du, dh, dr, dp, rfl⟩ := hp_4
  dsimp only [jrepl, List.set, jstk]
  refine j_eqfl [xo a dt dn du dh dr dp, tc g dt (fun _ => 0) (fun _ => 0), bc g dn newI newA (lrf []), lts [], bc g du newI newA (lrf []), lts [], hc g dh (fun _ => 0) (kr (fun _ => none)), kb g (fun _ => none), rc g dr (fun _ _ => 0), pcc g dp (fun _ => 0) (fun _ _ => 0)] rfl ?_
  have hW : CW g a T00 [xo a dt dn du dh dr dp, tc g dt (fun _ => 0) (fun _ => 0), bc g dn newI newA (lrf []), lts [], bc g du newI newA (lrf []), lts [], hc g dh (fun _ => 0) (kr (fun _ => none)), kb g (fun _ => none), rc g dr (fun _ _ => 0), pcc g dp (fun _ => 0) (fun _ _ => 0)] := CW_00
  refine j_astore_n hC dL_law_7 rfl rfl rfl rfl ?_
  refine j_aload_n hC dL_law_8 rfl rfl ?_
  refine j_aload_n hC dL_law_9 rfl rfl ?_
  refine j_callCSS hC hX hbl hbA hW (c_L_sets g a _ b L xs hW (by omega)) mL_sets k330 rfl ⟨(Nat.le_of_ble_eq_true rfl), (Nat.le_of_ble_eq_true rfl)⟩ (Nat.le_of_ble_eq_true rfl) ⟨(Nat.le_of_ble_eq_true rfl), (Nat.le_of_ble_eq_true rfl)⟩ dL_law_10 (fun r_10 b_10 hp_10 _ => ?_)
  obtain ⟨rfl, T1, hW, hS1⟩ := hp_10
  dsimp only [jrepl, List.set, jstk]
  refine j_if_eq hC dL_law_13 (tgt := 68) (by decide) (fun c_13 => ?_) (fun c_13 => ?_)
  · exact absurd c_13 (by decide)
  · skip
    obtain ⟨⟨hn, hn7⟩, hwl, ⟨hw, hr6⟩, hnd, ⟨hh, hh1, hh2⟩, hst⟩ := id hS1
    have hk : (bLs T1.1).length ≤ 10 := by omega
    refine j_aload_n hC dL_law_16 rfl rfl ?_
    refine j_callCS hC hW (c_L_lights g a T1 _ hW hk hwl hw) mL_lights k402 rfl ⟨(Nat.le_of_ble_eq_true rfl), (Nat.le_of_ble_eq_true rfl)⟩ (Nat.le_of_ble_eq_true rfl) ⟨(Nat.le_of_ble_eq_true rfl), (Nat.le_of_ble_eq_true rfl)⟩ dL_law_17 (fun r_17 b_17 hp_17 _ => ?_)
    obtain ⟨rfl, hW2⟩ := hp_17
    have hW : CW g a T1 b_17 := hW2
    dsimp only [jrepl, List.set, jstk]
    refine j_if_eq hC dL_law_20 (tgt := 68) (by decide) (fun c_20 => ?_) (fun c_20 => ?_)
    · exact absurd c_20 (by decide)
    · skip
      refine j_aload_n hC dL_law_23 rfl rfl ?_
      refine j_callCS hC hW (c_L_routes g a T1 _ hW hk hwl hw hr6 hnd) mL_routes k488 rfl ⟨(Nat.le_of_ble_eq_true rfl), (Nat.le_of_ble_eq_true rfl)⟩ (Nat.le_of_ble_eq_true rfl) ⟨(Nat.le_of_ble_eq_true rfl), (Nat.le_of_ble_eq_true rfl)⟩ dL_law_24 (fun r_24 b_24 hp_24 _ => ?_)
      obtain ⟨rfl, hW2⟩ := hp_24
      have hW : CW g a T1 b_24 := hW2
      dsimp only [jrepl, List.set, jstk]
      refine j_if_eq hC dL_law_27 (tgt := 68) (by decide) (fun c_27 => ?_) (fun c_27 => ?_)
      · exact absurd c_27 (by decide)
      · skip
        refine j_aload_n hC dL_law_30 rfl rfl ?_
        refine j_aload_n hC dL_law_31 rfl rfl ?_
        refine j_callCSS hC hX hbl hbA hW (c_L_plans g a T1 _ b L xs hW hk hwl hw hn (by omega) ⟨hh, hh1, by omega⟩) mL_plans k539 rfl ⟨(Nat.le_of_ble_eq_true rfl), (Nat.le_of_ble_eq_true rfl)⟩ (Nat.le_of_ble_eq_true rfl) ⟨(Nat.le_of_ble_eq_true rfl), (Nat.le_of_ble_eq_true rfl)⟩ dL_law_32 (fun r_32 b_32 hp_32 _ => ?_)
        obtain ⟨rfl, hW2⟩ := hp_32
        have hW : CW g a T1 b_32 := hW2
        dsimp only [jrepl, List.set, jstk]
        refine j_if_eq hC dL_law_35 (tgt := 68) (by decide) (fun c_35 => ?_) (fun c_35 => ?_)
        · exact absurd c_35 (by decide)
        · skip
          refine j_aload_n hC dL_law_38 rfl rfl ?_
          refine j_aload_n hC dL_law_39 rfl rfl ?_
          refine j_callCSS hC hX hbl hbA hW (c_L_tests g a T1 _ b L xs hW hk hwl hw hn (by omega) hn7) mL_tests k556 rfl ⟨(Nat.le_of_ble_eq_true rfl), (Nat.le_of_ble_eq_true rfl)⟩ (Nat.le_of_ble_eq_true rfl) ⟨(Nat.le_of_ble_eq_true rfl), (Nat.le_of_ble_eq_true rfl)⟩ dL_law_40 (fun r_40 b_40 hp_40 _ => ?_)
          obtain ⟨rfl, T2, hW, e2⟩ := hp_40
          have hS2 : WS T2.1 := by rw [e2]; exact hS1
          dsimp only [jrepl, List.set, jstk]
          refine j_if_eq hC dL_law_43 (tgt := 68) (by decide) (fun c_43 => ?_) (fun c_43 => ?_)
          · exact absurd c_43 (by decide)
          · skip
            refine j_aload_n hC dL_law_46 rfl rfl ?_
            refine j_aload_n hC dL_law_47 rfl rfl ?_
            refine j_callCSS hC hX hbl hbA hW (c_L_would g a T2 _ b L xs hW hS2 (by omega)) mL_would k567 rfl ⟨(Nat.le_of_ble_eq_true rfl), (Nat.le_of_ble_eq_true rfl)⟩ (Nat.le_of_ble_eq_true rfl) ⟨(Nat.le_of_ble_eq_true rfl), (Nat.le_of_ble_eq_true rfl)⟩ dL_law_48 (fun r_48 b_48 hp_48 _ => ?_)
            obtain ⟨rfl, T3, hW, hw3⟩ := hp_48
            dsimp only [jrepl, List.set, jstk]
            refine j_if_eq hC dL_law_51 (tgt := 68) (by decide) (fun c_51 => ?_) (fun c_51 => ?_)
            · exact absurd c_51 (by decide)
            · skip
              refine j_aload_n hC dL_law_54 rfl rfl ?_
              refine j_iconst hC (0) dL_law_55 (by decide) ?_
              refine j_iconst hC (1) dL_law_56 (by decide) ?_
              refine j_callCW hC hW (c_X6_test g a T3 _ 0 1 hW hw3) mX6_test k161 rfl rfl ⟨(Nat.le_of_ble_eq_true rfl), (Nat.le_of_ble_eq_true rfl)⟩ (Nat.le_of_ble_eq_true rfl) ⟨(Nat.le_of_ble_eq_true rfl), (Nat.le_of_ble_eq_true rfl)⟩ dL_law_57 (fun r_57 b_57 hp_57 _ => ?_)
              obtain ⟨q_57, hW2⟩ := hp_57
              rw [ot_bad] at q_57
              subst q_57
              dsimp only [jrepl, List.set, jstk]
              refine j_iconst hC (-1) dL_law_60 (by decide) ?_
              refine j_icmp_ne hC dL_law_61 (tgt := 68) (by decide) (fun c_61 => ?_) (fun c_61 => ?_)
              · exact absurd rfl c_61
              · skip
                refine j_iconst hC (1) dL_law_64 (by decide) ?_
                refine j_goto hC dL_law_65 (tgt := 69) (by decide) ?_
                subst hE; exact law_end hC hr (by omega) (by omega)
theorem whole_start {p : Program} {e : Env} {s : State} {m : MethodId} {below : List Frame} {meth : Method} {c : Code} (l : Launch) (hflags : l.flags = flags0) {b L : Nat} {xs : Nat → Int32} (hL : L ≤ 260) (C0 : lw_At p s m meth c b L xs) : W p l e room_1 s m #[Value.ref b] below meth c s.heap [] 0 0 (lw_Z below #[Value.ref b] s) (entryFrame m ([Value.ref b] : List Value).toArray 2) := by
  obtain ⟨hx, hb, hr, hml, hown, hts, hX, hbl, hlocks, -⟩ := C0
  obtain ⟨D, tC, hK⟩ := law_K l hts
  have hC : jC (l, D, tC) room_1 (lawE p e s m below meth c b) code RL 2 := ⟨hx, hb, hml, hown, fun w h => hts w (jT_sub w h), hK, fun q h => h, hlocks⟩
  have h := law_body rfl hC hr hL hX hbl (Nat.not_le.mpr hbl)
  have hl := lv_entry ([.ref b]) (n := 2) (Nat.le_of_ble_eq_true rfl)
  rw [lg_entry_eq]
  have hP : jP (l, D, tC) (fun q => s.heap.size ≤ q) ([] : List va_W).flatten s.heap := ⟨fun k q h => by simp at h, fun i j p q h => by simp at h, fun k q h => by simp at h⟩
  exact h s.heap [] _ hP va_S.rf hl
