/-! the model's digest -/
theorem MW_len {g : jG} {d : Nat → Nat} {T : St3} {b : List va_W} (h : MW g d T b) : b.length = 1 := by
  obtain ⟨I, A, e, -⟩ := h
  rw [e]; rfl
theorem j_callMW {g : jG} {R : Room} {E : jE} {cc : ByteArray} {own : String} {nL pc : Nat} {lv : List (Nat × Value)} {st : List Value} {bl : List va_W} {k n : Nat} {T : St3} {d : Nat → Nat} (hC : jC g R E cc own nL) {y : MethodName} {cy : ByteArray} {nLy fr lo mc ms index : Nat} {ret : Option FieldType} {As rest : List Value} {Post : Option Value → List va_W → Prop} (hW : MW g d T bl) (hcon : Con g y cy nLy ret fr lo mc ms (.ref (d 0) :: As) bl Post) (hM : jM y cy nLy ret As.length) (hlink : Cond.methodLink own index y ∈ jT) (hst : st = As.reverse ++ .ref (d 0) :: rest) (hcl : (vwCl[7]?).map (fun q => q.1) = some y.cls)
    (hR : fr + 1 ≤ R.frames ∧ 8 + (nLy + 11) + lo ≤ R.locals) (hcat : (rest.map fun v => v.category).sum ≤ 8) (hkn : k + mc ≤ R.cells ∧ n + ms ≤ R.slots) (hd : decode cc pc = .ok (.invokevirtual index, 3))
    (kk : ∀ (r : Option Value) (b1 : List va_W), Post r b1 → b1.length = bl.length → J g R E nL (pc + 3) lv (jstk r rest) b1 (k + mc) (n + ms)) : J g R E nL pc lv st bl k n := by
  obtain ⟨I, A, e, hMI⟩ := hW
  have hlen : bl.length = 1 := by rw [e]; rfl
  refine j_callV hC [0] hcon hM hlink hst (by rw [e]; rfl) rfl (ci := 7) (fs := [.ref (d 1), .int (I 1), .ref (d 2), .int (I 3), .int (I 4), .int (I 5), .ref (d 3), .ref (d 4), .int (I 8), .int (I 9), .ref (d 5), .ref (d 6), .ref (d 7), .ref (d 8), .ref (d 9), .ref (d 10)]) (by rw [e]; rfl) hcl hR hcat hkn hd (fun r b1 hp hl => ?_)
  have h2 : jrepl bl [0] b1 = b1 := by
    match bl, hlen, b1, hl.trans hlen with
    | [x], _, [z], _ => rfl
  rw [h2]
  exact kk r b1 hp hl
set_option maxHeartbeats 1000000 in
set_option maxRecDepth 100000 in
theorem c_X7_digest (g : jG) (d : Nat → Nat) (T : St3) (b : List va_W) (h : MW g d T b) : Con g yX7_digest cX7_digest 5 (some .long) 9 201 0 0 [.ref (d 0)] b (fun rr bb => rr = some (.long (oDigest T)) ∧ MW g d T bb) := by
  refine Con.of (own := RX7) (lv := [(0, .ref (d 0))]) (by decide) rfl (Nat.le_of_ble_eq_true rfl) rfl ?_
  intro E hC hQ hN
  have hW := h
  refine j_ldc2 hC (18752) k1063 dX7_digest_0 ?_
  refine j_lstore_n hC dX7_digest_3 rfl rfl rfl rfl rfl (fun v_3 e_3 => ?_)
  refine j_iconst hC (0) dX7_digest_4 (by decide) ?_
  refine j_istore_n hC dX7_digest_5 rfl rfl rfl rfl (fun v_5 e_5 => ?_)
  have L_6 : ∀ (fu : Nat) (i : Nat) (yl : Int64) (x3 : Int32) (bs : List va_W) (hfu : 15 ≤ i + fu) (hi : i ≤ 14) (hh : yl = dg1 T i) (h3 : x3 = nI i) (hW : MW g d T bs), J g (jRm 9 201 0 0) E 5 6 [(0, .ref (d 0)), (1, .long yl), (3, .int x3)] [] bs (0) (0) := by
    intro fu
    induction fu with
    | zero => intro i yl x3 bs hfu hi hh h3 hW; exact absurd hfu (by omega)
    | succ fu ih_6 =>
      intro i yl x3 bs hfu hi hh h3 hW
      refine j_iload_n hC dX7_digest_6 rfl rfl ?_
      refine j_bipush hC (13) dX7_digest_7 (by decide) ?_
      refine j_icmp_gt hC dX7_digest_9 (tgt := 31) (by decide) (fun c_9 => ?_) (fun c_9 => ?_)
      · skip
        have hie : i = 14 := by have q := jgt h3 (by omega) c_9; rw [show (13 : Int32).toInt = 13 by decide] at q; omega
        rw [hie] at hh
        refine j_iconst hC (0) dX7_digest_31 (by decide) ?_
        refine j_istore_n hC dX7_digest_32 rfl rfl rfl rfl (fun v_32 e_32 => ?_)
        have L_33 : ∀ (fu : Nat) (i : Nat) (yl : Int64) (x3 : Int32) (bs : List va_W) (hfu : (bLs T.1).length + 1 ≤ i + fu) (hi : i ≤ (bLs T.1).length) (hh : yl = dg2 T i) (h3 : x3 = nI i) (hW : MW g d T bs), J g (jRm 9 201 0 0) E 5 33 [(0, .ref (d 0)), (1, .long yl), (3, .int x3)] [] bs (0) (0) := by
          intro fu
          induction fu with
          | zero => intro i yl x3 bs hfu hi hh h3 hW; exact absurd hfu (by omega)
          | succ fu ih_33 =>
            intro i yl x3 bs hfu hi hh h3 hW
            refine j_iload_n hC dX7_digest_33 rfl rfl ?_
            obtain ⟨I, A, rfl, hMI⟩ := hW
            obtain ⟨hm1, hmp, hmh, hmt⟩ := id hMI
            obtain ⟨⟨hq0, hk10⟩, hql, ⟨hq91, hn6⟩, hqr, ⟨hq4, hnd⟩, ⟨hq5, hqh⟩, ⟨hq6, hqs⟩, hq9, hq10⟩ := id hmp
            refine j_aload_n hC dX7_digest_34 rfl rfl ?_
            refine j_callVR hC [0] (c_X7_lights g _ _ _) mX7_lights k787 rfl rfl rfl rfl rfl ⟨(Nat.le_of_ble_eq_true rfl), (Nat.le_of_ble_eq_true rfl)⟩ (Nat.le_of_ble_eq_true rfl) ⟨(Nat.le_of_ble_eq_true rfl), (Nat.le_of_ble_eq_true rfl)⟩ dX7_digest_35 ?_
            dsimp only [jrepl, List.set, jstk]
            refine j_icmp_ge hC dX7_digest_38 (tgt := 78) (by decide) (fun c_38 => ?_) (fun c_38 => ?_)
            · skip
              have hik : i = (bLs T.1).length := Nat.le_antisymm hi (jge hq0 h3 (by omega) (by omega) c_38)
              rw [hik] at hh
              refine j_iconst hC (0) dX7_digest_78 (by decide) ?_
              refine j_istore_n hC dX7_digest_79 rfl rfl rfl rfl (fun v_79 e_79 => ?_)
              have L_80 : ∀ (fu : Nat) (i : Nat) (yl : Int64) (x3 : Int32) (bs : List va_W) (hfu : (bRs T.1).length + 1 ≤ i + fu) (hi : i ≤ (bRs T.1).length) (hh : yl = dg3 T i) (h3 : x3 = nI i) (hW : MW g d T bs), J g (jRm 9 201 0 0) E 5 80 [(0, .ref (d 0)), (1, .long yl), (3, .int x3)] [] bs (0) (0) := by
                intro fu
                induction fu with
                | zero => intro i yl x3 bs hfu hi hh h3 hW; exact absurd hfu (by omega)
                | succ fu ih_80 =>
                  intro i yl x3 bs hfu hi hh h3 hW
                  refine j_iload_n hC dX7_digest_80 rfl rfl ?_
                  obtain ⟨I, A, rfl, hMI⟩ := hW
                  obtain ⟨hm1, hmp, hmh, hmt⟩ := id hMI
                  obtain ⟨⟨hq0, hk10⟩, hql, ⟨hq91, hn6⟩, hqr, ⟨hq4, hnd⟩, ⟨hq5, hqh⟩, ⟨hq6, hqs⟩, hq9, hq10⟩ := id hmp
                  refine j_aload_n hC dX7_digest_81 rfl rfl ?_
                  refine j_get hC uX7 0 0 0 rfl rfl k724 rfl dX7_digest_82 ?_
                  refine j_bipush hC (91) dX7_digest_85 (by decide) ?_
                  refine j_ildN hC (m := 91) 0 1 rfl rfl (by decide) (by decide) dX7_digest_87 ?_
                  refine j_icmp_ge hC dX7_digest_88 (tgt := 128) (by decide) (fun c_88 => ?_) (fun c_88 => ?_)
                  · skip
                    have hik : i = (bRs T.1).length := Nat.le_antisymm hi (jge hq91 h3 (by omega) (by omega) c_88)
                    rw [hik] at hh
                    refine j_aload_n hC dX7_digest_128 rfl rfl ?_
                    refine j_lload_n hC dX7_digest_129 rfl rfl ?_
                    refine j_callV hC [0] (c_X7_mixedPlan g _ _ _ T yl hMI) mX7_mixedPlan k1068 rfl rfl rfl rfl rfl ⟨(Nat.le_of_ble_eq_true rfl), (Nat.le_of_ble_eq_true rfl)⟩ (Nat.le_of_ble_eq_true rfl) ⟨(Nat.le_of_ble_eq_true rfl), (Nat.le_of_ble_eq_true rfl)⟩ dX7_digest_130 (fun r_130 b_130 hp_130 _ => ?_)
                    obtain ⟨rfl, A_130, rfl, hK_130⟩ := hp_130
                    have hW : MW g d T [mc g d I A_130] := ⟨I, A_130, rfl, mi_oth hMI (hK_130 1 (by decide)) (hK_130 2 (by decide))⟩
                    dsimp only [jrepl, List.set, jstk]
                    refine j_lstore_n hC dX7_digest_133 rfl rfl rfl rfl rfl (fun v_133 e_133 => ?_)
                    refine j_iconst hC (0) dX7_digest_134 (by decide) ?_
                    refine j_istore_n hC dX7_digest_135 rfl rfl rfl rfl (fun v_135 e_135 => ?_)
                    have L_136 : ∀ (fu : Nat) (t : Nat) (yl : Int64) (x3 : Int32) (bs : List va_W) (hfu : 42 ≤ t + fu) (hi : t ≤ 41) (hh : yl = dg6 T t) (h3 : x3 = nI (5 * t)) (hW : MW g d T bs), J g (jRm 9 201 0 0) E 5 136 [(0, .ref (d 0)), (1, .long yl), (3, .int x3)] [] bs (0) (0) := by
                      intro fu
                      induction fu with
                      | zero => intro t yl x3 bs hfu hi hh h3 hW; exact absurd hfu (by omega)
                      | succ fu ih_136 =>
                        intro t yl x3 bs hfu hi hh h3 hW
                        refine j_iload_n hC dX7_digest_136 rfl rfl ?_
                        refine j_sipush hC (200) dX7_digest_137 (by decide) ?_
                        refine j_icmp_gt hC dX7_digest_140 (tgt := 177) (by decide) (fun c_140 => ?_) (fun c_140 => ?_)
                        · skip
                          have hte : t = 41 := by have q := jgt h3 (by omega) c_140; rw [show (200 : Int32).toInt = 200 by decide] at q; omega
                          rw [hte] at hh
                          refine j_lload_n hC dX7_digest_177 rfl rfl ?_
                          refine j_lret hC hQ rfl (Nat.le_of_ble_eq_true rfl) (Nat.le_of_ble_eq_true rfl) dX7_digest_178 ((MW_len hW).trans (MW_len h).symm) ?_
                          exact ⟨by rw [hh, oDig_e], hW⟩
                        · skip
                          have htn : t < 41 := by have q := jngt h3 (by omega) c_140; rw [show (200 : Int32).toInt = 200 by decide] at q; omega
                          refine j_ldc2 hC (31) k1064 dX7_digest_143 ?_
                          refine j_lload_n hC dX7_digest_146 rfl rfl ?_
                          refine j_lmul hC dX7_digest_147 ?_
                          refine j_aload_n hC dX7_digest_148 rfl rfl ?_
                          refine j_iload_n hC dX7_digest_149 rfl rfl ?_
                          refine j_iconst hC (0) dX7_digest_150 (by decide) ?_
                          refine j_callMW hC hW (c_X7_reaching g d T _ x3 0 hW) mX7_reaching k1072 rfl rfl ⟨(Nat.le_of_ble_eq_true rfl), (Nat.le_of_ble_eq_true rfl)⟩ (Nat.le_of_ble_eq_true rfl) ⟨(Nat.le_of_ble_eq_true rfl), (Nat.le_of_ble_eq_true rfl)⟩ dX7_digest_151 (fun r_151 b_151 hp_151 _ => ?_)
                          obtain ⟨rfl, hW2⟩ := hp_151
                          have hW : MW g d T b_151 := by rw [oReaching_2] at hW2; exact hW2
                          dsimp only [jrepl, List.set, jstk]
                          refine j_i2l hC dX7_digest_154 ?_
                          refine j_ladd hC dX7_digest_155 ?_
                          refine j_lstore_n hC dX7_digest_156 rfl rfl rfl rfl rfl (fun v_156 e_156 => ?_)
                          refine j_ldc2 hC (31) k1064 dX7_digest_157 ?_
                          refine j_lload_n hC dX7_digest_160 rfl rfl ?_
                          refine j_lmul hC dX7_digest_161 ?_
                          refine j_aload_n hC dX7_digest_162 rfl rfl ?_
                          refine j_iload_n hC dX7_digest_163 rfl rfl ?_
                          refine j_iconst hC (1) dX7_digest_164 (by decide) ?_
                          refine j_callMW hC hW (c_X7_reaching g d T _ x3 1 hW) mX7_reaching k1072 rfl rfl ⟨(Nat.le_of_ble_eq_true rfl), (Nat.le_of_ble_eq_true rfl)⟩ (Nat.le_of_ble_eq_true rfl) ⟨(Nat.le_of_ble_eq_true rfl), (Nat.le_of_ble_eq_true rfl)⟩ dX7_digest_165 (fun r_165 b_165 hp_165 _ => ?_)
                          obtain ⟨rfl, hW2⟩ := hp_165
                          have hW : MW g d T b_165 := by rw [oReaching_2] at hW2; exact hW2
                          dsimp only [jrepl, List.set, jstk]
                          refine j_i2l hC dX7_digest_168 ?_
                          refine j_ladd hC dX7_digest_169 ?_
                          refine j_lstore_n hC dX7_digest_170 rfl rfl rfl rfl rfl (fun v_170 e_170 => ?_)
                          refine j_iinc hC (5) dX7_digest_171 rfl rfl rfl rfl rfl (fun v_171 e_171 => ?_)
                          refine j_goto hC dX7_digest_174 (tgt := 136) (by decide) ?_
                          refine j_pick [0, 1, 3] ?_
                          exact ih_136 (t + 1) _ _ _ (by omega) (by omega) (by rw [e_170, e_156, hh, h3, dg6_s]) (nI_5 e_171 h3) hW
                    refine j_pick [0, 1, 3] ?_
                    exact L_136 (42) 0 _ _ _ (by omega) (by omega) (by rw [e_133, hh, mx_dg, dg6_0]) (e_135.trans nI_0.symm) hW
                  · skip
                    have hik : i < (bRs T.1).length := jlt hq91 h3 (by omega) (by omega) c_88
                    refine j_iconst hC (0) dX7_digest_91 (by decide) ?_
                    refine j_istore hC dX7_digest_92 rfl rfl rfl (fun v_92 e_92 => ?_)
                    have L_94 : ∀ (fu : Nat) (w : Nat) (yl : Int64) (x4 : Int32) (bs : List va_W) (hfu : 8 ≤ w + fu) (hwi : w ≤ 7) (hh2 : yl = dgR T i (dg3 T i) w) (h4 : x4 = nI w) (hW : MW g d T bs), J g (jRm 9 201 0 0) E 5 94 [(0, .ref (d 0)), (1, .long yl), (3, .int x3), (4, .int x4)] [] bs (0) (0) := by
                      intro fu
                      induction fu with
                      | zero => intro w yl x4 bs hfu hwi hh2 h4 hW; exact absurd hfu (by omega)
                      | succ fu ih_94 =>
                        intro w yl x4 bs hfu hwi hh2 h4 hW
                        refine j_iload hC dX7_digest_94 rfl ?_
                        refine j_bipush hC (6) dX7_digest_96 (by decide) ?_
                        refine j_icmp_gt hC dX7_digest_98 (tgt := 122) (by decide) (fun c_98 => ?_) (fun c_98 => ?_)
                        · skip
                          have hwe : w = 7 := by have q := jgt h4 (by omega) c_98; rw [show (6 : Int32).toInt = 6 by decide] at q; omega
                          rw [hwe] at hh2
                          refine j_iinc hC (1) dX7_digest_122 rfl rfl rfl rfl rfl (fun v_122 e_122 => ?_)
                          refine j_goto hC dX7_digest_125 (tgt := 80) (by decide) ?_
                          refine j_pick [0, 1, 3] ?_
                          exact ih_80 (i + 1) _ _ _ (by omega) (by omega) (by rw [hh2, dg3_s]) (jsucc e_122 h3) hW
                        · skip
                          have hwn : w < 7 := by have q := jngt h4 (by omega) c_98; rw [show (6 : Int32).toInt = 6 by decide] at q; omega
                          refine j_ldc2 hC (31) k1064 dX7_digest_101 ?_
                          refine j_lload_n hC dX7_digest_104 rfl rfl ?_
                          refine j_lmul hC dX7_digest_105 ?_
                          refine j_aload_n hC dX7_digest_106 rfl rfl ?_
                          refine j_iload_n hC dX7_digest_107 rfl rfl ?_
                          refine j_iload hC dX7_digest_108 rfl ?_
                          refine j_callMW hC hW (c_X7_routeAt g d T _ x3 x4 hW) mX7_routeAt k1067 rfl rfl ⟨(Nat.le_of_ble_eq_true rfl), (Nat.le_of_ble_eq_true rfl)⟩ (Nat.le_of_ble_eq_true rfl) ⟨(Nat.le_of_ble_eq_true rfl), (Nat.le_of_ble_eq_true rfl)⟩ dX7_digest_110 (fun r_110 b_110 hp_110 _ => ?_)
                          obtain ⟨rfl, hW2⟩ := hp_110
                          have hW : MW g d T b_110 := by rw [oRouteAt_2] at hW2; exact hW2
                          dsimp only [jrepl, List.set, jstk]
                          refine j_i2l hC dX7_digest_113 ?_
                          refine j_ladd hC dX7_digest_114 ?_
                          refine j_lstore_n hC dX7_digest_115 rfl rfl rfl rfl rfl (fun v_115 e_115 => ?_)
                          refine j_iinc hC (1) dX7_digest_116 rfl rfl rfl rfl rfl (fun v_116 e_116 => ?_)
                          refine j_goto hC dX7_digest_119 (tgt := 94) (by decide) ?_
                          refine j_pick [0, 1, 3, 4] ?_
                          exact ih_94 (w + 1) _ _ _ (by omega) (by omega) (by rw [e_115, hh2, h3, h4, dgR_s]) (jsucc e_116 h4) hW
                    refine j_pick [0, 1, 3, 4] ?_
                    exact L_94 (8) 0 _ _ _ (by omega) (by omega) (by rw [hh, dgR_0]) (e_92.trans nI_0.symm) ⟨I, A, rfl, hMI⟩
              refine j_pick [0, 1, 3] ?_
              exact L_80 ((bRs T.1).length + 1) 0 _ _ _ (by omega) (by omega) (by rw [hh, dg3_0]) (e_79.trans nI_0.symm) ⟨I, A, rfl, hMI⟩
            · skip
              have hik : i < (bLs T.1).length := jlt hq0 h3 (by omega) (by omega) c_38
              refine j_iconst hC (0) dX7_digest_41 (by decide) ?_
              refine j_istore hC dX7_digest_42 rfl rfl rfl (fun v_42 e_42 => ?_)
              have L_44 : ∀ (fu : Nat) (w : Nat) (yl : Int64) (x4 : Int32) (bs : List va_W) (hfu : 14 ≤ w + fu) (hwi : w ≤ 13) (hh2 : yl = dgL T i (dg2 T i) w) (h4 : x4 = nI w) (hW : MW g d T bs), J g (jRm 9 201 0 0) E 5 44 [(0, .ref (d 0)), (1, .long yl), (3, .int x3), (4, .int x4)] [] bs (0) (0) := by
                intro fu
                induction fu with
                | zero => intro w yl x4 bs hfu hwi hh2 h4 hW; exact absurd hfu (by omega)
                | succ fu ih_44 =>
                  intro w yl x4 bs hfu hwi hh2 h4 hW
                  refine j_iload hC dX7_digest_44 rfl ?_
                  refine j_bipush hC (12) dX7_digest_46 (by decide) ?_
                  refine j_icmp_gt hC dX7_digest_48 (tgt := 72) (by decide) (fun c_48 => ?_) (fun c_48 => ?_)
                  · skip
                    have hwe : w = 13 := by have q := jgt h4 (by omega) c_48; rw [show (12 : Int32).toInt = 12 by decide] at q; omega
                    rw [hwe] at hh2
                    refine j_iinc hC (1) dX7_digest_72 rfl rfl rfl rfl rfl (fun v_72 e_72 => ?_)
                    refine j_goto hC dX7_digest_75 (tgt := 33) (by decide) ?_
                    refine j_pick [0, 1, 3] ?_
                    exact ih_33 (i + 1) _ _ _ (by omega) (by omega) (by rw [hh2, dg2_s]) (jsucc e_72 h3) hW
                  · skip
                    have hwn : w < 13 := by have q := jngt h4 (by omega) c_48; rw [show (12 : Int32).toInt = 12 by decide] at q; omega
                    refine j_ldc2 hC (31) k1064 dX7_digest_51 ?_
                    refine j_lload_n hC dX7_digest_54 rfl rfl ?_
                    refine j_lmul hC dX7_digest_55 ?_
                    refine j_aload_n hC dX7_digest_56 rfl rfl ?_
                    refine j_iload_n hC dX7_digest_57 rfl rfl ?_
                    refine j_iload hC dX7_digest_58 rfl ?_
                    refine j_callMW hC hW (c_X7_light g d T _ x3 x4 hW) mX7_light k1066 rfl rfl ⟨(Nat.le_of_ble_eq_true rfl), (Nat.le_of_ble_eq_true rfl)⟩ (Nat.le_of_ble_eq_true rfl) ⟨(Nat.le_of_ble_eq_true rfl), (Nat.le_of_ble_eq_true rfl)⟩ dX7_digest_60 (fun r_60 b_60 hp_60 _ => ?_)
                    obtain ⟨rfl, hW2⟩ := hp_60
                    have hW : MW g d T b_60 := by rw [oLight_2] at hW2; exact hW2
                    dsimp only [jrepl, List.set, jstk]
                    refine j_i2l hC dX7_digest_63 ?_
                    refine j_ladd hC dX7_digest_64 ?_
                    refine j_lstore_n hC dX7_digest_65 rfl rfl rfl rfl rfl (fun v_65 e_65 => ?_)
                    refine j_iinc hC (1) dX7_digest_66 rfl rfl rfl rfl rfl (fun v_66 e_66 => ?_)
                    refine j_goto hC dX7_digest_69 (tgt := 44) (by decide) ?_
                    refine j_pick [0, 1, 3, 4] ?_
                    exact ih_44 (w + 1) _ _ _ (by omega) (by omega) (by rw [e_65, hh2, h3, h4, dgL_s]) (jsucc e_66 h4) hW
              refine j_pick [0, 1, 3, 4] ?_
              exact L_44 (14) 0 _ _ _ (by omega) (by omega) (by rw [hh, dgL_0]) (e_42.trans nI_0.symm) ⟨I, A, rfl, hMI⟩
        refine j_pick [0, 1, 3] ?_
        exact L_33 ((bLs T.1).length + 1) 0 _ _ _ (by omega) (by omega) (by rw [hh, dg2_0]) (e_32.trans nI_0.symm) hW
      · skip
        have hin : i < 14 := by have q := jngt h3 (by omega) c_9; rw [show (13 : Int32).toInt = 13 by decide] at q; omega
        refine j_ldc2 hC (31) k1064 dX7_digest_12 ?_
        refine j_lload_n hC dX7_digest_15 rfl rfl ?_
        refine j_lmul hC dX7_digest_16 ?_
        refine j_aload_n hC dX7_digest_17 rfl rfl ?_
        refine j_iload_n hC dX7_digest_18 rfl rfl ?_
        refine j_callMW hC hW (c_X7_told g d T _ x3 hW) mX7_told k1065 rfl rfl ⟨(Nat.le_of_ble_eq_true rfl), (Nat.le_of_ble_eq_true rfl)⟩ (Nat.le_of_ble_eq_true rfl) ⟨(Nat.le_of_ble_eq_true rfl), (Nat.le_of_ble_eq_true rfl)⟩ dX7_digest_19 (fun r_19 b_19 hp_19 _ => ?_)
        obtain ⟨rfl, hW2⟩ := hp_19
        have hW : MW g d T b_19 := by exact hW2
        dsimp only [jrepl, List.set, jstk]
        refine j_i2l hC dX7_digest_22 ?_
        refine j_ladd hC dX7_digest_23 ?_
        refine j_lstore_n hC dX7_digest_24 rfl rfl rfl rfl rfl (fun v_24 e_24 => ?_)
        refine j_iinc hC (1) dX7_digest_25 rfl rfl rfl rfl rfl (fun v_25 e_25 => ?_)
        refine j_goto hC dX7_digest_28 (tgt := 6) (by decide) ?_
        refine j_pick [0, 1, 3] ?_
        exact ih_6 (i + 1) _ _ _ (by omega) (by omega) (by rw [e_24, hh, h3, dg1_s]) (jsucc e_25 h3) hW
  refine j_pick [0, 1, 3] ?_
  exact L_6 (15) 0 _ _ _ (by omega) (by omega) (by rw [e_3, dg1_0]) (e_5.trans nI_0.symm) hW
