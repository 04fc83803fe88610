/-! the law: what the machine gives at its start; the script; calls on both objects -/
set_option maxHeartbeats 2000000 in
theorem law_K {A : Array Value} {s : State} (l : Launch) (hts : ∀ w ∈ lw_tbl, w.before A s = true) : ∃ (D : va_G) (tC : Nat → ClassId), jK (l, D, tC) s := by
  have ht : ∀ w ∈ jT, w.before A s = true := fun w h => hts w (jT_sub w h)
  obtain ⟨c0, i0, h0⟩ := u_known (ws := jT) ht uX0.1 (ht _ k87)
  obtain ⟨c1, i1, h1⟩ := u_known (ws := jT) ht uX1.1 (ht _ k139)
  obtain ⟨c2, i2, h2⟩ := u_known (ws := jT) ht uX2.1 (ht _ k257)
  obtain ⟨c3, i3, h3⟩ := u_known (ws := jT) ht uX3.1 (ht _ k171)
  obtain ⟨c4, i4, h4⟩ := u_known (ws := jT) ht uX4.1 (ht _ k158)
  obtain ⟨c5, i5, h5⟩ := u_known (ws := jT) ht uX5.1 (ht _ k66)
  obtain ⟨c6, i6, h6⟩ := u_known (ws := jT) ht uX6.1 (ht _ k58)
  obtain ⟨c7, i7, h7⟩ := u_known (ws := jT) ht uX7.1 (ht _ k719)
  obtain ⟨ab, kb, mb, xb1, xb2, xb3⟩ := Cond.arrayClass_spec (ht _ k85)
  obtain ⟨an, kn, mn, xn1, xn2, xn3⟩ := Cond.arrayClass_spec (ht _ k137)
  obtain ⟨az, kz, mz, xz1, xz2, xz3⟩ := Cond.arrayClass_spec (ht _ k773)
  obtain ⟨mu, au, ku, xu1, -, xu2, xu3, xu4⟩ := Cond.arrayOver_spec (hts _ k145)
  obtain ⟨mw, aw, kw, xw1, -, xw2, xw3, xw4⟩ := Cond.arrayOver_spec (hts _ k93)
  refine ⟨(fun k => match k with | 0 => c0 | 1 => c1 | 2 => c2 | 3 => c3 | 4 => c4 | 5 => c5 | 6 => c6 | _ => c7, fun k => match k with | 0 => i0 | 1 => i1 | 2 => i2 | 3 => i3 | 4 => i4 | 5 => i5 | 6 => i6 | _ => i7), fun k => match k with | 0 => ab | 1 => an | 2 => az | 3 => au | _ => aw, ⟨fun c q hq => ?_, fun k q hk => ?_⟩, fun w hw => ?_, va_AO.of (hts _ k145), va_AO.of (hts _ k93)⟩
  · match c, hq with
    | 0, hq => cases hq; exact h0
    | 1, hq => cases hq; exact h1
    | 2, hq => cases hq; exact h2
    | 3, hq => cases hq; exact h3
    | 4, hq => cases hq; exact h4
    | 5, hq => cases hq; exact h5
    | 6, hq => cases hq; exact h6
    | 7, hq => cases hq; exact h7
    | c + 8, hq => simp [vwCl] at hq
  · match k, hk with
    | 0, hk => cases hk; exact ⟨fun n z => ⟨fun k h => (by cases h), kb, xb2, mb, xb3⟩, xb1⟩
    | 1, hk => cases hk; exact ⟨fun n z => ⟨fun k h => (by cases h), kn, xn2, mn, xn3⟩, xn1⟩
    | 2, hk => cases hk; exact ⟨fun n z => ⟨fun k h => (by cases h), kz, xz2, mz, xz3⟩, xz1⟩
    | 3, hk => cases hk; exact ⟨fun n z => ⟨fun k h => (by cases h), ku, xu2, mu, xu3⟩, ku, mu, xu2, xu3, xu1, xu4⟩
    | 4, hk => cases hk; exact ⟨fun n z => ⟨fun k h => (by cases h), kw, xw2, mw, xw3⟩, kw, mw, xw2, xw3, xw1, xw4⟩
    | k + 5, hk => simp [jTys] at hk
  · have h5 := (List.mem_filter.mp hw).2
    have h6 := hts w (List.mem_filter.mp hw).1
    cases w with
    | methodLinkNest a i x h => exact va_Nw.of rfl h6
    | _ => cases h5
section LROWS
variable {g : jG} {R : Room} {E : jE} {cc : ByteArray} {own : String} {nL pc : Nat} {lv : List (Nat × Value)} {st : List Value} {bl : List va_W} {k n : Nat}
theorem j_sld (hC : jC g R E cc own nL) {b L : Nat} {xs : Nat → Int32} (hX : va_X b L xs (jEs E) (jEs E).heap) (hbl : b < (jEs E).heap.size) (hbA : ¬ jEA E b) {i : Int32} (hin : vp_in i L) (hd : decode cc pc = .ok (.iaload, 1)) (kk : J g R E nL (pc + 1) lv (.int (xs i.toNatClampNeg) :: st) bl k n) : J g R E nL pc lv (.int i :: .ref b :: st) bl k n :=
  fun H locs ls hP hS hl => va_sld hC.1 hC.2.1 hX hbl hbA hS hin hd (kk H locs ls hP hS hl)
theorem j_slen (hC : jC g R E cc own nL) {b L : Nat} {xs : Nat → Int32} (hX : va_X b L xs (jEs E) (jEs E).heap) (hbl : b < (jEs E).heap.size) (hbA : ¬ jEA E b) (hd : decode cc pc = .ok (.arraylength, 1)) (kk : J g R E nL (pc + 1) lv (.int (nI L) :: st) bl k n) : J g R E nL pc lv (.ref b :: st) bl k n :=
  fun H locs ls hP hS hl => va_slen hC.1 hC.2.1 hX hbl hbA hS hd (kk H locs ls hP hS hl)
theorem j_lawC {T : St3} {b1 b2 : List va_W} (hC : jC g R E cc own nL) {y : MethodName} {cy : ByteArray} {nLy fr lo mc ms index a : Nat} {ret : Option FieldType} {As rest : List Value} {Post : Option Value → List va_W → Prop} (hW : CW g a T b1) (hcon : Con g y cy nLy ret fr lo mc ms (.ref a :: As) b1 Post) (hM : jM y cy nLy ret As.length) (hlink : Cond.methodLink own index y ∈ jT) (hst : st = As.reverse ++ .ref a :: rest) (hcl : (vwCl[6]?).map (fun q => q.1) = some y.cls)
    (hR : fr + 1 ≤ R.frames ∧ 8 + (nLy + 11) + lo ≤ R.locals) (hcat : (rest.map fun v => v.category).sum ≤ 8) (hkn : k + mc ≤ R.cells ∧ n + ms ≤ R.slots) (hd : decode cc pc = .ok (.invokevirtual index, 3))
    (kk : ∀ (r : Option Value) (c1 : List va_W), Post r c1 → c1.length = b1.length → J g R E nL (pc + 3) lv (jstk r rest) (c1 ++ b2) (k + mc) (n + ms)) : J g R E nL pc lv st (b1 ++ b2) k n := by
  obtain ⟨dt, dn, du, dh, dr, dp, It, ft, In, An, Xn, Iu, Au, Xu, Ih, K, Ar, Ip, Ap, e, hCI⟩ := hW
  subst e
  refine j_callV hC [0, 1, 2, 3, 4, 5, 6, 7, 8, 9] hcon hM hlink hst rfl rfl (ci := 6) (fs := [.ref (dt 0), .ref (dn 0), .ref (du 0), .ref (dh 0), .ref (dr 0), .ref (dp 0)]) rfl hcl hR hcat hkn hd (fun r c1 hp hl => ?_)
  have kk := kk r c1 hp hl
  match c1, hl with
  | [y0, y1, y2, y3, y4, y5, y6, y7, y8, y9], _ => exact kk
theorem j_lawM {T : St3} {d : Nat → Nat} {b1 b2 : List va_W} (hC : jC g R E cc own nL) {y : MethodName} {cy : ByteArray} {nLy fr lo mc ms index : Nat} {ret : Option FieldType} {As rest : List Value} {Post : Option Value → List va_W → Prop} (hW : MW g d T b2) (hl1 : b1.length = 10) (hcon : Con g y cy nLy ret fr lo mc ms (.ref (d 0) :: As) b2 Post) (hM : jM y cy nLy ret As.length) (hlink : Cond.methodLink own index y ∈ jT) (hst : st = As.reverse ++ .ref (d 0) :: rest) (hcl : (vwCl[7]?).map (fun q => q.1) = some y.cls)
    (hR : fr + 1 ≤ R.frames ∧ 8 + (nLy + 11) + lo ≤ R.locals) (hcat : (rest.map fun v => v.category).sum ≤ 8) (hkn : k + mc ≤ R.cells ∧ n + ms ≤ R.slots) (hd : decode cc pc = .ok (.invokevirtual index, 3))
    (kk : ∀ (r : Option Value) (c2 : List va_W), Post r c2 → c2.length = b2.length → J g R E nL (pc + 3) lv (jstk r rest) (b1 ++ c2) (k + mc) (n + ms)) : J g R E nL pc lv st (b1 ++ b2) k n := by
  obtain ⟨I, A, e, hMI⟩ := hW
  subst e
  match b1, hl1 with
  | [x0, x1, x2, x3, x4, x5, x6, x7, x8, x9], _ =>
    refine j_callV hC [10] hcon hM hlink hst rfl rfl (ci := 7) (fs := [.ref (d 1), .int (I 1), .ref (d 2), .int (I 3), .int (I 4), .int (I 5), .ref (d 3), .ref (d 4), .int (I 8), .int (I 9), .ref (d 5), .ref (d 6), .ref (d 7), .ref (d 8), .ref (d 9), .ref (d 10)]) rfl hcl hR hcat hkn hd (fun r c2 hp hl => ?_)
    have kk := kk r c2 hp hl
    match c2, hl with
    | [z], _ => exact kk
end LROWS
theorem MW_rs {g : jG} {d : Nat → Nat} {T : St3} {b : List va_W} (h : MW g d T b) : rswf (bRs T.1) := by
  obtain ⟨I, A, -, h⟩ := h
  exact mp_rs h.2.1
theorem MW_hrs {g : jG} {d : Nat → Nat} {T : St3} {b : List va_W} (h : MW g d T b) : ∃ n : Nat, bHrs T.1 = nI n ∧ n ≤ 100000 := by
  obtain ⟨I, A, -, h⟩ := h
  exact mp_hrs h.2.1
theorem lg_same (x : Int64) : lg_cmp x x = 0 := (lg_cmp_eq x x).mpr rfl
abbrev lawE (p : Program) (e : Env) (s : State) (m : MethodId) (below : List Frame) (meth : Method) (c : Code) (b : Nat) : jE := (p, e, s, m, #[Value.ref b], below, meth, c, (fun q => s.heap.size ≤ q), lw_Z below #[Value.ref b] s)
theorem law_end {g : jG} {p : Program} {e : Env} {s : State} {m : MethodId} {below : List Frame} {meth : Method} {c : Code} {b : Nat} {lv : List (Nat × Value)} {bl : List va_W} {k n : Nat} (hC : jC g room_1 (lawE p e s m below meth c b) code RL 4) (hr : meth.sig.returnType = ret) (hk : k ≤ 600000) (hn : n ≤ 7302249) : J g room_1 (lawE p e s m below meth c b) 4 930 lv [.int 1] bl k n := by
  intro H locs ls hP hS hl
  refine va_forget (fun q hq => hS.2.2 q hq) ?_
  refine W.widen hk hn ?_
  exact lw_ret hC.1 hC.2.1 hr hC.2.2.2.2.2.2.2 dL_law_930
theorem law_lt {i L : Nat} {x : Int32} (h : x = nI i) (hi : i ≤ 2560) (hL : L ≤ 2560) (c : ¬ nI L - 5 < x) : i + 5 ≤ L := by
  have e : (nI L - 5).toInt = (L : Int) - 5 := isub_t (nI_toInt (by omega)) (by decide) (by omega) (by omega)
  rw [ilt_t, e, h, nI_toInt (by omega)] at c
  omega
theorem law_ix {i j L : Nat} {x : Int32} (h : x = nI i) (hj : j ≤ 4) (hi : i + 5 ≤ L) (hL : L ≤ 2560) : vp_in (x + nI j) L := by
  rw [h, nI_add]
  exact vp_in_nI (by omega) (by omega)
