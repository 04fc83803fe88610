/-! p31: some facts of plans; calls on the whole object; methods that read the script -/
theorem dys_10 {S : BS} (hk : (bLs S).length ≤ 10) (hr : ∀ r, r < (bRs S).length → raS S r ≤ rbS S r ∧ rbS S r ≤ 200) (h : dysN S < 99) : dysN S ≤ 10 := by
  have hl := full_lt (bLs S).length (by omega)
  have hd := alS_dcl hk (fun r hr' => (hr r hr').2)
  have hlow : ∀ l, 0 < l → l < 2 ^ (bLs S).length → alS S (lowb l) = true := by
    intro l h0 h1
    obtain ⟨i, hi, e⟩ := lowb_pow l (by omega) h0
    rw [e]
    by_cases q : alS S (2 ^ i) = true
    · exact q
    · refine absurd h ?_
      have hik : i < (bLs S).length := by
        rcases Nat.lt_or_ge i (bLs S).length with w | w
        · exact w
        · have e1 : 2 ^ (bLs S).length ≤ 2 ^ i := Nat.pow_le_pow_right (by decide) w
          have e2 := sub_le (lowb_facts l (by omega)).1
          omega
      have e3 := dP_bad hd q (2 ^ (bLs S).length - 1) hl (full_bit hik)
      unfold dysN
      omega
  have h1 := dP_le (N := 2 ^ (bLs S).length) (pow_1024 hk) hlow (2 ^ (bLs S).length - 1) (by have := Nat.two_pow_pos (bLs S).length; omega)
  have h2 := (cntb_facts (2 ^ (bLs S).length - 1) hl).1
  unfold dysN
  omega
def DN (S : BS) : Nat := if dysN S < 99 then dysN S else 0
theorem DN_le {S : BS} (h : dysN S < 99 → dysN S ≤ 10) : DN S ≤ 10 := by
  unfold DN
  by_cases q : dysN S < 99
  · rw [if_pos q]; exact h q
  · rw [if_neg q]; omega
theorem DN_lt {S : BS} {t : Nat} (h : dysN S < 99 → dysN S ≤ 10) (ht : t ≤ 10) (c : ¬ dysV S ≤ nI t) : t < DN S := by
  unfold dysV at c
  unfold DN
  by_cases q : dysN S < 99
  · rw [if_pos q] at c ⊢
    rw [nI_leI (by omega) (by omega)] at c
    omega
  · rw [if_neg q] at c
    refine absurd ?_ c
    rw [Int32.le_iff_toInt_le, nI_toInt (by omega), show (-9 : Int32).toInt = -9 by decide]
    omega
theorem DN_ge {S : BS} {t : Nat} (h : dysN S < 99 → dysN S ≤ 10) (ht : t ≤ 10) (c : dysV S ≤ nI t) : DN S ≤ t := by
  unfold dysV at c
  unfold DN
  by_cases q : dysN S < 99
  · rw [if_pos q] at c ⊢
    rw [nI_leI (by omega) (by omega)] at c
    exact c
  · rw [if_neg q]; omega
theorem jit_0 {σ : Type} {f : Nat → σ → σ} {s : σ} : jiter f s 0 = s := rfl
theorem jit_s {σ : Type} {f : Nat → σ → σ} {s : σ} {n : Nat} : jiter f s (n + 1) = f n (jiter f s n) := rfl
theorem oLight_2 {T : St3} {x w : Int32} : (oLight T x w).2 = T := by
  unfold oLight
  by_cases h : hLX x (bLs T.1).length ∧ ¬ w < 0 ∧ ¬ 12 < w
  · rw [if_pos h]
  · rw [if_neg h]
theorem oRouteAt_2 {T : St3} {x w : Int32} : (oRouteAt T x w).2 = T := by
  unfold oRouteAt
  by_cases h : hLX x (bRs T.1).length ∧ ¬ w < 0 ∧ ¬ 6 < w
  · rw [if_pos h]
  · rw [if_neg h]
theorem oDay_2 {T : St3} {x : Int32} : (oDay T x).2 = T := by
  unfold oDay
  by_cases h : 0 ≤ x
  · rw [if_pos h]
  · rw [if_neg h]
theorem oReaching_2 {T : St3} {x w : Int32} : (oReaching T x w).2 = T := by
  unfold oReaching
  by_cases h : okPlace x
  · rw [if_pos h]
  · rw [if_neg h]
theorem jcw_all {bl b1 : List va_W} (h : bl.length = 10) (h1 : b1.length = 10) : jrepl bl [0, 1, 2, 3, 4, 5, 6, 7, 8, 9] b1 = b1 := by
  match bl, h with
  | [x0, x1, x2, x3, x4, x5, x6, x7, x8, x9], _ =>
    match b1, h1 with
    | [y0, y1, y2, y3, y4, y5, y6, y7, y8, y9], _ => rfl
theorem j_callCW {g : jG} {R : Room} {E : jE} {cc : ByteArray} {own : String} {nL pc : Nat} {lv : List (Nat × Value)} {st : List Value} {bl : List va_W} {k n : Nat} {T : St3} (hC : jC g R E cc own nL) {y : MethodName} {cy : ByteArray} {nLy fr lo mc ms index a : Nat} {ret : Option FieldType} {As rest : List Value} {Post : Option Value → List va_W → Prop} (hW : CW g a T bl) (hcon : Con g y cy nLy ret fr lo mc ms (.ref a :: As) bl Post) (hM : jM y cy nLy ret As.length) (hlink : Cond.methodLink own index y ∈ jT) (hst : st = As.reverse ++ .ref a :: rest) (hcl : (vwCl[6]?).map (fun q => q.1) = some y.cls)
    (hR : fr + 1 ≤ R.frames ∧ 8 + (nLy + 11) + lo ≤ R.locals) (hcat : (rest.map fun v => v.category).sum ≤ 8) (hkn : k + mc ≤ R.cells ∧ n + ms ≤ R.slots) (hd : decode cc pc = .ok (.invokevirtual index, 3))
    (kk : ∀ (r : Option Value) (b1 : List va_W), Post r b1 → b1.length = bl.length → J g R E nL (pc + 3) lv (jstk r rest) b1 (k + mc) (n + ms)) : J g R E nL pc lv st bl k n := by
  obtain ⟨dt, dn, du, dh, dr, dp, It, ft, In, An, Xn, Iu, Au, Xu, Ih, K, Ar, Ip, Ap, e, hCI⟩ := hW
  have hlen : bl.length = 10 := by rw [e]; rfl
  refine j_callV hC [0, 1, 2, 3, 4, 5, 6, 7, 8, 9] hcon hM hlink hst (by rw [e]; rfl) rfl (ci := 6) (fs := [.ref (dt 0), .ref (dn 0), .ref (du 0), .ref (dh 0), .ref (dr 0), .ref (dp 0)]) (by rw [e]; rfl) hcl hR hcat hkn hd (fun r b1 hp hl => ?_)
  rw [jcw_all hlen (hl.trans hlen)]
  exact kk r b1 hp hl
theorem CW_len {g : jG} {a : Nat} {T : St3} {b : List va_W} (h : CW g a T b) : b.length = 10 := by
  obtain ⟨dt, dn, du, dh, dr, dp, It, ft, In, An, Xn, Iu, Au, Xu, Ih, K, Ar, Ip, Ap, e, -⟩ := h
  rw [e]; rfl
section LROWS
variable {g : jG} {R : Room} {E : jE} {cc : ByteArray} {own : String} {nL pc : Nat} {lv : List (Nat × Value)} {st : List Value} {bl : List va_W} {k n : Nat}
theorem j_sld (hC : jC g R E cc own nL) {b L : Nat} {xs : Nat → Int32} (hX : va_X b L xs (jEs E) (jEs E).heap) (hbl : b < (jEs E).heap.size) (hbA : ¬ jEA E b) {i : Int32} (hin : vp_in i L) (hd : decode cc pc = .ok (.iaload, 1)) (kk : J g R E nL (pc + 1) lv (.int (xs i.toNatClampNeg) :: st) bl k n) : J g R E nL pc lv (.int i :: .ref b :: st) bl k n :=
  fun H locs ls hP hS hl => va_sld hC.1 hC.2.1 hX hbl hbA hS hin hd (kk H locs ls hP hS hl)
theorem j_slen (hC : jC g R E cc own nL) {b L : Nat} {xs : Nat → Int32} (hX : va_X b L xs (jEs E) (jEs E).heap) (hbl : b < (jEs E).heap.size) (hbA : ¬ jEA E b) (hd : decode cc pc = .ok (.arraylength, 1)) (kk : J g R E nL (pc + 1) lv (.int (nI L) :: st) bl k n) : J g R E nL pc lv (.ref b :: st) bl k n :=
  fun H locs ls hP hS hl => va_slen hC.1 hC.2.1 hX hbl hbA hS hd (kk H locs ls hP hS hl)
theorem j_lawC {T : St3} {b1 b2 : List va_W} (hC : jC g R E cc own nL) {y : MethodName} {cy : ByteArray} {nLy fr lo mc ms index a : Nat} {ret : Option FieldType} {As rest : List Value} {Post : Option Value → List va_W → Prop} (hW : CW g a T b1) (hcon : Con g y cy nLy ret fr lo mc ms (.ref a :: As) b1 Post) (hM : jM y cy nLy ret As.length) (hlink : Cond.methodLink own index y ∈ jT) (hst : st = As.reverse ++ .ref a :: rest) (hcl : (vwCl[6]?).map (fun q => q.1) = some y.cls)
    (hR : fr + 1 ≤ R.frames ∧ 8 + (nLy + 11) + lo ≤ R.locals) (hcat : (rest.map fun v => v.category).sum ≤ 8) (hkn : k + mc ≤ R.cells ∧ n + ms ≤ R.slots) (hd : decode cc pc = .ok (.invokevirtual index, 3))
    (kk : ∀ (r : Option Value) (c1 : List va_W), Post r c1 → c1.length = b1.length → J g R E nL (pc + 3) lv (jstk r rest) (c1 ++ b2) (k + mc) (n + ms)) : J g R E nL pc lv st (b1 ++ b2) k n := by
  obtain ⟨dt, dn, du, dh, dr, dp, It, ft, In, An, Xn, Iu, Au, Xu, Ih, K, Ar, Ip, Ap, e, hCI⟩ := hW
  subst e
  refine j_callV hC [0, 1, 2, 3, 4, 5, 6, 7, 8, 9] hcon hM hlink hst rfl rfl (ci := 6) (fs := [.ref (dt 0), .ref (dn 0), .ref (du 0), .ref (dh 0), .ref (dr 0), .ref (dp 0)]) rfl hcl hR hcat hkn hd (fun r c1 hp hl => ?_)
  have kk := kk r c1 hp hl
  match c1, hl with
  | [y0, y1, y2, y3, y4, y5, y6, y7, y8, y9], _ => exact kk
/-! methods that read the script: a cell that is not theirs, and that they only read -/
def jSc (s0 L : Nat) (xs : Nat → Int32) (bl : List va_W) (U : State) : Prop := va_X s0 L xs U U.heap ∧ s0 < U.heap.size ∧ ∀ x ∈ bl.flatten, x.1 ≠ s0
def jPreS (g : jG) (av : List Value) (sz : Nat) (bl : List va_W) (s0 L : Nat) (xs : Nat → Int32) : Array Value → State → Prop := va_Pc av (fun U => U.heap.size = sz ∧ jP g (fun _ => True) bl.flatten U.heap ∧ jK g U ∧ jSc s0 L xs bl U)
def ConS (g : jG) (s0 L : Nat) (xs : Nat → Int32) (y : MethodName) (cc : ByteArray) (nL : Nat) (ret : Option FieldType) (fr lo mc ms : Nat) (av : List Value) (bl : List va_W) (Post : Option Value → List va_W → Prop) : Prop :=
  ∀ sz : Nat, Met g.1 y (jWs y cc nL ret) (jRm fr lo mc ms) (jPreS g av sz bl s0 L xs) (jPost g sz bl Post) mc ms (va_A bl.flatten sz)
theorem ConS.of {g : jG} {s0 L : Nat} {xs : Nat → Int32} {y : MethodName} {cc : ByteArray} {nL : Nat} {ret : Option FieldType} {fr lo mc ms : Nat} {av : List Value} {bl : List va_W} {Post : Option Value → List va_W → Prop} {lv : List (Nat × Value)} {own : String}
    (hy : plainName y.cls = true) (hown : y.cls = own) (hlen : (lg_sl av).length ≤ nL) (hlv : lv_args 0 av = lv)
    (body : ∀ E : jE, jC g (jRm fr lo mc ms) E cc own nL → jQ g E ret mc ms bl Post → (jEh E).name = y.name → va_X s0 L xs (jEs E) (jEs E).heap → s0 < (jEs E).heap.size → ¬ jEA E s0 → J g (jRm fr lo mc ms) E nL 0 lv [] bl 0 0) : ConS g s0 L xs y cc nL ret fr lo mc ms av bl Post := by
  intro sz
  refine Met.ofW (cc := cc) (maxL := nL) (ret := ret) hy rfl ?_
  intro p e s m args below meth c s₁ B hml hv
  obtain ⟨rfl, hsz, hP, hK, hX, hs0, hne⟩ := hv
  subst hsz
  subst hown
  subst hlv
  have hts := atoms_spec (ws := jWs y cc nL ret) B.pre
  have h1 := body (p, e, s, m, av.toArray, below, meth, c, va_A bl.flatten s.heap.size, MQ below (jPost g s.heap.size bl Post) av.toArray s mc ms (va_A bl.flatten s.heap.size))
    ⟨B.exec, B.bytes, hml, findClass_of_methodNamed B.named, fun w h => hts w (List.mem_cons_of_mem _ h), hK, fun q h => Or.inr h, B.notSynchronized⟩ ⟨B.returns, rfl, rfl⟩ (name_of_methodNamed B.named B.method).1 hX hs0 (fun q => q.elim (fun ⟨i, e, h⟩ => hne (s0, e) (List.mem_of_getElem? h) rfl) (fun h => Nat.not_le.mpr hs0 h))
  have hl := lv_entry av (n := nL) hlen
  rw [lg_entry_eq]
  exact h1 s.heap [] _ hP.self va_S.rf hl
theorem jblindS {av : List Value} {sz s0 L : Nat} {xs : Nat → Int32} {bl : List va_W} : FrameBlind (jPreS g av sz bl s0 L xs) := by
  intro a U f mk h
  obtain ⟨h1, h2, h3, h4, h5, h6, h7⟩ := h
  exact ⟨h1, h2, h3, jK.calling h4, va_X.moved (Vm.Alike.refl U.vm) h5, h6, h7⟩
theorem jpre_ofS {av : List Value} {s0 L : Nat} {xs : Nat → Int32} {blc : List va_W} {H : Heap} {locs : List Loc} (hC : jC g R E cc own nL) (hP : jP g (fun _ => True) blc.flatten H) (hS : va_S (jEA E) (jEs E).heap H locs) (hb : ∀ x ∈ blc.flatten, jEA E x.1) (hX : va_X s0 L xs (jEs E) (jEs E).heap) (hbl : s0 < (jEs E).heap.size) (hbA : ¬ jEA E s0) : ∀ U : State, U.heap = H → (jEs E).WarmedH U.vm → jPreS g av H.size blc s0 L xs av.toArray U :=
  fun U hU hW => ⟨rfl, by rw [hU], by rw [hU]; exact hP, jK.moved hW hC.2.2.2.2.2.1, by rw [hU]; exact va_X.moved hW.alike (va_X.kept hX (hS.2.1 s0 hbl hbA)), by rw [hU]; exact Nat.lt_of_lt_of_le hbl hS.1, fun x hx e => hbA (by rw [← e]; exact hb x hx)⟩
theorem j_runS {blc : List va_W} {Post : Option Value → List va_W → Prop} {rest : List Value} {aa : Array Value} {mc ms : Nat} (ic : List Nat) (hbl : ic.map (fun i => bl[i]?) = blc.map some) (hnd : va_nd ic = true) (hC : jC g R E cc own nL)
    (hr : ∀ (H : Heap) (locs : List Loc) (ls : Array Slot), jP g (fun _ => True) blc.flatten H → va_S (jEA E) (jEs E).heap H locs → (∀ x ∈ blc.flatten, jEA E x.1) → ls.size = nL → va_Run (jEp E) g.1 (jEe E) R (jEs E) (jEm E) (jEa E) (jEb E) (jEh E) (jEc E) H locs k n mc ms (F0 (jEm E) pc ls st) rest (jPost g H.size blc Post aa) (va_A blc.flatten H.size))
    (kk : ∀ (r : Option Value) (b1 : List va_W), Post r b1 → b1.length = blc.length → J g R E nL (pc + 3) lv (jstk r rest) (jrepl bl ic b1) (k + mc) (n + ms)) : J g R E nL pc lv st bl k n := by
  intro H locs ls hP hS hl
  obtain ⟨wr, p1, p2⟩ := jsplit ic bl blc hnd hbl
  have hP1 := hP.perm p1
  have hPc : jP g (jEA E) blc.flatten H := by
    rw [jP_iff] at hP1 ⊢
    rw [List.map_append, List.nodup_append] at hP1
    exact ⟨fun x hx => hP1.1 x (List.mem_append_left _ hx), hP1.2.1⟩
  have hA : ∀ q, va_A blc.flatten H.size q → jEA E q := by
    intro q hq
    rcases hq with ⟨i, e, h⟩ | h
    · exact ((jP_iff.mp hPc).1 (q, e) (List.mem_of_getElem? h)).2
    · exact hC.2.2.2.2.2.2.1 q (Nat.le_trans hS.1 h)
  have hPt : jP g (fun _ => True) blc.flatten H := ⟨hPc.1, hPc.2.weaken (fun _ _ _ _ => trivial)⟩
  intro T hT X
  obtain ⟨v, st₀, t, T', L, h0, X', hL, e1, e2, ⟨⟨r, b1, hv, hp, hlen, hw⟩, hz, hk⟩, stp⟩ := hr H locs ls hPt hS (fun x hx => ((jP_iff.mp hPc).1 x hx).2) hl.1 T hT X
  cases hv
  rw [h0] at hz hk
  have h5 : jP g (jEA E) (b1.flatten ++ wr) T'.heap := jframe (H := H) hP1 hA (fun q h1 h2 => by rw [e1]; exact hk q h1 h2) (by rw [e1]; exact hw)
  obtain ⟨t2, a1, a2⟩ := kk v b1 hp hlen T'.heap (locs ++ L) ls (h5.perm (p2 b1 hlen).symm)
    ⟨Nat.le_trans hS.1 (by rw [e1]; exact hz), fun q h1 h2 => by rw [e1, hk q (Nat.lt_of_lt_of_le h1 hS.1) (fun z => h2 (hA q z))]; exact hS.2.1 q h1 h2, fun q hq => by
      rcases List.mem_append.mp hq with h | h
      · exact hS.2.2 q h
      · exact hA _ (hL q h)⟩ hl T' rfl X'
  refine ⟨t2, stp t2 ?_, a2⟩
  have e3 : ({ (F0 (jEm E) pc ls st) with pc := (F0 (jEm E) pc ls st).pc + 3, stack := v.toList ++ rest } : JFrame) = F0 (jEm E) (pc + 3) ls (jstk v rest) := by rw [jstk_eq]
  rw [e3]
  exact a1
theorem j_callSS (hC : jC g R E cc own nL) {s0 L : Nat} {xs : Nat → Int32} (hX : va_X s0 L xs (jEs E) (jEs E).heap) (hbs : s0 < (jEs E).heap.size) (hbA : ¬ jEA E s0) {y : MethodName} {cy : ByteArray} {nLy fr lo mc ms index : Nat} {ret : Option FieldType} {As rest : List Value} {blc : List va_W} {Post : Option Value → List va_W → Prop} (ic : List Nat) (hcon : ConS g s0 L xs y cy nLy ret fr lo mc ms As blc Post) (hM : jMs y cy nLy ret As.length) (hlink : Cond.methodLink own index y ∈ jT) (hst : st = As.reverse ++ rest) (hbl : ic.map (fun i => bl[i]?) = blc.map some) (hnd : va_nd ic = true)
    (hR : fr + 1 ≤ R.frames ∧ 8 + (nLy + 11) + lo ≤ R.locals) (hcat : (rest.map fun v => v.category).sum ≤ 8) (hkn : k + mc ≤ R.cells ∧ n + ms ≤ R.slots) (hd : decode cc pc = .ok (.invokestatic index, 3))
    (kk : ∀ (r : Option Value) (b1 : List va_W), Post r b1 → b1.length = blc.length → J g R E nL (pc + 3) lv (jstk r rest) (jrepl bl ic b1) (k + mc) (n + ms)) : J g R E nL pc lv st bl k n := by
  refine j_runS (aa := As.toArray) (mc := mc) (ms := ms) (rest := rest) ic hbl hnd hC (fun H locs ls hP hS hb hsz => ?_) kk
  have hts := hC.2.2.2.2.1
  exact va_runS (As := As) (rest := rest) (jFix hC) (hcon H.size) ⟨callB_of As.length hts (jWs_good hM.2.2.1) rfl rfl rfl (hts _ hM.2.1) (hts _ hlink) hM.2.2.2 hR, hts _ hM.1⟩ ⟨jblindS, jpre_ofS hC hP hS hb hX hbs hbA⟩ rfl rfl hsz hst (lv_room hcat) hd hkn
/-- a call of the law's own methods on the whole object -/
theorem j_callCS {T : St3} {a : Nat} (hC : jC g R E cc own nL) {y : MethodName} {cy : ByteArray} {nLy fr lo mc ms index : Nat} {ret : Option FieldType} {As rest : List Value} {Post : Option Value → List va_W → Prop} (hW : CW g a T bl) (hcon : Con g y cy nLy ret fr lo mc ms As bl Post) (hM : jMs y cy nLy ret As.length) (hlink : Cond.methodLink own index y ∈ jT) (hst : st = As.reverse ++ rest)
    (hR : fr + 1 ≤ R.frames ∧ 8 + (nLy + 11) + lo ≤ R.locals) (hcat : (rest.map fun v => v.category).sum ≤ 8) (hkn : k + mc ≤ R.cells ∧ n + ms ≤ R.slots) (hd : decode cc pc = .ok (.invokestatic index, 3))
    (kk : ∀ (r : Option Value) (b1 : List va_W), Post r b1 → b1.length = bl.length → J g R E nL (pc + 3) lv (jstk r rest) b1 (k + mc) (n + ms)) : J g R E nL pc lv st bl k n := by
  have hlen := CW_len hW
  refine j_callS hC [0, 1, 2, 3, 4, 5, 6, 7, 8, 9] hcon hM hlink hst ?_ rfl hR hcat hkn hd (fun r b1 hp hl => ?_)
  · match bl, hlen with
    | [x0, x1, x2, x3, x4, x5, x6, x7, x8, x9], _ => rfl
  · rw [jcw_all hlen (hl.trans hlen)]
    exact kk r b1 hp hl
theorem j_callCSS {T : St3} {a : Nat} (hC : jC g R E cc own nL) {s0 L : Nat} {xs : Nat → Int32} (hX : va_X s0 L xs (jEs E) (jEs E).heap) (hbs : s0 < (jEs E).heap.size) (hbA : ¬ jEA E s0) {y : MethodName} {cy : ByteArray} {nLy fr lo mc ms index : Nat} {ret : Option FieldType} {As rest : List Value} {Post : Option Value → List va_W → Prop} (hW : CW g a T bl) (hcon : ConS g s0 L xs y cy nLy ret fr lo mc ms As bl Post) (hM : jMs y cy nLy ret As.length) (hlink : Cond.methodLink own index y ∈ jT) (hst : st = As.reverse ++ rest)
    (hR : fr + 1 ≤ R.frames ∧ 8 + (nLy + 11) + lo ≤ R.locals) (hcat : (rest.map fun v => v.category).sum ≤ 8) (hkn : k + mc ≤ R.cells ∧ n + ms ≤ R.slots) (hd : decode cc pc = .ok (.invokestatic index, 3))
    (kk : ∀ (r : Option Value) (b1 : List va_W), Post r b1 → b1.length = bl.length → J g R E nL (pc + 3) lv (jstk r rest) b1 (k + mc) (n + ms)) : J g R E nL pc lv st bl k n := by
  have hlen := CW_len hW
  refine j_callSS hC hX hbs hbA [0, 1, 2, 3, 4, 5, 6, 7, 8, 9] hcon hM hlink hst ?_ rfl hR hcat hkn hd (fun r b1 hp hl => ?_)
  · match bl, hlen with
    | [x0, x1, x2, x3, x4, x5, x6, x7, x8, x9], _ => rfl
  · rw [jcw_all hlen (hl.trans hlen)]
    exact kk r b1 hp hl
/-- cells that are not needed any more -/
theorem j_forget {x : List va_W} (kk : J g R E nL pc lv st bl k n) : J g R E nL pc lv st (bl ++ x) k n := by
  intro H locs ls hP hS hl
  refine kk H locs ls ?_ hS hl
  rw [jP_iff] at hP ⊢
  rw [List.flatten_append, List.map_append, List.nodup_append] at hP
  exact ⟨fun y hy => hP.1 y (List.mem_append_left _ hy), hP.2.1⟩
theorem jbl_at {b2 : List va_W} {w : va_W} (hl : bl.length = 10) (h : b2[0]? = some w) : (bl ++ b2)[10]? = some w := by
  rw [List.getElem?_append_right (by omega), hl]; exact h
theorem j_hald (hC : jC g R E cc own nL) (hl : bl.length = 10) {q N : Nat} {f : Nat → Int32} {i : Int32} (hin : vp_in i N) (hd : decode cc pc = .ok (.iaload, 1)) (kk : J g R E nL (pc + 1) lv (.int (f i.toNatClampNeg) :: st) (bl ++ [[(q, .inl (g.2.2 1, N, .inl f))]]) k n) : J g R E nL pc lv (.int i :: .ref q :: st) (bl ++ [[(q, .inl (g.2.2 1, N, .inl f))]]) k n :=
  j_iald hC 10 0 (by unfold jat; rw [jbl_at hl (w := [(q, .inl (g.2.2 1, N, .inl f))]) rfl]; rfl) hin hd kk
theorem j_hast (hC : jC g R E cc own nL) (hl : bl.length = 10) {q N : Nat} {f : Nat → Int32} {i x : Int32} (hin : vp_in i N) (hd : decode cc pc = .ok (.iastore, 1)) (kk : J g R E nL (pc + 1) lv st (bl ++ [[(q, .inl (g.2.2 1, N, .inl (upd f i.toNatClampNeg x)))]]) k n) : J g R E nL pc lv (.int x :: .int i :: .ref q :: st) (bl ++ [[(q, .inl (g.2.2 1, N, .inl f))]]) k n := by
  refine j_iast hC (bi := 10) (bj := 0) (b := [(q, .inl (g.2.2 1, N, .inl f))]) (jbl_at hl rfl) rfl hin hd ?_
  rw [List.set_append_right _ _ (by omega), hl]
  exact kk
end LROWS
