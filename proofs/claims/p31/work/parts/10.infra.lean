/-! the judgement J: the walk of one method over BLOCKS of cells; contracts Con; the frame rule is in the call rows -/
abbrev jG : Type := Launch × va_G × (Nat → ClassId)
abbrev jE : Type := Program × Env × State × MethodId × Array Value × List Frame × Method × Code × (Nat → Prop) × (State → Prop)
abbrev jEp (E : jE) : Program := E.1
abbrev jEe (E : jE) : Env := E.2.1
abbrev jEs (E : jE) : State := E.2.2.1
abbrev jEm (E : jE) : MethodId := E.2.2.2.1
abbrev jEa (E : jE) : Array Value := E.2.2.2.2.1
abbrev jEb (E : jE) : List Frame := E.2.2.2.2.2.1
abbrev jEh (E : jE) : Method := E.2.2.2.2.2.2.1
abbrev jEc (E : jE) : Code := E.2.2.2.2.2.2.2.1
abbrev jEA (E : jE) : Nat → Prop := E.2.2.2.2.2.2.2.2.1
abbrev jEQ (E : jE) : State → Prop := E.2.2.2.2.2.2.2.2.2
def jT : List Cond := lw_tbl.filter goodWord
def jWs (y : MethodName) (cc : ByteArray) (nL : Nat) (ret : Option FieldType) : List Cond := .code y cc nL ret :: jT
def jTys (g : jG) : List (ClassId × FieldType) := [(g.2.2 0, .byte), (g.2.2 1, .int), (g.2.2 2, .int), (g.2.2 3, .object "EscapeLights$Building"), (g.2.2 4, .object "EscapeLights$Light")]
def jIsNest : Cond → Bool
  | .methodLinkNest _ _ _ _ => true
  | _ => false
def jNw : List Cond := lw_tbl.filter jIsNest
def jK (g : jG) (U : State) : Prop := va_K g.2.1 vwCl (jTys g) U ∧ (∀ w ∈ jNw, va_Nw w U) ∧ va_AO "EscapeLights$Building" U ∧ va_AO "EscapeLights$Light" U
theorem jK.moved {g : jG} {s U : State} (hW : s.WarmedH U.vm) (h : jK g s) : jK g U := by
  obtain ⟨h1, h2, h3, h4⟩ := h
  refine ⟨va_K.moved hW.alike h1, fun w hw => ?_, va_AO.moved hW.alike h3, va_AO.moved hW.alike h4⟩
  have h5 := (List.mem_filter.mp hw).2
  cases w with
  | methodLinkNest a i x h => exact va_Nw.warmM hW (h2 _ hw)
  | _ => cases h5
theorem jK.calling {g : jG} {U : State} {f : JFrame} {mk : MethodId} {a : Array Value} (h : jK g U) : jK g (U.calling f mk a) := by
  obtain ⟨h1, h2, h3, h4⟩ := h
  refine ⟨va_K.moved (u := U) (U := U.calling f mk a) (Vm.Alike.refl U.vm) h1, fun w hw => ?_, va_AO.moved (u := U) (U := U.calling f mk a) (Vm.Alike.refl U.vm) h3, va_AO.moved (u := U) (U := U.calling f mk a) (Vm.Alike.refl U.vm) h4⟩
  have h5 := (List.mem_filter.mp hw).2
  cases w with
  | methodLinkNest a i x h => exact va_Nw.same rfl (u := U) rfl (h2 _ hw)
  | _ => cases h5
/-- what holds of the cells: they are there, apart, and of a kind -/
def jP (g : jG) (A : Nat → Prop) (ws : va_W) (H : Heap) : Prop := va_P g.2.1 vwCl ws H ∧ va_D A ws
def jPre (g : jG) (av : List Value) (sz : Nat) (bl : List va_W) : Array Value → State → Prop := va_Pc av (fun U => U.heap.size = sz ∧ jP g (fun _ => True) bl.flatten U.heap ∧ jK g U)
def jPost (g : jG) (sz : Nat) (bl : List va_W) (Post : Option Value → List va_W → Prop) : Array Value → State → Outcome → State → Prop := fun _ st oc t =>
  (∃ (r : Option Value) (b1 : List va_W), oc = .returned r ∧ Post r b1 ∧ b1.length = bl.length ∧ jP g (va_A bl.flatten sz) b1.flatten t.heap) ∧ va_F (va_A bl.flatten sz) st t
def jRm (fr lo mc ms : Nat) : Room := { frames := fr, cells := mc, slots := ms, locals := lo }
/-- a method's contract on given arguments and blocks -/
def Con (g : jG) (y : MethodName) (cc : ByteArray) (nL : Nat) (ret : Option FieldType) (fr lo mc ms : Nat) (av : List Value) (bl : List va_W) (Post : Option Value → List va_W → Prop) : Prop :=
  ∀ sz : Nat, Met g.1 y (jWs y cc nL ret) (jRm fr lo mc ms) (jPre g av sz bl) (jPost g sz bl Post) mc ms (va_A bl.flatten sz)
def J (g : jG) (R : Room) (E : jE) (nL pc : Nat) (lv : List (Nat × Value)) (st : List Value) (bl : List va_W) (k n : Nat) : Prop :=
  ∀ (H : Heap) (locs : List Loc) (ls : Array Slot), jP g (jEA E) bl.flatten H → va_S (jEA E) (jEs E).heap H locs → lv_has ls nL lv →
    W (jEp E) g.1 (jEe E) R (jEs E) (jEm E) (jEa E) (jEb E) (jEh E) (jEc E) H locs k n (jEQ E) (F0 (jEm E) pc ls st)
/-- what stays through a method's walk -/
def jC (g : jG) (R : Room) (E : jE) (cc : ByteArray) (own : String) (nL : Nat) : Prop :=
  (jEp E).tables.exec = Jvm.exec ∧ (jEc E).code = cc ∧ (jEc E).maxLocals = nL ∧ (jEs E).vm.findClass own = some (jEm E).cls ∧ (∀ w ∈ jT, w.before (jEa E) (jEs E) = true) ∧ jK g (jEs E) ∧ (∀ q, (jEs E).heap.size ≤ q → jEA E q) ∧ (jEh E).locks = false
def jQ (g : jG) (E : jE) (ret : Option FieldType) (mc ms : Nat) (bl : List va_W) (Post : Option Value → List va_W → Prop) : Prop :=
  (jEh E).sig.returnType = ret ∧ jEA E = va_A bl.flatten (jEs E).heap.size ∧ jEQ E = MQ (jEb E) (jPost g (jEs E).heap.size bl Post) (jEa E) (jEs E) mc ms (va_A bl.flatten (jEs E).heap.size)
theorem jT_sub : ∀ w ∈ jT, w ∈ lw_tbl := fun _ h => (List.mem_filter.mp h).1
theorem jT_mem {w : Cond} (i : Nat) (h : lw_tbl[i]? = some w) (hg : goodWord w = true) : w ∈ jT :=
  List.mem_filter.mpr ⟨List.mem_of_getElem? (i := i) h, hg⟩
theorem jWs_good {y : MethodName} {cc : ByteArray} {nL : Nat} {ret : Option FieldType} (h : Cond.code y cc nL ret ∈ jT) : GoodIn jT (jWs y cc nL ret) := by
  intro w hw
  rcases List.mem_cons.mp hw with rfl | hw
  · exact ⟨h, good_of_word (List.mem_filter.mp h).2⟩
  · exact ⟨hw, good_of_word (List.mem_filter.mp hw).2⟩
theorem jP.self {g : jG} {A : Nat → Prop} {ws : va_W} {H : Heap} {sz : Nat} (h : jP g A ws H) : jP g (va_A ws sz) ws H := ⟨h.1, h.2.self⟩
theorem Con.of {g : jG} {y : MethodName} {cc : ByteArray} {nL : Nat} {ret : Option FieldType} {fr lo mc ms : Nat} {av : List Value} {bl : List va_W} {Post : Option Value → List va_W → Prop} {lv : List (Nat × Value)} {own : String}
    (hy : plainName y.cls = true) (hown : y.cls = own) (hlen : (lg_sl av).length ≤ nL) (hlv : lv_args 0 av = lv)
    (body : ∀ E : jE, jC g (jRm fr lo mc ms) E cc own nL → jQ g E ret mc ms bl Post → (jEh E).name = y.name → J g (jRm fr lo mc ms) E nL 0 lv [] bl 0 0) : Con g y cc nL ret fr lo mc ms av bl Post := by
  intro sz
  refine Met.ofW (cc := cc) (maxL := nL) (ret := ret) hy rfl ?_
  intro p e s m args below meth c s₁ B hml hv
  obtain ⟨rfl, hsz, hP, hK⟩ := hv
  subst hsz
  subst hown
  subst hlv
  have hts := atoms_spec (ws := jWs y cc nL ret) B.pre
  have h1 := body (p, e, s, m, av.toArray, below, meth, c, va_A bl.flatten s.heap.size, MQ below (jPost g s.heap.size bl Post) av.toArray s mc ms (va_A bl.flatten s.heap.size))
    ⟨B.exec, B.bytes, hml, findClass_of_methodNamed B.named, fun w h => hts w (List.mem_cons_of_mem _ h), hK, fun q h => Or.inr h, B.notSynchronized⟩ ⟨B.returns, rfl, rfl⟩ (name_of_methodNamed B.named B.method).1
  have hl := lv_entry av (n := nL) hlen
  rw [lg_entry_eq]
  exact h1 s.heap [] _ hP.self va_S.rf hl
section JROWS
variable {g : jG} {R : Room} {E : jE} {cc : ByteArray} {own : String} {nL pc : Nat} {lv : List (Nat × Value)} {st : List Value} {bl : List va_W} {k n : Nat}
def lset : List (Nat × Value) → Nat → Value → List (Nat × Value)
  | [], i, v => [(i, v)]
  | (j, w) :: t, i, v => bif Nat.blt j i then (j, w) :: lset t i v else bif Nat.beq j i then (i, v) :: t else (i, v) :: (j, w) :: t
def lget : List (Nat × Value) → Nat → Option Value
  | [], _ => none
  | (j, w) :: t, i => bif Nat.beq j i then some w else lget t i
def lpick (lv : List (Nat × Value)) (ks : List Nat) : List (Nat × Value) := ks.filterMap (fun i => (lget lv i).map (fun v => (i, v)))
/-- no long value lies just below -/
def lfree : List (Nat × Value) → Nat → Bool
  | [], _ => true
  | (j, w) :: t, i => (bif Nat.beq (j + 1) i then !(w.category == 2) else true) && lfree t i
theorem lget_mem {i : Nat} {v : Value} : ∀ {lv : List (Nat × Value)}, lget lv i = some v → (i, v) ∈ lv
  | [], h => by cases h
  | (j, w) :: t, h => by
    unfold lget at h
    cases hj : Nat.beq j i with
    | true =>
      rw [hj] at h
      have e := Nat.eq_of_beq_eq_true hj
      cases h
      subst e
      exact List.mem_cons_self
    | false =>
      rw [hj] at h
      exact List.mem_cons_of_mem _ (lget_mem h)
theorem lset_mem {i : Nat} {v : Value} {q : Nat × Value} : ∀ {lv : List (Nat × Value)}, q ∈ lset lv i v → q = (i, v) ∨ (q ∈ lv ∧ q.1 ≠ i) ∨ q ∈ lv
  | [], h => by
    rcases List.mem_cons.mp h with h | h
    · exact Or.inl h
    · cases h
  | (j, w) :: t, h => by
    unfold lset at h
    cases hj : Nat.blt j i with
    | true =>
      rw [hj] at h
      rcases List.mem_cons.mp h with h | h
      · exact Or.inr (Or.inr (by rw [h]; exact List.mem_cons_self))
      · rcases lset_mem h with h | h | h
        · exact Or.inl h
        · exact Or.inr (Or.inr (List.mem_cons_of_mem _ h.1))
        · exact Or.inr (Or.inr (List.mem_cons_of_mem _ h))
    | false =>
      rw [hj] at h
      cases hj2 : Nat.beq j i with
      | true =>
        rw [hj2] at h
        rcases List.mem_cons.mp h with h | h
        · exact Or.inl h
        · exact Or.inr (Or.inr (List.mem_cons_of_mem _ h))
      | false =>
        rw [hj2] at h
        rcases List.mem_cons.mp h with h | h
        · exact Or.inl h
        · exact Or.inr (Or.inr h)
/-- the places of a list of locals are in ascending order -/
def lord : List (Nat × Value) → Bool
  | [] => true
  | (_, _) :: [] => true
  | (j, _) :: (j2, w2) :: t => Nat.blt j j2 && lord ((j2, w2) :: t)
theorem lord_tail {q : Nat × Value} {t : List (Nat × Value)} (h : lord (q :: t) = true) : lord t = true ∧ ∀ r ∈ t, q.1 < r.1 := by
  induction t generalizing q with
  | nil => exact ⟨rfl, fun r hr => by cases hr⟩
  | cons a t ih =>
    obtain ⟨j, w⟩ := q
    obtain ⟨j2, w2⟩ := a
    have h : (Nat.blt j j2 && lord ((j2, w2) :: t)) = true := h
    rw [Bool.and_eq_true] at h
    have h1 : j < j2 := Nat.le_of_ble_eq_true h.1
    refine ⟨h.2, fun r hr => ?_⟩
    rcases List.mem_cons.mp hr with rfl | hr
    · exact h1
    · exact Nat.lt_trans h1 ((ih h.2).2 r hr)
theorem lset_ne {i : Nat} {v : Value} {q : Nat × Value} : ∀ {lv : List (Nat × Value)}, lord lv = true → q ∈ lset lv i v → q = (i, v) ∨ (q ∈ lv ∧ q.1 ≠ i)
  | [], _, h => by
    rcases List.mem_cons.mp h with h | h
    · exact Or.inl h
    · cases h
  | (j, w) :: t, ho, h => by
    obtain ⟨ho1, ho2⟩ := lord_tail ho
    unfold lset at h
    cases hj : Nat.blt j i with
    | true =>
      rw [hj] at h
      have hj' : j < i := Nat.le_of_ble_eq_true hj
      rcases List.mem_cons.mp h with h | h
      · refine Or.inr ⟨by rw [h]; exact List.mem_cons_self, ?_⟩
        rw [h]; exact Nat.ne_of_lt hj'
      · rcases lset_ne ho1 h with h | h
        · exact Or.inl h
        · exact Or.inr ⟨List.mem_cons_of_mem _ h.1, h.2⟩
    | false =>
      rw [hj] at h
      have hj' : i ≤ j := by
        rcases Nat.lt_or_ge j i with q | q
        · have : Nat.blt j i = true := Nat.ble_eq_true_of_le q
          rw [hj] at this; cases this
        · exact q
      cases hj2 : Nat.beq j i with
      | true =>
        rw [hj2] at h
        have e := Nat.eq_of_beq_eq_true hj2
        rcases List.mem_cons.mp h with h | h
        · exact Or.inl h
        · exact Or.inr ⟨List.mem_cons_of_mem _ h, by have := ho2 q h; show q.1 ≠ i; simp only at this; omega⟩
      | false =>
        rw [hj2] at h
        have hne : j ≠ i := fun e => by
          subst e
          have : Nat.beq j j = true := Nat.beq_refl j
          rw [hj2] at this; cases this
        rcases List.mem_cons.mp h with h | h
        · exact Or.inl h
        · refine Or.inr ⟨h, ?_⟩
          rcases List.mem_cons.mp h with h | h
          · rw [h]; exact hne
          · have := ho2 q h; simp only at this; omega
theorem lfree_mem {i : Nat} : ∀ {lv : List (Nat × Value)}, lfree lv i = true → ∀ q ∈ lv, q.1 + 1 = i → ¬ q.2.category = 2
  | [], _, _, h, _ => by cases h
  | (j, w) :: t, hf, q, h, e => by
    unfold lfree at hf
    rw [Bool.and_eq_true] at hf
    rcases List.mem_cons.mp h with h | h
    · subst h
      have e2 : Nat.beq (j + 1) i = true := by rw [show i = j + 1 from e.symm]; exact Nat.beq_refl _
      rw [e2] at hf
      intro hc
      have h1 : w.category = 2 := hc
      simp [h1] at hf
    · exact lfree_mem hf.2 q h e
theorem lv_has.weak {ls : Array Slot} {l l' : List (Nat × Value)} (h : lv_has ls nL l) (hs : ∀ q ∈ l', q ∈ l) : lv_has ls nL l' := ⟨h.1, h.2.1, fun q hq => h.2.2 q (hs q hq)⟩
theorem lpick_mem {ks : List Nat} {q : Nat × Value} (h : q ∈ lpick lv ks) : q ∈ lv := by
  obtain ⟨i, -, hi⟩ := List.mem_filterMap.mp h
  cases hg : lget lv i with
  | none => rw [hg] at hi; cases hi
  | some v =>
    rw [hg] at hi
    cases hi
    exact lget_mem hg
theorem j_pick (ks : List Nat) (kk : J g R E nL pc (lpick lv ks) st bl k n) : J g R E nL pc lv st bl k n :=
  fun H locs ls hP hS hl => kk H locs ls hP hS (hl.weak fun _ h => lpick_mem h)
theorem j_widen {k' n' : Nat} (h1 : k ≤ k') (h2 : n ≤ n') (kk : J g R E nL pc lv st bl k' n') : J g R E nL pc lv st bl k n :=
  fun H locs ls hP hS hl => W.widen h1 h2 (kk H locs ls hP hS hl)
theorem lget_at {ls : Array Slot} {i : Nat} {v : Value} (h : lv_has ls nL lv) (hg : lget lv i = some v) : ls[i]? = some (.val v) := h.2.2 (i, v) (lget_mem hg)
theorem j_iload_n (hC : jC g R E cc own nL) {q : Fin 4} {i : Nat} {x : Int32} (hd : decode cc pc = .ok (.iload_n q, 1)) (hi : (q : Nat) = i) (hg : lget lv i = some (.int x)) (kk : J g R E nL (pc + 1) lv (.int x :: st) bl k n) : J g R E nL pc lv st bl k n :=
  fun H locs ls hP hS hl => lv_iload_n hC.1 hC.2.1 hd hi (lget_at hl hg) (kk H locs ls hP hS hl)
theorem j_iload (hC : jC g R E cc own nL) {i : Nat} {x : Int32} (hd : decode cc pc = .ok (.iload i, 2)) (hg : lget lv i = some (.int x)) (kk : J g R E nL (pc + 2) lv (.int x :: st) bl k n) : J g R E nL pc lv st bl k n :=
  fun H locs ls hP hS hl => lv_iload hC.1 hC.2.1 hd (lget_at hl hg) (kk H locs ls hP hS hl)
theorem j_lload_n (hC : jC g R E cc own nL) {q : Fin 4} {i : Nat} {x : Int64} (hd : decode cc pc = .ok (.lload_n q, 1)) (hi : (q : Nat) = i) (hg : lget lv i = some (.long x)) (kk : J g R E nL (pc + 1) lv (.long x :: st) bl k n) : J g R E nL pc lv st bl k n :=
  fun H locs ls hP hS hl => lv_lload_n hC.1 hC.2.1 hd hi (lget_at hl hg) (kk H locs ls hP hS hl)
theorem j_aload_n (hC : jC g R E cc own nL) {q : Fin 4} {i x : Nat} (hd : decode cc pc = .ok (.aload_n q, 1)) (hi : (q : Nat) = i) (hg : lget lv i = some (.ref x)) (kk : J g R E nL (pc + 1) lv (.ref x :: st) bl k n) : J g R E nL pc lv st bl k n :=
  fun H locs ls hP hS hl => lv_aload_n hC.1 hC.2.1 hd hi (lget_at hl hg) (kk H locs ls hP hS hl)
theorem j_aload (hC : jC g R E cc own nL) {i x : Nat} (hd : decode cc pc = .ok (.aload i, 2)) (hg : lget lv i = some (.ref x)) (kk : J g R E nL (pc + 2) lv (.ref x :: st) bl k n) : J g R E nL pc lv st bl k n :=
  fun H locs ls hP hS hl => lv_aload hC.1 hC.2.1 hd (lget_at hl hg) (kk H locs ls hP hS hl)
theorem j_aload_nN (hC : jC g R E cc own nL) {q : Fin 4} {i : Nat} (hd : decode cc pc = .ok (.aload_n q, 1)) (hi : (q : Nat) = i) (hg : lget lv i = some .null) (kk : J g R E nL (pc + 1) lv (.null :: st) bl k n) : J g R E nL pc lv st bl k n :=
  fun H locs ls hP hS hl => lv_aload_nN hC.1 hC.2.1 hd hi (lget_at hl hg) (kk H locs ls hP hS hl)
theorem j_aloadN (hC : jC g R E cc own nL) {i : Nat} (hd : decode cc pc = .ok (.aload i, 2)) (hg : lget lv i = some .null) (kk : J g R E nL (pc + 2) lv (.null :: st) bl k n) : J g R E nL pc lv st bl k n :=
  fun H locs ls hP hS hl => lv_aloadN hC.1 hC.2.1 hd (lget_at hl hg) (kk H locs ls hP hS hl)
theorem lset_has {ls : Array Slot} {i : Nat} {v : Value} {lv' : List (Nat × Value)} (ho : lord lv = true) (hf : lfree lv i = true) (hl : (i, v) :: lv.filter (fun q => !(q.1 == i) && !(q.1 + 1 == i && q.2.category == 2)) = lv') (h : lv_has ls nL lv') : lv_has ls nL (lset lv i v) := by
  refine h.weak fun q hq => ?_
  subst hl
  rcases lset_ne ho hq with rfl | ⟨h1, h2⟩
  · exact List.mem_cons_self
  · refine List.mem_cons_of_mem _ (List.mem_filter.mpr ⟨h1, ?_⟩)
    have h3 := lfree_mem hf q h1
    simp only [Bool.and_eq_true, Bool.not_eq_true', beq_eq_false_iff_ne, ne_eq, Bool.and_eq_false_iff]
    refine ⟨h2, ?_⟩
    by_cases h4 : q.1 + 1 = i
    · exact Or.inr (h3 h4)
    · exact Or.inl h4
theorem j_istore_n (hC : jC g R E cc own nL) {q : Fin 4} {i : Nat} {x : Int32} (hd : decode cc pc = .ok (.istore_n q, 1)) (hi : (q : Nat) = i) (hn : Nat.blt i nL = true) (ho : lord lv = true) (hf : lfree lv i = true) (kk : ∀ y : Int32, y = x → J g R E nL (pc + 1) (lset lv i (.int y)) st bl k n) : J g R E nL pc lv (.int x :: st) bl k n :=
  fun H locs ls hP hS hl => lv_istore_n hC.1 hC.2.1 hd hi hl (Nat.le_of_ble_eq_true hn) rfl (fun ls' hl' => kk x rfl H locs ls' hP hS (lset_has ho hf rfl hl'))
theorem j_istore (hC : jC g R E cc own nL) {i : Nat} {x : Int32} (hd : decode cc pc = .ok (.istore i, 2)) (hn : Nat.blt i nL = true) (ho : lord lv = true) (hf : lfree lv i = true) (kk : ∀ y : Int32, y = x → J g R E nL (pc + 2) (lset lv i (.int y)) st bl k n) : J g R E nL pc lv (.int x :: st) bl k n :=
  fun H locs ls hP hS hl => lv_istore hC.1 hC.2.1 hd hl (Nat.le_of_ble_eq_true hn) rfl (fun ls' hl' => kk x rfl H locs ls' hP hS (lset_has ho hf rfl hl'))
theorem j_astore_n (hC : jC g R E cc own nL) {q : Fin 4} {i x : Nat} (hd : decode cc pc = .ok (.astore_n q, 1)) (hi : (q : Nat) = i) (hn : Nat.blt i nL = true) (ho : lord lv = true) (hf : lfree lv i = true) (kk : J g R E nL (pc + 1) (lset lv i (.ref x)) st bl k n) : J g R E nL pc lv (.ref x :: st) bl k n :=
  fun H locs ls hP hS hl => lv_astore_n hC.1 hC.2.1 hd hi hl (Nat.le_of_ble_eq_true hn) rfl (fun ls' hl' => kk H locs ls' hP hS (lset_has ho hf rfl hl'))
theorem j_astore (hC : jC g R E cc own nL) {i x : Nat} (hd : decode cc pc = .ok (.astore i, 2)) (hn : Nat.blt i nL = true) (ho : lord lv = true) (hf : lfree lv i = true) (kk : J g R E nL (pc + 2) (lset lv i (.ref x)) st bl k n) : J g R E nL pc lv (.ref x :: st) bl k n :=
  fun H locs ls hP hS hl => lv_astore hC.1 hC.2.1 hd hl (Nat.le_of_ble_eq_true hn) rfl (fun ls' hl' => kk H locs ls' hP hS (lset_has ho hf rfl hl'))
theorem j_astore_nN (hC : jC g R E cc own nL) {q : Fin 4} {i : Nat} (hd : decode cc pc = .ok (.astore_n q, 1)) (hi : (q : Nat) = i) (hn : Nat.blt i nL = true) (ho : lord lv = true) (hf : lfree lv i = true) (kk : J g R E nL (pc + 1) (lset lv i .null) st bl k n) : J g R E nL pc lv (.null :: st) bl k n :=
  fun H locs ls hP hS hl => lv_astore_nN hC.1 hC.2.1 hd hi hl (Nat.le_of_ble_eq_true hn) rfl (fun ls' hl' => kk H locs ls' hP hS (lset_has ho hf rfl hl'))
theorem j_astoreN (hC : jC g R E cc own nL) {i : Nat} (hd : decode cc pc = .ok (.astore i, 2)) (hn : Nat.blt i nL = true) (ho : lord lv = true) (hf : lfree lv i = true) (kk : J g R E nL (pc + 2) (lset lv i .null) st bl k n) : J g R E nL pc lv (.null :: st) bl k n :=
  fun H locs ls hP hS hl => lv_astoreN hC.1 hC.2.1 hd hl (Nat.le_of_ble_eq_true hn) rfl (fun ls' hl' => kk H locs ls' hP hS (lset_has ho hf rfl hl'))
/-- the place above a long is given up -/
def ldel (lv : List (Nat × Value)) (i : Nat) : List (Nat × Value) := lv.filter (fun q => !(Nat.beq q.1 i))
theorem j_lstore_n (hC : jC g R E cc own nL) {q : Fin 4} {i : Nat} {x : Int64} (hd : decode cc pc = .ok (.lstore_n q, 1)) (hi : (q : Nat) = i) (hn : Nat.blt (i + 1) nL = true) (ho : lord lv = true) (hf : lfree lv i = true) (hl2 : lget lv (i + 1) = none) (kk : ∀ y : Int64, y = x → J g R E nL (pc + 1) (lset lv i (.long y)) st bl k n) : J g R E nL pc lv (.long x :: st) bl k n := by
  intro H locs ls hP hS hl
  refine lv_lstore_n hC.1 hC.2.1 hd hi hl (Nat.le_of_ble_eq_true hn) rfl (fun ls' hl' => kk x rfl H locs ls' hP hS (hl'.weak fun q hq => ?_))
  rcases lset_ne ho hq with rfl | ⟨h1, h2⟩
  · exact List.mem_cons_self
  · refine List.mem_cons_of_mem _ (List.mem_filter.mpr ⟨h1, ?_⟩)
    have h3 := lfree_mem hf q h1
    have h5 : q.1 ≠ i + 1 := by
      intro e
      have : ∀ {l : List (Nat × Value)}, lget l (i + 1) = none → ∀ r ∈ l, r.1 ≠ i + 1 := by
        intro l
        induction l with
        | nil => intro _ r hr; cases hr
        | cons a t ih =>
          obtain ⟨j, w⟩ := a
          intro hg r hr
          unfold lget at hg
          cases hj : Nat.beq j (i + 1) with
          | true => rw [hj] at hg; cases hg
          | false =>
            rw [hj] at hg
            rcases List.mem_cons.mp hr with rfl | hr
            · intro e2
              have e3 : j = i + 1 := e2
              rw [e3, Nat.beq_refl] at hj
              cases hj
            · exact ih hg r hr
      exact this hl2 q h1 e
    simp only [Bool.and_eq_true, Bool.not_eq_true', beq_eq_false_iff_ne, ne_eq, Bool.and_eq_false_iff]
    refine ⟨h2, h5, ?_⟩
    by_cases h4 : q.1 + 1 = i
    · exact Or.inr (h3 h4)
    · exact Or.inl h4
theorem lget_pos {i : Nat} {v : Value} (h : lget lv i = some v) : ∃ q : Nat, lv[q]? = some (i, v) := List.getElem?_of_mem (lget_mem h)
theorem j_iinc (hC : jC g R E cc own nL) {i : Nat} {z : Int} {x : Int32} (v : Int32) (hd : decode cc pc = .ok (.iinc i z, 3)) (hg : lget lv i = some (.int x)) (hz : Int32.ofInt z = v) (hn : Nat.blt i nL = true) (ho : lord lv = true) (hf : lfree lv i = true) (kk : ∀ y : Int32, y = x + v → J g R E nL (pc + 3) (lset lv i (.int y)) st bl k n) : J g R E nL pc lv st bl k n := by
  intro H locs ls hP hS hl
  obtain ⟨q, hq⟩ := lget_pos hg
  exact lv_iinc hC.1 hC.2.1 hd hl hq (by rw [hz]) (Nat.le_of_ble_eq_true hn) rfl (fun ls' hl' => kk _ rfl H locs ls' hP hS (lset_has ho hf rfl hl'))
theorem j_iadd (hC : jC g R E cc own nL) {x y : Int32} (hd : decode cc pc = .ok (.iadd, 1)) (kk : J g R E nL (pc + 1) lv (.int (x + y) :: st) bl k n) : J g R E nL pc lv (.int y :: .int x :: st) bl k n :=
  fun H locs ls hP hS hl => lv_iadd hC.1 hC.2.1 hd (kk H locs ls hP hS hl)
theorem j_isub (hC : jC g R E cc own nL) {x y : Int32} (hd : decode cc pc = .ok (.isub, 1)) (kk : J g R E nL (pc + 1) lv (.int (x - y) :: st) bl k n) : J g R E nL pc lv (.int y :: .int x :: st) bl k n :=
  fun H locs ls hP hS hl => lv_isub hC.1 hC.2.1 hd (kk H locs ls hP hS hl)
theorem j_imul (hC : jC g R E cc own nL) {x y : Int32} (hd : decode cc pc = .ok (.imul, 1)) (kk : J g R E nL (pc + 1) lv (.int (x * y) :: st) bl k n) : J g R E nL pc lv (.int y :: .int x :: st) bl k n :=
  fun H locs ls hP hS hl => lv_imul hC.1 hC.2.1 hd (kk H locs ls hP hS hl)
theorem j_iand (hC : jC g R E cc own nL) {x y : Int32} (hd : decode cc pc = .ok (.iand, 1)) (kk : J g R E nL (pc + 1) lv (.int (x &&& y) :: st) bl k n) : J g R E nL pc lv (.int y :: .int x :: st) bl k n :=
  fun H locs ls hP hS hl => lv_iand hC.1 hC.2.1 hd (kk H locs ls hP hS hl)
theorem j_ior (hC : jC g R E cc own nL) {x y : Int32} (hd : decode cc pc = .ok (.ior, 1)) (kk : J g R E nL (pc + 1) lv (.int (x ||| y) :: st) bl k n) : J g R E nL pc lv (.int y :: .int x :: st) bl k n :=
  fun H locs ls hP hS hl => lv_ior hC.1 hC.2.1 hd (kk H locs ls hP hS hl)
theorem j_ixor (hC : jC g R E cc own nL) {x y : Int32} (hd : decode cc pc = .ok (.ixor, 1)) (kk : J g R E nL (pc + 1) lv (.int (x ^^^ y) :: st) bl k n) : J g R E nL pc lv (.int y :: .int x :: st) bl k n :=
  fun H locs ls hP hS hl => lv_ixor hC.1 hC.2.1 hd (kk H locs ls hP hS hl)
theorem j_idiv (hC : jC g R E cc own nL) {x y : Int32} (hd : decode cc pc = .ok (.idiv, 1)) (hne : ¬ y = 0) (kk : J g R E nL (pc + 1) lv (.int (x / y) :: st) bl k n) : J g R E nL pc lv (.int y :: .int x :: st) bl k n :=
  fun H locs ls hP hS hl => lv_idiv hC.1 hC.2.1 hd hne (kk H locs ls hP hS hl)
theorem j_irem (hC : jC g R E cc own nL) {x y : Int32} (hd : decode cc pc = .ok (.irem, 1)) (hne : ¬ y = 0) (kk : J g R E nL (pc + 1) lv (.int (x - x / y * y) :: st) bl k n) : J g R E nL pc lv (.int y :: .int x :: st) bl k n :=
  fun H locs ls hP hS hl => lv_irem hC.1 hC.2.1 hd hne (kk H locs ls hP hS hl)
theorem j_ishl (hC : jC g R E cc own nL) {x y : Int32} (hd : decode cc pc = .ok (.ishl, 1)) (kk : J g R E nL (pc + 1) lv (.int (x <<< (y &&& 31)) :: st) bl k n) : J g R E nL pc lv (.int y :: .int x :: st) bl k n :=
  fun H locs ls hP hS hl => lv_ishl hC.1 hC.2.1 hd (kk H locs ls hP hS hl)
theorem j_ishr (hC : jC g R E cc own nL) {x y : Int32} (hd : decode cc pc = .ok (.ishr, 1)) (kk : J g R E nL (pc + 1) lv (.int (x >>> (y &&& 31)) :: st) bl k n) : J g R E nL pc lv (.int y :: .int x :: st) bl k n :=
  fun H locs ls hP hS hl => lv_ishr hC.1 hC.2.1 hd (kk H locs ls hP hS hl)
theorem j_ineg (hC : jC g R E cc own nL) {x : Int32} (hd : decode cc pc = .ok (.ineg, 1)) (kk : J g R E nL (pc + 1) lv (.int (-x) :: st) bl k n) : J g R E nL pc lv (.int x :: st) bl k n :=
  fun H locs ls hP hS hl => lv_ineg hC.1 hC.2.1 hd (kk H locs ls hP hS hl)
theorem j_ladd (hC : jC g R E cc own nL) {x y : Int64} (hd : decode cc pc = .ok (.ladd, 1)) (kk : J g R E nL (pc + 1) lv (.long (x + y) :: st) bl k n) : J g R E nL pc lv (.long y :: .long x :: st) bl k n :=
  fun H locs ls hP hS hl => lv_ladd hC.1 hC.2.1 hd (kk H locs ls hP hS hl)
theorem j_lmul (hC : jC g R E cc own nL) {x y : Int64} (hd : decode cc pc = .ok (.lmul, 1)) (kk : J g R E nL (pc + 1) lv (.long (x * y) :: st) bl k n) : J g R E nL pc lv (.long y :: .long x :: st) bl k n :=
  fun H locs ls hP hS hl => lv_lmul hC.1 hC.2.1 hd (kk H locs ls hP hS hl)
theorem j_i2l (hC : jC g R E cc own nL) {x : Int32} (hd : decode cc pc = .ok (.i2l, 1)) (kk : J g R E nL (pc + 1) lv (.long x.toInt64 :: st) bl k n) : J g R E nL pc lv (.int x :: st) bl k n :=
  fun H locs ls hP hS hl => lv_i2l hC.1 hC.2.1 hd rfl (kk H locs ls hP hS hl)
theorem j_i2b (hC : jC g R E cc own nL) {x : Int32} (hd : decode cc pc = .ok (.i2b, 1)) (kk : J g R E nL (pc + 1) lv (.int x.toInt8.toInt32 :: st) bl k n) : J g R E nL pc lv (.int x :: st) bl k n :=
  fun H locs ls hP hS hl => lv_i2b hC.1 hC.2.1 hd rfl (kk H locs ls hP hS hl)
theorem j_dup (hC : jC g R E cc own nL) {v : Value} (hd : decode cc pc = .ok (.dup, 1)) (hv : v.category = 1) (kk : J g R E nL (pc + 1) lv (v :: v :: st) bl k n) : J g R E nL pc lv (v :: st) bl k n :=
  fun H locs ls hP hS hl => lv_dup hC.1 hC.2.1 hd hv (kk H locs ls hP hS hl)
theorem j_dup2 (hC : jC g R E cc own nL) {v w : Value} (hd : decode cc pc = .ok (.dup2, 1)) (hv : v.category = 1) (hw : w.category = 1) (kk : J g R E nL (pc + 1) lv (v :: w :: v :: w :: st) bl k n) : J g R E nL pc lv (v :: w :: st) bl k n :=
  fun H locs ls hP hS hl => lv_dup2_11 hC.1 hC.2.1 hd hv hw (kk H locs ls hP hS hl)
theorem j_pop (hC : jC g R E cc own nL) {v : Value} (hd : decode cc pc = .ok (.pop, 1)) (hv : v.category = 1) (kk : J g R E nL (pc + 1) lv (st) bl k n) : J g R E nL pc lv (v :: st) bl k n :=
  fun H locs ls hP hS hl => lv_pop hC.1 hC.2.1 hd hv (kk H locs ls hP hS hl)
theorem j_iconst (hC : jC g R E cc own nL) {z : Int} (v : Int32) (hd : decode cc pc = .ok (.iconst z, 1)) (hv : Int32.ofInt z = v) (kk : J g R E nL (pc + 1) lv (.int v :: st) bl k n) : J g R E nL pc lv (st) bl k n :=
  fun H locs ls hP hS hl => lv_iconst hC.1 hC.2.1 hd hv (kk H locs ls hP hS hl)
theorem j_bipush (hC : jC g R E cc own nL) {z : Int} (v : Int32) (hd : decode cc pc = .ok (.bipush z, 2)) (hv : (Int8.ofInt z).toInt32 = v) (kk : J g R E nL (pc + 2) lv (.int v :: st) bl k n) : J g R E nL pc lv (st) bl k n :=
  fun H locs ls hP hS hl => lv_bipush hC.1 hC.2.1 hd hv (kk H locs ls hP hS hl)
theorem j_sipush (hC : jC g R E cc own nL) {z : Int} (v : Int32) (hd : decode cc pc = .ok (.sipush z, 3)) (hv : (Int16.ofInt z).toInt32 = v) (kk : J g R E nL (pc + 3) lv (.int v :: st) bl k n) : J g R E nL pc lv (st) bl k n :=
  fun H locs ls hP hS hl => lv_sipush hC.1 hC.2.1 hd hv (kk H locs ls hP hS hl)
theorem j_null (hC : jC g R E cc own nL) (hd : decode cc pc = .ok (.aconst_null, 1)) (kk : J g R E nL (pc + 1) lv (.null :: st) bl k n) : J g R E nL pc lv (st) bl k n :=
  fun H locs ls hP hS hl => lv_null hC.1 hC.2.1 hd (kk H locs ls hP hS hl)
theorem j_ldc (hC : jC g R E cc own nL) {index : Nat} (v : Int32) (hw : Cond.constant own index v ∈ jT) (hd : decode cc pc = .ok (.ldc index, 2)) (kk : J g R E nL (pc + 2) lv (.int v :: st) bl k n) : J g R E nL pc lv (st) bl k n :=
  fun H locs ls hP hS hl => lv_ldc hC.1 hC.2.1 hC.2.2.2.1 (hC.2.2.2.2.1 _ hw) hd (kk H locs ls hP hS hl)
theorem j_ldc2 (hC : jC g R E cc own nL) {index : Nat} (v : Int64) (hw : Cond.constantLong own index v ∈ jT) (hd : decode cc pc = .ok (.ldc2_w index, 3)) (kk : J g R E nL (pc + 3) lv (.long v :: st) bl k n) : J g R E nL pc lv (st) bl k n :=
  fun H locs ls hP hS hl => lv_ldc2 hC.1 hC.2.1 hC.2.2.2.1 (hC.2.2.2.2.1 _ hw) hd (kk H locs ls hP hS hl)
theorem j_if_eq (hC : jC g R E cc own nL) {x : Int32} {off : Int} {tgt : Nat} (hd : decode cc pc = .ok (.ifCond .eq off, 3)) (ht : (pc : Int) + off = (tgt : Int)) (kt : (x = 0) → J g R E nL tgt lv st bl k n) (kf : ¬ (x = 0) → J g R E nL (pc + 3) lv st bl k n) : J g R E nL pc lv (.int x :: st) bl k n :=
  fun H locs ls hP hS hl => lv_if_eq hC.1 hC.2.1 hd ht (fun q => kt q H locs ls hP hS hl) (fun q => kf q H locs ls hP hS hl)
theorem j_icmp_eq (hC : jC g R E cc own nL) {x y : Int32} {off : Int} {tgt : Nat} (hd : decode cc pc = .ok (.if_icmp .eq off, 3)) (ht : (pc : Int) + off = (tgt : Int)) (kt : (x = y) → J g R E nL tgt lv st bl k n) (kf : ¬ (x = y) → J g R E nL (pc + 3) lv st bl k n) : J g R E nL pc lv (.int y :: .int x :: st) bl k n :=
  fun H locs ls hP hS hl => lv_icmp_eq hC.1 hC.2.1 hd ht (fun q => kt q H locs ls hP hS hl) (fun q => kf q H locs ls hP hS hl)
theorem j_if_ne (hC : jC g R E cc own nL) {x : Int32} {off : Int} {tgt : Nat} (hd : decode cc pc = .ok (.ifCond .ne off, 3)) (ht : (pc : Int) + off = (tgt : Int)) (kt : (¬ x = 0) → J g R E nL tgt lv st bl k n) (kf : x = 0 → J g R E nL (pc + 3) lv st bl k n) : J g R E nL pc lv (.int x :: st) bl k n :=
  fun H locs ls hP hS hl => lv_if_ne hC.1 hC.2.1 hd ht (fun q => kt q H locs ls hP hS hl) (fun q => kf q H locs ls hP hS hl)
theorem j_icmp_ne (hC : jC g R E cc own nL) {x y : Int32} {off : Int} {tgt : Nat} (hd : decode cc pc = .ok (.if_icmp .ne off, 3)) (ht : (pc : Int) + off = (tgt : Int)) (kt : (¬ x = y) → J g R E nL tgt lv st bl k n) (kf : x = y → J g R E nL (pc + 3) lv st bl k n) : J g R E nL pc lv (.int y :: .int x :: st) bl k n :=
  fun H locs ls hP hS hl => lv_icmp_ne hC.1 hC.2.1 hd ht (fun q => kt q H locs ls hP hS hl) (fun q => kf q H locs ls hP hS hl)
theorem j_if_lt (hC : jC g R E cc own nL) {x : Int32} {off : Int} {tgt : Nat} (hd : decode cc pc = .ok (.ifCond .lt off, 3)) (ht : (pc : Int) + off = (tgt : Int)) (kt : (x < 0) → J g R E nL tgt lv st bl k n) (kf : ¬ (x < 0) → J g R E nL (pc + 3) lv st bl k n) : J g R E nL pc lv (.int x :: st) bl k n :=
  fun H locs ls hP hS hl => lv_if_lt hC.1 hC.2.1 hd ht (fun q => kt q H locs ls hP hS hl) (fun q => kf q H locs ls hP hS hl)
theorem j_icmp_lt (hC : jC g R E cc own nL) {x y : Int32} {off : Int} {tgt : Nat} (hd : decode cc pc = .ok (.if_icmp .lt off, 3)) (ht : (pc : Int) + off = (tgt : Int)) (kt : (x < y) → J g R E nL tgt lv st bl k n) (kf : ¬ (x < y) → J g R E nL (pc + 3) lv st bl k n) : J g R E nL pc lv (.int y :: .int x :: st) bl k n :=
  fun H locs ls hP hS hl => lv_icmp_lt hC.1 hC.2.1 hd ht (fun q => kt q H locs ls hP hS hl) (fun q => kf q H locs ls hP hS hl)
theorem j_if_ge (hC : jC g R E cc own nL) {x : Int32} {off : Int} {tgt : Nat} (hd : decode cc pc = .ok (.ifCond .ge off, 3)) (ht : (pc : Int) + off = (tgt : Int)) (kt : (0 ≤ x) → J g R E nL tgt lv st bl k n) (kf : ¬ (0 ≤ x) → J g R E nL (pc + 3) lv st bl k n) : J g R E nL pc lv (.int x :: st) bl k n :=
  fun H locs ls hP hS hl => lv_if_ge hC.1 hC.2.1 hd ht (fun q => kt q H locs ls hP hS hl) (fun q => kf q H locs ls hP hS hl)
theorem j_icmp_ge (hC : jC g R E cc own nL) {x y : Int32} {off : Int} {tgt : Nat} (hd : decode cc pc = .ok (.if_icmp .ge off, 3)) (ht : (pc : Int) + off = (tgt : Int)) (kt : (y ≤ x) → J g R E nL tgt lv st bl k n) (kf : ¬ (y ≤ x) → J g R E nL (pc + 3) lv st bl k n) : J g R E nL pc lv (.int y :: .int x :: st) bl k n :=
  fun H locs ls hP hS hl => lv_icmp_ge hC.1 hC.2.1 hd ht (fun q => kt q H locs ls hP hS hl) (fun q => kf q H locs ls hP hS hl)
theorem j_if_gt (hC : jC g R E cc own nL) {x : Int32} {off : Int} {tgt : Nat} (hd : decode cc pc = .ok (.ifCond .gt off, 3)) (ht : (pc : Int) + off = (tgt : Int)) (kt : (0 < x) → J g R E nL tgt lv st bl k n) (kf : ¬ (0 < x) → J g R E nL (pc + 3) lv st bl k n) : J g R E nL pc lv (.int x :: st) bl k n :=
  fun H locs ls hP hS hl => lv_if_gt hC.1 hC.2.1 hd ht (fun q => kt q H locs ls hP hS hl) (fun q => kf q H locs ls hP hS hl)
theorem j_icmp_gt (hC : jC g R E cc own nL) {x y : Int32} {off : Int} {tgt : Nat} (hd : decode cc pc = .ok (.if_icmp .gt off, 3)) (ht : (pc : Int) + off = (tgt : Int)) (kt : (y < x) → J g R E nL tgt lv st bl k n) (kf : ¬ (y < x) → J g R E nL (pc + 3) lv st bl k n) : J g R E nL pc lv (.int y :: .int x :: st) bl k n :=
  fun H locs ls hP hS hl => lv_icmp_gt hC.1 hC.2.1 hd ht (fun q => kt q H locs ls hP hS hl) (fun q => kf q H locs ls hP hS hl)
theorem j_if_le (hC : jC g R E cc own nL) {x : Int32} {off : Int} {tgt : Nat} (hd : decode cc pc = .ok (.ifCond .le off, 3)) (ht : (pc : Int) + off = (tgt : Int)) (kt : (x ≤ 0) → J g R E nL tgt lv st bl k n) (kf : ¬ (x ≤ 0) → J g R E nL (pc + 3) lv st bl k n) : J g R E nL pc lv (.int x :: st) bl k n :=
  fun H locs ls hP hS hl => lv_if_le hC.1 hC.2.1 hd ht (fun q => kt q H locs ls hP hS hl) (fun q => kf q H locs ls hP hS hl)
theorem j_icmp_le (hC : jC g R E cc own nL) {x y : Int32} {off : Int} {tgt : Nat} (hd : decode cc pc = .ok (.if_icmp .le off, 3)) (ht : (pc : Int) + off = (tgt : Int)) (kt : (x ≤ y) → J g R E nL tgt lv st bl k n) (kf : ¬ (x ≤ y) → J g R E nL (pc + 3) lv st bl k n) : J g R E nL pc lv (.int y :: .int x :: st) bl k n :=
  fun H locs ls hP hS hl => lv_icmp_le hC.1 hC.2.1 hd ht (fun q => kt q H locs ls hP hS hl) (fun q => kf q H locs ls hP hS hl)
theorem j_goto (hC : jC g R E cc own nL) {off : Int} {tgt : Nat} (hd : decode cc pc = .ok (.goto off, 3)) (ht : (pc : Int) + off = (tgt : Int)) (kk : J g R E nL tgt lv st bl k n) : J g R E nL pc lv st bl k n :=
  fun H locs ls hP hS hl => lv_goto hC.1 hC.2.1 hd ht (kk H locs ls hP hS hl)
theorem j_ifnull (hC : jC g R E cc own nL) {x : Nat} {off : Int} (hd : decode cc pc = .ok (.ifnull off, 3)) (kk : J g R E nL (pc + 3) lv st bl k n) : J g R E nL pc lv (.ref x :: st) bl k n :=
  fun H locs ls hP hS hl => lv_ifnull hC.1 hC.2.1 hd (kk H locs ls hP hS hl)
theorem j_ifnullN (hC : jC g R E cc own nL) {off : Int} {tgt : Nat} (hd : decode cc pc = .ok (.ifnull off, 3)) (ht : (pc : Int) + off = (tgt : Int)) (kk : J g R E nL tgt lv st bl k n) : J g R E nL pc lv (.null :: st) bl k n :=
  fun H locs ls hP hS hl => lv_ifnullN hC.1 hC.2.1 hd ht (kk H locs ls hP hS hl)
theorem j_ifnonnull (hC : jC g R E cc own nL) {x : Nat} {off : Int} {tgt : Nat} (hd : decode cc pc = .ok (.ifnonnull off, 3)) (ht : (pc : Int) + off = (tgt : Int)) (kk : J g R E nL tgt lv st bl k n) : J g R E nL pc lv (.ref x :: st) bl k n :=
  fun H locs ls hP hS hl => lv_ifnonnull hC.1 hC.2.1 hd ht (kk H locs ls hP hS hl)
theorem j_ifnonnullN (hC : jC g R E cc own nL) {off : Int} (hd : decode cc pc = .ok (.ifnonnull off, 3)) (kk : J g R E nL (pc + 3) lv st bl k n) : J g R E nL pc lv (.null :: st) bl k n :=
  fun H locs ls hP hS hl => lv_ifnonnullN hC.1 hC.2.1 hd (kk H locs ls hP hS hl)
theorem j_tableOut (hC : jC g R E cc own nL) {dflt lo hi : Int} {offs : Array Int} {len : Nat} {x : Int32} {tgt : Nat} (hd : decode cc pc = .ok (.tableswitch dflt lo hi offs, len)) (h : x.toInt < lo ∨ hi < x.toInt) (ht : (pc : Int) + dflt = (tgt : Int)) (kk : J g R E nL tgt lv st bl k n) : J g R E nL pc lv (.int x :: st) bl k n :=
  fun H locs ls hP hS hl => lv_tableOut hC.1 hC.2.1 hd h ht (kk H locs ls hP hS hl)
theorem j_tableIn (hC : jC g R E cc own nL) {dflt lo hi : Int} {offs : Array Int} {len : Nat} {x : Int32} {off : Int} {tgt : Nat} (hd : decode cc pc = .ok (.tableswitch dflt lo hi offs, len)) (h1 : ¬ x.toInt < lo) (h2 : ¬ hi < x.toInt) (ho : offs[(x.toInt - lo).toNat]? = some off) (ht : (pc : Int) + off = (tgt : Int)) (kk : J g R E nL tgt lv st bl k n) : J g R E nL pc lv (.int x :: st) bl k n :=
  fun H locs ls hP hS hl => lv_tableIn hC.1 hC.2.1 hd h1 h2 ho ht (kk H locs ls hP hS hl)
theorem j_lookup (hC : jC g R E cc own nL) {dflt : Int} {ps : Array (Int × Int)} {len : Nat} {x : Int32} {off : Int} {tgt : Nat} (hd : decode cc pc = .ok (.lookupswitch dflt ps, len)) (hp : (ps.toList.zip (ps.toList.drop 1)).all (fun (a, next) => a.1 < next.1) = true) (ho : Op.lookupswitch.offset ps.toList dflt x.toInt = off) (ht : (pc : Int) + off = (tgt : Int)) (kk : J g R E nL tgt lv st bl k n) : J g R E nL pc lv (.int x :: st) bl k n :=
  fun H locs ls hP hS hl => lv_lookup hC.1 hC.2.1 hd hp ho ht (kk H locs ls hP hS hl)
theorem j_lcmp (hC : jC g R E cc own nL) {x y : Int64} (hd : decode cc pc = .ok (.lcmp, 1)) (kk : J g R E nL (pc + 1) lv (.int (lg_cmp x y) :: st) bl k n) : J g R E nL pc lv (.long y :: .long x :: st) bl k n :=
  fun H locs ls hP hS hl => W.lcmp hC.1 hC.2.1 hd (kk H locs ls hP hS hl)
/-! heap rows: a cell by its block and its place there -/
theorem jflat {x : Nat × va_E} : ∀ {bl : List va_W} {bi bj : Nat} {b : va_W}, bl[bi]? = some b → b[bj]? = some x → ∃ q0 : Nat, bl.flatten[q0]? = some x ∧ ∀ y, bl.flatten.set q0 y = (bl.set bi (b.set bj y)).flatten
  | [], bi, _, _, h, _ => by simp at h
  | a :: t, 0, bj, b, h, hx => by
    have e : a = b := by simpa using h
    subst e
    have hlt : bj < a.length := by
      rcases Nat.lt_or_ge bj a.length with q | q
      · exact q
      · rw [List.getElem?_eq_none q] at hx; cases hx
    refine ⟨bj, ?_, fun y => ?_⟩
    · rw [List.flatten_cons, List.getElem?_append_left hlt]; exact hx
    · rw [List.flatten_cons, List.set_append_left _ _ hlt]; rfl
  | a :: t, bi + 1, bj, b, h, hx => by
    have h : t[bi]? = some b := by simpa using h
    obtain ⟨q0, h1, h2⟩ := jflat h hx
    refine ⟨a.length + q0, ?_, fun y => ?_⟩
    · rw [List.flatten_cons, List.getElem?_append_right (Nat.le_add_right _ _), Nat.add_sub_cancel_left]; exact h1
    · rw [List.flatten_cons, List.set_append_right _ _ (Nat.le_add_right _ _), Nat.add_sub_cancel_left, h2]
      rfl
def jat (bl : List va_W) (bi bj : Nat) : Option (Nat × va_E) := match bl[bi]? with
  | some b => b[bj]?
  | none => none
theorem jat_flat {bl : List va_W} {bi bj : Nat} {x : Nat × va_E} (h : jat bl bi bj = some x) : ∃ q0 : Nat, bl.flatten[q0]? = some x := by
  unfold jat at h
  cases hb : bl[bi]? with
  | none => rw [hb] at h; cases h
  | some b =>
    rw [hb] at h
    obtain ⟨q0, h1, -⟩ := jflat hb h
    exact ⟨q0, h1⟩
/-- the words of a class's fields, and its place among the classes -/
def jU (ci : Nat) (C : String) (T : u_T) (N : Nat) (ty : Nat → FieldType) : Prop := (∀ w ∈ u_ws C T N, w ∈ jT) ∧ vwCl[ci]? = some (C, T, N) ∧ (∀ k, k < N → parseFieldDescriptor (T k).2.2.1 = some (ty k)) ∧ (∀ a, a < N → ∀ b, b < N → a ≠ b → (T a).2.1 ≠ (T b).2.1)
theorem j_get (hC : jC g R E cc own nL) {ci index a : Nat} {C : String} {T : u_T} {N : Nat} {ty : Nat → FieldType} (hU : jU ci C T N ty) (bi bj kf : Nat) {fs : List Value} {v : Value} (hat : jat bl bi bj = some (a, .inr (ci, fs))) (hk : Nat.blt kf N = true) (hlink : Cond.fieldLink own index (T kf).1 (T kf).2.1 (T kf).2.2.1 ∈ jT) (hv : fs[kf]? = some v) (hd : decode cc pc = .ok (.getfield index, 3))
    (kk : J g R E nL (pc + 3) lv (v :: st) bl k n) : J g R E nL pc lv (.ref a :: st) bl k n := by
  intro H locs ls hP hS hl
  obtain ⟨q0, h0⟩ := jat_flat hat
  exact va_get (D := g.2.1) hC.1 hC.2.1 hC.2.2.2.2.1 hU.1 hC.2.2.2.1 hC.2.2.2.2.2.1.1 hP.1 q0 h0 hU.2.1 kf (Nat.le_of_ble_eq_true hk) (hC.2.2.2.2.1 _ hlink) (fun _ h => h) hv hd (kk H locs ls hP hS hl)
theorem j_put (hC : jC g R E cc own nL) {ci index a : Nat} {C : String} {T : u_T} {N : Nat} {ty : Nat → FieldType} (hU : jU ci C T N ty) {bi bj kf : Nat} {b : va_W} {fs : List Value} {v : Value} (hb : bl[bi]? = some b) (hj : b[bj]? = some (a, .inr (ci, fs))) (hk : kf < N) (hlink : Cond.fieldLink own index (T kf).1 (T kf).2.1 (T kf).2.2.1 ∈ jT) (hfin : (T kf).2.2.2 = false) (hn : narrow (ty kf) v = v) (hfit : fits (ty kf) v = true) (hl0 : kf < fs.length) (hd : decode cc pc = .ok (.putfield index, 3))
    (kk : J g R E nL (pc + 3) lv st (bl.set bi (b.set bj (a, .inr (ci, fs.set kf v)))) k n) : J g R E nL pc lv (v :: .ref a :: st) bl k n := by
  intro H locs ls hP hS hl
  obtain ⟨q0, h0, h1⟩ := jflat hb hj
  refine va_put (D := g.2.1) hC.1 hC.2.1 hC.2.2.2.2.1 hU.1 ty hU.2.2.1 hU.2.2.2 hC.2.2.2.1 hC.2.2.2.2.2.1.1 hP.1 hP.2 hS q0 h0 hU.2.1 kf hk (hC.2.2.2.2.1 _ hlink) (fun _ h => h) hfin (hU.2.2.1 kf hk) hn hfit hl0 hd (fun H1 locs1 hP1 hD1 hS1 => ?_)
  rw [h1] at hP1 hD1
  exact kk H1 locs1 ls ⟨hP1, hD1⟩ hS1 hl
theorem j_putF (hC : jC g R E cc own nL) (hin : (jEh E).name = "<init>") {ci index a : Nat} {C : String} {T : u_T} {N : Nat} {ty : Nat → FieldType} (hU : jU ci C T N ty) {bi bj kf : Nat} {b : va_W} {fs : List Value} {v : Value} (hb : bl[bi]? = some b) (hj : b[bj]? = some (a, .inr (ci, fs))) (hk : kf < N) (hlink : Cond.fieldLink own index (T kf).1 (T kf).2.1 (T kf).2.2.1 ∈ jT) (hfin : (T kf).2.2.2 = true) (hdecl : (T kf).1 = own) (hn : narrow (ty kf) v = v) (hfit : fits (ty kf) v = true) (hl0 : kf < fs.length) (hd : decode cc pc = .ok (.putfield index, 3))
    (kk : J g R E nL (pc + 3) lv st (bl.set bi (b.set bj (a, .inr (ci, fs.set kf v)))) k n) : J g R E nL pc lv (v :: .ref a :: st) bl k n := by
  intro H locs ls hP hS hl
  obtain ⟨q0, h0, h1⟩ := jflat hb hj
  refine va_putF (D := g.2.1) hC.1 hC.2.1 hC.2.2.2.2.1 hU.1 ty hU.2.2.1 hU.2.2.2 hC.2.2.2.1 hC.2.2.2.2.2.1.1 hP.1 hP.2 hS q0 h0 hU.2.1 kf hk (hC.2.2.2.2.1 _ hlink) (fun _ h => h) hfin hin hdecl (hU.2.2.1 kf hk) hn hfit hl0 hd (fun H1 locs1 hP1 hD1 hS1 => ?_)
  rw [h1] at hP1 hD1
  exact kk H1 locs1 ls ⟨hP1, hD1⟩ hS1 hl
theorem j_iald (hC : jC g R E cc own nL) {a N : Nat} {f : Nat → Int32} {i : Int32} (bi bj : Nat) (hat : jat bl bi bj = some (a, .inl (g.2.2 1, N, .inl f))) (hin : vp_in i N) (hd : decode cc pc = .ok (.iaload, 1)) (kk : J g R E nL (pc + 1) lv (.int (f i.toNatClampNeg) :: st) bl k n) : J g R E nL pc lv (.int i :: .ref a :: st) bl k n := by
  intro H locs ls hP hS hl
  obtain ⟨q0, h0⟩ := jat_flat hat
  exact va_iald (D := g.2.1) hC.1 hC.2.1 hC.2.2.2.2.2.1.1 hP.1 q0 1 h0 rfl hin hd (kk H locs ls hP hS hl)
theorem j_bald (hC : jC g R E cc own nL) {a N : Nat} {f : Nat → Int32} {i : Int32} (bi bj : Nat) (hat : jat bl bi bj = some (a, .inl (g.2.2 0, N, .inl f))) (hin : vp_in i N) (hd : decode cc pc = .ok (.baload, 1)) (kk : J g R E nL (pc + 1) lv (.int (f i.toNatClampNeg) :: st) bl k n) : J g R E nL pc lv (.int i :: .ref a :: st) bl k n := by
  intro H locs ls hP hS hl
  obtain ⟨q0, h0⟩ := jat_flat hat
  exact va_bald (D := g.2.1) hC.1 hC.2.1 hC.2.2.2.2.2.1.1 hP.1 q0 0 h0 rfl hin hd (kk H locs ls hP hS hl)
theorem j_aald (hC : jC g R E cc own nL) {a N : Nat} {f : Nat → Option Nat} {i : Int32} (t0 bi bj : Nat) {cA : ClassId} {C : String} (ht : (jTys g)[t0]? = some (cA, .object C)) (hat : jat bl bi bj = some (a, .inl (cA, N, .inr (.inr (.inr (.inr f)))))) (hin : vp_in i N) (hd : decode cc pc = .ok (.aaload, 1)) (kk : J g R E nL (pc + 1) lv (va_rf (f i.toNatClampNeg) :: st) bl k n) : J g R E nL pc lv (.int i :: .ref a :: st) bl k n := by
  intro H locs ls hP hS hl
  obtain ⟨q0, h0⟩ := jat_flat hat
  exact va_aldq (D := g.2.1) hC.1 hC.2.1 hC.2.2.2.2.2.1.1 hP.1 q0 t0 h0 ht hin hd (kk H locs ls hP hS hl)
theorem j_alen (hC : jC g R E cc own nL) {a : Nat} {x : vp_A} {v : Int32} {cA : ClassId} {ty : FieldType} (t0 bi bj : Nat) (ht : (jTys g)[t0]? = some (cA, ty)) (hat : jat bl bi bj = some (a, .inl (cA, x))) (hv : Int32.ofNat x.1 = v) (hd : decode cc pc = .ok (.arraylength, 1)) (kk : J g R E nL (pc + 1) lv (.int v :: st) bl k n) : J g R E nL pc lv (.ref a :: st) bl k n := by
  intro H locs ls hP hS hl
  obtain ⟨q0, h0⟩ := jat_flat hat
  exact va_alen (D := g.2.1) hC.1 hC.2.1 hC.2.2.2.2.2.1.1 hP.1 q0 t0 h0 ht hv hd (kk H locs ls hP hS hl)
theorem j_iast (hC : jC g R E cc own nL) {a N : Nat} {f : Nat → Int32} {i x : Int32} {bi bj : Nat} {b : va_W} (hb : bl[bi]? = some b) (hj : b[bj]? = some (a, .inl (g.2.2 1, N, .inl f))) (hin : vp_in i N) (hd : decode cc pc = .ok (.iastore, 1))
    (kk : J g R E nL (pc + 1) lv st (bl.set bi (b.set bj (a, .inl (g.2.2 1, N, .inl (upd f i.toNatClampNeg x))))) k n) : J g R E nL pc lv (.int x :: .int i :: .ref a :: st) bl k n := by
  intro H locs ls hP hS hl
  obtain ⟨q0, h0, h1⟩ := jflat hb hj
  refine va_iast (D := g.2.1) hC.1 hC.2.1 hC.2.2.2.2.2.1.1 hP.1 hP.2 hS q0 1 h0 rfl hin hd (fun H1 locs1 hP1 hD1 hS1 => ?_)
  rw [h1] at hP1 hD1
  exact kk H1 locs1 ls ⟨hP1, hD1⟩ hS1 hl
theorem j_bast (hC : jC g R E cc own nL) {a N : Nat} {f : Nat → Int32} {i x : Int32} {bi bj : Nat} {b : va_W} (hb : bl[bi]? = some b) (hj : b[bj]? = some (a, .inl (g.2.2 0, N, .inl f))) (hin : vp_in i N) (hd : decode cc pc = .ok (.bastore, 1))
    (kk : J g R E nL (pc + 1) lv st (bl.set bi (b.set bj (a, .inl (g.2.2 0, N, .inl (upd f i.toNatClampNeg (vp_nar .byte x)))))) k n) : J g R E nL pc lv (.int x :: .int i :: .ref a :: st) bl k n := by
  intro H locs ls hP hS hl
  obtain ⟨q0, h0, h1⟩ := jflat hb hj
  refine va_bast (D := g.2.1) hC.1 hC.2.1 hC.2.2.2.2.2.1.1 hP.1 hP.2 hS q0 0 h0 rfl hin hd (fun H1 locs1 hP1 hD1 hS1 => ?_)
  rw [h1] at hP1 hD1
  exact kk H1 locs1 ls ⟨hP1, hD1⟩ hS1 hl
theorem j_aast (hC : jC g R E cc own nL) {a v N t0 ci : Nat} {f : Nat → Option Nat} {i : Int32} {bi bj bi2 bj2 : Nat} {b : va_W} {vs : List Value} {cA : ClassId} {r : vw_C} (hb : bl[bi]? = some b) (hj : b[bj]? = some (a, .inl (cA, N, .inr (.inr (.inr (.inr f)))))) (ht : (jTys g)[t0]? = some (cA, .object r.1)) (hv : ∃ q : Nat, bl.flatten[q]? = some ((v, .inr (ci, vs)) : Nat × va_E)) (hc : vwCl[ci]? = some r) (hin : vp_in i N) (hd : decode cc pc = .ok (.aastore, 1))
    (kk : J g R E nL (pc + 1) lv st (bl.set bi (b.set bj (a, .inl (cA, N, .inr (.inr (.inr (.inr (va_up f i.toNatClampNeg (some v))))))))) k n) : J g R E nL pc lv (.ref v :: .int i :: .ref a :: st) bl k n := by
  intro H locs ls hP hS hl
  obtain ⟨q0, h0, h1⟩ := jflat hb hj
  obtain ⟨q1, h2⟩ := hv
  refine va_astq (D := g.2.1) hC.1 hC.2.1 hC.2.2.2.2.2.1.1 hP.1 hP.2 hS q0 t0 q1 ci h0 ht h2 hc hin hd (fun H1 locs1 hP1 hD1 hS1 => ?_)
  rw [h1] at hP1 hD1
  exact kk H1 locs1 ls ⟨hP1, hD1⟩ hS1 hl
/-! making cells: a new block at the end -/
theorem j_new (hC : jC g R E cc own nL) {ci index : Nat} {C : String} {T : u_T} {N : Nat} {ty : Nat → FieldType} (hU : jU ci C T N ty) {fs : List Value} (hfs : ∀ j, j < N → defaultValue (ty j) = vp_V fs j) (hcl : Cond.classLink own index C ∈ jT) (hinst : Cond.instantiable C N ∈ jT) (hini : Cond.initialized C ∈ jT) (hk : k + 1 ≤ R.cells) (hn : n + N ≤ R.slots) (hd : decode cc pc = .ok (.new index, 3))
    (kk : ∀ q : Nat, J g R E nL (pc + 3) lv (.ref q :: st) (bl ++ [[(q, .inr (ci, fs))]]) (k + 1) (n + N)) : J g R E nL pc lv st bl k n := by
  intro H locs ls hP hS hl
  refine va_new (D := g.2.1) hC.1 hC.2.1 hC.2.2.2.2.1 hU.1 ty hU.2.2.1 hC.2.2.2.1 (hC.2.2.2.2.1 _ hcl) (hC.2.2.2.2.1 _ hinst) (hC.2.2.2.2.1 _ hini) hC.2.2.2.2.2.1.1 hP.1 hP.2 hS hC.2.2.2.2.2.2.1 hU.2.1 hfs hk hn hd (fun q H1 hP1 hD1 hS1 => ?_)
  have e : (bl ++ [[(q, Sum.inr (ci, fs))]] : List va_W).flatten = bl.flatten ++ [(q, Sum.inr (ci, fs))] := by simp
  exact kk q H1 locs ls (by rw [e]; exact ⟨hP1, hD1⟩) hS1 hl
theorem jArr {g : jG} {U : State} {cA c2 : ClassId} {ty : FieldType} {i : Nat} {l2 : List (ClassId × FieldType)} (h : va_K g.2.1 vwCl (l2 ++ [(cA, ty)]) U) (h2 : va_K g.2.1 vwCl (jTys g) U) (hi : (jTys g)[i]? = some (c2, ty)) : cA = c2 := by
  have h3 := (h.2 l2.length (cA, ty) (by simp)).2
  have h4 := (h2.2 i (c2, ty) hi).2
  have key : ∀ t : FieldType, va_RA U cA t → U.vm.findClass ("[" ++ t.toString) = some cA := by
    intro t ht
    cases t with
    | object C => obtain ⟨kA, comp, -, -, -, q⟩ := ht; exact q
    | _ => exact ht
  have key2 : ∀ t : FieldType, va_RA U c2 t → U.vm.findClass ("[" ++ t.toString) = some c2 := by
    intro t ht
    cases t with
    | object C => obtain ⟨kA, comp, -, -, -, q⟩ := ht; exact q
    | _ => exact ht
  exact Option.some.inj ((key ty h3).symm.trans (key2 ty h4))
theorem j_newa (hC : jC g R E cc own nL) {atype : ArrayType} {ty : FieldType} {c2 : ClassId} (t0 N : Nat) {v : Int32} (ht : (jTys g)[t0]? = some (c2, ty)) (hty : newarray.typeOf atype = ty) (harr : Cond.arrayClass ty ∈ jT) (ha : ∀ cA : ClassId, vp_cell cA (N, .inl (fun _ => 0)) = arrV cA N (fun _ => defaultValue ty)) (h0 : ¬ v < 0) (hN : v.toNatClampNeg = N) (hby : N * componentBytes ty ≤ 536870912) (hk : k + 1 ≤ R.cells) (hn : n + N ≤ R.slots) (hd : decode cc pc = .ok (.newarray atype, 2))
    (kk : ∀ q : Nat, J g R E nL (pc + 2) lv (.ref q :: st) (bl ++ [[(q, .inl (c2, N, .inl (fun _ => 0)))]]) (k + 1) (n + N)) : J g R E nL pc lv (.int v :: st) bl k n := by
  intro H locs ls hP hS hl
  subst hty
  refine va_newa (D := g.2.1) hC.1 hC.2.1 (hC.2.2.2.2.1 _ harr) rfl hC.2.2.2.2.2.1.1 hP.1 hP.2 hS hC.2.2.2.2.2.2.1 ha h0 hN hby hk hn hd (fun q cA H1 hK1 hP1 hD1 hS1 => ?_)
  have e2 := jArr hK1 hC.2.2.2.2.2.1.1 ht
  subst e2
  have e : (bl ++ [[(q, Sum.inl (cA, N, .inl (fun _ => 0)))]] : List va_W).flatten = bl.flatten ++ [(q, Sum.inl (cA, N, .inl (fun _ => 0)))] := by simp
  exact kk q H1 locs ls (by rw [e]; exact ⟨hP1, hD1⟩) hS1 hl
theorem j_newq (hC : jC g R E cc own nL) {index : Nat} {C : String} {c2 : ClassId} (t0 N : Nat) {v : Int32} (ht : (jTys g)[t0]? = some (c2, .object C)) (hover : va_AO C (jEs E)) (hcl : Cond.classLink own index C ∈ jT) (h0 : ¬ v < 0) (hN : v.toNatClampNeg = N) (hby : N * 4 ≤ 536870912) (hk : k + 1 ≤ R.cells) (hn : n + N ≤ R.slots) (hd : decode cc pc = .ok (.anewarray index, 3))
    (kk : ∀ q : Nat, J g R E nL (pc + 3) lv (.ref q :: st) (bl ++ [[(q, .inl (c2, N, .inr (.inr (.inr (.inr (fun _ => none))))))]]) (k + 1) (n + N)) : J g R E nL pc lv (.int v :: st) bl k n := by
  intro H locs ls hP hS hl
  refine va_newq (D := g.2.1) hC.1 hC.2.1 hC.2.2.2.1 (hC.2.2.2.2.1 _ hcl) hover hC.2.2.2.2.2.1.1 hP.1 hP.2 hS hC.2.2.2.2.2.2.1 h0 hN hby hk hn hd (fun q cA H1 hK1 hP1 hD1 hS1 => ?_)
  have e2 := jArr hK1 hC.2.2.2.2.2.1.1 ht
  subst e2
  have e : (bl ++ [[(q, Sum.inl (cA, N, .inr (.inr (.inr (.inr (fun _ => none))))))]] : List va_W).flatten = bl.flatten ++ [(q, Sum.inl (cA, N, .inr (.inr (.inr (.inr (fun _ => none))))))] := by simp
  exact kk q H1 locs ls (by rw [e]; exact ⟨hP1, hD1⟩) hS1 hl
theorem j_objInit (hC : jC g R E cc own nL) {index a : Nat} (hlink : Cond.methodLink own index Lib.objectInit ∈ jT) (hinst : Cond.instanceMethod Lib.objectInit ∈ jT) (hcode : Cond.code Lib.objectInit ⟨#[0xb1]⟩ 1 none ∈ jT) (hfr : 1 ≤ R.frames) (hlo : (st.map fun v => v.category).sum + 12 ≤ R.locals) (hd : decode cc pc = .ok (.invokespecial index, 3))
    (kk : J g R E nL (pc + 3) lv st bl k n) : J g R E nL pc lv (.ref a :: st) bl k n := by
  intro H locs ls hP hS hl
  refine W.objInit hC.1 hC.2.1 hC.2.2.2.1 (hC.2.2.2.2.1 _ hlink) (hC.2.2.2.2.1 _ hinst) (hC.2.2.2.2.1 _ hcode) rfl (by rw [hC.2.2.1]; exact hl.1) rfl hd hfr (by show 2 * 0 + _ + 12 ≤ _; omega) (W.eq rfl (kk H locs ls hP hS hl))
/-! Math -/
theorem j_max (hC : jC g R E cc own nL) {index : Nat} {x y : Int32} (hlink : Cond.methodLink own index Lib.Math.max.name ∈ jT) (hstat : Cond.static Lib.Math.max.name ∈ jT) (hini : Cond.initialized "java/lang/Math" ∈ jT) (hcode : Cond.code Lib.Math.max.name Lib.Math.max.code 2 (some .int) ∈ jT) (hfr : 1 ≤ R.frames) (hlo : (st.map fun v => v.category).sum + 13 ≤ R.locals) (hk : k ≤ R.cells) (hn : n ≤ R.slots) (hd : decode cc pc = .ok (.invokestatic index, 3))
    (kk : J g R E nL (pc + 3) lv (.int (if x < y then y else x) :: st) bl k n) : J g R E nL pc lv (.int y :: .int x :: st) bl k n :=
  fun H locs ls hP hS hl => va_mmax hC.1 hC.2.1 (by rw [hC.2.2.1]; exact hl.1.symm) hC.2.2.2.1 (hC.2.2.2.2.1 _ hlink) (hC.2.2.2.2.1 _ hstat) (hC.2.2.2.2.1 _ hini) (hC.2.2.2.2.1 _ hcode) hfr hlo hk hn hd (kk H locs ls hP hS hl)
theorem j_min (hC : jC g R E cc own nL) {index : Nat} {x y : Int32} (hlink : Cond.methodLink own index Lib.Math.min.name ∈ jT) (hstat : Cond.static Lib.Math.min.name ∈ jT) (hini : Cond.initialized "java/lang/Math" ∈ jT) (hcode : Cond.code Lib.Math.min.name Lib.Math.min.code 2 (some .int) ∈ jT) (hfr : 1 ≤ R.frames) (hlo : (st.map fun v => v.category).sum + 13 ≤ R.locals) (hk : k ≤ R.cells) (hn : n ≤ R.slots) (hd : decode cc pc = .ok (.invokestatic index, 3))
    (kk : J g R E nL (pc + 3) lv (.int (if y < x then y else x) :: st) bl k n) : J g R E nL pc lv (.int y :: .int x :: st) bl k n :=
  fun H locs ls hP hS hl => va_mmin hC.1 hC.2.1 (by rw [hC.2.2.1]; exact hl.1.symm) hC.2.2.2.1 (hC.2.2.2.2.1 _ hlink) (hC.2.2.2.2.1 _ hstat) (hC.2.2.2.2.1 _ hini) (hC.2.2.2.2.1 _ hcode) hfr hlo hk hn hd (kk H locs ls hP hS hl)
theorem j_abs (hC : jC g R E cc own nL) {index : Nat} {x : Int32} (hlink : Cond.methodLink own index Lib.Math.abs.name ∈ jT) (hstat : Cond.static Lib.Math.abs.name ∈ jT) (hini : Cond.initialized "java/lang/Math" ∈ jT) (hcode : Cond.code Lib.Math.abs.name Lib.Math.abs.code 1 (some .int) ∈ jT) (hfr : 1 ≤ R.frames) (hlo : (st.map fun v => v.category).sum + 13 ≤ R.locals) (hk : k ≤ R.cells) (hn : n ≤ R.slots) (hd : decode cc pc = .ok (.invokestatic index, 3))
    (kk : J g R E nL (pc + 3) lv (.int (if 0 ≤ x then x else 0 - x) :: st) bl k n) : J g R E nL pc lv (.int x :: st) bl k n :=
  fun H locs ls hP hS hl => va_mabs hC.1 hC.2.1 (by rw [hC.2.2.1]; exact hl.1.symm) hC.2.2.2.1 (hC.2.2.2.2.1 _ hlink) (hC.2.2.2.2.1 _ hstat) (hC.2.2.2.2.1 _ hini) (hC.2.2.2.2.1 _ hcode) hfr hlo hk hn hd (kk H locs ls hP hS hl)
/-! the frame rule -/
theorem jP_iff {g : jG} {A : Nat → Prop} {ws : va_W} {H : Heap} : jP g A ws H ↔ (∀ x ∈ ws, va_at g.2.1 vwCl x H ∧ A x.1) ∧ (ws.map Prod.fst).Nodup := by
  constructor
  · rintro ⟨h1, h2, h3⟩
    refine ⟨fun x hx => ?_, ?_⟩
    · obtain ⟨i, hi⟩ := List.getElem?_of_mem hx
      exact ⟨h1 i x hi, h3 i x hi⟩
    · unfold List.Nodup
      rw [List.pairwise_iff_getElem]
      intro i j hi hj hij he
      rw [List.length_map] at hi hj
      rw [List.getElem_map, List.getElem_map] at he
      have := h2 i j _ _ (List.getElem?_eq_getElem hi) (List.getElem?_eq_getElem hj) he
      omega
  · rintro ⟨h1, h2⟩
    refine ⟨fun i x hi => (h1 x (List.mem_of_getElem? hi)).1, fun i j p q hp hq he => ?_, fun i x hi => (h1 x (List.mem_of_getElem? hi)).2⟩
    unfold List.Nodup at h2
    rw [List.pairwise_iff_getElem] at h2
    obtain ⟨hil, ep⟩ := List.getElem?_eq_some_iff.mp hp
    obtain ⟨hjl, eq⟩ := List.getElem?_eq_some_iff.mp hq
    have e2 : (ws.map Prod.fst)[i]'(by rw [List.length_map]; exact hil) = (ws.map Prod.fst)[j]'(by rw [List.length_map]; exact hjl) := by
      rw [List.getElem_map, List.getElem_map, ep, eq]; exact he
    rcases Nat.lt_trichotomy i j with h | h | h
    · exact absurd e2 (h2 i j _ _ h)
    · exact h
    · exact absurd e2.symm (h2 j i _ _ h)
theorem jP.perm {g : jG} {A : Nat → Prop} {ws ws' : va_W} {H : Heap} (hp : ws.Perm ws') (h : jP g A ws H) : jP g A ws' H := by
  rw [jP_iff] at h ⊢
  exact ⟨fun x hx => h.1 x (hp.mem_iff.mpr hx), (hp.map _).nodup_iff.mp h.2⟩
theorem j_perm {bl' : List va_W} (hp : bl.flatten.Perm bl'.flatten) (kk : J g R E nL pc lv st bl' k n) : J g R E nL pc lv st bl k n :=
  fun H locs ls hP hS hl => kk H locs ls (hP.perm hp) hS hl
def jrepl : List va_W → List Nat → List va_W → List va_W
  | bl, i :: is, b :: bs => jrepl (bl.set i b) is bs
  | bl, _, _ => bl
theorem jset_flat {c : va_W} : ∀ {X : List va_W} {i : Nat}, i < X.length → (X.set i c).flatten.Perm (c ++ (X.set i []).flatten)
  | [], i, h => by cases h
  | a :: t, 0, _ => by simp
  | a :: t, i + 1, h => by
    have h1 := jset_flat (c := c) (X := t) (i := i) (by simpa using h)
    rw [List.set_cons_succ, List.set_cons_succ, List.flatten_cons, List.flatten_cons]
    exact (h1.append_left a).trans (List.perm_append_comm_assoc a c _)
theorem jrepl_set {b : va_W} {i : Nat} : ∀ {is : List Nat} {bs : List va_W} {X : List va_W}, i ∉ is → jrepl (X.set i b) is bs = (jrepl X is bs).set i b
  | [], _, _, _ => by simp [jrepl]
  | _ :: _, [], _, _ => by simp [jrepl]
  | j :: is, c :: bs, X, h => by
    have h1 : i ≠ j := fun e => h (by rw [e]; exact List.mem_cons_self)
    have h2 : i ∉ is := fun e => h (List.mem_cons_of_mem _ e)
    show jrepl ((X.set i b).set j c) is bs = (jrepl (X.set j c) is bs).set i b
    rw [List.set_comm _ _ h1, jrepl_set h2]
theorem jrepl_len : ∀ {is : List Nat} {bs : List va_W} {X : List va_W}, (jrepl X is bs).length = X.length
  | [], _, _ => by simp [jrepl]
  | _ :: _, [], _ => by simp [jrepl]
  | j :: is, c :: bs, X => by
    show (jrepl (X.set j c) is bs).length = X.length
    rw [jrepl_len, List.length_set]
theorem jset_self {X : List va_W} {i : Nat} {b : va_W} (h : X[i]? = some b) : X.set i b = X := by
  apply List.ext_getElem?
  intro j
  by_cases hj : i = j
  · subst hj
    rw [List.getElem?_set_self (List.getElem?_eq_some_iff.mp h).1, h]
  · rw [List.getElem?_set_ne hj]
theorem jsplit : ∀ (ic : List Nat) (bl blc : List va_W), va_nd ic = true → ic.map (fun i => bl[i]?) = blc.map some → ∃ rest : va_W, bl.flatten.Perm (blc.flatten ++ rest) ∧ ∀ b1 : List va_W, b1.length = blc.length → (jrepl bl ic b1).flatten.Perm (b1.flatten ++ rest)
  | [], bl, blc, _, h => by
    have e : blc = [] := by simpa using h.symm
    subst e
    refine ⟨bl.flatten, by simp, fun b1 hb => ?_⟩
    have e : b1 = [] := by simpa using hb
    subst e
    simp [jrepl]
  | i :: is, bl, blc, hn, h => by
    cases blc with
    | nil => simp at h
    | cons b bs =>
      have h1 : bl[i]? = some b := by simpa using (List.cons.inj h).1
      have h2 : is.map (fun i => bl[i]?) = bs.map some := (List.cons.inj h).2
      have hnd : i ∉ is ∧ va_nd is = true := by
        unfold va_nd at hn
        simpa using hn
      have hlt : i < bl.length := (List.getElem?_eq_some_iff.mp h1).1
      have h3 : is.map (fun j => (bl.set i [])[j]?) = bs.map some := by
        rw [← h2]
        apply List.map_congr_left
        intro j hj
        exact List.getElem?_set_ne (fun e => hnd.1 (by rw [e]; exact hj))
      obtain ⟨rest, p1, p2⟩ := jsplit is (bl.set i []) bs hnd.2 h3
      refine ⟨rest, ?_, fun b1 hb => ?_⟩
      · have q1 := jset_flat (c := b) hlt
        rw [jset_self h1] at q1
        rw [List.flatten_cons, List.append_assoc]
        exact q1.trans (p1.append_left b)
      · cases b1 with
        | nil => simp at hb
        | cons c b1 =>
          have hb : b1.length = bs.length := by simpa using hb
          show (jrepl (bl.set i c) is b1).flatten.Perm _
          rw [jrepl_set hnd.1]
          have hl2 : i < (jrepl bl is b1).length := by rw [jrepl_len]; exact hlt
          refine (jset_flat hl2).trans ?_
          rw [← jrepl_set hnd.1, List.flatten_cons, List.append_assoc]
          exact (p2 b1 hb).append_left c
theorem jframe {g : jG} {A : Nat → Prop} {wc wr w1 : va_W} {H H1 : Heap} (hP : jP g A (wc ++ wr) H) (hA : ∀ q, va_A wc H.size q → A q) (hk : ∀ q : Nat, q < H.size → ¬ va_A wc H.size q → H1[q]? = H[q]?) (h1 : jP g (va_A wc H.size) w1 H1) : jP g A (w1 ++ wr) H1 := by
  rw [jP_iff] at hP h1 ⊢
  obtain ⟨a1, a2⟩ := hP
  obtain ⟨b1, b2⟩ := h1
  rw [List.map_append, List.nodup_append] at a2
  have off : ∀ x ∈ wr, x.1 < H.size ∧ ¬ va_A wc H.size x.1 := by
    intro x hx
    have hl := (a1 x (List.mem_append_right _ hx)).1.lt
    refine ⟨hl, fun h => ?_⟩
    rcases h with ⟨i, e, h⟩ | h
    · exact a2.2.2 x.1 (List.mem_map.mpr ⟨(x.1, e), List.mem_of_getElem? h, rfl⟩) x.1 (List.mem_map.mpr ⟨x, hx, rfl⟩) rfl
    · omega
  refine ⟨fun x hx => ?_, ?_⟩
  · rcases List.mem_append.mp hx with hx | hx
    · exact ⟨(b1 x hx).1, hA _ (b1 x hx).2⟩
    · obtain ⟨c1, c2⟩ := off x hx
      exact ⟨(a1 x (List.mem_append_right _ hx)).1.kept (hk x.1 c1 c2), (a1 x (List.mem_append_right _ hx)).2⟩
  · rw [List.map_append, List.nodup_append]
    refine ⟨b2, a2.2.1, fun u hu v hv e => ?_⟩
    obtain ⟨x, hx, rfl⟩ := List.mem_map.mp hu
    obtain ⟨y, hy, rfl⟩ := List.mem_map.mp hv
    exact (off y hy).2 (by rw [← e]; exact (b1 x hx).2)
def jM (y : MethodName) (cc : ByteArray) (nL : Nat) (ret : Option FieldType) (n : Nat) : Prop := Cond.instanceMethod y ∈ jT ∧ Cond.selects y.cls y y ∈ jT ∧ Cond.initialized y.cls ∈ jT ∧ Cond.code y cc nL ret ∈ jT ∧ (y.cls ≠ "java/lang/invoke/MethodHandle" ∧ y.cls ≠ "java/lang/invoke/VarHandle" ∧ (parseMethodDescriptor y.desc).map (fun d => d.parameters.length) = some n)
def jMs (y : MethodName) (cc : ByteArray) (nL : Nat) (ret : Option FieldType) (n : Nat) : Prop := Cond.static y ∈ jT ∧ Cond.initialized y.cls ∈ jT ∧ Cond.code y cc nL ret ∈ jT ∧ (y.cls ≠ "java/lang/invoke/MethodHandle" ∧ y.cls ≠ "java/lang/invoke/VarHandle" ∧ (parseMethodDescriptor y.desc).map (fun d => d.parameters.length) = some n)
def jMi (y : MethodName) (cc : ByteArray) (nL : Nat) (n : Nat) : Prop := Cond.instanceMethod y ∈ jT ∧ Cond.initialized y.cls ∈ jT ∧ Cond.code y cc nL none ∈ jT ∧ y.name = "<init>" ∧ (y.cls ≠ "java/lang/invoke/MethodHandle" ∧ y.cls ≠ "java/lang/invoke/VarHandle" ∧ (parseMethodDescriptor y.desc).map (fun d => d.parameters.length) = some n)
/-! ends -/
theorem j_end {ret : Option FieldType} {mc ms : Nat} {bl0 : List va_W} {Post : Option Value → List va_W → Prop} {r : Option Value} {H : Heap} {locs : List Loc} (hQ : jQ g E ret mc ms bl0 Post) (hlen : bl.length = bl0.length) (hp : Post r bl) (hP : jP g (jEA E) bl.flatten H) (hS : va_S (jEA E) (jEs E).heap H locs) : ∀ t : State, t.heap = H → (jEs E).WarmedH t.vm → jPost g (jEs E).heap.size bl0 Post (jEa E) (jEs E) (.returned r) t := by
  intro t ht _
  obtain ⟨-, hA, -⟩ := hQ
  rw [hA] at hP hS
  exact ⟨⟨r, bl, rfl, hp, hlen, by rw [ht]; exact hP⟩, hS.F ht⟩
theorem j_iret (hC : jC g R E cc own nL) {ret : Option FieldType} {mc ms : Nat} {bl0 : List va_W} {Post : Option Value → List va_W → Prop} (hQ : jQ g E ret mc ms bl0 Post) {ty : FieldType} {v : Int32} (hr : ret = some ty) (hn : narrow ty (.int v) = .int v) (hk : k ≤ mc) (hs : n ≤ ms) (hd : decode cc pc = .ok (.ireturn, 1)) (hlen : bl.length = bl0.length) (hp : Post (some (.int v)) bl) : J g R E nL pc lv [.int v] bl k n := by
  intro H locs ls hP hS hl
  refine W.widen hk hs ?_
  rw [hQ.2.2]
  exact W.zret hC.1 hC.2.1 (hQ.1.trans hr) hn (j_end hQ hlen hp hP hS) (fun q hq => by have := hS.2.2 q hq; rw [hQ.2.1] at this; exact this) hd hC.2.2.2.2.2.2.2
theorem j_lret (hC : jC g R E cc own nL) {ret : Option FieldType} {mc ms : Nat} {bl0 : List va_W} {Post : Option Value → List va_W → Prop} (hQ : jQ g E ret mc ms bl0 Post) {v : Int64} (hr : ret = some .long) (hk : k ≤ mc) (hs : n ≤ ms) (hd : decode cc pc = .ok (.lreturn, 1)) (hlen : bl.length = bl0.length) (hp : Post (some (.long v)) bl) : J g R E nL pc lv [.long v] bl k n := by
  intro H locs ls hP hS hl
  refine W.widen hk hs ?_
  rw [hQ.2.2]
  exact W.lret hC.1 hC.2.1 (hQ.1.trans hr) (j_end hQ hlen hp hP hS) (fun q hq => by have := hS.2.2 q hq; rw [hQ.2.1] at this; exact this) hd hC.2.2.2.2.2.2.2
theorem j_vret (hC : jC g R E cc own nL) {ret : Option FieldType} {mc ms : Nat} {bl0 : List va_W} {Post : Option Value → List va_W → Prop} (hQ : jQ g E ret mc ms bl0 Post) (hr : ret = none) (hk : k ≤ mc) (hs : n ≤ ms) (hd : decode cc pc = .ok (.return_, 1)) (hlen : bl.length = bl0.length) (hp : Post none bl) : J g R E nL pc lv [] bl k n := by
  intro H locs ls hP hS hl
  refine W.widen hk hs ?_
  rw [hQ.2.2]
  exact W.vret hC.1 hC.2.1 (hQ.1.trans hr) (j_end hQ hlen hp hP hS) (fun q hq => by have := hS.2.2 q hq; rw [hQ.2.1] at this; exact this) hd hC.2.2.2.2.2.2.2
theorem j_aret (hC : jC g R E cc own nL) {ret : Option FieldType} {mc ms : Nat} {bl0 : List va_W} {Post : Option Value → List va_W → Prop} (hQ : jQ g E ret mc ms bl0 Post) {C : String} {v : Value} (hr : ret = some (.object C)) (hv : v = .null ∨ ∃ a, v = .ref a) (hk : k ≤ mc) (hs : n ≤ ms) (hd : decode cc pc = .ok (.areturn, 1)) (hlen : bl.length = bl0.length) (hp : Post (some v) bl) : J g R E nL pc lv [v] bl k n := by
  intro H locs ls hP hS hl
  refine W.widen hk hs ?_
  rw [hQ.2.2]
  exact W.aret hC.1 hC.2.1 (hQ.1.trans hr) (Or.inl ⟨C, rfl⟩) hv (j_end hQ hlen hp hP hS) (fun q hq => by have := hS.2.2 q hq; rw [hQ.2.1] at this; exact this) hd hC.2.2.2.2.2.2.2
/-! calls -/
def jstk : Option Value → List Value → List Value
  | some v, r => v :: r
  | none, r => r
theorem jstk_eq (r : Option Value) (rest : List Value) : r.toList ++ rest = jstk r rest := by cases r <;> rfl
theorem jblind {g : jG} {av : List Value} {sz : Nat} {bl : List va_W} : FrameBlind (jPre g av sz bl) := by
  intro a U f mk h
  obtain ⟨h1, h2, h3, h4⟩ := h
  exact ⟨h1, h2, h3, jK.calling h4⟩
theorem j_run {blc : List va_W} {Post : Option Value → List va_W → Prop} {rest : List Value} {aa : Array Value} {mc ms : Nat} (ic : List Nat) (hbl : ic.map (fun i => bl[i]?) = blc.map some) (hnd : va_nd ic = true) (hC : jC g R E cc own nL)
    (hr : ∀ (H : Heap) (locs : List Loc) (ls : Array Slot), jP g (fun _ => True) blc.flatten H → ls.size = nL → va_Run (jEp E) g.1 (jEe E) R (jEs E) (jEm E) (jEa E) (jEb E) (jEh E) (jEc E) H locs k n mc ms (F0 (jEm E) pc ls st) rest (jPost g H.size blc Post aa) (va_A blc.flatten H.size))
    (kk : ∀ (r : Option Value) (b1 : List va_W), Post r b1 → b1.length = blc.length → J g R E nL (pc + 3) lv (jstk r rest) (jrepl bl ic b1) (k + mc) (n + ms)) : J g R E nL pc lv st bl k n := by
  intro H locs ls hP hS hl
  obtain ⟨wr, p1, p2⟩ := jsplit ic bl blc hnd hbl
  have hP1 := hP.perm p1
  have hPc : jP g (jEA E) blc.flatten H := by
    rw [jP_iff] at hP1 ⊢
    rw [List.map_append, List.nodup_append] at hP1
    exact ⟨fun x hx => hP1.1 x (List.mem_append_left _ hx), hP1.2.1⟩
  have hA : ∀ q, va_A blc.flatten H.size q → jEA E q := by
    intro q hq
    rcases hq with ⟨i, e, h⟩ | h
    · exact ((jP_iff.mp hPc).1 (q, e) (List.mem_of_getElem? h)).2
    · exact hC.2.2.2.2.2.2.1 q (Nat.le_trans hS.1 h)
  have hPt : jP g (fun _ => True) blc.flatten H := ⟨hPc.1, hPc.2.weaken (fun _ _ _ _ => trivial)⟩
  intro T hT X
  obtain ⟨v, st₀, t, T', L, h0, X', hL, e1, e2, ⟨⟨r, b1, hv, hp, hlen, hw⟩, hz, hk⟩, stp⟩ := hr H locs ls hPt hl.1 T hT X
  cases hv
  rw [h0] at hz hk
  have h5 : jP g (jEA E) (b1.flatten ++ wr) T'.heap := jframe (H := H) hP1 hA (fun q h1 h2 => by rw [e1]; exact hk q h1 h2) (by rw [e1]; exact hw)
  obtain ⟨t2, a1, a2⟩ := kk v b1 hp hlen T'.heap (locs ++ L) ls (h5.perm (p2 b1 hlen).symm)
    ⟨Nat.le_trans hS.1 (by rw [e1]; exact hz), fun q h1 h2 => by rw [e1, hk q (Nat.lt_of_lt_of_le h1 hS.1) (fun z => h2 (hA q z))]; exact hS.2.1 q h1 h2, fun q hq => by
      rcases List.mem_append.mp hq with h | h
      · exact hS.2.2 q h
      · exact hA _ (hL q h)⟩ hl T' rfl X'
  refine ⟨t2, stp t2 ?_, a2⟩
  have e3 : ({ (F0 (jEm E) pc ls st) with pc := (F0 (jEm E) pc ls st).pc + 3, stack := v.toList ++ rest } : JFrame) = F0 (jEm E) (pc + 3) ls (jstk v rest) := by rw [jstk_eq]
  rw [e3]
  exact a1
theorem jFix (hC : jC g R E cc own nL) : CallFix (jEp E) (jEm E) (jEc E) cc nL (jEs E) (jEa E) jT own := ⟨hC.1, hC.2.1, hC.2.2.1, hC.2.2.2.1, hC.2.2.2.2.1⟩
theorem jpre_of {av : List Value} {blc : List va_W} {H : Heap} (hC : jC g R E cc own nL) (hP : jP g (fun _ => True) blc.flatten H) : ∀ U : State, U.heap = H → (jEs E).WarmedH U.vm → jPre g av H.size blc av.toArray U :=
  fun U hU hW => ⟨rfl, by rw [hU], by rw [hU]; exact hP, jK.moved hW hC.2.2.2.2.2.1⟩
theorem j_callV (hC : jC g R E cc own nL) {y : MethodName} {cy : ByteArray} {nLy fr lo mc ms index a ci : Nat} {ret : Option FieldType} {As rest : List Value} {blc : List va_W} {Post : Option Value → List va_W → Prop} {fs : List Value} (ic : List Nat) (hcon : Con g y cy nLy ret fr lo mc ms (.ref a :: As) blc Post) (hM : jM y cy nLy ret As.length) (hlink : Cond.methodLink own index y ∈ jT) (hst : st = As.reverse ++ .ref a :: rest) (hbl : ic.map (fun i => bl[i]?) = blc.map some) (hnd : va_nd ic = true) (hrv : jat blc 0 0 = some (a, .inr (ci, fs))) (hcl : (vwCl[ci]?).map (fun q => q.1) = some y.cls)
    (hR : fr + 1 ≤ R.frames ∧ 8 + (nLy + 11) + lo ≤ R.locals) (hcat : (rest.map fun v => v.category).sum ≤ 8) (hkn : k + mc ≤ R.cells ∧ n + ms ≤ R.slots) (hd : decode cc pc = .ok (.invokevirtual index, 3))
    (kk : ∀ (r : Option Value) (b1 : List va_W), Post r b1 → b1.length = blc.length → J g R E nL (pc + 3) lv (jstk r rest) (jrepl bl ic b1) (k + mc) (n + ms)) : J g R E nL pc lv st bl k n := by
  refine j_run (aa := (Value.ref a :: As).toArray) (mc := mc) (ms := ms) (rest := rest) ic hbl hnd hC (fun H locs ls hP hsz => ?_) kk
  obtain ⟨q0, h0⟩ := jat_flat hrv
  have hts := hC.2.2.2.2.1
  refine va_runV (C := y.cls) (As := As) (rest := rest) (jFix hC) (hcon H.size) ⟨callB_of As.length hts (jWs_good hM.2.2.2.1) rfl rfl rfl (hts _ hM.2.2.1) (hts _ hlink) hM.2.2.2.2 hR, hts _ hM.1, hts _ hM.2.1⟩ ⟨jblind, ?_, jpre_of hC hP⟩ rfl rfl hsz hst (lv_room hcat) hd hkn
  cases hc : vwCl[ci]? with
  | none => rw [hc] at hcl; cases hcl
  | some q =>
    rw [hc] at hcl
    have e : q.1 = y.cls := Option.some.inj hcl
    have := va_recv hC.2.2.2.2.2.1.1 hP.1 hc h0
    rw [e] at this
    exact this
theorem j_callS (hC : jC g R E cc own nL) {y : MethodName} {cy : ByteArray} {nLy fr lo mc ms index : Nat} {ret : Option FieldType} {As rest : List Value} {blc : List va_W} {Post : Option Value → List va_W → Prop} (ic : List Nat) (hcon : Con g y cy nLy ret fr lo mc ms As blc Post) (hM : jMs y cy nLy ret As.length) (hlink : Cond.methodLink own index y ∈ jT) (hst : st = As.reverse ++ rest) (hbl : ic.map (fun i => bl[i]?) = blc.map some) (hnd : va_nd ic = true)
    (hR : fr + 1 ≤ R.frames ∧ 8 + (nLy + 11) + lo ≤ R.locals) (hcat : (rest.map fun v => v.category).sum ≤ 8) (hkn : k + mc ≤ R.cells ∧ n + ms ≤ R.slots) (hd : decode cc pc = .ok (.invokestatic index, 3))
    (kk : ∀ (r : Option Value) (b1 : List va_W), Post r b1 → b1.length = blc.length → J g R E nL (pc + 3) lv (jstk r rest) (jrepl bl ic b1) (k + mc) (n + ms)) : J g R E nL pc lv st bl k n := by
  refine j_run (aa := As.toArray) (mc := mc) (ms := ms) (rest := rest) ic hbl hnd hC (fun H locs ls hP hsz => ?_) kk
  have hts := hC.2.2.2.2.1
  exact va_runS (As := As) (rest := rest) (jFix hC) (hcon H.size) ⟨callB_of As.length hts (jWs_good hM.2.2.1) rfl rfl rfl (hts _ hM.2.1) (hts _ hlink) hM.2.2.2 hR, hts _ hM.1⟩ ⟨jblind, jpre_of hC hP⟩ rfl rfl hsz hst (lv_room hcat) hd hkn
theorem j_callSN (hC : jC g R E cc own nL) {y : MethodName} {cy : ByteArray} {nLy fr lo mc ms index : Nat} {host : String} {ret : Option FieldType} {As rest : List Value} {blc : List va_W} {Post : Option Value → List va_W → Prop} (ic : List Nat) (hcon : Con g y cy nLy ret fr lo mc ms As blc Post) (hM : jMs y cy nLy ret As.length) (hlink : Cond.methodLinkNest own index y host ∈ jNw) (hst : st = As.reverse ++ rest) (hbl : ic.map (fun i => bl[i]?) = blc.map some) (hnd : va_nd ic = true)
    (hR : fr + 1 ≤ R.frames ∧ 8 + (nLy + 11) + lo ≤ R.locals) (hcat : (rest.map fun v => v.category).sum ≤ 8) (hkn : k + mc ≤ R.cells ∧ n + ms ≤ R.slots) (hd : decode cc pc = .ok (.invokestatic index, 3))
    (kk : ∀ (r : Option Value) (b1 : List va_W), Post r b1 → b1.length = blc.length → J g R E nL (pc + 3) lv (jstk r rest) (jrepl bl ic b1) (k + mc) (n + ms)) : J g R E nL pc lv st bl k n := by
  refine j_run (aa := As.toArray) (mc := mc) (ms := ms) (rest := rest) ic hbl hnd hC (fun H locs ls hP hsz => ?_) kk
  have hts := hC.2.2.2.2.1
  exact va_runSN (As := As) (rest := rest) (jFix hC) (hcon H.size) ⟨va_cnB As.length hts (jWs_good hM.2.2.1) rfl rfl rfl (hC.2.2.2.2.2.1.2.1 _ hlink) (hts _ hM.2.1) hM.2.2.2 hR, hts _ hM.1, trivial⟩ ⟨jblind, jpre_of hC hP⟩ rfl rfl hsz hst (lv_room hcat) hd hkn
theorem j_callI (hC : jC g R E cc own nL) {y : MethodName} {cy : ByteArray} {nLy fr lo mc ms index a : Nat} {As rest : List Value} {blc : List va_W} {Post : Option Value → List va_W → Prop} (ic : List Nat) (hcon : Con g y cy nLy none fr lo mc ms (.ref a :: As) blc Post) (hM : jMi y cy nLy As.length) (hlink : Cond.methodLink own index y ∈ jT) (hst : st = As.reverse ++ .ref a :: rest) (hbl : ic.map (fun i => bl[i]?) = blc.map some) (hnd : va_nd ic = true)
    (hR : fr + 1 ≤ R.frames ∧ 8 + (nLy + 11) + lo ≤ R.locals) (hcat : (rest.map fun v => v.category).sum ≤ 8) (hkn : k + mc ≤ R.cells ∧ n + ms ≤ R.slots) (hd : decode cc pc = .ok (.invokespecial index, 3))
    (kk : ∀ (r : Option Value) (b1 : List va_W), Post r b1 → b1.length = blc.length → J g R E nL (pc + 3) lv (jstk r rest) (jrepl bl ic b1) (k + mc) (n + ms)) : J g R E nL pc lv st bl k n := by
  refine j_run (aa := (Value.ref a :: As).toArray) (mc := mc) (ms := ms) (rest := rest) ic hbl hnd hC (fun H locs ls hP hsz => ?_) kk
  have hts := hC.2.2.2.2.1
  exact va_runI (As := As) (rest := rest) (jFix hC) (hcon H.size) ⟨callB_of As.length hts (jWs_good hM.2.2.1) rfl rfl rfl (hts _ hM.2.1) (hts _ hlink) hM.2.2.2.2 hR, hM.2.2.2.1, hts _ hM.1⟩ ⟨jblind, jpre_of hC hP⟩ rfl rfl hsz hst (lv_room hcat) hd hkn
theorem j_callIN (hC : jC g R E cc own nL) {y : MethodName} {cy : ByteArray} {nLy fr lo mc ms index a : Nat} {host : String} {As rest : List Value} {blc : List va_W} {Post : Option Value → List va_W → Prop} (ic : List Nat) (hcon : Con g y cy nLy none fr lo mc ms (.ref a :: As) blc Post) (hM : jMi y cy nLy As.length) (hlink : Cond.methodLinkNest own index y host ∈ jNw) (hst : st = As.reverse ++ .ref a :: rest) (hbl : ic.map (fun i => bl[i]?) = blc.map some) (hnd : va_nd ic = true)
    (hR : fr + 1 ≤ R.frames ∧ 8 + (nLy + 11) + lo ≤ R.locals) (hcat : (rest.map fun v => v.category).sum ≤ 8) (hkn : k + mc ≤ R.cells ∧ n + ms ≤ R.slots) (hd : decode cc pc = .ok (.invokespecial index, 3))
    (kk : ∀ (r : Option Value) (b1 : List va_W), Post r b1 → b1.length = blc.length → J g R E nL (pc + 3) lv (jstk r rest) (jrepl bl ic b1) (k + mc) (n + ms)) : J g R E nL pc lv st bl k n := by
  refine j_run (aa := (Value.ref a :: As).toArray) (mc := mc) (ms := ms) (rest := rest) ic hbl hnd hC (fun H locs ls hP hsz => ?_) kk
  have hts := hC.2.2.2.2.1
  exact va_runIN (As := As) (rest := rest) (jFix hC) (hcon H.size) ⟨va_cnB As.length hts (jWs_good hM.2.2.1) rfl rfl rfl (hC.2.2.2.2.2.1.2.1 _ hlink) (hts _ hM.2.1) hM.2.2.2.2 hR, hM.2.2.2.1, hts _ hM.1⟩ ⟨jblind, jpre_of hC hP⟩ rfl rfl hsz hst (lv_room hcat) hd hkn
end JROWS
