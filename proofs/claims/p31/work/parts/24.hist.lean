/-! makers, and the remembered states -/
def newI : jF := fun i => if i = 5 then 60 else 0
def newA : Nat → jF := fun _ _ => 0
theorem lrf_nil : lrf [] = fun _ => none := rfl
abbrev BV : Type := (Nat → Nat) × jF × (Nat → jF) × List (Nat × jF)
def bcs (g : jG) (V : BV) : va_W := bc g V.1 V.2.1 V.2.2.1 (lrf V.2.2.2) ++ lts V.2.2.2
def kb1 (g : jG) (o : Option BV) : va_W := match o with
  | none => []
  | some V => bcs g V
def kb (g : jG) (K : Nat → Option BV) : va_W := (List.range 8).flatMap (fun i => kb1 g (K i))
def kr (K : Nat → Option BV) : Nat → Option Nat := fun i => (K i).map (fun V => V.1 0)
/-- a building's numbers are in order: k lights, n routes -/
def bgood (V : BV) (k n : Nat) : Prop := bok V.2.1 V.2.2.2 k ∧ V.2.1 4 = nI n ∧ n ≤ 6 ∧ ∀ j, j < k → jL V.2.2.2 j 4 = 0 ∨ jL V.2.2.2 j 4 = 1
/-- a building says what another one says -/
def beq (V W : BV) (k n : Nat) : Prop := (∀ f, f = 1 ∨ f = 4 ∨ f = 5 ∨ f = 6 ∨ f = 8 ∨ f = 9 → V.2.1 f = W.2.1 f) ∧ lsame V.2.2.2 W.2.2.2 k ∧ (∀ t, t < n → V.2.2.1 0 t = W.2.2.1 0 t ∧ V.2.2.1 1 t = W.2.2.1 1 t) ∧ ∀ t, t < 3 → V.2.2.1 2 t = W.2.2.1 2 t
theorem jfm {α β : Type} {f h : α → List β} : ∀ {l : List α}, (∀ i ∈ l, f i = h i) → l.flatMap f = l.flatMap h
  | [], _ => rfl
  | a :: t, hh => by rw [List.flatMap_cons, List.flatMap_cons, hh a List.mem_cons_self, jfm (l := t) (fun i hi => hh i (List.mem_cons_of_mem _ hi))]
theorem Con.ofF {g : jG} {y : MethodName} {cc : ByteArray} {nL : Nat} {ret : Option FieldType} {fr lo mc ms : Nat} {av : List Value} {bl : List va_W} {Post : Option Value → List va_W → Prop} {lv : List (Nat × Value)} {own : String}
    (hy : plainFor y = true) (hown : y.cls = own) (hlen : (lg_sl av).length ≤ nL) (hlv : lv_args 0 av = lv)
    (body : ∀ E : jE, jC g (jRm fr lo mc ms) E cc own nL → jQ g E ret mc ms bl Post → (jEh E).name = y.name → J g (jRm fr lo mc ms) E nL 0 lv [] bl 0 0) : Con g y cc nL ret fr lo mc ms av bl Post := by
  intro sz
  refine MetFree.of_bodySF (code := cc) (maxLocals := nL) (ret := ret) hy ?_ ?_
  · intro args s m h hn
    obtain ⟨meth, c, h1, h2, h3, h4, h5, h6, -, -⟩ := Cond.code_spec hn (atoms_spec (ws := jWs y cc nL ret) h _ List.mem_cons_self)
    exact ⟨meth, c, h1, h2, h3, h4, h5, h6⟩
  · intro p e s m args below meth c s₁ B hml hv _
    have hh0 : s₁.heap = s.heap := by rw [B.state]; rfl
    obtain ⟨rfl, hsz, hP, hK⟩ := hv
    subst hsz
    subst hown
    subst hlv
    have hts := atoms_spec (ws := jWs y cc nL ret) B.pre
    have h1 := body (p, e, s, m, av.toArray, below, meth, c, va_A bl.flatten s.heap.size, MQ below (jPost g s.heap.size bl Post) av.toArray s mc ms (va_A bl.flatten s.heap.size))
      ⟨B.exec, B.bytes, hml, findClass_of_methodNamed B.named, fun w h => hts w (List.mem_cons_of_mem _ h), hK, fun q h => Or.inr h, B.notSynchronized⟩ ⟨B.returns, rfl, rfl⟩ (name_of_methodNamed B.named B.method).1
    have hl := lv_entry av (n := nL) hlen
    rw [lg_entry_eq]
    obtain ⟨t, a1, o, b1, b2, b3⟩ := h1 s.heap [] _ hP.self va_S.rf hl s₁ hh0 (Stand.of_body B)
    exact ⟨t, o, a1, b1, b2, ⟨b3.1, b3.2⟩⟩
theorem kb_split {g : jG} {K : Nat → Option BV} {j : Nat} (hj : j < 8) : (kb g K).Perm (kb1 g (K j) ++ kb g (va_up K j none)) := by
  have key : ∀ l : List Nat, l.Nodup → j ∈ l → (l.flatMap (fun i => kb1 g (K i))).Perm (kb1 g (K j) ++ l.flatMap (fun i => kb1 g (va_up K j none i))) := by
    intro l
    induction l with
    | nil => intro _ h; cases h
    | cons a t ih =>
      intro hn hm
      rw [List.nodup_cons] at hn
      rw [List.flatMap_cons, List.flatMap_cons]
      by_cases ha : a = j
      · subst ha
        have e : t.flatMap (fun i => kb1 g (K i)) = t.flatMap (fun i => kb1 g (va_up K a none i)) := by
          apply jfm
          intro i hi
          show kb1 g (K i) = kb1 g (if i = a then none else K i)
          rw [if_neg (fun q => hn.1 (by rw [← q]; exact hi))]
        rw [e, show va_up K a none a = none by unfold va_up; rw [if_pos rfl]]
        exact List.Perm.refl _
      · have hm2 : j ∈ t := by
          rcases List.mem_cons.mp hm with h | h
          · exact absurd h.symm ha
          · exact h
        have h1 := (ih hn.2 hm2).append_left (kb1 g (K a))
        refine h1.trans ?_
        rw [show va_up K j none a = K a by unfold va_up; rw [if_neg ha]]
        exact List.perm_append_comm_assoc _ _ _
  exact key (List.range 8) List.nodup_range (List.mem_range.mpr hj)
theorem kb_put {g : jG} {K : Nat → Option BV} {j : Nat} {V : BV} (hj : j < 8) : (bcs g V ++ kb g (va_up K j none)).Perm (kb g (va_up K j (some V))) := by
  have h := (kb_split (g := g) (K := va_up K j (some V)) hj).symm
  have e : va_up (va_up K j (some V)) j none = va_up K j none := by
    funext i
    unfold va_up
    by_cases q : i = j
    · rw [if_pos q, if_pos q]
    · rw [if_neg q, if_neg q, if_neg q]
  rw [e, show va_up K j (some V) j = some V by unfold va_up; rw [if_pos rfl]] at h
  exact h
theorem kr_put {K : Nat → Option BV} {j : Nat} {V : BV} : va_up (kr K) j (some (V.1 0)) = kr (va_up K j (some V)) := by
  funext i
  show (if i = j then some (V.1 0) else (K i).map (fun V => V.1 0)) = (if i = j then some V else K i).map (fun V => V.1 0)
  by_cases q : i = j
  · rw [if_pos q, if_pos q]; rfl
  · rw [if_neg q, if_neg q]
theorem va_up_same {α : Type} {f : Nat → α} {j : Nat} {v : α} (h : f j = v) : va_up f j v = f := by
  funext i
  unfold va_up
  by_cases q : i = j
  · rw [if_pos q, q, h]
  · rw [if_neg q]
def fmodJ (x y : Int32) : Int32 := if ¬ 0 ≤ x ^^^ y ∧ ¬ x - x / y * y = 0 then x - x / y * y + y else x - x / y * y
theorem fmod8 : ∀ j, j < 8 → fmodJ (nI j) 8 = nI j := by decide
theorem rem8 : ∀ j, j < 17 → nI j - nI j / 8 * 8 = nI (j % 8) := by decide
theorem min8 : ∀ j, j < 10 → (if (8 : Int32) < nI j then 8 else nI j) = nI (min j 8) := by decide
set_option maxHeartbeats 1000000 in
set_option maxRecDepth 100000 in
theorem c_X0_init (g : jG) (a : Nat) : Con g yX0_init cX0_init 1 none 1 16 4 25 [.ref a] [[(a, .inr (0, [.null, .int 0, .null, .null, .int 0, .int 0, .int 0, .null, .int 0, .int 0]))]] (fun r b => r = none ∧ ∃ d : Nat → Nat, d 0 = a ∧ b = [bc g d newI newA (lrf [])]) := by
  refine Con.of (own := RX0) (lv := [(0, .ref a)]) (by decide) rfl (Nat.le_of_ble_eq_true rfl) rfl ?_
  intro E hC hQ hN
  refine j_aload_n hC dX0_init_0 rfl rfl ?_
  refine j_objInit hC k45 k20 k21 (Nat.le_of_ble_eq_true rfl) (Nat.le_of_ble_eq_true rfl) dX0_init_1 ?_
  refine j_aload_n hC dX0_init_4 rfl rfl ?_
  refine j_bipush hC (10) dX0_init_5 (by decide) ?_
  refine j_newq hC 4 10 rfl hC.2.2.2.2.2.1.2.2.2 k46 (by decide) (by decide) (by decide) (Nat.le_of_ble_eq_true rfl) (Nat.le_of_ble_eq_true rfl) dX0_init_7 (fun q_7 => ?_)
  dsimp only [List.cons_append, List.nil_append]
  refine j_putF hC hN uX0 (bi := 0) (bj := 0) (kf := 0) rfl rfl (by decide) k48 rfl rfl rfl rfl (Nat.le_of_ble_eq_true rfl) dX0_init_10 ?_
  dsimp only [List.set]
  refine j_aload_n hC dX0_init_13 rfl rfl ?_
  refine j_bipush hC (6) dX0_init_14 (by decide) ?_
  refine j_newa hC 1 6 rfl rfl k89 (fun _ => rfl) (by decide) (by decide) (by decide) (Nat.le_of_ble_eq_true rfl) (Nat.le_of_ble_eq_true rfl) dX0_init_16 (fun q_16 => ?_)
  dsimp only [List.cons_append, List.nil_append]
  refine j_putF hC hN uX0 (bi := 0) (bj := 0) (kf := 2) rfl rfl (by decide) k53 rfl rfl rfl rfl (Nat.le_of_ble_eq_true rfl) dX0_init_18 ?_
  dsimp only [List.set]
  refine j_aload_n hC dX0_init_21 rfl rfl ?_
  refine j_bipush hC (6) dX0_init_22 (by decide) ?_
  refine j_newa hC 1 6 rfl rfl k89 (fun _ => rfl) (by decide) (by decide) (by decide) (Nat.le_of_ble_eq_true rfl) (Nat.le_of_ble_eq_true rfl) dX0_init_24 (fun q_24 => ?_)
  dsimp only [List.cons_append, List.nil_append]
  refine j_putF hC hN uX0 (bi := 0) (bj := 0) (kf := 3) rfl rfl (by decide) k54 rfl rfl rfl rfl (Nat.le_of_ble_eq_true rfl) dX0_init_26 ?_
  dsimp only [List.set]
  refine j_aload_n hC dX0_init_29 rfl rfl ?_
  refine j_bipush hC (60) dX0_init_30 (by decide) ?_
  refine j_put hC uX0 (bi := 0) (bj := 0) (kf := 5) rfl rfl (by decide) k58 rfl rfl rfl (Nat.le_of_ble_eq_true rfl) dX0_init_32 ?_
  dsimp only [List.set]
  refine j_aload_n hC dX0_init_35 rfl rfl ?_
  refine j_iconst hC (3) dX0_init_36 (by decide) ?_
  refine j_newa hC 1 3 rfl rfl k89 (fun _ => rfl) (by decide) (by decide) (by decide) (Nat.le_of_ble_eq_true rfl) (Nat.le_of_ble_eq_true rfl) dX0_init_37 (fun q_37 => ?_)
  dsimp only [List.cons_append, List.nil_append]
  refine j_putF hC hN uX0 (bi := 0) (bj := 0) (kf := 7) rfl rfl (by decide) k63 rfl rfl rfl rfl (Nat.le_of_ble_eq_true rfl) dX0_init_39 ?_
  dsimp only [List.set]
  refine j_eqfl [bc g (fun i => match i with | 0 => a | 1 => q_7 | 2 => q_16 | 3 => q_24 | _ => q_37) newI newA (lrf [])] rfl ?_
  refine j_vret hC hQ rfl (Nat.le_of_ble_eq_true rfl) (Nat.le_of_ble_eq_true rfl) dX0_init_42 rfl ?_
  exact ⟨rfl, _, rfl, rfl⟩
set_option maxHeartbeats 1000000 in
set_option maxRecDepth 100000 in
theorem c_X1_init (g : jG) (a : Nat) : Con g yX1_init cX1_init 1 none 1 16 1 8 [.ref a] [[(a, .inr (1, [.null, .int 0, .int 0]))]] (fun r b => r = none ∧ ∃ d : Nat → Nat, d 0 = a ∧ b = [hc g d (fun _ => 0) (kr (fun _ => none))]) := by
  refine Con.of (own := RX1) (lv := [(0, .ref a)]) (by decide) rfl (Nat.le_of_ble_eq_true rfl) rfl ?_
  intro E hC hQ hN
  refine j_aload_n hC dX1_init_0 rfl rfl ?_
  refine j_objInit hC k95 k20 k21 (Nat.le_of_ble_eq_true rfl) (Nat.le_of_ble_eq_true rfl) dX1_init_1 ?_
  refine j_aload_n hC dX1_init_4 rfl rfl ?_
  refine j_bipush hC (8) dX1_init_5 (by decide) ?_
  refine j_newq hC 3 8 rfl hC.2.2.2.2.2.1.2.2.1 k96 (by decide) (by decide) (by decide) (Nat.le_of_ble_eq_true rfl) (Nat.le_of_ble_eq_true rfl) dX1_init_7 (fun q_7 => ?_)
  dsimp only [List.cons_append, List.nil_append]
  refine j_putF hC hN uX1 (bi := 0) (bj := 0) (kf := 0) rfl rfl (by decide) k98 rfl rfl rfl rfl (Nat.le_of_ble_eq_true rfl) dX1_init_10 ?_
  dsimp only [List.set]
  refine j_eqfl [hc g (fun i => match i with | 0 => a | _ => q_7) (fun _ => 0) (kr (fun _ => none))] rfl ?_
  refine j_vret hC hQ rfl (Nat.le_of_ble_eq_true rfl) (Nat.le_of_ble_eq_true rfl) dX1_init_13 rfl ?_
  exact ⟨rfl, _, rfl, rfl⟩
set_option maxHeartbeats 1000000 in
set_option maxRecDepth 100000 in
theorem c_X3_init (g : jG) (a : Nat) : Con g yX3_init cX3_init 1 none 1 16 2 1034 [.ref a] [[(a, .inr (3, [.null, .null, .int 0, .int 0]))]] (fun r b => r = none ∧ ∃ d : Nat → Nat, d 0 = a ∧ b = [pcc g d (fun _ => 0) (fun _ _ => 0)]) := by
  refine Con.of (own := RX3) (lv := [(0, .ref a)]) (by decide) rfl (Nat.le_of_ble_eq_true rfl) rfl ?_
  intro E hC hQ hN
  refine j_aload_n hC dX3_init_0 rfl rfl ?_
  refine j_objInit hC k127 k20 k21 (Nat.le_of_ble_eq_true rfl) (Nat.le_of_ble_eq_true rfl) dX3_init_1 ?_
  refine j_aload_n hC dX3_init_4 rfl rfl ?_
  refine j_sipush hC (1024) dX3_init_5 (by decide) ?_
  refine j_newa hC 0 1024 rfl rfl k39 (fun _ => rfl) (by decide) (by decide) (by decide) (Nat.le_of_ble_eq_true rfl) (Nat.le_of_ble_eq_true rfl) dX3_init_8 (fun q_8 => ?_)
  dsimp only [List.cons_append, List.nil_append]
  refine j_putF hC hN uX3 (bi := 0) (bj := 0) (kf := 0) rfl rfl (by decide) k128 rfl rfl rfl rfl (Nat.le_of_ble_eq_true rfl) dX3_init_10 ?_
  dsimp only [List.set]
  refine j_aload_n hC dX3_init_13 rfl rfl ?_
  refine j_bipush hC (10) dX3_init_14 (by decide) ?_
  refine j_newa hC 1 10 rfl rfl k89 (fun _ => rfl) (by decide) (by decide) (by decide) (Nat.le_of_ble_eq_true rfl) (Nat.le_of_ble_eq_true rfl) dX3_init_16 (fun q_16 => ?_)
  dsimp only [List.cons_append, List.nil_append]
  refine j_putF hC hN uX3 (bi := 0) (bj := 0) (kf := 1) rfl rfl (by decide) k129 rfl rfl rfl rfl (Nat.le_of_ble_eq_true rfl) dX3_init_18 ?_
  dsimp only [List.set]
  refine j_eqfl [pcc g (fun i => match i with | 0 => a | 1 => q_8 | _ => q_16) (fun _ => 0) (fun _ _ => 0)] rfl ?_
  refine j_vret hC hQ rfl (Nat.le_of_ble_eq_true rfl) (Nat.le_of_ble_eq_true rfl) dX3_init_21 rfl ?_
  exact ⟨rfl, _, rfl, rfl⟩
set_option maxHeartbeats 1000000 in
set_option maxRecDepth 100000 in
theorem c_X4_init (g : jG) (a : Nat) : Con g yX4_init cX4_init 1 none 1 16 2 402 [.ref a] [[(a, .inr (4, [.null, .null]))]] (fun r b => r = none ∧ ∃ d : Nat → Nat, d 0 = a ∧ b = [rc g d (fun _ _ => 0)]) := by
  refine Con.of (own := RX4) (lv := [(0, .ref a)]) (by decide) rfl (Nat.le_of_ble_eq_true rfl) rfl ?_
  intro E hC hQ hN
  refine j_aload_n hC dX4_init_0 rfl rfl ?_
  refine j_objInit hC k114 k20 k21 (Nat.le_of_ble_eq_true rfl) (Nat.le_of_ble_eq_true rfl) dX4_init_1 ?_
  refine j_aload_n hC dX4_init_4 rfl rfl ?_
  refine j_sipush hC (201) dX4_init_5 (by decide) ?_
  refine j_newa hC 1 201 rfl rfl k89 (fun _ => rfl) (by decide) (by decide) (by decide) (Nat.le_of_ble_eq_true rfl) (Nat.le_of_ble_eq_true rfl) dX4_init_8 (fun q_8 => ?_)
  dsimp only [List.cons_append, List.nil_append]
  refine j_putF hC hN uX4 (bi := 0) (bj := 0) (kf := 0) rfl rfl (by decide) k115 rfl rfl rfl rfl (Nat.le_of_ble_eq_true rfl) dX4_init_10 ?_
  dsimp only [List.set]
  refine j_aload_n hC dX4_init_13 rfl rfl ?_
  refine j_sipush hC (201) dX4_init_14 (by decide) ?_
  refine j_newa hC 1 201 rfl rfl k89 (fun _ => rfl) (by decide) (by decide) (by decide) (Nat.le_of_ble_eq_true rfl) (Nat.le_of_ble_eq_true rfl) dX4_init_17 (fun q_17 => ?_)
  dsimp only [List.cons_append, List.nil_append]
  refine j_putF hC hN uX4 (bi := 0) (bj := 0) (kf := 1) rfl rfl (by decide) k116 rfl rfl rfl rfl (Nat.le_of_ble_eq_true rfl) dX4_init_19 ?_
  dsimp only [List.set]
  refine j_eqfl [rc g (fun i => match i with | 0 => a | 1 => q_8 | _ => q_17) (fun _ _ => 0)] rfl ?_
  refine j_vret hC hQ rfl (Nat.le_of_ble_eq_true rfl) (Nat.le_of_ble_eq_true rfl) dX4_init_22 rfl ?_
  exact ⟨rfl, _, rfl, rfl⟩
set_option maxHeartbeats 1000000 in
set_option maxRecDepth 100000 in
theorem c_X5_init (g : jG) (a : Nat) : Con g yX5_init cX5_init 1 none 1 16 1 80 [.ref a] [[(a, .inr (5, [.null, .int 0, .int 0, .int 0]))]] (fun r b => r = none ∧ ∃ d : Nat → Nat, d 0 = a ∧ b = [tc g d (fun _ => 0) (fun _ => 0)]) := by
  refine Con.of (own := RX5) (lv := [(0, .ref a)]) (by decide) rfl (Nat.le_of_ble_eq_true rfl) rfl ?_
  intro E hC hQ hN
  refine j_aload_n hC dX5_init_0 rfl rfl ?_
  refine j_objInit hC k27 k20 k21 (Nat.le_of_ble_eq_true rfl) (Nat.le_of_ble_eq_true rfl) dX5_init_1 ?_
  refine j_aload_n hC dX5_init_4 rfl rfl ?_
  refine j_bipush hC (80) dX5_init_5 (by decide) ?_
  refine j_newa hC 0 80 rfl rfl k39 (fun _ => rfl) (by decide) (by decide) (by decide) (Nat.le_of_ble_eq_true rfl) (Nat.le_of_ble_eq_true rfl) dX5_init_7 (fun q_7 => ?_)
  dsimp only [List.cons_append, List.nil_append]
  refine j_putF hC hN uX5 (bi := 0) (bj := 0) (kf := 0) rfl rfl (by decide) k28 rfl rfl rfl rfl (Nat.le_of_ble_eq_true rfl) dX5_init_9 ?_
  dsimp only [List.set]
  refine j_eqfl [tc g (fun i => match i with | 0 => a | _ => q_7) (fun _ => 0) (fun _ => 0)] rfl ?_
  refine j_vret hC hQ rfl (Nat.le_of_ble_eq_true rfl) (Nat.le_of_ble_eq_true rfl) dX5_init_12 rfl ?_
  exact ⟨rfl, _, rfl, rfl⟩
set_option maxHeartbeats 1000000 in
set_option maxRecDepth 100000 in
theorem c_J9_floorMod_7cf53 (g : jG) (x y : Int32) (hy : ¬ y = 0) : Con g yJ9_floorMod_7cf53 cJ9_floorMod_7cf53 3 (some .int) 0 0 0 0 [.int x, .int y] [] (jR (some (.int (fmodJ x y))) []) := by
  refine Con.ofF (own := RJ9) (lv := [(0, .int x), (1, .int y)]) (by decide +kernel) rfl (Nat.le_of_ble_eq_true rfl) rfl ?_
  intro E hC hQ hN
  refine j_iload_n hC dJ9_floorMod_7cf53_0 rfl rfl ?_
  refine j_iload_n hC dJ9_floorMod_7cf53_1 rfl rfl ?_
  refine j_irem hC dJ9_floorMod_7cf53_2 (by assumption) ?_
  refine j_istore_n hC dJ9_floorMod_7cf53_3 rfl rfl rfl rfl (fun v_3 e_3 => ?_)
  refine j_iload_n hC dJ9_floorMod_7cf53_4 rfl rfl ?_
  refine j_iload_n hC dJ9_floorMod_7cf53_5 rfl rfl ?_
  refine j_ixor hC dJ9_floorMod_7cf53_6 ?_
  refine j_if_ge hC dJ9_floorMod_7cf53_7 (tgt := 18) (by decide) (fun c_7 => ?_) (fun c_7 => ?_)
  · skip
    refine j_iload_n hC dJ9_floorMod_7cf53_18 rfl rfl ?_
    refine j_iret hC hQ rfl rfl (Nat.le_of_ble_eq_true rfl) (Nat.le_of_ble_eq_true rfl) dJ9_floorMod_7cf53_19 rfl ⟨?_, ?_⟩
    · (subst_vars; unfold fmodJ; simp [*])
    · rfl
  · skip
    refine j_iload_n hC dJ9_floorMod_7cf53_10 rfl rfl ?_
    refine j_if_eq hC dJ9_floorMod_7cf53_11 (tgt := 18) (by decide) (fun c_11 => ?_) (fun c_11 => ?_)
    · skip
      refine j_iload_n hC dJ9_floorMod_7cf53_18 rfl rfl ?_
      refine j_iret hC hQ rfl rfl (Nat.le_of_ble_eq_true rfl) (Nat.le_of_ble_eq_true rfl) dJ9_floorMod_7cf53_19 rfl ⟨?_, ?_⟩
      · (subst_vars; unfold fmodJ; simp [*])
      · rfl
    · skip
      refine j_iload_n hC dJ9_floorMod_7cf53_14 rfl rfl ?_
      refine j_iload_n hC dJ9_floorMod_7cf53_15 rfl rfl ?_
      refine j_iadd hC dJ9_floorMod_7cf53_16 ?_
      refine j_iret hC hQ rfl rfl (Nat.le_of_ble_eq_true rfl) (Nat.le_of_ble_eq_true rfl) dJ9_floorMod_7cf53_17 rfl ⟨?_, ?_⟩
      · (subst_vars; unfold fmodJ; simp [*])
      · rfl
theorem dft0 : ∀ j, j < 10 → defaultValue (tyX0 j) = vp_V [.null, .int 0, .null, .null, .int 0, .int 0, .int 0, .null, .int 0, .int 0] j := by
  intro j hj
  match j, hj with
  | 0, _ => rfl
  | 1, _ => rfl
  | 2, _ => rfl
  | 3, _ => rfl
  | 4, _ => rfl
  | 5, _ => rfl
  | 6, _ => rfl
  | 7, _ => rfl
  | 8, _ => rfl
  | 9, _ => rfl
  | n + 10, h => exact absurd h (by omega)
set_option maxHeartbeats 1000000 in
set_option maxRecDepth 100000 in
theorem c_X1_slot (g : jG) (d : Nat → Nat) (I : jF) (K : Nat → Option BV) (j : Nat) (x : Int32) (hj : j < 8) (hx : x = nI j) : Con g yX1_slot cX1_slot 4 (some (.object "EscapeLights$Building")) 2 36 5 35 [.ref (d 0), .int x] [hc g d I (kr K), kb g K] (fun r b => ∃ V : BV, r = some (.ref (V.1 0)) ∧ b = [hc g d I (kr (va_up K j (some V))), kb g (va_up K j (some V))] ∧ (K j = some V ∨ (K j = none ∧ V.2.2.2 = []))) := by
  refine Con.of (own := RX1) (lv := [(0, .ref (d 0)), (1, .int x)]) (by decide) rfl (Nat.le_of_ble_eq_true rfl) rfl ?_
  intro E hC hQ hN
  refine j_iload_n hC dX1_slot_0 rfl rfl ?_
  refine j_bipush hC (8) dX1_slot_1 (by decide) ?_
  refine j_callSR hC [] (c_J9_floorMod_7cf53 g _ _ (by decide)) mJ9_floorMod_7cf53 k231 rfl rfl rfl ⟨(Nat.le_of_ble_eq_true rfl), (Nat.le_of_ble_eq_true rfl)⟩ (Nat.le_of_ble_eq_true rfl) ⟨(Nat.le_of_ble_eq_true rfl), (Nat.le_of_ble_eq_true rfl)⟩ dX1_slot_3 ?_
  dsimp only [jrepl, List.set, jstk]
  refine j_istore_n hC dX1_slot_6 rfl rfl rfl rfl (fun v_6 e_6 => ?_)
  refine j_aload_n hC dX1_slot_7 rfl rfl ?_
  refine j_get hC uX1 0 0 0 rfl rfl k98 rfl dX1_slot_8 ?_
  refine j_iload_n hC dX1_slot_11 rfl rfl ?_
  refine j_aald hC 3 0 1 rfl rfl (by rw [e_6, hx]; show vp_in (fmodJ (nI j) 8) 8; rw [fmod8 j hj]; exact vp_in_nI hj (by decide)) dX1_slot_12 ?_
  rcases hK : K j with _ | V
  · skip
    rw [show va_rf (kr K v_6.toNatClampNeg) = .null by rw [show v_6 = nI j by rw [e_6, hx]; exact fmod8 j hj, nI_cl (by omega)]; unfold kr; rw [hK]; rfl]
    refine j_astore_nN hC dX1_slot_13 rfl rfl rfl rfl ?_
    refine j_aload_nN hC dX1_slot_14 rfl rfl ?_
    refine j_ifnonnullN hC dX1_slot_15 ?_
    refine j_new hC uX0 (fs := [.null, .int 0, .null, .null, .int 0, .int 0, .int 0, .null, .int 0, .int 0]) dft0 k96 k41 k8 (Nat.le_of_ble_eq_true rfl) (Nat.le_of_ble_eq_true rfl) dX1_slot_18 (fun q => ?_)
    dsimp only [List.cons_append, List.nil_append]
    refine j_dup hC dX1_slot_21 rfl ?_
    refine j_callIN hC [2] (c_X0_init g _) mX0_init k234 rfl rfl rfl ⟨(Nat.le_of_ble_eq_true rfl), (Nat.le_of_ble_eq_true rfl)⟩ (Nat.le_of_ble_eq_true rfl) ⟨(Nat.le_of_ble_eq_true rfl), (Nat.le_of_ble_eq_true rfl)⟩ dX1_slot_22 (fun r_22 b_22 hp_22 _ => ?_)
    obtain ⟨rfl, d2, hd2, rfl⟩ := hp_22
    dsimp only [jrepl, List.set, jstk]
    subst hd2
    refine j_astore_n hC dX1_slot_25 rfl rfl rfl rfl ?_
    refine j_aload_n hC dX1_slot_26 rfl rfl ?_
    refine j_get hC uX1 0 0 0 rfl rfl k98 rfl dX1_slot_27 ?_
    refine j_iload_n hC dX1_slot_30 rfl rfl ?_
    refine j_aload_n hC dX1_slot_31 rfl rfl ?_
    refine j_aast_1 (bi := 0) hC rfl (jat_flat (bl := [hc g d I (kr K), kb g K, bc g d2 newI newA (lrf [])]) (bi := 2) (bj := 0) rfl) (by rw [e_6, hx]; show vp_in (fmodJ (nI j) 8) 8; rw [fmod8 j hj]; exact vp_in_nI hj (by decide)) dX1_slot_32 ?_
    dsimp only [List.set]
    rw [show v_6 = nI j by rw [e_6, hx]; exact fmod8 j hj, nI_cl (show j < 2 ^ 31 by omega)]
    refine j_perm (bl' := [hc g d I (kr (va_up K j (some (d2, newI, newA, [])))), kb g (va_up K j (some (d2, newI, newA, [])))]) ?_ ?_
    · rw [show va_up (kr K) j (some (d2 0)) = kr (va_up K j (some (d2, newI, newA, []))) from kr_put (V := (d2, newI, newA, []))]; simp only [List.flatten_cons, List.flatten_nil, List.append_nil]; refine List.Perm.append_left _ (List.perm_append_comm.trans ?_); have h1 := kb_put (g := g) (K := K) (V := (d2, newI, newA, [])) hj; rw [va_up_same hK] at h1; simpa [bcs, lts] using h1
    refine j_aload_n hC dX1_slot_33 rfl rfl ?_
    refine j_aret hC hQ rfl (by first | exact Or.inl rfl | exact Or.inr ⟨_, rfl⟩) (Nat.le_of_ble_eq_true rfl) (Nat.le_of_ble_eq_true rfl) dX1_slot_34 rfl ?_
    first | exact ⟨V, rfl, by rw [va_up_same hK], Or.inl hK⟩ | exact ⟨(d2, newI, newA, []), rfl, rfl, Or.inr ⟨hK, rfl⟩⟩
  · skip
    rw [show va_rf (kr K v_6.toNatClampNeg) = .ref (V.1 0) by rw [show v_6 = nI j by rw [e_6, hx]; exact fmod8 j hj, nI_cl (by omega)]; unfold kr; rw [hK]; rfl]
    refine j_astore_n hC dX1_slot_13 rfl rfl rfl rfl ?_
    refine j_aload_n hC dX1_slot_14 rfl rfl ?_
    refine j_ifnonnull hC dX1_slot_15 (tgt := 33) (by decide) ?_
    refine j_aload_n hC dX1_slot_33 rfl rfl ?_
    refine j_aret hC hQ rfl (by first | exact Or.inl rfl | exact Or.inr ⟨_, rfl⟩) (Nat.le_of_ble_eq_true rfl) (Nat.le_of_ble_eq_true rfl) dX1_slot_34 rfl ?_
    first | exact ⟨V, rfl, by rw [va_up_same hK], Or.inl hK⟩ | exact ⟨(d2, newI, newA, []), rfl, rfl, Or.inr ⟨hK, rfl⟩⟩
