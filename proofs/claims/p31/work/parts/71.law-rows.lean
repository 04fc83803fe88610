/-! the law: what the machine gives at its start -/
set_option maxHeartbeats 2000000 in
theorem law_K {A : Array Value} {s : State} (l : Launch) (hts : ∀ w ∈ lw_tbl, w.before A s = true) : ∃ (D : va_G) (tC : Nat → ClassId), jK (l, D, tC) s := by
  have ht : ∀ w ∈ jT, w.before A s = true := fun w h => hts w (jT_sub w h)
  obtain ⟨c0, i0, h0⟩ := u_known (ws := jT) ht uX0.1 (ht _ k41)
  obtain ⟨c1, i1, h1⟩ := u_known (ws := jT) ht uX1.1 (ht _ k91)
  obtain ⟨c2, i2, h2⟩ := u_known (ws := jT) ht uX2.1 (ht _ k248)
  obtain ⟨c3, i3, h3⟩ := u_known (ws := jT) ht uX3.1 (ht _ k123)
  obtain ⟨c4, i4, h4⟩ := u_known (ws := jT) ht uX4.1 (ht _ k110)
  obtain ⟨c5, i5, h5⟩ := u_known (ws := jT) ht uX5.1 (ht _ k23)
  obtain ⟨c6, i6, h6⟩ := u_known (ws := jT) ht uX6.1 (ht _ k15)
  obtain ⟨ab, kb, mb, xb1, xb2, xb3⟩ := Cond.arrayClass_spec (ht _ k39)
  obtain ⟨an, kn, mn, xn1, xn2, xn3⟩ := Cond.arrayClass_spec (ht _ k89)
  obtain ⟨az, kz, mz, xz1, xz2, xz3⟩ := Cond.arrayClass_spec (ht _ k89)
  obtain ⟨mu, au, ku, xu1, -, xu2, xu3, xu4⟩ := Cond.arrayOver_spec (hts _ k97)
  obtain ⟨mw, aw, kw, xw1, -, xw2, xw3, xw4⟩ := Cond.arrayOver_spec (hts _ k47)
  refine ⟨(fun k => match k with | 0 => c0 | 1 => c1 | 2 => c2 | 3 => c3 | 4 => c4 | 5 => c5 | _ => c6, fun k => match k with | 0 => i0 | 1 => i1 | 2 => i2 | 3 => i3 | 4 => i4 | 5 => i5 | _ => i6), fun k => match k with | 0 => ab | 1 => an | 2 => az | 3 => au | _ => aw, ⟨fun c q hq => ?_, fun k q hk => ?_⟩, fun w hw => ?_, va_AO.of (hts _ k97), va_AO.of (hts _ k47)⟩
  · match c, hq with
    | 0, hq => cases hq; exact h0
    | 1, hq => cases hq; exact h1
    | 2, hq => cases hq; exact h2
    | 3, hq => cases hq; exact h3
    | 4, hq => cases hq; exact h4
    | 5, hq => cases hq; exact h5
    | 6, hq => cases hq; exact h6
    | c + 7, hq => simp [vwCl] at hq
  · match k, hk with
    | 0, hk => cases hk; exact ⟨fun n z => ⟨fun k h => (by cases h), kb, xb2, mb, xb3⟩, xb1⟩
    | 1, hk => cases hk; exact ⟨fun n z => ⟨fun k h => (by cases h), kn, xn2, mn, xn3⟩, xn1⟩
    | 2, hk => cases hk; exact ⟨fun n z => ⟨fun k h => (by cases h), kz, xz2, mz, xz3⟩, xz1⟩
    | 3, hk => cases hk; exact ⟨fun n z => ⟨fun k h => (by cases h), ku, xu2, mu, xu3⟩, ku, mu, xu2, xu3, xu1, xu4⟩
    | 4, hk => cases hk; exact ⟨fun n z => ⟨fun k h => (by cases h), kw, xw2, mw, xw3⟩, kw, mw, xw2, xw3, xw1, xw4⟩
    | k + 5, hk => simp [jTys] at hk
  · have h5 := (List.mem_filter.mp hw).2
    have h6 := hts w (List.mem_filter.mp hw).1
    cases w with
    | methodLinkNest a i x h => exact va_Nw.of rfl h6
    | _ => cases h5
abbrev lawE (p : Program) (e : Env) (s : State) (m : MethodId) (below : List Frame) (meth : Method) (c : Code) (b : Nat) : jE := (p, e, s, m, #[Value.ref b], below, meth, c, (fun q => s.heap.size ≤ q), lw_Z below #[Value.ref b] s)
theorem law_end {g : jG} {p : Program} {e : Env} {s : State} {m : MethodId} {below : List Frame} {meth : Method} {c : Code} {b : Nat} {lv : List (Nat × Value)} {bl : List va_W} {k n : Nat} (hC : jC g room_1 (lawE p e s m below meth c b) code RL 2) (hr : meth.sig.returnType = ret) (hk : k ≤ 600000) (hn : n ≤ 7302250) : J g room_1 (lawE p e s m below meth c b) 2 69 lv [.int 1] bl k n := by
  intro H locs ls hP hS hl
  refine va_forget (fun q hq => hS.2.2 q hq) ?_
  refine W.widen hk hn ?_
  exact lw_ret hC.1 hC.2.1 hr hC.2.2.2.2.2.2.2 dL_law_69
theorem ot_bad {T : St3} : oTest T 0 1 = (-1, T) := if_pos (Or.inl rfl)
