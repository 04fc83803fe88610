section JR2
variable {g : jG} {R : Room} {E : jE} {cc : ByteArray} {own : String} {nL pc : Nat} {lv : List (Nat × Value)} {st : List Value} {bl : List va_W} {k n : Nat}
theorem j_iincW (hC : jC g R E cc own nL) {i : Nat} {z : Int} {x : Int32} (v : Int32) (hd : decode cc pc = .ok (.iinc i z, 6)) (hg : lget lv i = some (.int x)) (hz : Int32.ofInt z = v) (hn : Nat.blt i nL = true) (ho : lord lv = true) (hf : lfree lv i = true) (kk : ∀ y : Int32, y = x + v → J g R E nL (pc + 6) (lset lv i (.int y)) st bl k n) : J g R E nL pc lv st bl k n := by
  intro H locs ls hP hS hl
  obtain ⟨q, hq⟩ := lget_pos hg
  exact lv_iincW hC.1 hC.2.1 hd hl hq (by rw [hz]) (Nat.le_of_ble_eq_true hn) rfl (fun ls' hl' => kk _ rfl H locs ls' hP hS (lset_has ho hf rfl hl'))
theorem j_eqfl (bl' : List va_W) (h : bl.flatten = bl'.flatten) (kk : J g R E nL pc lv st bl' k n) : J g R E nL pc lv st bl k n := j_perm (by rw [h]) kk
theorem lts_at {X : List (Nat × jF)} {i a bi : Nat} {L : jF} (hb : bl[bi]? = some (lts X)) (hX : X[i]? = some (a, L)) : ∃ q0 : Nat, bl.flatten[q0]? = some ((a, .inr (2, lf L)) : Nat × va_E) := by
  have h : (lts X)[i]? = some ((a, .inr (2, lf L)) : Nat × va_E) := by
    unfold lts
    rw [List.getElem?_map, hX]
    rfl
  obtain ⟨q0, h1, -⟩ := jflat hb h
  exact ⟨q0, h1⟩
theorem j_aast_0 (hC : jC g R E cc own nL) {d : Nat → Nat} {I : jF} {A : Nat → jF} {r : Nat → Option Nat} {bi v : Nat} {i : Int32} {vs : List Value} (hb : bl[bi]? = some (bc g d I A r)) (hv : ∃ q : Nat, bl.flatten[q]? = some ((v, .inr (2, vs)) : Nat × va_E)) (hin : vp_in i 10) (hd : decode cc pc = .ok (.aastore, 1)) (kk : J g R E nL (pc + 1) lv st (bl.set bi (bc g d I A (va_up r i.toNatClampNeg (some v)))) k n) : J g R E nL pc lv (.ref v :: .int i :: .ref (d 1) :: st) bl k n :=
  j_aast hC (bi2 := 0) (bj2 := 0) hb (bj := 1) rfl (t0 := 4) (r := (RX2, TX2, 9)) rfl hv rfl hin hd kk
theorem j_aast_1 (hC : jC g R E cc own nL) {d : Nat → Nat} {I : jF} {r : Nat → Option Nat} {bi v : Nat} {i : Int32} {vs : List Value} (hb : bl[bi]? = some (hc g d I r)) (hv : ∃ q : Nat, bl.flatten[q]? = some ((v, .inr (0, vs)) : Nat × va_E)) (hin : vp_in i 8) (hd : decode cc pc = .ok (.aastore, 1)) (kk : J g R E nL (pc + 1) lv st (bl.set bi (hc g d I (va_up r i.toNatClampNeg (some v)))) k n) : J g R E nL pc lv (.ref v :: .int i :: .ref (d 1) :: st) bl k n :=
  j_aast hC (bi2 := 0) (bj2 := 0) hb (bj := 1) rfl (t0 := 3) (r := (RX0, TX0, 10)) rfl hv rfl hin hd kk
theorem dft2 : ∀ j, j < 9 → defaultValue (tyX2 j) = vp_V (lf (fun _ => 0)) j := by
  intro j hj
  match j, hj with
  | 0, _ => rfl
  | 1, _ => rfl
  | 2, _ => rfl
  | 3, _ => rfl
  | 4, _ => rfl
  | 5, _ => rfl
  | 6, _ => rfl
  | 7, _ => rfl
  | 8, _ => rfl
  | n + 9, h => exact absurd h (by omega)
end JR2
