/-! the digest -/
theorem dys_10 {S : BS} (hk : (bLs S).length ≤ 10) (hr : ∀ r, r < (bRs S).length → raS S r ≤ rbS S r ∧ rbS S r ≤ 200) (h : dysN S < 99) : dysN S ≤ 10 := by
  have hl := full_lt (bLs S).length (by omega)
  have hd := alS_dcl hk (fun r hr' => (hr r hr').2)
  have hlow : ∀ l, 0 < l → l < 2 ^ (bLs S).length → alS S (lowb l) = true := by
    intro l h0 h1
    obtain ⟨i, hi, e⟩ := lowb_pow l (by omega) h0
    rw [e]
    by_cases q : alS S (2 ^ i) = true
    · exact q
    · refine absurd h ?_
      have hik : i < (bLs S).length := by
        rcases Nat.lt_or_ge i (bLs S).length with w | w
        · exact w
        · have e1 : 2 ^ (bLs S).length ≤ 2 ^ i := Nat.pow_le_pow_right (by decide) w
          have e2 := sub_le (lowb_facts l (by omega)).1
          omega
      have e3 := dP_bad hd q (2 ^ (bLs S).length - 1) hl (full_bit hik)
      unfold dysN
      omega
  have h1 := dP_le (N := 2 ^ (bLs S).length) (pow_1024 hk) hlow (2 ^ (bLs S).length - 1) (by have := Nat.two_pow_pos (bLs S).length; omega)
  have h2 := (cntb_facts (2 ^ (bLs S).length - 1) hl).1
  unfold dysN
  omega
def DN (S : BS) : Nat := if dysN S < 99 then dysN S else 0
theorem DN_le {S : BS} (h : dysN S < 99 → dysN S ≤ 10) : DN S ≤ 10 := by
  unfold DN
  by_cases q : dysN S < 99
  · rw [if_pos q]; exact h q
  · rw [if_neg q]; omega
theorem DN_lt {S : BS} {t : Nat} (h : dysN S < 99 → dysN S ≤ 10) (ht : t ≤ 10) (c : ¬ dysV S ≤ nI t) : t < DN S := by
  unfold dysV at c
  unfold DN
  by_cases q : dysN S < 99
  · rw [if_pos q] at c ⊢
    rw [nI_leI (by omega) (by omega)] at c
    omega
  · rw [if_neg q] at c
    refine absurd ?_ c
    rw [Int32.le_iff_toInt_le, nI_toInt (by omega), show (-9 : Int32).toInt = -9 by decide]
    omega
theorem DN_ge {S : BS} {t : Nat} (h : dysN S < 99 → dysN S ≤ 10) (ht : t ≤ 10) (c : dysV S ≤ nI t) : DN S ≤ t := by
  unfold dysV at c
  unfold DN
  by_cases q : dysN S < 99
  · rw [if_pos q] at c ⊢
    rw [nI_leI (by omega) (by omega)] at c
    exact c
  · rw [if_neg q]; omega
def dg1 (T : St3) (n : Nat) : Int64 := jiter (fun t h => 31 * h + (oTold T (nI t)).1.toInt64) 18752 n
def dgL (T : St3) (i : Nat) (h : Int64) (n : Nat) : Int64 := jiter (fun w h => 31 * h + (oLight T (nI i) (nI w)).1.toInt64) h n
def dg2 (T : St3) (n : Nat) : Int64 := jiter (fun i h => dgL T i h 13) (dg1 T 14) n
def dgR (T : St3) (i : Nat) (h : Int64) (n : Nat) : Int64 := jiter (fun w h => 31 * h + (oRouteAt T (nI i) (nI w)).1.toInt64) h n
def dg3 (T : St3) (n : Nat) : Int64 := jiter (fun i h => dgR T i h 7) (dg2 T (bLs T.1).length) n
def dg4 (T : St3) : Int64 := 31 * dg3 T (bRs T.1).length + (oDays T).1.toInt64
def dg5 (T : St3) (n : Nat) : Int64 := jiter (fun t h => 31 * h + (oDay T (nI t)).1.toInt64) (dg4 T) n
def dg6 (T : St3) (n : Nat) : Int64 := jiter (fun t h => 31 * (31 * h + (oReaching T (nI (5 * t)) 0).1.toInt64) + (oReaching T (nI (5 * t)) 1).1.toInt64) (dg5 T (DN T.1)) n
def oDigest (T : St3) : Int64 := dg6 T 41
theorem jit_0 {σ : Type} {f : Nat → σ → σ} {s : σ} : jiter f s 0 = s := rfl
theorem jit_s {σ : Type} {f : Nat → σ → σ} {s : σ} {n : Nat} : jiter f s (n + 1) = f n (jiter f s n) := rfl
theorem dg1_0 {T : St3} : dg1 T 0 = 18752 := by unfold dg1; rw [jit_0]
theorem dg1_s {T : St3} {n : Nat} : dg1 T (n + 1) = 31 * dg1 T n + (oTold T (nI n)).1.toInt64 := by unfold dg1; rw [jit_s]
theorem dgL_0 {T : St3} {i : Nat} {h : Int64} : dgL T i h 0 = h := by unfold dgL; rw [jit_0]
theorem dgL_s {T : St3} {i n : Nat} {h : Int64} : dgL T i h (n + 1) = 31 * dgL T i h n + (oLight T (nI i) (nI n)).1.toInt64 := by unfold dgL; rw [jit_s]
theorem dg2_0 {T : St3} : dg2 T 0 = dg1 T 14 := by unfold dg2; rw [jit_0]
theorem dg2_s {T : St3} {n : Nat} : dg2 T (n + 1) = dgL T n (dg2 T n) 13 := by unfold dg2; rw [jit_s]
theorem dgR_0 {T : St3} {i : Nat} {h : Int64} : dgR T i h 0 = h := by unfold dgR; rw [jit_0]
theorem dgR_s {T : St3} {i n : Nat} {h : Int64} : dgR T i h (n + 1) = 31 * dgR T i h n + (oRouteAt T (nI i) (nI n)).1.toInt64 := by unfold dgR; rw [jit_s]
theorem dg3_0 {T : St3} : dg3 T 0 = dg2 T (bLs T.1).length := by unfold dg3; rw [jit_0]
theorem dg3_s {T : St3} {n : Nat} : dg3 T (n + 1) = dgR T n (dg3 T n) 7 := by unfold dg3; rw [jit_s]
theorem dg5_0 {T : St3} : dg5 T 0 = 31 * dg3 T (bRs T.1).length + (oDays T).1.toInt64 := by unfold dg5; rw [jit_0]; unfold dg4; exact Eq.refl _
theorem dg5_s {T : St3} {n : Nat} : dg5 T (n + 1) = 31 * dg5 T n + (oDay T (nI n)).1.toInt64 := by unfold dg5; rw [jit_s]
theorem dg6_0 {T : St3} : dg6 T 0 = dg5 T (DN T.1) := by unfold dg6; rw [jit_0]
theorem dg6_s {T : St3} {n : Nat} : dg6 T (n + 1) = 31 * (31 * dg6 T n + (oReaching T (nI (5 * n)) 0).1.toInt64) + (oReaching T (nI (5 * n)) 1).1.toInt64 := by unfold dg6; rw [jit_s]
theorem oDig_e {T : St3} : oDigest T = dg6 T 41 := rfl
theorem oLight_2 {T : St3} {x w : Int32} : (oLight T x w).2 = T := by
  unfold oLight
  by_cases h : hLX x (bLs T.1).length ∧ ¬ w < 0 ∧ ¬ 12 < w
  · rw [if_pos h]
  · rw [if_neg h]
theorem oRouteAt_2 {T : St3} {x w : Int32} : (oRouteAt T x w).2 = T := by
  unfold oRouteAt
  by_cases h : hLX x (bRs T.1).length ∧ ¬ w < 0 ∧ ¬ 6 < w
  · rw [if_pos h]
  · rw [if_neg h]
theorem oDay_2 {T : St3} {x : Int32} : (oDay T x).2 = T := by
  unfold oDay
  by_cases h : 0 ≤ x
  · rw [if_pos h]
  · rw [if_neg h]
theorem oReaching_2 {T : St3} {x w : Int32} : (oReaching T x w).2 = T := by
  unfold oReaching
  by_cases h : okPlace x
  · rw [if_pos h]
  · rw [if_neg h]
theorem jcw_all {bl b1 : List va_W} (h : bl.length = 10) (h1 : b1.length = 10) : jrepl bl [0, 1, 2, 3, 4, 5, 6, 7, 8, 9] b1 = b1 := by
  match bl, h with
  | [x0, x1, x2, x3, x4, x5, x6, x7, x8, x9], _ =>
    match b1, h1 with
    | [y0, y1, y2, y3, y4, y5, y6, y7, y8, y9], _ => rfl
theorem j_callCW {g : jG} {R : Room} {E : jE} {cc : ByteArray} {own : String} {nL pc : Nat} {lv : List (Nat × Value)} {st : List Value} {bl : List va_W} {k n : Nat} {T : St3} (hC : jC g R E cc own nL) {y : MethodName} {cy : ByteArray} {nLy fr lo mc ms index a : Nat} {ret : Option FieldType} {As rest : List Value} {Post : Option Value → List va_W → Prop} (hW : CW g a T bl) (hcon : Con g y cy nLy ret fr lo mc ms (.ref a :: As) bl Post) (hM : jM y cy nLy ret As.length) (hlink : Cond.methodLink own index y ∈ jT) (hst : st = As.reverse ++ .ref a :: rest) (hcl : (vwCl[6]?).map (fun q => q.1) = some y.cls)
    (hR : fr + 1 ≤ R.frames ∧ 8 + (nLy + 11) + lo ≤ R.locals) (hcat : (rest.map fun v => v.category).sum ≤ 8) (hkn : k + mc ≤ R.cells ∧ n + ms ≤ R.slots) (hd : decode cc pc = .ok (.invokevirtual index, 3))
    (kk : ∀ (r : Option Value) (b1 : List va_W), Post r b1 → b1.length = bl.length → J g R E nL (pc + 3) lv (jstk r rest) b1 (k + mc) (n + ms)) : J g R E nL pc lv st bl k n := by
  obtain ⟨dt, dn, du, dh, dr, dp, It, ft, In, An, Xn, Iu, Au, Xu, Ih, K, Ar, Ip, Ap, e, hCI⟩ := hW
  have hlen : bl.length = 10 := by rw [e]; rfl
  refine j_callV hC [0, 1, 2, 3, 4, 5, 6, 7, 8, 9] hcon hM hlink hst (by rw [e]; rfl) rfl (ci := 6) (fs := [.ref (dt 0), .ref (dn 0), .ref (du 0), .ref (dh 0), .ref (dr 0), .ref (dp 0)]) (by rw [e]; rfl) hcl hR hcat hkn hd (fun r b1 hp hl => ?_)
  rw [jcw_all hlen (hl.trans hlen)]
  exact kk r b1 hp hl
theorem CW_len {g : jG} {a : Nat} {T : St3} {b : List va_W} (h : CW g a T b) : b.length = 10 := by
  obtain ⟨dt, dn, du, dh, dr, dp, It, ft, In, An, Xn, Iu, Au, Xu, Ih, K, Ar, Ip, Ap, e, -⟩ := h
  rw [e]; rfl
theorem nI_5 {x y : Int32} {t : Nat} (e : y = x + 5) (h : x = nI (5 * t)) : y = nI (5 * (t + 1)) := by
  rw [e, h, show 5 * (t + 1) = 5 * t + 5 by omega]
  exact nI_add (5 * t) 5
