/-! the class at its start -/
def S00 : BS := ([], [], 60, 0, (0, 0, 0), 0, 0)
def T00 : St3 := (S00, [], [])
theorem nI_z : (0 : Int32) = nI 0 := nI_0.symm
theorem isB_00 {d : Nat → Nat} : isB (d, newI, newA, []) S00 :=
  ⟨⟨⟨nI_z, Nat.le_refl 0, Nat.zero_le _⟩, nI_z, Nat.zero_le _, fun j hj => absurd hj (Nat.not_lt_zero j)⟩, fun j hj => absurd hj (Nat.not_lt_zero j), fun t ht => absurd ht (Nat.not_lt_zero t), rfl, rfl, rfl, rfl, rfl⟩
theorem chist_00 : chist (fun _ => 0) (fun _ => none) [] := ⟨0, by decide, nI_z, nI_z, Nat.zero_le _, fun i hi => absurd hi (Nat.not_lt_zero i), fun j V h => by cases h⟩
theorem ctext_00 {f : jF} : ctext (fun _ => 0) f [] := ⟨nI_z, Nat.zero_le _, fun i hi => absurd hi (Nat.not_lt_zero i)⟩
theorem CW_00 {g : jG} {a : Nat} {dt dn du dh dr dp : Nat → Nat} : CW g a T00 [xo a dt dn du dh dr dp, tc g dt (fun _ => 0) (fun _ => 0), bc g dn newI newA (lrf []), lts [], bc g du newI newA (lrf []), lts [], hc g dh (fun _ => 0) (kr (fun _ => none)), kb g (fun _ => none), rc g dr (fun _ _ => 0), pcc g dp (fun _ => 0) (fun _ _ => 0)] :=
  CW.mk ⟨isB_00, Nat.zero_le _, chist_00, ctext_00, by decide, rfl, Or.inl rfl⟩
