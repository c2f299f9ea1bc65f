/-! ===== what the constructors make agrees ===== -/
theorem rs0 : RS cs0 (fun _ => 0) := by
  refine ⟨0, 0, 0, fun _ => 0, 0, fun _ => 0, fun _ => 0, fun _ => 0, fun _ _ => 0, fun _ => 0, rfl, rfl, ⟨rfl, rfl, by omega, ⟨by omega, fun k hk => absurd hk (Nat.not_lt_zero k)⟩, fun i hi => absurd hi (by omega)⟩, ⟨by omega, rfl, fun k hk => absurd hk (Nat.not_lt_zero k)⟩, by omega, rfl, fun j hj => absurd hj (Nat.not_lt_zero j)⟩
abbrev aN (h : Nat) (u : Nat → Nat) : Nat → Nat := fun i => ([h, u 16, u 17, u 98, u 99, u 100, u 101, u 102, u 103] : List Nat).getD i 0
abbrev dN (u : Nat → Nat) : Nat → Nat → Nat := fun j i => u (18 + 16 * j + i)
abbrev zNn (h : Nat) (u : Nat → Nat) : Nat → Nat := fun i => if i = 0 then h else u i
set_option maxRecDepth 100000 in
theorem inv_0 (ca : Nat → ClassId) (h h2 : Nat) (u u2 : Nat → Nat) : Inv ca (aN h u) u (dN u) (zNn h2 u2) (nwX ca h u) (nwM ca h2 u2) 0 := by
  refine ⟨cs0, fun _ => cs0, 0, 0, 0, 0, 0, fun _ => 0, fun _ => 0, 0, fun _ => 0, fun _ => 0, fun _ => 0, fun _ => 0, fun _ => 0, 0, fun _ => 0, 0, 0, fun _ => 0, fun _ => 0, fun _ => 0, 0, rfl, rfl, rs0, ⟨by omega, by omega, fun a ha => absurd ha (Nat.not_lt_zero a)⟩, by omega, fun i hi => absurd hi (Nat.not_lt_zero i)⟩
