/-! the start is related -/
theorem W_start {N : Nat} : RelW N z0_iX z0_iR z0_iT z0_wT z0_tx z0_iB z0_lB z0_aB z0_iC z0_aC z0_iD z0_lD z0_aD z0_iE z0_aE z0_iK z0_lK z0_aK z0_iW z0_aW z0_iP z0_aP z0_iM z0_aM :=
  ⟨⟨0, rfl, rfl, ⟨by omega, fun j h => absurd h (by omega)⟩⟩, ⟨0, rfl, rfl, ⟨by omega, fun j h => absurd h (by omega)⟩⟩, rfl, rfl, ⟨0, 0, rfl, rfl, rfl, rfl, ⟨by omega, by omega, fun j h => absurd h (by omega), fun j h => absurd h (by omega)⟩⟩, rfl, Or.inl rfl⟩
