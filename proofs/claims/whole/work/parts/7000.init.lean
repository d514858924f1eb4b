/-! the constructors -/
theorem cy_same {s : State} {D : va_G} {tys : List (ClassId × FieldType)} {ty : FieldType} (hty : ∀ C, ty ≠ .object C) (hK : va_K D vwCl tys s) {i j : Nat} {c1 c2 : ClassId} (h1 : tys[i]? = some (c1, ty)) (h2 : tys[j]? = some (c2, ty)) : c1 = c2 := by
  have e1 := (hK.2 i _ h1).2
  have e2 := (hK.2 j _ h2).2
  cases ty with
  | object C => exact absurd rfl (hty C)
  | _ =>
    have e1 : s.vm.findClass _ = some c1 := e1
    have e2 : s.vm.findClass _ = some c2 := e2
    exact Option.some.inj (e1.symm.trans e2)
theorem dv_X0 : ∀ j, j < 15 → defaultValue (tyX0 j) = vp_V [.null, .int 0, .null, .int 0, .null, .int 0, .null, .int 0, .null, .int 0, .null, .int 0, .null, .int 0, .int 0] j := by decide +kernel
theorem dv_X1 : ∀ j, j < 10 → defaultValue (tyX1 j) = vp_V [.null, .null, .null, .null, .int 0, .null, .null, .null, .null, .int 0] j := by decide +kernel
theorem dv_X2 : ∀ j, j < 15 → defaultValue (tyX2 j) = vp_V [.null, .null, .int 0, .null, .null, .null, .null, .int 0, .null, .null, .null, .null, .null, .null, .int 0] j := by decide +kernel
theorem dv_X3 : ∀ j, j < 5 → defaultValue (tyX3 j) = vp_V [.null, .int 0, .null, .null, .int 0] j := by decide +kernel
theorem dv_X4 : ∀ j, j < 5 → defaultValue (tyX4 j) = vp_V [.null, .null, .null, .int 0, .int 0] j := by decide +kernel
theorem dv_X5 : ∀ j, j < 6 → defaultValue (tyX5 j) = vp_V [.null, .int 0, .int 0, .int 0, .int 0, .long 0] j := by decide +kernel
theorem dv_X6 : ∀ j, j < 5 → defaultValue (tyX6 j) = vp_V [.null, .int 0, .null, .null, .int 0] j := by decide +kernel
theorem dv_X7 : ∀ j, j < 9 → defaultValue (tyX7 j) = vp_V [.null, .int 0, .null, .null, .null, .int 0, .null, .null, .null] j := by decide +kernel
theorem dv_X8 : ∀ j, j < 78 → defaultValue (tyX8 j) = vp_V [.null, .int 0, .int 0, .int 0, .int 0, .int 0, .int 0, .null, .null, .null, .null, .null, .null, .null, .int 0, .null, .null, .null, .int 0, .null, .int 0, .null, .int 0, .null, .null, .int 0, .null, .null, .int 0, .null, .null, .null, .null, .null, .null, .null, .int 0, .int 0, .int 0, .int 0, .int 0, .int 0, .int 0, .int 0, .int 0, .int 0, .int 0, .int 0, .int 0, .int 0, .null, .null, .null, .null, .int 0, .int 0, .int 0, .null, .null, .null, .null, .null, .null, .null, .int 0, .int 0, .int 0, .null, .int 0, .null, .null, .null, .null, .int 0, .null, .null, .null, .int 0] j := by decide +kernel
