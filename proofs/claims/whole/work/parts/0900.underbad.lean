/-! UNDER after a fault, in the model -/
theorem rr_bad {N F : Nat} {m3 m4 m5 i43 i44 i47 : Int32} {a0 a7 m23 m24 m26 m27 m29 m31 : Nat → Int32} (h1 : 1 ≤ F) (h6 : F ≤ 6) : f_M_readRole N m3 m4 m5 i43 i44 (nI F) i47 a0 a7 m23 m24 m26 m27 m29 m31 = some (0, i44, nI F, i47, m26, m27, m29, m31) := by
  unfold f_M_readRole
  rw [fine_bad h1 h6, Option.bind_some, if_pos rfl]
theorem und95_bad {N F : Nat} {v1 v2 : Int32} {iM X : Nat → Int32} {aM Y : Nat → Nat → Int32} (h : X 46 = nI F) (h1 : 1 ≤ F) (h6 : F ≤ 6) : f_M_readUnder_95 N iM aM v1 v2 X Y = some (X, Y) := by
  unfold f_M_readUnder_95
  rw [h, fine_bad h1 h6, Option.bind_some, if_pos rfl]
theorem und48_bad {N F : Nat} {v1 : Int32} {iM X : Nat → Int32} {aM Y : Nat → Nat → Int32} (h : X 46 = nI F) (h1 : 1 ≤ F) (h6 : F ≤ 6) : f_M_readUnder_48 N iM aM v1 X Y = some (us X [(44, X 44), (46, nI F), (47, X 47)], us Y [(26, Y 26), (27, Y 27), (29, Y 29), (31, Y 31)]) := by
  unfold f_M_readUnder_48
  rw [h, rr_bad h1 h6, Option.bind_some]
  show (f_M_fine (nI F)).bind _ = _
  rw [fine_bad h1 h6, Option.bind_some, if_pos rfl]
  exact und95_bad (F := F) rfl h1 h6
theorem und37_bad {N F : Nat} {v1 : Int32} {iM X : Nat → Int32} {aM Y : Nat → Nat → Int32} (h : X 46 = nI F) (h1 : 1 ≤ F) (h6 : F ≤ 6) : f_M_readUnder_37 N iM aM v1 X Y = some (us X [(44, X 44), (46, nI F), (47, X 47)], us Y [(26, Y 26), (27, Y 27), (29, Y 29), (31, Y 31)]) := by
  unfold f_M_readUnder_37
  rw [h, fine_bad h1 h6, Option.bind_some, if_pos rfl]
  exact und48_bad h h1 h6
