/-! the last folds -/
theorem fo1 {g0 g1 g2 g3 g4 g5 g6 g7 : Nat} : (g0 + 256 * (g1 + 256 * (g2 + 256 * (g3 + 256 * (g4 + 256 * (g5 + 256 * (g6 + 256 * g7))))))) + (g1 + 256 * (g2 + 256 * (g3 + 256 * (g4 + 256 * (g5 + 256 * (g6 + 256 * g7)))))) = (g0 + g1) + 256 * ((g1 + g2) + 256 * ((g2 + g3) + 256 * ((g3 + g4) + 256 * ((g4 + g5) + 256 * ((g5 + g6) + 256 * ((g6 + g7) + 256 * g7)))))) := by omega
theorem fo2 {g0 g1 g2 g3 g4 g5 g6 g7 : Nat} : (g0 + 256 * (g1 + 256 * (g2 + 256 * (g3 + 256 * (g4 + 256 * (g5 + 256 * (g6 + 256 * g7))))))) + (g2 + 256 * (g3 + 256 * (g4 + 256 * (g5 + 256 * (g6 + 256 * g7))))) = (g0 + g2) + 256 * ((g1 + g3) + 256 * ((g2 + g4) + 256 * ((g3 + g5) + 256 * ((g4 + g6) + 256 * ((g5 + g7) + 256 * (g6 + 256 * g7)))))) := by omega
theorem fo4 {g0 g1 g2 g3 g4 g5 g6 g7 : Nat} : (g0 + 256 * (g1 + 256 * (g2 + 256 * (g3 + 256 * (g4 + 256 * (g5 + 256 * (g6 + 256 * g7))))))) + (g4 + 256 * (g5 + 256 * (g6 + 256 * g7))) = (g0 + g4) + 256 * ((g1 + g5) + 256 * ((g2 + g6) + 256 * ((g3 + g7) + 256 * (g4 + 256 * (g5 + 256 * (g6 + 256 * g7)))))) := by omega
theorem fob {g0 g1 g2 g3 g4 g5 g6 g7 : Nat} (s0 : g0 ≤ 255) (s1 : g1 ≤ 255) (s2 : g2 ≤ 255) (s3 : g3 ≤ 255) (s4 : g4 ≤ 255) (s5 : g5 ≤ 255) (s6 : g6 ≤ 255) (s7 : g7 ≤ 255) : (g0 + 256 * (g1 + 256 * (g2 + 256 * (g3 + 256 * (g4 + 256 * (g5 + 256 * (g6 + 256 * g7))))))) < 2 ^ 64 := by omega
theorem fold8 {g0 g1 g2 g3 g4 g5 g6 g7 : Nat} (s0 : g0 ≤ 8) (s1 : g1 ≤ 8) (s2 : g2 ≤ 8) (s3 : g3 ≤ 8) (s4 : g4 ≤ 8) (s5 : g5 ≤ 8) (s6 : g6 ≤ 8) (s7 : g7 ≤ 8) : f_J_bitCount_34 (lN (g0 + 256 * (g1 + 256 * (g2 + 256 * (g3 + 256 * (g4 + 256 * (g5 + 256 * (g6 + 256 * g7)))))))) = some (nI (g0 + g1 + g2 + g3 + g4 + g5 + g6 + g7)) := by
  unfold f_J_bitCount_34
  rw [lN_shr (fob (by omega) (by omega) (by omega) (by omega) (by omega) (by omega) (by omega) (by omega)) 8 8 sh8, lN_add, p8 (by omega), fo1]
  unfold f_J_bitCount_41
  rw [lN_shr (fob (by omega) (by omega) (by omega) (by omega) (by omega) (by omega) (by omega) (by omega)) 16 16 sh16, lN_add, p16 (by omega) (by omega), fo2]
  unfold f_J_bitCount_48
  rw [lN_shr (fob (by omega) (by omega) (by omega) (by omega) (by omega) (by omega) (by omega) (by omega)) 32 32 sh32, lN_add, p32 (by omega) (by omega) (by omega) (by omega), fo4]
  unfold f_J_bitCount_55
  rw [lN_i, nI_and127, md1 (by omega)]
  have : g0 + g1 + (g2 + g3) + (g4 + g5 + (g6 + g7)) = g0 + g1 + g2 + g3 + g4 + g5 + g6 + g7 := by omega
  rw [this]
