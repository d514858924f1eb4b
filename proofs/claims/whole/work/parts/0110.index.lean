/-! indices; bits of rows; the plain queries -/
theorem i31 : ((6 : Int32) &&& 31) = nI 6 := by decide
theorem idx_if {k : Nat} (hk : k ≤ 1000000) (a : Int32) : (if a < 0 then (some (0 : Int32)) else (if nI k ≤ a then (some (0 : Int32)) else (some (1 : Int32)))) = some (if ∃ j : Nat, j < k ∧ a = nI j then 1 else 0) := by
  by_cases hj : ∃ j : Nat, j < k ∧ a = nI j
  · have h2 := (X_in hk a).mpr hj
    rw [if_neg h2.1, if_neg h2.2, if_pos hj]
  · rw [if_neg hj]
    by_cases h1 : a < 0
    · rw [if_pos h1]
    · by_cases h2 : nI k ≤ a
      · rw [if_neg h1, if_pos h2]
      · exact absurd ((X_in hk a).mp ⟨h1, h2⟩) hj
theorem K_isType_eq {k : Nat} (hk : k ≤ 1000000) (a : Int32) : f_K_isType a (nI k) = some (if ∃ j : Nat, j < k ∧ a = nI j then 1 else 0) := idx_if hk a
theorem X_isQ_eq {k : Nat} (hk : k ≤ 1000000) (a : Int32) : f_X_isQuestion a (nI k) = some (if ∃ j : Nat, j < k ∧ a = nI j then 1 else 0) := idx_if hk a
theorem X_isN_eq {k : Nat} (hk : k ≤ 1000000) (a : Int32) : f_X_isName a (nI k) = some (if ∃ j : Nat, j < k ∧ a = nI j then 1 else 0) := idx_if hk a
theorem pw9 : ∀ n, n < 10 → ((1 : Int32) <<< (nI n &&& 31)) = nI (2 ^ n) := by decide
theorem pw9_le : ∀ n, n < 10 → 2 ^ n ≤ 512 := by decide
theorem M_types_eq {n : Nat} (hn : n ≤ 9) : f_M_types (nI n) = some (nI (2 ^ n)) := by
  unfold f_M_types; rw [pw9 n (by omega)]
theorem M_not_eq {k : Nat} (hk : k ≤ 1000000) (a : Int32) : ((f_M_in (a).toInt64 ((0 : Int64)) (((nI k - (1 : Int32))).toInt64)).bind fun q10 => (if q10 = 0 then (some (1 : Int32)) else (some (0 : Int32)))) = some (if ∃ j : Nat, j < k ∧ a = nI j then 0 else 1) := by
  rw [M_in_last hk]
  by_cases h : ∃ j : Nat, j < k ∧ a = nI j
  · rw [if_pos h, if_pos h]; rfl
  · rw [if_neg h, if_neg h]; rfl
theorem M_noQ_eq {k : Nat} (hk : k ≤ 1000000) (a : Int32) : f_M_noQuestion a (nI k) = some (if ∃ j : Nat, j < k ∧ a = nI j then 0 else 1) := M_not_eq hk a
theorem M_noN_eq {k : Nat} (hk : k ≤ 1000000) (a : Int32) : f_M_noName a (nI k) = some (if ∃ j : Nat, j < k ∧ a = nI j then 0 else 1) := M_not_eq hk a
theorem M_noT_eq {n : Nat} (hn : n ≤ 9) (a : Int32) : f_M_noType a (nI n) = some (if ∃ j : Nat, j < 2 ^ n ∧ a = nI j then 0 else 1) := by
  unfold f_M_noType
  rw [M_types_eq hn, Option.bind_some]
  exact M_not_eq (by have := pw9_le n (by omega); omega) a
theorem i1z : ¬ ((1 : Int32) = 0) := by decide
theorem rank_eq {n : Nat} (hn : n ≤ 9) {r1 r2 : Nat → Int32} (hr : ∀ t, t < 2 ^ n → r1 t = r2 t) (a : Int32) : ∃ r : Int32, f_X_rank a 1 (nI (2 ^ n)) r1 = some r ∧ f_M_rank a (nI n) 1 r2 = some r := by
  have h9 := pw9_le n (by omega)
  unfold f_X_rank f_M_rank
  rw [if_neg i1z, if_neg i1z, K_isType_eq (by omega), M_noT_eq hn, Option.bind_some, Option.bind_some]
  by_cases h : ∃ j : Nat, j < 2 ^ n ∧ a = nI j
  · obtain ⟨j, hj, rfl⟩ := h
    have h : ∃ i : Nat, i < 2 ^ n ∧ nI j = nI i := ⟨j, hj, rfl⟩
    rw [if_pos h, if_pos h, if_neg i1z, if_pos rfl]
    unfold f_K_rankOf
    rw [if_neg (nI_pos (by omega)), if_neg (show ¬ (512 : Int32) ≤ nI j from nI_ge (show j < 512 by omega) (by decide)), if_neg (nI_g (show j < 512 by omega) (by decide)), if_neg (nI_g (show j < 512 by omega) (by decide)), nI_cl (by omega), Option.bind_some, hr j hj]
    exact ⟨_, rfl, rfl⟩
  · rw [if_neg h, if_neg h, if_pos rfl, if_neg i1z]
    exact ⟨_, rfl, rfl⟩
theorem C_roleOfAtom_eq {k : Nat} (hk : k ≤ 9) {f : Nat → Int32} {j : Nat} (hj : j < k) : f_C_roleOfAtom (nI j) (nI k) f = some (f j) := by
  unfold f_C_roleOfAtom
  rw [if_neg (nI_pos (by omega)), if_neg (nI_ge hj (by omega)), if_neg (nI_g (show j < 9 by omega) (by decide)), nI_cl (by omega)]
theorem C_nameOfAtom_eq {k : Nat} (hk : k ≤ 9) {f : Nat → Int32} {j : Nat} (hj : j < k) : f_C_nameOfAtom (nI j) (nI k) f = some (f j) := by
  unfold f_C_nameOfAtom
  rw [if_neg (nI_pos (by omega)), if_neg (nI_ge hj (by omega)), if_neg (nI_g (show j < 9 by omega) (by decide)), nI_cl (by omega)]
theorem atom_eq {n : Nat} (hn : n ≤ 9) {f1 f2 g1 g2 : Nat → Int32} (hf : ∀ k, k < n → f1 k = f2 k) (hg : ∀ k, k < n → g1 k = g2 k) (a w : Int32) : ∃ r : Int32, f_X_atom a w 1 (nI n) f1 g1 = some r ∧ f_M_atom a w (nI n) 1 f2 g2 = some r := by
  unfold f_X_atom f_M_atom
  rw [if_neg i1z, if_neg i1z, M_in_last (by omega), Option.bind_some]
  by_cases h : ∃ j : Nat, j < n ∧ a = nI j
  · obtain ⟨j, hj, rfl⟩ := h
    have hE : ∃ i : Nat, i < n ∧ nI j = nI i := ⟨j, hj, rfl⟩
    rw [if_pos hE, if_neg i1z, if_neg (nI_pos (by omega)), if_pos (nI_lt hj (by omega)), C_roleOfAtom_eq hn hj, C_nameOfAtom_eq hn hj, if_neg (nI_g (show j < 18 by omega) (by decide)), if_neg (nI_g (show j < 18 by omega) (by decide)), nI_cl (by omega), Option.bind_some, Option.bind_some, hf j hj, hg j hj]
    by_cases w0 : w = 0
    · rw [if_pos w0]; exact ⟨_, rfl, rfl⟩
    · rw [if_neg w0]
      by_cases w1 : w = 1
      · rw [if_pos w1]; exact ⟨_, rfl, rfl⟩
      · rw [if_neg w1]; exact ⟨_, rfl, rfl⟩
  · rw [if_neg h, if_pos rfl]
    refine ⟨-102, ?_, rfl⟩
    by_cases h1 : a < 0
    · rw [if_pos h1]
    · rw [if_neg h1, if_neg]
      intro h2
      obtain ⟨j, hj, rfl⟩ := nI_of h1
      exact h ⟨j, (nI_ltI hj (by omega)).mp h2, rfl⟩
theorem thing_eq {k : Nat} (hk : k ≤ 512) {f1 f2 : Nat → Int32} (hf : ∀ t, t < k → f1 t = f2 t) (a : Int32) : ∃ r : Int32, f_X_thing a 1 (nI k) f1 = some r ∧ f_M_thing a 1 (nI k) f2 = some r := by
  unfold f_X_thing f_M_thing
  rw [if_neg i1z, if_neg i1z, M_in_last (by omega), Option.bind_some]
  by_cases h : ∃ j : Nat, j < k ∧ a = nI j
  · have h2 := (X_in (by omega) a).mpr h
    rw [if_neg h2.1, if_neg h2.2, if_pos h, if_neg i1z]
    obtain ⟨j, hj, rfl⟩ := h
    rw [if_neg (nI_g (show j < 512 by omega) (by decide)), if_neg (nI_g (show j < 512 by omega) (by decide)), nI_cl (by omega), hf j hj]
    exact ⟨_, rfl, rfl⟩
  · rw [if_neg h, if_pos rfl]
    refine ⟨-102, ?_, rfl⟩
    by_cases h1 : a < 0
    · rw [if_pos h1]
    · by_cases h2 : nI k ≤ a
      · rw [if_neg h1, if_pos h2]
      · exact absurd ((X_in (by omega) a).mp ⟨h1, h2⟩) h
