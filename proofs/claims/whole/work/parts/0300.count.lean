/-! count, of both -/
theorem cb_word {f : Nat → Int64} {w : Nat} : cb (fun j => (f w).toBitVec.getLsbD j) 64 = cb (fun j => tb f 0 (64 * w + j)) 64 := by
  apply cb_same
  intro s hs
  unfold tb
  rw [Nat.zero_add, show (64 * w + s) / 64 = w by omega, show (64 * w + s) % 64 = s by omega]
theorem so_loop {N : Nat} {f : Nat → Int64} : ∀ (d i w : Nat), w + d = 8 → d < i → f_K_sizeOf_11 N 8 f (8 : Int32) i (nI (cb (fun s => tb f 0 s) (64 * w))) (nI w) = some (nI (cb (fun s => tb f 0 s) 512)) := by
  intro d
  induction d with
  | zero =>
    intro i w hw hi
    obtain ⟨i, rfl⟩ : ∃ k, i = k + 1 := ⟨i - 1, by omega⟩
    have e : w = 8 := by omega
    subst e
    rw [f_K_sizeOf_11, if_pos (show (8 : Int32) ≤ nI 8 by decide)]
  | succ d ih =>
    intro i w hw hi
    obtain ⟨i, rfl⟩ : ∃ k, i = k + 1 := ⟨i - 1, by omega⟩
    rw [f_K_sizeOf_11, if_neg (show ¬ (8 : Int32) ≤ nI w from nI_ge (show w < 8 by omega) (by decide)), if_neg (nI_g (show w < 8 by omega) (by decide)), nI_cl (by omega), bitCount_w, Option.bind_some, cb_word, nI_add, nI_m]
    have e := cb_add (fun s => tb f 0 s) (64 * w) 64
    rw [← e]
    exact ih i (w + 1) (by omega) (by omega)
theorem so_eq {N : Nat} {f : Nat → Int64} (hN : 100000 ≤ N) : f_K_sizeOf N 8 f = some (nI (cb (fun s => tb f 0 s) 512)) := by
  unfold f_K_sizeOf
  exact so_loop 8 N 0 (by omega) (by omega)
theorem cb_cnt {n : Nat} (hn : n ≤ 9) {f : Nat → Int64} {sd : Nat → Int32} (h : RSt n f sd) : cb (fun s => tb f 0 s) 512 = cnt sd (2 ^ n) := by
  have h9 := pw9_le n (by omega)
  have h1 : ∀ B, B ≤ 2 ^ n → cb (fun s => tb f 0 s) B = cnt sd B := by
    intro B
    induction B with
    | zero => intro _; rfl
    | succ B ih =>
      intro hB
      unfold cb cnt
      rw [ih (by omega)]
      have := (h.1 B (by omega)).2
      by_cases e : tb f 0 B = true
      · rw [if_pos e, if_pos (this.mp e)]
      · rw [if_neg e, if_neg (fun z => e (this.mpr z))]
  have h2 : ∀ d, 2 ^ n + d ≤ 512 → cb (fun s => tb f 0 s) (2 ^ n + d) = cnt sd (2 ^ n) := by
    intro d
    induction d with
    | zero => intro _; exact h1 _ (Nat.le_refl _)
    | succ d ih =>
      intro hd
      show cb (fun s => tb f 0 s) (2 ^ n + d) + (if tb f 0 (2 ^ n + d) = true then 1 else 0) = _
      rw [ih (by omega), h.2 (2 ^ n + d) (by omega) (by omega)]
      rfl
  have h3 := h2 (512 - 2 ^ n) (by omega)
  rw [show 2 ^ n + (512 - 2 ^ n) = 512 by omega] at h3
  exact h3
theorem ms_loop {N n : Nat} {sd : Nat → Int32} (hn : n ≤ 9) (hz : ∀ t, t < 2 ^ n → isZ (sd t)) : ∀ (d i t : Nat), t + d = 2 ^ n → d < i → f_M_standing_4 N (nI n) sd i (nI (cnt sd t)) (nI t) = some (nI (cnt sd (2 ^ n))) := by
  have h9 := pw9_le n (by omega)
  intro d
  induction d with
  | zero =>
    intro i t ht hi
    obtain ⟨i, rfl⟩ : ∃ k, i = k + 1 := ⟨i - 1, by omega⟩
    have et : t = 2 ^ n := by omega
    subst et
    rw [f_M_standing_4, M_types_eq hn, Option.bind_some, if_pos (nI_le (Nat.le_refl _) (by omega))]
  | succ d ih =>
    intro i t ht hi
    obtain ⟨i, rfl⟩ : ∃ k, i = k + 1 := ⟨i - 1, by omega⟩
    have go := ih i (t + 1) (by omega) (by omega)
    have ec : cnt sd (t + 1) = cnt sd t + (if sd t = 1 then 1 else 0) := rfl
    rw [f_M_standing_4, M_types_eq hn, Option.bind_some, if_neg (nI_ge (show t < 2 ^ n by omega) (by omega)), if_neg (nI_g (show t < 512 by omega) (by decide)), nI_cl (by omega), nI_m]
    rcases hz t (by omega) with z | z
    · rw [z, if_pos rfl]
      rw [z, if_neg (by decide)] at ec
      rw [ec] at go
      rw [show (0 : Int32) = nI 0 from rfl, nI_add]
      exact go
    · rw [z, if_neg i1z, nI_m]
      rw [z, if_pos rfl] at ec
      rw [ec] at go
      exact go
theorem ms_eq {N n : Nat} {sd : Nat → Int32} (hN : 100000 ≤ N) (hn : n ≤ 9) (hz : ∀ t, t < 2 ^ n → isZ (sd t)) : f_M_standing N (nI n) sd = some (nI (cnt sd (2 ^ n))) := by
  have h9 := pw9_le n (by omega)
  unfold f_M_standing
  exact ms_loop hn hz (2 ^ n) N 0 (by omega) (by omega)
theorem count_eq {N n : Nat} (hN : 100000 ≤ N) (hn : n ≤ 9) {b1 b3 b5 b9 b11 i8 w1 w4 p1 m64 : Int32} {fr st : Nat → Int64} {sd0 sd : Nat → Int32} (hf : RSt n fr sd0) (h64 : m64 = nI (cnt sd0 (2 ^ n))) (hs : RSt n st sd) (a : Int32) : ∃ r : Int32, f_X_count N a 1 b1 b3 b5 b9 b11 (nI n) i8 fr st w1 w4 p1 = some r ∧ f_M_count N a b1 b9 b11 b3 b5 (nI n) 1 m64 i8 w1 w4 p1 sd = some r := by
  unfold f_X_count f_M_count
  rw [so_eq hN, so_eq hN, cb_cnt hn hf, cb_cnt hn hs, ms_eq hN hn (fun t ht => (hs.1 t ht).1), h64]
  by_cases h11 : a = 11
  · rw [if_pos h11, if_pos h11]; exact ⟨_, rfl, rfl⟩
  rw [if_neg h11, if_neg h11]
  rw [if_neg i1z, if_neg i1z]
  by_cases h0 : a = 0
  · rw [if_pos h0, if_pos h0]; exact ⟨_, rfl, rfl⟩
  rw [if_neg h0, if_neg h0]
  by_cases h1 : a = 1
  · rw [if_pos h1, if_pos h1]; exact ⟨_, rfl, rfl⟩
  rw [if_neg h1, if_neg h1]
  by_cases h2 : a = 2
  · rw [if_pos h2, if_pos h2]; exact ⟨_, rfl, rfl⟩
  rw [if_neg h2, if_neg h2]
  by_cases h3 : a = 3
  · rw [if_pos h3, if_pos h3]; exact ⟨_, rfl, rfl⟩
  rw [if_neg h3, if_neg h3]
  by_cases h4 : a = 4
  · rw [if_pos h4, if_pos h4]; exact ⟨_, rfl, rfl⟩
  rw [if_neg h4, if_neg h4]
  by_cases h5 : a = 5
  · rw [if_pos h5, if_pos h5]; exact ⟨_, rfl, rfl⟩
  rw [if_neg h5, if_neg h5]
  by_cases h6 : a = 6
  · rw [if_pos h6, if_pos h6]; exact ⟨_, rfl, rfl⟩
  rw [if_neg h6, if_neg h6]
  by_cases h7 : a = 7
  · rw [if_pos h7]; exact ⟨_, rfl, rfl⟩
  rw [if_neg h7]
  by_cases h8 : a = 8
  · rw [if_pos h8]; exact ⟨_, rfl, rfl⟩
  rw [if_neg h8]
  by_cases h9 : a = 9
  · rw [if_pos h9]; exact ⟨_, rfl, rfl⟩
  rw [if_neg h9]
  by_cases h10 : a = 10
  · rw [if_pos h10]; exact ⟨_, rfl, rfl⟩
  rw [if_neg h10]; exact ⟨_, rfl, rfl⟩
