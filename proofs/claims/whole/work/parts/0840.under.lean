/-! roles under roles, of both -/
def clo (G r s : Nat) : Bool := ((G.testBit (3 * r + s) || (G.testBit (3 * r + 0) && G.testBit (3 * 0 + s))) || (G.testBit (3 * r + 1) && G.testBit (3 * 1 + s))) || (G.testBit (3 * r + 2) && G.testBit (3 * 2 + s))
def acy (G : Nat) : Bool := !clo G 0 0 && !clo G 1 1 && !clo G 2 2
def rowG (G r : Nat) : Nat := (if clo G r 0 then 1 else 0) + (if clo G r 1 then 2 else 0) + (if clo G r 2 then 4 else 0)
def b2i (b : Bool) : Int32 := if b = true then 1 else 0
theorem b2i_n (b : Bool) : vp_nar .boolean (b2i b) = b2i b := by cases b <;> decide
theorem b2i_0 {b : Bool} : b2i b = 0 ↔ b = false := by cases b <;> decide
/-- the class's rows and the model's -/
def UnC (G : Nat) (b12 : Nat → Int32) : Prop := ∀ r, r < 3 → b12 r = nI (rowG G r)
def UnM (base G : Nat) (m30 : Nat → Int32) : Prop := ∀ k, k < 9 → m30 (base + k) = b2i (G.testBit k)
theorem rowG_lt (G r : Nat) : rowG G r < 8 := by
  unfold rowG
  split <;> split <;> split <;> omega
theorem rowG_bit {G r s : Nat} (hs : s < 3) : (rowG G r).testBit s = clo G r s := by
  have hs' : s = 0 ∨ s = 1 ∨ s = 2 := by omega
  unfold rowG
  rcases hs' with e | e | e <;> subst e <;> cases clo G r 0 <;> cases clo G r 1 <;> cases clo G r 2 <;> decide
theorem bit_of {A s : Nat} (hA : A < 8) (hs : s < 3) : (if ((nI A >>> (nI s &&& 31)) &&& 1) = 1 then (some (1 : Int32)) else (some 0)) = some (b2i (A.testBit s)) := by
  have : ∀ A, A < 8 → ∀ s, s < 3 → (if ((nI A >>> (nI s &&& 31)) &&& 1) = 1 then (some (1 : Int32)) else (some 0)) = some (b2i (A.testBit s)) := by decide +kernel
  exact this A hA s hs
theorem under_B {G r s : Nat} {b12 : Nat → Int32} (hr : r < 3) (hs : s < 3) (H : UnC G b12) : f_B_isRoleUnder (nI r) (nI s) b12 = some (b2i (clo G r s)) := by
  unfold f_B_isRoleUnder f_B_rolesAbove
  rw [if_neg (show ¬ nI r < 0 from nI_pos (by omega)), if_neg (show ¬ (3 : Int32) ≤ nI r from nI_ge (a := r) (b := 3) hr (by decide)), if_neg (nI_g hr (by decide)), Option.bind_some, nI_cl (by omega), H r hr, bit_of (rowG_lt G r) hs, rowG_bit hs]
theorem bel_step {N i G r s j : Nat} {m30 : Nat → Int32} {b : Bool} (hr : r < 3) (hs : s < 3) (hj : j < 3) (H : UnM 0 G m30) : f_M_isBelow_14 N m30 (nI r) (nI s) (i + 1) (b2i b) (nI j) = f_M_isBelow_14 N m30 (nI r) (nI s) i (b2i (b || (G.testBit (3 * r + j) && G.testBit (3 * j + s)))) (nI (j + 1)) := by
  have h1 := H (3 * r + j) (by omega)
  have h2 := H (3 * j + s) (by omega)
  rw [Nat.zero_add] at h1 h2
  have e3 : ((3 : Int32) * nI r) = nI (3 * r) := by rw [show (3 : Int32) = nI 3 from rfl, pk_mul]
  have e4 : ((3 : Int32) * nI j) = nI (3 * j) := by rw [show (3 : Int32) = nI 3 from rfl, pk_mul]
  rw [f_M_isBelow_14, if_neg (show ¬ (3 : Int32) ≤ nI j from nI_ge (a := j) (b := 3) hj (by decide)), e3, e4, nI_add, nI_add, nI_m]
  cases b
  · rw [if_pos (show b2i false = 0 from rfl), if_neg (nI_g (show 3 * r + j < 18 by omega) (by decide)), nI_cl (by omega), h1, if_neg (nI_g (show 3 * j + s < 18 by omega) (by decide)), nI_cl (by omega), h2]
    cases G.testBit (3 * r + j)
    · rw [if_pos (show b2i false = 0 from rfl)]; rfl
    · rw [if_neg (show ¬ b2i true = 0 by decide)]
      cases G.testBit (3 * j + s)
      · rw [if_pos (show b2i false = 0 from rfl)]; rfl
      · rw [if_neg (show ¬ b2i true = 0 by decide)]; rfl
  · rw [if_neg (show ¬ b2i true = 0 by decide)]; rfl
theorem below_M {N G r s : Nat} {m30 : Nat → Int32} (hN : 100000 ≤ N) (hr : r < 3) (hs : s < 3) (H : UnM 0 G m30) : f_M_isBelow N (nI r) (nI s) m30 = some (b2i (clo G r s)) := by
  have h1 := H (3 * r + s) (by omega)
  rw [Nat.zero_add] at h1
  obtain ⟨M, rfl⟩ : ∃ M, N = M + 4 := ⟨N - 4, by omega⟩
  unfold f_M_isBelow
  have e3 : ((3 : Int32) * nI r) = nI (3 * r) := by rw [show (3 : Int32) = nI 3 from rfl, pk_mul]
  rw [e3, nI_add, if_neg (nI_g (show 3 * r + s < 18 by omega) (by decide)), nI_cl (by omega), h1, show (0 : Int32) = nI 0 from rfl, bel_step hr hs (by decide) H, bel_step hr hs (by decide) H, bel_step hr hs (by decide) H, f_M_isBelow_14, if_pos (show (3 : Int32) ≤ nI (0 + 1 + 1 + 1) by decide), if_pos (b2i_n _)]
  rfl
theorem rea_step {N i G r s j : Nat} {m30 : Nat → Int32} {b : Bool} (hr : r < 3) (hs : s < 3) (hj : j < 3) (H : UnM 9 G m30) : f_M_reaches_17 N m30 (nI r) (nI s) (i + 1) (b2i b) (nI j) = f_M_reaches_17 N m30 (nI r) (nI s) i (b2i (b || (G.testBit (3 * r + j) && (decide (j = s) || G.testBit (3 * j + s))))) (nI (j + 1)) := by
  have h1 := H (3 * r + j) (by omega)
  have h2 := H (3 * j + s) (by omega)
  have e3 : ((3 : Int32) * nI r) = nI (3 * r) := by rw [show (3 : Int32) = nI 3 from rfl, pk_mul]
  have e4 : ((3 : Int32) * nI j) = nI (3 * j) := by rw [show (3 : Int32) = nI 3 from rfl, pk_mul]
  rw [f_M_reaches_17, if_neg (show ¬ (3 : Int32) ≤ nI j from nI_ge (a := j) (b := 3) hj (by decide)), e3, e4, show (9 : Int32) = nI 9 from rfl, nI_add, nI_add, nI_add, nI_add, nI_m]
  cases b
  · rw [if_pos (show b2i false = 0 from rfl), if_neg (nI_g (show 9 + 3 * r + j < 18 by omega) (by decide)), nI_cl (by omega), show 9 + 3 * r + j = 9 + (3 * r + j) by omega, h1, if_neg (nI_g (show 9 + 3 * j + s < 18 by omega) (by decide)), nI_cl (by omega), show 9 + 3 * j + s = 9 + (3 * j + s) by omega, h2]
    cases G.testBit (3 * r + j)
    · rw [if_pos (show b2i false = 0 from rfl)]; rfl
    · rw [if_neg (show ¬ b2i true = 0 by decide)]
      by_cases e : j = s
      · rw [if_pos (by rw [e]), decide_eq_true e]; rfl
      · rw [if_neg (fun z => e ((nI_eq (by omega) (by omega)).mp z)), decide_eq_false e]
        cases G.testBit (3 * j + s)
        · rw [if_pos (show b2i false = 0 from rfl)]; rfl
        · rw [if_neg (show ¬ b2i true = 0 by decide)]; rfl
  · rw [if_neg (show ¬ b2i true = 0 by decide)]; rfl
theorem reach_M {N G r s : Nat} {m30 : Nat → Int32} (hN : 100000 ≤ N) (hr : r < 3) (hs : s < 3) (H : UnM 9 G m30) : f_M_reaches N (nI r) (nI s) m30 = some (b2i (clo G r s)) := by
  have h1 := H (3 * r + s) (by omega)
  obtain ⟨M, rfl⟩ : ∃ M, N = M + 4 := ⟨N - 4, by omega⟩
  unfold f_M_reaches
  have e3 : ((3 : Int32) * nI r) = nI (3 * r) := by rw [show (3 : Int32) = nI 3 from rfl, pk_mul]
  rw [e3, show (9 : Int32) = nI 9 from rfl, nI_add, nI_add, if_neg (nI_g (show 9 + 3 * r + s < 18 by omega) (by decide)), nI_cl (by omega), show 9 + 3 * r + s = 9 + (3 * r + s) by omega, h1, show (0 : Int32) = nI 0 from rfl, rea_step hr hs (by decide) H, rea_step hr hs (by decide) H, rea_step hr hs (by decide) H, f_M_reaches_17, if_pos (show (3 : Int32) ≤ nI (0 + 1 + 1 + 1) by decide), if_pos (b2i_n _)]
  have : s = 0 ∨ s = 1 ∨ s = 2 := by omega
  unfold clo
  rcases this with e | e | e <;> subst e
  · cases G.testBit (3 * r + 0) <;> cases G.testBit (3 * r + 1) <;> cases G.testBit (3 * r + 2) <;> cases G.testBit (3 * 0 + 0) <;> cases G.testBit (3 * 1 + 0) <;> cases G.testBit (3 * 2 + 0) <;> rfl
  · cases G.testBit (3 * r + 0) <;> cases G.testBit (3 * r + 1) <;> cases G.testBit (3 * r + 2) <;> cases G.testBit (3 * 0 + 1) <;> cases G.testBit (3 * 1 + 1) <;> cases G.testBit (3 * 2 + 1) <;> rfl
  · cases G.testBit (3 * r + 0) <;> cases G.testBit (3 * r + 1) <;> cases G.testBit (3 * r + 2) <;> cases G.testBit (3 * 0 + 2) <;> cases G.testBit (3 * 1 + 2) <;> cases G.testBit (3 * 2 + 2) <;> rfl
