/-! which statement begins, of both -/
theorem kw_inj : ∀ i, i < 10 → ∀ j, j < 10 → lN (kww.getD i 0) = lN (kww.getD j 0) → i = j := by decide +kernel
theorem disp_eq {N n nx fr : Nat} {tx t0 : Nat → Int32} {c4 m3 m5 m6 : Int32} {w : Int64} (hN : 100000 ≤ N) (H : RTape n tx t0) (T : Tok n tx nx fr c4 w m3 m5 m6) : ∃ q : Int32, f_M_kept N m3 (nI fr) m5 t0 wordsM = some q ∧ (q = 0 ↔ w = lN 6386539) ∧ (q = 1 ↔ w = lN 504363246962) ∧ (q = 2 ↔ w = lN 126896661032037) := by
  obtain ⟨q, q1, q2⟩ := kept_eq hN H T
  refine ⟨q, q1, ?_⟩
  have key : ∀ j, j < 3 → (q = nI j ↔ w = lN (kww.getD j 0)) := fun j hj => by
    rcases q2 with ⟨a, b⟩ | ⟨i, i1, i2, i3⟩
    · rw [a]
      exact ⟨fun z => absurd z.symm (nI_neg1 (by omega)), fun z => by rw [z] at b; exact tf (kwB_of (by omega)) b⟩
    · rw [i2]
      exact ⟨fun z => by rw [i3, (nI_eq (by omega) (by omega)).mp z], fun z => by rw [kw_inj i i1 j (by omega) (i3.symm.trans z)]⟩
  exact ⟨key 0 (by decide), key 1 (by decide), key 2 (by decide)⟩
/-- a text's end, of both -/
theorem end_tok {n nx fr : Nat} {tx : Nat → Int32} {c4 m3 m5 m6 : Int32} {w : Int64} (T : Tok n tx nx fr c4 w m3 m5 m6) : c4 = 1 ↔ m3 = 0 := by
  obtain ⟨t1, t2, t3⟩ := T
  rcases t3 with ⟨a1, a2, a3, a4, a5⟩ | ⟨a1, a2, s', hs', a3, a4, a5⟩ | ⟨a1, a2, a3, a4⟩ | ⟨sz, a1, a2, a3, a4, a5, a6, a7, a8, a9, a10, a11⟩
  · rw [a3, a5]; decide
  · rw [a2, a4]; decide
  · rw [a2, a4]; decide
  · rw [a10, a4]
    cases kwB w <;> decide
