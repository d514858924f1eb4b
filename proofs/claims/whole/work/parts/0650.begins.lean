/-! what a concept can begin with, of both -/
theorem w_sign {n nx fr : Nat} {tx : Nat → Int32} {c4 m3 m5 m6 : Int32} {w : Int64} (T : Tok n tx nx fr c4 w m3 m5 m6) {s : Nat} (hs : s = 60 ∨ s = 61 ∨ s = 59 ∨ s = 40 ∨ s = 41) : (w = lN s ↔ m3 = 2 ∧ m6 = nI s) ∧ (w = lN s → c4 = 2 ∧ nx = fr + 1) := by
  have s63 : s < 2 ^ 63 := by omega
  obtain ⟨t1, t2, t3⟩ := T
  rcases t3 with ⟨a1, a2, a3, a4, a5⟩ | ⟨a1, a2, s', hs', a3, a4, a5⟩ | ⟨a1, a2, a3, a4⟩ | ⟨sz, a1, a2, a3, a4, a5, a6, a7, a8, a9, a10, a11⟩
  · have : ¬ w = lN s := by
      rw [a4]; intro z
      have := (pk_lEQ (a := 0) (b := s) (by omega) s63).mp z
      omega
    exact ⟨⟨fun z => absurd z this, fun z => by rw [a5] at z; exact absurd z.1 (by decide)⟩, fun z => absurd z this⟩
  · have e : w = lN s ↔ s' = s := by rw [a3]; exact pk_lEQ (by omega) s63
    refine ⟨e.trans ⟨fun z => ⟨a4, by rw [a5, z]⟩, fun z => ?_⟩, fun _ => ⟨a2, a1⟩⟩
    rw [a5] at z
    exact (nI_eq (by omega) (by omega)).mp z.2
  · have : ¬ w = lN s := by
      rw [a3]; intro z
      have := (pk_lEQ (a := 0) (b := s) (by omega) s63).mp z
      omega
    exact ⟨⟨fun z => absurd z this, fun z => by rw [a4] at z; exact absurd z.1 (by decide)⟩, fun z => absurd z this⟩
  · have : ¬ w = lN s := by
      rw [a9]; intro z
      have ok1 : okR (fun _ => nI s) 0 1 := fun i hi => ⟨s, by omega, by omega, rfl⟩
      have p1 : pkb (fun _ => nI s) 0 1 = s := by
        show (0 * 256 + (nI s).toNatClampNeg) = s
        rw [nI_cl (by omega)]; omega
      have e := (pk_lEQ (pkb_63 a7 a2) s63).mp z
      have := (pkb_inj a7 ok1 a2 (by decide)).mp (e.trans p1.symm)
      have h0 := this.2 0 (by omega)
      rw [Nat.add_zero] at h0
      rw [h0] at a8
      rcases hs with e | e | e | e | e <;> (rw [e] at a8; revert a8; decide)
    exact ⟨⟨fun z => absurd z this, fun z => by rw [a4] at z; exact absurd z.1 (by decide)⟩, fun z => absurd z this⟩
theorem kwB0 : kwB (lN 0) = false ∧ kwB (lN 60) = false ∧ kwB (lN 61) = false ∧ kwB (lN 59) = false ∧ kwB (lN 40) = false ∧ kwB (lN 41) = false := by decide +kernel
theorem tf {b : Bool} {c : Prop} (h : b = true) (h' : b = false) : c := by rw [h] at h'; cases h'
/-- kept words' tokens -/
theorem w_kept {n nx fr : Nat} {tx : Nat → Int32} {c4 m3 m5 m6 : Int32} {w : Int64} (T : Tok n tx nx fr c4 w m3 m5 m6) (h : kwB w = true) : c4 = 3 ∧ m3 = 1 ∧ m6 = 0 ∧ (nx < n → an (tx nx) = false) ∧ ∃ sz : Nat, 1 ≤ sz ∧ sz ≤ 8 ∧ nx = fr + sz ∧ okR tx fr sz ∧ an (tx fr) = true ∧ w = lN (pkb tx fr sz) := by
  obtain ⟨t1, t2, t3⟩ := T
  rcases t3 with ⟨a1, a2, a3, a4, a5⟩ | ⟨a1, a2, s', hs', a3, a4, a5⟩ | ⟨a1, a2, a3, a4⟩ | ⟨sz, a1, a2, a3, a4, a5, a6, a7, a8, a9, a10, a11⟩
  · rw [a4] at h; exact tf h kwB0.1
  · rw [a3] at h
    rcases hs' with e | e | e | e | e
    · rw [e] at h; exact tf h kwB0.2.1
    · rw [e] at h; exact tf h kwB0.2.2.1
    · rw [e] at h; exact tf h kwB0.2.2.2.1
    · rw [e] at h; exact tf h kwB0.2.2.2.2.1
    · rw [e] at h; exact tf h kwB0.2.2.2.2.2
  · rw [a3] at h; exact tf h kwB0.1
  · refine ⟨by rw [a10, if_pos h], a4, a6, a11, sz, a1, a2, a3, a7, a8, a9⟩
def kwL : List (List Nat) := [[97, 115, 107], [117, 110, 100, 101, 114], [115, 105, 110, 103, 108, 101], [111, 114], [97, 110, 100], [110, 111, 116], [115, 111, 109, 101], [101, 118, 101, 114, 121], [116, 111, 112], [98, 111, 116, 116, 111, 109]]
def kwZ : List Nat := [3, 5, 6, 2, 3, 3, 4, 5, 3, 6]
theorem w_size {n nx fr i : Nat} {tx : Nat → Int32} {c4 m3 m5 m6 : Int32} {w : Int64} (T : Tok n tx nx fr c4 w m3 m5 m6) (hi : i < 10) (h : w = lN (kww.getD i 0)) : nx = fr + kwZ.getD i 0 := by
  obtain ⟨-, -, -, -, sz, z1, z2, z3, z4, z5, z6⟩ := w_kept T (by rw [h]; exact kwB_of hi)
  have F : ∀ i, i < 10 → (kwL.getD i []).length = kwZ.getD i 0 ∧ (kwL.getD i []).length ≤ 8 ∧ kww.getD i 0 < 2 ^ 63 ∧ pkb (fun j => nI ((kwL.getD i []).getD j 0)) 0 (kwL.getD i []).length = kww.getD i 0 ∧ ∀ j, j < (kwL.getD i []).length → 1 ≤ (kwL.getD i []).getD j 0 ∧ (kwL.getD i []).getD j 0 < 128 := by decide +kernel
  obtain ⟨f1, f2, f3, f4, f5⟩ := F i hi
  have e := (pk_lEQ (pkb_63 z4 z2) f3).mp (z6.symm.trans h)
  have := (pkb_inj z4 (ok_w _ f5) z2 f2).mp (e.trans f4.symm)
  omega
/-- which token is at hand, where a concept should begin -/
theorem beg_eq {N n nx fr : Nat} {tx t0 : Nat → Int32} {c4 m3 m5 m6 : Int32} {w : Int64} (hN : 100000 ≤ N) (H : RTape n tx t0) (T : Tok n tx nx fr c4 w m3 m5 m6) : ∃ q : Int32, f_M_kept N m3 (nI fr) m5 t0 wordsM = some q ∧ ((w = lN 40 ∧ c4 = 2 ∧ m3 = 2 ∧ m6 = 40 ∧ nx = fr + 1 ∧ f_T_beginsConcept c4 w = some 1 ∧ f_T_holdsConcept w = some 1) ∨ (¬ w = lN 40 ∧ f_M_isSignHere 40 m3 m6 = some 0 ∧ ((c4 = 4 ∧ m3 = 1 ∧ q = -1 ∧ f_T_beginsConcept c4 w = some 1 ∧ f_T_holdsConcept w = some 0) ∨ (∃ i, 5 ≤ i ∧ i < 10 ∧ c4 = 3 ∧ m3 = 1 ∧ q = nI i ∧ w = lN (kww.getD i 0) ∧ f_T_beginsConcept c4 w = some 1 ∧ f_T_holdsConcept w = some (if i < 8 then 1 else 0)) ∨ (¬ c4 = 4 ∧ f_T_beginsConcept c4 w = some 0 ∧ (¬ m3 = 1 ∨ ∃ i, i < 5 ∧ q = nI i))))) := by
  obtain ⟨q, q1, q2⟩ := kept_eq hN H T
  refine ⟨q, q1, ?_⟩
  have S40 := w_sign T (s := 40) (by omega)
  have hh : ∀ v : Int64, ¬ v = lN 7237492 → ¬ v = lN 1936682341 → ¬ v = lN 435778056825 → ¬ v = lN 40 → f_T_holdsConcept v = some 0 := fun v a b c d => by
    unfold f_T_holdsConcept
    rw [if_neg (show ¬ v = (7237492 : Int64) from a), if_neg (show ¬ v = (1936682341 : Int64) from b), if_neg (show ¬ v = (435778056825 : Int64) from c), if_neg (show ¬ v = (40 : Int64) from d)]
  by_cases h40 : w = lN 40
  · obtain ⟨s1, s2⟩ := S40.1.mp h40
    obtain ⟨s3, s4⟩ := S40.2 h40
    refine Or.inl ⟨h40, s3, s1, s2, s4, ?_, ?_⟩
    · rw [s3, h40]; decide
    · rw [h40]; decide
  · refine Or.inr ⟨h40, ?_, ?_⟩
    · unfold f_M_isSignHere
      by_cases h : m3 = 2
      · rw [if_pos h, if_neg (show ¬ m6 = (40 : Int32) from fun z => h40 (S40.1.mpr ⟨h, z⟩))]
      · rw [if_neg h]
    · rcases q2 with ⟨k1, k2⟩ | ⟨i, i1, i2, i3⟩
      · have ne : ∀ i, i < 10 → ¬ w = lN (kww.getD i 0) := fun i hi z => by
          rw [z] at k2; exact tf (kwB_of hi) k2
        have hl := hh w (ne 5 (by decide)) (ne 6 (by decide)) (ne 7 (by decide)) h40
        by_cases h4 : c4 = 4
        · obtain ⟨sz, a1, a2, a3, a4, -⟩ := T.free.1 h4
          refine Or.inl ⟨h4, a4, k1, ?_, hl⟩
          unfold f_T_beginsConcept
          rw [if_pos h4]
        · refine Or.inr (Or.inr ⟨h4, ?_, Or.inl (fun z => tf (T.free.2 h4 z) k2)⟩)
          unfold f_T_beginsConcept
          rw [if_neg h4, if_neg (show ¬ w = (7630704 : Int64) from ne 8 (by decide)), if_neg (show ¬ w = (108230834679661 : Int64) from ne 9 (by decide)), hl, Option.bind_some, if_pos rfl]
      · obtain ⟨s1, s2, s3, -⟩ := w_kept T (by rw [i3]; exact kwB_of i1)
        by_cases h5 : 5 ≤ i
        · refine Or.inr (Or.inl ⟨i, h5, i1, s1, s2, i2, i3, ?_, ?_⟩)
          · rw [s1, i3]
            have : ∀ i, i < 10 → 5 ≤ i → f_T_beginsConcept 3 (lN (kww.getD i 0)) = some 1 := by decide +kernel
            exact this i i1 h5
          · rw [i3]
            have : ∀ i, i < 10 → 5 ≤ i → f_T_holdsConcept (lN (kww.getD i 0)) = some (if i < 8 then 1 else 0) := by decide +kernel
            exact this i i1 h5
        · refine Or.inr (Or.inr ⟨by rw [s1]; decide, ?_, Or.inr ⟨i, by omega, i2⟩⟩)
          rw [s1, i3]
          have : ∀ i, i < 5 → f_T_beginsConcept 3 (lN (kww.getD i 0)) = some 0 := by decide +kernel
          exact this i (by omega)
