/-! kinds of both; a call's least answer -/
def RKd (n nr S : Nat) (c5 k5 k6 m60 m59 m29 : Nat → Int32) (pt : Nat → Int64) (ax : Nat → Int32) : Prop :=
  n ≤ 9 ∧ nr ≤ 3 ∧ S < 8 ∧ RPt n pt ax ∧ RFar n k6 m59 ∧
  (∀ r, r < 3 → ∃ O : Nat, O < 2 ^ n ∧ k5 r = nI O ∧ m60 r = nI O ∧ ∀ k, k < n → (O.testBit k = true ↔ c5 k = nI r)) ∧
  (∀ k, k < n → c5 k = -1 ∨ ∃ r : Nat, r < nr ∧ c5 k = nI r) ∧
  (∀ r, r < nr → m29 r = if S.testBit r = true then 1 else 0)
theorem bit_lt {a n k : Nat} (ha : a < 2 ^ n) (h : a.testBit k = true) : k < n := by
  rcases Nat.lt_or_ge k n with q | q
  · exact q
  · rw [Nat.testBit_lt_two_pow (Nat.lt_of_lt_of_le ha (Nat.pow_le_pow_right (by decide) q))] at h; cases h
theorem pw_bit {k j : Nat} : (2 ^ k).testBit j = decide (k = j) := Nat.testBit_two_pow
theorem B_single_eq {S R : Nat} (hS : S < 8) (hR : R < 3) : f_B_isSingle (nI R) (nI S) = some (if S.testBit R = true then 1 else 0) := by
  unfold f_B_isSingle
  have hb := mbit1 (t := S) (x := R) (by omega) (by omega)
  by_cases h : S.testBit R = true
  · rw [if_pos (hb.1.mpr h), if_pos h]
  · rw [if_neg (fun q => h (hb.1.mp q)), if_neg h]
/-- what is wanted, and what is barred, is what the model asks -/
theorem ck_iff {n t W F A u : Nat} {pt : Nat → Int64} (hn : n ≤ 9) (hW : W < 2 ^ n) (hF : F < 2 ^ n) (hWt : ∀ j, W.testBit j = true → t.testBit j = true) (hA : ∀ k, k < n → (tb pt (k * 8) u = true ↔ A.testBit k = true)) (hA2 : A < 512) : (∀ j, j < 9 → Ck W (F &&& (511 ^^^ t)) pt j u) ↔ ((A &&& F) &&& (511 ^^^ t) = 0 ∧ A &&& W = W) := by
  have h9 := pw9_le n (by omega)
  constructor
  · intro h
    refine ⟨?_, ?_⟩
    · apply Nat.eq_of_testBit_eq
      intro j
      rw [andn_bit (Nat.lt_of_le_of_lt Nat.and_le_left hA2), Nat.testBit_and, Nat.zero_testBit]
      cases hFj : F.testBit j
      · simp
      · cases htj : t.testBit j
        · have hjn := bit_lt hF hFj
          have h1 := h j (by omega)
          unfold Ck at h1
          have hWj : ¬ W.testBit j = true := fun q => by rw [hWt j q] at htj; cases htj
          rw [if_neg hWj] at h1
          have h2 := h1 (by rw [andn_bit (by omega), hFj, htj]; rfl)
          rw [hA j hjn] at h2
          cases hAj : A.testBit j
          · rfl
          · exact absurd hAj h2
        · simp
    · apply Nat.eq_of_testBit_eq
      intro j
      rw [Nat.testBit_and]
      cases hWj : W.testBit j
      · simp
      · have hjn := bit_lt hW hWj
        have h1 := h j (by omega)
        unfold Ck at h1
        rw [if_pos hWj, hA j hjn] at h1
        rw [h1]; rfl
  · rintro ⟨h1, h2⟩ j hj
    unfold Ck
    by_cases hWj : W.testBit j = true
    · rw [if_pos hWj, hA j (bit_lt hW hWj)]
      have h3 := congrArg (fun z => Nat.testBit z j) h2
      simp only [Nat.testBit_and, hWj, Bool.and_true] at h3
      exact h3
    · rw [if_neg hWj]
      intro hB
      rw [andn_bit (by omega), Bool.and_eq_true] at hB
      have hjn := bit_lt hF hB.1
      rw [hA j hjn]
      intro hAj
      have h3 := congrArg (fun z => Nat.testBit z j) h1
      simp only [Nat.zero_testBit] at h3
      rw [andn_bit (Nat.lt_of_le_of_lt Nat.and_le_left hA2), Nat.testBit_and, hAj, hB.1, hB.2] at h3
      cases h3
theorem meet_before {N n nr S t k R O : Nat} {c5 k5 k6 m60 m59 m29 ax sd : Nat → Int32} {pt row : Nat → Int64} (hN : 100000 ≤ N) (H : RKd n nr S c5 k5 k6 m60 m59 m29 pt ax) (hs : RSt n row sd) (ht : t < 2 ^ n) (hk : k < n) (hb : t.testBit k = true) (hR : R < nr) (hc : c5 k = nI R) (hO : k5 R = nI O) (hO2 : O < 2 ^ n) : ∃ r : Int32, f_K_leastMeeting_before N (nI t) (nI k) (nI S) (nI n) c5 pt row k5 k6 = some r ∧ f_M_leastTo_stood N (nI t) (nI R) (nI (if S.testBit R = true then O &&& t else 2 ^ k)) (nI n) ax m59 sd = some r ∧ (r = -1 ∨ ∃ u : Nat, u < 2 ^ n ∧ r = nI u ∧ sd u = 1) := by
  obtain ⟨hn, hnr, hS, hp, hf, ho, hcs, h29⟩ := H
  have h9 := pw9_le n (by omega)
  obtain ⟨F, hF, ef, eg⟩ := hf R (by omega)
  have hW : (if S.testBit R = true then O &&& t else 2 ^ k) < 2 ^ n := by
    by_cases h : S.testBit R = true
    · rw [if_pos h]; exact Nat.lt_of_le_of_lt Nat.and_le_left hO2
    · rw [if_neg h]; exact Nat.pow_lt_pow_right (by decide) hk
  have hWt : ∀ j, (if S.testBit R = true then O &&& t else 2 ^ k).testBit j = true → t.testBit j = true := by
    intro j hj
    by_cases h : S.testBit R = true
    · rw [if_pos h, Nat.testBit_and, Bool.and_eq_true] at hj; exact hj.2
    · rw [if_neg h, pw_bit, decide_eq_true_eq] at hj; rw [← hj]; exact hb
  have hX : f_K_leastMeeting_before N (nI t) (nI k) (nI S) (nI n) c5 pt row k5 k6 = f_K_leastMeeting_before_68 N (nI S) (nI n) c5 pt row k5 k6 (nI (if S.testBit R = true then O &&& t else 2 ^ k)) (nI (F &&& (511 ^^^ t))) N (0 : Int32) := by
    unfold f_K_leastMeeting_before
    rw [C_roleOfAtom_eq hn hk, Option.bind_some, hc, if_neg (nI_pos (by omega)), if_pos (show nI R < (3 : Int32) from nI_lt (show R < 3 by omega) (by decide)), B_single_eq hS (by omega), Option.bind_some]
    have g : ¬ (nI R < 0 ∨ 3 ≤ (nI R).toNatClampNeg) := nI_g (show R < 3 by omega) (by decide)
    unfold f_K_leastMeeting_before_50
    rw [if_neg g, if_neg g, if_neg g, nI_cl (show R < 2147483648 by omega), ef, hO, nI_andn (by omega) (by omega), nI_and, pw9 k (by omega)]
    by_cases h : S.testBit R = true
    · rw [if_pos h, if_neg i1z, if_pos h]
    · rw [if_neg h, if_pos rfl, if_neg h]
  generalize (if S.testBit R = true then O &&& t else 2 ^ k) = W at *
  obtain ⟨r, e1, e2⟩ := lm_lp_before (N := N) (iB := nI S) (iC := nI n) (c5 := c5) (k5 := k5) (k6 := k6) (pt := pt) (row := row) (W := W) (B := F &&& (511 ^^^ t)) hN (by omega) (andn_lt (by omega)) 8 N 0 (by omega) (by omega) (fun u hu => absurd hu (by omega))
  obtain ⟨r', g1, g2⟩ := lt_loop_stood (N := N) (n := n) (T := t) (R := R) (F := F) (W := W) (ax := ax) (g := m59) (row := sd) hn (by omega) eg (by omega) (by omega) (by omega) (fun u hu => by obtain ⟨A, a1, a2, -⟩ := hp u hu; exact ⟨A, by omega, a2⟩) (2 ^ n) N 0 (by omega) (by omega) (fun u hu => absurd hu (by omega))
  have er : r' = r := g2.uniq e2 h9 (fun u hu => by
    obtain ⟨A, a1, a2, a3⟩ := hp u hu
    have q1 := hs.1 u hu
    have hck := ck_iff (t := t) hn hW hF hWt a3 (by omega)
    rw [hck, q1.2]
    constructor
    · rintro ⟨b1, A', b2, b3, b4, b5⟩
      have : A' = A := (nI_eq (by omega) (by omega)).mp (b3.symm.trans a2)
      subst this
      refine ⟨?_, b4, b5⟩
      rcases q1.1 with z | z
      · exact absurd z b1
      · exact z
    · rintro ⟨b1, b4, b5⟩
      exact ⟨by rw [b1]; decide, A, by omega, a2, b4, b5⟩) (fun u h1 h2 z => by rw [hs.2 u h1 h2] at z; exact absurd z.1 (by decide))
  subst er
  refine ⟨r', hX.trans e1, g1, ?_⟩
  rcases g2 with ⟨u, b1, b2, b3, -⟩ | ⟨b1, -⟩
  · refine Or.inr ⟨u, b1, b2, ?_⟩
    rcases (hs.1 u b1).1 with z | z
    · exact absurd z b3.1
    · exact z
  · exact Or.inl b1
theorem meet_standing {N n nr S t k R O : Nat} {c5 k5 k6 m60 m59 m29 ax sd : Nat → Int32} {pt row : Nat → Int64} (hN : 100000 ≤ N) (H : RKd n nr S c5 k5 k6 m60 m59 m29 pt ax) (hs : RSt n row sd) (ht : t < 2 ^ n) (hk : k < n) (hb : t.testBit k = true) (hR : R < nr) (hc : c5 k = nI R) (hO : k5 R = nI O) (hO2 : O < 2 ^ n) : ∃ r : Int32, f_K_leastMeeting_standing N (nI t) (nI k) (nI S) (nI n) c5 pt row k5 k6 = some r ∧ f_M_leastTo_stands N (nI t) (nI R) (nI (if S.testBit R = true then O &&& t else 2 ^ k)) (nI n) ax m59 sd = some r ∧ (r = -1 ∨ ∃ u : Nat, u < 2 ^ n ∧ r = nI u ∧ sd u = 1) := by
  obtain ⟨hn, hnr, hS, hp, hf, ho, hcs, h29⟩ := H
  have h9 := pw9_le n (by omega)
  obtain ⟨F, hF, ef, eg⟩ := hf R (by omega)
  have hW : (if S.testBit R = true then O &&& t else 2 ^ k) < 2 ^ n := by
    by_cases h : S.testBit R = true
    · rw [if_pos h]; exact Nat.lt_of_le_of_lt Nat.and_le_left hO2
    · rw [if_neg h]; exact Nat.pow_lt_pow_right (by decide) hk
  have hWt : ∀ j, (if S.testBit R = true then O &&& t else 2 ^ k).testBit j = true → t.testBit j = true := by
    intro j hj
    by_cases h : S.testBit R = true
    · rw [if_pos h, Nat.testBit_and, Bool.and_eq_true] at hj; exact hj.2
    · rw [if_neg h, pw_bit, decide_eq_true_eq] at hj; rw [← hj]; exact hb
  have hX : f_K_leastMeeting_standing N (nI t) (nI k) (nI S) (nI n) c5 pt row k5 k6 = f_K_leastMeeting_standing_68 N (nI S) (nI n) c5 pt row k5 k6 (nI (if S.testBit R = true then O &&& t else 2 ^ k)) (nI (F &&& (511 ^^^ t))) N (0 : Int32) := by
    unfold f_K_leastMeeting_standing
    rw [C_roleOfAtom_eq hn hk, Option.bind_some, hc, if_neg (nI_pos (by omega)), if_pos (show nI R < (3 : Int32) from nI_lt (show R < 3 by omega) (by decide)), B_single_eq hS (by omega), Option.bind_some]
    have g : ¬ (nI R < 0 ∨ 3 ≤ (nI R).toNatClampNeg) := nI_g (show R < 3 by omega) (by decide)
    unfold f_K_leastMeeting_standing_50
    rw [if_neg g, if_neg g, if_neg g, nI_cl (show R < 2147483648 by omega), ef, hO, nI_andn (by omega) (by omega), nI_and, pw9 k (by omega)]
    by_cases h : S.testBit R = true
    · rw [if_pos h, if_neg i1z, if_pos h]
    · rw [if_neg h, if_pos rfl, if_neg h]
  generalize (if S.testBit R = true then O &&& t else 2 ^ k) = W at *
  obtain ⟨r, e1, e2⟩ := lm_lp_standing (N := N) (iB := nI S) (iC := nI n) (c5 := c5) (k5 := k5) (k6 := k6) (pt := pt) (row := row) (W := W) (B := F &&& (511 ^^^ t)) hN (by omega) (andn_lt (by omega)) 8 N 0 (by omega) (by omega) (fun u hu => absurd hu (by omega))
  obtain ⟨r', g1, g2⟩ := lt_loop_stands (N := N) (n := n) (T := t) (R := R) (F := F) (W := W) (ax := ax) (g := m59) (row := sd) hn (by omega) eg (by omega) (by omega) (by omega) (fun u hu => by obtain ⟨A, a1, a2, -⟩ := hp u hu; exact ⟨A, by omega, a2⟩) (2 ^ n) N 0 (by omega) (by omega) (fun u hu => absurd hu (by omega))
  have er : r' = r := g2.uniq e2 h9 (fun u hu => by
    obtain ⟨A, a1, a2, a3⟩ := hp u hu
    have q1 := hs.1 u hu
    have hck := ck_iff (t := t) hn hW hF hWt a3 (by omega)
    rw [hck, q1.2]
    constructor
    · rintro ⟨b1, A', b2, b3, b4, b5⟩
      have : A' = A := (nI_eq (by omega) (by omega)).mp (b3.symm.trans a2)
      subst this
      refine ⟨?_, b4, b5⟩
      rcases q1.1 with z | z
      · exact absurd z b1
      · exact z
    · rintro ⟨b1, b4, b5⟩
      exact ⟨by rw [b1]; decide, A, by omega, a2, b4, b5⟩) (fun u h1 h2 z => by rw [hs.2 u h1 h2] at z; exact absurd z.1 (by decide))
  subst er
  refine ⟨r', hX.trans e1, g1, ?_⟩
  rcases g2 with ⟨u, b1, b2, b3, -⟩ | ⟨b1, -⟩
  · refine Or.inr ⟨u, b1, b2, ?_⟩
    rcases (hs.1 u b1).1 with z | z
    · exact absurd z b3.1
    · exact z
  · exact Or.inl b1
