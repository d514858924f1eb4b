/-! goes and edge, of both; small sets of bits as numbers -/
theorem nI_bv (a : Nat) : (nI a).toBitVec = BitVec.ofNat 32 a := rfl
theorem nI_and (a b : Nat) : nI a &&& nI b = nI (a &&& b) := by
  rw [← Int32.toBitVec_inj]
  show BitVec.ofNat 32 a &&& BitVec.ofNat 32 b = BitVec.ofNat 32 (a &&& b)
  apply BitVec.eq_of_getLsbD_eq
  intro i hi
  rw [BitVec.getLsbD_and, BitVec.getLsbD_ofNat, BitVec.getLsbD_ofNat, BitVec.getLsbD_ofNat, Nat.testBit_and]
  simp [hi]
theorem nI_or (a b : Nat) : nI a ||| nI b = nI (a ||| b) := by
  rw [← Int32.toBitVec_inj]
  show BitVec.ofNat 32 a ||| BitVec.ofNat 32 b = BitVec.ofNat 32 (a ||| b)
  apply BitVec.eq_of_getLsbD_eq
  intro i hi
  rw [BitVec.getLsbD_or, BitVec.getLsbD_ofNat, BitVec.getLsbD_ofNat, BitVec.getLsbD_ofNat, Nat.testBit_or]
  simp [hi]
theorem tbit511 (k : Nat) : (511 : Nat).testBit k = decide (k < 9) := by
  rw [show (511 : Nat) = 2 ^ 9 - 1 from rfl, Nat.testBit_two_pow_sub_one]
theorem lt512_bit {a k : Nat} (ha : a < 512) (hk : 9 ≤ k) : a.testBit k = false :=
  Nat.testBit_lt_two_pow (Nat.lt_of_lt_of_le ha (show 2 ^ 9 ≤ 2 ^ k from Nat.pow_le_pow_right (by decide) hk))
/-- a without what is in t -/
theorem nI_andn {a t : Nat} (ha : a < 512) (ht : t < 512) : nI a &&& (nI t ^^^ (-1 : Int32)) = nI (a &&& (511 ^^^ t)) := by
  rw [← Int32.toBitVec_inj]
  show BitVec.ofNat 32 a &&& (BitVec.ofNat 32 t ^^^ (-1#32)) = BitVec.ofNat 32 (a &&& (511 ^^^ t))
  apply BitVec.eq_of_getLsbD_eq
  intro i hi
  rw [BitVec.getLsbD_and, BitVec.getLsbD_xor, BitVec.getLsbD_ofNat, BitVec.getLsbD_ofNat, BitVec.getLsbD_ofNat, Nat.testBit_and, Nat.testBit_xor, tbit511, show (-1#32) = BitVec.allOnes 32 from by decide, BitVec.getLsbD_allOnes]
  rcases Nat.lt_or_ge i 9 with q | q
  · simp [hi, q]
  · rw [lt512_bit ha q]; simp
theorem andn_lt {a t : Nat} (ha : a < 512) : a &&& (511 ^^^ t) < 512 := Nat.lt_of_le_of_lt Nat.and_le_left ha
theorem andn_bit {a t k : Nat} (ha : a < 512) : (a &&& (511 ^^^ t)).testBit k = (a.testBit k && !(t.testBit k)) := by
  rw [Nat.testBit_and, Nat.testBit_xor, tbit511]
  rcases Nat.lt_or_ge k 9 with q | q
  · simp [q]
  · rw [lt512_bit ha q]; simp
theorem zero_iff {a : Nat} (ha : a < 512) : nI a = 0 ↔ ∀ k, k < 9 → a.testBit k = false := by
  rw [show (0 : Int32) = nI 0 from rfl, nI_eq (by omega) (by decide)]
  constructor
  · intro h k _; rw [h]; simp
  · intro h
    apply Nat.eq_of_testBit_eq
    intro i
    rcases Nat.lt_or_ge i 9 with q | q
    · rw [h i q]; simp
    · rw [lt512_bit ha q]; simp
/-- what each type has of the roles' atoms, of both: X of atom k -/
def RPt (n : Nat) (pt : Nat → Int64) (ax : Nat → Int32) : Prop := ∀ t, t < 2 ^ n → ∃ A : Nat, A < 2 ^ n ∧ ax t = nI A ∧ ∀ k, k < n → (tb pt (k * 8) t = true ↔ A.testBit k = true)
/-- a row of three sets of atoms, of both -/
def RFar (n : Nat) (f g : Nat → Int32) : Prop := ∀ r, r < 3 → ∃ F : Nat, F < 2 ^ n ∧ f r = nI F ∧ g r = nI F
theorem ld_loop {N n B t A : Nat} {pt : Nat → Int64} {far : Nat → Int32} (hn : n ≤ 9) (ht : t < 512) (hB : B < 2 ^ n) (hA : ∀ k, k < n → (tb pt (k * 8) t = true ↔ A.testBit k = true)) : ∀ (d i k : Nat), k + d = 9 → d < i → (∀ j, j < k → ¬ (B.testBit j = true ∧ A.testBit j = true)) → ∃ r : Int32, f_K_leads_26 N pt far (nI t) (nI B) i (nI k) = some r ∧ isZ r ∧ (r = 1 ↔ ∀ j, j < 9 → ¬ (B.testBit j = true ∧ A.testBit j = true)) := by
  have h9 := pw9_le n (by omega)
  intro d
  induction d with
  | zero =>
    intro i k hk hi hs
    obtain ⟨i, rfl⟩ : ∃ k, i = k + 1 := ⟨i - 1, by omega⟩
    rw [f_K_leads_26, if_pos (show (9 : Int32) ≤ nI k from nI_le (show 9 ≤ k by omega) (by omega))]
    exact ⟨1, rfl, Or.inr rfl, ⟨fun _ j hj => hs j (by omega), fun _ => rfl⟩⟩
  | succ d ih =>
    intro i k hk hi hs
    obtain ⟨i, rfl⟩ : ∃ k, i = k + 1 := ⟨i - 1, by omega⟩
    have go := ih i (k + 1) (by omega) (by omega)
    have ext : ¬ (B.testBit k = true ∧ A.testBit k = true) → ∀ j, j < k + 1 → ¬ (B.testBit j = true ∧ A.testBit j = true) := fun hx j hj => by
      by_cases e : j = k
      · subst e; exact hx
      · exact hs j (by omega)
    have hb := mbit1 (t := B) (x := k) (by omega) (by omega)
    rw [f_K_leads_26, if_neg (show ¬ (9 : Int32) ≤ nI k from nI_ge (show k < 9 by omega) (by decide)), nI_m]
    by_cases h1 : B.testBit k = true
    · have hkn : k < n := by
        rcases Nat.lt_or_ge k n with q | q
        · exact q
        · rw [Nat.testBit_lt_two_pow (Nat.lt_of_lt_of_le hB (Nat.pow_le_pow_right (by decide) q))] at h1; cases h1
      have e7 : ((nI t >>> ((6 : Int32) &&& 31)) &&& (7 : Int32)) = nI (t / 64) := by
        rw [shr6 (by omega), pk_andN (show t / 64 < 2 ^ 32 by omega) 3 (by decide)]
        rw [Nat.mod_eq_of_lt (show t / 64 < 2 ^ 3 by omega)]
      have e8 : (nI k * (8 : Int32)) + nI (t / 64) = nI (k * 8 + t / 64) := by
        rw [show (8 : Int32) = nI 8 from rfl, pk_mul, nI_add]
      rw [if_pos (hb.1.mpr h1), e7, e8, if_neg (nI_g (show k * 8 + t / 64 < 72 by omega) (by decide)), nI_cl (by omega)]
      have hbt := bt_test (pt (k * 8 + t / 64)) (t := t) (by omega)
      by_cases h2 : A.testBit k = true
      · rw [if_pos (hbt.mpr ((hA k hkn).mpr h2))]
        exact ⟨0, rfl, Or.inl rfl, ⟨fun e => absurd e (by decide), fun H => absurd ⟨h1, h2⟩ (H k (by omega))⟩⟩
      · rw [if_neg (fun q => h2 ((hA k hkn).mp (hbt.mp q)))]
        exact go (ext (fun q => h2 q.2))
    · rw [if_neg (fun q => h1 (hb.1.mp q))]
      exact go (ext (fun q => h1 q.1))
theorem goes_eq {N n nr : Nat} {pt : Nat → Int64} {ax f g : Nat → Int32} (hN : 100000 ≤ N) (hn : n ≤ 9) (hr : nr ≤ 3) (hp : RPt n pt ax) (hf : RFar n f g) (a b c : Int32) : ∃ r : Int32, f_X_goes N a b c 1 (nI nr) (nI (2 ^ n)) pt f = some r ∧ f_M_goes a b c (nI nr) (nI n) 1 ax g = some r := by
  have h9 := pw9_le n (by omega)
  unfold f_X_goes f_M_goes
  rw [if_neg i1z, if_neg i1z, K_isType_eq (by omega), K_isType_eq (by omega), M_noT_eq hn, M_noT_eq hn]
  simp only [Option.bind_some]
  by_cases h1 : ∃ j : Nat, j < 2 ^ n ∧ a = nI j
  · rw [if_pos h1, if_pos h1, if_neg i1z, if_pos rfl]
    by_cases h2 : ∃ j : Nat, j < 2 ^ n ∧ c = nI j
    · rw [if_pos h2, if_pos h2, if_neg i1z, if_pos rfl, M_in_last (by omega), Option.bind_some]
      by_cases h3 : ∃ j : Nat, j < nr ∧ b = nI j
      · rw [if_pos h3, if_neg i1z]
        obtain ⟨t, ht, rfl⟩ := h1
        obtain ⟨u, hu, rfl⟩ := h2
        obtain ⟨r, hr1, rfl⟩ := h3
        obtain ⟨A, hA, ea, hA2⟩ := hp u hu
        obtain ⟨F, hF, ef, eg⟩ := hf r (by omega)
        rw [if_neg (nI_pos (by omega)), if_pos (nI_lt hr1 (by omega))]
        unfold f_K_leads f_M_goesTo
        rw [if_neg (nI_pos (by omega)), if_pos (show nI r < (3 : Int32) from nI_lt (show r < 3 by omega) (by decide)), if_neg (nI_g (show r < 3 by omega) (by decide)), if_neg (nI_g (show u < 512 by omega) (by decide)), if_neg (nI_g (show r < 3 by omega) (by decide)), nI_cl (by omega), nI_cl (by omega), ef, eg, ea, nI_andn (by omega) (by omega), nI_and, nI_andn (Nat.lt_of_le_of_lt Nat.and_le_left (by omega)) (by omega)]
        obtain ⟨v, v1, v2, v3⟩ := ld_loop (N := N) (pt := pt) (far := f) (B := F &&& (511 ^^^ t)) (t := u) (A := A) hn (by omega) (Nat.lt_of_le_of_lt Nat.and_le_left hF) hA2 9 N 0 (by omega) (by omega) (fun j hj => absurd hj (by omega))
        have v1' : f_K_leads_26 N pt f (nI u) (nI (F &&& (511 ^^^ t))) N (0 : Int32) = some v := v1
        rw [v1', Option.bind_some, X_one_z v2, Option.bind_some]
        refine ⟨v, rfl, ?_⟩
        have hz : (nI ((A &&& F) &&& (511 ^^^ t)) = 0) ↔ ∀ j, j < 9 → ¬ ((F &&& (511 ^^^ t)).testBit j = true ∧ A.testBit j = true) := by
          rw [zero_iff (Nat.lt_of_le_of_lt Nat.and_le_left (Nat.lt_of_le_of_lt Nat.and_le_left (by omega)))]
          constructor
          · intro H j hj
            have := H j hj
            rw [andn_bit (Nat.lt_of_le_of_lt Nat.and_le_left (by omega)), Nat.testBit_and] at this
            rw [andn_bit (by omega)]
            intro q
            rw [q.2] at this
            simp only [Bool.true_and] at this
            rw [this] at q
            exact absurd q.1 (by decide)
          · intro H j hj
            have := H j hj
            rw [andn_bit (by omega)] at this
            rw [andn_bit (Nat.lt_of_le_of_lt Nat.and_le_left (by omega)), Nat.testBit_and]
            cases ha : A.testBit j
            · rfl
            · rw [ha] at this
              simp only [and_true] at this
              simpa using this
        by_cases hq : nI ((A &&& F) &&& (511 ^^^ t)) = 0
        · rw [if_pos hq, Option.bind_some, if_neg i1z, v3.mpr (hz.mp hq)]
        · rw [if_neg hq, Option.bind_some, if_pos rfl]
          rcases v2 with q | q
          · rw [q]
          · exact absurd (hz.mpr (v3.mp q)) hq
      · rw [if_neg h3, if_pos rfl]
        refine ⟨-103, ?_, rfl⟩
        by_cases q1 : b < 0
        · rw [if_pos q1]
        · rw [if_neg q1, if_neg]
          intro q2
          obtain ⟨j, hj, rfl⟩ := nI_of q1
          exact h3 ⟨j, (nI_ltI hj (by omega)).mp q2, rfl⟩
    · rw [if_neg h2, if_neg h2, if_pos rfl, if_neg i1z]
      exact ⟨_, rfl, rfl⟩
  · rw [if_neg h1, if_neg h1, if_pos rfl, if_neg i1z]
    exact ⟨_, rfl, rfl⟩
/-- the edges of both: packed, and in three rows -/
def REd (k : Nat) (e : Nat → Int32) (m1 m2 m3 : Nat → Int32) : Prop := ∀ j, j < k → ∃ a b r : Nat, a < 1024 ∧ b < 1024 ∧ r < 3 ∧ e j = nI (a + 1024 * b + 1048576 * r) ∧ m1 j = nI a ∧ m2 j = nI b ∧ m3 j = nI r
theorem edge_eq {k : Nat} {e m1 m2 m3 : Nat → Int32} (hk : k ≤ 2304) (h : REd k e m1 m2 m3) (a w : Int32) : ∃ r : Int32, f_X_edge a w 1 (nI k) e = some r ∧ f_M_edge a w 1 (nI k) m1 m2 m3 = some r := by
  unfold f_X_edge f_M_edge
  rw [if_neg i1z, if_neg i1z, M_in_last (by omega), Option.bind_some]
  by_cases h1 : ∃ j : Nat, j < k ∧ a = nI j
  · rw [if_pos h1, if_neg i1z]
    obtain ⟨j, hj, rfl⟩ := h1
    obtain ⟨x, y, r, hx, hy, hr, e0, e1, e2, e3⟩ := h j hj
    have he : f_W_edgeAt (nI j) (nI k) e = some (nI (x + 1024 * y + 1048576 * r)) := by
      unfold f_W_edgeAt
      rw [if_neg (nI_pos (by omega)), if_neg (nI_ge hj (by omega)), if_neg (nI_g (show j < 2304 by omega) (by decide)), nI_cl (by omega), e0]
    rw [if_neg (nI_pos (by omega)), if_pos (nI_lt hj (by omega))]
    unfold f_W_from f_W_to f_W_role
    rw [he]
    simp only [Option.bind_some]
    have q1 : nI (x + 1024 * y + 1048576 * r) &&& (1023 : Int32) = nI x := by
      rw [pk_andN (by omega) 10 (by decide)]
      rw [show (x + 1024 * y + 1048576 * r) % 2 ^ 10 = x by omega]
    have q2 : (nI (x + 1024 * y + 1048576 * r) >>> ((10 : Int32) &&& 31)) &&& (1023 : Int32) = nI y := by
      rw [pk_shrN (k := 10) (by omega) _ (by decide), pk_andN (Nat.lt_of_le_of_lt (Nat.div_le_self _ _) (by omega)) 10 (by decide)]
      rw [show (x + 1024 * y + 1048576 * r) / 2 ^ 10 % 2 ^ 10 = y by omega]
    have q3 : nI (x + 1024 * y + 1048576 * r) >>> ((20 : Int32) &&& 31) = nI r := by
      rw [pk_shrN (k := 20) (by omega) _ (by decide)]
      rw [show (x + 1024 * y + 1048576 * r) / 2 ^ 20 = r by omega]
    rw [q1, q2, q3]
    have g : ¬ (nI j < 0 ∨ 4700 ≤ (nI j).toNatClampNeg) := nI_g (show j < 4700 by omega) (by decide)
    by_cases w0 : w = 0
    · rw [if_pos w0, if_pos w0, if_neg g, nI_cl (by omega), e1]; exact ⟨_, rfl, rfl⟩
    · rw [if_neg w0, if_neg w0]
      by_cases w1 : w = 1
      · rw [if_pos w1, if_pos w1, if_neg g, nI_cl (by omega), e2]; exact ⟨_, rfl, rfl⟩
      · rw [if_neg w1, if_neg w1]
        by_cases w2 : w = 2
        · rw [if_pos w2, if_pos w2, if_neg g, nI_cl (by omega), e3]; exact ⟨_, rfl, rfl⟩
        · rw [if_neg w2, if_neg w2]; exact ⟨_, rfl, rfl⟩
  · rw [if_neg h1, if_pos rfl]
    refine ⟨-102, ?_, rfl⟩
    by_cases q1 : a < 0
    · rw [if_pos q1]
    · rw [if_neg q1, if_neg]
      intro q2
      obtain ⟨j, hj, rfl⟩ := nI_of q1
      exact h1 ⟨j, (nI_ltI hj (by omega)).mp q2, rfl⟩
