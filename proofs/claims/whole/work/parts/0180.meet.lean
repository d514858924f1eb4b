/-! the least type that meets a call, of both -/
theorem land_zero_bit {w : Int64} (h : w = 0) (b : Nat) : ¬ w.toBitVec.getLsbD b = true := by rw [zero_bits h]; simp
/-- what atom j asks of a type: wanted, or barred -/
def Ck (W B : Nat) (pt : Nat → Int64) (j u : Nat) : Prop := if W.testBit j = true then tb pt (j * 8) u = true else (B.testBit j = true → ¬ tb pt (j * 8) u = true)
theorem lm_in_before {N W B w : Nat} {iB iC : Int32} {c5 k5 k6 : Nat → Int32} {pt row : Nat → Int64} {k68 : Int32 → Option Int32} (hW : W < 512) (hB : B < 512) (hw : w < 8) : ∀ (d i k : Nat) (v : Int64), k + d = 9 → d < i → ∃ v' : Int64, f_K_leastMeeting_before_91 N iB iC c5 pt row k5 k6 k68 (nI W) (nI B) (nI w) i v (nI k) = f_K_leastMeeting_before_176 N iB iC c5 pt row k5 k6 k68 (nI W) (nI B) (nI w) v' ∧ ∀ b, b < 64 → (v'.toBitVec.getLsbD b = true ↔ v.toBitVec.getLsbD b = true ∧ ∀ j, k ≤ j → j < 9 → Ck W B pt j (64 * w + b)) := by
  intro d
  induction d with
  | zero =>
    intro i k v hk hi
    obtain ⟨i, rfl⟩ : ∃ k, i = k + 1 := ⟨i - 1, by omega⟩
    rw [f_K_leastMeeting_before_91, if_pos (show (9 : Int32) ≤ nI k from nI_le (show 9 ≤ k by omega) (by omega))]
    exact ⟨v, rfl, fun b hb => ⟨fun h => ⟨h, fun j h1 h2 => by omega⟩, fun h => h.1⟩⟩
  | succ d ih =>
    intro i k v hk hi
    obtain ⟨i, rfl⟩ : ∃ k, i = k + 1 := ⟨i - 1, by omega⟩
    rw [f_K_leastMeeting_before_91, if_neg (show ¬ (9 : Int32) ≤ nI k from nI_ge (show k < 9 by omega) (by decide))]
    by_cases hv : v = 0
    · rw [if_pos hv]
      exact ⟨v, rfl, fun b hb => ⟨fun h => absurd h (land_zero_bit hv b), fun h => h.1⟩⟩
    · rw [if_neg hv]
      have e8 : (nI k * (8 : Int32)) + nI w = nI (k * 8 + w) := by
        rw [show (8 : Int32) = nI 8 from rfl, pk_mul, nI_add]
      have hbW := mbit1 (t := W) (x := k) hW (by omega)
      have hbB := mbit1 (t := B) (x := k) hB (by omega)
      have tbe : ∀ b, b < 64 → tb pt (k * 8) (64 * w + b) = (pt (k * 8 + w)).toBitVec.getLsbD b := by
        intro b hb
        unfold tb
        rw [show (64 * w + b) / 64 = w by omega, show (64 * w + b) % 64 = b by omega]
      have upt : ∀ b, (∀ j, k ≤ j → j < 9 → Ck W B pt j (64 * w + b)) ↔ (Ck W B pt k (64 * w + b) ∧ ∀ j, k + 1 ≤ j → j < 9 → Ck W B pt j (64 * w + b)) := fun b => ⟨fun h => ⟨h k (Nat.le_refl _) (by omega), fun j h1 h2 => h j (by omega) h2⟩, fun h j h1 h2 => by
        by_cases e : j = k
        · subst e; exact h.1
        · exact h.2 j (by omega) h2⟩
      rw [e8, nI_m]
      have g : ¬ (nI (k * 8 + w) < 0 ∨ 72 ≤ (nI (k * 8 + w)).toNatClampNeg) := nI_g (show k * 8 + w < 72 by omega) (by decide)
      rw [if_neg g, if_neg g, nI_cl (by omega)]
      by_cases h1 : W.testBit k = true
      · rw [if_pos (hbW.1.mpr h1)]
        obtain ⟨v', e1, e2⟩ := ih i (k + 1) (v &&& pt (k * 8 + w)) (by omega) (by omega)
        refine ⟨v', e1, fun b hb => ?_⟩
        rw [e2 b hb, upt b, land_bit, Bool.and_eq_true, ← tbe b hb]
        unfold Ck
        rw [if_pos h1, and_assoc]
      · rw [if_neg (fun q => h1 (hbW.1.mp q))]
        by_cases h2 : B.testBit k = true
        · rw [if_pos (hbB.1.mpr h2)]
          obtain ⟨v', e1, e2⟩ := ih i (k + 1) (v &&& (pt (k * 8 + w) ^^^ (-1 : Int64))) (by omega) (by omega)
          refine ⟨v', e1, fun b hb => ?_⟩
          rw [e2 b hb, upt b, land_bit, xnot_bit _ hb, Bool.and_eq_true, ← tbe b hb]
          have hc : Ck W B pt k (64 * w + b) ↔ (!(tb pt (k * 8) (64 * w + b))) = true := by
            unfold Ck
            rw [if_neg h1]
            cases tb pt (k * 8) (64 * w + b) <;> simp [h2]
          rw [hc, and_assoc]
        · rw [if_neg (fun q => h2 (hbB.1.mp q))]
          obtain ⟨v', e1, e2⟩ := ih i (k + 1) v (by omega) (by omega)
          refine ⟨v', e1, fun b hb => ?_⟩
          rw [e2 b hb, upt b]
          have hc : Ck W B pt k (64 * w + b) := by
            unfold Ck
            rw [if_neg h1]
            intro q; exact absurd q h2
          exact ⟨fun h => ⟨h.1, hc, h.2⟩, fun h => ⟨h.1, h.2.2⟩⟩
theorem lm_lp_before {N W B : Nat} {iB iC : Int32} {c5 k5 k6 : Nat → Int32} {pt row : Nat → Int64} (hN : 100000 ≤ N) (hW : W < 512) (hB : B < 512) : ∀ (d i w : Nat), w + d = 8 → d < i → (∀ u, u < 64 * w → ¬ (tb row 0 u = true ∧ ∀ j, j < 9 → Ck W B pt j u)) → ∃ r : Int32, f_K_leastMeeting_before_68 N iB iC c5 pt row k5 k6 (nI W) (nI B) i (nI w) = some r ∧ isLst (fun u => tb row 0 u = true ∧ ∀ j, j < 9 → Ck W B pt j u) 512 r := by
  intro d
  induction d with
  | zero =>
    intro i w hw hi hs
    obtain ⟨i, rfl⟩ : ∃ k, i = k + 1 := ⟨i - 1, by omega⟩
    rw [f_K_leastMeeting_before_68, if_pos (show (8 : Int32) ≤ nI w from nI_le (show 8 ≤ w by omega) (by omega))]
    exact ⟨-1, rfl, Or.inr ⟨rfl, fun s h => hs s (by omega)⟩⟩
  | succ d ih =>
    intro i w hw hi hs
    obtain ⟨i, rfl⟩ : ∃ k, i = k + 1 := ⟨i - 1, by omega⟩
    rw [f_K_leastMeeting_before_68, if_neg (show ¬ (8 : Int32) ≤ nI w from nI_ge (show w < 8 by omega) (by decide)), if_neg (show ¬ (8 : Int32) ≤ nI w from nI_ge (show w < 8 by omega) (by decide)), if_neg (nI_g (show w < 8 by omega) (by decide)), nI_cl (by omega)]
    obtain ⟨v, e1, e2⟩ := lm_in_before (N := N) (iB := iB) (iC := iC) (c5 := c5) (k5 := k5) (k6 := k6) (pt := pt) (row := row) (k68 := f_K_leastMeeting_before_68 N iB iC c5 pt row k5 k6 (nI W) (nI B) i) hW hB (show w < 8 by omega) 9 N 0 (row w) (by omega) (by omega)
    have e1' : f_K_leastMeeting_before_91 N iB iC c5 pt row k5 k6 (f_K_leastMeeting_before_68 N iB iC c5 pt row k5 k6 (nI W) (nI B) i) (nI W) (nI B) (nI w) N (row w) (0 : Int32) = _ := e1
    have bit : ∀ u, u / 64 = w → (v.toBitVec.getLsbD (u % 64) = true ↔ (tb row 0 u = true ∧ ∀ j, j < 9 → Ck W B pt j u)) := by
      intro u hu
      rw [e2 (u % 64) (Nat.mod_lt _ (by decide)), show 64 * w + u % 64 = u by omega]
      unfold tb
      rw [hu, Nat.zero_add]
      exact ⟨fun h => ⟨h.1, fun j hj => h.2 j (Nat.zero_le _) hj⟩, fun h => ⟨h.1, fun j _ hj => h.2 j hj⟩⟩
    rw [e1']
    unfold f_K_leastMeeting_before_176
    by_cases hv : v = 0
    · rw [if_pos hv, nI_m]
      refine ih i (w + 1) (by omega) (by omega) (fun u hu => ?_)
      rcases Nat.lt_or_ge u (64 * w) with q | q
      · exact hs u q
      · intro z
        exact land_zero_bit hv _ ((bit u (by omega)).mpr z)
    · rw [if_neg hv]
      obtain ⟨k, hk, h1, h0⟩ := low_ex hv
      rw [lowestBit_eq hk h1 h0, Option.bind_some]
      refine ⟨_, rfl, Or.inl ⟨64 * w + k, by omega, ?_, ?_, fun u hlt => ?_⟩⟩
      · rw [show (64 : Int32) = nI 64 from rfl, pk_mul, nI_add]
      · exact (bit (64 * w + k) (by omega)).mp (by rw [show (64 * w + k) % 64 = k by omega]; exact h1)
      · rcases Nat.lt_or_ge u (64 * w) with q | q
        · exact hs u q
        · intro z
          have h2 := (bit u (by omega)).mpr z
          rw [h0 (u % 64) (by omega)] at h2
          cases h2
theorem lm_in_standing {N W B w : Nat} {iB iC : Int32} {c5 k5 k6 : Nat → Int32} {pt row : Nat → Int64} {k68 : Int32 → Option Int32} (hW : W < 512) (hB : B < 512) (hw : w < 8) : ∀ (d i k : Nat) (v : Int64), k + d = 9 → d < i → ∃ v' : Int64, f_K_leastMeeting_standing_91 N iB iC c5 pt row k5 k6 k68 (nI W) (nI B) (nI w) i v (nI k) = f_K_leastMeeting_standing_176 N iB iC c5 pt row k5 k6 k68 (nI W) (nI B) (nI w) v' ∧ ∀ b, b < 64 → (v'.toBitVec.getLsbD b = true ↔ v.toBitVec.getLsbD b = true ∧ ∀ j, k ≤ j → j < 9 → Ck W B pt j (64 * w + b)) := by
  intro d
  induction d with
  | zero =>
    intro i k v hk hi
    obtain ⟨i, rfl⟩ : ∃ k, i = k + 1 := ⟨i - 1, by omega⟩
    rw [f_K_leastMeeting_standing_91, if_pos (show (9 : Int32) ≤ nI k from nI_le (show 9 ≤ k by omega) (by omega))]
    exact ⟨v, rfl, fun b hb => ⟨fun h => ⟨h, fun j h1 h2 => by omega⟩, fun h => h.1⟩⟩
  | succ d ih =>
    intro i k v hk hi
    obtain ⟨i, rfl⟩ : ∃ k, i = k + 1 := ⟨i - 1, by omega⟩
    rw [f_K_leastMeeting_standing_91, if_neg (show ¬ (9 : Int32) ≤ nI k from nI_ge (show k < 9 by omega) (by decide))]
    by_cases hv : v = 0
    · rw [if_pos hv]
      exact ⟨v, rfl, fun b hb => ⟨fun h => absurd h (land_zero_bit hv b), fun h => h.1⟩⟩
    · rw [if_neg hv]
      have e8 : (nI k * (8 : Int32)) + nI w = nI (k * 8 + w) := by
        rw [show (8 : Int32) = nI 8 from rfl, pk_mul, nI_add]
      have hbW := mbit1 (t := W) (x := k) hW (by omega)
      have hbB := mbit1 (t := B) (x := k) hB (by omega)
      have tbe : ∀ b, b < 64 → tb pt (k * 8) (64 * w + b) = (pt (k * 8 + w)).toBitVec.getLsbD b := by
        intro b hb
        unfold tb
        rw [show (64 * w + b) / 64 = w by omega, show (64 * w + b) % 64 = b by omega]
      have upt : ∀ b, (∀ j, k ≤ j → j < 9 → Ck W B pt j (64 * w + b)) ↔ (Ck W B pt k (64 * w + b) ∧ ∀ j, k + 1 ≤ j → j < 9 → Ck W B pt j (64 * w + b)) := fun b => ⟨fun h => ⟨h k (Nat.le_refl _) (by omega), fun j h1 h2 => h j (by omega) h2⟩, fun h j h1 h2 => by
        by_cases e : j = k
        · subst e; exact h.1
        · exact h.2 j (by omega) h2⟩
      rw [e8, nI_m]
      have g : ¬ (nI (k * 8 + w) < 0 ∨ 72 ≤ (nI (k * 8 + w)).toNatClampNeg) := nI_g (show k * 8 + w < 72 by omega) (by decide)
      rw [if_neg g, if_neg g, nI_cl (by omega)]
      by_cases h1 : W.testBit k = true
      · rw [if_pos (hbW.1.mpr h1)]
        obtain ⟨v', e1, e2⟩ := ih i (k + 1) (v &&& pt (k * 8 + w)) (by omega) (by omega)
        refine ⟨v', e1, fun b hb => ?_⟩
        rw [e2 b hb, upt b, land_bit, Bool.and_eq_true, ← tbe b hb]
        unfold Ck
        rw [if_pos h1, and_assoc]
      · rw [if_neg (fun q => h1 (hbW.1.mp q))]
        by_cases h2 : B.testBit k = true
        · rw [if_pos (hbB.1.mpr h2)]
          obtain ⟨v', e1, e2⟩ := ih i (k + 1) (v &&& (pt (k * 8 + w) ^^^ (-1 : Int64))) (by omega) (by omega)
          refine ⟨v', e1, fun b hb => ?_⟩
          rw [e2 b hb, upt b, land_bit, xnot_bit _ hb, Bool.and_eq_true, ← tbe b hb]
          have hc : Ck W B pt k (64 * w + b) ↔ (!(tb pt (k * 8) (64 * w + b))) = true := by
            unfold Ck
            rw [if_neg h1]
            cases tb pt (k * 8) (64 * w + b) <;> simp [h2]
          rw [hc, and_assoc]
        · rw [if_neg (fun q => h2 (hbB.1.mp q))]
          obtain ⟨v', e1, e2⟩ := ih i (k + 1) v (by omega) (by omega)
          refine ⟨v', e1, fun b hb => ?_⟩
          rw [e2 b hb, upt b]
          have hc : Ck W B pt k (64 * w + b) := by
            unfold Ck
            rw [if_neg h1]
            intro q; exact absurd q h2
          exact ⟨fun h => ⟨h.1, hc, h.2⟩, fun h => ⟨h.1, h.2.2⟩⟩
theorem lm_lp_standing {N W B : Nat} {iB iC : Int32} {c5 k5 k6 : Nat → Int32} {pt row : Nat → Int64} (hN : 100000 ≤ N) (hW : W < 512) (hB : B < 512) : ∀ (d i w : Nat), w + d = 8 → d < i → (∀ u, u < 64 * w → ¬ (tb row 0 u = true ∧ ∀ j, j < 9 → Ck W B pt j u)) → ∃ r : Int32, f_K_leastMeeting_standing_68 N iB iC c5 pt row k5 k6 (nI W) (nI B) i (nI w) = some r ∧ isLst (fun u => tb row 0 u = true ∧ ∀ j, j < 9 → Ck W B pt j u) 512 r := by
  intro d
  induction d with
  | zero =>
    intro i w hw hi hs
    obtain ⟨i, rfl⟩ : ∃ k, i = k + 1 := ⟨i - 1, by omega⟩
    rw [f_K_leastMeeting_standing_68, if_pos (show (8 : Int32) ≤ nI w from nI_le (show 8 ≤ w by omega) (by omega))]
    exact ⟨-1, rfl, Or.inr ⟨rfl, fun s h => hs s (by omega)⟩⟩
  | succ d ih =>
    intro i w hw hi hs
    obtain ⟨i, rfl⟩ : ∃ k, i = k + 1 := ⟨i - 1, by omega⟩
    rw [f_K_leastMeeting_standing_68, if_neg (show ¬ (8 : Int32) ≤ nI w from nI_ge (show w < 8 by omega) (by decide)), if_neg (show ¬ (8 : Int32) ≤ nI w from nI_ge (show w < 8 by omega) (by decide)), if_neg (nI_g (show w < 8 by omega) (by decide)), nI_cl (by omega)]
    obtain ⟨v, e1, e2⟩ := lm_in_standing (N := N) (iB := iB) (iC := iC) (c5 := c5) (k5 := k5) (k6 := k6) (pt := pt) (row := row) (k68 := f_K_leastMeeting_standing_68 N iB iC c5 pt row k5 k6 (nI W) (nI B) i) hW hB (show w < 8 by omega) 9 N 0 (row w) (by omega) (by omega)
    have e1' : f_K_leastMeeting_standing_91 N iB iC c5 pt row k5 k6 (f_K_leastMeeting_standing_68 N iB iC c5 pt row k5 k6 (nI W) (nI B) i) (nI W) (nI B) (nI w) N (row w) (0 : Int32) = _ := e1
    have bit : ∀ u, u / 64 = w → (v.toBitVec.getLsbD (u % 64) = true ↔ (tb row 0 u = true ∧ ∀ j, j < 9 → Ck W B pt j u)) := by
      intro u hu
      rw [e2 (u % 64) (Nat.mod_lt _ (by decide)), show 64 * w + u % 64 = u by omega]
      unfold tb
      rw [hu, Nat.zero_add]
      exact ⟨fun h => ⟨h.1, fun j hj => h.2 j (Nat.zero_le _) hj⟩, fun h => ⟨h.1, fun j _ hj => h.2 j hj⟩⟩
    rw [e1']
    unfold f_K_leastMeeting_standing_176
    by_cases hv : v = 0
    · rw [if_pos hv, nI_m]
      refine ih i (w + 1) (by omega) (by omega) (fun u hu => ?_)
      rcases Nat.lt_or_ge u (64 * w) with q | q
      · exact hs u q
      · intro z
        exact land_zero_bit hv _ ((bit u (by omega)).mpr z)
    · rw [if_neg hv]
      obtain ⟨k, hk, h1, h0⟩ := low_ex hv
      rw [lowestBit_eq hk h1 h0, Option.bind_some]
      refine ⟨_, rfl, Or.inl ⟨64 * w + k, by omega, ?_, ?_, fun u hlt => ?_⟩⟩
      · rw [show (64 : Int32) = nI 64 from rfl, pk_mul, nI_add]
      · exact (bit (64 * w + k) (by omega)).mp (by rw [show (64 * w + k) % 64 = k by omega]; exact h1)
      · rcases Nat.lt_or_ge u (64 * w) with q | q
        · exact hs u q
        · intro z
          have h2 := (bit u (by omega)).mpr z
          rw [h0 (u % 64) (by omega)] at h2
          cases h2
theorem lt_loop_stood {N n T R F W : Nat} {ax g row : Nat → Int32} (hn : n ≤ 9) (hR : R < 3) (hg : g R = nI F) (hF : F < 512) (hT : T < 512) (hW : W < 512) (hA : ∀ u, u < 2 ^ n → ∃ A : Nat, A < 512 ∧ ax u = nI A) : ∀ (d i u : Nat), u + d = 2 ^ n → d < i → (∀ s, s < u → ¬ (¬ row s = 0 ∧ ∃ A : Nat, A < 512 ∧ ax s = nI A ∧ (A &&& F) &&& (511 ^^^ T) = 0 ∧ A &&& W = W)) → ∃ r : Int32, f_M_leastTo_stood_3 N (nI n) ax g row (nI T) (nI R) (nI W) i (nI u) = some r ∧ isLst (fun s => ¬ row s = 0 ∧ ∃ A : Nat, A < 512 ∧ ax s = nI A ∧ (A &&& F) &&& (511 ^^^ T) = 0 ∧ A &&& W = W) (2 ^ n) r := by
  have h9 := pw9_le n (by omega)
  intro d
  induction d with
  | zero =>
    intro i u hu hi hs
    obtain ⟨i, rfl⟩ : ∃ k, i = k + 1 := ⟨i - 1, by omega⟩
    rw [f_M_leastTo_stood_3, M_types_eq hn, Option.bind_some, if_pos (nI_le (show 2 ^ n ≤ u by omega) (by omega))]
    exact ⟨-1, rfl, Or.inr ⟨rfl, fun s h => hs s (by omega)⟩⟩
  | succ d ih =>
    intro i u hu hi hs
    obtain ⟨i, rfl⟩ : ∃ k, i = k + 1 := ⟨i - 1, by omega⟩
    have go : ¬ (¬ row u = 0 ∧ ∃ A : Nat, A < 512 ∧ ax u = nI A ∧ (A &&& F) &&& (511 ^^^ T) = 0 ∧ A &&& W = W) → _ := fun hx => ih i (u + 1) (by omega) (by omega) (fun s hlt => by
      by_cases e : s = u
      · subst e; exact hx
      · exact hs s (by omega))
    obtain ⟨A, hA1, hA2⟩ := hA u (by omega)
    have uq : ∀ A', A' < 512 → ax u = nI A' → A' = A := fun A' h1 h2 => (nI_eq (by omega) (by omega)).mp (h2.symm.trans hA2)
    rw [f_M_leastTo_stood_3, M_types_eq hn, Option.bind_some, if_neg (nI_ge (show u < 2 ^ n by omega) (by omega)), if_neg (nI_g (show u < 512 by omega) (by decide)), nI_cl (by omega), nI_m]
    by_cases h : row u = 0
    · rw [if_pos h]; exact go (fun z => z.1 h)
    · rw [if_neg h]
      unfold f_M_goesTo
      rw [if_neg (nI_g (show u < 512 by omega) (by decide)), if_neg (nI_g hR (by decide)), nI_cl (by omega), nI_cl (by omega), hA2, hg, nI_and, nI_andn (Nat.lt_of_le_of_lt Nat.and_le_left hA1) hT]
      have e0 : nI ((A &&& F) &&& (511 ^^^ T)) = 0 ↔ (A &&& F) &&& (511 ^^^ T) = 0 := nI_eq (b := 0) (Nat.lt_of_le_of_lt (Nat.le_trans Nat.and_le_left Nat.and_le_left) (by omega)) (by decide)
      have eW : nI A &&& nI W = nI W ↔ A &&& W = W := by
        rw [nI_and]; exact nI_eq (Nat.lt_of_le_of_lt Nat.and_le_left (by omega)) (by omega)
      by_cases h1 : (A &&& F) &&& (511 ^^^ T) = 0
      · rw [if_pos (e0.mpr h1), Option.bind_some, if_neg i1z]
        by_cases h2 : A &&& W = W
        · rw [if_pos (eW.mpr h2)]
          exact ⟨_, rfl, Or.inl ⟨u, by omega, rfl, ⟨h, A, hA1, hA2, h1, h2⟩, hs⟩⟩
        · rw [if_neg (fun q => h2 (eW.mp q))]
          exact go (fun z => by
            obtain ⟨-, A', a1, a2, a3, a4⟩ := z
            rw [uq A' a1 a2] at a4; exact h2 a4)
      · rw [if_neg (fun q => h1 (e0.mp q)), Option.bind_some, if_pos rfl]
        exact go (fun z => by
          obtain ⟨-, A', a1, a2, a3, a4⟩ := z
          rw [uq A' a1 a2] at a3; exact h1 a3)
theorem lt_loop_stands {N n T R F W : Nat} {ax g row : Nat → Int32} (hn : n ≤ 9) (hR : R < 3) (hg : g R = nI F) (hF : F < 512) (hT : T < 512) (hW : W < 512) (hA : ∀ u, u < 2 ^ n → ∃ A : Nat, A < 512 ∧ ax u = nI A) : ∀ (d i u : Nat), u + d = 2 ^ n → d < i → (∀ s, s < u → ¬ (¬ row s = 0 ∧ ∃ A : Nat, A < 512 ∧ ax s = nI A ∧ (A &&& F) &&& (511 ^^^ T) = 0 ∧ A &&& W = W)) → ∃ r : Int32, f_M_leastTo_stands_3 N (nI n) ax g row (nI T) (nI R) (nI W) i (nI u) = some r ∧ isLst (fun s => ¬ row s = 0 ∧ ∃ A : Nat, A < 512 ∧ ax s = nI A ∧ (A &&& F) &&& (511 ^^^ T) = 0 ∧ A &&& W = W) (2 ^ n) r := by
  have h9 := pw9_le n (by omega)
  intro d
  induction d with
  | zero =>
    intro i u hu hi hs
    obtain ⟨i, rfl⟩ : ∃ k, i = k + 1 := ⟨i - 1, by omega⟩
    rw [f_M_leastTo_stands_3, M_types_eq hn, Option.bind_some, if_pos (nI_le (show 2 ^ n ≤ u by omega) (by omega))]
    exact ⟨-1, rfl, Or.inr ⟨rfl, fun s h => hs s (by omega)⟩⟩
  | succ d ih =>
    intro i u hu hi hs
    obtain ⟨i, rfl⟩ : ∃ k, i = k + 1 := ⟨i - 1, by omega⟩
    have go : ¬ (¬ row u = 0 ∧ ∃ A : Nat, A < 512 ∧ ax u = nI A ∧ (A &&& F) &&& (511 ^^^ T) = 0 ∧ A &&& W = W) → _ := fun hx => ih i (u + 1) (by omega) (by omega) (fun s hlt => by
      by_cases e : s = u
      · subst e; exact hx
      · exact hs s (by omega))
    obtain ⟨A, hA1, hA2⟩ := hA u (by omega)
    have uq : ∀ A', A' < 512 → ax u = nI A' → A' = A := fun A' h1 h2 => (nI_eq (by omega) (by omega)).mp (h2.symm.trans hA2)
    rw [f_M_leastTo_stands_3, M_types_eq hn, Option.bind_some, if_neg (nI_ge (show u < 2 ^ n by omega) (by omega)), if_neg (nI_g (show u < 512 by omega) (by decide)), nI_cl (by omega), nI_m]
    by_cases h : row u = 0
    · rw [if_pos h]; exact go (fun z => z.1 h)
    · rw [if_neg h]
      unfold f_M_goesTo
      rw [if_neg (nI_g (show u < 512 by omega) (by decide)), if_neg (nI_g hR (by decide)), nI_cl (by omega), nI_cl (by omega), hA2, hg, nI_and, nI_andn (Nat.lt_of_le_of_lt Nat.and_le_left hA1) hT]
      have e0 : nI ((A &&& F) &&& (511 ^^^ T)) = 0 ↔ (A &&& F) &&& (511 ^^^ T) = 0 := nI_eq (b := 0) (Nat.lt_of_le_of_lt (Nat.le_trans Nat.and_le_left Nat.and_le_left) (by omega)) (by decide)
      have eW : nI A &&& nI W = nI W ↔ A &&& W = W := by
        rw [nI_and]; exact nI_eq (Nat.lt_of_le_of_lt Nat.and_le_left (by omega)) (by omega)
      by_cases h1 : (A &&& F) &&& (511 ^^^ T) = 0
      · rw [if_pos (e0.mpr h1), Option.bind_some, if_neg i1z]
        by_cases h2 : A &&& W = W
        · rw [if_pos (eW.mpr h2)]
          exact ⟨_, rfl, Or.inl ⟨u, by omega, rfl, ⟨h, A, hA1, hA2, h1, h2⟩, hs⟩⟩
        · rw [if_neg (fun q => h2 (eW.mp q))]
          exact go (fun z => by
            obtain ⟨-, A', a1, a2, a3, a4⟩ := z
            rw [uq A' a1 a2] at a4; exact h2 a4)
      · rw [if_neg (fun q => h1 (e0.mp q)), Option.bind_some, if_pos rfl]
        exact go (fun z => by
          obtain ⟨-, A', a1, a2, a3, a4⟩ := z
          rw [uq A' a1 a2] at a3; exact h1 a3)
