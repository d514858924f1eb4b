/-! sets of atoms, of both -/
def mkS (p : Nat → Bool) : Nat → Nat
  | 0 => 0
  | k + 1 => mkS p k ||| (if p k = true then 2 ^ k else 0)
theorem mkS_bit {p : Nat → Bool} {k : Nat} : ∀ {B}, (mkS p B).testBit k = (decide (k < B) && p k)
  | 0 => by
    show (0 : Nat).testBit k = _
    rw [Nat.zero_testBit]; simp
  | B + 1 => by
    show (mkS p B ||| (if p B = true then 2 ^ B else 0)).testBit k = _
    rw [Nat.testBit_or, mkS_bit]
    by_cases h : p B = true
    · rw [if_pos h, pw_bit]
      by_cases e : B = k
      · subst e; simp [h]
      · have e1 : decide (B = k) = false := by simp [e]
        have e2 : decide (k < B + 1) = decide (k < B) := by
          by_cases q : k < B
          · rw [decide_eq_true q, decide_eq_true (by omega)]
          · rw [decide_eq_false q, decide_eq_false (by omega)]
        rw [e1, e2, Bool.or_false]
    · rw [if_neg h, Nat.zero_testBit, Bool.or_false]
      by_cases e : k = B
      · subst e
        have : p k = false := by cases q : p k; rfl; exact absurd q h
        rw [this]; simp
      · have e2 : decide (k < B + 1) = decide (k < B) := by
          by_cases q : k < B
          · rw [decide_eq_true q, decide_eq_true (by omega)]
          · rw [decide_eq_false q, decide_eq_false (by omega)]
        rw [e2]
theorem mkS_lt {p : Nat → Bool} : ∀ {B}, mkS p B < 2 ^ B
  | 0 => by show (0 : Nat) < 1; decide
  | B + 1 => by
    show (mkS p B ||| (if p B = true then 2 ^ B else 0)) < 2 ^ (B + 1)
    have h := mkS_lt (p := p) (B := B)
    refine Nat.or_lt_two_pow ?_ ?_
    · rw [Nat.pow_succ]; omega
    · by_cases q : p B = true
      · rw [if_pos q, Nat.pow_succ]; have := Nat.two_pow_pos B; omega
      · rw [if_neg q]; exact Nat.two_pow_pos _
theorem mkS_step {p : Nat → Bool} {k : Nat} (h : p k = true) : mkS p (k + 1) = mkS p k ||| 2 ^ k := by
  show (mkS p k ||| (if p k = true then 2 ^ k else 0)) = _
  rw [if_pos h]
theorem mkS_skip {p : Nat → Bool} {k : Nat} (h : ¬ p k = true) : mkS p (k + 1) = mkS p k := by
  show (mkS p k ||| (if p k = true then 2 ^ k else 0)) = _
  rw [if_neg h, Nat.or_zero]
/-- a role's own atoms; those of it and of what it is under -/
def ownP (c5 : Nat → Int32) (r : Nat) (k : Nat) : Bool := decide (c5 k = nI r)
def farP (c5 : Nat → Int32) (bl : Nat → Nat → Bool) (r : Nat) (k : Nat) : Bool := decide (c5 k = nI r) || (!(decide (c5 k = -1)) && bl r (c5 k).toNatClampNeg)
theorem ga_in {N n nr r : Nat} {b12 c5 a5 a6 : Nat → Int32} {i7 x7 : Int32} {bl : Nat → Nat → Bool} {k7 : Int32 → Int32 → (Nat → Int32) → (Nat → Int32) → Option (Int32 × (Nat → Int32) × (Nat → Int32))} (hn : n ≤ 9) (hnr : nr ≤ 3) (hr : r < 3) (hc : ∀ k, k < n → c5 k = -1 ∨ ∃ r : Nat, r < nr ∧ c5 k = nI r) (hbl : ∀ r s, r < 3 → s < 3 → f_B_isRoleUnder (nI r) (nI s) b12 = some (if bl r s = true then 1 else 0)) : ∀ (d i k : Nat) (f5 f6 : Nat → Int32), k + d = n → d < i → f5 r = nI (mkS (ownP c5 r) k) → f6 r = nI (mkS (farP c5 bl r) k) → ∃ f5' f6' : Nat → Int32, f_K_gatherAtoms_28 N b12 (nI n) c5 i7 a5 a6 k7 (nI r) x7 i (nI k) f5 f6 = k7 (nI (r + 1)) (x7 ||| nI (mkS (ownP c5 r) n)) f5' f6' ∧ f5' r = nI (mkS (ownP c5 r) n) ∧ f6' r = nI (mkS (farP c5 bl r) n) ∧ ∀ j, j ≠ r → f5' j = f5 j ∧ f6' j = f6 j := by
  intro d
  induction d with
  | zero =>
    intro i k f5 f6 hk hi h5 h6
    obtain ⟨i, rfl⟩ : ∃ k, i = k + 1 := ⟨i - 1, by omega⟩
    have ek : k = n := by omega
    subst ek
    rw [f_K_gatherAtoms_28, if_pos (nI_le (Nat.le_refl _) (by omega)), if_neg (nI_g (show r < 3 by omega) (by decide)), nI_cl (by omega), h5, nI_m]
    exact ⟨f5, f6, rfl, h5, h6, fun _ _ => ⟨rfl, rfl⟩⟩
  | succ d ih =>
    intro i k f5 f6 hk hi h5 h6
    obtain ⟨i, rfl⟩ : ∃ k, i = k + 1 := ⟨i - 1, by omega⟩
    have hkn : k < n := by omega
    have g3 : ¬ (nI r < 0 ∨ 3 ≤ (nI r).toNatClampNeg) := nI_g (show r < 3 by omega) (by decide)
    have up : ∀ {f : Nat → Int32} {v : Int32}, upd f r v r = v := by intro f v; unfold upd; rw [if_pos rfl]
    have un : ∀ {f : Nat → Int32} {v : Int32} {j : Nat}, j ≠ r → upd f r v j = f j := by intro f v j h; unfold upd; rw [if_neg h]
    rw [f_K_gatherAtoms_28, if_neg (nI_ge hkn (by omega)), C_roleOfAtom_eq hn hkn, Option.bind_some]
    by_cases e : c5 k = nI r
    · have o1 : ownP c5 r k = true := by unfold ownP; rw [e]; simp
      have o2 : farP c5 bl r k = true := by unfold farP; rw [e]; simp
      rw [if_pos e, if_neg g3]
      unfold f_K_gatherAtoms_65
      rw [if_pos e]
      unfold f_K_gatherAtoms_87
      rw [if_neg g3, nI_cl (show r < 2147483648 by omega), h5, h6, pw9 k (by omega), nI_or, nI_or, ← mkS_step o1, ← mkS_step o2, nI_m]
      obtain ⟨f5', f6', a1, a2, a3, a4⟩ := ih i (k + 1) (upd f5 r (nI (mkS (ownP c5 r) (k + 1)))) (upd f6 r (nI (mkS (farP c5 bl r) (k + 1)))) (by omega) (by omega) up up
      exact ⟨f5', f6', a1, a2, a3, fun j hj => ⟨(a4 j hj).1.trans (un hj), (a4 j hj).2.trans (un hj)⟩⟩
    · have o1 : ¬ ownP c5 r k = true := by unfold ownP; simp [e]
      rw [if_neg e]
      unfold f_K_gatherAtoms_65
      rw [if_neg e]
      rcases hc k hkn with h | ⟨s, hs, h⟩
      · have o2 : ¬ farP c5 bl r k = true := by unfold farP; rw [h]; simp [show ¬ (-1 : Int32) = nI r from fun z => nI_neg1 (by omega) z.symm]
        rw [if_pos h, nI_m]
        exact ih i (k + 1) f5 f6 (by omega) (by omega) (by rw [mkS_skip o1]; exact h5) (by rw [mkS_skip o2]; exact h6)
      · have hsr : ¬ nI s = nI r := fun z => e (h.trans z)
        have hs1 : ¬ nI s = -1 := nI_neg1 (by omega)
        have o2e : farP c5 bl r k = bl r s := by unfold farP; rw [h, nI_cl (by omega)]; simp [hsr, hs1]
        rw [h, if_neg hs1, hbl r s hr (by omega), Option.bind_some]
        by_cases hb : bl r s = true
        · rw [if_pos hb, if_neg i1z]
          unfold f_K_gatherAtoms_87
          rw [if_neg g3, nI_cl (show r < 2147483648 by omega), h6, pw9 k (by omega), nI_or, ← mkS_step (o2e.trans hb), nI_m]
          obtain ⟨f5', f6', a1, a2, a3, a4⟩ := ih i (k + 1) f5 (upd f6 r (nI (mkS (farP c5 bl r) (k + 1)))) (by omega) (by omega) (by rw [mkS_skip o1]; exact h5) up
          exact ⟨f5', f6', a1, a2, a3, fun j hj => ⟨(a4 j hj).1, (a4 j hj).2.trans (un hj)⟩⟩
        · rw [if_neg hb, if_pos rfl, nI_m]
          exact ih i (k + 1) f5 f6 (by omega) (by omega) (by rw [mkS_skip o1]; exact h5) (by rw [mkS_skip (by rw [o2e]; exact hb)]; exact h6)
theorem ga_eq {N n nr : Nat} {b12 c5 a5 a6 : Nat → Int32} {i7 : Int32} {bl : Nat → Nat → Bool} (hN : 100000 ≤ N) (hn : n ≤ 9) (hnr : nr ≤ 3) (hc : ∀ k, k < n → c5 k = -1 ∨ ∃ r : Nat, r < nr ∧ c5 k = nI r) (hbl : ∀ r s, r < 3 → s < 3 → f_B_isRoleUnder (nI r) (nI s) b12 = some (if bl r s = true then 1 else 0)) : ∃ f5 f6 : Nat → Int32, f_K_gatherAtoms N b12 (nI n) c5 i7 a5 a6 = some (nI (mkS (ownP c5 0) n ||| mkS (ownP c5 1) n ||| mkS (ownP c5 2) n), f5, f6) ∧ ∀ r, r < 3 → f5 r = nI (mkS (ownP c5 r) n) ∧ f6 r = nI (mkS (farP c5 bl r) n) := by
  obtain ⟨M, rfl⟩ : ∃ M, N = M + 4 := ⟨N - 4, by omega⟩
  unfold f_K_gatherAtoms
  have up : ∀ {f : Nat → Int32} {v : Int32} {r : Nat}, upd f r v r = v := by intro f v r; unfold upd; rw [if_pos rfl]
  have un : ∀ {f : Nat → Int32} {v : Int32} {r j : Nat}, j ≠ r → upd f r v j = f j := by intro f v r j h; unfold upd; rw [if_neg h]
  have step : ∀ (r i : Nat) (x7 : Int32) (f5 f6 : Nat → Int32), r < 3 → ∃ f5' f6' : Nat → Int32, f_K_gatherAtoms_7 (M + 4) b12 (nI n) c5 i7 a5 a6 (i + 1) (nI r) x7 f5 f6 = f_K_gatherAtoms_7 (M + 4) b12 (nI n) c5 i7 a5 a6 i (nI (r + 1)) (x7 ||| nI (mkS (ownP c5 r) n)) f5' f6' ∧ f5' r = nI (mkS (ownP c5 r) n) ∧ f6' r = nI (mkS (farP c5 bl r) n) ∧ ∀ j, j ≠ r → f5' j = f5 j ∧ f6' j = f6 j := by
    intro r i x7 f5 f6 hr
    rw [f_K_gatherAtoms_7, if_neg (show ¬ (3 : Int32) ≤ nI r from nI_ge hr (by decide)), if_neg (nI_g (show r < 3 by omega) (by decide)), nI_cl (by omega)]
    obtain ⟨f5', f6', a1, a2, a3, a4⟩ := ga_in (N := M + 4) (r := r) (a5 := a5) (a6 := a6) (i7 := i7) (x7 := x7) (k7 := f_K_gatherAtoms_7 (M + 4) b12 (nI n) c5 i7 a5 a6 i) hn hnr hr hc hbl n (M + 4) 0 (upd f5 r 0) (upd f6 r 0) (by omega) (by omega) up up
    rw [show (0 : Int32) = nI 0 from rfl] at a1 a4 ⊢
    exact ⟨f5', f6', a1, a2, a3, fun j hj => ⟨(a4 j hj).1.trans (un hj), (a4 j hj).2.trans (un hj)⟩⟩
  obtain ⟨f50, f60, e0, p0, q0, -⟩ := step 0 (M + 3) 0 a5 a6 (by decide)
  obtain ⟨f51, f61, e1, p1, q1, r1⟩ := step 1 (M + 2) _ f50 f60 (by decide)
  obtain ⟨f52, f62, e2, p2, q2, r2⟩ := step 2 (M + 1) _ f51 f61 (by decide)
  rw [show (0 : Int32) = nI 0 from rfl] at e0 ⊢
  rw [e0, e1, e2, f_K_gatherAtoms_7, if_pos (show (3 : Int32) ≤ nI (2 + 1) by decide), nI_or, nI_or, nI_or, Nat.zero_or]
  refine ⟨f52, f62, rfl, fun r hr => ?_⟩
  have h3 : r = 0 ∨ r = 1 ∨ r = 2 := by omega
  rcases h3 with e | e | e <;> subst e
  · rw [(r2 0 (by decide)).1, (r2 0 (by decide)).2, (r1 0 (by decide)).1, (r1 0 (by decide)).2]; exact ⟨p0, q0⟩
  · rw [(r2 1 (by decide)).1, (r2 1 (by decide)).2]; exact ⟨p1, q1⟩
  · exact ⟨p2, q2⟩
