/-! whether a type is met, of both -/
theorem neg_iff {r : Int32} {n : Nat} (hn : n ≤ 9) {sd : Nat → Int32} (h : r = -1 ∨ ∃ u : Nat, u < 2 ^ n ∧ r = nI u ∧ sd u = 1) : (r < 0 ↔ r = -1) := by
  have h9 := pw9_le n (by omega)
  rcases h with h | ⟨u, h1, h2, -⟩
  · exact ⟨fun _ => h, fun _ => by rw [h]; decide⟩
  · rw [h2]
    exact ⟨fun q => absurd q (nI_pos (by omega)), fun q => by
      have : ¬ nI u < 0 := nI_pos (by omega)
      rw [q] at this
      exact absurd (show (-1 : Int32) < 0 by decide) this⟩
theorem nI_neg1 {k : Nat} (hk : k < 1000) : ¬ nI k = -1 := fun q => by
  have : ¬ nI k < 0 := nI_pos (by omega)
  rw [q] at this
  exact this (by decide)
/-- what the model finds for a call: none -/
def No (N n : Nat) (m59 ax sd : Nat → Int32) (t R W : Nat) : Prop := f_M_leastTo_stood N (nI t) (nI R) (nI W) (nI n) ax m59 sd = some (-1)
def Ow (n : Nat) (c5 k5 m60 : Nat → Int32) (own : Nat → Nat) : Prop := ∀ r, r < 3 → own r < 2 ^ n ∧ k5 r = nI (own r) ∧ m60 r = nI (own r) ∧ ∀ k, k < n → ((own r).testBit k = true ↔ c5 k = nI r)
def MetX (N n nr S : Nat) (c5 m59 ax sd : Nat → Int32) (own : Nat → Nat) (t k : Nat) : Prop := ∀ j, k ≤ j → j < n → t.testBit j = true → ∀ R, R < nr → c5 j = nI R → ¬ No N n m59 ax sd t R (if S.testBit R = true then own R &&& t else 2 ^ j)
theorem xm_loop {N n nr S t : Nat} {c5 k5 k6 m60 m59 m29 ax sd : Nat → Int32} {pt row : Nat → Int64} {own : Nat → Nat} (hN : 100000 ≤ N) (H : RKd n nr S c5 k5 k6 m60 m59 m29 pt ax) (hw : Ow n c5 k5 m60 own) (hs : RSt n row sd) (ht : t < 2 ^ n) : ∀ (d i k : Nat), k + d = n → d < i → ∃ r : Int32, f_K_isMet_2 N (nI S) (nI n) c5 pt row k5 k6 (nI t) i (nI k) = some r ∧ isZ r ∧ (r = 1 ↔ MetX N n nr S c5 m59 ax sd own t k) := by
  obtain ⟨hn, hnr, hS, hp, hf, ho, hcs, h29⟩ := id H
  have h9 := pw9_le n (by omega)
  intro d
  induction d with
  | zero =>
    intro i k hk hi
    obtain ⟨i, rfl⟩ : ∃ k, i = k + 1 := ⟨i - 1, by omega⟩
    rw [f_K_isMet_2, if_pos (nI_le (show n ≤ k by omega) (by omega))]
    exact ⟨1, rfl, Or.inr rfl, ⟨fun _ j h1 h2 => by omega, fun _ => rfl⟩⟩
  | succ d ih =>
    intro i k hk hi
    obtain ⟨i, rfl⟩ : ∃ k, i = k + 1 := ⟨i - 1, by omega⟩
    obtain ⟨r, g1, g2, g3⟩ := ih i (k + 1) (by omega) (by omega)
    have hkn : k < n := by omega
    have hb := mbit1 (t := t) (x := k) (by omega) (by omega)
    have ext : (t.testBit k = true → ∀ R, R < nr → c5 k = nI R → ¬ No N n m59 ax sd t R (if S.testBit R = true then own R &&& t else 2 ^ k)) → (MetX N n nr S c5 m59 ax sd own t (k + 1) ↔ MetX N n nr S c5 m59 ax sd own t k) := fun hx => ⟨fun G j h1 h2 => by
      by_cases e : j = k
      · subst e; exact hx
      · exact G j (by omega) h2, fun G j h1 h2 => G j (by omega) h2⟩
    rw [f_K_isMet_2, if_neg (nI_ge hkn (by omega))]
    by_cases h1 : t.testBit k = true
    · rw [if_pos (hb.1.mpr h1), C_roleOfAtom_eq hn hkn, Option.bind_some]
      rcases hcs k hkn with q | ⟨R, q1, q2⟩
      · rw [if_pos q]
        unfold f_K_isMet_39
        rw [if_pos rfl, nI_m]
        refine ⟨r, g1, g2, g3.trans (ext (fun _ R hR q2 => ?_))⟩
        rw [q] at q2
        exact absurd q2.symm (nI_neg1 (by omega))
      · rw [if_neg (by rw [q2]; exact nI_neg1 (by omega))]
        unfold f_K_isMet_39
        rw [if_neg i1z, nI_m]
        obtain ⟨o1, o2, o3, o4⟩ := hw R (by omega)
        obtain ⟨v, v1, v2, v3⟩ := meet_before hN H hs ht hkn h1 q1 q2 o2 o1
        rw [v1, Option.bind_some]
        by_cases hv : v = -1
        · rw [if_pos hv]
          refine ⟨0, rfl, Or.inl rfl, ⟨fun e => absurd e (by decide), fun G => ?_⟩⟩
          have := G k (Nat.le_refl _) hkn h1 R q1 q2
          unfold No at this
          rw [v2, hv] at this
          exact absurd rfl this
        · rw [if_neg hv]
          refine ⟨r, g1, g2, g3.trans (ext (fun _ R' hR' q3 => ?_))⟩
          have : R' = R := (nI_eq (by omega) (by omega)).mp (q3.symm.trans q2)
          subst this
          unfold No
          rw [v2]
          intro z
          exact hv (Option.some.inj z)
    · rw [if_neg (fun q => h1 (hb.1.mp q))]
      unfold f_K_isMet_39
      rw [if_pos rfl, nI_m]
      exact ⟨r, g1, g2, g3.trans (ext (fun q => absurd q h1))⟩
/-- a role's part of being met, as the model asks it -/
def MetR (N n S : Nat) (m59 ax sd : Nat → Int32) (own : Nat → Nat) (t R : Nat) : Prop := (S.testBit R = true → own R &&& t = 0 ∨ ¬ No N n m59 ax sd t R (own R &&& t)) ∧ (¬ S.testBit R = true → ∀ j, j < n → (own R &&& t).testBit j = true → ¬ No N n m59 ax sd t R (2 ^ j))
theorem mi_loop {N n nr S t R : Nat} {c5 k5 k6 m60 m59 m29 ax sd : Nat → Int32} {pt row : Nat → Int64} {own : Nat → Nat} {kk : Int32 → Int32 → Option Int32} (hN : 100000 ≤ N) (H : RKd n nr S c5 k5 k6 m60 m59 m29 pt ax) (hw : Ow n c5 k5 m60 own) (hs : RSt n row sd) (ht : t < 2 ^ n) (hR : R < nr) : ∀ (d i k : Nat) (v : Int32), k + d = n → d < i → isZ v → ∃ r : Int32, f_M_isMet_stood_66 N (nI nr) (nI n) m29 ax m59 m60 sd kk (nI t) (nI R) (nI (own R &&& t)) i v (nI k) = kk r (nI (R + 1)) ∧ isZ r ∧ (r = 1 ↔ v = 1 ∧ (¬ S.testBit R = true → ∀ j, k ≤ j → j < n → (own R &&& t).testBit j = true → ¬ No N n m59 ax sd t R (2 ^ j))) := by
  obtain ⟨hn, hnr, hS, hp, hf, ho, hcs, h29⟩ := id H
  have h9 := pw9_le n (by omega)
  obtain ⟨o1, o2, o3, o4⟩ := hw R (by omega)
  have hVlt : own R &&& t < 512 := Nat.lt_of_le_of_lt Nat.and_le_right (by omega)
  intro d
  induction d with
  | zero =>
    intro i k v hk hi hv
    obtain ⟨i, rfl⟩ : ∃ k, i = k + 1 := ⟨i - 1, by omega⟩
    rw [f_M_isMet_stood_66, if_pos (nI_le (show n ≤ k by omega) (by omega)), nI_m]
    exact ⟨v, rfl, hv, ⟨fun e => ⟨e, fun _ j h1 h2 => by omega⟩, fun e => e.1⟩⟩
  | succ d ih =>
    intro i k v hk hi hv
    obtain ⟨i, rfl⟩ : ∃ k, i = k + 1 := ⟨i - 1, by omega⟩
    have hkn : k < n := by omega
    rw [f_M_isMet_stood_66, if_neg (nI_ge hkn (by omega)), nI_m]
    rcases hv with hv | hv
    · rw [if_pos hv]
      exact ⟨v, rfl, Or.inl hv, ⟨fun e => by rw [hv] at e; exact absurd e (by decide), fun e => e.1⟩⟩
    · subst hv
      rw [if_neg i1z, if_neg (nI_g (show R < 6 by omega) (by decide)), nI_cl (by omega), h29 R hR]
      by_cases hSR : S.testBit R = true
      · rw [if_pos hSR, if_neg i1z]
        exact ⟨1, rfl, Or.inr rfl, ⟨fun _ => ⟨rfl, fun q => absurd hSR q⟩, fun _ => rfl⟩⟩
      · rw [if_neg hSR, if_pos rfl, nI_m]
        have hb := mbit1 (t := own R &&& t) (x := k) hVlt (by omega)
        have ext : ((own R &&& t).testBit k = true → ¬ No N n m59 ax sd t R (2 ^ k)) → (((1 : Int32) = 1 ∧ (¬ S.testBit R = true → ∀ j, k + 1 ≤ j → j < n → (own R &&& t).testBit j = true → ¬ No N n m59 ax sd t R (2 ^ j))) ↔ ((1 : Int32) = 1 ∧ (¬ S.testBit R = true → ∀ j, k ≤ j → j < n → (own R &&& t).testBit j = true → ¬ No N n m59 ax sd t R (2 ^ j)))) := fun hx => ⟨fun G => ⟨rfl, fun q j h1 h2 => by
          by_cases e : j = k
          · subst e; exact hx
          · exact G.2 q j (by omega) h2⟩, fun G => ⟨rfl, fun q j h1 h2 => G.2 q j (by omega) h2⟩⟩
        obtain ⟨r, g1, g2, g3⟩ := ih i (k + 1) 1 (by omega) (by omega) (Or.inr rfl)
        obtain ⟨r', g1', g2', g3'⟩ := ih i (k + 1) 0 (by omega) (by omega) (Or.inl rfl)
        by_cases h1 : (own R &&& t).testBit k = true
        · rw [if_neg (fun q => by rw [hb.2.mp q] at h1; cases h1)]
          have h2 : (own R).testBit k = true ∧ t.testBit k = true := by rw [Nat.testBit_and, Bool.and_eq_true] at h1; exact h1
          obtain ⟨v, v1, v2, v3⟩ := meet_before hN H hs ht hkn h2.2 hR ((o4 k hkn).mp h2.1) o2 o1
          rw [if_neg hSR] at v2
          rw [pw9 k (by omega), v2, Option.bind_some]
          by_cases hv : v = -1
          · rw [if_pos ((neg_iff hn v3).mpr hv)]
            refine ⟨r', g1', g2', g3'.trans ⟨fun e => absurd e.1 (by decide), fun G => ?_⟩⟩
            have := G.2 hSR k (Nat.le_refl _) hkn h1
            unfold No at this
            rw [v2, hv] at this
            exact absurd rfl this
          · rw [if_neg (fun q => hv ((neg_iff hn v3).mp q))]
            refine ⟨r, g1, g2, g3.trans (ext (fun _ z => ?_))⟩
            unfold No at z
            rw [v2] at z
            exact hv (Option.some.inj z)
        · rw [if_pos (hb.2.mpr (by simpa using h1))]
          exact ⟨r, g1, g2, g3.trans (ext (fun q => absurd q h1))⟩
