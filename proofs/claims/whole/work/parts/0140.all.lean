/-! what holds at all types that stand, of both -/
theorem xnot_bit (a : Int64) {j : Nat} (hj : j < 64) : (a ^^^ (-1 : Int64)).toBitVec.getLsbD j = !(a.toBitVec.getLsbD j) := by
  show (a.toBitVec ^^^ (-1#64)).getLsbD j = _
  rw [BitVec.getLsbD_xor, show (-1#64) = BitVec.allOnes 64 from by decide, BitVec.getLsbD_allOnes]
  simp [hj]
theorem im_loop {N a b : Nat} {tr st : Nat → Int64} (ha : a < 200) (hb : b < 200) : ∀ (d i w : Nat), w + d = 8 → d < i → (∀ s, s < 64 * w → tb st 0 s = true → tb tr (a * 8) s = true → tb tr (b * 8) s = true) → ∃ r : Int32, f_K_implies_2 N tr st (nI a) (nI b) i (nI w) = some r ∧ isZ r ∧ (r = 1 ↔ ∀ s, s < 512 → tb st 0 s = true → tb tr (a * 8) s = true → tb tr (b * 8) s = true) := by
  intro d
  induction d with
  | zero =>
    intro i w hw hi hs
    obtain ⟨i, rfl⟩ : ∃ k, i = k + 1 := ⟨i - 1, by omega⟩
    rw [f_K_implies_2, if_pos (show (8 : Int32) ≤ nI w from nI_le (show 8 ≤ w by omega) (by omega))]
    exact ⟨1, rfl, Or.inr rfl, ⟨fun _ s h => hs s (by omega), fun _ => rfl⟩⟩
  | succ d ih =>
    intro i w hw hi hs
    obtain ⟨i, rfl⟩ : ∃ k, i = k + 1 := ⟨i - 1, by omega⟩
    rw [f_K_implies_2, if_neg (show ¬ (8 : Int32) ≤ nI w from nI_ge (show w < 8 by omega) (by decide)), if_neg (nI_g (show w < 8 by omega) (by decide)), K_truthOf_eq ha (by omega), K_truthOf_eq hb (by omega), Option.bind_some, Option.bind_some, nI_cl (by omega), nI_m]
    have bit : ∀ s, s / 64 = w → (((st w &&& tr (a * 8 + w)) &&& (tr (b * 8 + w) ^^^ (-1 : Int64))).toBitVec.getLsbD (s % 64) = true ↔ ¬ (tb st 0 s = true → tb tr (a * 8) s = true → tb tr (b * 8) s = true)) := by
      intro s e
      unfold tb
      rw [land_bit, land_bit, xnot_bit _ (Nat.mod_lt _ (by decide)), e, Nat.zero_add]
      cases (st w).toBitVec.getLsbD (s % 64) <;> cases (tr (a * 8 + w)).toBitVec.getLsbD (s % 64) <;> cases (tr (b * 8 + w)).toBitVec.getLsbD (s % 64) <;> simp
    by_cases h : ((st w &&& tr (a * 8 + w)) &&& (tr (b * 8 + w) ^^^ (-1 : Int64))) = 0
    · rw [if_pos h]
      refine ih i (w + 1) (by omega) (by omega) (fun s hlt => ?_)
      rcases Nat.lt_or_ge s (64 * w) with q | q
      · exact hs s q
      · have h1 := bit s (by omega)
        rw [zero_bits h] at h1
        exact Classical.byContradiction (fun z => by have := h1.mpr z; cases this)
    · rw [if_neg h]
      obtain ⟨k, hk, h1, -⟩ := low_ex h
      refine ⟨0, rfl, Or.inl rfl, ⟨fun e => absurd e (by decide), fun e => ?_⟩⟩
      have h2 := (bit (64 * w + k) (by omega)).mp (by rw [show (64 * w + k) % 64 = k by omega]; exact h1)
      exact absurd (e (64 * w + k) (by omega)) h2
theorem im_eq {N a b : Nat} {tr st : Nat → Int64} (hN : 100000 ≤ N) (ha : a < 200) (hb : b < 200) : ∃ r : Int32, f_K_implies N (nI a) (nI b) tr st = some r ∧ isZ r ∧ (r = 1 ↔ ∀ s, s < 512 → tb st 0 s = true → tb tr (a * 8) s = true → tb tr (b * 8) s = true) := by
  unfold f_K_implies
  exact im_loop ha hb 8 N 0 (by omega) (by omega) (fun s h => absurd h (by omega))
theorem ag_eq {N a b : Nat} {tr st : Nat → Int64} (hN : 100000 ≤ N) (ha : a < 200) (hb : b < 200) : ∃ r : Int32, f_K_agree N (nI a) (nI b) tr st = some r ∧ isZ r ∧ (r = 1 ↔ ∀ s, s < 512 → tb st 0 s = true → (tb tr (a * 8) s = true ↔ tb tr (b * 8) s = true)) := by
  unfold f_K_agree
  obtain ⟨r1, e1, z1, i1⟩ := im_eq (tr := tr) (st := st) hN ha hb
  obtain ⟨r2, e2, z2, i2⟩ := im_eq (tr := tr) (st := st) hN hb ha
  rw [e1, e2, Option.bind_some, Option.bind_some]
  rcases z1 with z1 | z1
  · rw [if_pos z1]
    refine ⟨0, rfl, Or.inl rfl, ⟨fun e => absurd e (by decide), fun e => ?_⟩⟩
    have := i1.mpr (fun s h1 h2 h3 => (e s h1 h2).mp h3)
    rw [z1] at this
    exact absurd this (by decide)
  · rw [z1, if_neg i1z]
    rcases z2 with z2 | z2
    · rw [if_pos z2]
      refine ⟨0, rfl, Or.inl rfl, ⟨fun e => absurd e (by decide), fun e => ?_⟩⟩
      have := i2.mpr (fun s h1 h2 h3 => (e s h1 h2).mpr h3)
      rw [z2] at this
      exact absurd this (by decide)
    · rw [z2, if_neg i1z]
      exact ⟨1, rfl, Or.inr rfl, ⟨fun _ s h1 h2 => ⟨i1.mp z1 s h1 h2, i2.mp z2 s h1 h2⟩, fun _ => rfl⟩⟩
theorem sm_loop {N n k p q m1 m2 : Nat} {mq is sd : Nat → Int32} (hn : n ≤ 9) (hp : p < 24) (hq : q < 24) (e1 : mq p = nI m1) (e2 : mq q = nI m2) (h1 : m1 < 200) (h2 : m2 < 200) (z1 : ∀ t, t < 2 ^ n → isZ (is (512 * m1 + t))) (z2 : ∀ t, t < 2 ^ n → isZ (is (512 * m2 + t))) : ∀ (d i t : Nat) (v : Int32), t + d = 2 ^ n → d < i → isZ v → (v = 1 ↔ ∀ s, s < t → ¬ sd s = 0 → is (512 * m1 + s) = is (512 * m2 + s)) → ∃ r : Int32, f_M_same_34 N (nI k) (nI n) 1 mq is sd (nI p) (nI q) i v (nI t) = some r ∧ isZ r ∧ (r = 1 ↔ ∀ s, s < 2 ^ n → ¬ sd s = 0 → is (512 * m1 + s) = is (512 * m2 + s)) := by
  have h9 := pw9_le n (by omega)
  intro d
  induction d with
  | zero =>
    intro i t v ht hi hv hs
    obtain ⟨i, rfl⟩ : ∃ k, i = k + 1 := ⟨i - 1, by omega⟩
    have et : t = 2 ^ n := by omega
    subst et
    rw [f_M_same_34, M_types_eq hn, Option.bind_some, if_pos (nI_le (Nat.le_refl _) (by omega))]
    rcases hv with hv | hv
    · rw [if_pos hv]; exact ⟨0, rfl, Or.inl rfl, by rw [← hs, hv]⟩
    · rw [hv, if_neg i1z]; exact ⟨1, rfl, Or.inr rfl, by rw [← hs, hv]⟩
  | succ d ih =>
    intro i t v ht hi hv hs
    obtain ⟨i, rfl⟩ : ∃ k, i = k + 1 := ⟨i - 1, by omega⟩
    rw [f_M_same_34, M_types_eq hn, Option.bind_some, if_neg (nI_ge (show t < 2 ^ n by omega) (by omega))]
    have upt : ∀ (P : Nat → Prop), (∀ s, s < t + 1 → P s) ↔ ((∀ s, s < t → P s) ∧ P t) := fun P => ⟨fun h => ⟨fun s hs => h s (by omega), h t (by omega)⟩, fun h s hs => by
      by_cases e : s = t
      · subst e; exact h.2
      · exact h.1 s (by omega)⟩
    rcases hv with hv | hv
    · rw [if_pos hv, nI_m]
      refine ih i (t + 1) 0 (by omega) (by omega) (Or.inl rfl) ?_
      rw [upt, ← hs, hv]
      constructor
      · intro e; exact absurd e (by decide)
      · intro e; exact absurd e.1 (by decide)
    · rw [hv, if_neg i1z, if_neg (nI_g (show t < 512 by omega) (by decide)), nI_cl (by omega), nI_m]
      by_cases h : sd t = 0
      · rw [if_pos h]
        refine ih i (t + 1) 1 (by omega) (by omega) (Or.inr rfl) ?_
        rw [upt, ← hs, hv]
        exact ⟨fun _ => ⟨rfl, fun z => absurd h z⟩, fun _ => rfl⟩
      · rw [if_neg h, M_isAt_eq hp e1 h1 (by omega) (z1 t (by omega)), M_isAt_eq hq e2 h2 (by omega) (z2 t (by omega)), Option.bind_some, Option.bind_some]
        by_cases g : is (512 * m1 + t) = is (512 * m2 + t)
        · rw [if_pos g]
          refine ih i (t + 1) 1 (by omega) (by omega) (Or.inr rfl) ?_
          rw [upt, ← hs, hv]
          exact ⟨fun _ => ⟨rfl, fun _ => g⟩, fun _ => rfl⟩
        · rw [if_neg g]
          refine ih i (t + 1) 0 (by omega) (by omega) (Or.inl rfl) ?_
          rw [upt]
          exact ⟨fun e => absurd e (by decide), fun e => absurd (e.2 h) g⟩
theorem isZ_if {r : Int32} {P : Prop} [Decidable P] (hz : isZ r) (h : r = 1 ↔ P) : r = if P then 1 else 0 := by
  by_cases hp : P
  · rw [if_pos hp]; exact h.mpr hp
  · rw [if_neg hp]
    rcases hz with z | z
    · exact z
    · exact absurd (h.mp z) hp
theorem isZ_eq {r r' : Int32} {P P' : Prop} (hz : isZ r) (hz' : isZ r') (h : r = 1 ↔ P) (h' : r' = 1 ↔ P') (e : P ↔ P') : r = r' := by
  rcases hz with z | z
  · rcases hz' with z' | z'
    · rw [z, z']
    · have := h.mpr (e.mpr (h'.mp z')); rw [z] at this; exact absurd this (by decide)
  · rw [z]; exact (h'.mpr (e.mp (h.mp z))).symm
theorem X_one_z {r : Int32} (hz : isZ r) : f_X_oneIf r = some r := by
  rcases hz with z | z <;> (rw [z]; rfl)
theorem same_eq {N n k : Nat} {cq mq is sd : Nat → Int32} {tr st : Nat → Int64} (hN : 100000 ≤ N) (hn : n ≤ 9) (hk : k ≤ 12) (h : RAsk n k cq mq tr is) (hs : RSt n st sd) (a b : Int32) : ∃ r : Int32, f_X_same N a b 1 (nI k) cq tr st = some r ∧ f_M_same N a b (nI k) (nI n) 1 mq is sd = some r := by
  have h9 := pw9_le n (by omega)
  unfold f_X_same f_M_same
  rw [if_neg i1z, if_neg i1z, X_isQ_eq (by omega), X_isQ_eq (by omega), M_noQ_eq (by omega), M_noQ_eq (by omega)]
  simp only [Option.bind_some]
  by_cases h1 : ∃ j : Nat, j < k ∧ a = nI j
  · rw [if_pos h1, if_pos h1, if_neg i1z, if_pos rfl]
    by_cases h2 : ∃ j : Nat, j < k ∧ b = nI j
    · rw [if_pos h2, if_pos h2, if_neg i1z, if_pos rfl]
      obtain ⟨p, hp, rfl⟩ := h1
      obtain ⟨q, hq, rfl⟩ := h2
      obtain ⟨c1, m1, hc1, hm1, e1, e2, e3⟩ := h p hp
      obtain ⟨c2, m2, hc2, hm2, g1, g2, g3⟩ := h q hq
      rw [B_question_eq hk hp, B_question_eq hk hq, Option.bind_some, Option.bind_some, e1, g1]
      obtain ⟨r, a1, a2, a3⟩ := ag_eq (N := N) (tr := tr) (st := st) hN hc1 hc2
      obtain ⟨r', b1, b2, b3⟩ := sm_loop (N := N) (k := k) (sd := sd) hn (show p < 24 by omega) (show q < 24 by omega) e2 g2 hm1 hm2 (fun t ht => (e3 t ht).1) (fun t ht => (g3 t ht).1) (2 ^ n) N 0 1 (by omega) (by omega) (Or.inr rfl) ⟨fun _ s h => absurd h (by omega), fun _ => rfl⟩
      rw [a1, Option.bind_some, X_one_z a2, Option.bind_some]
      refine ⟨r, rfl, ?_⟩
      have e : r = r' := isZ_eq a2 b2 a3 b3 (by
        constructor
        · intro H s hlt hsd
          have q1 := hs.1 s hlt
          have st1 : tb st 0 s = true := q1.2.mpr (by rcases q1.1 with z | z; exact absurd z hsd; exact z)
          have q2 := H s (by omega) st1
          rw [(e3 s hlt).2, (g3 s hlt).2] at q2
          rcases (e3 s hlt).1 with z | z <;> rcases (g3 s hlt).1 with z' | z'
          · rw [z, z']
          · exact absurd (q2.mpr z') (by rw [z]; decide)
          · exact absurd (q2.mp z) (by rw [z']; decide)
          · rw [z, z']
        · intro H s hlt hst
          rcases Nat.lt_or_ge s (2 ^ n) with q | q
          · have q1 := hs.1 s q
            rw [(e3 s q).2, (g3 s q).2, H s q (by rw [q1.2.mp hst]; decide)]
          · rw [hs.2 s q hlt] at hst; cases hst)
      rw [e]
      exact b1
    · rw [if_neg h2, if_neg h2, if_pos rfl, if_neg i1z]
      exact ⟨_, rfl, rfl⟩
  · rw [if_neg h1, if_neg h1, if_pos rfl, if_neg i1z]
    exact ⟨_, rfl, rfl⟩
