/-! the least type with a property, of both -/
def isLst (P : Nat → Prop) (B : Nat) (r : Int32) : Prop := (∃ t : Nat, t < B ∧ r = nI t ∧ P t ∧ ∀ s, s < t → ¬ P s) ∨ (r = -1 ∧ ∀ s, s < B → ¬ P s)
theorem isLst.uniq {P P' : Nat → Prop} {B B' : Nat} {r r' : Int32} (h : isLst P B r) (h' : isLst P' B' r') (hB : B ≤ B') (hP : ∀ t, t < B → (P t ↔ P' t)) (hx : ∀ t, B ≤ t → t < B' → ¬ P' t) : r = r' := by
  rcases h with ⟨t, h1, h2, h3, h4⟩ | ⟨h1, h2⟩
  · rcases h' with ⟨t', g1, g2, g3, g4⟩ | ⟨g1, g2⟩
    · have : t = t' := by
        rcases Nat.lt_trichotomy t t' with q | q | q
        · exact absurd ((hP t h1).mp h3) (g4 t q)
        · exact q
        · exact absurd ((hP t' (by omega)).mpr g3) (h4 t' q)
      rw [h2, g2, this]
    · exact absurd ((hP t h1).mp h3) (g2 t (by omega))
  · rcases h' with ⟨t', g1, g2, g3, g4⟩ | ⟨g1, g2⟩
    · rcases Nat.lt_or_ge t' B with q | q
      · exact absurd ((hP t' q).mpr g3) (h2 t' q)
      · exact absurd g3 (hx t' q g1)
    · rw [h1, g1]
theorem isLst.neg {P : Nat → Prop} {B : Nat} {r : Int32} (h : isLst P B r) (hB : B ≤ 1000000) : (r = -1 ↔ ∀ s, s < B → ¬ P s) ∧ (r < 0 ↔ r = -1) := by
  rcases h with ⟨t, h1, h2, h3, h4⟩ | ⟨h1, h2⟩
  · have n1 : ¬ r = -1 := fun e => by
      rw [h2] at e
      have : ¬ nI t < 0 := nI_pos (by omega)
      rw [e] at this
      exact this (by decide)
    refine ⟨⟨fun e => absurd e n1, fun e => absurd h3 (e t h1)⟩, ⟨fun e => ?_, fun e => absurd e n1⟩⟩
    rw [h2] at e
    exact absurd e (nI_pos (by omega))
  · exact ⟨⟨fun _ => h2, fun _ => h1⟩, ⟨fun _ => h1, fun _ => by rw [h1]; decide⟩⟩
theorem bc_low : ∀ k, k < 64 → f_J_bitCount (lN (2 ^ k) - 1) = some (nI k) := by decide +kernel
theorem low_and (x : BitVec 64) {k : Nat} (hk : k < 64) (h1 : x.getLsbD k = true) (h0 : ∀ j, j < k → x.getLsbD j = false) : x &&& -x = BitVec.twoPow 64 k := by
  apply BitVec.eq_of_getLsbD_eq
  intro i hi
  rw [BitVec.getLsbD_and, BitVec.getLsbD_neg, BitVec.getLsbD_twoPow]
  rcases Nat.lt_trichotomy i k with q | q | q
  · rw [h0 i q]
    simp
    omega
  · subst q
    have : ¬ ∃ j, j < i ∧ x.getLsbD j = true := fun ⟨j, e1, e2⟩ => by rw [h0 j e1] at e2; cases e2
    simp [h1, hi, this]
  · have : ∃ j, j < i ∧ x.getLsbD j = true := ⟨k, q, h1⟩
    have q2 : ¬ k = i := by omega
    cases hx : x.getLsbD i <;> simp [this, q2, hi]
theorem lowestBit_eq {w : Int64} {k : Nat} (hk : k < 64) (h1 : w.toBitVec.getLsbD k = true) (h0 : ∀ j, j < k → w.toBitVec.getLsbD j = false) : f_K_lowestBit w = some (nI k) := by
  unfold f_K_lowestBit
  have e : (w &&& -w) = lN (2 ^ k) := by
    apply Int64.toBitVec_inj.mp
    show w.toBitVec &&& -w.toBitVec = BitVec.ofNat 64 (2 ^ k)
    rw [low_and _ hk h1 h0]
    apply BitVec.eq_of_toNat_eq
    rw [BitVec.toNat_twoPow, BitVec.toNat_ofNat]
  rw [e, bc_low k hk]
  rfl
/-- a word that isn't zero has a lowest bit -/
theorem low_ex {w : Int64} (h : ¬ w = 0) : ∃ k : Nat, k < 64 ∧ w.toBitVec.getLsbD k = true ∧ ∀ j, j < k → w.toBitVec.getLsbD j = false := by
  have h1 : ∃ k : Nat, w.toBitVec.getLsbD k = true := by
    apply Classical.byContradiction
    intro hn
    apply h
    apply Int64.toBitVec_inj.mp
    apply BitVec.eq_of_getLsbD_eq
    intro i hi
    cases hx : w.toBitVec.getLsbD i
    · simp
    · exact absurd ⟨i, hx⟩ hn
  obtain ⟨k, e1, e2⟩ := pk_least (fun k => w.toBitVec.getLsbD k = true) h1
  refine ⟨k, ?_, e1, fun j hj => by cases hx : w.toBitVec.getLsbD j; rfl; exact absurd hx (e2 j hj)⟩
  rcases Nat.lt_or_ge k 64 with q | q
  · exact q
  · rw [BitVec.getLsbD_of_ge _ _ q] at e1; cases e1
theorem zero_bits {w : Int64} (h : w = 0) (j : Nat) : w.toBitVec.getLsbD j = false := by
  rw [h]; simp
theorem land_bit (a b : Int64) (j : Nat) : (a &&& b).toBitVec.getLsbD j = (a.toBitVec.getLsbD j && b.toBitVec.getLsbD j) := by
  show (a.toBitVec &&& b.toBitVec).getLsbD j = _
  rw [BitVec.getLsbD_and]
theorem lw_step {N i c w : Nat} {tr st : Nat → Int64} (hc : c < 200) (hw : w < 8) : f_K_leastWhere_standing_2 N tr st (nI c) (i + 1) (nI w) = if (st w &&& tr (c * 8 + w)) = 0 then f_K_leastWhere_standing_2 N tr st (nI c) i (nI (w + 1)) else (f_K_lowestBit (st w &&& tr (c * 8 + w))).bind fun q => some ((64 : Int32) * nI w + q) := by
  rw [f_K_leastWhere_standing_2, if_neg (show ¬ (8 : Int32) ≤ nI w from nI_ge hw (by decide)), if_neg (show ¬ (8 : Int32) ≤ nI w from nI_ge hw (by decide)), if_neg (nI_g hw (by decide)), K_truthOf_eq hc hw, Option.bind_some, nI_cl (by omega), nI_m]
theorem lw_loop {N c : Nat} {tr st : Nat → Int64} (hc : c < 200) : ∀ (d i w : Nat), w + d = 8 → d < i → (∀ s, s < 64 * w → ¬ (tb st 0 s = true ∧ tb tr (c * 8) s = true)) → ∃ r : Int32, f_K_leastWhere_standing_2 N tr st (nI c) i (nI w) = some r ∧ isLst (fun t => tb st 0 t = true ∧ tb tr (c * 8) t = true) 512 r := by
  intro d
  induction d with
  | zero =>
    intro i w hw hi hs
    obtain ⟨i, rfl⟩ : ∃ k, i = k + 1 := ⟨i - 1, by omega⟩
    rw [f_K_leastWhere_standing_2, if_pos (show (8 : Int32) ≤ nI w from nI_le (show 8 ≤ w by omega) (by omega))]
    exact ⟨-1, rfl, Or.inr ⟨rfl, fun s h => hs s (by omega)⟩⟩
  | succ d ih =>
    intro i w hw hi hs
    obtain ⟨i, rfl⟩ : ∃ k, i = k + 1 := ⟨i - 1, by omega⟩
    rw [lw_step hc (by omega)]
    have bit : ∀ s, s / 64 = w → ((st w &&& tr (c * 8 + w)).toBitVec.getLsbD (s % 64) = true ↔ (tb st 0 s = true ∧ tb tr (c * 8) s = true)) := by
      intro s e
      unfold tb
      rw [land_bit, e, Nat.zero_add, Bool.and_eq_true]
    by_cases h : (st w &&& tr (c * 8 + w)) = 0
    · rw [if_pos h]
      refine ih i (w + 1) (by omega) (by omega) (fun s hlt => ?_)
      rcases Nat.lt_or_ge s (64 * w) with q | q
      · exact hs s q
      · rw [← bit s (by omega), zero_bits h]; simp
    · rw [if_neg h]
      obtain ⟨k, hk, h1, h0⟩ := low_ex h
      rw [lowestBit_eq hk h1 h0, Option.bind_some]
      refine ⟨_, rfl, Or.inl ⟨64 * w + k, by omega, ?_, ?_, fun s hlt => ?_⟩⟩
      · rw [show (64 : Int32) = nI 64 from rfl, pk_mul, nI_add]
      · exact (bit (64 * w + k) (by omega)).mp (by rw [show (64 * w + k) % 64 = k by omega]; exact h1)
      · rcases Nat.lt_or_ge s (64 * w) with q | q
        · exact hs s q
        · intro z
          have h2 := (bit s (by omega)).mpr z
          rw [h0 (s % 64) (by omega)] at h2
          cases h2
theorem lw_eq {N c : Nat} {tr st : Nat → Int64} (hN : 100000 ≤ N) (hc : c < 200) : ∃ r : Int32, f_K_leastWhere_standing N (nI c) tr st = some r ∧ isLst (fun t => tb st 0 t = true ∧ tb tr (c * 8) t = true) 512 r := by
  unfold f_K_leastWhere_standing
  exact lw_loop hc 8 N 0 (by omega) (by omega) (fun s h => absurd h (by omega))
theorem lo_loop {N n j m : Nat} {q is sd : Nat → Int32} (hn : n ≤ 9) (hj : j < 24) (hq : q j = nI m) (hm : m < 200) (hz : ∀ t, t < 2 ^ n → isZ (is (512 * m + t))) : ∀ (d i t : Nat), t + d = 2 ^ n → d < i → (∀ s, s < t → ¬ (¬ sd s = 0 ∧ is (512 * m + s) = 1)) → ∃ r : Int32, f_M_leastOf_2 N (nI n) q is sd (nI j) i (nI t) = some r ∧ isLst (fun t => ¬ sd t = 0 ∧ is (512 * m + t) = 1) (2 ^ n) r := by
  have h9 := pw9_le n (by omega)
  intro d
  induction d with
  | zero =>
    intro i t ht hi hs
    obtain ⟨i, rfl⟩ : ∃ k, i = k + 1 := ⟨i - 1, by omega⟩
    rw [f_M_leastOf_2, M_types_eq hn, Option.bind_some, if_pos (nI_le (show 2 ^ n ≤ t by omega) (by omega))]
    exact ⟨-1, rfl, Or.inr ⟨rfl, fun s h => hs s (by omega)⟩⟩
  | succ d ih =>
    intro i t ht hi hs
    obtain ⟨i, rfl⟩ : ∃ k, i = k + 1 := ⟨i - 1, by omega⟩
    have go := ih i (t + 1) (by omega) (by omega)
    rw [f_M_leastOf_2, M_types_eq hn, Option.bind_some, if_neg (nI_ge (show t < 2 ^ n by omega) (by omega)), if_neg (nI_g (show t < 512 by omega) (by decide)), nI_cl (by omega), nI_m]
    by_cases h : sd t = 0
    · rw [if_pos h]
      refine go (fun s hlt => ?_)
      by_cases e : s = t
      · subst e; exact fun z => z.1 h
      · exact hs s (by omega)
    · rw [if_neg h, M_isAt_eq hj hq hm (by omega) (hz t (by omega)), Option.bind_some]
      rcases hz t (by omega) with z | z
      · rw [z, if_pos rfl]
        refine go (fun s hlt => ?_)
        by_cases e : s = t
        · subst e; intro y; rw [z] at y; exact absurd y.2 (by decide)
        · exact hs s (by omega)
      · rw [z, if_neg i1z]
        exact ⟨_, rfl, Or.inl ⟨t, by omega, rfl, ⟨h, z⟩, hs⟩⟩
theorem lo_eq {N n j m : Nat} {q is sd : Nat → Int32} (hN : 100000 ≤ N) (hn : n ≤ 9) (hj : j < 24) (hq : q j = nI m) (hm : m < 200) (hz : ∀ t, t < 2 ^ n → isZ (is (512 * m + t))) : ∃ r : Int32, f_M_leastOf N (nI j) (nI n) q is sd = some r ∧ isLst (fun t => ¬ sd t = 0 ∧ is (512 * m + t) = 1) (2 ^ n) r := by
  have h9 := pw9_le n (by omega)
  unfold f_M_leastOf
  exact lo_loop hn hj hq hm hz (2 ^ n) N 0 (by omega) (by omega) (fun s h => absurd h (by omega))
/-- which types stand, of both -/
def RSt (n : Nat) (st : Nat → Int64) (sd : Nat → Int32) : Prop := (∀ t, t < 2 ^ n → isZ (sd t) ∧ (tb st 0 t = true ↔ sd t = 1)) ∧ ∀ t, 2 ^ n ≤ t → t < 512 → tb st 0 t = false
theorem least_same {N n k j : Nat} {cq mq is sd : Nat → Int32} {tr st : Nat → Int64} (hN : 100000 ≤ N) (hn : n ≤ 9) (hk : k ≤ 12) (h : RAsk n k cq mq tr is) (hs : RSt n st sd) (hj : j < k) : ∃ r : Int32, f_K_leastWhere_standing N (cq j) tr st = some r ∧ f_M_leastOf N (nI j) (nI n) mq is sd = some r ∧ isLst (fun t => sd t = 1 ∧ ∃ m : Nat, mq j = nI m ∧ m < 200 ∧ is (512 * m + t) = 1) (2 ^ n) r := by
  have h9 := pw9_le n (by omega)
  obtain ⟨c, m, hc, hm, e1, e2, e3⟩ := h j hj
  obtain ⟨r, g1, g2⟩ := lw_eq (N := N) (tr := tr) (st := st) hN hc
  obtain ⟨r', g3, g4⟩ := lo_eq (N := N) (sd := sd) hN hn (show j < 24 by omega) e2 hm (fun t ht => (e3 t ht).1)
  have e : r' = r := g4.uniq g2 h9 (fun t ht => by
    have q1 := hs.1 t ht
    have q2 := e3 t ht
    constructor
    · rintro ⟨a1, a2⟩
      refine ⟨q1.2.mpr ?_, q2.2.mpr a2⟩
      rcases q1.1 with z | z
      · exact absurd z a1
      · exact z
    · rintro ⟨a1, a2⟩
      refine ⟨fun z => ?_, q2.2.mp a2⟩
      rw [q1.2.mp a1] at z
      exact absurd z (by decide)) (fun t h1 h2 z => by rw [hs.2 t h1 h2] at z; exact absurd z.1 (by decide))
  subst e
  refine ⟨r', by rw [e1]; exact g1, g3, ?_⟩
  have conv : ∀ t, t < 2 ^ n → ((¬ sd t = 0 ∧ is (512 * m + t) = 1) ↔ (sd t = 1 ∧ ∃ m : Nat, mq j = nI m ∧ m < 200 ∧ is (512 * m + t) = 1)) := fun t ht => by
    constructor
    · rintro ⟨a1, a2⟩
      refine ⟨?_, m, e2, hm, a2⟩
      rcases (hs.1 t ht).1 with z | z
      · exact absurd z a1
      · exact z
    · rintro ⟨a1, m', a2, a3, a4⟩
      have : m = m' := (nI_eq (by omega) (by omega)).mp (e2.symm.trans a2)
      subst this
      exact ⟨by rw [a1]; decide, a4⟩
  rcases g4 with ⟨t, b1, b2, b3, b4⟩ | ⟨b1, b2⟩
  · exact Or.inl ⟨t, b1, b2, (conv t b1).mp b3, fun s hlt z => b4 s hlt ((conv s (by omega)).mpr z)⟩
  · exact Or.inr ⟨b1, fun s hlt z => b2 s hlt ((conv s hlt).mpr z)⟩
theorem ask_eq {N n k : Nat} {cq mq is sd : Nat → Int32} {tr st : Nat → Int64} (hN : 100000 ≤ N) (hn : n ≤ 9) (hk : k ≤ 12) (h : RAsk n k cq mq tr is) (hs : RSt n st sd) (a : Int32) : ∃ r : Int32, f_X_ask N a 1 (nI k) cq tr st = some r ∧ f_M_ask N a (nI k) (nI n) 1 mq is sd = some r := by
  have h9 := pw9_le n (by omega)
  unfold f_X_ask f_M_ask
  rw [if_neg i1z, if_neg i1z, X_isQ_eq (by omega), M_noQ_eq (by omega), Option.bind_some, Option.bind_some]
  by_cases h1 : ∃ j : Nat, j < k ∧ a = nI j
  · rw [if_pos h1, if_pos h1, if_neg i1z, if_pos rfl]
    obtain ⟨j, hj, rfl⟩ := h1
    obtain ⟨r, e1, e2, e3⟩ := least_same hN hn hk h hs hj
    rw [B_question_eq hk hj, Option.bind_some, e1, e2, Option.bind_some, Option.bind_some]
    have ng := e3.neg (by omega)
    by_cases h2 : r = -1
    · rw [if_pos h2, if_pos (ng.2.mpr h2)]
      exact ⟨0, rfl, rfl⟩
    · rw [if_neg h2, if_neg (fun z => h2 (ng.2.mp z))]
      exact ⟨1, rfl, rfl⟩
  · rw [if_neg h1, if_neg h1, if_pos rfl, if_neg i1z]
    exact ⟨_, rfl, rfl⟩
