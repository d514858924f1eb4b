/-! the model's truths: a row a node, type by type -/
/-- an ended node of the model, and its node of the class; h: where its rows begin -/
def RN1 (h : Nat) (o φ : Nat → Nat) (k8 k9 k10 k11 c0 c1 c2 c3 : Nat → Int32) (j : Nat) : Prop := ∃ K : Nat, K < 8 ∧ k8 (h + o j) = nI K ∧ c0 (φ (o j)) = nI K ∧ (K = 0 → k9 (h + o j) = c1 (φ (o j))) ∧ (K = 4 ∨ K = 5 → k9 (h + o j) = c2 (φ (o j))) ∧ (K = 0 ∨ K = 4 ∨ K = 5 → k11 (h + o j) = c3 (φ (o j))) ∧ (3 ≤ K → ∃ i, i < j ∧ k10 (h + o j) = nI (h + o i) ∧ (if K < 6 then c1 else c2) (φ (o j)) = nI (φ (o i))) ∧ (6 ≤ K → ∃ i, i < j ∧ k9 (h + o j) = nI (h + o i) ∧ c1 (φ (o j)) = nI (φ (o i)))
def RNd (h no sz : Nat) (o φ : Nat → Nat) (k8 k9 k10 k11 k13 c0 c1 c2 c3 : Nat → Int32) : Prop := ∀ j, j < no → o j < 200 ∧ k13 (h + j) = nI (h + o j) ∧ φ (o j) < sz ∧ RN1 h o φ k8 k9 k10 k11 c0 c1 c2 c3 j
/-- a node's truth at a type, of both -/
def TN (tr : Nat → Int64) (is : Nat → Int32) (c m t : Nat) : Prop := isZ (is (512 * m + t)) ∧ (is (512 * m + t) = 1 ↔ tb tr (c * 8) t = true)
theorem ix512 (m t : Nat) : ((512 : Int32) * nI m) + nI t = nI (512 * m + t) := by
  rw [show (512 : Int32) = nI 512 from rfl, pk_mul, nI_add]
theorem isZ01 {v : Int32} (h : isZ v) : (v = 0 ↔ ¬ v = 1) := by
  rcases h with h | h <;> (rw [h]; decide)
theorem ft_step {N no n sz nn nr na t j i : Nat} {o φ : Nat → Nat} {m8 m9 m10 m11 m13 m30 m32 m34 m35 m57 m58 m59 m60 c0 c1 c2 c3 is x58 : Nat → Int32} {tr : Nat → Int64} {k2 : Int32 → (Nat → Int32) → (Nat → Int32) → Option ((Nat → Int32) × (Nat → Int32) × (Nat → Int32) × (Nat → Int32))} (hz : sz ≤ 200) (hna : na ≤ 9) (hno : no ≤ 200) (H : RNd 0 no sz o φ m8 m9 m10 m11 m13 c0 c1 c2 c3) (HC : CNd sz nn nr na c0 c1 c2 c3) (hE : ∀ c t, c < sz → t < 512 → EqC c0 c1 c2 c3 tr c t) (ht : t < 512) (hj : j < no) (hb : ∀ j', j' < j → TN tr is (φ (o j')) (o j') t) : ∃ b : Int32, isZ b ∧ (b = 1 ↔ tb tr (φ (o j) * 8) t = true) ∧ f_M_findTruths_12 N (nI no) (nI n) m8 m9 m10 m11 m13 m30 m32 m34 m35 m57 m58 m59 m60 k2 (nI t) x58 (i + 1) (nI j) is = f_M_findTruths_12 N (nI no) (nI n) m8 m9 m10 m11 m13 m30 m32 m34 m35 m57 m58 m59 m60 k2 (nI t) x58 i (nI (j + 1)) (upd is (512 * o j + t) b) := by
  obtain ⟨o1, o2, o3, K, hK, e8, e0, n9, n94, n11, n10, n96⟩ := H j hj
  obtain ⟨K', hK', e0', q3, q1, q2, -, -, -, -⟩ := HC _ o3
  have eKK : K' = K := (nI_eq (by omega) (by omega)).mp (e0'.symm.trans e0)
  subst eKK
  have E := hE _ t o3 ht
  rw [Nat.zero_add] at e8 n9 n94 n11 n10 n96 o2
  rw [Nat.zero_add] at o2
  have b1 : vp_nar .boolean (1 : Int32) = 1 := by decide
  have b0 : vp_nar .boolean (0 : Int32) = 0 := by decide
  have g400 : ¬ (nI (o j) < 0 ∨ 400 ≤ o j) := nI_gc (by omega) (by decide)
  have gIx : ∀ m, m < 200 → ¬ (nI (512 * m + t) < 0 ∨ 102400 ≤ 512 * m + t) := fun m hm => nI_gc (by omega) (by decide)
  have low : ∀ i', i' < j → o i' < 200 := fun i' hi' => (H i' (by omega)).1
  have lowf : ∀ i', i' < j → φ (o i') < 200 := fun i' hi' => Nat.lt_of_lt_of_le (H i' (by omega)).2.2.1 hz
  rw [f_M_findTruths_12, if_neg (nI_ge hj (by omega)), if_neg (nI_g (show j < 400 by omega) (by decide)), nI_cl (show j < 2147483648 by omega), o2, nI_cl (show o j < 2147483648 by omega), if_neg g400, e8, ix512, nI_m]
  have cases8 : K' = 0 ∨ K' = 1 ∨ K' = 2 ∨ K' = 3 ∨ K' = 4 ∨ K' = 5 ∨ K' = 6 ∨ K' = 7 := by omega
  rcases cases8 with e | e | e | e | e | e | e | e <;> subst e
  · obtain ⟨x, hx, ex⟩ := q3 (Or.inl rfl)
    have e11 := n11 (Or.inl rfl)
    rw [ex] at e11
    have hE := E.1 (Or.inl e0)
    rw [ex, nI_cl (show x < 2147483648 by omega)] at hE
    have hbit := mbit1 (t := t) (x := x) (by omega) (by omega)
    rw [if_pos (show nI 0 = (0 : Int32) by decide), e11]
    by_cases hx2 : t.testBit x = true
    · rw [if_pos (hbit.1.mpr hx2)]
      refine ⟨1, Or.inr rfl, ⟨fun _ => by rw [hE, hx2], fun _ => rfl⟩, ?_⟩
      unfold f_M_findTruths_109; rw [nI_cl (show 512 * o j + t < 2147483648 by omega), if_neg (gIx _ o1), b1, nI_m]
    · rw [if_neg (fun z => hx2 (hbit.1.mp z))]
      refine ⟨0, Or.inl rfl, ⟨fun z => absurd z (by decide), fun z => by rw [hE] at z; exact absurd z hx2⟩, ?_⟩
      unfold f_M_findTruths_109; rw [nI_cl (show 512 * o j + t < 2147483648 by omega), if_neg (gIx _ o1), b0, nI_m]
  · have hE := E.2.2.1 e0
    refine ⟨1, Or.inr rfl, ⟨fun _ => hE, fun _ => rfl⟩, ?_⟩
    rw [if_neg (show ¬ nI 1 = (0 : Int32) by decide), if_pos (show nI 1 = (1 : Int32) by decide), nI_cl (show 512 * o j + t < 2147483648 by omega), if_neg (gIx _ o1), b1]
  · have hE := E.2.2.2.1 e0
    refine ⟨0, Or.inl rfl, ⟨fun z => absurd z (by decide), fun z => by rw [hE] at z; cases z⟩, ?_⟩
    rw [if_neg (show ¬ nI 2 = (0 : Int32) by decide), if_neg (show ¬ nI 2 = (1 : Int32) by decide), if_pos (show nI 2 = (2 : Int32) by decide), nI_cl (show 512 * o j + t < 2147483648 by omega), if_neg (gIx _ o1), b0]
  · obtain ⟨i', hi', e10, ec⟩ := n10 (by omega)
    rw [if_pos (by decide)] at ec
    rw [Nat.zero_add] at e10
    have hE := E.2.2.2.2.1 e0
    rw [ec, nI_cl (show φ (o i') < 2147483648 by have := lowf i' hi'; omega)] at hE
    have hl := hb i' hi'
    have ho := low i' hi'
    rw [if_neg (show ¬ nI 3 = (0 : Int32) by decide), if_neg (show ¬ nI 3 = (1 : Int32) by decide), if_neg (show ¬ nI 3 = (2 : Int32) by decide), if_pos (show nI 3 = (3 : Int32) by decide), e10, ix512, nI_cl (show 512 * o i' + t < 2147483648 by omega), if_neg (gIx _ ho)]
    rcases hl.1 with z | z
    · rw [if_pos z]
      refine ⟨1, Or.inr rfl, ⟨fun _ => ?_, fun _ => rfl⟩, ?_⟩
      · rw [hE]
        cases q : tb tr (φ (o i') * 8) t
        · rfl
        · rw [hl.2.mpr q] at z; exact absurd z (by decide)
      · unfold f_M_findTruths_194; rw [nI_cl (show 512 * o j + t < 2147483648 by omega), if_neg (gIx _ o1), b1, nI_m]
    · rw [if_neg (show ¬ is (512 * o i' + t) = 0 by rw [z]; decide)]
      refine ⟨0, Or.inl rfl, ⟨fun q => absurd q (by decide), fun q => ?_⟩, ?_⟩
      · rw [hE, hl.2.mp z] at q; cases q
      · unfold f_M_findTruths_194; rw [nI_cl (show 512 * o j + t < 2147483648 by omega), if_neg (gIx _ o1), b0, nI_m]
  · obtain ⟨x, hx, ex⟩ := q3 (Or.inr (Or.inl rfl))
    have e11 := n11 (Or.inr (Or.inl rfl))
    rw [ex] at e11
    have hE := E.1 (Or.inr e0)
    rw [ex, nI_cl (show x < 2147483648 by omega)] at hE
    have hbit := mbit1 (t := t) (x := x) (by omega) (by omega)
    rw [if_neg (show ¬ nI 4 = (0 : Int32) by decide), if_neg (show ¬ nI 4 = (1 : Int32) by decide), if_neg (show ¬ nI 4 = (2 : Int32) by decide), if_neg (show ¬ nI 4 = (3 : Int32) by decide), if_pos (show nI 4 = (4 : Int32) by decide), e11]
    by_cases hx2 : t.testBit x = true
    · rw [if_pos (hbit.1.mpr hx2)]
      refine ⟨1, Or.inr rfl, ⟨fun _ => by rw [hE, hx2], fun _ => rfl⟩, ?_⟩
      unfold f_M_findTruths_109; rw [nI_cl (show 512 * o j + t < 2147483648 by omega), if_neg (gIx _ o1), b1, nI_m]
    · rw [if_neg (fun z => hx2 (hbit.1.mp z))]
      refine ⟨0, Or.inl rfl, ⟨fun z => absurd z (by decide), fun z => by rw [hE] at z; exact absurd z hx2⟩, ?_⟩
      unfold f_M_findTruths_109; rw [nI_cl (show 512 * o j + t < 2147483648 by omega), if_neg (gIx _ o1), b0, nI_m]
  · obtain ⟨x, hx, ex⟩ := q3 (Or.inr (Or.inr rfl))
    have e11 := n11 (Or.inr (Or.inr rfl))
    rw [ex] at e11
    have hE := E.2.1 e0
    rw [ex, nI_cl (show x < 2147483648 by omega)] at hE
    have hbit := mbit1 (t := t) (x := x) (by omega) (by omega)
    rw [if_neg (show ¬ nI 5 = (0 : Int32) by decide), if_neg (show ¬ nI 5 = (1 : Int32) by decide), if_neg (show ¬ nI 5 = (2 : Int32) by decide), if_neg (show ¬ nI 5 = (3 : Int32) by decide), if_neg (show ¬ nI 5 = (4 : Int32) by decide), if_pos (show nI 5 = (5 : Int32) by decide), e11]
    by_cases hx2 : t.testBit x = false
    · rw [if_pos (hbit.2.mpr hx2)]
      refine ⟨1, Or.inr rfl, ⟨fun _ => by rw [hE, hx2]; rfl, fun _ => rfl⟩, ?_⟩
      unfold f_M_findTruths_137; rw [nI_cl (show 512 * o j + t < 2147483648 by omega), if_neg (gIx _ o1), b1, nI_m]
    · rw [if_neg (fun z => hx2 (hbit.2.mp z))]
      refine ⟨0, Or.inl rfl, ⟨fun z => absurd z (by decide), fun z => by rw [hE] at z; cases q : t.testBit x; exact absurd q hx2; rw [q] at z; exact absurd z (by decide)⟩, ?_⟩
      unfold f_M_findTruths_137; rw [nI_cl (show 512 * o j + t < 2147483648 by omega), if_neg (gIx _ o1), b0, nI_m]
  · obtain ⟨i2, hi2, e10, ec2⟩ := n10 (by omega)
    obtain ⟨i1, hi1, e9, ec1⟩ := n96 (by omega)
    rw [if_neg (by decide)] at ec2
    rw [Nat.zero_add] at e10 e9
    have hE := E.2.2.2.2.2.1 e0
    rw [ec1, ec2, nI_cl (show φ (o i1) < 2147483648 by have := lowf i1 hi1; omega), nI_cl (show φ (o i2) < 2147483648 by have := lowf i2 hi2; omega)] at hE
    have hl1 := hb i1 hi1
    have ho1 := low i1 hi1
    have hl2 := hb i2 hi2
    have ho2 := low i2 hi2
    rw [if_neg (show ¬ nI 6 = (0 : Int32) by decide), if_neg (show ¬ nI 6 = (1 : Int32) by decide), if_neg (show ¬ nI 6 = (2 : Int32) by decide), if_neg (show ¬ nI 6 = (3 : Int32) by decide), if_neg (show ¬ nI 6 = (4 : Int32) by decide), if_neg (show ¬ nI 6 = (5 : Int32) by decide), if_pos (show nI 6 = (6 : Int32) by decide), e9, ix512, nI_cl (show 512 * o i1 + t < 2147483648 by omega), if_neg (gIx _ ho1), e10, ix512, nI_cl (show 512 * o i2 + t < 2147483648 by omega), if_neg (gIx _ ho2)]
    rcases hl1.1 with z | z
    · rw [if_pos z]
      refine ⟨0, Or.inl rfl, ⟨fun q => absurd q (by decide), fun q => ?_⟩, ?_⟩
      · rw [hE, Bool.and_eq_true] at q; rw [hl1.2.mpr q.1] at z; exact absurd z (by decide)
      · unfold f_M_findTruths_249; rw [nI_cl (show 512 * o j + t < 2147483648 by omega), if_neg (gIx _ o1), b0, nI_m]
    · rw [if_neg (show ¬ is (512 * o i1 + t) = 0 by rw [z]; decide)]
      rcases hl2.1 with y | y
      · rw [if_pos y]
        refine ⟨0, Or.inl rfl, ⟨fun q => absurd q (by decide), fun q => ?_⟩, ?_⟩
        · rw [hE, Bool.and_eq_true] at q; rw [hl2.2.mpr q.2] at y; exact absurd y (by decide)
        · unfold f_M_findTruths_249; rw [nI_cl (show 512 * o j + t < 2147483648 by omega), if_neg (gIx _ o1), b0, nI_m]
      · rw [if_neg (show ¬ is (512 * o i2 + t) = 0 by rw [y]; decide)]
        refine ⟨1, Or.inr rfl, ⟨fun _ => by rw [hE, hl1.2.mp z, hl2.2.mp y]; rfl, fun _ => rfl⟩, ?_⟩
        unfold f_M_findTruths_249; rw [nI_cl (show 512 * o j + t < 2147483648 by omega), if_neg (gIx _ o1), b1, nI_m]
  · obtain ⟨i2, hi2, e10, ec2⟩ := n10 (by omega)
    obtain ⟨i1, hi1, e9, ec1⟩ := n96 (by omega)
    rw [if_neg (by decide)] at ec2
    rw [Nat.zero_add] at e10 e9
    have hE := E.2.2.2.2.2.2 e0
    rw [ec1, ec2, nI_cl (show φ (o i1) < 2147483648 by have := lowf i1 hi1; omega), nI_cl (show φ (o i2) < 2147483648 by have := lowf i2 hi2; omega)] at hE
    have hl1 := hb i1 hi1
    have ho1 := low i1 hi1
    have hl2 := hb i2 hi2
    have ho2 := low i2 hi2
    rw [if_neg (show ¬ nI 7 = (0 : Int32) by decide), if_neg (show ¬ nI 7 = (1 : Int32) by decide), if_neg (show ¬ nI 7 = (2 : Int32) by decide), if_neg (show ¬ nI 7 = (3 : Int32) by decide), if_neg (show ¬ nI 7 = (4 : Int32) by decide), if_neg (show ¬ nI 7 = (5 : Int32) by decide), if_neg (show ¬ nI 7 = (6 : Int32) by decide), e9, ix512, nI_cl (show 512 * o i1 + t < 2147483648 by omega), if_neg (gIx _ ho1), e10, ix512, nI_cl (show 512 * o i2 + t < 2147483648 by omega), if_neg (gIx _ ho2)]
    rcases hl1.1 with z | z
    · rw [if_pos z]
      rcases hl2.1 with y | y
      · rw [if_pos y]
        refine ⟨0, Or.inl rfl, ⟨fun q => absurd q (by decide), fun q => ?_⟩, ?_⟩
        · rw [hE, Bool.or_eq_true] at q
          rcases q with q | q
          · rw [hl1.2.mpr q] at z; exact absurd z (by decide)
          · rw [hl2.2.mpr q] at y; exact absurd y (by decide)
        · unfold f_M_findTruths_304; rw [nI_cl (show 512 * o j + t < 2147483648 by omega), if_neg (gIx _ o1), b0, nI_m]
      · rw [if_neg (show ¬ is (512 * o i2 + t) = 0 by rw [y]; decide)]
        refine ⟨1, Or.inr rfl, ⟨fun _ => by rw [hE, hl2.2.mp y, Bool.or_true], fun _ => rfl⟩, ?_⟩
        unfold f_M_findTruths_304; rw [nI_cl (show 512 * o j + t < 2147483648 by omega), if_neg (gIx _ o1), b1, nI_m]
    · rw [if_neg (show ¬ is (512 * o i1 + t) = 0 by rw [z]; decide)]
      refine ⟨1, Or.inr rfl, ⟨fun _ => by rw [hE, hl1.2.mp z, Bool.true_or], fun _ => rfl⟩, ?_⟩
      unfold f_M_findTruths_304; rw [nI_cl (show 512 * o j + t < 2147483648 by omega), if_neg (gIx _ o1), b1, nI_m]
theorem ft_in {N no n sz nn nr na t : Nat} {o φ : Nat → Nat} {m8 m9 m10 m11 m13 m30 m32 m34 m35 m57 m58 m59 m60 c0 c1 c2 c3 x58 : Nat → Int32} {tr : Nat → Int64} {k2 : Int32 → (Nat → Int32) → (Nat → Int32) → Option ((Nat → Int32) × (Nat → Int32) × (Nat → Int32) × (Nat → Int32))} (hz : sz ≤ 200) (hna : na ≤ 9) (hno : no ≤ 200) (H : RNd 0 no sz o φ m8 m9 m10 m11 m13 c0 c1 c2 c3) (HC : CNd sz nn nr na c0 c1 c2 c3) (hE : ∀ c t, c < sz → t < 512 → EqC c0 c1 c2 c3 tr c t) (ht : t < 512) : ∀ (d i j : Nat) (is : Nat → Int32), j + d = no → d < i → (∀ j', j' < j → TN tr is (φ (o j')) (o j') t) → ∃ is' : Nat → Int32, f_M_findTruths_12 N (nI no) (nI n) m8 m9 m10 m11 m13 m30 m32 m34 m35 m57 m58 m59 m60 k2 (nI t) x58 i (nI j) is = f_M_findTruths_320 N (nI no) (nI n) m8 m9 m10 m11 m13 m30 m32 m34 m35 m57 m58 m59 m60 k2 (nI t) is' N (0 : Int32) (upd x58 t 0) ∧ (∀ j', j' < no → TN tr is' (φ (o j')) (o j') t) ∧ ∀ m t', t' < 512 → t' ≠ t → is' (512 * m + t') = is (512 * m + t') := by
  intro d
  induction d with
  | zero =>
    intro i j is hj hi hb
    obtain ⟨i, rfl⟩ : ∃ k, i = k + 1 := ⟨i - 1, by omega⟩
    rw [f_M_findTruths_12, if_pos (nI_le (show no ≤ j by omega) (by omega)), if_neg (nI_g (show t < 512 by omega) (by decide)), nI_cl (by omega)]
    exact ⟨is, rfl, fun j' h => hb j' (by omega), fun _ _ _ _ => rfl⟩
  | succ d ih =>
    intro i j is hj hi hb
    obtain ⟨i, rfl⟩ : ∃ k, i = k + 1 := ⟨i - 1, by omega⟩
    obtain ⟨b, b1, b2, b3⟩ := ft_step (N := N) (n := n) (m30 := m30) (m32 := m32) (m34 := m34) (m35 := m35) (m57 := m57) (m58 := m58) (m59 := m59) (m60 := m60) (x58 := x58) (k2 := k2) (i := i) hz hna hno H HC hE ht (show j < no by omega) hb
    rw [b3]
    obtain ⟨is', a1, a2, a3⟩ := ih i (j + 1) (upd is (512 * o j + t) b) (by omega) (by omega) (fun j' hj' => by
      unfold TN upd
      by_cases e : o j' = o j
      · rw [e, if_pos rfl]; exact ⟨b1, b2⟩
      · by_cases e2 : j' = j
        · rw [e2] at e; exact absurd rfl e
        · rw [if_neg (by omega)]
          exact hb j' (by omega))
    refine ⟨is', a1, a2, fun m t' h1 h2 => ?_⟩
    rw [a3 m t' h1 h2]
    unfold upd
    rw [if_neg (by omega)]
