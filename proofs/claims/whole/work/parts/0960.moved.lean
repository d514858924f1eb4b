/-! the new book, moved down: what the told one then is, of both -/
theorem mvd_hi (m : Nat) (h : m < 1000) : mvd (nI (200 + m)) = nI m := by
  unfold mvd
  rw [if_pos (show (200 : Int32) ≤ nI (200 + m) from nI_le (a := 200) (by omega) (by omega)), Nat.add_comm, ← nI_add]
  exact Int32.add_sub_cancel (nI m) (nI 200)
theorem mvd_lo (m : Nat) (h : m < 200) : mvd (nI m) = nI m := by
  unfold mvd
  rw [if_neg (show ¬ (200 : Int32) ≤ nI m from nI_ge (a := m) (b := 200) h (by decide))]
theorem nar_b : ∀ b, b < 128 → vp_nar .byte (nI b) = nI b := by decide +kernel
theorem nar_z {v : Int32} (h : isZ v) : vp_nar .boolean v = v := by
  rcases h with h | h <;> (rw [h]; decide)
theorem pkb_congr {f g : Nat → Int32} {a b : Nat} : ∀ n, (∀ i, i < n → f (a + i) = g (b + i)) → pkb f a n = pkb g b n
  | 0, _ => rfl
  | n + 1, h => by
    show pkb f a n * 256 + (f (a + n)).toNatClampNeg = pkb g b n * 256 + (g (b + n)).toNatClampNeg
    rw [pkb_congr n (fun i hi => h i (by omega)), h n (by omega)]
theorem RNd_mv {no ns sz : Nat} {o φ : Nat → Nat} {a x : Nat → Nat → Int32} {c0 c1 c2 c3 : Nat → Int32} (hno : no ≤ 200) (B : BcA a no ns x) (ho : ∀ j, j < no → o j < no) (H : RNd 200 no sz o φ (a 8) (a 9) (a 10) (a 11) (a 13) c0 c1 c2 c3) : RNd 0 no sz o φ (x 8) (x 9) (x 10) (x 11) (x 13) c0 c1 c2 c3 := by
  obtain ⟨-, b8, b9, b10, b11, b13, -⟩ := B
  intro j hj
  obtain ⟨h1, h2, h3, K, k1, k2, k3, k4, k5, k6, k7, k8⟩ := H j hj
  have hoj := ho j hj
  have lt5 : ∀ K : Nat, K < 8 → K ≤ 5 → nI K ≤ (5 : Int32) := by decide
  have gt5 : ∀ K : Nat, K < 8 → 6 ≤ K → ¬ nI K ≤ (5 : Int32) := by decide
  refine ⟨h1, ?_, h3, K, k1, ?_, k3, fun z => ?_, fun z => ?_, fun z => ?_, fun z => ?_, fun z => ?_⟩
  · rw [Nat.zero_add, Nat.zero_add, b13, if_pos hj, h2, mvd_hi _ (by omega)]
  · rw [Nat.zero_add, b8, if_pos hoj, k2]
  · rw [Nat.zero_add, b9, if_pos hoj, k2, if_pos (lt5 K k1 (by omega))]; exact k4 z
  · rw [Nat.zero_add, b9, if_pos hoj, k2, if_pos (lt5 K k1 (by omega))]; exact k5 z
  · rw [Nat.zero_add, b11, if_pos hoj]; exact k6 z
  · obtain ⟨i, i1, i2, i3⟩ := k7 z
    refine ⟨i, i1, ?_, i3⟩
    have := ho i (by omega)
    rw [Nat.zero_add, Nat.zero_add, b10, if_pos hoj, i2, mvd_hi _ (by omega)]
  · obtain ⟨i, i1, i2, i3⟩ := k8 z
    refine ⟨i, i1, ?_, i3⟩
    have := ho i (by omega)
    rw [Nat.zero_add, Nat.zero_add, b9, if_pos hoj, k2, if_neg (gt5 K k1 z), i2, mvd_hi _ (by omega)]
theorem AtR_mv {n no ns nn nr nc : Nat} {o φ : Nat → Nat} {a x : Nat → Nat → Int32} {c5 c6 c7 c8 : Nat → Int32} (hn : n ≤ 9) (B : BcA a nc ns x) (ho : ∀ j, j < no → o j < 200) (H : AtR 200 9 n no nn nr o φ c5 c6 c7 c8 (a 32) (a 33) (a 34) (a 35)) : AtR 0 0 n no nn nr o φ c5 c6 c7 c8 (x 32) (x 33) (x 34) (x 35) := by
  obtain ⟨-, -, -, -, -, -, -, -, -, -, -, -, -, -, -, -, -, b32, b33, b34, b35⟩ := B
  intro k hk
  obtain ⟨h1, h2, h3⟩ := H k hk
  rw [Nat.zero_add, b32, if_pos (by omega), b33, if_pos (by omega), b34, if_pos (by omega), b35, if_pos (by omega)]
  refine ⟨h1, h2, ?_⟩
  rcases h3 with h | ⟨r, r1, r2, r3, j, j1, j2, j3, j4, j5⟩
  · exact Or.inl h
  · have := ho j j1
    refine Or.inr ⟨r, r1, r2, r3, j, j1, j2, ?_, ?_, j5⟩
    · rw [j3, mvd_hi _ (by omega), Nat.zero_add]
    · rw [j4]; exact nar_z j5
theorem RuS_mv {rc no ns nc : Nat} {o φ : Nat → Nat} {a x : Nat → Nat → Int32} {cr : Nat → Int32} (hrc : rc ≤ 12) (B : BcA a nc ns x) (ho : ∀ j, j < no → o j < 200) (H : RuS 200 12 250 rc no ns o φ cr (a 19) (a 15) (a 16) (a 17)) : RuS 0 0 0 rc no ns o φ cr (x 19) (x 15) (x 16) (x 17) := by
  obtain ⟨-, -, -, -, -, -, b15, b16, b17, b19, -⟩ := B
  intro k hk
  obtain ⟨so, sy, j1, j2, h1, h2, h3, h4, h5, h6, h7, h8, h9⟩ := H k hk
  have := ho j1 h3
  have := ho j2 h4
  refine ⟨so, sy, j1, j2, h1, h2, h3, h4, h5, ?_, ?_, ?_, ?_⟩
  · rw [Nat.zero_add, b19, if_pos (by omega)]; exact h6
  · rw [Nat.zero_add, b15, if_pos h2]; exact h7
  · rw [Nat.zero_add, b16, if_pos h2, h8, mvd_hi _ (by omega), Nat.zero_add]
  · rw [Nat.zero_add, b17, if_pos h2, h9, mvd_hi _ (by omega), Nat.zero_add]
theorem QuS_mv {qc no ns nc : Nat} {o φ : Nat → Nat} {a x : Nat → Nat → Int32} {cq : Nat → Int32} (hqc : qc ≤ 12) (B : BcA a nc ns x) (ho : ∀ j, j < no → o j < 200) (H : QuS 200 12 qc no o φ cq (a 21)) : QuS 0 0 qc no o φ cq (x 21) := by
  obtain ⟨-, -, -, -, -, -, -, -, -, -, b21, -⟩ := B
  intro k hk
  obtain ⟨j, h1, h2, h3⟩ := H k hk
  have := ho j h1
  refine ⟨j, h1, h2, ?_⟩
  rw [Nat.zero_add, b21, if_pos (by omega), h3, mvd_hi _ (by omega), Nat.zero_add]
theorem StS_mv {ns no nr nc : Nat} {o φ wt pl tl : Nat → Nat} {a x : Nat → Nat → Int32} {cs : Nat → Int32} (hnr : nr ≤ 3) (B : BcA a nc ns x) (ho : ∀ j, j < no → o j < 200) (H : StS 200 250 ns no nr o φ wt pl (rlM a) tl cs (a 15) (a 16) (a 17)) : StS 0 0 ns no nr o φ wt pl (fun r => (x 27 r).toNatClampNeg) tl cs (x 15) (x 16) (x 17) := by
  obtain ⟨-, -, -, -, -, -, b15, b16, b17, b19, b21, b23, b26, b24, b27, -⟩ := B
  have rl : ∀ r, r < nr → (x 27 r).toNatClampNeg = rlM a r := fun r hr => by rw [b27, if_pos (by omega)]; rfl
  intro s hs
  rw [Nat.zero_add, b15, if_pos hs, b16, if_pos hs, b17, if_pos hs]
  rcases H s hs with ⟨so, j1, j2, a1, a2, a3, a4, a5, a6, a7, a8, a9, a10⟩ | ⟨j1, a2, a4, a5, a6, a8, a10⟩ | ⟨r, r', a1, a2, a4, a5, a6, a7, a10⟩ | ⟨r, a1, a4, a5, a6, a10⟩
  · have := ho j1 a2
    have := ho j2 a3
    exact Or.inl ⟨so, j1, j2, a1, a2, a3, a4, a5, by rw [a6, mvd_hi _ (by omega), Nat.zero_add], by rw [a7, mvd_hi _ (by omega), Nat.zero_add], a8, a9, a10⟩
  · have := ho j1 a2
    exact Or.inr (Or.inl ⟨j1, a2, a4, a5, by rw [a6, mvd_hi _ (by omega), Nat.zero_add], a8, a10⟩)
  · exact Or.inr (Or.inr (Or.inl ⟨r, r', a1, a2, a4, a5, by rw [a6, mvd_lo _ (by omega)], by rw [a7, mvd_lo _ (by omega)], by rw [a10]; show _ = tl s + (6 + (x 27 r).toNatClampNeg + 1 + (x 27 r').toNatClampNeg + 2); rw [rl r a1, rl r' a2]⟩))
  · exact Or.inr (Or.inr (Or.inr ⟨r, a1, a4, a5, by rw [a6, mvd_lo _ (by omega)], by rw [a10]; show _ = tl s + (7 + (x 27 r).toNatClampNeg + 2); rw [rl r a1]⟩))
theorem NmW_mv {hK hL nn : Nat} {lw : Nat → Int64} {a23 a24 x23 x24 : Nat → Int32} (e24 : ∀ i, i < nn → x24 i = a24 (hK + i)) (e23 : ∀ i, i < 8 * nn → x23 i = vp_nar .byte (a23 (hL + i))) (H : NmW hK hL nn lw a23 a24) : NmW 0 0 nn lw x23 x24 := by
  intro k hk
  obtain ⟨n, n1, n8, h1, h2, h3⟩ := H k hk
  have e : ∀ i, i < n → x23 (0 + 8 * k + i) = a23 (hL + 8 * k + i) := fun i hi => by
    obtain ⟨b, b1, b2, b3⟩ := h2 i hi
    rw [Nat.zero_add, e23 _ (by omega), show hL + (8 * k + i) = hL + 8 * k + i by omega, b3, nar_b b b2]
  refine ⟨n, n1, n8, ?_, fun i hi => ?_, ?_⟩
  · rw [Nat.zero_add, e24 k hk]; exact h1
  · rw [e i hi]; exact h2 i hi
  · rw [h3, pkb_congr n e]
theorem NmC_of {na nn nr sz : Nat} {c0 c1 c2 c3 c5 c6 c7 c8 k32 k33 k34 k35 : Nat → Int32} {h hA no : Nat} {o φ : Nat → Nat} (HN : ∀ a, a < nn → ∃ c, c < sz ∧ c0 c = nI 0 ∧ c1 c = nI a) (HT : ATn sz na c0 c1 c2 c3 c5 c6 c7 c8) (HU : AtU na c5 c6 c7 c8) (HA : AtR h hA na no nn nr o φ c5 c6 c7 c8 k32 k33 k34 k35) : NmC nn na sz c0 c1 c3 c6 := by
  refine ⟨HN, fun c hc h0 => ?_, fun k k' hk hk' e ne => ?_⟩
  · obtain ⟨x, x1, x2, -, x4⟩ := (HT c hc).1 h0
    exact ⟨x, x1, x2, x4⟩
  · obtain ⟨-, -, h1⟩ := HA k hk
    obtain ⟨-, -, h2⟩ := HA k' hk'
    rcases h1 with ⟨p5, -, p7, p8⟩ | ⟨r, -, -, p6, -⟩
    · rcases h2 with ⟨q5, -, q7, q8⟩ | ⟨r, -, -, q6, -⟩
      · exact HU k k' hk hk' (p5.trans q5.symm) e (p7.trans q7.symm) (p8.trans q8.symm)
      · exact absurd (e.trans q6) ne
    · exact absurd p6 ne
