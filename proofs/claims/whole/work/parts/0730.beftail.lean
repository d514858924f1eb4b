/-! a node before its operand: the operand read, then the node ended -/
theorem op_word {N n d fr nx p c1 : Nat} {tx t0 iR iT iB iC : Nat → Int32} {wT : Int64} {lB : Nat → Nat → Int64} {aB aC : Nat → Nat → Int32} {m3 m5 m6 : Int32} {z : (Nat → Int32) × (Nat → Int32) × Int64 × (Nat → Int32) × (Nat → Nat → Int64) × (Nat → Int32) × (Nat → Nat → Int32)} (hN : 100000 ≤ N) (hd : d ≤ 12) (H : RTape n tx t0) (T : Tok n tx nx fr (iT 4) wT m3 m5 m6) (hp : p ≤ fr) (ha : p < n → an (tx p) = false) (hc : c1 < 200) (h : f_R_takeOne N (14 - d) (nI d) iR iT wT tx iB lB aB iC aC = some (nI c1, z)) : p + 1 ≤ fr + (if wT = lN 40 then 1 else 0) := by
  by_cases e : wT = lN 40
  · rw [if_pos e]; omega
  · rw [if_neg e]
    obtain ⟨q, -, q2⟩ := beg_eq hN H T
    rcases q2 with ⟨q2, -⟩ | ⟨-, -, q2⟩
    · exact absurd q2 e
    · rcases q2 with ⟨-, m, -⟩ | ⟨i, -, -, -, m, -⟩ | ⟨-, b, -⟩
      · exact word_gap T hp ha m
      · exact word_gap T hp ha m
      · exfalso
        rw [show 14 - d = (13 - d) + 1 by omega, f_R_takeOne] at h
        unfold f_R_takeOneB at h
        rw [b, Option.bind_some, if_pos rfl, R_misp, Option.bind_some] at h
        have := congrArg (fun o => o.map (fun x => x.1)) h
        simp only [Option.map_some, Option.some.injEq] at this
        exact nI_neg1 (by omega) this.symm
theorem bef_tail {N n : Nat} {tx : Nat → Int32} {S Od d W fr nd no sz nn nr K A r : Nat} {o φ wt pl : Nat → Nat} {wT : Int64} {iR iB : Nat → Int32} {aC : Nat → Nat → Int32} {iM : Nat → Int32} {aM : Nat → Nat → Int32} {jI : Nat → Int32} {jA : Nat → Nat → Int32} {q q1 : Option (Int32 × (Nat → Int32) × (Nat → Int32) × Int64 × (Nat → Int32) × (Nat → Nat → Int64) × (Nat → Int32) × (Nat → Nat → Int32))} {nr1 fr1 : Nat} {wT1 : Int64} {iB1 X1 : Nat → Int32} {Y1 : Nat → Nat → Int32} (hN : 100000 ≤ N) (hd : d < 12) (hnd : nd < 200) (hW : W + 1 ≤ 3 + 3 * (d + 1)) (hno : no ≤ nd) (hsz : sz ≤ nd) (hoo : ∀ j, j < no → o j < nd) (hfr : fr ≤ 2000) (hw : ¬ wT = lN 40) (O1 : OneO N n tx S Od (d + 1) (W + 1) fr1 (nd + 1) no sz nn nr1 o φ wt pl wT1 iR iB1 aC X1 Y1 jI jA q1) (hq1 : ∀ iR' z, q1 = some (-1, iR', z) → ∃ z', q = some (-1, iR', z')) (hq2 : ∀ (c1 c : Nat) (iT' : Nat → Int32) (wT' : Int64) (iB' : Nat → Int32) (lB' : Nat → Nat → Int64) (iC' : Nat → Int32) (aC' : Nat → Nat → Int32) (i4 i9 : Int32) (d0 d1 d2 d3 d5 d6 d7 d8 : Nat → Int32), q1 = some (nI c1, iR, iT', wT', iB', lB', iC', aC') → c1 < 200 → c < 201 → f_C_make N (nI K) (nI c1) (nI r) (iC' 4) (iC' 9) (aC' 0) (aC' 1) (aC' 2) (aC' 3) (aC' 5) (aC' 6) (aC' 7) (aC' 8) = some (nI c, i4, i9, d0, d1, d2, d3, d5, d6, d7, d8) → q = some (nI c, iR, iT', wT', iB', lB', us iC' [(4, i4), (9, i9)], us aC' [(0, d0), (1, d1), (2, d2), (3, d3), (5, d5), (6, d6), (7, d7), (8, d8)])) (hq3 : ¬ K = 3 → ∀ (c1 : Nat) (iT' : Nat → Int32) (wT' : Int64) (iB' : Nat → Int32) (lB' : Nat → Nat → Int64) (iC' : Nat → Int32) (aC' : Nat → Nat → Int32) z, q1 = some (nI c1, iR, iT', wT', iB', lB', iC', aC') → c1 < 200 → f_C_make N (nI K) (nI c1) (nI r) (iC' 4) (iC' 9) (aC' 0) (aC' 1) (aC' 2) (aC' 3) (aC' 5) (aC' 6) (aC' 7) (aC' 8) = some (-1, z) → ∃ iR' z', q = some (-1, iR', z') ∧ iR' 3 = nI 5 ∧ iR' 4 = nI fr) (hR : ∀ i, f_M_readConcept_28 N jI jA (i + 1) 1 iM aM = f_M_readConcept_28 N jI jA i 1 X1 Y1) (hF : FrI tc iM X1) (hFA : FrA ta aM Y1) (hiB : ∀ j, j ≠ 1 → j ≠ 3 → j ≠ 5 → iB1 j = iB j) (krow : ∀ m, m < nd → Y1 8 (200 + m) = aM 8 (200 + m) ∧ Y1 9 (200 + m) = aM 9 (200 + m) ∧ Y1 10 (200 + m) = aM 10 (200 + m) ∧ Y1 11 (200 + m) = aM 11 (200 + m) ∧ Y1 12 (200 + m) = aM 12 (200 + m)) (k5 : ∀ j, j < W → Y1 52 j = aM 52 j ∧ Y1 53 j = aM 53 j) (k52 : Y1 52 W = nI 2) (k53 : Y1 53 W = nI (200 + nd)) (k8 : Y1 8 (200 + nd) = nI K) (hK : (K = 3 ∧ r = 0 ∧ A = 4) ∨ ((K = 4 ∨ K = 5) ∧ Y1 9 (200 + nd) = nI r ∧ r < nr1 ∧ Y1 11 (200 + nd) = -1 ∧ A = K + 2 + rlM Y1 r)) (k12 : Y1 12 (200 + nd) = nI fr) (hnr : nr ≤ nr1) (hrl : ∀ r, r < nr → rlM Y1 r = rlM aM r) (htx : ∀ c1 z, c1 < 200 → q1 = some (nI c1, z) → fr + A ≤ fr1 + (if wT1 = lN 40 then 1 else 0)) (hfr1 : fr < fr1) : OneO N n tx S Od d W fr nd no sz nn nr o φ wt pl wT iR iB aC iM aM jI jA q := by
  rcases O1 with ⟨c1, m, nx', fr', nd', no', sz', na', nn', nr', o', φ', wt', pl', iT', wT', iB', lB', iC', aC', X, Y, k, f, oI, oA, E1, ⟨D1, ⟨x1, x2, x3, x4, x5, x6, x7⟩, D3, D4, D5, D6, D7, D8, ⟨j, hj, hjm⟩, D10, D11, D12, D13, D14, D15, D16, D17, D18, D19⟩, E3, E4, E5⟩ | ⟨F, p, k, v, X, Y, iR', z, g1, g2, g3, g4, g5, g6, g7, g8, g9, g10, g11, g12⟩
  · have D1' := D1
    obtain ⟨-, -, PM, PD⟩ := D1'
    obtain ⟨n1, n2, n3, n4, n5, n6, n7, n8, n9, n10, n11, n12, n13, n14, n15, n16⟩ := PD
    have hc1 : c1 < sz' := by rw [← D10, ← hjm]; exact (n12 j hj).2.2.1
    have hxo : ∀ j, j < no' → o' j ≠ nd := fun i hi => by
      by_cases e : i < no
      · have := (x4 i e).1; have := hoo i e; omega
      · have := x6 i (by omega) hi; omega
    obtain ⟨y8, y9, y10, y11, y12⟩ := x7 nd (by omega)
    have y52 := D11 W (by omega)
    have f1 : 1 ≤ f := by omega
    obtain ⟨f0, rfl⟩ : ∃ f0, f = f0 + 1 := ⟨f - 1, by omega⟩
    have B : BefG N n tx S Od nx' fr' nd' no' na' nn' nr' o' φ' wt' pl' iT' wT' iB' lB' iC' aC' X Y d W nd sz' c1 K A (nI r) ∨ (¬ K = 3 ∧ BefO N n tx S Od nx' fr' nd' no' na' nn' nr' o' φ' wt' pl' iT' wT' iB' lB' iC' aC' X Y d W nd sz' c1 K A (nI r)) := by
      rcases hK with ⟨hK3, hr0, hA⟩ | ⟨hK45, h9, hr, h11, hA⟩
      · subst hK3 hr0 hA
        exact Or.inl (bef_not (j := j) (m := m) hN D1 D6 (by omega) (by rw [y52.1]; exact k52) (by rw [y52.2]; exact k53) (by omega) hxo (by rw [y8]; exact k8) D8 hj hjm D10 D7 (by omega) (by omega) (by omega))
      · exact Or.inr ⟨by omega, bef_qu (j := j) (m := m) hN D1 D6 (by omega) (by rw [y52.1]; exact k52) (by rw [y52.2]; exact k53) (by omega) hxo hK45 (by rw [y8]; exact k8) (by rw [y9]; exact h9) (by omega) (by rw [y11]; exact h11) (by rw [hA, D19 r hr]) D8 hj hjm D10 D7 (by omega) (by omega) (by omega)⟩
    have GOOD : BefG N n tx S Od nx' fr' nd' no' na' nn' nr' o' φ' wt' pl' iT' wT' iB' lB' iC' aC' X Y d W nd sz' c1 K A (nI r) → OneO N n tx S Od d W fr nd no sz nn nr o φ wt pl wT iR iB aC iM aM jI jA q := by
      rintro ⟨c, sz'', na'', wt'', pl'', d0, d1, d2, d3, d5, d6, d7, d8, X', Y', b1, b2, b3, b4, b5, b6, b7, b8, b9, b10, b11, b27, b12, b13, b14, b15, b16, b17, b18⟩
      refine Or.inl ⟨c, nd, nx', fr', nd', no' + 1, sz'', na'', nn', nr', oAd o' no' nd, φAd φ' nd c, wt'', pl'', iT', wT', iB', lB', us iC' [(4, nI sz''), (9, nI na'')], us aC' [(0, d0), (1, d1), (2, d2), (3, d3), (5, d5), (6, d6), (7, d7), (8, d8)], X', Y', k + 1, f0, oI, oA, hq2 c1 c iT' wT' iB' lB' iC' aC' _ _ _ _ _ _ _ _ _ _ E1 (by omega) (by omega) b1, ⟨b3, ⟨by omega, by omega, by omega, fun i hi => ?_, fun a ha => ?_, fun i i1 i2 => ?_, fun i hi => ?_⟩, (hF.trans D3).trans b8, (hFA.trans D4).trans b9, fun i i1 i2 i3 => (D5 i i1 i2 i3).trans (hiB i i1 i2 i3), b4, b5, b6, ⟨no', by omega, if_pos rfl⟩, if_pos rfl, fun i hi => ?_, by omega, by omega, by omega, by omega, ?_, D17, by omega, fun r' hr' => ?_⟩, by omega, by omega, fun i => ?_⟩
      · have h1 : oAd o' no' nd i = o' i := if_neg (by omega)
        have h2 := x4 i hi
        have h3 : φAd φ' nd c (o i) = φ' (o i) := if_neg (by have := hoo i hi; omega)
        exact ⟨h1.trans h2.1, h3.trans h2.2⟩
      · obtain ⟨u1, u2, u3⟩ := b16 a (by omega)
        obtain ⟨w1, w2, w3⟩ := x5 a ha
        exact ⟨u1.trans w1, u2.trans w2, u3.trans w3⟩
      · by_cases e : i = no'
        · have : oAd o' no' nd i = nd := if_pos e
          omega
        · have h1 : oAd o' no' nd i = o' i := if_neg e
          have := x6 i i1 (by omega)
          omega
      · obtain ⟨u8, u9, u10, u11, u12⟩ := b12 (200 + i) (by omega)
        obtain ⟨v8, v9, v10, v11, v12⟩ := x7 i (by omega)
        obtain ⟨w8, w9, w10, w11, w12⟩ := krow i hi
        exact ⟨u8.trans (v8.trans w8), u9.trans (v9.trans w9), u10.trans (v10.trans w10), u11.trans (v11.trans w11), u12.trans (v12.trans w12)⟩
      · have h1 := D11 i (by omega)
        have h2 := k5 i hi
        exact ⟨(congrFun b10 i).trans (h1.1.trans h2.1), (congrFun b11 i).trans (h1.2.trans h2.2)⟩
      · obtain ⟨pe, br, p1, p2, p3, p4⟩ := D16
        have htx' := htx c1 _ (by omega) E1
        refine ⟨pe, br, p1, p2, fun z => p3 (by rw [← b7]; exact z), ?_⟩
        show plx d0 pl'' 3 c + br + _ + fr ≤ _
        rw [b18, b17, if_neg hw]
        omega
      · show (Y' 27 (3 + r')).toNatClampNeg = _
        rw [b27]
        exact (D19 r' (by omega)).trans (hrl r' hr')
      · rw [show i + (k + 1) = (i + k) + 1 by omega, hR, E5, b2]
    rcases B with B | ⟨hK3, B | B⟩
    · exact GOOD B
    · exact GOOD B
    · obtain ⟨z, X', Y', b1, b2, b3, b4, b5, b6⟩ := B
      obtain ⟨iR', z', c1', c2', c3'⟩ := hq3 hK3 c1 iT' wT' iB' lB' iC' aC' z E1 (by omega) b1
      obtain ⟨f1', rfl⟩ : ∃ f1', f0 = f1' + 1 := ⟨f0 - 1, by omega⟩
      refine Or.inr ⟨5, fr, k + 2, X' 55, X', Y', iR', z', c1', by decide, by decide, hfr, c2', c3', ?_, fun i => ?_, b3, b4.trans (y12.trans k12), (hF.trans D3).trans b5, (hFA.trans D4).trans b6⟩
      · have := D1.2.1.2.2.2.2.2.2.1.1
        have := D1.2.1.2.2.2.2.2.2.2.2.1
        have := D1.2.1.2.2.2.2.2.2.2.2.2.1
        omega
      · show f_M_readConcept_28 N jI jA (i + (k + 2)) 1 iM aM = _
        rw [show i + (k + 2) = ((i + 1) + k) + 1 by omega, hR, E5, b2, Option.bind_some]
        exact run_bad b3 (by decide) (by decide)
  · obtain ⟨z', hz'⟩ := hq1 iR' z g1
    refine Or.inr ⟨F, p, k + 1, v, X, Y, iR', z', hz', g2, g3, g4, g5, g6, by omega, fun i => ?_, g9, g10, hF.trans g11, hFA.trans g12⟩
    show f_M_readConcept_28 N jI jA (i + (k + 1)) 1 iM aM = _
    rw [show i + (k + 1) = (i + k) + 1 by omega, hR]
    exact g8 i
