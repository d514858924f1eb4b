/-! a concept that can't begin; TOP and BOTTOM -/
theorem one_mis {N n : Nat} {tx : Nat → Int32} {S Od d W nx fr nd no sz na nn nr : Nat} {o φ wt pl : Nat → Nat} {iR iT : Nat → Int32} {wT : Int64} {iB : Nat → Int32} {lB : Nat → Nat → Int64} {aB : Nat → Nat → Int32} {iC : Nat → Int32} {aC : Nat → Nat → Int32} {iM : Nat → Int32} {aM : Nat → Nat → Int32} {jI : Nat → Int32} {jA : Nat → Nat → Int32} {q : Int32} (hd : d ≤ 12) (P : PS n tx S Od nx fr nd no sz na nn nr o φ wt pl iT wT iB lB iC aC iM aM) (h56 : iM 56 = nI 1) (hq : f_M_kept N (iM 3) (nI fr) (iM 5) (aM 0) wordsM = some q) (hs : f_M_isSignHere 40 (iM 3) (iM 6) = some 0) (hb : f_T_beginsConcept (iT 4) wT = some 0) (hm : ¬ iM 3 = 1 ∨ ∃ i, i < 5 ∧ q = nI i) : OneO N n tx S Od d W fr nd no sz nn nr o φ wt pl wT iR iB aC iM aM jI jA (f_R_takeOne N (14 - d) (nI d) iR iT wT tx iB lB aB iC aC) := by
  obtain ⟨p46, ⟨t1, t2, t3, t4, t5, t6, tR, tW, tT⟩, PM, PD⟩ := P
  have hn := tR.1
  have hfr : fr ≤ n := Nat.le_trans tT.1 tT.2.1
  obtain ⟨F, F1, F2, F3, F4⟩ := tT.misp
  obtain ⟨e, he⟩ : ∃ e, 14 - d = e + 1 := ⟨13 - d, by omega⟩
  have m49 : f_M_readOne_49 N iM aM = some (us iM [(46, nI F), (47, nI fr)], aM) := by
    unfold f_M_readOne_49
    rw [p46, M_misp, Option.bind_some, F4, t6]
  refine Or.inr (flt_now (F := F) (p := fr) (X := us iM [(46, nI F), (47, nI fr)]) (Y := aM) (iR' := us iR [(3, nI F), (4, nI fr)]) (by omega) p46 h56 ?_ F1 F2 (by omega) rfl rfl ?_ rfl rfl (fri_us rfl) FrA.rfl)
  · refine ⟨(iT, wT, iB, lB, iC, aC), ?_⟩
    rw [he, f_R_takeOne]
    unfold f_R_takeOneB
    rw [hb, Option.bind_some, if_pos rfl, R_misp, Option.bind_some, F3, t5]
  · unfold f_M_readOne
    rw [t6, tW, hq, Option.bind_some, hs, Option.bind_some, if_pos rfl]
    rcases hm with h | ⟨i, i1, i2⟩
    · rw [if_neg h]; exact m49
    · by_cases h : iM 3 = 1
      · rw [if_pos h, i2, if_neg (nI_pos (by omega)), if_neg (show ¬ (5 : Int32) ≤ nI i from nI_ge (a := i) (b := 5) i1 (by decide))]
        exact m49
      · rw [if_neg h]; exact m49
