/-! the class's ways into a concept -/
theorem to_37 {N d : Nat} {tx iR iT iB iC : Nat → Int32} {wT : Int64} {lB : Nat → Nat → Int64} {aB aC : Nat → Nat → Int32} {h : Int32} (hd : d ≤ 12) (hb : f_T_beginsConcept (iT 4) wT = some 1) (hh : f_T_holdsConcept wT = some h) (hc : d < 12 ∨ h = 0) : f_R_takeOne N (14 - d) (nI d) iR iT wT tx iB lB aB iC aC = f_R_takeOneB_37 N (f_R_takeOne N (14 - (d + 1))) iR iT wT tx iB lB aB iC aC (nI d) := by
  rw [show 14 - d = (14 - (d + 1)) + 1 by omega, f_R_takeOne]
  unfold f_R_takeOneB
  rw [hb, Option.bind_some, if_neg i1z]
  by_cases h12 : d < 12
  · rw [if_pos (show nI d < (12 : Int32) from nI_lt h12 (by decide))]
  · rw [if_neg (show ¬ nI d < (12 : Int32) from nI_nlt (b := 12) (by omega) (by omega)), hh, Option.bind_some, if_pos (hc.resolve_left h12)]
theorem to_deep {N : Nat} {tx iR iT iB iC : Nat → Int32} {wT : Int64} {lB : Nat → Nat → Int64} {aB aC : Nat → Nat → Int32} (hb : f_T_beginsConcept (iT 4) wT = some 1) (hh : f_T_holdsConcept wT = some 1) : f_R_takeOne N (14 - 12) (nI 12) iR iT wT tx iB lB aB iC aC = some (-1, us iR [(3, 3), (4, iT 3)], iT, wT, iB, lB, iC, aC) := by
  rw [show 14 - 12 = 1 + 1 by decide, f_R_takeOne]
  unfold f_R_takeOneB
  rw [hb, Option.bind_some, if_neg i1z, if_neg (show ¬ nI 12 < (12 : Int32) by decide), hh, Option.bind_some, if_neg i1z]
  rfl
theorem to_60 {N nd : Nat} {one : Int32 → (Nat → Int32) → (Nat → Int32) → Int64 → (Nat → Int32) → (Nat → Int32) → (Nat → Nat → Int64) → (Nat → Nat → Int32) → (Nat → Int32) → (Nat → Nat → Int32) → Option (Int32 × (Nat → Int32) × (Nat → Int32) × Int64 × (Nat → Int32) × (Nat → Nat → Int64) × (Nat → Int32) × (Nat → Nat → Int32))} {tx iR iT iB iC : Nat → Int32} {wT : Int64} {lB : Nat → Nat → Int64} {aB aC : Nat → Nat → Int32} {v : Int32} (hw : ¬ wT = lN 40) (h1 : iB 1 = nI nd) : (nd < 200 → f_R_takeOneB_37 N one iR iT wT tx iB lB aB iC aC v = f_R_takeOneB_60 N one iR iT wT tx iB lB aB iC aC v iR (us iB [(1, nI (nd + 1))])) ∧ (nd = 200 → ∃ z, f_R_takeOneB_37 N one iR iT wT tx iB lB aB iC aC v = some (-1, us iR [(3, 3), (4, iT 3)], z)) := by
  unfold f_R_takeOneB_37 f_R_countConcept
  rw [if_neg (show ¬ wT = (40 : Int64) from hw), h1]
  constructor
  · intro h
    rw [if_pos (show nI nd < (200 : Int32) from nI_lt h (by decide)), Option.bind_some, if_neg i1z, nI_m, us_rr]
  · intro h
    rw [h, if_neg (show ¬ nI 200 < (200 : Int32) by decide), R_failH]
    exact ⟨_, rfl⟩
/-- the model's way into a concept that is no bracket's -/
theorem ro_54 {N fr : Nat} {q : Int32} {iM : Nat → Int32} {aM : Nat → Nat → Int32} (h4 : iM 4 = nI fr) (hW : aM 7 = wordsM) (h3 : iM 3 = 1) (hq : f_M_kept N (iM 3) (nI fr) (iM 5) (aM 0) wordsM = some q) (hs : f_M_isSignHere 40 (iM 3) (iM 6) = some 0) (h : q = -1 ∨ ∃ i, 5 ≤ i ∧ i < 10 ∧ q = nI i) : ∃ K : Nat, (q = -1 → K = 0) ∧ (∀ i, i < 10 → q = nI i → K = kdq.getD i 0) ∧ f_M_readOne N iM aM = f_M_readOne_105 N iM aM q (nI K) := by
  unfold f_M_readOne
  rw [h4, hW, hq, Option.bind_some, hs, Option.bind_some, if_pos rfl, if_pos h3]
  rcases h with e | ⟨i, i5, i10, e⟩
  · rw [e, if_pos (show (-1 : Int32) < 0 by decide), r54n]
    exact ⟨0, fun _ => rfl, fun i hi z => absurd z.symm (nI_neg1 (by omega)), rfl⟩
  · rw [e, if_neg (nI_pos (by omega)), if_pos (show (5 : Int32) ≤ nI i from nI_le (a := 5) i5 (by omega)), r54 i5 i10]
    exact ⟨kdq.getD i 0, fun z => absurd z (nI_neg1 (by omega)), fun j hj z => by rw [(nI_eq (by omega) (by omega)).mp z], rfl⟩
/-- no node is left, for both -/
theorem one_full {N n : Nat} {tx : Nat → Int32} {S Od d W nx fr no sz na nn nr : Nat} {o φ wt pl : Nat → Nat} {iR iT : Nat → Int32} {wT : Int64} {iB : Nat → Int32} {lB : Nat → Nat → Int64} {aB : Nat → Nat → Int32} {iC : Nat → Int32} {aC : Nat → Nat → Int32} {iM : Nat → Int32} {aM : Nat → Nat → Int32} {jI : Nat → Int32} {jA : Nat → Nat → Int32} {q h : Int32} (hd : d ≤ 12) (P : PS n tx S Od nx fr 200 no sz na nn nr o φ wt pl iT wT iB lB iC aC iM aM) (h56 : iM 56 = nI 1) (hw : ¬ wT = lN 40) (h3 : iM 3 = 1) (hq : f_M_kept N (iM 3) (nI fr) (iM 5) (aM 0) wordsM = some q) (hs : f_M_isSignHere 40 (iM 3) (iM 6) = some 0) (hb : f_T_beginsConcept (iT 4) wT = some 1) (hh : f_T_holdsConcept wT = some h) (hh1 : h = 0 ∨ h = 1) (hm : q = -1 ∨ ∃ i, 5 ≤ i ∧ i < 10 ∧ q = nI i) : OneO N n tx S Od d W fr 200 no sz nn nr o φ wt pl wT iR iB aC iM aM jI jA (f_R_takeOne N (14 - d) (nI d) iR iT wT tx iB lB aB iC aC) := by
  obtain ⟨p46, ⟨t1, t2, t3, t4, t5, t6, tR, tW, tT⟩, PM, PD⟩ := P
  obtain ⟨n1, n2, n3, n4, n5, n6, n7, n8, n9, n10, n11, n12, n13, n14, n15, n16⟩ := PD
  have hn := tR.1
  have hfr : fr ≤ n := Nat.le_trans tT.1 tT.2.1
  obtain ⟨K, K1, K2, K3⟩ := ro_54 t6 tW h3 hq hs hm
  refine Or.inr (flt_now (F := 3) (p := fr) (X := us iM [(38, nI 200), (46, 3), (47, nI fr)]) (Y := us aM [(8, aM 8), (9, aM 9), (10, aM 10), (11, aM 11), (12, aM 12)]) (iR' := us iR [(3, 3), (4, iT 3)]) (by omega) p46 h56 ?_ (by decide) (by decide) (by omega) rfl t5 ?_ rfl rfl (fri_us rfl) (fra_us rfl (low_cons (fun i hi => rfl) (low_cons (fun i hi => rfl) (low_cons (fun i hi => rfl) (low_cons (fun i hi => rfl) (low_cons (fun i hi => rfl) low_nil)))))))
  · by_cases hc : d < 12 ∨ h = 0
    · rw [to_37 hd hb hh hc]
      exact (to_60 hw n5).2 rfl
    · have d12 : d = 12 := by
        by_cases z : d < 12
        · exact absurd (Or.inl z) hc
        · omega
      have h1 : h = 1 := hh1.resolve_left (fun z => hc (Or.inr z))
      subst d12
      rw [to_deep hb (by rw [hh, h1])]
      exact ⟨_, rfl⟩
  · rw [K3]
    unfold f_M_readOne_105
    rw [t6, n6, p46, nn_full, Option.bind_some, show f_M_fine 3 = some 0 from rfl, Option.bind_some, if_pos rfl]
theorem tr_tb {sz nn nr na K c : Nat} {wt pl nl rl : Nat → Nat} {d0 d1 d2 d3 d5 d6 d7 d8 : Nat → Int32} (CS : ClS sz nn nr na wt pl nl rl d0 d1 d2 d3 d5 d6 d7 d8) (hc : c < sz) (hK : K = 1 ∨ K = 2) (e0 : d0 c = nI K) : wt c = 1 ∧ plx d0 pl 3 c = (if K = 1 then 3 else 6) := by
  have TE := CS.2.2.2.2 c hc
  have k8 : K < 8 := by omega
  have hkd : kd d0 c = K := kd_of k8 e0
  unfold TrE at TE
  rw [hkd] at TE
  unfold plx
  rw [hkd]
  rcases hK with e | e
  · have := TE.2.1 e
    rw [e, this.2]; exact ⟨this.1, rfl⟩
  · have := TE.2.2.1 e
    rw [e, this.2]; exact ⟨this.1, rfl⟩
/-- TOP and BOTTOM -/
theorem one_top {N n : Nat} {tx : Nat → Int32} {S Od d W nx fr nd no sz na nn nr i : Nat} {o φ wt pl : Nat → Nat} {iR iT : Nat → Int32} {wT : Int64} {iB : Nat → Int32} {lB : Nat → Nat → Int64} {aB : Nat → Nat → Int32} {iC : Nat → Int32} {aC : Nat → Nat → Int32} {iM : Nat → Int32} {aM : Nat → Nat → Int32} {jI : Nat → Int32} {jA : Nat → Nat → Int32} (hN : 100000 ≤ N) (hd : d ≤ 12) (P : PS n tx S Od nx fr nd no sz na nn nr o φ wt pl iT wT iB lB iC aC iM aM) (hnd : nd < 200) (h56 : iM 56 = nI 1) (h54 : iM 54 = nI W) (h49 : iM 49 = nI d) (hw : ¬ wT = lN 40) (h3 : iM 3 = 1) (hq : f_M_kept N (iM 3) (nI fr) (iM 5) (aM 0) wordsM = some (nI i)) (hs : f_M_isSignHere 40 (iM 3) (iM 6) = some 0) (hb : f_T_beginsConcept (iT 4) wT = some 1) (hh : f_T_holdsConcept wT = some 0) (hi : i = 8 ∨ i = 9) (hwi : wT = lN (kww.getD i 0)) : OneO N n tx S Od d W fr nd no sz nn nr o φ wt pl wT iR iB aC iM aM jI jA (f_R_takeOne N (14 - d) (nI d) iR iT wT tx iB lB aB iC aC) := by
  have P' := P
  obtain ⟨p46, hTk, PM, PD⟩ := P'
  have hTk' := hTk
  obtain ⟨t1, t2, t3, t4, t5, t6, tR, tW, tT⟩ := hTk'
  have PD' := PD
  obtain ⟨n1, n2, n3, n4, n5, n6, n7, n8, n9, n10, n11, n12, n13, n14, n15, n16⟩ := PD'
  have PM' := PM
  obtain ⟨hnn, hnr, -⟩ := PM'
  obtain ⟨K, K1, K2, K3⟩ := ro_54 t6 tW h3 hq hs (Or.inr ⟨i, by omega, by omega, rfl⟩)
  have eK := K2 i (by omega) rfl
  have hK : K = i - 7 := by rw [eK]; rcases hi with e | e <;> (rw [e]; rfl)
  obtain ⟨s1, s2, s3, s4, -⟩ := w_kept tT (by rw [hwi]; exact kwB_of (by omega))
  have hsz := w_size tT (by omega) hwi
  have hz : kwZ.getD i 0 = (if K = 1 then 3 else 6) := by rw [hK]; rcases hi with e | e <;> (rw [e]; rfl)
  have k12 : K = 1 ∨ K = 2 := by omega
  obtain ⟨c, sz', wt', pl', d0, d1, d2, d3, M1, M2, M3, M4, M5, M6, M7, M8, M9, M10⟩ := mk_pl (K := K) (v1 := nI 0) (v2 := nI 0) hN (show sz < 200 by omega) hnn hnr n14 (by omega) (fun z => absurd z (by omega)) (fun z => absurd z (by omega)) (fun _ => ⟨rfl, rfl⟩) (fun z => absurd z (by omega))
  have hw1 := tr_tb M10 M4 k12 M7
  have hl : 1 ≤ kwZ.getD i 0 := by
    rw [hz]
    split <;> decide
  rw [← hz] at hw1
  have H1 : NdS (nd + 1) no sz na nn nr o φ wt pl (us iB [(1, nI (nd + 1))]) iC aC (us iM [(38, nI (nd + 1)), (46, 0), (47, iM 47)]) (us aM [(8, upd (aM 8) (200 + nd) (nI K)), (9, upd (aM 9) (200 + nd) (-1)), (10, upd (aM 10) (200 + nd) (-1)), (11, upd (aM 11) (200 + nd) (-1)), (12, upd (aM 12) (200 + nd) (nI fr))]) := NdS_new PD hnd ⟨rfl, rfl, rfl, rfl⟩ rfl rfl rfl rfl rfl rfl rfl ⟨rfl, rfl, rfl, rfl⟩
  have hne : ∀ j, j < no → o j ≠ nd := fun j hj => by have := n11 j hj; omega
  have H2 : NdS (nd + 1) (no + 1) sz' na nn nr (oAd o no nd) (φAd φ nd c) wt' pl' (us iB [(1, nI (nd + 1))]) (us iC [(4, nI sz'), (9, nI na)]) (us aC [(0, d0), (1, d1), (2, d2), (3, d3), (5, aC 5), (6, aC 6), (7, aC 7), (8, aC 8)]) (us (us iM [(38, nI (nd + 1)), (46, 0), (47, iM 47)]) [(39, nI (no + 1))]) (us (us aM [(8, upd (aM 8) (200 + nd) (nI K)), (9, upd (aM 9) (200 + nd) (-1)), (10, upd (aM 10) (200 + nd) (-1)), (11, upd (aM 11) (200 + nd) (-1)), (12, upd (aM 12) (200 + nd) (nI fr))]) [(13, upd (aM 13) (200 + no) (nI (200 + nd)))]) := by
    refine NdS_end H1 (by omega) hne (by omega) M2 (by omega) n4 M4 M5 ⟨rfl, rfl⟩ M6 M10 ⟨rfl, rfl, rfl, n10⟩ (fun j hj => ⟨rfl, rfl, rfl, rfl, up_n (by have := n11 j hj; omega)⟩) up_s n13 ⟨K, by omega, up_s, M7, fun z => absurd z (by omega), fun z => absurd z (by omega), fun z => absurd z (by omega), fun z => absurd z (by omega), fun z => absurd z (by omega)⟩ (by omega) (fun a ha => ?_)
    obtain ⟨c', q1, q2, q3⟩ := n16 a ha
    obtain ⟨z0, z1, -⟩ := M6 c' q1
    exact ⟨c', by omega, by rw [← q2]; exact z0, by rw [← q3]; exact z1⟩
  obtain ⟨nx', fr', c4', w', X, Y, oI, oA, L1, L2, L3, L4⟩ := leaf_end (d := d) (W := W) (sz := sz) (iB := iB) (iB' := us iB [(1, nI (nd + 1))]) (lB' := lB) (iC' := us iC [(4, nI sz'), (9, nI na)]) (aC' := us aC [(0, d0), (1, d1), (2, d2), (3, d3), (5, aC 5), (6, aC 6), (7, aC 7), (8, aC 8)]) (aC := aC) (wt := wt) (pl := pl) (X1 := us iM [(38, nI (nd + 1)), (46, 0), (47, iM 47)]) (Y1 := us aM [(8, upd (aM 8) (200 + nd) (nI K)), (9, upd (aM 9) (200 + nd) (-1)), (10, upd (aM 10) (200 + nd) (-1)), (11, upd (aM 11) (200 + nd) (-1)), (12, upd (aM 12) (200 + nd) (nI fr))]) hN hnd hTk hw s4 hsz hl rfl ⟨t2, t4, rfl, tW, n7⟩ (fri_us rfl) (fra_us rfl (low_cons (fun i hi => up_n (by have : lowB 8 = 200 := rfl; omega)) (low_cons (fun i hi => up_n (by have : lowB 9 = 200 := rfl; omega)) (low_cons (fun i hi => up_n (by have : lowB 10 = 200 := rfl; omega)) (low_cons (fun i hi => up_n (by have : lowB 11 = 200 := rfl; omega)) (low_cons (fun i hi => absurd hi (by have : lowB 12 = 0 := rfl; omega)) low_nil)))))) h54 h49 ⟨rfl, rfl⟩ (fun m hm => ⟨up_n (by omega), up_n (by omega), up_n (by omega), up_n (by omega), up_n (by omega)⟩) PM H2 n2 n11 M2 M3 (fun a ha => ⟨(M6 a ha).1, (M6 a ha).2.2.2.2.1, (M6 a ha).2.2.2.2.2⟩) (fun j q1 q2 q3 => us_ne1 q1) hw1.1 hw1.2 (Nat.le_refl _) (Nat.le_refl _) (fun _ _ => rfl)
  refine Or.inl ⟨c, nd, nx', fr', nd + 1, no + 1, sz', na, nn, nr, oAd o no nd, φAd φ nd c, wt', pl', us iT [(2, nI nx'), (3, nI fr'), (4, c4')], w', us iB [(1, nI (nd + 1))], lB, us iC [(4, nI sz'), (9, nI na)], us aC [(0, d0), (1, d1), (2, d2), (3, d3), (5, aC 5), (6, aC 6), (7, aC 7), (8, aC 8)], X, Y, 1, N, oI, oA, ?_, L2, L3, by omega, fun i' => ?_⟩
  · rw [to_37 hd hb hh (Or.inr rfl), (to_60 hw n5).1 hnd]
    unfold f_R_takeOneB_60
    rw [s1, if_neg (by decide), ← s1, L1, Option.bind_some, if_neg (show ¬ wT = (40 : Int64) from hw)]
    have M1' : f_C_make N (nI K) 0 0 (iC 4) (iC 9) (aC 0) (aC 1) (aC 2) (aC 3) (aC 5) (aC 6) (aC 7) (aC 8) = some (nI c, nI sz', nI na, d0, d1, d2, d3, aC 5, aC 6, aC 7, aC 8) := by rw [n8, n9]; exact M1
    rcases hi with e | e
    · have e1 : K = 1 := by omega
      rw [e1] at M1'
      rw [hwi, e, if_pos (show lN (kww.getD 8 0) = (7630704 : Int64) from rfl), show (1 : Int32) = nI 1 from rfl, M1', Option.bind_some]
    · have e1 : K = 2 := by omega
      rw [e1] at M1'
      rw [hwi, e, if_neg (show ¬ lN (kww.getD 9 0) = (7630704 : Int64) by decide), if_pos (show lN (kww.getD 9 0) = (108230834679661 : Int64) from rfl), show (2 : Int32) = nI 2 from rfl, M1', Option.bind_some]
  · rw [run_one p46 h56, K3]
    unfold f_M_readOne_105
    rw [t6, n6, p46, nn_new hnd, Option.bind_some, M_fine0, Option.bind_some, if_neg i1z, if_neg (show ¬ nI i < (5 : Int32) from nI_nlt (b := 5) (by omega) (by omega)), if_pos (show (7 : Int32) < nI i from nI_lt (a := 7) (by omega) (by omega))]
    unfold f_M_readOne_173
    rw [if_pos (nI_pos' (show i < 2147483648 by omega)), L4, bind_eta]
