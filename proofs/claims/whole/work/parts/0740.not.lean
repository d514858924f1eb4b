/-! too deep; NOT -/
theorem one_deep {N n : Nat} {tx : Nat → Int32} {S Od d W nx fr nd no sz na nn nr i : Nat} {o φ wt pl : Nat → Nat} {iR iT : Nat → Int32} {wT : Int64} {iB : Nat → Int32} {lB : Nat → Nat → Int64} {aB : Nat → Nat → Int32} {iC : Nat → Int32} {aC : Nat → Nat → Int32} {iM : Nat → Int32} {aM : Nat → Nat → Int32} {jI : Nat → Int32} {jA : Nat → Nat → Int32} (hN : 100000 ≤ N) (hi5 : 5 ≤ i) (hi8 : i < 8) (hd : d = 12) (P : PS n tx S Od nx fr nd no sz na nn nr o φ wt pl iT wT iB lB iC aC iM aM) (hnd : nd < 200) (h56 : iM 56 = nI 1) (h54 : iM 54 = nI W) (h49 : iM 49 = nI d) (hw : ¬ wT = lN 40) (h3 : iM 3 = 1) (hq : f_M_kept N (iM 3) (nI fr) (iM 5) (aM 0) wordsM = some (nI i)) (hs : f_M_isSignHere 40 (iM 3) (iM 6) = some 0) (hb : f_T_beginsConcept (iT 4) wT = some 1) (hh : f_T_holdsConcept wT = some 1) (hwi : wT = lN (kww.getD i 0)) : OneO N n tx S Od d W fr nd no sz nn nr o φ wt pl wT iR iB aC iM aM jI jA (f_R_takeOne N (14 - d) (nI d) iR iT wT tx iB lB aB iC aC) := by
  have P' := P
  obtain ⟨p46, hTk, PM, PD⟩ := P'
  have hTk' := hTk
  obtain ⟨t1, t2, t3, t4, t5, t6, tR, tW, tT⟩ := hTk'
  have PD' := PD
  obtain ⟨n1, n2, n3, n4, n5, n6, n7, n8, n9, n10, n11, n12, n13, n14, n15, n16⟩ := PD'
  have hn := tR.1
  have hfr : fr ≤ n := Nat.le_trans tT.1 tT.2.1
  obtain ⟨K, K1, K2, K3⟩ := ro_54 t6 tW h3 hq hs (Or.inr ⟨i, by omega, by omega, rfl⟩)
  have eK := K2 i (by omega) rfl
  refine Or.inr (flt_now (F := 3) (p := fr) (X := us iM [(38, nI (nd + 1)), (46, 3), (47, nI fr), (49, nI 12)]) (Y := us aM [(8, upd (aM 8) (200 + nd) (nI K)), (9, upd (aM 9) (200 + nd) (-1)), (10, upd (aM 10) (200 + nd) (-1)), (11, upd (aM 11) (200 + nd) (-1)), (12, upd (aM 12) (200 + nd) (nI fr))]) (iR' := us iR [(3, 3), (4, iT 3)]) (by omega) p46 h56 ?_ (by decide) (by decide) (by omega) rfl t5 ?_ rfl rfl (fri_us rfl) (fra_us rfl (low_cons (fun i hi => up_n (by have : lowB 8 = 200 := rfl; omega)) (low_cons (fun i hi => up_n (by have : lowB 9 = 200 := rfl; omega)) (low_cons (fun i hi => up_n (by have : lowB 10 = 200 := rfl; omega)) (low_cons (fun i hi => up_n (by have : lowB 11 = 200 := rfl; omega)) (low_cons (fun i hi => absurd hi (by have : lowB 12 = 0 := rfl; omega)) (low_nil))))))))
  · subst hd
    rw [to_deep hb hh]
    exact ⟨_, rfl⟩
  · rw [K3]
    unfold f_M_readOne_105
    rw [t6, n6, p46, nn_new hnd, Option.bind_some, M_fine0, Option.bind_some, if_neg i1z, if_neg (show ¬ nI i < (5 : Int32) from nI_nlt (b := 5) (by omega) (by omega)), if_neg (show ¬ (7 : Int32) < nI i from nI_nlt (a := 7) (b := i) (by omega) (by omega))]
    unfold f_M_goesDeeper
    rw [h49, hd, if_pos (show nI 12 = (12 : Int32) from rfl), M_wrong0]
    rfl
theorem one_not {N n : Nat} {tx : Nat → Int32} {S Od d W nx fr nd no sz na nn nr i : Nat} {o φ wt pl : Nat → Nat} {iR iT : Nat → Int32} {wT : Int64} {iB : Nat → Int32} {lB : Nat → Nat → Int64} {aB : Nat → Nat → Int32} {iC : Nat → Int32} {aC : Nat → Nat → Int32} {iM : Nat → Int32} {aM : Nat → Nat → Int32} {jI : Nat → Int32} {jA : Nat → Nat → Int32} (hN : 100000 ≤ N) (hi : i = 5) (hd : d < 12) (IH : P1 N n tx S Od (d + 1)) (hW1 : 1 ≤ W) (hW : W ≤ 3 + 3 * d) (P : PS n tx S Od nx fr nd no sz na nn nr o φ wt pl iT wT iB lB iC aC iM aM) (hnd : nd < 200) (h56 : iM 56 = nI 1) (h54 : iM 54 = nI W) (h49 : iM 49 = nI d) (hw : ¬ wT = lN 40) (h3 : iM 3 = 1) (hq : f_M_kept N (iM 3) (nI fr) (iM 5) (aM 0) wordsM = some (nI i)) (hs : f_M_isSignHere 40 (iM 3) (iM 6) = some 0) (hb : f_T_beginsConcept (iT 4) wT = some 1) (hh : f_T_holdsConcept wT = some 1) (hwi : wT = lN (kww.getD i 0)) : OneO N n tx S Od d W fr nd no sz nn nr o φ wt pl wT iR iB aC iM aM jI jA (f_R_takeOne N (14 - d) (nI d) iR iT wT tx iB lB aB iC aC) := by
  have P' := P
  obtain ⟨p46, hTk, PM, PD⟩ := P'
  have hTk' := hTk
  obtain ⟨t1, t2, t3, t4, t5, t6, tR, tW, tT⟩ := hTk'
  have PD' := PD
  obtain ⟨n1, n2, n3, n4, n5, n6, n7, n8, n9, n10, n11, n12, n13, n14, n15, n16⟩ := PD'
  have hn := tR.1
  have hfr : fr ≤ n := Nat.le_trans tT.1 tT.2.1
  obtain ⟨K, K1, K2, K3⟩ := ro_54 t6 tW h3 hq hs (Or.inr ⟨i, by omega, by omega, rfl⟩)
  have eK := K2 i (by omega) rfl
  have hK : K = 3 := by rw [eK, hi]; rfl
  obtain ⟨s1, s2, s3, s4, -⟩ := w_kept tT (by rw [hwi]; exact kwB_of (by omega))
  have hsz := w_size tT (by omega) hwi
  have hz : kwZ.getD i 0 = 3 := by rw [hi]; rfl
  rw [hz] at hsz
  obtain ⟨fr1, nx1, c4', w1, k3, k5, k6, q1, q2, q3, q4⟩ := tok_step (N := N) (o3 := nI fr) (o4 := iT 4) (m3 := iM 3) (m4 := nI fr) (m5 := iM 5) (m6 := iM 6) (ow := wT) hN tR tT.2.1
  have H1 : NdS (nd + 1) no sz na nn nr o φ wt pl (us iB [(1, nI (nd + 1))]) iC aC (us iM [(38, nI (nd + 1)), (46, 0), (47, iM 47)]) (us aM [(8, upd (aM 8) (200 + nd) (nI K)), (9, upd (aM 9) (200 + nd) (-1)), (10, upd (aM 10) (200 + nd) (-1)), (11, upd (aM 11) (200 + nd) (-1)), (12, upd (aM 12) (200 + nd) (nI fr))]) := NdS_new PD hnd ⟨rfl, rfl, rfl, rfl⟩ rfl rfl rfl rfl rfl rfl rfl ⟨rfl, rfl, rfl, rfl⟩
  have PS1 : PS n tx S Od nx1 fr1 (nd + 1) no sz na nn nr o φ wt pl (us iT [(2, nI nx1), (3, nI fr1), (4, c4')]) w1 (us iB [(1, nI (nd + 1))]) lB iC aC (us (us iM [(2, nI nx1), (3, k3), (4, nI fr1), (5, k5), (6, k6), (38, nI (nd + 1)), (46, 0), (47, iM 47), (49, nI (d + 1))]) [(54, nI (W + 1))]) (us (us aM [(8, upd (aM 8) (200 + nd) (nI K)), (9, upd (aM 9) (200 + nd) (-1)), (10, upd (aM 10) (200 + nd) (-1)), (11, upd (aM 11) (200 + nd) (-1)), (12, upd (aM 12) (200 + nd) (nI fr))]) [(52, upd (aM 52) W (nI 2)), (53, upd (aM 53) W (nI (200 + nd)))]) := ⟨rfl, ⟨t1, t2, rfl, rfl, rfl, rfl, tR, tW, q3⟩, PM, H1⟩
  have O1 := IH (W + 1) nx1 fr1 (nd + 1) no sz na nn nr o φ wt pl iR (us iT [(2, nI nx1), (3, nI fr1), (4, c4')]) w1 (us iB [(1, nI (nd + 1))]) lB aB iC aC _ _ jI jA PS1 h56 rfl (by omega) (by omega) rfl
  have FF : f_R_takeOne N (14 - d) (nI d) iR iT wT tx iB lB aB iC aC = (f_R_takeOne N (14 - (d + 1)) (nI (d + 1)) iR (us iT [(2, nI nx1), (3, nI fr1), (4, c4')]) w1 tx (us iB [(1, nI (nd + 1))]) lB aB iC aC).bind fun q165 => (if q165.1 = (-1) then (some ((-1), q165.2.1, q165.2.2.1, q165.2.2.2.1, q165.2.2.2.2.1, q165.2.2.2.2.2.1, q165.2.2.2.2.2.2.1, q165.2.2.2.2.2.2.2)) else ((f_C_make N (3) q165.1 (0) ((q165.2.2.2.2.2.2.1 4)) ((q165.2.2.2.2.2.2.1 9)) ((q165.2.2.2.2.2.2.2 0)) ((q165.2.2.2.2.2.2.2 1)) ((q165.2.2.2.2.2.2.2 2)) ((q165.2.2.2.2.2.2.2 3)) ((q165.2.2.2.2.2.2.2 5)) ((q165.2.2.2.2.2.2.2 6)) ((q165.2.2.2.2.2.2.2 7)) ((q165.2.2.2.2.2.2.2 8))).bind fun q188 => (some (q188.1, q165.2.1, q165.2.2.1, q165.2.2.2.1, q165.2.2.2.2.1, q165.2.2.2.2.2.1, (us q165.2.2.2.2.2.2.1 [(4, q188.2.1), (9, q188.2.2.1)]), (us q165.2.2.2.2.2.2.2 [(0, q188.2.2.2.1), (1, q188.2.2.2.2.1), (2, q188.2.2.2.2.2.1), (3, q188.2.2.2.2.2.2.1), (5, q188.2.2.2.2.2.2.2.1), (6, q188.2.2.2.2.2.2.2.2.1), (7, q188.2.2.2.2.2.2.2.2.2.1), (8, q188.2.2.2.2.2.2.2.2.2.2)]))))) := by
    have L1 : f_T_step N (iT 1) (iT 2) (iT 3) (iT 4) wT tx = some (nI nx1, nI fr1, c4', w1) := by rw [t1, t3, t5]; exact q1
    rw [to_37 (Nat.le_of_lt hd) hb hh (Or.inl hd), (to_60 hw n5).1 hnd]
    unfold f_R_takeOneB_60
    rw [s1, if_neg (by decide), ← s1, L1, Option.bind_some, if_neg (show ¬ wT = (40 : Int64) from hw), if_neg (show ¬ wT = (7630704 : Int64) by rw [hwi, hi]; decide), if_neg (show ¬ wT = (108230834679661 : Int64) by rw [hwi, hi]; decide), if_pos (show wT = (7237492 : Int64) by rw [hwi, hi]; rfl), nI_m]
  refine bef_tail (K := K) (A := 4) (r := 0) hN hd hnd (by omega) n2 n3 n11 (by omega) hw O1 ?_ ?_ (fun z => absurd hK z) ?_ ((fri_us rfl).trans (fri_us rfl)) (FrA.trans (a' := us aM [(8, upd (aM 8) (200 + nd) (nI K)), (9, upd (aM 9) (200 + nd) (-1)), (10, upd (aM 10) (200 + nd) (-1)), (11, upd (aM 11) (200 + nd) (-1)), (12, upd (aM 12) (200 + nd) (nI fr))]) (fra_us rfl (low_cons (fun i hi => up_n (by have : lowB 8 = 200 := rfl; omega)) (low_cons (fun i hi => up_n (by have : lowB 9 = 200 := rfl; omega)) (low_cons (fun i hi => up_n (by have : lowB 10 = 200 := rfl; omega)) (low_cons (fun i hi => up_n (by have : lowB 11 = 200 := rfl; omega)) (low_cons (fun i hi => absurd hi (by have : lowB 12 = 0 := rfl; omega)) (low_nil))))))) (fra_us rfl (low_cons (fun i hi => absurd hi (by have : lowB 52 = 0 := rfl; omega)) (low_cons (fun i hi => absurd hi (by have : lowB 53 = 0 := rfl; omega)) low_nil)))) (fun j z1 z2 z3 => us_ne1 z1) (fun m hm => ⟨up_n (by omega), up_n (by omega), up_n (by omega), up_n (by omega), up_n (by omega)⟩) (fun j hj => ⟨up_n (by omega), up_n (by omega)⟩) up_s up_s up_s (Or.inl ⟨hK, rfl, rfl⟩) up_s (Nat.le_refl _) (fun _ _ => rfl) ?_ (by omega)
  · intro iR' z hz'
    rw [FF, hz', Option.bind_some]
    exact ⟨_, rfl⟩
  · intro c1 c iT' wT' iB' lB' iC' aC' i4 i9 d0 d1 d2 d3 d5 d6 d7 d8 e1 hc1 hc e2
    rw [hK] at e2
    rw [FF, e1, Option.bind_some]
    show (if nI c1 = -1 then _ else _) = _
    rw [if_neg (nI_neg1 (by omega)), show (3 : Int32) = nI 3 from rfl, show (0 : Int32) = nI 0 from rfl, e2, Option.bind_some]
  · intro i'
    rw [run_one p46 h56, K3]
    unfold f_M_readOne_105
    rw [t6, n6, p46, nn_new hnd, Option.bind_some, M_fine0, Option.bind_some, if_neg i1z, if_neg (show ¬ nI i < (5 : Int32) from nI_nlt (b := 5) (by omega) (by omega)), if_neg (show ¬ (7 : Int32) < nI i from nI_nlt (a := 7) (b := i) (by omega) (by omega))]
    unfold f_M_goesDeeper
    rw [h49, if_neg (show ¬ nI d = (12 : Int32) from fun z => by have := (nI_eq (b := 12) (by omega) (by omega)).mp z; omega), Option.bind_some]
    show (if (1 : Int32) = 0 then _ else _ : Option ((Nat → Int32) × (Nat → Nat → Int32))).bind _ = _
    rw [if_neg i1z, t2, t4, q2, Option.bind_some, if_pos (show nI i = (5 : Int32) by rw [hi]; rfl), nI_m]
    unfold f_M_readOne_166 f_M_wait
    show ((if (iM 54) < 0 ∨ 500 ≤ (iM 54).toNatClampNeg then none else some ((iM 54) + 1, upd (aM 52) (iM 54).toNatClampNeg 2, upd (aM 53) (iM 54).toNatClampNeg (nI (200 + nd)))).bind _ : Option ((Nat → Int32) × (Nat → Nat → Int32))).bind _ = _
    rw [h54, if_neg (nI_g (show W < 500 by omega) (by decide)), nI_cl (by omega), nI_m, Option.bind_some, Option.bind_some]
    rfl
  · intro c1 z hc hz'
    have := op_word (p := nx) hN (show d + 1 ≤ 12 by omega) tR q3 q4 s4 hc hz'
    omega
