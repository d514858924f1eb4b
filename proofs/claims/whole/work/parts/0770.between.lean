/-! a joined concept, of both -/
def ConO (N n : Nat) (tx : Nat → Int32) (S Od d W fr nd no sz nn nr : Nat) (o φ wt pl : Nat → Nat) (wT : Int64) (iR iB : Nat → Int32) (aC : Nat → Nat → Int32) (iM : Nat → Int32) (aM : Nat → Nat → Int32) (jI : Nat → Int32) (jA : Nat → Nat → Int32) (K kx : Nat) (E : Int64 → Prop) (q : Option (Int32 × (Nat → Int32) × (Nat → Int32) × Int64 × (Nat → Int32) × (Nat → Nat → Int64) × (Nat → Int32) × (Nat → Nat → Int32))) : Prop := (∃ (c m nx' fr' nd' no' sz' na' nn' nr' : Nat) (o' φ' wt' pl' : Nat → Nat) (iT' : Nat → Int32) (wT' : Int64) (iB' : Nat → Int32) (lB' : Nat → Nat → Int64) (iC' : Nat → Int32) (aC' : Nat → Nat → Int32) (X : Nat → Int32) (Y : Nat → Nat → Int32) (Xa : Nat → Int32) (Ya : Nat → Nat → Int32) (k kk : Nat), q = some (nI c, iR, iT', wT', iB', lB', iC', aC') ∧ OkD n tx S Od d W fr nd no sz nn nr o φ wt pl wT iB aC iM aM c m nx' fr' nd' no' sz' na' nn' nr' o' φ' wt' pl' iT' wT' iB' lB' iC' aC' Xa Ya ∧ k + fr ≤ fr' ∧ Xa 56 = 0 ∧ kk ≤ kx ∧ (∀ l, K ≤ l → l ≤ 7 → CT N (nI l) kk X Y Xa Ya) ∧ E wT' ∧ ∀ i, f_M_readConcept_28 N jI jA (i + k) 1 iM aM = f_M_readConcept_28 N jI jA i 1 X Y) ∨ Flt fr iM aM q (fun i => f_M_readConcept_28 N jI jA i 1 iM aM)
theorem plx_le (c0 : Nat → Int32) (pl : Nat → Nat) {a b c : Nat} (h : a ≤ b) : plx c0 pl a c ≤ plx c0 pl b c := by
  unfold plx
  by_cases e : rkn (kd c0 c) < a
  · rw [if_pos e, if_pos (by omega)]
    exact Nat.le_refl _
  · rw [if_neg e]
    omega
theorem tr_bet {sz sz' nn nr na K c c1 c2 : Nat} {wt pl nl rl wt' pl' : Nat → Nat} {c0 d0 d1 d2 d3 d5 d6 d7 d8 : Nat → Int32} (hz : sz ≤ 200) (CS : ClS sz' nn nr na wt' pl' nl rl d0 d1 d2 d3 d5 d6 d7 d8) (hc : c < sz') (hc1 : c1 < sz) (hc2 : c2 < sz) (hK : K = 6 ∨ K = 7) (e0 : d0 c = nI K) (e1 : d1 c = nI c1) (e2 : d2 c = nI c2) (ea : ∀ a, a < sz → d0 a = c0 a ∧ wt' a = wt a ∧ pl' a = pl a) : wt' c = 1 + wt c1 + wt c2 ∧ plx d0 pl' 3 c + K ≤ 13 + plx c0 pl 3 c1 + plx c0 pl 3 c2 := by
  have T := CS.2.2.2.2 c hc
  obtain ⟨y0, yw, yp⟩ := ea c1 hc1
  obtain ⟨z0, zw, zp⟩ := ea c2 hc2
  have px : ∀ l, plx d0 pl' l c1 = plx c0 pl l c1 := fun l => by unfold plx kd; rw [y0, yp]
  have pz : ∀ l, plx d0 pl' l c2 = plx c0 pl l c2 := fun l => by unfold plx kd; rw [z0, zp]
  have k8 : K < 8 := by omega
  have hk : kd d0 c = K := kd_of k8 e0
  unfold TrE at T
  rw [hk, e1, e2, nI_cl (show c1 < 2147483648 by omega), nI_cl (show c2 < 2147483648 by omega), px, px, px, pz, pz, yw, zw] at T
  have a1 := plx_le c0 pl (c := c1) (show 2 ≤ 3 by decide)
  have a2 := plx_le c0 pl (c := c1) (show 1 ≤ 3 by decide)
  have a3 := plx_le c0 pl (c := c2) (show 2 ≤ 3 by decide)
  have pc : plx d0 pl' 3 c ≤ pl' c + 2 := by
    unfold plx
    split <;> omega
  rcases hK with e | e
  · have := T.2.2.2.2.2.2.1 e
    exact ⟨this.1, by rw [e]; have := this.2; omega⟩
  · have := T.2.2.2.2.2.2.2 e
    exact ⟨this.1, by rw [e]; have := this.2; omega⟩
theorem bet_step {N n : Nat} {tx : Nat → Int32} {S Od d W fr nd no sz nn nr K fr1 nx1 : Nat} {o φ wt pl : Nat → Nat} {wT w1 : Int64} {iB iB1 : Nat → Int32} {aC : Nat → Nat → Int32} {iM : Nat → Int32} {aM : Nat → Nat → Int32} {c m nx' fr' nd' no' sz' na' nn' nr' : Nat} {o' φ' wt' pl' : Nat → Nat} {iT' : Nat → Int32} {wT' : Int64} {iB' : Nat → Int32} {lB' : Nat → Nat → Int64} {iC' : Nat → Int32} {aC' : Nat → Nat → Int32} {Xa : Nat → Int32} {Ya : Nat → Nat → Int32} {c2 m2 nx2 fr2 nd2 no2 sz2 na2 nn2 nr2 : Nat} {o2 φ2 wt2 pl2 : Nat → Nat} {iT2 : Nat → Int32} {w2 : Int64} {iB2 : Nat → Int32} {lB2 : Nat → Nat → Int64} {iC2 : Nat → Int32} {aC2 : Nat → Nat → Int32} {X2 : Nat → Int32} {Y2 : Nat → Nat → Int32} {k3 k5 k6 : Int32} (hN : 100000 ≤ N) (hK : K = 6 ∨ K = 7) (hnd : nd' < 200) (HD : OkD n tx S Od d W fr nd no sz nn nr o φ wt pl wT iB aC iM aM c m nx' fr' nd' no' sz' na' nn' nr' o' φ' wt' pl' iT' wT' iB' lB' iC' aC' Xa Ya) (HO : OkD n tx S Od d (W + 1) fr1 (nd' + 1) no' sz' nn' nr' o' φ' wt' pl' w1 iB1 aC' (us Xa [(2, nI nx1), (3, k3), (4, nI fr1), (5, k5), (6, k6), (38, nI (nd' + 1)), (46, 0), (47, Xa 47), (54, nI (W + 1)), (56, 1)]) (us Ya [(8, upd (Ya 8) (200 + nd') (nI K)), (9, upd (upd (Ya 9) (200 + nd') (-1)) (200 + nd') (Xa 55)), (10, upd (Ya 10) (200 + nd') (-1)), (11, upd (Ya 11) (200 + nd') (-1)), (12, upd (Ya 12) (200 + nd') (nI fr')), (52, upd (Ya 52) W (nI 3)), (53, upd (Ya 53) W (nI (200 + nd')))]) c2 m2 nx2 fr2 nd2 no2 sz2 na2 nn2 nr2 o2 φ2 wt2 pl2 iT2 w2 iB2 lB2 iC2 aC2 X2 Y2) (hiB : ∀ j, j ≠ 1 → j ≠ 3 → j ≠ 5 → iB1 j = iB' j) (h3 : Xa 3 = 1) (hnx : nx' + K = fr' + 9) (hgap : nx' + 1 ≤ fr1 + (if w1 = lN 40 then 1 else 0)) : ∃ (c3 sz3 : Nat) (wt3 pl3 : Nat → Nat) (d0 d1 d2 d3 : Nat → Int32), f_C_make N (nI K) (nI c) (nI c2) (iC2 4) (iC2 9) (aC2 0) (aC2 1) (aC2 2) (aC2 3) (aC2 5) (aC2 6) (aC2 7) (aC2 8) = some (nI c3, nI sz3, nI na2, d0, d1, d2, d3, aC2 5, aC2 6, aC2 7, aC2 8) ∧ c3 < 200 ∧ OkD n tx S Od d W fr nd no sz nn nr o φ wt pl wT iB aC iM aM c3 nd' nx2 fr2 nd2 (no2 + 1) sz3 na2 nn2 nr2 (oAd o2 no2 nd') (φAd φ2 nd' c3) wt3 pl3 iT2 w2 iB2 lB2 (us iC2 [(4, nI sz3), (9, nI na2)]) (us aC2 [(0, d0), (1, d1), (2, d2), (3, d3), (5, aC2 5), (6, aC2 6), (7, aC2 7), (8, aC2 8)]) (us X2 [(39, nI (no2 + 1)), (54, nI W), (55, nI (200 + nd'))]) (us Y2 [(10, upd (Y2 10) (200 + nd') (X2 55)), (13, upd (Y2 13) (200 + no2) (nI (200 + nd')))]) := by
  obtain ⟨A1, ⟨x1, x2, x3, x4, x5, x6, x7⟩, A3, A4, A5, A6, A7, A8, ⟨j, hj, hjm⟩, A10, A11, A12, A13, A14, A15, A16, A17, A18, A19⟩ := HD
  obtain ⟨B1, ⟨y1, y2, y3, y4, y5, y6, y7⟩, B3, B4, B5, B6, B7, B8, ⟨j2, hj2, hjm2⟩, B10, B11, B12, B13, B14, B15, B16, B17, B18, B19⟩ := HO
  obtain ⟨b46, bT, bM, bD⟩ := B1
  have bD' := bD
  obtain ⟨n1, n2, n3, n4, n5, n6, n7, n8, n9, n10, n11, n12, n13, n14, n15, n16⟩ := bD'
  have bM' := bM
  obtain ⟨hnn, hnr, -⟩ := bM'
  obtain ⟨-, -, -, aD⟩ := A1
  obtain ⟨-, a2, a3, -, -, -, -, -, -, -, a11, a12, -, -, -, -⟩ := aD
  have hcs : c < sz' := by rw [← A10, ← hjm]; exact (a12 j hj).2.2.1
  have hcs2 : c2 < sz2 := by rw [← B10, ← hjm2]; exact (n12 j2 hj2).2.2.1
  have oj := y4 j hj
  have hxo : ∀ i, i < no2 → o2 i ≠ nd' := fun i hi => by
    by_cases e : i < no'
    · have := (y4 i e).1; have := a11 i e; omega
    · have := y6 i (by omega) hi; omega
  obtain ⟨r8, r9, r10, r11, r12⟩ := y7 nd' (by omega)
  have r8' : Y2 8 (200 + nd') = nI K := r8.trans up_s
  have r9' : Y2 9 (200 + nd') = nI (200 + m) := r9.trans (up_s.trans A8)
  obtain ⟨c3, sz3, wt3, pl3, d0, d1, d2, d3, M1, M2, M3, M4, M5, M6, M7, M8, M9, M10⟩ := mk_pl (K := K) (v1 := nI c) (v2 := nI c2) hN (show sz2 < 200 by omega) hnn hnr n14 (by omega) (fun _ => ⟨c, by omega, rfl⟩) (fun _ => ⟨c2, hcs2, rfl⟩) (fun z => absurd z (by omega)) (fun z => absurd z (by omega))
  obtain ⟨w1', w2'⟩ := tr_bet (sz := sz2) (c0 := aC2 0) (wt := wt2) (pl := pl2) (K := K) (by omega) M10 M4 (show c < sz2 by omega) hcs2 hK M7 M8 M9 (fun a ha => ⟨(M6 a ha).1, (M6 a ha).2.2.2.2.1, (M6 a ha).2.2.2.2.2⟩)
  obtain ⟨v0, vw, vp⟩ := y5 c hcs
  have px : plx (aC2 0) pl2 3 c = plx (aC' 0) pl' 3 c := by unfold plx kd; rw [v0, vp]
  rw [vw] at w1'
  rw [px] at w2'
  have hbl : (if w1 = lN 40 then 1 else 0 : Nat) ≤ 1 := by split <;> omega
  have hcm : φ2 m = c := by rw [← hjm, oj.2, hjm, A10]
  refine ⟨c3, sz3, wt3, pl3, d0, d1, d2, d3, by rw [n8, n9]; exact M1, by omega, ⟨b46, bT, bM, ?_⟩, ⟨by omega, by omega, by omega, fun i hi => ?_, fun a ha => ?_, fun i i1 i2 => ?_, fun i hi => ?_⟩, (A3.trans ((fri_us rfl).trans B3)).trans (fri_us rfl), (A4.trans (FrA.trans (fra_us rfl (low_cons (fun i hi => up_n (by have : lowB 8 = 200 := rfl; omega)) (low_cons (fun i hi => (up_n (by have : lowB 9 = 200 := rfl; omega)).trans (up_n (by have : lowB 9 = 200 := rfl; omega))) (low_cons (fun i hi => up_n (by have : lowB 10 = 200 := rfl; omega)) (low_cons (fun i hi => up_n (by have : lowB 11 = 200 := rfl; omega)) (low_cons (fun i hi => absurd hi (by have : lowB 12 = 0 := rfl; omega)) (low_cons (fun i hi => absurd hi (by have : lowB 52 = 0 := rfl; omega)) (low_cons (fun i hi => absurd hi (by have : lowB 53 = 0 := rfl; omega)) (low_nil))))))))) B4)).trans (fra_us rfl (low_cons (fun i hi => up_n (by have : lowB 10 = 200 := rfl; omega)) (low_cons (fun i hi => up_n (by have : lowB 13 = 200 := rfl; omega)) low_nil))), fun i i1 i2 i3 => (B5 i i1 i2 i3).trans ((hiB i i1 i2 i3).trans (A5 i i1 i2 i3)), rfl, B7, rfl, ⟨no2, by omega, if_pos rfl⟩, if_pos rfl, fun i hi => ?_, by omega, by omega, by omega, by omega, ?_, by omega, by omega, fun r hr => (B19 r (by omega)).trans (A19 r hr)⟩
  · refine NdS_end bD (by omega) hxo (by omega) M2 (by omega) n4 M4 M5 ⟨rfl, rfl⟩ M6 M10 ⟨rfl, rfl, rfl, n10⟩ (fun i hi => ⟨rfl, rfl, up_n (fun q => hxo i hi (by omega)), rfl, up_n (by have := n11 i hi; omega)⟩) up_s n13 ⟨K, by omega, r8', M7, fun z => absurd z (by omega), fun z => absurd z (by omega), fun z => absurd z (by omega), fun _ => ⟨j2, hj2, ?_, ?_⟩, fun _ => ⟨j, by omega, ?_, ?_⟩⟩ (by omega) (fun a ha => ?_)
    · show upd (Y2 10) (200 + nd') (X2 55) (200 + nd') = _
      rw [up_s, B8, hjm2]
    · rw [if_neg (by omega), hjm2, B10]; exact M9
    · show Y2 9 (200 + nd') = _
      rw [r9', oj.1, hjm]
    · rw [oj.1, hjm, hcm]; exact M8
    · obtain ⟨c', q1, q2, q3⟩ := n16 a ha
      obtain ⟨z0, z1, -⟩ := M6 c' q1
      exact ⟨c', by omega, by rw [← q2]; exact z0, by rw [← q3]; exact z1⟩
  · have h0 := x4 i hi
    have h1 := y4 i (by omega)
    have h2 : oAd o2 no2 nd' i = o2 i := if_neg (by omega)
    have h3' : φAd φ2 nd' c3 (o i) = φ2 (o i) := if_neg (by rw [← h0.1]; have := a11 i (by omega); omega)
    rw [h0.1] at h1
    exact ⟨h2.trans h1.1, h3'.trans (h1.2.trans h0.2)⟩
  · obtain ⟨u0, -, -, -, u4, u5⟩ := M6 a (by omega)
    obtain ⟨e0, e1, e2⟩ := y5 a (by omega)
    obtain ⟨f0, f1, f2⟩ := x5 a ha
    exact ⟨u0.trans (e0.trans f0), u4.trans (e1.trans f1), u5.trans (e2.trans f2)⟩
  · by_cases e : i = no2
    · have : oAd o2 no2 nd' i = nd' := if_pos e
      omega
    · have h1 : oAd o2 no2 nd' i = o2 i := if_neg e
      by_cases e' : i < no'
      · have := (y4 i e').1
        have := x6 i i1 e'
        omega
      · have := y6 i (by omega) (by omega)
        omega
  · obtain ⟨u8, u9, u10, u11, u12⟩ := y7 i (by omega)
    obtain ⟨v8, v9, v10, v11, v12⟩ := x7 i hi
    exact ⟨u8.trans ((up_n (by omega)).trans v8), u9.trans (((up_n (by omega)).trans (up_n (by omega))).trans v9), (up_n (by omega)).trans (u10.trans ((up_n (by omega)).trans v10)), u11.trans ((up_n (by omega)).trans v11), u12.trans ((up_n (by omega)).trans v12)⟩
  · have h1 := B11 i (by omega)
    have h2 := A11 i hi
    exact ⟨h1.1.trans ((up_n (by omega)).trans h2.1), h1.2.trans ((up_n (by omega)).trans h2.2)⟩
  · obtain ⟨pe, br, p1, p2, p3, p4⟩ := A16
    obtain ⟨pe', br', q1, q2, q3, q4⟩ := B16
    have p5 := p3 h3
    refine ⟨pe', br', q1, q2, q3, ?_⟩
    show plx d0 pl3 3 c3 + br' + _ + fr ≤ _
    omega
