/-! joined concepts, of both: the class's loop and the model's steps -/
theorem top_mono {K W nd nd' : Nat} {Y Y' : Nat → Nat → Int32} (H : TopK K W nd Y) (hW : 1 ≤ W) (h : ∀ j, j < W → Y' 52 j = Y 52 j ∧ Y' 53 j = Y 53 j) (h8 : ∀ b, b < nd → Y' 8 (200 + b) = Y 8 (200 + b)) (hnd : nd ≤ nd') : TopK K W nd' Y' := by
  obtain ⟨a, b⟩ := h (W - 1) (by omega)
  rcases H with z | z | ⟨z1, z2, b', z3, z4, z5⟩
  · exact Or.inl (a.trans z)
  · exact Or.inr (Or.inl (a.trans z))
  · exact Or.inr (Or.inr ⟨z1, a.trans z2, b', by omega, b.trans z4, (h8 b' z3).trans z5⟩)
theorem bet_loop {N n : Nat} {tx : Nat → Int32} {S Od d W fr nd no sz nn nr K kx : Nat} {o φ wt pl : Nat → Nat} {wT kw : Int64} {iR iB : Nat → Int32} {aC : Nat → Nat → Int32} {iM : Nat → Int32} {aM : Nat → Nat → Int32} {jI : Nat → Int32} {jA : Nat → Nat → Int32} {E : Int64 → Prop} (LP : Nat → Int32 → Int32 → (Nat → Int32) → (Nat → Int32) → Int64 → (Nat → Int32) → (Nat → Nat → Int64) → (Nat → Int32) → (Nat → Nat → Int32) → Option (Int32 × (Nat → Int32) × (Nat → Int32) × Int64 × (Nat → Int32) × (Nat → Nat → Int64) × (Nat → Int32) × (Nat → Nat → Int32))) (opr : (Nat → Int32) → (Nat → Int32) → Int64 → (Nat → Int32) → (Nat → Nat → Int64) → (Nat → Int32) → (Nat → Nat → Int32) → Option (Int32 × (Nat → Int32) × (Nat → Int32) × Int64 × (Nat → Int32) × (Nat → Nat → Int64) × (Nat → Int32) × (Nat → Nat → Int32))) (hN : 100000 ≤ N) (hK : K = 6 ∨ K = 7) (hkx : kx ≤ 1) (hkw : kw = lN (kww.getD (10 - K) 0)) (hstop : ∀ (i c v3 : Nat) (iT : Nat → Int32) (w : Int64) (iB : Nat → Int32) (lB : Nat → Nat → Int64) (iC : Nat → Int32) (aC : Nat → Nat → Int32), c < 200 → v3 ≤ 200 → ¬ w = kw → LP (i + 1) (nI c) (nI v3) iR iT w iB lB iC aC = some (nI c, iR, iT, w, iB, lB, iC, aC)) (hfull : ∀ (i c v3 : Nat) (iT : Nat → Int32) (iB : Nat → Int32) (lB : Nat → Nat → Int64) (iC : Nat → Int32) (aC : Nat → Nat → Int32), c < 200 → v3 ≤ 200 → iB 1 = nI 200 → ∃ z, LP (i + 1) (nI c) (nI v3) iR iT kw iB lB iC aC = some (-1, us iR [(3, 3), (4, iT 3)], z)) (hgo : ∀ (i c v3 nd nx1 fr1 : Nat) (iT : Nat → Int32) (iB : Nat → Int32) (lB : Nat → Nat → Int64) (iC : Nat → Int32) (aC : Nat → Nat → Int32) (c4 : Int32) (w1 : Int64), c < 200 → v3 ≤ 200 → nd < 200 → iB 1 = nI nd → f_T_step N (iT 1) (iT 2) (iT 3) (iT 4) kw tx = some (nI nx1, nI fr1, c4, w1) → (∀ iR' z, opr iR (us iT [(2, nI nx1), (3, nI fr1), (4, c4)]) w1 (us iB [(1, nI (nd + 1))]) lB iC aC = some (-1, iR', z) → ∃ z', LP (i + 2) (nI c) (nI v3) iR iT kw iB lB iC aC = some (-1, iR', z')) ∧ ∀ (c2 c3 : Nat) (iT2 : Nat → Int32) (w2 : Int64) (iB2 : Nat → Int32) (lB2 : Nat → Nat → Int64) (iC2 : Nat → Int32) (aC2 : Nat → Nat → Int32) (i4 i9 : Int32) (d0 d1 d2 d3 d5 d6 d7 d8 : Nat → Int32), c2 < 200 → opr iR (us iT [(2, nI nx1), (3, nI fr1), (4, c4)]) w1 (us iB [(1, nI (nd + 1))]) lB iC aC = some (nI c2, iR, iT2, w2, iB2, lB2, iC2, aC2) → f_C_make N (nI K) (nI c) (nI c2) (iC2 4) (iC2 9) (aC2 0) (aC2 1) (aC2 2) (aC2 3) (aC2 5) (aC2 6) (aC2 7) (aC2 8) = some (nI c3, i4, i9, d0, d1, d2, d3, d5, d6, d7, d8) → LP (i + 2) (nI c) (nI v3) iR iT kw iB lB iC aC = LP (i + 1) (nI c3) (nI (v3 + 1)) iR iT2 w2 iB2 lB2 (us iC2 [(4, i4), (9, i9)]) (us aC2 [(0, d0), (1, d1), (2, d2), (3, d3), (5, d5), (6, d6), (7, d7), (8, d8)])) (hbeg : ∀ (iT : Nat → Int32) (w : Int64) (iB : Nat → Int32) (lB : Nat → Nat → Int64) (iC : Nat → Int32) (aC : Nat → Nat → Int32) (nx fr p c : Nat) (t0 : Nat → Int32) (m3 m5 m6 : Int32) z, RTape n tx t0 → Tok n tx nx fr (iT 4) w m3 m5 m6 → p ≤ fr → (p < n → an (tx p) = false) → c < 200 → opr iR iT w iB lB iC aC = some (nI c, z) → p + 1 ≤ fr + (if w = lN 40 then 1 else 0)) (hopr : ∀ (nx fr nd no sz na nn nr : Nat) (o φ wt pl : Nat → Nat) (iT : Nat → Int32) (w : Int64) (iB : Nat → Int32) (lB : Nat → Nat → Int64) (iC : Nat → Int32) (aC : Nat → Nat → Int32) (X : Nat → Int32) (Y : Nat → Nat → Int32), PS n tx S Od nx fr nd no sz na nn nr o φ wt pl iT w iB lB iC aC X Y → X 56 = nI 1 → X 54 = nI (W + 1) → X 49 = nI d → Y 52 W = nI 3 → (∃ b, b < nd ∧ Y 53 W = nI (200 + b) ∧ Y 8 (200 + b) = nI K) → ConO N n tx S Od d (W + 1) fr nd no sz nn nr o φ wt pl w iR iB aC X Y jI jA K kx E (opr iR iT w iB lB iC aC)) (hW1 : 1 ≤ W) (hW : W < 500) (hTop : TopK K W nd aM) : ∀ (g i v3 k kk c m nx' fr' nd' no' sz' na' nn' nr' : Nat) (o' φ' wt' pl' : Nat → Nat) (iT' : Nat → Int32) (wT' : Int64) (iB' : Nat → Int32) (lB' : Nat → Nat → Int64) (iC' : Nat → Int32) (aC' : Nat → Nat → Int32) (X : Nat → Int32) (Y : Nat → Nat → Int32) (Xa : Nat → Int32) (Ya : Nat → Nat → Int32), 201 ≤ nd' + g → g + 1 ≤ i → v3 ≤ nd' → OkD n tx S Od d W fr nd no sz nn nr o φ wt pl wT iB aC iM aM c m nx' fr' nd' no' sz' na' nn' nr' o' φ' wt' pl' iT' wT' iB' lB' iC' aC' Xa Ya → k + fr ≤ fr' → Xa 56 = 0 → kk ≤ kx + 1 → (∀ l, K ≤ l → l ≤ 7 → CT N (nI l) kk X Y Xa Ya) → E wT' → (∀ i, f_M_readConcept_28 N jI jA (i + k) 1 iM aM = f_M_readConcept_28 N jI jA i 1 X Y) → ConO N n tx S Od d W fr nd no sz nn nr o φ wt pl wT iR iB aC iM aM jI jA K (kx + 1) (fun w => E w ∧ ¬ w = kw) (LP i (nI c) (nI v3) iR iT' wT' iB' lB' iC' aC') := by
  intro g
  induction g with
  | zero =>
    intro i v3 k kk c m nx' fr' nd' no' sz' na' nn' nr' o' φ' wt' pl' iT' wT' iB' lB' iC' aC' X Y Xa Ya hg hi hv HD hk h56 hkk hCT hE hR
    have := HD.1.2.2.2.1
    omega
  | succ g ih =>
    intro i v3 k kk c m nx' fr' nd' no' sz' na' nn' nr' o' φ' wt' pl' iT' wT' iB' lB' iC' aC' X Y Xa Ya hg hi hv HD hk h56 hkk hCT hE hR
    have HD' := HD
    obtain ⟨A1, AX, A3, A4, A5, A6, A7, A8, ⟨j, hj, hjm⟩, A10, A11, A12, A13, A14, A15, A16, A17, A18, A19⟩ := HD'
    obtain ⟨a46, ⟨t1, t2, t3, t4, t5, t6, tR, tW, tT⟩, aM', aD⟩ := A1
    have aD' := aD
    obtain ⟨n1, n2, n3, n4, n5, n6, n7, n8, n9, n10, n11, n12, n13, n14, n15, n16⟩ := aD'
    have hn := tR.1
    have hfr' : fr' ≤ n := Nat.le_trans tT.1 tT.2.1
    have hcs : c < 200 := by have := (n12 j hj).2.2.1; rw [hjm, A10] at this; omega
    by_cases hw : wT' = kw
    · have hwk : wT' = lN (kww.getD (10 - K) 0) := hw.trans hkw
      obtain ⟨s1, s2, s3, s4, -⟩ := w_kept tT (by rw [hwk]; exact kwB_of (by omega))
      have hsz := w_size tT (by omega) hwk
      have hz : kwZ.getD (10 - K) 0 = 9 - K := by rcases hK with e | e <;> (rw [e]; rfl)
      rw [hz] at hsz
      have hT := top_mono hTop hW1 A11 (fun b hb => (AX.2.2.2.2.2.2 b hb).1) AX.1
      have BS := beh_step (jI := jI) (jA := jA) hN hK (hCT K (Nat.le_refl _) (by omega)) (show kk ≤ 2 by omega) A6 hW1 hW n1 hT h56 a46 t2 t4 t6 n6 tR tW tT hwk
      subst hw
      by_cases hnd : nd' = 200
      · obtain ⟨X', Y', b1, b2, b3, b4, b5⟩ := BS.1 hnd
        obtain ⟨i0, rfl⟩ : ∃ i0, i = i0 + 1 := ⟨i - 1, by omega⟩
        obtain ⟨z, hz'⟩ := hfull i0 c v3 iT' iB' lB' iC' aC' hcs (by omega) (by rw [n5, hnd])
        refine Or.inr ⟨3, fr', k + 2, X' 55, X', Y', us iR [(3, 3), (4, iT' 3)], z, hz', by decide, by decide, by omega, rfl, t5, by omega, fun i => ?_, b2, b3, A3.trans b4, A4.trans b5⟩
        show f_M_readConcept_28 N jI jA (i + (k + 2)) 1 iM aM = _
        rw [show i + (k + 2) = (i + 2) + k by omega, hR]
        exact b1 i
      · have hnd' : nd' < 200 := by omega
        obtain ⟨fr1, nx1, c4', w1, k3, k5, k6, q1, q2, q3, q4⟩ := tok_step (N := N) (o3 := nI fr') (o4 := iT' 4) (m3 := Xa 3) (m4 := nI fr') (m5 := Xa 5) (m6 := Xa 6) (ow := wT') hN tR tT.2.1
        have RR := BS.2 hnd' fr1 nx1 k3 k5 k6 q2
        have L1 : f_T_step N (iT' 1) (iT' 2) (iT' 3) (iT' 4) wT' tx = some (nI nx1, nI fr1, c4', w1) := by rw [t1, t3, t5]; exact q1
        obtain ⟨i0, rfl⟩ : ∃ i0, i = i0 + 2 := ⟨i - 2, by omega⟩
        obtain ⟨G1, G2⟩ := hgo i0 c v3 nd' nx1 fr1 iT' iB' lB' iC' aC' c4' w1 hcs (by omega) hnd' n5 L1
        have H1 : NdS (nd' + 1) no' sz' na' nn' nr' o' φ' wt' pl' (us iB' [(1, nI (nd' + 1))]) iC' aC' (us Xa [(38, nI (nd' + 1))]) (us Ya [(8, upd (Ya 8) (200 + nd') (nI K)), (9, upd (Ya 9) (200 + nd') (-1)), (10, upd (Ya 10) (200 + nd') (-1)), (11, upd (Ya 11) (200 + nd') (-1)), (12, upd (Ya 12) (200 + nd') (nI fr'))]) := NdS_new aD hnd' ⟨rfl, rfl, rfl, rfl⟩ rfl rfl rfl rfl rfl rfl rfl ⟨rfl, rfl, rfl, rfl⟩
        have PS1 : PS n tx S Od nx1 fr1 (nd' + 1) no' sz' na' nn' nr' o' φ' wt' pl' (us iT' [(2, nI nx1), (3, nI fr1), (4, c4')]) w1 (us iB' [(1, nI (nd' + 1))]) lB' iC' aC' (us Xa [(2, nI nx1), (3, k3), (4, nI fr1), (5, k5), (6, k6), (38, nI (nd' + 1)), (46, 0), (47, Xa 47), (54, nI (W + 1)), (56, 1)]) (us Ya [(8, upd (Ya 8) (200 + nd') (nI K)), (9, upd (upd (Ya 9) (200 + nd') (-1)) (200 + nd') (Xa 55)), (10, upd (Ya 10) (200 + nd') (-1)), (11, upd (Ya 11) (200 + nd') (-1)), (12, upd (Ya 12) (200 + nd') (nI fr')), (52, upd (Ya 52) W (nI 3)), (53, upd (Ya 53) W (nI (200 + nd')))]) := ⟨rfl, ⟨t1, t2, rfl, rfl, rfl, rfl, tR, tW, q3⟩, aM', NdS_role H1 aM'.1 (Nat.le_refl _) aM'.2.1 ⟨rfl, rfl, rfl, rfl⟩ (fun i hi => ⟨rfl, up_n (by have := n11 i hi; omega), rfl, rfl, rfl⟩) rfl (fun _ _ => rfl) ⟨rfl, rfl, rfl, rfl⟩⟩
        rcases hopr nx1 fr1 (nd' + 1) no' sz' na' nn' nr' o' φ' wt' pl' (us iT' [(2, nI nx1), (3, nI fr1), (4, c4')]) w1 (us iB' [(1, nI (nd' + 1))]) lB' iC' aC' (us Xa [(2, nI nx1), (3, k3), (4, nI fr1), (5, k5), (6, k6), (38, nI (nd' + 1)), (46, 0), (47, Xa 47), (54, nI (W + 1)), (56, 1)]) (us Ya [(8, upd (Ya 8) (200 + nd') (nI K)), (9, upd (upd (Ya 9) (200 + nd') (-1)) (200 + nd') (Xa 55)), (10, upd (Ya 10) (200 + nd') (-1)), (11, upd (Ya 11) (200 + nd') (-1)), (12, upd (Ya 12) (200 + nd') (nI fr')), (52, upd (Ya 52) W (nI 3)), (53, upd (Ya 53) W (nI (200 + nd')))]) PS1 rfl rfl A7 up_s ⟨nd', by omega, up_s, up_s⟩ with ⟨c2, m2, nx2, fr2, nd2, no2, sz2, na2, nn2, nr2, o2, φ2, wt2, pl2, iT2, w2, iB2, lB2, iC2, aC2, X2p, Y2p, X2, Y2, k1, kk2, E1, HO, E3, E4, E5, E6, E7, E8⟩ | ⟨F, p, k1, v, X', Y', iR', z, g1, g2, g3, g4, g5, g6, g7, g8, g9, g10, g11, g12⟩
        · have hc2 : c2 < 200 := by
            obtain ⟨j2, hj2, hjm2⟩ := HO.2.2.2.2.2.2.2.2.1
            have h10 := HO.2.2.2.2.2.2.2.2.2.1
            have hN2 := HO.1.2.2.2
            have h12 := (hN2.2.2.2.2.2.2.2.2.2.2.2.1 j2 hj2).2.2.1
            have := hN2.1
            have := hN2.2.2.1
            rw [hjm2, h10] at h12
            omega
          have gap := hbeg (us iT' [(2, nI nx1), (3, nI fr1), (4, c4')]) w1 (us iB' [(1, nI (nd' + 1))]) lB' iC' aC' nx1 fr1 nx' c2 (Ya 0) k3 k5 k6 _ tR q3 q4 s4 hc2 E1
          obtain ⟨c3, sz3, wt3, pl3, d0, d1, d2, d3, M1, M2, M3⟩ := bet_step hN hK hnd' HD HO (fun j z1 z2 z3 => us_ne1 z1) s2 (by omega) gap
          rw [G2 c2 c3 iT2 w2 iB2 lB2 iC2 aC2 _ _ d0 d1 d2 d3 (aC2 5) (aC2 6) (aC2 7) (aC2 8) hc2 E1 M1]
          have y7 := (HO.2.1.2.2.2.2.2.2 nd' (by omega)).1
          have o11 := HO.2.2.2.2.2.2.2.2.2.2.1 W (by omega)
          have n39 := HO.1.2.2.2.2.2.2.2.2.2.1
          have d2n := HO.1.2.2.2.1
          have d2o := HO.1.2.2.2.2.1
          have cnt := HO.2.2.2.2.2.2.2.2.2.2.2.1
          refine ih (i0 + 1) (v3 + 1) (k + 1 + k1) (kk2 + 1) c3 nd' nx2 fr2 nd2 (no2 + 1) sz3 na2 nn2 nr2 _ _ wt3 pl3 iT2 w2 iB2 lB2 _ _ X2p Y2p _ _ ?_ (by omega) ?_ M3 (by omega) E4 (by omega) (fun l l1 l2 => ?_) E7 (fun i => ?_)
          · have := HO.2.1.1
            omega
          · have := HO.2.1.1
            omega
          · exact (E6 l l1 l2).step (K := K) HO.2.2.2.2.2.1 hW (o11.1.trans up_s) (o11.2.trans up_s) hnd' (y7.trans up_s) l1 (by omega) n39 (by omega)
          · rw [show i + (k + 1 + k1) = ((i + k1) + 1) + k by omega, hR, RR, E8]
        · obtain ⟨z', hz'⟩ := G1 iR' z g1
          refine Or.inr ⟨F, p, k + 1 + k1, v, X', Y', iR', z', hz', g2, g3, g4, g5, g6, by omega, fun i => ?_, g9, g10, A3.trans ((fri_us rfl).trans g11), A4.trans (FrA.trans (fra_us rfl (low_cons (fun i hi => up_n (by have : lowB 8 = 200 := rfl; omega)) (low_cons (fun i hi => (up_n (by have : lowB 9 = 200 := rfl; omega)).trans (up_n (by have : lowB 9 = 200 := rfl; omega))) (low_cons (fun i hi => up_n (by have : lowB 10 = 200 := rfl; omega)) (low_cons (fun i hi => up_n (by have : lowB 11 = 200 := rfl; omega)) (low_cons (fun i hi => absurd hi (by have : lowB 12 = 0 := rfl; omega)) (low_cons (fun i hi => absurd hi (by have : lowB 52 = 0 := rfl; omega)) (low_cons (fun i hi => absurd hi (by have : lowB 53 = 0 := rfl; omega)) (low_nil))))))))) g12)⟩
          show f_M_readConcept_28 N jI jA (i + (k + 1 + k1)) 1 iM aM = _
          rw [show i + (k + 1 + k1) = ((i + k1) + 1) + k by omega, hR, RR]
          exact g8 i
    · obtain ⟨i0, rfl⟩ : ∃ i0, i = i0 + 1 := ⟨i - 1, by omega⟩
      exact Or.inl ⟨c, m, nx', fr', nd', no', sz', na', nn', nr', o', φ', wt', pl', iT', wT', iB', lB', iC', aC', X, Y, Xa, Ya, k, kk, hstop i0 c v3 iT' wT' iB' lB' iC' aC' hcs (by omega) hw, HD, hk, h56, hkk, hCT, ⟨hE, hw⟩, hR⟩
