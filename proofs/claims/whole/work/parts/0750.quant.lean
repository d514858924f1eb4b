/-! SOME and EVERY -/
theorem NdS_role {nd no sz na nn nr nr' : Nat} {o φ wt pl : Nat → Nat} {iB iC iB' iM X : Nat → Int32} {aC aM Y : Nat → Nat → Int32} (H : NdS nd no sz na nn nr o φ wt pl iB iC aC iM aM) (hnn : nn ≤ 5) (hr : nr ≤ nr') (hr3 : nr ≤ 3) (eX : iB' 1 = iB 1 ∧ X 38 = iM 38 ∧ X 39 = iM 39 ∧ X 45 = iM 45) (em : ∀ j, j < no → Y 8 (200 + o j) = aM 8 (200 + o j) ∧ Y 9 (200 + o j) = aM 9 (200 + o j) ∧ Y 10 (200 + o j) = aM 10 (200 + o j) ∧ Y 11 (200 + o j) = aM 11 (200 + o j) ∧ Y 13 (200 + j) = aM 13 (200 + j)) (e24 : nlM Y = nlM aM) (e27 : ∀ r, r < nr → rlM Y r = rlM aM r) (e32 : Y 32 = aM 32 ∧ Y 33 = aM 33 ∧ Y 34 = aM 34 ∧ Y 35 = aM 35) : NdS nd no sz na nn nr' o φ wt pl iB' iC aC X Y := by
  obtain ⟨n1, n2, n3, n4, n5, n6, n7, n8, n9, n10, n11, n12, n13, n14, n15, n16⟩ := H
  obtain ⟨x1, x2, x3, x4⟩ := eX
  obtain ⟨y2, y3, y4, y5⟩ := e32
  refine ⟨n1, n2, n3, n4, by rw [x1]; exact n5, by rw [x2]; exact n6, by rw [x3]; exact n7, n8, n9, by rw [x4]; exact n10, n11, RNd_same n12 (fun _ _ => ⟨rfl, rfl, rfl, rfl⟩) em, ?_, ?_, n15, n16⟩
  · rw [y2, y3, y4, y5]
    exact AtR_mono n13 (Nat.le_refl _) (Nat.le_refl _) hr (fun _ _ => ⟨rfl, rfl⟩) (fun _ _ => ⟨rfl, rfl, rfl, rfl⟩) (fun _ _ => ⟨rfl, rfl, rfl, rfl⟩)
  · rw [e24]
    exact ClS_mono (by omega) hnn hr3 n14 (Nat.le_refl _) hr (fun _ _ => rfl) e27
theorem tq_ok {N n nx fr nn nr r nr' nx2 fr2 : Nat} (one : Int32 → (Nat → Int32) → (Nat → Int32) → Int64 → (Nat → Int32) → (Nat → Int32) → (Nat → Nat → Int64) → (Nat → Nat → Int32) → (Nat → Int32) → (Nat → Nat → Int32) → Option (Int32 × (Nat → Int32) × (Nat → Int32) × Int64 × (Nat → Int32) × (Nat → Nat → Int64) × (Nat → Int32) × (Nat → Nat → Int32))) {K pp dd : Int32} {iR iT tx iB iC : Nat → Int32} {w w2 : Int64} {lB : Nat → Nat → Int64} {aB aC : Nat → Nat → Int32} {c4 c42 : Int32} {l4' : Nat → Int64} (e1 : iT 1 = nI n) (e2 : iT 2 = nI nx) (e3 : iT 3 = nI fr) (e4 : iT 4 = c4) (b3 : iB 3 = nI nn) (b5 : iB 5 = nI nr) (hr : r < 3) (hR : f_R_takeRole N (iR 3) (iR 4) (nI n) (nI nx) (nI fr) c4 w tx (nI nn) (nI nr) (lB 2) (lB 4) = some (nI r, iR 3, iR 4, nI nx2, nI fr2, c42, w2, nI nr', l4')) : (∀ iR' z, one dd iR (us iT [(2, nI nx2), (3, nI fr2), (4, c42)]) w2 tx (us iB [(5, nI nr')]) (us lB [(4, l4')]) aB iC aC = some (-1, iR', z) → ∃ z', f_R_takeQuantified N one K pp dd iR iT w tx iB lB aB iC aC = some (-1, iR', z')) ∧ ∀ (c1 : Nat) (iR' iT' : Nat → Int32) (wT' : Int64) (iB' : Nat → Int32) (lB' : Nat → Nat → Int64) (iC' : Nat → Int32) (aC' : Nat → Nat → Int32), c1 < 200 → one dd iR (us iT [(2, nI nx2), (3, nI fr2), (4, c42)]) w2 tx (us iB [(5, nI nr')]) (us lB [(4, l4')]) aB iC aC = some (nI c1, iR', iT', wT', iB', lB', iC', aC') → (∀ (c : Nat) (i4 i9 : Int32) (d0 d1 d2 d3 d5 d6 d7 d8 : Nat → Int32), c < 201 → f_C_make N K (nI c1) (nI r) (iC' 4) (iC' 9) (aC' 0) (aC' 1) (aC' 2) (aC' 3) (aC' 5) (aC' 6) (aC' 7) (aC' 8) = some (nI c, i4, i9, d0, d1, d2, d3, d5, d6, d7, d8) → f_R_takeQuantified N one K pp dd iR iT w tx iB lB aB iC aC = some (nI c, iR', iT', wT', iB', lB', us iC' [(4, i4), (9, i9)], us aC' [(0, d0), (1, d1), (2, d2), (3, d3), (5, d5), (6, d6), (7, d7), (8, d8)])) ∧ ∀ z, f_C_make N K (nI c1) (nI r) (iC' 4) (iC' 9) (aC' 0) (aC' 1) (aC' 2) (aC' 3) (aC' 5) (aC' 6) (aC' 7) (aC' 8) = some (-1, z) → ∃ z', f_R_takeQuantified N one K pp dd iR iT w tx iB lB aB iC aC = some (-1, us iR' [(3, 5), (4, pp)], z') := by
  unfold f_R_takeQuantified
  rw [e1, e2, e3, e4, b3, b5, hR, Option.bind_some]
  refine ⟨fun iR' z h => ?_, fun c1 iR' iT' wT' iB' lB' iC' aC' hc1 h => ⟨fun c i4 i9 d0 d1 d2 d3 d5 d6 d7 d8 hc hm => ?_, fun z hm => ?_⟩⟩
  · show ∃ z', (if nI r = -1 then _ else (one dd (us iR [(3, iR 3), (4, iR 4)]) _ _ _ _ _ _ _ _).bind _) = _
    rw [if_neg (nI_neg1 (by omega)), us_rr, h, Option.bind_some]
    exact ⟨_, rfl⟩
  · show (if nI r = -1 then _ else (one dd (us iR [(3, iR 3), (4, iR 4)]) _ _ _ _ _ _ _ _).bind _) = _
    rw [if_neg (nI_neg1 (by omega)), us_rr, h, Option.bind_some]
    show (if nI c1 = -1 then _ else _) = _
    rw [if_neg (nI_neg1 (by omega)), hm, Option.bind_some]
    show (if nI c = -1 then _ else _) = _
    rw [if_neg (nI_neg1 (by omega))]
  · show ∃ z', (if nI r = -1 then _ else (one dd (us iR [(3, iR 3), (4, iR 4)]) _ _ _ _ _ _ _ _).bind _) = _
    rw [if_neg (nI_neg1 (by omega)), us_rr, h, Option.bind_some]
    show ∃ z', (if nI c1 = -1 then _ else _) = _
    rw [if_neg (nI_neg1 (by omega)), hm, Option.bind_some]
    exact ⟨_, rfl⟩
theorem tq_bad {N n nx fr nn nr F p : Nat} (one : Int32 → (Nat → Int32) → (Nat → Int32) → Int64 → (Nat → Int32) → (Nat → Int32) → (Nat → Nat → Int64) → (Nat → Nat → Int32) → (Nat → Int32) → (Nat → Nat → Int32) → Option (Int32 × (Nat → Int32) × (Nat → Int32) × Int64 × (Nat → Int32) × (Nat → Nat → Int64) × (Nat → Int32) × (Nat → Nat → Int32))) {K pp dd : Int32} {iR iT tx iB iC : Nat → Int32} {w : Int64} {lB : Nat → Nat → Int64} {aB aC : Nat → Nat → Int32} {c4 : Int32} {z0 : Int32 × Int32 × Int32 × Int64 × Int32 × (Nat → Int64)} (e1 : iT 1 = nI n) (e2 : iT 2 = nI nx) (e3 : iT 3 = nI fr) (e4 : iT 4 = c4) (b3 : iB 3 = nI nn) (b5 : iB 5 = nI nr) (hR : f_R_takeRole N (iR 3) (iR 4) (nI n) (nI nx) (nI fr) c4 w tx (nI nn) (nI nr) (lB 2) (lB 4) = some (-1, nI F, nI p, z0)) : ∃ z', f_R_takeQuantified N one K pp dd iR iT w tx iB lB aB iC aC = some (-1, us iR [(3, nI F), (4, nI p)], z') := by
  unfold f_R_takeQuantified
  rw [e1, e2, e3, e4, b3, b5, hR, Option.bind_some]
  exact ⟨_, rfl⟩
theorem one_qu {N n : Nat} {tx : Nat → Int32} {S Od d W nx fr nd no sz na nn nr i : Nat} {o φ wt pl : Nat → Nat} {iR iT : Nat → Int32} {wT : Int64} {iB : Nat → Int32} {lB : Nat → Nat → Int64} {aB : Nat → Nat → Int32} {iC : Nat → Int32} {aC : Nat → Nat → Int32} {iM : Nat → Int32} {aM : Nat → Nat → Int32} {jI : Nat → Int32} {jA : Nat → Nat → Int32} (hN : 100000 ≤ N) (hi : i = 6 ∨ i = 7) (hd : d < 12) (IH : P1 N n tx S Od (d + 1)) (hW1 : 1 ≤ W) (hW : W ≤ 3 + 3 * d) (P : PS n tx S Od nx fr nd no sz na nn nr o φ wt pl iT wT iB lB iC aC iM aM) (hnd : nd < 200) (h56 : iM 56 = nI 1) (h54 : iM 54 = nI W) (h49 : iM 49 = nI d) (hw : ¬ wT = lN 40) (h3 : iM 3 = 1) (hq : f_M_kept N (iM 3) (nI fr) (iM 5) (aM 0) wordsM = some (nI i)) (hs : f_M_isSignHere 40 (iM 3) (iM 6) = some 0) (hb : f_T_beginsConcept (iT 4) wT = some 1) (hh : f_T_holdsConcept wT = some 1) (hwi : wT = lN (kww.getD i 0)) : OneO N n tx S Od d W fr nd no sz nn nr o φ wt pl wT iR iB aC iM aM jI jA (f_R_takeOne N (14 - d) (nI d) iR iT wT tx iB lB aB iC aC) := by
  have P' := P
  obtain ⟨p46, hTk, PM, PD⟩ := P'
  have hTk' := hTk
  obtain ⟨t1, t2, t3, t4, t5, t6, tR, tW, tT⟩ := hTk'
  have PD' := PD
  obtain ⟨n1, n2, n3, n4, n5, n6, n7, n8, n9, n10, n11, n12, n13, n14, n15, n16⟩ := PD'
  have hn := tR.1
  have hfr : fr ≤ n := Nat.le_trans tT.1 tT.2.1
  obtain ⟨K, K1, K2, K3⟩ := ro_54 t6 tW h3 hq hs (Or.inr ⟨i, by omega, by omega, rfl⟩)
  have eK := K2 i (by omega) rfl
  have hK : K = i - 2 := by rw [eK]; rcases hi with e | e <;> (rw [e]; rfl)
  have hK45 : K = 4 ∨ K = 5 := by omega
  obtain ⟨s1, s2, s3, s4, -⟩ := w_kept tT (by rw [hwi]; exact kwB_of (by omega))
  have hsz := w_size tT (by omega) hwi
  have hz : kwZ.getD i 0 = K := by rw [hK]; rcases hi with e | e <;> (rw [e]; rfl)
  rw [hz] at hsz
  have PM' := PM
  obtain ⟨hnn, hnr, b3, b5, m43, m44, W1, W2, W3, W4⟩ := PM'
  obtain ⟨fr1, nx1, c4', w1, k3, k5, k6, q1, q2, q3, q4⟩ := tok_step (N := N) (o3 := nI fr) (o4 := iT 4) (m3 := iM 3) (m4 := nI fr) (m5 := iM 5) (m6 := iM 6) (ow := wT) hN tR tT.2.1
  have hnx1 := q3.2.1
  have CL : f_R_takeOne N (14 - d) (nI d) iR iT wT tx iB lB aB iC aC = f_R_takeQuantified N (f_R_takeOne N (14 - (d + 1))) (nI K) (nI fr) (nI (d + 1)) iR (us iT [(2, nI nx1), (3, nI fr1), (4, c4')]) w1 tx (us iB [(1, nI (nd + 1))]) lB aB iC aC := by
    have L1 : f_T_step N (iT 1) (iT 2) (iT 3) (iT 4) wT tx = some (nI nx1, nI fr1, c4', w1) := by rw [t1, t3, t5]; exact q1
    rw [to_37 (Nat.le_of_lt hd) hb hh (Or.inl hd), (to_60 hw n5).1 hnd]
    unfold f_R_takeOneB_60
    rw [s1, if_neg (by decide), ← s1, L1, Option.bind_some, if_neg (show ¬ wT = (40 : Int64) from hw)]
    rcases hi with e | e
    · rw [if_neg (show ¬ wT = (7630704 : Int64) by rw [hwi, e]; decide), if_neg (show ¬ wT = (108230834679661 : Int64) by rw [hwi, e]; decide), if_neg (show ¬ wT = (7237492 : Int64) by rw [hwi, e]; decide), if_pos (show wT = (1936682341 : Int64) by rw [hwi, e]; rfl)]
      unfold f_R_takeOneB_206
      rw [bind_eta8, nI_m, t5, show K = 4 by omega]
      rfl
    · rw [if_neg (show ¬ wT = (7630704 : Int64) by rw [hwi, e]; decide), if_neg (show ¬ wT = (108230834679661 : Int64) by rw [hwi, e]; decide), if_neg (show ¬ wT = (7237492 : Int64) by rw [hwi, e]; decide), if_neg (show ¬ wT = (1936682341 : Int64) by rw [hwi, e]; decide)]
      unfold f_R_takeOneB_206
      rw [bind_eta8, nI_m, t5, show K = 5 by omega]
      rfl
  have w54 : ∀ (A52 A53 : Nat → Int32), f_M_wait 2 (nI (200 + nd)) (nI W) A52 A53 = some (nI (W + 1), upd A52 W (nI 2), upd A53 W (nI (200 + nd))) := fun A52 A53 => by
    unfold f_M_wait
    rw [if_neg (nI_g (show W < 500 by omega) (by decide)), nI_cl (by omega), nI_m]
    rfl
  rcases rl_eq (r3 := iR 3) (r4 := iR 4) (i47 := iM 47) (m29 := aM 29) (m31 := aM 31) hN tR q3 hnn hnr W1 W2 with ⟨F, F1, F2, F3, F4⟩ | ⟨r, nr', szr, l4', m26', m27', m29', m31', hr, hs1, hs8, hnx, hat, han, e27, ⟨rx1, rx2, rx3, rx4, rx5, rx6, rx7⟩, hcl, hmo⟩
  · refine Or.inr (flt_now (F := F) (p := fr1) (X := us (us iM [(2, nI nx1), (3, k3), (4, nI fr1), (5, k5), (6, k6), (38, nI (nd + 1)), (44, nI nr), (46, nI F), (47, nI fr1), (49, nI (d + 1))]) [(54, nI (W + 1))]) (Y := us (us aM [(8, upd (aM 8) (200 + nd) (nI K)), (9, upd (upd (aM 9) (200 + nd) (-1)) (200 + nd) (0)), (10, upd (aM 10) (200 + nd) (-1)), (11, upd (aM 11) (200 + nd) (-1)), (12, upd (aM 12) (200 + nd) (nI fr)), (26, aM 26), (27, aM 27), (29, aM 29), (31, aM 31)]) [(52, upd (aM 52) W (nI 2)), (53, upd (aM 53) W (nI (200 + nd)))]) (iR' := us iR [(3, nI F), (4, nI fr1)]) (by omega) p46 h56 (by rw [CL]; exact tq_bad (one := f_R_takeOne N (14 - (d + 1))) (c4 := c4') t1 rfl rfl rfl b3 b5 F3) F1 F2 (by have := q3.1; omega) rfl rfl ?_ rfl rfl ((fri_us rfl).trans (fri_us rfl)) (FrA.trans (a' := us aM [(8, upd (aM 8) (200 + nd) (nI K)), (9, upd (upd (aM 9) (200 + nd) (-1)) (200 + nd) (0)), (10, upd (aM 10) (200 + nd) (-1)), (11, upd (aM 11) (200 + nd) (-1)), (12, upd (aM 12) (200 + nd) (nI fr)), (26, aM 26), (27, aM 27), (29, aM 29), (31, aM 31)]) (fra_us rfl (low_cons (fun i hi => up_n (by have : lowB 8 = 200 := rfl; omega)) (low_cons (fun i hi => (up_n (by have : lowB 9 = 200 := rfl; omega)).trans (up_n (by have : lowB 9 = 200 := rfl; omega))) (low_cons (fun i hi => up_n (by have : lowB 10 = 200 := rfl; omega)) (low_cons (fun i hi => up_n (by have : lowB 11 = 200 := rfl; omega)) (low_cons (fun i hi => absurd hi (by have : lowB 12 = 0 := rfl; omega)) (low_cons (fun i hi => rfl) (low_cons (fun i hi => rfl) (low_cons (fun i hi => rfl) (low_cons (fun i hi => absurd hi (by have : lowB 31 = 0 := rfl; omega)) (low_nil))))))))))) (fra_us rfl (low_cons (fun i hi => absurd hi (by have : lowB 52 = 0 := rfl; omega)) (low_cons (fun i hi => absurd hi (by have : lowB 53 = 0 := rfl; omega)) (low_nil))))))
    rw [K3]
    unfold f_M_readOne_105
    rw [t6, n6, p46, nn_new hnd, Option.bind_some, M_fine0, Option.bind_some, if_neg i1z, if_neg (show ¬ nI i < (5 : Int32) from nI_nlt (b := 5) (by omega) (by omega)), if_neg (show ¬ (7 : Int32) < nI i from nI_nlt (a := 7) (b := i) (by omega) (by omega))]
    unfold f_M_goesDeeper
    rw [h49, if_neg (show ¬ nI d = (12 : Int32) from fun z => by have := (nI_eq (b := 12) (by omega) (by omega)).mp z; omega), Option.bind_some]
    show (if (1 : Int32) = 0 then _ else _ : Option ((Nat → Int32) × (Nat → Nat → Int32))) = _
    rw [if_neg i1z, t2, t4, q2, Option.bind_some, if_neg (show ¬ nI i = (5 : Int32) from fun z => by have := (nI_eq (b := 5) (by omega) (by omega)).mp z; omega), nI_m, m43, m44, tW]
    show ((f_M_readRole N k3 (nI fr1) k5 (nI nn) (nI nr) 0 (iM 47) (aM 0) wordsM (aM 23) (aM 24) (aM 26) (aM 27) (aM 29) (aM 31)).bind _ : Option ((Nat → Int32) × (Nat → Nat → Int32))) = _
    rw [F4, Option.bind_some, if_neg (nI_g (show 200 + nd < 400 by omega) (by decide)), fine_bad F1 F2, Option.bind_some, if_pos rfl]
    unfold f_M_readOne_166
    show ((f_M_wait 2 (nI (200 + nd)) (iM 54) (aM 52) (aM 53)).bind _ : Option ((Nat → Int32) × (Nat → Nat → Int32))) = _
    rw [h54, w54, Option.bind_some, nI_cl (show 200 + nd < 2147483648 by omega)]
  · obtain ⟨fr2, nx2, c42, w2, k3', k5', k6', u1, u2, u3, u4⟩ := tok_step (N := N) (o3 := nI fr1) (o4 := c4') (m3 := k3) (m4 := nI fr1) (m5 := k5) (m6 := k6) (ow := w1) hN tR q3.2.1
    rw [u1, Option.bind_some] at hcl
    have hr3 : r < 3 := by omega
    have TQ := tq_ok (one := f_R_takeOne N (14 - (d + 1))) (K := nI K) (pp := nI fr) (dd := nI (d + 1)) (iR := iR) (iT := us iT [(2, nI nx1), (3, nI fr1), (4, c4')]) (iB := us iB [(1, nI (nd + 1))]) (lB := lB) (aB := aB) (iC := iC) (aC := aC) (tx := tx) t1 rfl rfl rfl b3 b5 hr3 hcl
    have H1 : NdS (nd + 1) no sz na nn nr o φ wt pl (us iB [(1, nI (nd + 1))]) iC aC (us iM [(38, nI (nd + 1)), (46, 0), (47, iM 47)]) (us aM [(8, upd (aM 8) (200 + nd) (nI K)), (9, upd (aM 9) (200 + nd) (-1)), (10, upd (aM 10) (200 + nd) (-1)), (11, upd (aM 11) (200 + nd) (-1)), (12, upd (aM 12) (200 + nd) (nI fr))]) := NdS_new PD hnd ⟨rfl, rfl, rfl, rfl⟩ rfl rfl rfl rfl rfl rfl rfl ⟨rfl, rfl, rfl, rfl⟩
    have e27' : ∀ r, r < nr → (m27' (3 + r)).toNatClampNeg = rlM aM r := fun r hr => by rw [(rx3 r hr).2.1]; rfl
    have PS1 : PS n tx S Od nx2 fr2 (nd + 1) no sz na nn nr' o φ wt pl (us (us iT [(2, nI nx1), (3, nI fr1), (4, c4')]) [(2, nI nx2), (3, nI fr2), (4, c42)]) w2 (us (us iB [(1, nI (nd + 1))]) [(5, nI nr')]) (us lB [(4, l4')]) iC aC (us (us iM [(2, nI nx2), (3, k3'), (4, nI fr2), (5, k5'), (6, k6'), (38, nI (nd + 1)), (44, nI nr'), (46, 0), (47, iM 47), (49, nI (d + 1))]) [(54, nI (W + 1))]) (us (us aM [(8, upd (aM 8) (200 + nd) (nI K)), (9, upd (upd (aM 9) (200 + nd) (-1)) (200 + nd) (nI r)), (10, upd (aM 10) (200 + nd) (-1)), (11, upd (aM 11) (200 + nd) (-1)), (12, upd (aM 12) (200 + nd) (nI fr)), (26, m26'), (27, m27'), (29, m29'), (31, m31')]) [(52, upd (aM 52) W (nI 2)), (53, upd (aM 53) W (nI (200 + nd)))]) := by
      refine ⟨rfl, ⟨t1, t2, rfl, rfl, rfl, rfl, tR, tW, u3⟩, ⟨hnn, rx2, b3, rfl, m43, rfl, W1, rx7, fun r' hr' => ?_, fun r' h1 h2 => W4 r' (by omega) h2⟩, NdS_role H1 hnn rx1 hnr ⟨rfl, rfl, rfl, rfl⟩ (fun j hj => ⟨rfl, up_n (by have := n11 j hj; omega), rfl, rfl, rfl⟩) rfl e27' ⟨rfl, rfl, rfl, rfl⟩⟩
      by_cases e : r' < nr
      · obtain ⟨-, -, z29, z31⟩ := rx3 r' e
        show m29' (3 + r') = _ ∧ m31' (3 + r') = _
        rw [z29, z31]; exact W3 r' e
      · obtain ⟨z29, z31⟩ := rx4 r' (by omega) hr'
        obtain ⟨v1, v2⟩ := W4 r' (by omega) (by omega)
        show m29' (3 + r') = _ ∧ m31' (3 + r') = _
        rw [z29, z31, v1, v2]; exact ⟨rfl, rfl⟩
    have O1 := IH (W + 1) nx2 fr2 (nd + 1) no sz na nn nr' o φ wt pl iR (us (us iT [(2, nI nx1), (3, nI fr1), (4, c4')]) [(2, nI nx2), (3, nI fr2), (4, c42)]) w2 (us (us iB [(1, nI (nd + 1))]) [(5, nI nr')]) (us lB [(4, l4')]) aB iC aC _ _ jI jA PS1 h56 rfl (by omega) (by omega) rfl
    refine bef_tail (K := K) (A := K + 2 + szr) (r := r) hN hd hnd (by omega) n2 n3 n11 (by omega) hw O1 ?_ ?_ ?_ ?_ ((fri_us rfl).trans (fri_us rfl)) (FrA.trans (a' := us aM [(8, upd (aM 8) (200 + nd) (nI K)), (9, upd (upd (aM 9) (200 + nd) (-1)) (200 + nd) (nI r)), (10, upd (aM 10) (200 + nd) (-1)), (11, upd (aM 11) (200 + nd) (-1)), (12, upd (aM 12) (200 + nd) (nI fr)), (26, m26'), (27, m27'), (29, m29'), (31, m31')]) (fra_us rfl (low_cons (fun i hi => up_n (by have : lowB 8 = 200 := rfl; omega)) (low_cons (fun i hi => (up_n (by have : lowB 9 = 200 := rfl; omega)).trans (up_n (by have : lowB 9 = 200 := rfl; omega))) (low_cons (fun i hi => up_n (by have : lowB 10 = 200 := rfl; omega)) (low_cons (fun i hi => up_n (by have : lowB 11 = 200 := rfl; omega)) (low_cons (fun i hi => absurd hi (by have : lowB 12 = 0 := rfl; omega)) (low_cons (fun i hi => rx5 i (by have : lowB 26 = 24 := rfl; omega)) (low_cons (fun i hi => (rx6 i (by have : lowB 27 = 3 := rfl; omega)).1) (low_cons (fun i hi => (rx6 i (by have : lowB 29 = 3 := rfl; omega)).2) (low_cons (fun i hi => absurd hi (by have : lowB 31 = 0 := rfl; omega)) (low_nil))))))))))) (fra_us rfl (low_cons (fun i hi => absurd hi (by have : lowB 52 = 0 := rfl; omega)) (low_cons (fun i hi => absurd hi (by have : lowB 53 = 0 := rfl; omega)) (low_nil))))) (fun j z1 z2 z3 => (us_ne1 z3).trans (us_ne1 z1)) (fun m hm => ⟨up_n (by omega), (up_n (by omega)).trans (up_n (by omega)), up_n (by omega), up_n (by omega), up_n (by omega)⟩) (fun j hj => ⟨up_n (by omega), up_n (by omega)⟩) up_s up_s up_s (Or.inr ⟨hK45, up_s, hr, up_s, ?_⟩) up_s rx1 e27' ?_ (by omega)
    · intro iR' z hz'
      rw [CL]
      exact TQ.1 iR' z hz'
    · intro c1 c iT' wT' iB' lB' iC' aC' i4 i9 d0 d1 d2 d3 d5 d6 d7 d8 e1 hc1 hc e2
      rw [CL]
      exact (TQ.2 c1 iR iT' wT' iB' lB' iC' aC' hc1 e1).1 c i4 i9 d0 d1 d2 d3 d5 d6 d7 d8 hc e2
    · intro _ c1 iT' wT' iB' lB' iC' aC' z e1 hc1 e2
      obtain ⟨z', hz'⟩ := (TQ.2 c1 iR iT' wT' iB' lB' iC' aC' hc1 e1).2 z e2
      exact ⟨us iR [(3, 5), (4, nI fr)], z', by rw [CL]; exact hz', rfl, rfl⟩
    · intro i'
      rw [run_one p46 h56, K3]
      unfold f_M_readOne_105
      rw [t6, n6, p46, nn_new hnd, Option.bind_some, M_fine0, Option.bind_some, if_neg i1z, if_neg (show ¬ nI i < (5 : Int32) from nI_nlt (b := 5) (by omega) (by omega)), if_neg (show ¬ (7 : Int32) < nI i from nI_nlt (a := 7) (b := i) (by omega) (by omega))]
      unfold f_M_goesDeeper
      rw [h49, if_neg (show ¬ nI d = (12 : Int32) from fun z => by have := (nI_eq (b := 12) (by omega) (by omega)).mp z; omega), Option.bind_some]
      show (if (1 : Int32) = 0 then _ else _ : Option ((Nat → Int32) × (Nat → Nat → Int32))).bind _ = _
      rw [if_neg i1z, t2, t4, q2, Option.bind_some, if_neg (show ¬ nI i = (5 : Int32) from fun z => by have := (nI_eq (b := 5) (by omega) (by omega)).mp z; omega), nI_m, m43, m44, tW]
      show ((f_M_readRole N k3 (nI fr1) k5 (nI nn) (nI nr) 0 (iM 47) (aM 0) wordsM (aM 23) (aM 24) (aM 26) (aM 27) (aM 29) (aM 31)).bind _ : Option ((Nat → Int32) × (Nat → Nat → Int32))).bind _ = _
      rw [hmo, Option.bind_some, if_neg (nI_g (show 200 + nd < 400 by omega) (by decide)), M_fine0, Option.bind_some, if_neg i1z]
      show ((f_M_next N (nI n) (nI nx1) k3 (nI fr1) k5 k6 (aM 0)).bind _ : Option ((Nat → Int32) × (Nat → Nat → Int32))).bind _ = _
      rw [u2, Option.bind_some]
      unfold f_M_readOne_166
      show ((f_M_wait 2 (nI (200 + nd)) (iM 54) (aM 52) (aM 53)).bind _ : Option ((Nat → Int32) × (Nat → Nat → Int32))).bind _ = _
      rw [h54, w54, Option.bind_some, Option.bind_some, nI_cl (show 200 + nd < 2147483648 by omega)]
    · show K + 2 + szr = K + 2 + (m27' (3 + r)).toNatClampNeg
      rw [e27, nI_cl (by omega)]
    · intro c1 z hc hz'
      have g1 := op_word (p := nx1) hN (show d + 1 ≤ 12 by omega) tR u3 u4 han hc hz'
      have g2 : nx + 1 ≤ fr1 := by
        by_cases e : nx = fr1
        · rw [← e] at hat; exact tf hat (s4 (by omega))
        · omega
      omega
