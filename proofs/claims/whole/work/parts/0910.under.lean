/-! UNDER, of both -/
theorem isS_eq {r S : Nat} (hr : r < 3) (hS : S < 8) : f_B_isSingle (nI r) (nI S) = some (b2i (S.testBit r)) := by
  unfold f_B_isSingle
  exact bit_of hS hr
theorem under_st {N n : Nat} {tx : Nat → Int32} {S Od G nx fr nd no sz na nn nr ns rc qc : Nat} {o φ wt pl tl : Nat → Nat} {iR iT : Nat → Int32} {wT : Int64} {iB : Nat → Int32} {lB : Nat → Nat → Int64} {aB : Nat → Nat → Int32} {iC : Nat → Int32} {aC : Nat → Nat → Int32} {iM : Nat → Int32} {aM : Nat → Nat → Int32} (hN : 100000 ≤ N) (B : BkS n tx S Od G nx fr nd no sz na nn nr ns rc qc o φ wt pl tl iT wT iB lB aB iC aC iM aM) (hw : wT = lN 504363246962) : StO n tx fr iR iM aM ((f_R_takeOrder N (iR 3) (iR 4) (iT 1) (iT 2) (iT 3) (iT 4) wT tx (iB 3) (iB 5) (iB 7) (iB 13) (iB 14) (lB 2) (lB 4) (aB 6) (aB 12)).bind fun q99 => some ((us iR [(3, q99.1), (4, q99.2.1)]), (us iT [(2, q99.2.2.1), (3, q99.2.2.2.1), (4, q99.2.2.2.2.1)]), q99.2.2.2.2.2.1, (us iB [(5, q99.2.2.2.2.2.2.1), (7, q99.2.2.2.2.2.2.2.1), (14, q99.2.2.2.2.2.2.2.2.1)]), (us lB [(4, q99.2.2.2.2.2.2.2.2.2.1)]), (us aB [(6, q99.2.2.2.2.2.2.2.2.2.2.1), (12, q99.2.2.2.2.2.2.2.2.2.2.2)]), iC, aC)) ((f_M_readUnder N iM aM).bind fun q => TK N q.1 q.2) := by
  obtain ⟨P, ⟨g1, g2, g3, g4, g5⟩, ⟨i13, i14, i7, m40, i9, m41, i11, m42, r12, q12⟩, HC, HM, HR, HQ, HS, ⟨tl0, tlm, cn1, cn2⟩⟩ := B
  have P' := P
  obtain ⟨p46, ⟨t1, t2, t3, t4, t5, t6, tR, tW, tT⟩, PM, PD⟩ := P'
  obtain ⟨hnn, hnr, b3, b5, m43, m44, W1, W2, W3, W4⟩ := PM
  have hn := tR.1
  have hwk : wT = lN (kww.getD 1 0) := hw
  obtain ⟨s1, s2, s3, s4, -⟩ := w_kept tT (by rw [hwk]; exact kwB_of (by decide))
  have hsz : nx = fr + 5 := w_size tT (show 1 < 10 by decide) hwk
  have hnx := tT.2.1
  obtain ⟨fr1, nx1, c4', w1, k3, k5, k6, q1, q2, q3, q4⟩ := tok_step (N := N) (o3 := nI fr) (o4 := iT 4) (m3 := iM 3) (m4 := nI fr) (m5 := iM 5) (m6 := iM 6) (ow := wT) hN tR tT.2.1
  have hnx1 := q3.2.1
  have hfr1 := q3.1
  unfold f_R_takeOrder f_M_readUnder
  rw [t1, t3, t5, q1, Option.bind_some, t2, t4, t6, q2, Option.bind_some, b3, b5, m43, m44, p46, tW]
  show StO n tx fr iR iM aM (((f_R_takeRole N (iR 3) (iR 4) (nI n) (nI nx1) (nI fr1) c4' w1 tx (nI nn) (nI nr) (lB 2) (lB 4)).bind _).bind _) (((f_M_readRole N k3 (nI fr1) k5 (nI nn) (nI nr) 0 (iM 47) (aM 0) wordsM (aM 23) (aM 24) (aM 26) (aM 27) (aM 29) (aM 31)).bind _).bind _)
  rcases rl_eq (r3 := iR 3) (r4 := iR 4) (i47 := iM 47) (m29 := aM 29) (m31 := aM 31) hN tR q3 hnn hnr W1 W2 with ⟨F, F1, F2, F3, F4⟩ | ⟨r, nr', szr, l4', m26', m27', m29', m31', hr, hs1, hs8, hnxr, hat, han, e27, ⟨rx1, rx2, rx3, rx4, rx5, rx6, rx7⟩, hcl, hmo⟩
  · rw [F3, F4, Option.bind_some, Option.bind_some]
    show StO n tx fr iR iM aM _ (((f_M_fine (nI F)).bind _).bind _)
    rw [fine_bad F1 F2, Option.bind_some, if_pos rfl, if_pos (show (0 : Int32) = 0 from rfl)]
    show StO n tx fr iR iM aM _ ((f_M_readUnder_37 N iM aM 0 (us iM [(2, nI nx1), (3, k3), (4, nI fr1), (5, k5), (6, k6), (44, nI nr), (46, nI F), (47, nI fr1)]) (us aM [(26, aM 26), (27, aM 27), (29, aM 29), (31, aM 31)])).bind _)
    rw [und37_bad (F := F) rfl F1 F2, Option.bind_some, Option.bind_some]
    exact Or.inr ⟨F, fr1, us iR [(3, nI F), (4, nI fr1)], _, _, _, rfl, TK_bad (F := F) rfl F1 F2, F1, F2, by omega, rfl, rfl, rfl, rfl, ((fri_us rfl).trans (fri_us rfl)).trans (fri_us rfl), FrA.trans (a' := us aM [(26, aM 26), (27, aM 27), (29, aM 29), (31, aM 31)]) (fra_us rfl (low_cons (fun i hi => rfl) (low_cons (fun i hi => rfl) (low_cons (fun i hi => rfl) (low_cons (fun i hi => absurd hi (by have : lowB 31 = 0 := rfl; omega)) (low_nil)))))) (fra_us rfl (low_cons (fun i hi => rfl) (low_cons (fun i hi => rfl) (low_cons (fun i hi => rfl) (low_cons (fun i hi => absurd hi (by have : lowB 31 = 0 := rfl; omega)) (low_nil))))))⟩
  · have hr3 : r < 3 := by omega
    obtain ⟨fr2, nx2, c42, w2, k3', k5', k6', u1, u2, u3, u4⟩ := tok_step (N := N) (o3 := nI fr1) (o4 := c4') (m3 := k3) (m4 := nI fr1) (m5 := k5) (m6 := k6) (ow := w1) hN tR q3.2.1
    rw [u1, Option.bind_some] at hcl
    have hfr2 := u3.1
    have hnx2 := u3.2.1
    have flg : ∀ r', r' < nr' → m29' (3 + r') = (if S.testBit r' = true then 1 else 0) ∧ m31' (3 + r') = (if Od.testBit r' = true then 1 else 0) := fun r' hr' => by
      by_cases e : r' < nr
      · obtain ⟨-, -, z29, z31⟩ := rx3 r' e
        rw [z29, z31]; exact W3 r' e
      · obtain ⟨z29, z31⟩ := rx4 r' (by omega) hr'
        obtain ⟨v1, v2⟩ := W4 r' (by omega) (by omega)
        rw [z29, z31, v1, v2]; exact ⟨rfl, rfl⟩
    have e3r : ((3 : Int32) + nI r) = nI (3 + r) := by rw [show (3 : Int32) = nI 3 from rfl, nI_add]
    rw [hcl, hmo, Option.bind_some, Option.bind_some]
    show StO n tx fr iR iM aM ((if nI r = -1 then _ else (f_B_isSingle (nI r) (iB 13)).bind _).bind _) (((f_M_fine 0).bind _).bind _)
    rw [if_neg (nI_neg1 (by omega)), i13, isS_eq hr3 g4, Option.bind_some, M_fine0, Option.bind_some, if_neg i1z]
    show StO n tx fr iR iM aM _ ((if (3 + nI r) < 0 ∨ 6 ≤ (3 + nI r).toNatClampNeg then none else if m29' (3 + nI r).toNatClampNeg = 0 then _ else _ : Option ((Nat → Int32) × (Nat → Nat → Int32))).bind _)
    rw [e3r, if_neg (nI_g (show 3 + r < 6 by omega) (by decide)), nI_cl (show 3 + r < 2147483648 by omega), (flg r hr).1]
    by_cases ho : S.testBit r = true
    · rw [if_pos ho, ho, if_neg (show ¬ (1 : Int32) = 0 by decide), if_neg (show ¬ b2i true = 0 by decide), M_wrong0, Option.bind_some]
      show StO n tx fr iR iM aM _ ((f_M_readUnder_37 N iM aM (nI r) (us iM [(2, nI nx1), (3, k3), (4, nI fr1), (5, k5), (6, k6), (44, nI nr'), (46, 6), (47, nI fr1)]) (us aM [(26, m26'), (27, m27'), (29, m29'), (31, m31')])).bind _)
      rw [und37_bad (F := 6) rfl (by decide) (by decide), Option.bind_some]
      exact Or.inr ⟨6, fr1, us iR [(3, nI 6), (4, nI fr1)], _, _, _, rfl, TK_bad (F := 6) rfl (by decide) (by decide), by decide, by decide, by omega, rfl, rfl, rfl, rfl, ((fri_us rfl).trans (fri_us rfl)).trans (fri_us rfl), FrA.trans (a' := us aM [(26, m26'), (27, m27'), (29, m29'), (31, m31')]) (fra_us rfl (low_cons (fun i hi => rx5 i (by have : lowB 26 = 24 := rfl; omega)) (low_cons (fun i hi => (rx6 i (by have : lowB 27 = 3 := rfl; omega)).1) (low_cons (fun i hi => (rx6 i (by have : lowB 29 = 3 := rfl; omega)).2) (low_cons (fun i hi => absurd hi (by have : lowB 31 = 0 := rfl; omega)) (low_nil)))))) (fra_us rfl (low_cons (fun i hi => rfl) (low_cons (fun i hi => rfl) (low_cons (fun i hi => rfl) (low_cons (fun i hi => absurd hi (by have : lowB 31 = 0 := rfl; omega)) (low_nil))))))⟩
    · have hb0 : b2i (S.testBit r) = 0 := b2i_0.mpr (by cases h : S.testBit r; rfl; exact absurd h ho)
      rw [if_neg ho, if_pos (show (0 : Int32) = 0 from rfl), if_pos hb0]
      unfold f_M_readUnder_37
      show StO n tx fr iR iM aM _ (((f_M_fine 0).bind _).bind _)
      rw [M_fine0, Option.bind_some, if_neg i1z]
      show StO n tx fr iR iM aM _ (((f_M_next N (iM 1) (nI nx1) k3 (nI fr1) k5 k6 (aM 0)).bind _).bind _)
      rw [t2, u2, Option.bind_some]
      unfold f_M_readUnder_48
      show StO n tx fr iR iM aM (((f_R_takeRole N (iR 3) (iR 4) (nI n) (nI nx2) (nI fr2) c42 w2 tx (nI nn) (nI nr') (lB 2) l4').bind _).bind _) (((f_M_readRole N k3' (nI fr2) k5' (iM 43) (nI nr') 0 (iM 47) (aM 0) (aM 7) (aM 23) (aM 24) m26' m27' m29' m31').bind _).bind _)
      rw [m43, tW]
      rcases rl_eq (r3 := iR 3) (r4 := iR 4) (i47 := iM 47) (m29 := m29') (m31 := m31') hN tR u3 hnn rx2 W1 rx7 with ⟨F, F1, F2, F3, F4⟩ | ⟨r2, nr2, szr2, l42, n26, n27, n29, n31, hr2, hs12, hs82, hnxr2, hat2, han2, e272, ⟨ry1, ry2, ry3, ry4, ry5, ry6, ry7⟩, hcl2, hmo2⟩
      · rw [F3, F4, Option.bind_some, Option.bind_some]
        show StO n tx fr iR iM aM _ (((f_M_fine (nI F)).bind _).bind _)
        rw [fine_bad F1 F2, Option.bind_some, if_pos rfl, if_pos (show (0 : Int32) = 0 from rfl)]
        show StO n tx fr iR iM aM _ ((f_M_readUnder_95 N iM aM (nI r) 0 (us (us (us iM [(2, nI nx1), (3, k3), (4, nI fr1), (5, k5), (6, k6), (44, nI nr'), (46, 0), (47, iM 47)]) [(2, nI nx2), (3, k3'), (4, nI fr2), (5, k5'), (6, k6')]) [(44, nI nr'), (46, nI F), (47, nI fr2)]) (us (us aM [(26, m26'), (27, m27'), (29, m29'), (31, m31')]) [(26, m26'), (27, m27'), (29, m29'), (31, m31')])).bind _)
        rw [und95_bad (F := F) rfl F1 F2, Option.bind_some, Option.bind_some]
        exact Or.inr ⟨F, fr2, us iR [(3, nI F), (4, nI fr2)], _, _, _, rfl, TK_bad (F := F) rfl F1 F2, F1, F2, by omega, rfl, rfl, rfl, rfl, (((fri_us rfl).trans (fri_us rfl)).trans (fri_us rfl)).trans (fri_us rfl), FrA.trans (a' := us aM [(26, m26'), (27, m27'), (29, m29'), (31, m31')]) (fra_us rfl (low_cons (fun i hi => rx5 i (by have : lowB 26 = 24 := rfl; omega)) (low_cons (fun i hi => (rx6 i (by have : lowB 27 = 3 := rfl; omega)).1) (low_cons (fun i hi => (rx6 i (by have : lowB 29 = 3 := rfl; omega)).2) (low_cons (fun i hi => absurd hi (by have : lowB 31 = 0 := rfl; omega)) (low_nil)))))) (fra_us rfl (low_cons (fun i hi => rfl) (low_cons (fun i hi => rfl) (low_cons (fun i hi => rfl) (low_cons (fun i hi => absurd hi (by have : lowB 31 = 0 := rfl; omega)) (low_nil))))))⟩
      · have hr23 : r2 < 3 := by omega
        obtain ⟨fr3, nx3, c43, w3, k3'', k5'', k6'', y1, y2, y3, y4⟩ := tok_step (N := N) (o3 := nI fr2) (o4 := c42) (m3 := k3') (m4 := nI fr2) (m5 := k5') (m6 := k6') (ow := w2) hN tR u3.2.1
        rw [y1, Option.bind_some] at hcl2
        have flg2 : ∀ r', r' < nr2 → n29 (3 + r') = (if S.testBit r' = true then 1 else 0) ∧ n31 (3 + r') = (if Od.testBit r' = true then 1 else 0) := fun r' hr' => by
          by_cases e : r' < nr'
          · obtain ⟨-, -, z29, z31⟩ := ry3 r' e
            rw [z29, z31]; exact flg r' e
          · obtain ⟨z29, z31⟩ := ry4 r' (by omega) hr'
            obtain ⟨v1, v2⟩ := W4 r' (by omega) (by omega)
            rw [z29, z31, v1, v2]; exact ⟨rfl, rfl⟩
        have e3r2 : ((3 : Int32) + nI r2) = nI (3 + r2) := by rw [show (3 : Int32) = nI 3 from rfl, nI_add]
        have BADM : f_M_readUnder_85 N iM aM (nI r) (nI r2) (us (us (us iM [(2, nI nx1), (3, k3), (4, nI fr1), (5, k5), (6, k6), (44, nI nr'), (46, 0), (47, iM 47)]) [(2, nI nx2), (3, k3'), (4, nI fr2), (5, k5'), (6, k6')]) [(44, nI nr2), (46, 0), (47, iM 47)]) (us (us aM [(26, m26'), (27, m27'), (29, m29'), (31, m31')]) [(26, n26), (27, n27), (29, n29), (31, n31)]) = some (us (us (us (us iM [(2, nI nx1), (3, k3), (4, nI fr1), (5, k5), (6, k6), (44, nI nr'), (46, 0), (47, iM 47)]) [(2, nI nx2), (3, k3'), (4, nI fr2), (5, k5'), (6, k6')]) [(44, nI nr2), (46, 0), (47, iM 47)]) [(46, 6), (47, nI fr2)], us (us aM [(26, m26'), (27, m27'), (29, m29'), (31, m31')]) [(26, n26), (27, n27), (29, n29), (31, n31)]) := by
          unfold f_M_readUnder_85
          show (f_M_wrong 6 (nI fr2) 0 (iM 47)).bind _ = _
          rw [M_wrong0, Option.bind_some]
          exact und95_bad (F := 6) rfl (by decide) (by decide)
        rw [hcl2, hmo2, Option.bind_some, Option.bind_some]
        show StO n tx fr iR iM aM ((if nI r2 = -1 then _ else if nI r2 = nI r then _ else (f_B_isSingle (nI r2) (nI S)).bind _).bind _) (((f_M_fine 0).bind _).bind _)
        rw [if_neg (nI_neg1 (by omega)), isS_eq hr23 g4, Option.bind_some, M_fine0, Option.bind_some, if_neg i1z]
        show StO n tx fr iR iM aM _ ((if (3 + nI r2) < 0 ∨ 6 ≤ (3 + nI r2).toNatClampNeg then none else if n29 (3 + nI r2).toNatClampNeg = 0 then (if nI r2 = nI r then f_M_readUnder_85 N iM aM (nI r) (nI r2) (us (us (us iM [(2, nI nx1), (3, k3), (4, nI fr1), (5, k5), (6, k6), (44, nI nr'), (46, 0), (47, iM 47)]) [(2, nI nx2), (3, k3'), (4, nI fr2), (5, k5'), (6, k6')]) [(44, nI nr2), (46, 0), (47, iM 47)]) (us (us aM [(26, m26'), (27, m27'), (29, m29'), (31, m31')]) [(26, n26), (27, n27), (29, n29), (31, n31)]) else ((f_M_reaches N (nI r2) (nI r) (aM 30)).bind _)) else f_M_readUnder_85 N iM aM (nI r) (nI r2) (us (us (us iM [(2, nI nx1), (3, k3), (4, nI fr1), (5, k5), (6, k6), (44, nI nr'), (46, 0), (47, iM 47)]) [(2, nI nx2), (3, k3'), (4, nI fr2), (5, k5'), (6, k6')]) [(44, nI nr2), (46, 0), (47, iM 47)]) (us (us aM [(26, m26'), (27, m27'), (29, m29'), (31, m31')]) [(26, n26), (27, n27), (29, n29), (31, n31)]) : Option ((Nat → Int32) × (Nat → Nat → Int32))).bind _)
        rw [e3r2, if_neg (nI_g (show 3 + r2 < 6 by omega) (by decide)), nI_cl (show 3 + r2 < 2147483648 by omega), (flg2 r2 hr2).1, BADM]
        by_cases hA : r2 = r
        · subst hA
          rw [if_pos rfl, if_neg ho, if_pos (show (0 : Int32) = 0 from rfl), if_pos rfl, Option.bind_some]
          exact Or.inr ⟨6, fr2, us iR [(3, nI 6), (4, nI fr2)], _, _, _, rfl, TK_bad (F := 6) rfl (by decide) (by decide), by decide, by decide, by omega, rfl, rfl, rfl, rfl, (((((fri_us rfl).trans (fri_us rfl)).trans (fri_us rfl)).trans (fri_us rfl)).trans (fri_us rfl)), FrA.trans (a' := us aM [(26, m26'), (27, m27'), (29, m29'), (31, m31')]) (fra_us rfl (low_cons (fun i hi => rx5 i (by have : lowB 26 = 24 := rfl; omega)) (low_cons (fun i hi => (rx6 i (by have : lowB 27 = 3 := rfl; omega)).1) (low_cons (fun i hi => (rx6 i (by have : lowB 29 = 3 := rfl; omega)).2) (low_cons (fun i hi => absurd hi (by have : lowB 31 = 0 := rfl; omega)) (low_nil)))))) (fra_us rfl (low_cons (fun i hi => ry5 i (by have : lowB 26 = 24 := rfl; omega)) (low_cons (fun i hi => (ry6 i (by have : lowB 27 = 3 := rfl; omega)).1) (low_cons (fun i hi => (ry6 i (by have : lowB 29 = 3 := rfl; omega)).2) (low_cons (fun i hi => absurd hi (by have : lowB 31 = 0 := rfl; omega)) (low_nil))))))⟩
        · have hA' : ¬ nI r2 = nI r := fun z => hA ((nI_eq (by omega) (by omega)).mp z)
          rw [if_neg hA', if_neg hA']
          by_cases hB : S.testBit r2 = true
          · rw [if_pos hB, hB, if_neg (show ¬ b2i true = 0 by decide), if_neg (show ¬ (1 : Int32) = 0 by decide), Option.bind_some]
            exact Or.inr ⟨6, fr2, us iR [(3, nI 6), (4, nI fr2)], _, _, _, rfl, TK_bad (F := 6) rfl (by decide) (by decide), by decide, by decide, by omega, rfl, rfl, rfl, rfl, (((((fri_us rfl).trans (fri_us rfl)).trans (fri_us rfl)).trans (fri_us rfl)).trans (fri_us rfl)), FrA.trans (a' := us aM [(26, m26'), (27, m27'), (29, m29'), (31, m31')]) (fra_us rfl (low_cons (fun i hi => rx5 i (by have : lowB 26 = 24 := rfl; omega)) (low_cons (fun i hi => (rx6 i (by have : lowB 27 = 3 := rfl; omega)).1) (low_cons (fun i hi => (rx6 i (by have : lowB 29 = 3 := rfl; omega)).2) (low_cons (fun i hi => absurd hi (by have : lowB 31 = 0 := rfl; omega)) (low_nil)))))) (fra_us rfl (low_cons (fun i hi => ry5 i (by have : lowB 26 = 24 := rfl; omega)) (low_cons (fun i hi => (ry6 i (by have : lowB 27 = 3 := rfl; omega)).1) (low_cons (fun i hi => (ry6 i (by have : lowB 29 = 3 := rfl; omega)).2) (low_cons (fun i hi => absurd hi (by have : lowB 31 = 0 := rfl; omega)) (low_nil))))))⟩
          · have hb2 : b2i (S.testBit r2) = 0 := b2i_0.mpr (by cases h : S.testBit r2; rfl; exact absurd h hB)
            rw [if_neg hB, if_pos (show (0 : Int32) = 0 from rfl), if_pos hb2, under_B hr23 hr3 HC, reach_M hN hr23 hr3 HM, Option.bind_some, Option.bind_some]
            by_cases hC : clo G r2 r = true
            · rw [hC, if_neg (show ¬ b2i true = 0 by decide), if_neg (show ¬ b2i true = 0 by decide)]
              show StO n tx fr iR iM aM _ ((f_M_readUnder_85 N iM aM (nI r) (nI r2) (us (us (us iM [(2, nI nx1), (3, k3), (4, nI fr1), (5, k5), (6, k6), (44, nI nr'), (46, 0), (47, iM 47)]) [(2, nI nx2), (3, k3'), (4, nI fr2), (5, k5'), (6, k6')]) [(44, nI nr2), (46, 0), (47, iM 47)]) (us (us aM [(26, m26'), (27, m27'), (29, m29'), (31, m31')]) [(26, n26), (27, n27), (29, n29), (31, n31)])).bind _)
              rw [BADM, Option.bind_some]
              exact Or.inr ⟨6, fr2, us iR [(3, nI 6), (4, nI fr2)], _, _, _, rfl, TK_bad (F := 6) rfl (by decide) (by decide), by decide, by decide, by omega, rfl, rfl, rfl, rfl, (((((fri_us rfl).trans (fri_us rfl)).trans (fri_us rfl)).trans (fri_us rfl)).trans (fri_us rfl)), FrA.trans (a' := us aM [(26, m26'), (27, m27'), (29, m29'), (31, m31')]) (fra_us rfl (low_cons (fun i hi => rx5 i (by have : lowB 26 = 24 := rfl; omega)) (low_cons (fun i hi => (rx6 i (by have : lowB 27 = 3 := rfl; omega)).1) (low_cons (fun i hi => (rx6 i (by have : lowB 29 = 3 := rfl; omega)).2) (low_cons (fun i hi => absurd hi (by have : lowB 31 = 0 := rfl; omega)) (low_nil)))))) (fra_us rfl (low_cons (fun i hi => ry5 i (by have : lowB 26 = 24 := rfl; omega)) (low_cons (fun i hi => (ry6 i (by have : lowB 27 = 3 := rfl; omega)).1) (low_cons (fun i hi => (ry6 i (by have : lowB 29 = 3 := rfl; omega)).2) (low_cons (fun i hi => absurd hi (by have : lowB 31 = 0 := rfl; omega)) (low_nil))))))⟩
            · have hc0 : clo G r2 r = false := by cases h : clo G r2 r; rfl; exact absurd h hC
              rw [hc0, if_pos (show b2i false = 0 from rfl), if_pos (show b2i false = 0 from rfl)]
              show StO n tx fr iR iM aM (((f_R_takeEnd N (iR 3) (iR 4) (nI n) (nI nx3) (nI fr3) c43 w3 tx).bind _).bind _) ((f_M_readUnder_95 N iM aM (nI r) (nI r2) (us (us (us iM [(2, nI nx1), (3, k3), (4, nI fr1), (5, k5), (6, k6), (44, nI nr'), (46, 0), (47, iM 47)]) [(2, nI nx2), (3, k3'), (4, nI fr2), (5, k5'), (6, k6')]) [(44, nI nr2), (46, 0), (47, iM 47)]) (us (us aM [(26, m26'), (27, m27'), (29, m29'), (31, m31')]) [(26, n26), (27, n27), (29, n29), (31, n31)])).bind _)
              have MD : f_M_readUnder_95 N iM aM (nI r) (nI r2) (us (us (us iM [(2, nI nx1), (3, k3), (4, nI fr1), (5, k5), (6, k6), (44, nI nr'), (46, 0), (47, iM 47)]) [(2, nI nx2), (3, k3'), (4, nI fr2), (5, k5'), (6, k6')]) [(44, nI nr2), (46, 0), (47, iM 47)]) (us (us aM [(26, m26'), (27, m27'), (29, m29'), (31, m31')]) [(26, n26), (27, n27), (29, n29), (31, n31)]) = some (us (us (us (us iM [(2, nI nx1), (3, k3), (4, nI fr1), (5, k5), (6, k6), (44, nI nr'), (46, 0), (47, iM 47)]) [(2, nI nx2), (3, k3'), (4, nI fr2), (5, k5'), (6, k6')]) [(44, nI nr2), (46, 0), (47, iM 47)]) [(2, nI nx3), (3, k3''), (4, nI fr3), (5, k5''), (6, k6''), (40, nI (ns + 1))], us (us (us aM [(26, m26'), (27, m27'), (29, m29'), (31, m31')]) [(26, n26), (27, n27), (29, n29), (31, n31)]) [(15, upd (aM 15) (250 + ns) 3), (16, upd (aM 16) (250 + ns) (nI r)), (17, upd (aM 17) (250 + ns) (nI r2)), (30, upd (aM 30) (9 + 3 * r + r2) 1), (31, upd (upd n31 (3 + r) 1) (3 + r2) 1)]) := by
                unfold f_M_readUnder_95
                show (f_M_fine 0).bind _ = _
                rw [M_fine0, Option.bind_some, if_neg i1z]
                show (f_M_next N (iM 1) (nI nx2) k3' (nI fr2) k5' k6' (aM 0)).bind _ = _
                have e9 : ((9 : Int32) + 3 * nI r) + nI r2 = nI (9 + 3 * r + r2) := by rw [show (9 : Int32) = nI 9 from rfl, show (3 : Int32) = nI 3 from rfl, pk_mul, nI_add, nI_add]
                have SAY : f_M_say 3 (nI r) (nI r2) (iM 40) (aM 15) (aM 16) (aM 17) = some (nI (ns + 1), upd (aM 15) (250 + ns) 3, upd (aM 16) (250 + ns) (nI r), upd (aM 17) (250 + ns) (nI r2)) := by
                  unfold f_M_say
                  rw [m40, show (250 : Int32) = nI 250 from rfl, nI_add, if_neg (nI_g (show 250 + ns < 500 by omega) (by decide)), nI_cl (show 250 + ns < 2147483648 by omega), nI_m]
                rw [t2, y2, Option.bind_some, e9, if_neg (nI_g (show 9 + 3 * r + r2 < 18 by omega) (by decide)), e3r, if_neg (nI_g (show 3 + r < 6 by omega) (by decide)), e3r2, if_neg (nI_g (show 3 + r2 < 6 by omega) (by decide))]
                show (f_M_say 3 (nI r) (nI r2) (iM 40) (aM 15) (aM 16) (aM 17)).bind _ = _
                rw [SAY, Option.bind_some, nI_cl (show 9 + 3 * r + r2 < 2147483648 by omega), nI_cl (show 3 + r < 2147483648 by omega), nI_cl (show 3 + r2 < 2147483648 by omega), show vp_nar .boolean (1 : Int32) = 1 by decide]
                rfl
              rw [MD, Option.bind_some]
              show StO n tx fr iR iM aM _ (TK N (us (us (us (us iM [(2, nI nx1), (3, k3), (4, nI fr1), (5, k5), (6, k6), (44, nI nr'), (46, 0), (47, iM 47)]) [(2, nI nx2), (3, k3'), (4, nI fr2), (5, k5'), (6, k6')]) [(44, nI nr2), (46, 0), (47, iM 47)]) [(2, nI nx3), (3, k3''), (4, nI fr3), (5, k5''), (6, k6''), (40, nI (ns + 1))]) (us (us (us aM [(26, m26'), (27, m27'), (29, m29'), (31, m31')]) [(26, n26), (27, n27), (29, n29), (31, n31)]) [(15, upd (aM 15) (250 + ns) 3), (16, upd (aM 16) (250 + ns) (nI r)), (17, upd (aM 17) (250 + ns) (nI r2)), (30, upd (aM 30) (9 + 3 * r + r2) 1), (31, upd (upd n31 (3 + r) 1) (3 + r2) 1)]))
              have fI : FrI tcs iM (us (us (us (us iM [(2, nI nx1), (3, k3), (4, nI fr1), (5, k5), (6, k6), (44, nI nr'), (46, 0), (47, iM 47)]) [(2, nI nx2), (3, k3'), (4, nI fr2), (5, k5'), (6, k6')]) [(44, nI nr2), (46, 0), (47, iM 47)]) [(2, nI nx3), (3, k3''), (4, nI fr3), (5, k5''), (6, k6''), (40, nI (ns + 1))]) := (((fri_us rfl).trans (fri_us rfl)).trans (fri_us rfl)).trans (fri_us rfl)
              have fA : FrA tas aM (us (us (us aM [(26, m26'), (27, m27'), (29, m29'), (31, m31')]) [(26, n26), (27, n27), (29, n29), (31, n31)]) [(15, upd (aM 15) (250 + ns) 3), (16, upd (aM 16) (250 + ns) (nI r)), (17, upd (aM 17) (250 + ns) (nI r2)), (30, upd (aM 30) (9 + 3 * r + r2) 1), (31, upd (upd n31 (3 + r) 1) (3 + r2) 1)]) := (FrA.trans (a' := us aM [(26, m26'), (27, m27'), (29, m29'), (31, m31')]) (fra_us rfl (low_cons (fun i hi => rx5 i (by have : lowB 26 = 24 := rfl; omega)) (low_cons (fun i hi => (rx6 i (by have : lowB 27 = 3 := rfl; omega)).1) (low_cons (fun i hi => (rx6 i (by have : lowB 29 = 3 := rfl; omega)).2) (low_cons (fun i hi => absurd hi (by have : lowB 31 = 0 := rfl; omega)) (low_nil)))))) (fra_us rfl (low_cons (fun i hi => ry5 i (by have : lowB 26 = 24 := rfl; omega)) (low_cons (fun i hi => (ry6 i (by have : lowB 27 = 3 := rfl; omega)).1) (low_cons (fun i hi => (ry6 i (by have : lowB 29 = 3 := rfl; omega)).2) (low_cons (fun i hi => absurd hi (by have : lowB 31 = 0 := rfl; omega)) (low_nil))))))).trans (fra_us rfl (low_cons (fun i hi => up_n (by have : lowB 15 = 250 := rfl; omega)) (low_cons (fun i hi => up_n (by have : lowB 16 = 250 := rfl; omega)) (low_cons (fun i hi => up_n (by have : lowB 17 = 250 := rfl; omega)) (low_cons (fun i hi => up_n (by have : lowB 30 = 9 := rfl; omega)) (low_cons (fun i hi => absurd hi (by have : lowB 31 = 0 := rfl; omega)) (low_nil)))))))
              have HT : TkS n tx nx3 fr3 (us iT [(2, nI nx3), (3, nI fr3), (4, c43)]) w3 (us (us (us (us iM [(2, nI nx1), (3, k3), (4, nI fr1), (5, k5), (6, k6), (44, nI nr'), (46, 0), (47, iM 47)]) [(2, nI nx2), (3, k3'), (4, nI fr2), (5, k5'), (6, k6')]) [(44, nI nr2), (46, 0), (47, iM 47)]) [(2, nI nx3), (3, k3''), (4, nI fr3), (5, k5''), (6, k6''), (40, nI (ns + 1))]) (us (us (us aM [(26, m26'), (27, m27'), (29, m29'), (31, m31')]) [(26, n26), (27, n27), (29, n29), (31, n31)]) [(15, upd (aM 15) (250 + ns) 3), (16, upd (aM 16) (250 + ns) (nI r)), (17, upd (aM 17) (250 + ns) (nI r2)), (30, upd (aM 30) (9 + 3 * r + r2) 1), (31, upd (upd n31 (3 + r) 1) (3 + r2) 1)]) := ⟨t1, t2, rfl, rfl, rfl, rfl, tR, tW, y3⟩
              have hfr3 := y3.1
              have gap : nx + 1 ≤ fr1 := by
                by_cases e : nx = fr1
                · rw [← e] at hat; exact tf hat (s4 (by omega))
                · omega
              have gap2 : nx1 + 1 ≤ fr2 := by
                by_cases e : nx1 = fr2
                · rw [← e] at hat2; exact tf hat2 (han (by omega))
                · omega
              have hnx3 := y3.2.1
              rcases end_eq (r3 := iR 3) (r4 := iR 4) (i47 := iM 47) hN HT with ⟨h59, x3, fr4, nx4, c44, w4, z3, z5, z6, v1, v2, v3, v4⟩ | ⟨F, F1, F2, v1, v2⟩
              · have v1' : f_R_takeEnd N (iR 3) (iR 4) (nI n) (nI nx3) (nI fr3) c43 w3 tx = some (1, iR 3, iR 4, nI nx4, nI fr4, c44, w4) := by
                  rw [← t1]; exact v1
                have TKe : TK N (us (us (us (us iM [(2, nI nx1), (3, k3), (4, nI fr1), (5, k5), (6, k6), (44, nI nr'), (46, 0), (47, iM 47)]) [(2, nI nx2), (3, k3'), (4, nI fr2), (5, k5'), (6, k6')]) [(44, nI nr2), (46, 0), (47, iM 47)]) [(2, nI nx3), (3, k3''), (4, nI fr3), (5, k5''), (6, k6''), (40, nI (ns + 1))]) (us (us (us aM [(26, m26'), (27, m27'), (29, m29'), (31, m31')]) [(26, n26), (27, n27), (29, n29), (31, n31)]) [(15, upd (aM 15) (250 + ns) 3), (16, upd (aM 16) (250 + ns) (nI r)), (17, upd (aM 17) (250 + ns) (nI r2)), (30, upd (aM 30) (9 + 3 * r + r2) 1), (31, upd (upd n31 (3 + r) 1) (3 + r2) 1)]) = some (us (us (us (us (us iM [(2, nI nx1), (3, k3), (4, nI fr1), (5, k5), (6, k6), (44, nI nr'), (46, 0), (47, iM 47)]) [(2, nI nx2), (3, k3'), (4, nI fr2), (5, k5'), (6, k6')]) [(44, nI nr2), (46, 0), (47, iM 47)]) [(2, nI nx3), (3, k3''), (4, nI fr3), (5, k5''), (6, k6''), (40, nI (ns + 1))]) [(2, nI nx4), (3, z3), (4, nI fr4), (5, z5), (6, z6), (46, 0), (47, iM 47)], us (us (us aM [(26, m26'), (27, m27'), (29, m29'), (31, m31')]) [(26, n26), (27, n27), (29, n29), (31, n31)]) [(15, upd (aM 15) (250 + ns) 3), (16, upd (aM 16) (250 + ns) (nI r)), (17, upd (aM 17) (250 + ns) (nI r2)), (30, upd (aM 30) (9 + 3 * r + r2) 1), (31, upd (upd n31 (3 + r) 1) (3 + r2) 1)]) := TK_eq rfl v2
                have hfr4 : fr4 ≤ n := Nat.le_trans v3.1 v3.2.1
                have hns : ns < 246 := by omega
                obtain ⟨x12, AO, U1, U2, U3⟩ := aO_eq (N := N) (Od := Od) (b6 := aB 6) hN g2 g3 hr3 hr23 (fun z => hA z.symm) hc0 hns HC
                rw [TKe, v1', Option.bind_some]
                show StO n tx fr iR iM aM ((if (1 : Int32) = 0 then _ else (f_B_addOrder N (nI r) (nI r2) (iB 7) (iB 14) (aB 6) (aB 12)).bind _).bind _) _
                rw [if_neg i1z, i7, i14, AO, Option.bind_some, Option.bind_some]
                show StO n tx fr iR iM aM (some (us iR [(3, iR 3), (4, iR 4)], _)) _
                rw [us_rr]
                have pr : ∀ r', (Od ||| (2 ^ r ||| 2 ^ r2)).testBit r' = (Od.testBit r' || (decide (r = r') || decide (r2 = r'))) := fun r' => by rw [Nat.testBit_or, Nat.testBit_or, Nat.testBit_two_pow, Nat.testBit_two_pow]
                have rlr : (n27 (3 + r)).toNatClampNeg = szr := by rw [(ry3 r hr).2.1, e27, nI_cl (by omega)]
                have rlr2 : (n27 (3 + r2)).toNatClampNeg = szr2 := by rw [e272, nI_cl (by omega)]
                have rll : ∀ r', r' < nr → (n27 (3 + r')).toNatClampNeg = rlM aM r' := fun r' hr' => by rw [(ry3 r' (by omega)).2.1, (rx3 r' hr').2.1]; rfl
                refine Or.inl ⟨S, Od ||| (2 ^ r ||| 2 ^ r2), G ||| 2 ^ (3 * r + r2), nx4, fr4, nd, no, sz, na, nn, nr2, ns + 1, rc, qc, o, φ, wt, pl, fun s => if s ≤ ns then tl s else tl ns + (6 + szr + 1 + szr2 + 2), _, _, _, _, _, _, _, _, us (us (us aM [(26, m26'), (27, m27'), (29, m29'), (31, m31')]) [(26, n26), (27, n27), (29, n29), (31, n31)]) [(15, upd (aM 15) (250 + ns) 3), (16, upd (aM 16) (250 + ns) (nI r)), (17, upd (aM 17) (250 + ns) (nI r2)), (30, upd (aM 30) (9 + 3 * r + r2) 1), (31, upd (upd n31 (3 + r) 1) (3 + r2) 1)], rfl, rfl, by omega, ⟨⟨rfl, ⟨t1, t2, rfl, rfl, rfl, rfl, tR, tW, v3⟩, ⟨hnn, ry2, b3, rfl, m43, rfl, W1, ry7, fun r' hr' => ⟨(flg2 r' hr').1, ?_⟩, fun r' h1 h2 => ⟨(W4 r' (by omega) h2).1, ?_⟩⟩, NdS_role PD hnn (by omega) hnr ⟨rfl, rfl, rfl, rfl⟩ (fun j hj => ⟨rfl, rfl, rfl, rfl, rfl⟩) rfl rll ⟨rfl, rfl, rfl, rfl⟩⟩, ⟨g1, U3, U2, g4, ?_⟩, ⟨i13, rfl, rfl, rfl, i9, m41, i11, m42, r12, q12⟩, U1, ?_, ?_, ?_, ?_, ⟨?_, ?_, by omega, ?_⟩⟩, fI.trans (fri_us rfl), fA⟩
                · show upd (upd n31 (3 + r) 1) (3 + r2) 1 (3 + r') = _
                  rw [pr r']
                  by_cases e : r' = r2
                  · rw [e, up_s, decide_eq_true rfl, Bool.or_true, Bool.or_true]; rfl
                  · rw [up_n (by omega)]
                    by_cases e' : r' = r
                    · rw [e', up_s, decide_eq_true rfl, Bool.true_or, Bool.or_true]; rfl
                    · rw [up_n (by omega), decide_eq_false (fun z => e' z.symm), decide_eq_false (fun z => e z.symm), Bool.or_false, Bool.or_false]; exact (flg2 r' hr').2
                · rw [pr r', (W4 r' (by omega) h2).2, decide_eq_false (show ¬ r = r' by omega), decide_eq_false (show ¬ r2 = r' by omega)]; rfl
                · have a1 : 2 ^ r < 2 ^ 3 := Nat.pow_lt_pow_right (by decide) hr3
                  have a2 : 2 ^ r2 < 2 ^ 3 := Nat.pow_lt_pow_right (by decide) hr23
                  exact Nat.or_lt_two_pow (n := 3) g5 (Nat.or_lt_two_pow (n := 3) a1 a2)
                · intro k hk
                  show upd (aM 30) (9 + 3 * r + r2) 1 (9 + k) = _
                  rw [Nat.testBit_or, Nat.testBit_two_pow]
                  by_cases e : 3 * r + r2 = k
                  · rw [decide_eq_true e, Bool.or_true, show 9 + k = 9 + 3 * r + r2 by omega, up_s]; rfl
                  · rw [decide_eq_false e, Bool.or_false, up_n (by omega)]; exact HM k hk
                · exact RuS_mono HR (Nat.le_refl _) (Nat.le_succ ns) (fun _ _ => ⟨rfl, rfl⟩) (fun k hk => ⟨rfl, rfl⟩) (fun s hs => ⟨up_n (by omega), up_n (by omega), up_n (by omega)⟩)
                · exact QuS_mono HQ (Nat.le_refl _) (fun _ _ => ⟨rfl, rfl⟩) (fun k hk => ⟨rfl, rfl⟩)
                · intro s hs
                  by_cases e : s = ns
                  · subst e
                    refine Or.inr (Or.inr (Or.inl ⟨r, r2, by omega, hr2, up_s, up_s, up_s, up_s, ?_⟩))
                    show (if s + 1 ≤ s then _ else tl s + (6 + szr + 1 + szr2 + 2)) = (if s ≤ s then tl s else _) + (6 + (n27 (3 + r)).toNatClampNeg + 1 + (n27 (3 + r2)).toNatClampNeg + 2)
                    rw [if_neg (by omega), if_pos (Nat.le_refl _), rlr, rlr2]
                  · have HS' := StS_mono (sz := sz) (nr' := nr2) (rl' := rlM (us (us (us aM [(26, m26'), (27, m27'), (29, m29'), (31, m31')]) [(26, n26), (27, n27), (29, n29), (31, n31)]) [(15, upd (aM 15) (250 + ns) 3), (16, upd (aM 16) (250 + ns) (nI r)), (17, upd (aM 17) (250 + ns) (nI r2)), (30, upd (aM 30) (9 + 3 * r + r2) 1), (31, upd (upd n31 (3 + r) 1) (3 + r2) 1)])) (tl' := fun s => if s ≤ ns then tl s else tl ns + (6 + szr + 1 + szr2 + 2)) (cs' := upd (aB 6) ns (nI (3 + 256 * r + 65536 * r2))) (t15 := upd (aM 15) (250 + ns) 3) (t16 := upd (aM 16) (250 + ns) (nI r)) (t17 := upd (aM 17) (250 + ns) (nI r2)) HS (Nat.le_refl _) (by omega) (fun i hi => (PD.2.2.2.2.2.2.2.2.2.2.2.1 i hi).2.2.1) (fun _ _ => ⟨rfl, rfl⟩) (fun a ha => ⟨rfl, rfl⟩) rll (fun s hs => ⟨up_n (by omega), up_n (by omega), up_n (by omega), up_n (by omega)⟩) (fun s hs => if_pos hs)
                    exact HS' s (by omega)
                · show (if 0 ≤ ns then tl 0 else _) = 0
                  rw [if_pos (Nat.zero_le _)]; exact tl0
                · intro s hs
                  show (if s ≤ ns then tl s else _) ≤ (if s + 1 ≤ ns then tl (s + 1) else _)
                  rw [if_pos (show s ≤ ns by omega)]
                  by_cases e : s + 1 ≤ ns
                  · rw [if_pos e]; exact tlm s (by omega)
                  · rw [if_neg e, show s = ns by omega]; omega
                · show (if ns + 1 ≤ ns then _ else tl ns + (6 + szr + 1 + szr2 + 2)) ≤ _
                  rw [if_neg (by omega)]
                  omega
              · have v1' : f_R_takeEnd N (iR 3) (iR 4) (nI n) (nI nx3) (nI fr3) c43 w3 tx = some (0, nI F, nI fr3, nI nx3, nI fr3, c43, w3) := by
                  rw [← t1]; exact v1
                have TKe : TK N (us (us (us (us iM [(2, nI nx1), (3, k3), (4, nI fr1), (5, k5), (6, k6), (44, nI nr'), (46, 0), (47, iM 47)]) [(2, nI nx2), (3, k3'), (4, nI fr2), (5, k5'), (6, k6')]) [(44, nI nr2), (46, 0), (47, iM 47)]) [(2, nI nx3), (3, k3''), (4, nI fr3), (5, k5''), (6, k6''), (40, nI (ns + 1))]) (us (us (us aM [(26, m26'), (27, m27'), (29, m29'), (31, m31')]) [(26, n26), (27, n27), (29, n29), (31, n31)]) [(15, upd (aM 15) (250 + ns) 3), (16, upd (aM 16) (250 + ns) (nI r)), (17, upd (aM 17) (250 + ns) (nI r2)), (30, upd (aM 30) (9 + 3 * r + r2) 1), (31, upd (upd n31 (3 + r) 1) (3 + r2) 1)]) = some (us (us (us (us (us iM [(2, nI nx1), (3, k3), (4, nI fr1), (5, k5), (6, k6), (44, nI nr'), (46, 0), (47, iM 47)]) [(2, nI nx2), (3, k3'), (4, nI fr2), (5, k5'), (6, k6')]) [(44, nI nr2), (46, 0), (47, iM 47)]) [(2, nI nx3), (3, k3''), (4, nI fr3), (5, k5''), (6, k6''), (40, nI (ns + 1))]) [(2, nI nx3), (3, k3''), (4, nI fr3), (5, k5''), (6, k6''), (46, nI F), (47, nI fr3)], us (us (us aM [(26, m26'), (27, m27'), (29, m29'), (31, m31')]) [(26, n26), (27, n27), (29, n29), (31, n31)]) [(15, upd (aM 15) (250 + ns) 3), (16, upd (aM 16) (250 + ns) (nI r)), (17, upd (aM 17) (250 + ns) (nI r2)), (30, upd (aM 30) (9 + 3 * r + r2) 1), (31, upd (upd n31 (3 + r) 1) (3 + r2) 1)]) := TK_eq rfl v2
                rw [TKe, v1', Option.bind_some]
                exact Or.inr ⟨F, fr3, us iR [(3, nI F), (4, nI fr3)], _, _, us (us (us aM [(26, m26'), (27, m27'), (29, m29'), (31, m31')]) [(26, n26), (27, n27), (29, n29), (31, n31)]) [(15, upd (aM 15) (250 + ns) 3), (16, upd (aM 16) (250 + ns) (nI r)), (17, upd (aM 17) (250 + ns) (nI r2)), (30, upd (aM 30) (9 + 3 * r + r2) 1), (31, upd (upd n31 (3 + r) 1) (3 + r2) 1)], rfl, rfl, F1, F2, by omega, rfl, rfl, rfl, rfl, fI.trans (fri_us rfl), fA⟩
