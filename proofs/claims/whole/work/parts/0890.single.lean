/-! SINGLE, of both -/
theorem TK_eq {N : Nat} {X : Nat → Int32} {Y : Nat → Nat → Int32} {a b c d e f g : Int32} (h46 : X 46 = 0) (h : f_M_take N 59 (X 1) (X 2) (X 3) (X 4) (X 5) (X 6) 0 (X 47) (Y 0) = some (a, b, c, d, e, f, g)) : TK N X Y = some (us X [(2, a), (3, b), (4, c), (5, d), (6, e), (46, f), (47, g)], Y) := by
  unfold TK
  rw [h46, h, Option.bind_some]
theorem single_st {N n : Nat} {tx : Nat → Int32} {S Od G nx fr nd no sz na nn nr ns rc qc : Nat} {o φ wt pl tl : Nat → Nat} {iR iT : Nat → Int32} {wT : Int64} {iB : Nat → Int32} {lB : Nat → Nat → Int64} {aB : Nat → Nat → Int32} {iC : Nat → Int32} {aC : Nat → Nat → Int32} {iM : Nat → Int32} {aM : Nat → Nat → Int32} (hN : 100000 ≤ N) (B : BkS n tx S Od G nx fr nd no sz na nn nr ns rc qc o φ wt pl tl iT wT iB lB aB iC aC iM aM) (hw : wT = lN 126896661032037) : StO n tx fr iR iM aM ((f_R_takeSingle N (iR 3) (iR 4) (iT 1) (iT 2) (iT 3) (iT 4) wT tx (iB 3) (iB 5) (iB 7) (iB 13) (iB 14) (lB 2) (lB 4) (aB 6)).bind fun q120 => some ((us iR [(3, q120.1), (4, q120.2.1)]), (us iT [(2, q120.2.2.1), (3, q120.2.2.2.1), (4, q120.2.2.2.2.1)]), q120.2.2.2.2.2.1, (us iB [(5, q120.2.2.2.2.2.2.1), (7, q120.2.2.2.2.2.2.2.1), (13, q120.2.2.2.2.2.2.2.2.1)]), (us lB [(4, q120.2.2.2.2.2.2.2.2.2.1)]), (us aB [(6, q120.2.2.2.2.2.2.2.2.2.2)]), iC, aC)) ((f_M_readSingle N iM aM).bind fun q => TK N q.1 q.2) := by
  obtain ⟨P, ⟨g1, g2, g3, g4, g5⟩, ⟨i13, i14, i7, m40, i9, m41, i11, m42, r12, q12⟩, HC, HM, HR, HQ, HS, ⟨tl0, tlm, cn1, cn2⟩⟩ := B
  have P' := P
  obtain ⟨p46, ⟨t1, t2, t3, t4, t5, t6, tR, tW, tT⟩, PM, PD⟩ := P'
  obtain ⟨hnn, hnr, b3, b5, m43, m44, W1, W2, W3, W4⟩ := PM
  have hn := tR.1
  have hwk : wT = lN (kww.getD 2 0) := hw
  obtain ⟨s1, s2, s3, s4, -⟩ := w_kept tT (by rw [hwk]; exact kwB_of (by decide))
  have hsz : nx = fr + 6 := w_size tT (show 2 < 10 by decide) hwk
  have hnx := tT.2.1
  obtain ⟨fr1, nx1, c4', w1, k3, k5, k6, q1, q2, q3, q4⟩ := tok_step (N := N) (o3 := nI fr) (o4 := iT 4) (m3 := iM 3) (m4 := nI fr) (m5 := iM 5) (m6 := iM 6) (ow := wT) hN tR tT.2.1
  have hnx1 := q3.2.1
  have hfr1 := q3.1
  unfold f_R_takeSingle f_M_readSingle
  rw [t1, t3, t5, q1, Option.bind_some, t2, t4, t6, q2, Option.bind_some, b3, b5, m43, m44, p46, tW]
  show StO n tx fr iR iM aM (((f_R_takeRole N (iR 3) (iR 4) (nI n) (nI nx1) (nI fr1) c4' w1 tx (nI nn) (nI nr) (lB 2) (lB 4)).bind _).bind _) (((f_M_readRole N k3 (nI fr1) k5 (nI nn) (nI nr) 0 (iM 47) (aM 0) wordsM (aM 23) (aM 24) (aM 26) (aM 27) (aM 29) (aM 31)).bind _).bind _)
  rcases rl_eq (r3 := iR 3) (r4 := iR 4) (i47 := iM 47) (m29 := aM 29) (m31 := aM 31) hN tR q3 hnn hnr W1 W2 with ⟨F, F1, F2, F3, F4⟩ | ⟨r, nr', szr, l4', m26', m27', m29', m31', hr, hs1, hs8, hnxr, hat, han, e27, ⟨rx1, rx2, rx3, rx4, rx5, rx6, rx7⟩, hcl, hmo⟩
  · rw [F3, F4, Option.bind_some, Option.bind_some]
    show StO n tx fr iR iM aM _ (((f_M_fine (nI F)).bind _).bind _)
    rw [fine_bad F1 F2, Option.bind_some, if_pos rfl, if_pos (show (0 : Int32) = 0 from rfl), Option.bind_some]
    unfold f_M_readSingle_37
    show StO n tx fr iR iM aM _ (((f_M_fine (nI F)).bind _).bind _)
    rw [fine_bad F1 F2, Option.bind_some, if_pos rfl, Option.bind_some]
    exact Or.inr ⟨F, fr1, us iR [(3, nI F), (4, nI fr1)], _, us (us iM [(2, nI nx1), (3, k3), (4, nI fr1), (5, k5), (6, k6), (44, nI nr), (46, nI F), (47, nI fr1)]) [(2, nI nx1), (3, k3), (4, nI fr1), (5, k5), (6, k6), (46, nI F), (47, nI fr1)], us aM [(26, aM 26), (27, aM 27), (29, aM 29), (31, aM 31)], rfl, TK_bad (F := F) rfl F1 F2, F1, F2, by omega, rfl, rfl, rfl, rfl, (fri_us rfl).trans (fri_us rfl), (fra_us rfl (low_cons (fun i hi => rfl) (low_cons (fun i hi => rfl) (low_cons (fun i hi => rfl) (low_cons (fun i hi => absurd hi (by have : lowB 31 = 0 := rfl; omega)) (low_nil))))))⟩
  · obtain ⟨fr2, nx2, c42, w2, k3', k5', k6', u1, u2, u3, u4⟩ := tok_step (N := N) (o3 := nI fr1) (o4 := c4') (m3 := k3) (m4 := nI fr1) (m5 := k5) (m6 := k6) (ow := w1) hN tR q3.2.1
    rw [u1, Option.bind_some] at hcl
    have hr3 : r < 3 := by omega
    have hfr2 := u3.1
    have hnx2 := u3.2.1
    have gap : nx + 1 ≤ fr1 := by
      by_cases e : nx = fr1
      · rw [← e] at hat; exact tf hat (s4 (by omega))
      · omega
    have flg : ∀ r', r' < nr' → m29' (3 + r') = (if S.testBit r' = true then 1 else 0) ∧ m31' (3 + r') = (if Od.testBit r' = true then 1 else 0) := fun r' hr' => by
      by_cases e : r' < nr
      · obtain ⟨-, -, z29, z31⟩ := rx3 r' e
        rw [z29, z31]; exact W3 r' e
      · obtain ⟨z29, z31⟩ := rx4 r' (by omega) hr'
        obtain ⟨v1, v2⟩ := W4 r' (by omega) (by omega)
        rw [z29, z31, v1, v2]; exact ⟨rfl, rfl⟩
    have e3r : ((3 : Int32) + nI r) = nI (3 + r) := by rw [show (3 : Int32) = nI 3 from rfl, nI_add]
    rw [hcl, hmo, Option.bind_some, Option.bind_some]
    show StO n tx fr iR iM aM ((if nI r = -1 then _ else (f_B_isOrdered (nI r) (iB 14)).bind _).bind _) (((f_M_fine 0).bind _).bind _)
    have OR : f_B_isOrdered (nI r) (nI Od) = some (b2i (Od.testBit r)) := by
      unfold f_B_isOrdered
      exact bit_of g5 hr3
    rw [if_neg (nI_neg1 (by omega)), i14, OR, Option.bind_some, M_fine0, Option.bind_some, if_neg i1z]
    show StO n tx fr iR iM aM _ ((if (3 + nI r) < 0 ∨ 6 ≤ (3 + nI r).toNatClampNeg then none else if m31' (3 + nI r).toNatClampNeg = 0 then _ else _ : Option ((Nat → Int32) × (Nat → Nat → Int32))).bind _)
    rw [e3r, if_neg (nI_g (show 3 + r < 6 by omega) (by decide)), nI_cl (show 3 + r < 2147483648 by omega), (flg r hr).2]
    by_cases ho : Od.testBit r = true
    · rw [if_pos ho, ho, if_neg (show ¬ (1 : Int32) = 0 by decide), if_neg (show ¬ b2i true = 0 by decide), M_wrong0, Option.bind_some]
      unfold f_M_readSingle_37
      show StO n tx fr iR iM aM _ (((f_M_fine (nI 6)).bind _).bind _)
      rw [fine_bad (F := 6) (by decide) (by decide), Option.bind_some, if_pos rfl, Option.bind_some]
      exact Or.inr ⟨6, fr1, us iR [(3, nI 6), (4, nI fr1)], _, us (us iM [(2, nI nx1), (3, k3), (4, nI fr1), (5, k5), (6, k6), (44, nI nr'), (46, 6), (47, nI fr1)]) [(2, nI nx1), (3, k3), (4, nI fr1), (5, k5), (6, k6), (46, nI 6), (47, nI fr1)], us aM [(26, m26'), (27, m27'), (29, m29'), (31, m31')], rfl, TK_bad (F := 6) rfl (by decide) (by decide), by decide, by decide, by omega, rfl, rfl, rfl, rfl, (fri_us rfl).trans (fri_us rfl), (fra_us rfl (low_cons (fun i hi => rx5 i (by have : lowB 26 = 24 := rfl; omega)) (low_cons (fun i hi => (rx6 i (by have : lowB 27 = 3 := rfl; omega)).1) (low_cons (fun i hi => (rx6 i (by have : lowB 29 = 3 := rfl; omega)).2) (low_cons (fun i hi => absurd hi (by have : lowB 31 = 0 := rfl; omega)) (low_nil))))))⟩
    · have hb0 : b2i (Od.testBit r) = 0 := b2i_0.mpr (by cases h : Od.testBit r; rfl; exact absurd h ho)
      rw [if_neg ho, if_pos (show (0 : Int32) = 0 from rfl), if_pos hb0]
      unfold f_M_readSingle_37
      show StO n tx fr iR iM aM _ (((f_M_fine 0).bind _).bind _)
      rw [M_fine0, Option.bind_some, if_neg i1z]
      show StO n tx fr iR iM aM _ (((f_M_next N (iM 1) (nI nx1) k3 (nI fr1) k5 k6 (aM 0)).bind _).bind _)
      rw [t2, u2, Option.bind_some]
      show StO n tx fr iR iM aM _ ((if (3 + nI r) < 0 ∨ 6 ≤ (3 + nI r).toNatClampNeg then none else (f_M_say 4 (nI r) (-1) (iM 40) (aM 15) (aM 16) (aM 17)).bind fun q61 => some (us (us iM [(2, nI nx1), (3, k3), (4, nI fr1), (5, k5), (6, k6), (44, nI nr'), (46, 0), (47, iM 47)]) [(2, nI nx2), (3, k3'), (4, nI fr2), (5, k5'), (6, k6'), (40, q61.1)], us (us aM [(26, m26'), (27, m27'), (29, m29'), (31, m31')]) [(15, q61.2.1), (16, q61.2.2.1), (17, q61.2.2.2), (29, upd m29' (3 + nI r).toNatClampNeg (vp_nar .boolean 1))])).bind _)
      have SAY : f_M_say 4 (nI r) (-1) (iM 40) (aM 15) (aM 16) (aM 17) = some (nI (ns + 1), upd (aM 15) (250 + ns) 4, upd (aM 16) (250 + ns) (nI r), upd (aM 17) (250 + ns) (-1)) := by
        unfold f_M_say
        rw [m40, show (250 : Int32) = nI 250 from rfl, nI_add, if_neg (nI_g (show 250 + ns < 500 by omega) (by decide)), nI_cl (show 250 + ns < 2147483648 by omega), nI_m]
      rw [SAY, e3r, if_neg (nI_g (show 3 + r < 6 by omega) (by decide)), nI_cl (show 3 + r < 2147483648 by omega), Option.bind_some, show vp_nar .boolean (1 : Int32) = 1 by decide, Option.bind_some]
      show StO n tx fr iR iM aM _ (TK N (us (us iM [(2, nI nx1), (3, k3), (4, nI fr1), (5, k5), (6, k6), (44, nI nr'), (46, 0), (47, iM 47)]) [(2, nI nx2), (3, k3'), (4, nI fr2), (5, k5'), (6, k6'), (40, nI (ns + 1))]) (us (us aM [(26, m26'), (27, m27'), (29, m29'), (31, m31')]) [(15, upd (aM 15) (250 + ns) 4), (16, upd (aM 16) (250 + ns) (nI r)), (17, upd (aM 17) (250 + ns) (-1)), (29, upd m29' (3 + r) 1)]))
      have fI : FrI tcs iM (us (us iM [(2, nI nx1), (3, k3), (4, nI fr1), (5, k5), (6, k6), (44, nI nr'), (46, 0), (47, iM 47)]) [(2, nI nx2), (3, k3'), (4, nI fr2), (5, k5'), (6, k6'), (40, nI (ns + 1))]) := (fri_us rfl).trans (fri_us rfl)
      have fA : FrA tas aM (us (us aM [(26, m26'), (27, m27'), (29, m29'), (31, m31')]) [(15, upd (aM 15) (250 + ns) 4), (16, upd (aM 16) (250 + ns) (nI r)), (17, upd (aM 17) (250 + ns) (-1)), (29, upd m29' (3 + r) 1)]) := FrA.trans (a' := us aM [(26, m26'), (27, m27'), (29, m29'), (31, m31')]) (fra_us rfl (low_cons (fun i hi => rx5 i (by have : lowB 26 = 24 := rfl; omega)) (low_cons (fun i hi => (rx6 i (by have : lowB 27 = 3 := rfl; omega)).1) (low_cons (fun i hi => (rx6 i (by have : lowB 29 = 3 := rfl; omega)).2) (low_cons (fun i hi => absurd hi (by have : lowB 31 = 0 := rfl; omega)) (low_nil)))))) (fra_us rfl (low_cons (fun i hi => up_n (by have : lowB 15 = 250 := rfl; omega)) (low_cons (fun i hi => up_n (by have : lowB 16 = 250 := rfl; omega)) (low_cons (fun i hi => up_n (by have : lowB 17 = 250 := rfl; omega)) (low_cons (fun i hi => up_n (by have : lowB 29 = 3 := rfl; omega)) (low_nil))))))
      have HT : TkS n tx nx2 fr2 (us iT [(2, nI nx2), (3, nI fr2), (4, c42)]) w2 (us (us iM [(2, nI nx1), (3, k3), (4, nI fr1), (5, k5), (6, k6), (44, nI nr'), (46, 0), (47, iM 47)]) [(2, nI nx2), (3, k3'), (4, nI fr2), (5, k5'), (6, k6'), (40, nI (ns + 1))]) (us (us aM [(26, m26'), (27, m27'), (29, m29'), (31, m31')]) [(15, upd (aM 15) (250 + ns) 4), (16, upd (aM 16) (250 + ns) (nI r)), (17, upd (aM 17) (250 + ns) (-1)), (29, upd m29' (3 + r) 1)]) := ⟨t1, t2, rfl, rfl, rfl, rfl, tR, tW, u3⟩
      have pr : ∀ r', (S ||| 2 ^ r).testBit r' = (S.testBit r' || decide (r = r')) := fun r' => by rw [Nat.testBit_or, Nat.testBit_two_pow]
      rcases end_eq (r3 := iR 3) (r4 := iR 4) (i47 := iM 47) hN HT with ⟨h59, x3, fr3, nx3, c43, w3, k3'', k5'', k6'', v1, v2, v3, v4⟩ | ⟨F, F1, F2, v1, v2⟩
      · have v1' : f_R_takeEnd N (iR 3) (iR 4) (nI n) (nI nx2) (nI fr2) c42 w2 tx = some (1, iR 3, iR 4, nI nx3, nI fr3, c43, w3) := by
          rw [← t1]; exact v1
        have TKe : TK N (us (us iM [(2, nI nx1), (3, k3), (4, nI fr1), (5, k5), (6, k6), (44, nI nr'), (46, 0), (47, iM 47)]) [(2, nI nx2), (3, k3'), (4, nI fr2), (5, k5'), (6, k6'), (40, nI (ns + 1))]) (us (us aM [(26, m26'), (27, m27'), (29, m29'), (31, m31')]) [(15, upd (aM 15) (250 + ns) 4), (16, upd (aM 16) (250 + ns) (nI r)), (17, upd (aM 17) (250 + ns) (-1)), (29, upd m29' (3 + r) 1)]) = some (us (us (us iM [(2, nI nx1), (3, k3), (4, nI fr1), (5, k5), (6, k6), (44, nI nr'), (46, 0), (47, iM 47)]) [(2, nI nx2), (3, k3'), (4, nI fr2), (5, k5'), (6, k6'), (40, nI (ns + 1))]) [(2, nI nx3), (3, k3''), (4, nI fr3), (5, k5''), (6, k6''), (46, 0), (47, iM 47)], us (us aM [(26, m26'), (27, m27'), (29, m29'), (31, m31')]) [(15, upd (aM 15) (250 + ns) 4), (16, upd (aM 16) (250 + ns) (nI r)), (17, upd (aM 17) (250 + ns) (-1)), (29, upd m29' (3 + r) 1)]) := TK_eq rfl v2
        have hfr3 : fr3 ≤ n := Nat.le_trans v3.1 v3.2.1
        have hns : ns < 246 := by omega
        have AS : f_B_addSingle (nI r) (iB 7) (iB 13) (aB 6) = some (nI (ns + 1), nI (S ||| 2 ^ r), upd (aB 6) ns (nI (4 + 256 * r + 65536 * 0))) := by
          unfold f_B_addSingle
          rw [i7, i13, show (4 : Int32) = nI 4 from rfl, show (0 : Int32) = nI 0 from rfl, adS_eq (by decide) (by omega) (by decide) hns, Option.bind_some, pw9 r (by omega), nI_or]
        rw [TKe, v1', Option.bind_some]
        show StO n tx fr iR iM aM ((if (1 : Int32) = 0 then _ else (f_B_addSingle (nI r) (iB 7) (iB 13) (aB 6)).bind _).bind _) _
        rw [if_neg i1z, AS, Option.bind_some, Option.bind_some]
        show StO n tx fr iR iM aM (some (us iR [(3, iR 3), (4, iR 4)], _)) _
        rw [us_rr]
        have rl8 : (m27' (3 + r)).toNatClampNeg = szr := by rw [e27, nI_cl (by omega)]
        refine Or.inl ⟨S ||| 2 ^ r, Od, G, nx3, fr3, nd, no, sz, na, nn, nr', ns + 1, rc, qc, o, φ, wt, pl, fun s => if s ≤ ns then tl s else tl ns + (7 + szr + 2), _, _, _, _, _, _, _, _, us (us aM [(26, m26'), (27, m27'), (29, m29'), (31, m31')]) [(15, upd (aM 15) (250 + ns) 4), (16, upd (aM 16) (250 + ns) (nI r)), (17, upd (aM 17) (250 + ns) (-1)), (29, upd m29' (3 + r) 1)], rfl, rfl, by omega, ⟨⟨rfl, ⟨t1, t2, rfl, rfl, rfl, rfl, tR, tW, v3⟩, ⟨hnn, rx2, b3, rfl, m43, rfl, W1, rx7, fun r' hr' => ⟨?_, (flg r' hr').2⟩, fun r' h1 h2 => ⟨?_, (W4 r' (by omega) h2).2⟩⟩, NdS_role PD hnn rx1 hnr ⟨rfl, rfl, rfl, rfl⟩ (fun j hj => ⟨rfl, rfl, rfl, rfl, rfl⟩) rfl (fun r' hr' => by show (m27' (3 + r')).toNatClampNeg = _; rw [(rx3 r' hr').2.1]; rfl) ⟨rfl, rfl, rfl, rfl⟩⟩, ⟨g1, g2, g3, ?_, g5⟩, ⟨rfl, i14, rfl, rfl, i9, m41, i11, m42, r12, q12⟩, HC, HM, ?_, ?_, ?_, ⟨?_, ?_, by omega, ?_⟩⟩, fI.trans (fri_us rfl), fA⟩
        · show upd m29' (3 + r) 1 (3 + r') = _
          rw [pr r']
          by_cases e : r' = r
          · rw [e, up_s, decide_eq_true rfl, Bool.or_true]; rfl
          · rw [up_n (by omega), decide_eq_false (fun z => e z.symm), Bool.or_false]; exact (flg r' hr').1
        · rw [pr r', (W4 r' (by omega) h2).1, decide_eq_false (by omega)]; rfl
        · have : 2 ^ r < 2 ^ 3 := Nat.pow_lt_pow_right (by decide) hr3
          exact Nat.or_lt_two_pow (n := 3) g4 this
        · exact RuS_mono HR (Nat.le_refl _) (Nat.le_succ ns) (fun _ _ => ⟨rfl, rfl⟩) (fun k hk => ⟨rfl, rfl⟩) (fun s hs => ⟨up_n (by omega), up_n (by omega), up_n (by omega)⟩)
        · exact QuS_mono HQ (Nat.le_refl _) (fun _ _ => ⟨rfl, rfl⟩) (fun k hk => ⟨rfl, rfl⟩)
        · intro s hs
          by_cases e : s = ns
          · subst e
            refine Or.inr (Or.inr (Or.inr ⟨r, hr, up_s, up_s, up_s, ?_⟩))
            show (if s + 1 ≤ s then _ else tl s + (7 + szr + 2)) = (if s ≤ s then tl s else _) + (7 + (m27' (3 + r)).toNatClampNeg + 2)
            rw [if_neg (by omega), if_pos (Nat.le_refl _), rl8]
          · have HS' := StS_mono (sz := sz) (nr' := nr') (rl' := rlM (us (us aM [(26, m26'), (27, m27'), (29, m29'), (31, m31')]) [(15, upd (aM 15) (250 + ns) 4), (16, upd (aM 16) (250 + ns) (nI r)), (17, upd (aM 17) (250 + ns) (-1)), (29, upd m29' (3 + r) 1)])) (tl' := fun s => if s ≤ ns then tl s else tl ns + (7 + szr + 2)) (cs' := upd (aB 6) ns (nI (4 + 256 * r + 65536 * 0))) (t15 := upd (aM 15) (250 + ns) 4) (t16 := upd (aM 16) (250 + ns) (nI r)) (t17 := upd (aM 17) (250 + ns) (-1)) HS (Nat.le_refl _) rx1 (fun i hi => (PD.2.2.2.2.2.2.2.2.2.2.2.1 i hi).2.2.1) (fun _ _ => ⟨rfl, rfl⟩) (fun a ha => ⟨rfl, rfl⟩) (fun r' hr' => by show (m27' (3 + r')).toNatClampNeg = _; rw [(rx3 r' hr').2.1]; rfl) (fun s hs => ⟨up_n (by omega), up_n (by omega), up_n (by omega), up_n (by omega)⟩) (fun s hs => if_pos hs)
            exact HS' s (by omega)
        · show (if 0 ≤ ns then tl 0 else _) = 0
          rw [if_pos (Nat.zero_le _)]; exact tl0
        · intro s hs
          show (if s ≤ ns then tl s else _) ≤ (if s + 1 ≤ ns then tl (s + 1) else _)
          rw [if_pos (show s ≤ ns by omega)]
          by_cases e : s + 1 ≤ ns
          · rw [if_pos e]; exact tlm s (by omega)
          · rw [if_neg e, show s = ns by omega]; omega
        · show (if ns + 1 ≤ ns then _ else tl ns + (7 + szr + 2)) ≤ _
          rw [if_neg (by omega)]
          omega
      · have v1' : f_R_takeEnd N (iR 3) (iR 4) (nI n) (nI nx2) (nI fr2) c42 w2 tx = some (0, nI F, nI fr2, nI nx2, nI fr2, c42, w2) := by
          rw [← t1]; exact v1
        have TKe : TK N (us (us iM [(2, nI nx1), (3, k3), (4, nI fr1), (5, k5), (6, k6), (44, nI nr'), (46, 0), (47, iM 47)]) [(2, nI nx2), (3, k3'), (4, nI fr2), (5, k5'), (6, k6'), (40, nI (ns + 1))]) (us (us aM [(26, m26'), (27, m27'), (29, m29'), (31, m31')]) [(15, upd (aM 15) (250 + ns) 4), (16, upd (aM 16) (250 + ns) (nI r)), (17, upd (aM 17) (250 + ns) (-1)), (29, upd m29' (3 + r) 1)]) = some (us (us (us iM [(2, nI nx1), (3, k3), (4, nI fr1), (5, k5), (6, k6), (44, nI nr'), (46, 0), (47, iM 47)]) [(2, nI nx2), (3, k3'), (4, nI fr2), (5, k5'), (6, k6'), (40, nI (ns + 1))]) [(2, nI nx2), (3, k3'), (4, nI fr2), (5, k5'), (6, k6'), (46, nI F), (47, nI fr2)], us (us aM [(26, m26'), (27, m27'), (29, m29'), (31, m31')]) [(15, upd (aM 15) (250 + ns) 4), (16, upd (aM 16) (250 + ns) (nI r)), (17, upd (aM 17) (250 + ns) (-1)), (29, upd m29' (3 + r) 1)]) := TK_eq rfl v2
        rw [TKe, v1', Option.bind_some]
        exact Or.inr ⟨F, fr2, us iR [(3, nI F), (4, nI fr2)], _, _, us (us aM [(26, m26'), (27, m27'), (29, m29'), (31, m31')]) [(15, upd (aM 15) (250 + ns) 4), (16, upd (aM 16) (250 + ns) (nI r)), (17, upd (aM 17) (250 + ns) (-1)), (29, upd m29' (3 + r) 1)], rfl, rfl, F1, F2, by omega, rfl, rfl, rfl, rfl, fI.trans (fri_us rfl), fA⟩
