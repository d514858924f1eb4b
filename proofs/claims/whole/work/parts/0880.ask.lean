/-! a question, of both -/
def TK (N : Nat) (X : Nat → Int32) (Y : Nat → Nat → Int32) : Option ((Nat → Int32) × (Nat → Nat → Int32)) := (f_M_take N 59 (X 1) (X 2) (X 3) (X 4) (X 5) (X 6) (X 46) (X 47) (Y 0)).bind fun q137 => some (us X [(2, q137.1), (3, q137.2.1), (4, q137.2.2.1), (5, q137.2.2.2.1), (6, q137.2.2.2.2.1), (46, q137.2.2.2.2.2.1), (47, q137.2.2.2.2.2.2)], Y)
theorem TK_bad {N F : Nat} {X : Nat → Int32} {Y : Nat → Nat → Int32} (h : X 46 = nI F) (h1 : 1 ≤ F) (h6 : F ≤ 6) : TK N X Y = some (us X [(2, X 2), (3, X 3), (4, X 4), (5, X 5), (6, X 6), (46, nI F), (47, X 47)], Y) := by
  unfold TK
  rw [h, take_bad h1 h6, Option.bind_some]
theorem con_word {N n fr nx p c1 : Nat} {tx t0 iR iT iB iC : Nat → Int32} {wT : Int64} {lB : Nat → Nat → Int64} {aB aC : Nat → Nat → Int32} {m3 m5 m6 : Int32} {z : (Nat → Int32) × (Nat → Int32) × Int64 × (Nat → Int32) × (Nat → Nat → Int64) × (Nat → Int32) × (Nat → Nat → Int32)} (hN : 100000 ≤ N) (H : RTape n tx t0) (T : Tok n tx nx fr (iT 4) wT m3 m5 m6) (hp : p ≤ fr) (ha : p < n → an (tx p) = false) (hc : c1 < 200) (h : f_R_takeConcept N (f_R_takeOne N 14) 0 iR iT wT tx iB lB aB iC aC = some (nI c1, z)) : p + 1 ≤ fr + (if wT = lN 40 then 1 else 0) := by
  by_cases e : wT = lN 40
  · rw [if_pos e]; omega
  · rw [if_neg e]
    obtain ⟨q, -, q2⟩ := beg_eq hN H T
    rcases q2 with ⟨q2, -⟩ | ⟨-, -, q2⟩
    · exact absurd q2 e
    · rcases q2 with ⟨-, m, -⟩ | ⟨i, -, -, -, m, -⟩ | ⟨-, b, -⟩
      · exact word_gap T hp ha m
      · exact word_gap T hp ha m
      · exfalso
        have h1 : f_R_takeOne N 14 0 iR iT wT tx iB lB aB iC aC = some (-1, us iR [(3, if iT 4 = 0 then 1 else 2), (4, iT 3)], iT, wT, iB, lB, iC, aC) := by
          rw [show 14 = 13 + 1 by decide, f_R_takeOne]
          unfold f_R_takeOneB
          rw [b, Option.bind_some, if_pos rfl, R_misp, Option.bind_some]
        unfold f_R_takeConcept f_R_takeAll at h
        obtain ⟨M, rfl⟩ : ∃ M, N = M + 1 := ⟨N - 1, by omega⟩
        have B1 := ta_bad (N := M + 1) (one := f_R_takeOne (M + 1) 14) (jR := iR) (jT := iT) (jw := wT) (tx := tx) (jB := iB) (jl := lB) (aB := aB) (jC := iC) (ja := aC) (v1 := 0) (i := M) (v3 := 0) (iR := us iR [(3, if iT 4 = 0 then 1 else 2), (4, iT 3)]) (iT := iT) (w := wT) (iB := iB) (lB := lB) (iC := iC) (aC := aC)
        have B2 := tcn_bad (N := M + 1) (one := f_R_takeOne (M + 1) 14) (jR := iR) (jT := iT) (jw := wT) (tx := tx) (jB := iB) (jl := lB) (aB := aB) (jC := iC) (ja := aC) (v1 := 0) (i := M) (v3 := 0) (iR := us iR [(3, if iT 4 = 0 then 1 else 2), (4, iT 3)]) (iT := iT) (w := wT) (iB := iB) (lB := lB) (iC := iC) (aC := aC)
        rw [show nI 0 = (0 : Int32) from rfl] at B1 B2
        rw [h1, Option.bind_some, B1, Option.bind_some, B2] at h
        have := congrArg (fun o => o.map (fun x => x.1)) h
        simp only [Option.map_some, Option.some.injEq] at this
        exact nI_neg1 (by omega) this.symm
theorem ask_st {N n : Nat} {tx : Nat → Int32} {S Od G nx fr nd no sz na nn nr ns rc qc : Nat} {o φ wt pl tl : Nat → Nat} {iR iT : Nat → Int32} {wT : Int64} {iB : Nat → Int32} {lB : Nat → Nat → Int64} {aB : Nat → Nat → Int32} {iC : Nat → Int32} {aC : Nat → Nat → Int32} {iM : Nat → Int32} {aM : Nat → Nat → Int32} (hN : 100000 ≤ N) (B : BkS n tx S Od G nx fr nd no sz na nn nr ns rc qc o φ wt pl tl iT wT iB lB aB iC aC iM aM) (hw : wT = lN 6386539) : StO n tx fr iR iM aM (f_R_takeQuestion N iR iT wT tx iB lB aB iC aC) ((f_M_readAsk N iM aM).bind fun q => TK N q.1 q.2) := by
  obtain ⟨P, ⟨g1, g2, g3, g4, g5⟩, ⟨i13, i14, i7, m40, i9, m41, i11, m42, r12, q12⟩, HC, HM, HR, HQ, HS, ⟨tl0, tlm, cn1, cn2⟩⟩ := B
  have P' := P
  obtain ⟨p46, ⟨t1, t2, t3, t4, t5, t6, tR, tW, tT⟩, PM, PD⟩ := P'
  have hn := tR.1
  have hwk : wT = lN (kww.getD 0 0) := hw
  obtain ⟨s1, s2, s3, s4, -⟩ := w_kept tT (by rw [hwk]; exact kwB_of (by decide))
  have hsz : nx = fr + 3 := w_size tT (show 0 < 10 by decide) hwk
  have hnx := tT.2.1
  unfold f_R_takeQuestion f_M_readAsk
  by_cases hq : qc = 12
  · rw [i11, m42, hq, if_neg (show ¬ nI 12 < (12 : Int32) by decide), if_pos (show nI 12 = (12 : Int32) from rfl), R_failH, Option.bind_some, p46, M_wrong0, Option.bind_some, Option.bind_some]
    refine Or.inr ⟨3, fr, us iR [(3, 3), (4, iT 3)], _, us (us iM [(46, 3), (47, iM 4)]) [(2, iM 2), (3, iM 3), (4, iM 4), (5, iM 5), (6, iM 6), (46, nI 3), (47, iM 4)], aM, rfl, TK_bad (F := 3) rfl (by decide) (by decide), by decide, by decide, by omega, rfl, t5, rfl, t6, (fri_us rfl).trans (fri_us rfl), FrA.rfl⟩
  · have hq' : qc < 12 := by omega
    obtain ⟨fr1, nx1, c4', w1, k3, k5, k6, q1, q2, q3, q4⟩ := tok_step (N := N) (o3 := nI fr) (o4 := iT 4) (m3 := iM 3) (m4 := nI fr) (m5 := iM 5) (m6 := iM 6) (ow := wT) hN tR tT.2.1
    have PS1 : PS n tx S Od nx1 fr1 nd no sz na nn nr o φ wt pl (us iT [(2, nI nx1), (3, nI fr1), (4, c4')]) w1 iB lB iC aC (us iM [(2, nI nx1), (3, k3), (4, nI fr1), (5, k5), (6, k6)]) aM := ⟨p46, ⟨t1, t2, rfl, rfl, rfl, rfl, tR, tW, q3⟩, PM, PD⟩
    have RC := rc_eq (iR := iR) (aB := aB) hN PS1
    rw [i11, m42, if_pos (show nI qc < (12 : Int32) from nI_lt hq' (by decide)), if_neg (show ¬ nI qc = (12 : Int32) from fun z => hq ((nI_eq (b := 12) (by omega) (by omega)).mp z)), t1, t3, t5, q1, Option.bind_some, t2, t4, t6, q2, Option.bind_some]
    rcases RC with ⟨c, m, nx', fr', nd', no', sz', na', nn', nr', o', φ', wt', pl', iT', wT', iB', lB', iC', aC', X, Y, E1, E2, AP, AX, A3, A4, A5, ⟨j, hj, hjm⟩, A10, hcs, A12, A14, A15, A16, A17, A18, A19⟩ | ⟨F, p, v, X, Y, iR', z, e1, e2, F1, F2, F3, F4, F5, F6, F7, F8, F9⟩
    · have AP' := AP
      obtain ⟨a46, aT, aM', aD⟩ := AP'
      have aT' := aT
      obtain ⟨u1, u2, u3, u4, u5, u6, uR, uW, uT⟩ := aT'
      have aD' := aD
      obtain ⟨n1, n2, n3, n4, n5, n6, n7, n8, n9, n10, n11, n12, n13, n14, n15, n16⟩ := aD'
      have hfr' : fr' ≤ n := Nat.le_trans uT.1 uT.2.1
      have hns : ns < 246 := by omega
      have x40 : X 40 = nI ns := (A3 40 rfl).trans m40
      have x42 : X 42 = nI qc := (A3 42 rfl).trans m42
      have y15 : Y 15 = aM 15 := A4.1 15 rfl
      have y16 : Y 16 = aM 16 := A4.1 16 rfl
      have y17 : Y 17 = aM 17 := A4.1 17 rfl
      have y19 : Y 19 = aM 19 := A4.1 19 rfl
      have y21 : Y 21 = aM 21 := A4.1 21 rfl
      have y30 : Y 30 = aM 30 := A4.1 30 rfl
      have fI : FrI tcs iM (us X [(40, nI (ns + 1)), (42, nI (qc + 1))]) := (tcs_of (FrI.trans (i' := us iM [(2, nI nx1), (3, k3), (4, nI fr1), (5, k5), (6, k6)]) (fri_us rfl) A3)).trans (fri_us rfl)
      have fA : FrA tas aM (us Y [(15, upd (Y 15) (250 + ns) 2), (16, upd (Y 16) (250 + ns) (nI (200 + m))), (17, upd (Y 17) (250 + ns) (nI qc)), (21, upd (Y 21) (12 + qc) (nI (200 + m)))]) := (tas_of A4).trans (fra_us rfl (low_cons (fun i hi => up_n (by have : lowB 15 = 250 := rfl; omega)) (low_cons (fun i hi => up_n (by have : lowB 16 = 250 := rfl; omega)) (low_cons (fun i hi => up_n (by have : lowB 17 = 250 := rfl; omega)) (low_cons (fun i hi => up_n (by have : lowB 21 = 12 := rfl; omega)) (low_nil))))))
      show StO n tx fr iR iM aM ((f_R_takeConcept N (f_R_takeOne N 14) 0 iR (us iT [(2, nI nx1), (3, nI fr1), (4, c4')]) w1 tx iB lB aB iC aC).bind _) (((f_M_readConcept N (us iM [(2, nI nx1), (3, k3), (4, nI fr1), (5, k5), (6, k6)]) aM).bind _).bind _)
      have gap := con_word hN tR q3 q4 s4 (show c < 200 by omega) E1
      rw [E1, E2, Option.bind_some, Option.bind_some]
      show StO n tx fr iR iM aM (if nI c = -1 then _ else (f_R_takeEnd N (iR 3) (iR 4) (iT' 1) (iT' 2) (iT' 3) (iT' 4) wT' tx).bind _) (((f_M_fine (X 46)).bind _).bind _)
      rw [if_neg (nI_neg1 (by omega)), a46, M_fine0, Option.bind_some, if_neg i1z]
      show StO n tx fr iR iM aM ((f_R_takeEnd N (iR 3) (iR 4) (iT' 1) (iT' 2) (iT' 3) (iT' 4) wT' tx).bind _) ((if (12 + X 42) < 0 ∨ 24 ≤ (12 + X 42).toNatClampNeg then none else ((f_M_say 2 (nI (200 + m)) (X 42) (X 40) (Y 15) (Y 16) (Y 17)).bind fun q55 => (some ((us X [(40, q55.1), (42, (X 42 + 1))]), (us Y [(15, q55.2.1), (16, q55.2.2.1), (17, q55.2.2.2), (21, (upd (Y 21) (12 + X 42).toNatClampNeg (nI (200 + m))))]))))).bind fun q => TK N q.1 q.2)
      have MS : (if (12 + X 42) < 0 ∨ 24 ≤ (12 + X 42).toNatClampNeg then none else ((f_M_say 2 (nI (200 + m)) (X 42) (X 40) (Y 15) (Y 16) (Y 17)).bind fun q55 => (some ((us X [(40, q55.1), (42, (X 42 + 1))]), (us Y [(15, q55.2.1), (16, q55.2.2.1), (17, q55.2.2.2), (21, (upd (Y 21) (12 + X 42).toNatClampNeg (nI (200 + m))))]))))) = some (us X [(40, nI (ns + 1)), (42, nI (qc + 1))], us Y [(15, upd (Y 15) (250 + ns) 2), (16, upd (Y 16) (250 + ns) (nI (200 + m))), (17, upd (Y 17) (250 + ns) (nI qc)), (21, upd (Y 21) (12 + qc) (nI (200 + m)))]) := by
        unfold f_M_say
        rw [x42, x40, show (12 : Int32) = nI 12 from rfl, nI_add, if_neg (nI_g (show 12 + qc < 24 by omega) (by decide)), show (250 : Int32) = nI 250 from rfl, nI_add, if_neg (nI_g (show 250 + ns < 500 by omega) (by decide)), Option.bind_some, nI_cl (show 12 + qc < 2147483648 by omega), nI_cl (show 250 + ns < 2147483648 by omega), nI_m, nI_m]
      rw [MS, Option.bind_some]
      show StO n tx fr iR iM aM _ ((f_M_take N 59 (X 1) (X 2) (X 3) (X 4) (X 5) (X 6) (X 46) (X 47) (Y 0)).bind _)
      rw [a46]
      rcases end_eq (r3 := iR 3) (r4 := iR 4) (i47 := X 47) hN aT with ⟨h59, x3, fr2, nx2, c42, w2, k3', k5', k6', v1, v2, v3, v4⟩ | ⟨F, F1, F2, v1, v2⟩
      · rw [v1, v2, Option.bind_some, Option.bind_some]
        show StO n tx fr iR iM aM (if (1 : Int32) = 0 then _ else (f_B_addQuestion (nI c) (iB' 7) (iB' 11) (aB 6) (aB 10)).bind fun q49 => some (us iR [(3, iR 3), (4, iR 4)], us iT' [(2, nI nx2), (3, nI fr2), (4, c42)], w2, us iB' [(7, q49.1), (11, q49.2.1)], lB', us aB [(6, q49.2.2.1), (10, q49.2.2.2)], iC', aC')) _
        have AQ : f_B_addQuestion (nI c) (iB' 7) (iB' 11) (aB 6) (aB 10) = some (nI (ns + 1), nI (qc + 1), upd (aB 6) ns (nI (2 + 256 * c + 65536 * 0)), upd (aB 10) qc (nI c)) := by
          unfold f_B_addQuestion
          rw [A5 7 (by decide) (by decide) (by decide), A5 11 (by decide) (by decide) (by decide), i7, i11, if_neg (show ¬ (12 : Int32) ≤ nI qc from nI_ge (a := qc) (b := 12) hq' (by decide)), if_neg (nI_g hq' (by decide)), nI_cl (by omega), show (2 : Int32) = nI 2 from rfl, show (0 : Int32) = nI 0 from rfl, adS_eq (by decide) (by omega) (by decide) hns, Option.bind_some, nI_m]
        rw [if_neg i1z, AQ, Option.bind_some, us_rr]
        have hno : no' = nd' := by omega
        have plc : pl' c ≤ plx (aC' 0) pl' 3 c := by unfold plx; omega
        have hjn : j < no' := hj
        refine Or.inl ⟨S, Od, G, nx2, fr2, nd', no', sz', na', nn', nr', ns + 1, rc, qc + 1, o', φ', wt', pl', fun s => if s ≤ ns then tl s else tl ns + (4 + pl' c + 2), _, _, _, _, _, _, _, us (us X [(40, nI (ns + 1)), (42, nI (qc + 1))]) [(2, nI nx2), (3, k3'), (4, nI fr2), (5, k5'), (6, k6'), (46, 0), (47, X 47)], us Y [(15, upd (Y 15) (250 + ns) 2), (16, upd (Y 16) (250 + ns) (nI (200 + m))), (17, upd (Y 17) (250 + ns) (nI qc)), (21, upd (Y 21) (12 + qc) (nI (200 + m)))], rfl, rfl, by omega, ⟨⟨rfl, ⟨u1, u2, rfl, rfl, rfl, rfl, uR, uW, v3⟩, aM', aD⟩, ⟨hno, g2, g3, g4, g5⟩, ⟨(A5 13 (by decide) (by decide) (by decide)).trans i13, (A5 14 (by decide) (by decide) (by decide)).trans i14, rfl, rfl, (A5 9 (by decide) (by decide) (by decide)).trans i9, (A3 41 rfl).trans m41, rfl, rfl, r12, by omega⟩, HC, ?_, ?_, ?_, ?_, ⟨?_, ?_, by omega, ?_⟩⟩, fI.trans (fri_us rfl), fA⟩
        · show UnM 9 G (Y 30)
          rw [y30]; exact HM
        · refine RuS_mono HR AX.2.1 (Nat.le_succ ns) AX.2.2.2.1 (fun k hk => ⟨rfl, ?_⟩) (fun s hs => ⟨(up_n (by omega)).trans (by rw [y15]), (up_n (by omega)).trans (by rw [y16]), (up_n (by omega)).trans (by rw [y17])⟩)
          show Y 19 (12 + k) = _
          rw [y19]
        · intro k hk
          by_cases e : k = qc
          · refine ⟨j, hj, ?_, ?_⟩
            · rw [e, hjm, A10]; exact up_s
            · rw [e, hjm]; exact up_s
          · have HQ' := QuS_mono (cq' := upd (aB 10) qc (nI c)) (mq' := upd (Y 21) (12 + qc) (nI (200 + m))) HQ AX.2.1 AX.2.2.2.1 (fun k hk => ⟨up_n (by omega), (up_n (by omega)).trans (by rw [y21])⟩)
            exact HQ' k (by omega)
        · intro s hs
          by_cases e : s = ns
          · subst e
            refine Or.inr (Or.inl ⟨j, hj, ?_, up_s, ?_, ?_, ?_⟩)
            · rw [hjm, A10]; exact up_s
            · rw [hjm]; exact up_s
            · have := n15 c hcs
              rw [hjm, A10]; omega
            · rw [hjm, A10]
              show (if s + 1 ≤ s then _ else _) = (if s ≤ s then _ else _) + _
              rw [if_neg (by omega), if_pos (Nat.le_refl _)]
          · have HS' := StS_mono (sz := sz) (rl' := rlM (us Y [(15, upd (Y 15) (250 + ns) 2), (16, upd (Y 16) (250 + ns) (nI (200 + m))), (17, upd (Y 17) (250 + ns) (nI qc)), (21, upd (Y 21) (12 + qc) (nI (200 + m)))])) (tl' := fun s => if s ≤ ns then tl s else tl ns + (4 + pl' c + 2)) (cs' := upd (aB 6) ns (nI (2 + 256 * c + 65536 * 0))) (t15 := upd (Y 15) (250 + ns) 2) (t16 := upd (Y 16) (250 + ns) (nI (200 + m))) (t17 := upd (Y 17) (250 + ns) (nI qc)) HS AX.2.1 A18 (fun i hi => (PD.2.2.2.2.2.2.2.2.2.2.2.1 i hi).2.2.1) AX.2.2.2.1 (fun a ha => ⟨(AX.2.2.2.2.1 a ha).2.1, (AX.2.2.2.2.1 a ha).2.2⟩) A19 (fun s hs => ⟨up_n (by omega), (up_n (by omega)).trans (by rw [y15]), (up_n (by omega)).trans (by rw [y16]), (up_n (by omega)).trans (by rw [y17])⟩) (fun s hs => if_pos hs)
            exact HS' s (by omega)
        · show (if 0 ≤ ns then tl 0 else _) = 0
          rw [if_pos (Nat.zero_le _)]; exact tl0
        · intro s hs
          show (if s ≤ ns then tl s else _) ≤ (if s + 1 ≤ ns then tl (s + 1) else _)
          rw [if_pos (show s ≤ ns by omega)]
          by_cases e : s + 1 ≤ ns
          · rw [if_pos e]; exact tlm s (by omega)
          · rw [if_neg e, show s = ns by omega]; omega
        · show (if ns + 1 ≤ ns then _ else tl ns + (4 + pl' c + 2)) ≤ _
          rw [if_neg (by omega)]
          obtain ⟨pe, br, p1, p2, p3, p4⟩ := A16
          omega
      · rw [v1, v2, Option.bind_some, Option.bind_some]
        exact Or.inr ⟨F, fr', us iR [(3, nI F), (4, nI fr')], _, us (us X [(40, nI (ns + 1)), (42, nI (qc + 1))]) [(2, X 2), (3, X 3), (4, X 4), (5, X 5), (6, X 6), (46, nI F), (47, nI fr')], us Y [(15, upd (Y 15) (250 + ns) 2), (16, upd (Y 16) (250 + ns) (nI (200 + m))), (17, upd (Y 17) (250 + ns) (nI qc)), (21, upd (Y 21) (12 + qc) (nI (200 + m)))], rfl, rfl, F1, F2, by omega, rfl, rfl, rfl, rfl, fI.trans (fri_us rfl), fA⟩
    · show StO n tx fr iR iM aM ((f_R_takeConcept N (f_R_takeOne N 14) 0 iR (us iT [(2, nI nx1), (3, nI fr1), (4, c4')]) w1 tx iB lB aB iC aC).bind _) (((f_M_readConcept N (us iM [(2, nI nx1), (3, k3), (4, nI fr1), (5, k5), (6, k6)]) aM).bind _).bind _)
      rw [e1, e2, Option.bind_some, Option.bind_some]
      show StO n tx fr iR iM aM _ (((f_M_fine (X 46)).bind _).bind _)
      rw [F6, fine_bad F1 F2, Option.bind_some, if_pos rfl, if_pos (show (0 : Int32) = 0 from rfl), Option.bind_some]
      exact Or.inr ⟨F, p, iR', _, us X [(2, X 2), (3, X 3), (4, X 4), (5, X 5), (6, X 6), (46, nI F), (47, X 47)], Y, rfl, TK_bad F6 F1 F2, F1, F2, F3, F4, F5, rfl, F7, (tcs_of (FrI.trans (i' := us iM [(2, nI nx1), (3, k3), (4, nI fr1), (5, k5), (6, k6)]) (fri_us rfl) F8)).trans (fri_us rfl), tas_of F9⟩
