/-! a rule, of both -/
theorem rule_disp {N n nx fr : Nat} {tx iT iM : Nat → Int32} {aM : Nat → Nat → Int32} {wT : Int64} (hN : 100000 ≤ N) (H : TkS n tx nx fr iT wT iM aM) : (f_T_beginsConcept (iT 4) wT = some 0 ∧ f_M_readRule N iM aM = f_M_readRule_31 N iM aM) ∨ (f_T_beginsConcept (iT 4) wT = some 1 ∧ f_M_readRule N iM aM = f_M_readRule_38 N iM aM) := by
  obtain ⟨t1, t2, t3, t4, t5, t6, tR, tW, tT⟩ := H
  obtain ⟨q, q1, q2⟩ := beg_eq hN tR tT
  unfold f_M_readRule
  rw [t6, tW, q1, Option.bind_some]
  rcases q2 with ⟨-, -, b3, b4, -, b6, -⟩ | ⟨-, b2, q2⟩
  · refine Or.inr ⟨b6, ?_⟩
    have e : f_M_isSignHere 40 (iM 3) (iM 6) = some 1 := by
      unfold f_M_isSignHere
      rw [if_pos b3, b4]
      rfl
    rw [e, Option.bind_some, if_neg i1z]
  · rw [b2, Option.bind_some, if_pos rfl]
    rcases q2 with ⟨-, m, e, b, -⟩ | ⟨i, i5, i10, -, m, e, -, b, -⟩ | ⟨-, b, e⟩
    · refine Or.inr ⟨b, ?_⟩
      rw [if_pos m, e, if_pos (show (-1 : Int32) < 0 by decide)]
    · refine Or.inr ⟨b, ?_⟩
      rw [if_pos m, e, if_neg (nI_pos (by omega)), if_pos (show (5 : Int32) ≤ nI i from nI_le (a := 5) (by omega) (by omega))]
    · refine Or.inl ⟨b, ?_⟩
      by_cases m : iM 3 = 1
      · rcases e with e | ⟨i, i5, e⟩
        · exact absurd m e
        · rw [if_pos m, e, if_neg (nI_pos (by omega)), if_neg (show ¬ (5 : Int32) ≤ nI i from nI_ge (a := i) (b := 5) i5 (by decide))]
      · rw [if_neg m]
/-- a rule's first concept stands, its sign is at hand: the rest of it -/
theorem rule_tl {N n : Nat} {tx : Nat → Int32} {S Od G nx fr nd no sz na nn nr ns rc qc : Nat} {o φ wt pl tl : Nat → Nat} {iR iT : Nat → Int32} {wT : Int64} {iB : Nat → Int32} {lB : Nat → Nat → Int64} {aB : Nat → Nat → Int32} {iC : Nat → Int32} {aC : Nat → Nat → Int32} {iM : Nat → Int32} {aM : Nat → Nat → Int32} {so c m nx' fr' nd' no' sz' na' nn' nr' : Nat} {o' φ' wt' pl' : Nat → Nat} {iT' : Nat → Int32} {wT' : Int64} {iB' : Nat → Int32} {lB' : Nat → Nat → Int64} {iC' : Nat → Int32} {aC' : Nat → Nat → Int32} {X : Nat → Int32} {Y : Nat → Nat → Int32} {jT jB jC jM : Nat → Int32} {jw : Int64} {jl : Nat → Nat → Int64} {jc ja : Nat → Nat → Int32} (hN : 100000 ≤ N) (B : BkS n tx S Od G nx fr nd no sz na nn nr ns rc qc o φ wt pl tl iT wT iB lB aB iC aC iM aM) (hrc : rc < 12) (hso : so < 2) (AP : PS n tx S Od nx' fr' nd' no' sz' na' nn' nr' o' φ' wt' pl' iT' wT' iB' lB' iC' aC' X Y) (AX : ExS nd no sz o φ wt pl aC aM nd' no' sz' o' φ' wt' pl' aC' Y) (A3 : FrI tc iM X) (A4 : FrA ta aM Y) (A5 : ∀ j, j ≠ 1 → j ≠ 3 → j ≠ 5 → iB' j = iB j) (AJ : ∃ j, j < no' ∧ o' j = m) (A10 : φ' m = c) (hcs : c < sz') (A12 : no' + nd = no + nd') (A14 : nd + wt' c ≤ nd') (A15 : fr < fr') (A16 : TxC fr wT fr' (X 3) (plx (aC' 0) pl' 3 c) (wt' c)) (A17 : nn ≤ nn') (A18 : nr ≤ nr') (A19 : ∀ r, r < nr → rlM Y r = rlM aM r) (hsg : nx' = fr' + 1) : StO n tx fr iR iM aM (f_R_takeRule_100 N iR jT jw tx jB jl aB jC ja (nI c) (nI so) iR iT' wT' iB' lB' iC' aC') ((f_M_readRule_120 N jM jc (nI (200 + m)) (nI so) X Y).bind fun q => TK N q.1 q.2) := by
  obtain ⟨P, ⟨g1, g2, g3, g4, g5⟩, ⟨i13, i14, i7, m40, i9, m41, i11, m42, r12, q12⟩, HC, HM, HR, HQ, HS, ⟨tl0, tlm, cn1, cn2⟩⟩ := B
  obtain ⟨p46, pT, PM, PD⟩ := P
  obtain ⟨j, hj, hjm⟩ := AJ
  have AP' := AP
  obtain ⟨a46, aT, aM', aD⟩ := AP'
  obtain ⟨u1, u2, u3, u4, u5, u6, uR, uW, uT⟩ := aT
  have aD' := aD
  obtain ⟨n1, n2, n3, n4, n5, n6, n7, n8, n9, n10, n11, n12, n13, n14, n15, n16⟩ := aD'
  have hn := uR.1
  obtain ⟨fr1, nx1, c4', w1, k3, k5, k6, q1, q2, q3, q4⟩ := tok_step (N := N) (o3 := nI fr') (o4 := iT' 4) (m3 := X 3) (m4 := nI fr') (m5 := X 5) (m6 := X 6) (ow := wT') hN uR uT.2.1
  have PS1 : PS n tx S Od nx1 fr1 nd' no' sz' na' nn' nr' o' φ' wt' pl' (us iT' [(2, nI nx1), (3, nI fr1), (4, c4')]) w1 iB' lB' iC' aC' (us X [(2, nI nx1), (3, k3), (4, nI fr1), (5, k5), (6, k6)]) Y := ⟨a46, ⟨u1, u2, rfl, rfl, rfl, rfl, uR, uW, q3⟩, aM', aD⟩
  have RC := rc_eq (iR := iR) (aB := aB) hN PS1
  unfold f_R_takeRule_100 f_M_readRule_120
  rw [u1, u3, u5, q1, Option.bind_some, u2, u4, u6, q2, Option.bind_some]
  show StO n tx fr iR iM aM ((f_R_takeConcept N (f_R_takeOne N 14) 0 iR (us iT' [(2, nI nx1), (3, nI fr1), (4, c4')]) w1 tx iB' lB' aB iC' aC').bind _) (((f_M_readConcept N (us X [(2, nI nx1), (3, k3), (4, nI fr1), (5, k5), (6, k6)]) Y).bind _).bind _)
  rcases RC with ⟨c2, m2, nx2, fr2, nd'', no'', sz'', na'', nn'', nr'', o'', φ'', wt'', pl'', iT2, wT2, iB2, lB2, iC2, aC2, U, V, E1, E2, CP, CX, C3, C4, C5, ⟨j2, hj2, hjm2⟩, C10, hcs2, C12, C14, C15, C16, C17, C18, C19⟩ | ⟨F, p, v, U, V, iR', z, e1, e2, F1, F2, F3, F4, F5, F6, F7, F8, F9⟩
  · have CP' := CP
    obtain ⟨c46, cT, cM', cD⟩ := CP'
    have cT' := cT
    obtain ⟨v1, v2, v3, v4, v5, v6, vR, vW, vT⟩ := cT'
    have cD' := cD
    obtain ⟨y1, y2, y3, y4, y5, y6, y7, y8, y9, y10, y11, y12, y13, y14, y15, y16⟩ := cD'
    have hfr2 : fr2 ≤ n := Nat.le_trans vT.1 vT.2.1
    have hns : ns < 246 := by omega
    have DI : FrI tc iM U := A3.trans (FrI.trans (i' := us X [(2, nI nx1), (3, k3), (4, nI fr1), (5, k5), (6, k6)]) (fri_us rfl) C3)
    have DA : FrA ta aM V := A4.trans C4
    have DX := AX.trans CX
    have x40 : U 40 = nI ns := (DI 40 rfl).trans m40
    have x41 : U 41 = nI rc := (DI 41 rfl).trans m41
    have z15 : V 15 = aM 15 := DA.1 15 rfl
    have z16 : V 16 = aM 16 := DA.1 16 rfl
    have z17 : V 17 = aM 17 := DA.1 17 rfl
    have z19 : V 19 = aM 19 := DA.1 19 rfl
    have z21 : V 21 = aM 21 := DA.1 21 rfl
    have z30 : V 30 = aM 30 := DA.1 30 rfl
    have fI : FrI tcs iM (us U [(40, nI (ns + 1)), (41, nI (rc + 1))]) := (tcs_of DI).trans (fri_us rfl)
    have fA : FrA tas aM (us V [(15, upd (V 15) (250 + ns) (nI so)), (16, upd (V 16) (250 + ns) (nI (200 + m))), (17, upd (V 17) (250 + ns) (nI (200 + m2))), (19, upd (V 19) (12 + rc) (nI ns))]) := (tas_of DA).trans (fra_us rfl (low_cons (fun i hi => up_n (by have : lowB 15 = 250 := rfl; omega)) (low_cons (fun i hi => up_n (by have : lowB 16 = 250 := rfl; omega)) (low_cons (fun i hi => up_n (by have : lowB 17 = 250 := rfl; omega)) (low_cons (fun i hi => up_n (by have : lowB 19 = 12 := rfl; omega)) (low_nil))))))
    have b2 : ∀ j, j ≠ 1 → j ≠ 3 → j ≠ 5 → iB2 j = iB j := fun j h1 h3 h5 => (C5 j h1 h3 h5).trans (A5 j h1 h3 h5)
    rw [E1, E2, Option.bind_some, Option.bind_some]
    show StO n tx fr iR iM aM (if nI c2 = -1 then _ else (f_R_takeEnd N (iR 3) (iR 4) (iT2 1) (iT2 2) (iT2 3) (iT2 4) wT2 tx).bind _) (((f_M_fine (U 46)).bind _).bind _)
    rw [if_neg (nI_neg1 (by omega)), c46, M_fine0, Option.bind_some, if_neg i1z]
    show StO n tx fr iR iM aM ((f_R_takeEnd N (iR 3) (iR 4) (iT2 1) (iT2 2) (iT2 3) (iT2 4) wT2 tx).bind _) ((if (12 + U 41) < 0 ∨ 24 ≤ (12 + U 41).toNatClampNeg then none else ((f_M_say (nI so) (nI (200 + m)) (nI (200 + m2)) (U 40) (V 15) (V 16) (V 17)).bind fun q159 => (some ((us U [(40, q159.1), (41, (U 41 + 1))]), (us V [(15, q159.2.1), (16, q159.2.2.1), (17, q159.2.2.2), (19, (upd (V 19) (12 + U 41).toNatClampNeg (U 40)))])))) : Option ((Nat → Int32) × (Nat → Nat → Int32))).bind fun q => TK N q.1 q.2)
    have MS : (if (12 + U 41) < 0 ∨ 24 ≤ (12 + U 41).toNatClampNeg then none else ((f_M_say (nI so) (nI (200 + m)) (nI (200 + m2)) (U 40) (V 15) (V 16) (V 17)).bind fun q159 => (some ((us U [(40, q159.1), (41, (U 41 + 1))]), (us V [(15, q159.2.1), (16, q159.2.2.1), (17, q159.2.2.2), (19, (upd (V 19) (12 + U 41).toNatClampNeg (U 40)))])))) : Option ((Nat → Int32) × (Nat → Nat → Int32))) = some (us U [(40, nI (ns + 1)), (41, nI (rc + 1))], us V [(15, upd (V 15) (250 + ns) (nI so)), (16, upd (V 16) (250 + ns) (nI (200 + m))), (17, upd (V 17) (250 + ns) (nI (200 + m2))), (19, upd (V 19) (12 + rc) (nI ns))]) := by
      unfold f_M_say
      rw [x41, x40, show (12 : Int32) = nI 12 from rfl, nI_add, if_neg (nI_g (show 12 + rc < 24 by omega) (by decide)), show (250 : Int32) = nI 250 from rfl, nI_add, if_neg (nI_g (show 250 + ns < 500 by omega) (by decide)), Option.bind_some, nI_cl (show 12 + rc < 2147483648 by omega), nI_cl (show 250 + ns < 2147483648 by omega), nI_m, nI_m]
    rw [MS, Option.bind_some]
    show StO n tx fr iR iM aM _ ((f_M_take N 59 (U 1) (U 2) (U 3) (U 4) (U 5) (U 6) (U 46) (U 47) (V 0)).bind _)
    rw [c46]
    rcases end_eq (r3 := iR 3) (r4 := iR 4) (i47 := U 47) hN cT with ⟨h59, x3, fr3, nx3, c42, w2, k3', k5', k6', w3, w4, w5, w6⟩ | ⟨F, F1, F2, w3, w4⟩
    · rw [w3, w4, Option.bind_some, Option.bind_some]
      show StO n tx fr iR iM aM (if (1 : Int32) = 0 then _ else (f_B_addRule (nI so) (nI c) (nI c2) (iB2 7) (iB2 9) (aB 6) (aB 8)).bind fun q133 => some (us iR [(3, iR 3), (4, iR 4)], us iT2 [(2, nI nx3), (3, nI fr3), (4, c42)], w2, us iB2 [(7, q133.1), (9, q133.2.1)], lB2, us aB [(6, q133.2.2.1), (8, q133.2.2.2)], iC2, aC2)) _
      have AQ : f_B_addRule (nI so) (nI c) (nI c2) (iB2 7) (iB2 9) (aB 6) (aB 8) = some (nI (ns + 1), nI (rc + 1), upd (aB 6) ns (nI (so + 256 * c + 65536 * c2)), upd (aB 8) rc (nI (so + 256 * c + 65536 * c2))) := by
        unfold f_B_addRule
        rw [b2 7 (by decide) (by decide) (by decide), b2 9 (by decide) (by decide) (by decide), i7, i9, if_neg (show ¬ (12 : Int32) ≤ nI rc from nI_ge (a := rc) (b := 12) hrc (by decide)), adS_eq (by omega) (by omega) (by omega) hns, Option.bind_some, if_neg (nI_g hrc (by decide)), nI_cl (show rc < 2147483648 by omega), nI_m]
      rw [if_neg i1z, AQ, Option.bind_some, us_rr]
      have hj'' : j < no'' := Nat.lt_of_lt_of_le hj CX.2.1
      obtain ⟨oj, pj⟩ := CX.2.2.2.1 j hj
      have ej : o'' j = m := oj.trans hjm
      have fj : φ'' m = c := by rw [← hjm, pj, hjm]; exact A10
      obtain ⟨-, wc, pc⟩ := CX.2.2.2.2.1 c hcs
      have plc : pl'' c ≤ plx (aC' 0) pl' 3 c := by unfold plx; omega
      have plc2 : pl'' c2 ≤ plx (aC2 0) pl'' 3 c2 := by unfold plx; omega
      refine Or.inl ⟨S, Od, G, nx3, fr3, nd'', no'', sz'', na'', nn'', nr'', ns + 1, rc + 1, qc, o'', φ'', wt'', pl'', fun s => if s ≤ ns then tl s else tl ns + (pl'' c + 3 + pl'' c2 + 2), _, _, _, _, _, _, _, us (us U [(40, nI (ns + 1)), (41, nI (rc + 1))]) [(2, nI nx3), (3, k3'), (4, nI fr3), (5, k5'), (6, k6'), (46, 0), (47, U 47)], us V [(15, upd (V 15) (250 + ns) (nI so)), (16, upd (V 16) (250 + ns) (nI (200 + m))), (17, upd (V 17) (250 + ns) (nI (200 + m2))), (19, upd (V 19) (12 + rc) (nI ns))], rfl, rfl, by omega, ⟨⟨rfl, ⟨v1, v2, rfl, rfl, rfl, rfl, vR, vW, w5⟩, cM', cD⟩, ⟨by omega, g2, g3, g4, g5⟩, ⟨(b2 13 (by decide) (by decide) (by decide)).trans i13, (b2 14 (by decide) (by decide) (by decide)).trans i14, rfl, rfl, rfl, rfl, (b2 11 (by decide) (by decide) (by decide)).trans i11, (DI 42 rfl).trans m42, hrc, q12⟩, HC, ?_, ?_, ?_, ?_, ⟨?_, ?_, by omega, ?_⟩⟩, fI.trans (fri_us rfl), fA⟩
      · show UnM 9 G (V 30)
        rw [z30]; exact HM
      · intro k hk
        by_cases e : k = rc
        · subst e
          refine ⟨so, ns, j, j2, hso, Nat.lt_succ_self _, hj'', hj2, ?_, up_s, up_s, ?_, ?_⟩
          · rw [ej, fj, hjm2, C10]; exact up_s
          · rw [ej]; exact up_s
          · rw [hjm2]; exact up_s
        · have HR' := RuS_mono (cr' := upd (aB 8) rc (nI (so + 256 * c + 65536 * c2))) (mr' := upd (V 19) (12 + rc) (nI ns)) (t15 := upd (V 15) (250 + ns) (nI so)) (t16 := upd (V 16) (250 + ns) (nI (200 + m))) (t17 := upd (V 17) (250 + ns) (nI (200 + m2))) HR DX.2.1 (Nat.le_succ ns) DX.2.2.2.1 (fun k hk => ⟨up_n (by omega), (up_n (by omega)).trans (by rw [z19])⟩) (fun s hs => ⟨(up_n (by omega)).trans (by rw [z15]), (up_n (by omega)).trans (by rw [z16]), (up_n (by omega)).trans (by rw [z17])⟩)
          exact HR' k (by omega)
      · refine QuS_mono HQ DX.2.1 DX.2.2.2.1 (fun k hk => ⟨rfl, ?_⟩)
        show V 21 (12 + k) = _
        rw [z21]
      · intro s hs
        by_cases e : s = ns
        · subst e
          refine Or.inl ⟨so, j, j2, hso, hj'', hj2, ?_, up_s, ?_, ?_, ?_, ?_, ?_⟩
          · rw [ej, fj, hjm2, C10]; exact up_s
          · rw [ej]; exact up_s
          · rw [hjm2]; exact up_s
          · have := y15 c (Nat.lt_of_lt_of_le hcs CX.2.2.1)
            rw [ej, fj]; omega
          · have := y15 c2 hcs2
            rw [hjm2, C10]; omega
          · rw [ej, fj, hjm2, C10]
            show (if s + 1 ≤ s then _ else _) = (if s ≤ s then _ else _) + _
            rw [if_neg (by omega), if_pos (Nat.le_refl _)]
        · have HS' := StS_mono (sz := sz) (rl' := rlM (us V [(15, upd (V 15) (250 + ns) (nI so)), (16, upd (V 16) (250 + ns) (nI (200 + m))), (17, upd (V 17) (250 + ns) (nI (200 + m2))), (19, upd (V 19) (12 + rc) (nI ns))])) (tl' := fun s => if s ≤ ns then tl s else tl ns + (pl'' c + 3 + pl'' c2 + 2)) (cs' := upd (aB 6) ns (nI (so + 256 * c + 65536 * c2))) (t15 := upd (V 15) (250 + ns) (nI so)) (t16 := upd (V 16) (250 + ns) (nI (200 + m))) (t17 := upd (V 17) (250 + ns) (nI (200 + m2))) HS DX.2.1 (Nat.le_trans A18 C18) (fun i hi => (PD.2.2.2.2.2.2.2.2.2.2.2.1 i hi).2.2.1) DX.2.2.2.1 (fun a ha => ⟨(DX.2.2.2.2.1 a ha).2.1, (DX.2.2.2.2.1 a ha).2.2⟩) (fun r hr => (C19 r (Nat.lt_of_lt_of_le hr A18)).trans (A19 r hr)) (fun s hs => ⟨up_n (by omega), (up_n (by omega)).trans (by rw [z15]), (up_n (by omega)).trans (by rw [z16]), (up_n (by omega)).trans (by rw [z17])⟩) (fun s hs => if_pos hs)
          exact HS' s (by omega)
      · show (if 0 ≤ ns then tl 0 else _) = 0
        rw [if_pos (Nat.zero_le _)]; exact tl0
      · intro s hs
        show (if s ≤ ns then tl s else _) ≤ (if s + 1 ≤ ns then tl (s + 1) else _)
        rw [if_pos (show s ≤ ns by omega)]
        by_cases e : s + 1 ≤ ns
        · rw [if_pos e]; exact tlm s (by omega)
        · rw [if_neg e, show s = ns by omega]; omega
      · show (if ns + 1 ≤ ns then _ else tl ns + (pl'' c + 3 + pl'' c2 + 2)) ≤ _
        rw [if_neg (by omega)]
        obtain ⟨pe, br, p1, p2, p3, p4⟩ := A16
        obtain ⟨pe2, br2, p1', p2', p3', p4'⟩ := C16
        omega
    · rw [w3, w4, Option.bind_some, Option.bind_some]
      exact Or.inr ⟨F, fr2, us iR [(3, nI F), (4, nI fr2)], _, us (us U [(40, nI (ns + 1)), (41, nI (rc + 1))]) [(2, U 2), (3, U 3), (4, U 4), (5, U 5), (6, U 6), (46, nI F), (47, nI fr2)], us V [(15, upd (V 15) (250 + ns) (nI so)), (16, upd (V 16) (250 + ns) (nI (200 + m))), (17, upd (V 17) (250 + ns) (nI (200 + m2))), (19, upd (V 19) (12 + rc) (nI ns))], rfl, rfl, F1, F2, by omega, rfl, rfl, rfl, rfl, fI.trans (fri_us rfl), fA⟩
  · rw [e1, e2, Option.bind_some, Option.bind_some]
    show StO n tx fr iR iM aM _ (((f_M_fine (U 46)).bind _).bind _)
    rw [F6, fine_bad F1 F2, Option.bind_some, if_pos rfl, if_pos (show (0 : Int32) = 0 from rfl), Option.bind_some]
    exact Or.inr ⟨F, p, iR', _, us U [(2, U 2), (3, U 3), (4, U 4), (5, U 5), (6, U 6), (46, nI F), (47, U 47)], V, rfl, TK_bad F6 F1 F2, F1, F2, F3, F4, F5, rfl, F7, (tcs_of (A3.trans (FrI.trans (i' := us X [(2, nI nx1), (3, k3), (4, nI fr1), (5, k5), (6, k6)]) (fri_us rfl) F8))).trans (fri_us rfl), tas_of (A4.trans F9)⟩
theorem rule_st {N n : Nat} {tx : Nat → Int32} {S Od G nx fr nd no sz na nn nr ns rc qc : Nat} {o φ wt pl tl : Nat → Nat} {iR iT : Nat → Int32} {wT : Int64} {iB : Nat → Int32} {lB : Nat → Nat → Int64} {aB : Nat → Nat → Int32} {iC : Nat → Int32} {aC : Nat → Nat → Int32} {iM : Nat → Int32} {aM : Nat → Nat → Int32} (hN : 100000 ≤ N) (B : BkS n tx S Od G nx fr nd no sz na nn nr ns rc qc o φ wt pl tl iT wT iB lB aB iC aC iM aM) : StO n tx fr iR iM aM (f_R_takeRule N iR iT wT tx iB lB aB iC aC) ((f_M_readRule N iM aM).bind fun q => TK N q.1 q.2) := by
  have B' := B
  obtain ⟨P, -, ⟨i13, i14, i7, m40, i9, m41, i11, m42, r12, q12⟩, -⟩ := B'
  have P' := P
  obtain ⟨p46, pT, PM, PD⟩ := P'
  have pT' := pT
  obtain ⟨t1, t2, t3, t4, t5, t6, tR, tW, tT⟩ := pT'
  have hn := tR.1
  have hfr : fr ≤ n := Nat.le_trans tT.1 tT.2.1
  unfold f_R_takeRule
  rcases rule_disp hN pT with ⟨d1, d2⟩ | ⟨d1, d2⟩
  · obtain ⟨F, F1, F2, F3, F4⟩ := tT.misp
    rw [d1, d2, Option.bind_some, if_pos rfl, R_misp, Option.bind_some, F3]
    unfold f_M_readRule_31 f_M_readRule_56
    rw [p46, M_misp, Option.bind_some, F4]
    show StO n tx fr iR iM aM _ (((f_M_fine (nI F)).bind _).bind _)
    rw [fine_bad F1 F2, Option.bind_some, if_pos rfl, Option.bind_some]
    exact Or.inr ⟨F, fr, us iR [(3, nI F), (4, iT 3)], _, us (us iM [(46, nI F), (47, iM 4)]) [(2, iM 2), (3, iM 3), (4, iM 4), (5, iM 5), (6, iM 6), (46, nI F), (47, iM 4)], aM, rfl, TK_bad (F := F) rfl F1 F2, F1, F2, by omega, rfl, t5, rfl, t6, (fri_us rfl).trans (fri_us rfl), FrA.rfl⟩
  · rw [d1, d2, Option.bind_some, if_neg i1z]
    unfold f_M_readRule_38
    by_cases hq : rc = 12
    · rw [i9, m41, hq, if_neg (show ¬ nI 12 < (12 : Int32) by decide), if_pos (show nI 12 = (12 : Int32) from rfl), R_failH, Option.bind_some, p46, M_wrong0, Option.bind_some]
      unfold f_M_readRule_56
      show StO n tx fr iR iM aM _ (((f_M_fine (nI 3)).bind _).bind _)
      rw [fine_bad (F := 3) (by decide) (by decide), Option.bind_some, if_pos rfl, Option.bind_some]
      exact Or.inr ⟨3, fr, us iR [(3, 3), (4, iT 3)], _, us (us iM [(46, 3), (47, iM 4)]) [(2, iM 2), (3, iM 3), (4, iM 4), (5, iM 5), (6, iM 6), (46, nI 3), (47, iM 4)], aM, rfl, TK_bad (F := 3) rfl (by decide) (by decide), by decide, by decide, by omega, rfl, t5, rfl, t6, (fri_us rfl).trans (fri_us rfl), FrA.rfl⟩
    · have hq' : rc < 12 := by omega
      rw [i9, m41, if_pos (show nI rc < (12 : Int32) from nI_lt hq' (by decide)), if_neg (show ¬ nI rc = (12 : Int32) from fun z => hq ((nI_eq (b := 12) (by omega) (by omega)).mp z))]
      unfold f_M_readRule_56
      rw [p46, M_fine0, Option.bind_some, if_neg i1z]
      rcases rc_eq (iR := iR) (aB := aB) hN P with ⟨c, m, nx', fr', nd', no', sz', na', nn', nr', o', φ', wt', pl', iT', wT', iB', lB', iC', aC', X, Y, E1, E2, AP, AX, A3, A4, A5, AJ, A10, hcs, A12, A14, A15, A16, A17, A18, A19⟩ | ⟨F, p, v, X, Y, iR', z, e1, e2, F1, F2, F3, F4, F5, F6, F7, F8, F9⟩
      · have AP' := AP
        obtain ⟨a46, aT, aM', aD⟩ := AP'
        obtain ⟨u1, u2, u3, u4, u5, u6, uR, uW, uT⟩ := aT
        have hcl : c < 200 := by have := aD.2.2.1; have := aD.1; omega
        have hfr' : fr' ≤ n := Nat.le_trans uT.1 uT.2.1
        have S60 := w_sign uT (s := 60) (by omega)
        have S61 := w_sign uT (s := 61) (by omega)
        have sg : ∀ s : Nat, s < 100 → (wT' = lN s ↔ X 3 = 2 ∧ X 6 = nI s) → f_M_isSignHere (nI s) (X 3) (X 6) = some (if wT' = lN s then 1 else 0) := fun s hs h => by
          unfold f_M_isSignHere
          by_cases e : wT' = lN s
          · rw [if_pos (h.mp e).1, if_pos (h.mp e).2, if_pos e]
          · rw [if_neg e]
            by_cases e2 : X 3 = 2
            · rw [if_pos e2, if_neg (fun z => e (h.mpr ⟨e2, z⟩))]
            · rw [if_neg e2]
        have sg60 : f_M_isSignHere 60 (X 3) (X 6) = some (if wT' = lN 60 then 1 else 0) := sg 60 (by omega) S60.1
        have sg61 : f_M_isSignHere 61 (X 3) (X 6) = some (if wT' = lN 61 then 1 else 0) := sg 61 (by omega) S61.1
        have n6 : wT' = lN 60 → ¬ wT' = lN 61 := fun e e' => by
          have := (S60.1.mp e).2.symm.trans (S61.1.mp e').2
          exact absurd ((nI_eq (by omega) (by omega)).mp this) (by decide)
        have R98 : ∀ so : Nat, so < 2 → wT' = lN (60 + so) → f_M_readRule_98 N iM aM (nI (200 + m)) X Y = f_M_readRule_120 N iM aM (nI (200 + m)) (nI so) X Y := fun so hs e => by
          unfold f_M_readRule_98
          rw [a46, M_fine0, Option.bind_some, if_neg i1z]
          rcases (show so = 0 ∨ so = 1 by omega) with h | h
          · subst h
            rw [if_pos (show X 6 = (60 : Int32) from (S60.1.mp e).2)]
            rfl
          · subst h
            rw [if_neg (show ¬ X 6 = (60 : Int32) from fun z => n6 (S60.1.mpr ⟨(S61.1.mp e).1, z⟩) e)]
            rfl
        rw [E1, E2, Option.bind_some, Option.bind_some]
        show StO n tx fr iR iM aM (if nI c = -1 then _ else if wT' = 60 then f_R_takeRule_81 N iR iT wT tx iB lB aB iC aC (nI c) iR iT' wT' iB' lB' iC' aC' else if wT' = 61 then f_R_takeRule_81 N iR iT wT tx iB lB aB iC aC (nI c) iR iT' wT' iB' lB' iC' aC' else (f_R_misplaced (iR 3) (iR 4) (iT' 3) (iT' 4)).bind _) (((f_M_fine (X 46)).bind fun q70 => if q70 = 0 then f_M_readRule_98 N iM aM (nI (200 + m)) X Y else (f_M_isSignHere 60 (X 3) (X 6)).bind fun q79 => if q79 = 0 then (f_M_isSignHere 61 (X 3) (X 6)).bind fun q88 => if q88 = 0 then (f_M_misplaced (X 3) (X 4) (X 46) (X 47)).bind fun q95 => f_M_readRule_98 N iM aM (nI (200 + m)) (us X [(46, q95.1), (47, q95.2)]) Y else f_M_readRule_98 N iM aM (nI (200 + m)) X Y else f_M_readRule_98 N iM aM (nI (200 + m)) X Y).bind fun q => TK N q.1 q.2)
        rw [if_neg (nI_neg1 (by omega)), a46, M_fine0, Option.bind_some, if_neg i1z, sg60, Option.bind_some]
        by_cases e60 : wT' = lN 60
        · rw [if_pos (show wT' = (60 : Int64) from e60), if_pos e60, if_neg i1z, R98 0 (by decide) e60]
          unfold f_R_takeRule_81
          rw [if_pos (show wT' = (60 : Int64) from e60)]
          exact rule_tl (so := 0) hN B hq' (by decide) AP AX A3 A4 A5 AJ A10 hcs A12 A14 A15 A16 A17 A18 A19 (S60.2 e60).2
        · rw [if_neg (show ¬ wT' = (60 : Int64) from e60), if_neg e60, if_pos rfl, sg61, Option.bind_some]
          by_cases e61 : wT' = lN 61
          · rw [if_pos (show wT' = (61 : Int64) from e61), if_pos e61, if_neg i1z, R98 1 (by decide) e61]
            unfold f_R_takeRule_81
            rw [if_neg (show ¬ wT' = (60 : Int64) from e60)]
            exact rule_tl (so := 1) hN B hq' (by decide) AP AX A3 A4 A5 AJ A10 hcs A12 A14 A15 A16 A17 A18 A19 (S61.2 e61).2
          · obtain ⟨F, F1, F2, F3, F4⟩ := uT.misp
            rw [if_neg (show ¬ wT' = (61 : Int64) from e61), if_neg e61, if_pos rfl, R_misp, Option.bind_some, M_misp, Option.bind_some, F3, F4]
            unfold f_M_readRule_98
            show StO n tx fr iR iM aM _ (((f_M_fine (nI F)).bind _).bind _)
            rw [fine_bad F1 F2, Option.bind_some, if_pos rfl, Option.bind_some]
            exact Or.inr ⟨F, fr', us iR [(3, nI F), (4, iT' 3)], _, us (us X [(46, nI F), (47, X 4)]) [(2, X 2), (3, X 3), (4, X 4), (5, X 5), (6, X 6), (46, nI F), (47, X 4)], Y, rfl, TK_bad (F := F) rfl F1 F2, F1, F2, by omega, rfl, u5, rfl, u6, (tcs_of A3).trans ((fri_us rfl).trans (fri_us rfl)), tas_of A4⟩
      · rw [e1, e2, Option.bind_some, Option.bind_some]
        show StO n tx fr iR iM aM _ (((f_M_fine (X 46)).bind _).bind _)
        rw [F6, fine_bad F1 F2, Option.bind_some, if_pos rfl]
        unfold f_M_readRule_98
        show StO n tx fr iR iM aM _ (((f_M_fine (X 46)).bind _).bind _)
        rw [F6, fine_bad F1 F2, Option.bind_some, if_pos rfl, Option.bind_some]
        exact Or.inr ⟨F, p, iR', _, us X [(2, X 2), (3, X 3), (4, X 4), (5, X 5), (6, X 6), (46, nI F), (47, X 47)], Y, rfl, TK_bad F6 F1 F2, F1, F2, F3, F4, F5, rfl, F7, (tcs_of F8).trans (fri_us rfl), tas_of F9⟩
