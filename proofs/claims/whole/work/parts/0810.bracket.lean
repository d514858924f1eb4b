/-! a bracket, of both; the reading of one concept, whole -/
theorem us_brk {X Xa : Nat → Int32} {a2 a3 a4 a5 a6 a49 a54 : Int32} (e : us X [(39, Xa 39), (54, Xa 54), (55, Xa 55)] = Xa) : us X [(2, a2), (3, a3), (4, a4), (5, a5), (6, a6), (39, Xa 39), (49, a49), (54, a54), (55, Xa 55)] = us Xa [(2, a2), (3, a3), (4, a4), (5, a5), (6, a6), (49, a49), (54, a54)] := by
  funext j
  have h := congrFun e j
  simp only [us] at h ⊢
  by_cases h2 : j = 2
  · simp [h2]
  by_cases h3 : j = 3
  · simp [h3]
  by_cases h4 : j = 4
  · simp [h4]
  by_cases h5 : j = 5
  · simp [h5]
  by_cases h6 : j = 6
  · simp [h6]
  by_cases h49 : j = 49
  · simp [h49]
  by_cases h54 : j = 54
  · simp [h54]
  by_cases h39 : j = 39
  · simp [h39]
  by_cases h55 : j = 55
  · simp [h55]
  simp only [if_neg h2, if_neg h3, if_neg h4, if_neg h5, if_neg h6, if_neg h49, if_neg h54, if_neg h39, if_neg h55] at h ⊢
  exact h
theorem fri_back {X Xa iM : Nat → Int32} {a b c : Int32} (e : us X [(39, a), (54, b), (55, c)] = Xa) (h : FrI tc iM Xa) : FrI tc iM X := fun j hj => by
  have h1 := h j hj
  rw [← e] at h1
  have h2 : FrI tc X (us X [(39, a), (54, b), (55, c)]) := fri_us rfl
  rw [h2 j hj] at h1
  exact h1
theorem one_brk {N n : Nat} {tx : Nat → Int32} {S Od d W nx fr nd no sz na nn nr : Nat} {o φ wt pl : Nat → Nat} {iR iT : Nat → Int32} {wT : Int64} {iB : Nat → Int32} {lB : Nat → Nat → Int64} {aB : Nat → Nat → Int32} {iC : Nat → Int32} {aC : Nat → Nat → Int32} {iM : Nat → Int32} {aM : Nat → Nat → Int32} {jI : Nat → Int32} {jA : Nat → Nat → Int32} (hN : 100000 ≤ N) (hd : d < 12) (IH : P1 N n tx S Od (d + 1)) (P : PS n tx S Od nx fr nd no sz na nn nr o φ wt pl iT wT iB lB iC aC iM aM) (h56 : iM 56 = nI 1) (h54 : iM 54 = nI W) (h49 : iM 49 = nI d) (hW1 : 1 ≤ W) (hW : W ≤ 3 + 3 * d) (hq : ∃ q, f_M_kept N (iM 3) (nI fr) (iM 5) (aM 0) wordsM = some q) (hw : wT = lN 40) (h4 : iT 4 = 2) (h3 : iM 3 = 2) (h6 : iM 6 = 40) (hnx : nx = fr + 1) (hb : f_T_beginsConcept (iT 4) wT = some 1) (hh : f_T_holdsConcept wT = some 1) : OneO N n tx S Od d W fr nd no sz nn nr o φ wt pl wT iR iB aC iM aM jI jA (f_R_takeOne N (14 - d) (nI d) iR iT wT tx iB lB aB iC aC) := by
  have P' := P
  obtain ⟨p46, hTk, PM, PD⟩ := P'
  obtain ⟨t1, t2, t3, t4, t5, t6, tR, tW, tT⟩ := hTk
  have hn := tR.1
  obtain ⟨q, hq⟩ := hq
  obtain ⟨fr1, nx1, c4', w1, k3, k5, k6, q1, q2, q3, q4⟩ := tok_step (N := N) (o3 := nI fr) (o4 := iT 4) (m3 := iM 3) (m4 := nI fr) (m5 := iM 5) (m6 := iM 6) (ow := wT) hN tR tT.2.1
  have PS1 : PS n tx S Od nx1 fr1 nd no sz na nn nr o φ wt pl (us iT [(2, nI nx1), (3, nI fr1), (4, c4')]) w1 iB lB iC aC (us iM [(2, nI nx1), (3, k3), (4, nI fr1), (5, k5), (6, k6), (46, 0), (47, iM 47), (49, nI (d + 1)), (54, nI (W + 1))]) (us aM [(52, upd (aM 52) W (nI 1)), (53, upd (aM 53) W (-1))]) := ⟨rfl, ⟨t1, t2, rfl, rfl, rfl, rfl, tR, tW, q3⟩, PM, PD⟩
  have O1 := con_of (iR := iR) (aB := aB) (jI := jI) (jA := jA) hN (show d + 1 ≤ 12 by omega) IH PS1 h56 rfl rfl (show 1 ≤ W + 1 by omega) (by omega) (Or.inr (Or.inl up_s))
  have CL : f_R_takeOne N (14 - d) (nI d) iR iT wT tx iB lB aB iC aC = f_R_takeBracketed N (f_R_takeOne N (14 - (d + 1))) (nI (d + 1)) iR (us iT [(2, nI nx1), (3, nI fr1), (4, c4')]) w1 tx iB lB aB iC aC := by
    have L1 : f_T_step N (iT 1) (iT 2) (iT 3) (iT 4) wT tx = some (nI nx1, nI fr1, c4', w1) := by rw [t1, t3, t5]; exact q1
    rw [to_37 (Nat.le_of_lt hd) hb hh (Or.inl hd)]
    unfold f_R_takeOneB_37
    rw [if_pos (show wT = (40 : Int64) from hw)]
    unfold f_R_takeOneB_60
    rw [if_neg (by rw [h4]; decide), L1, Option.bind_some, if_pos (show wT = (40 : Int64) from hw), bind_eta8, nI_m]
  have MR : ∀ i, f_M_readConcept_28 N jI jA (i + 1) 1 iM aM = f_M_readConcept_28 N jI jA i 1 (us iM [(2, nI nx1), (3, k3), (4, nI fr1), (5, k5), (6, k6), (46, 0), (47, iM 47), (49, nI (d + 1)), (54, nI (W + 1))]) (us aM [(52, upd (aM 52) W (nI 1)), (53, upd (aM 53) W (-1))]) := by
    intro i
    rw [run_one p46 h56]
    unfold f_M_readOne
    rw [t6, tW, hq, Option.bind_some]
    have sg : f_M_isSignHere 40 (iM 3) (iM 6) = some 1 := by
      unfold f_M_isSignHere
      rw [if_pos h3, if_pos h6]
    rw [sg, Option.bind_some, if_neg i1z]
    unfold f_M_goesDeeper f_M_wait
    rw [h49, if_neg (show ¬ nI d = (12 : Int32) from fun z => by have := (nI_eq (b := 12) (by omega) (by omega)).mp z; omega), Option.bind_some]
    show (if (1 : Int32) = 0 then _ else _ : Option ((Nat → Int32) × (Nat → Nat → Int32))).bind _ = _
    rw [if_neg i1z, h54, if_neg (nI_g (show W < 500 by omega) (by decide)), nI_cl (by omega), nI_m, Option.bind_some, t2, t4, q2, Option.bind_some, nI_m, p46]
    rfl
  unfold f_R_takeBracketed at CL
  rcases O1 with ⟨c, m, nx', fr', nd', no', sz', na', nn', nr', o', φ', wt', pl', iT', wT', iB', lB', iC', aC', X, Y, Xa, Ya, k, kk, E1, HD, E3, E4, E5, E6, E7, E8⟩ | ⟨F, p, k, v, X, Y, iR', z, g1, g2, g3, g4, g5, g6, g7, g8, g9, g10, g11, g12⟩
  · have HD' := HD
    obtain ⟨⟨a46, ⟨u1, u2, u3, u4, u5, u6, uR, uW, uT⟩, aM', aD⟩, AX, A3, A4, A5, A6, A7, A8, ⟨j, hj, hjm⟩, A10, A11, A12, A13, A14, A15, A16, A17, A18, A19⟩ := HD'
    have aD' := aD
    obtain ⟨n1, n2, n3, n4, n5, n6, n7, n8, n9, n10, n11, n12, n13, n14, n15, n16⟩ := aD'
    have hcs : c < 200 := by have := (n12 j hj).2.2.1; rw [hjm, A10] at this; omega
    rw [E1, Option.bind_some] at CL
    have CL2 : f_R_takeOne N (14 - d) (nI d) iR iT wT tx iB lB aB iC aC = (if wT' = 41 then ((f_T_step N (iT' 1) (iT' 2) (iT' 3) (iT' 4) wT' tx).bind fun q36 => (some (nI c, iR, (us iT' [(2, q36.1), (3, q36.2.1), (4, q36.2.2.1)]), q36.2.2.2, iB', lB', iC', aC'))) else ((f_R_misplaced (iR 3) (iR 4) (iT' 3) (iT' 4)).bind fun q28 => (some (q28.1, (us iR [(3, q28.2.1), (4, q28.2.2)]), iT', wT', iB', lB', iC', aC')))) := by
      rw [CL]
      show (if nI c = -1 then _ else _) = _
      rw [if_neg (nI_neg1 (by omega))]
    have CTT := E6 7 (Nat.le_refl _) (Nat.le_refl _)
    have hT : TopK 7 (W + 1) nd' Ya := Or.inr (Or.inl ((A11 W (by omega)).1.trans up_s))
    have CS := CTT.stop hN (show kk ≤ 2 by omega) A6 (by omega) (by omega) n1 hT
    obtain ⟨e1, e2, -⟩ := CTT
    have x56 : X 56 = 0 := (congrFun e1 56).trans E4
    have x46 : X 46 = 0 := (congrFun e1 46).trans a46
    have x1 : X 1 = nI n := (congrFun e1 1).trans u2
    have x2 : X 2 = nI nx' := (congrFun e1 2).trans u4
    have x3 : X 3 = Xa 3 := congrFun e1 3
    have x4 : X 4 = nI fr' := (congrFun e1 4).trans u6
    have x5 : X 5 = Xa 5 := congrFun e1 5
    have x6 : X 6 = Xa 6 := congrFun e1 6
    have x49 : X 49 = nI (d + 1) := (congrFun e1 49).trans A7
    have y0 : Y 0 = Ya 0 := congrFun e2 0
    have y7 : Y 7 = wordsM := (congrFun e2 7).trans uW
    have y52 : Y 52 W = nI 1 := (congrFun (congrFun e2 52) W).trans ((A11 W (by omega)).1.trans up_s)
    obtain ⟨q', v1, v2⟩ := kept_eq hN uR uT
    have nq : ¬ q' = 4 ∧ ¬ q' = 3 := by
      rcases v2 with ⟨a, b⟩ | ⟨i, i1, i2, i3⟩
      · rw [a]; decide
      · rw [i2]
        constructor
        · intro z
          have : i = 4 := (nI_eq (b := 4) (by omega) (by omega)).mp z
          rw [this] at i3
          exact E7.1.2 i3
        · intro z
          have : i = 3 := (nI_eq (b := 3) (by omega) (by omega)).mp z
          rw [this] at i3
          exact E7.2 i3
    have S41 := w_sign uT (s := 41) (by omega)
    have RB : ∀ i, f_M_readConcept_28 N jI jA (i + 1) 1 X Y = ((f_M_isSignHere 41 (Xa 3) (Xa 6)).bind fun q107 => (if q107 = 0 then ((f_M_misplaced (Xa 3) (nI fr') 0 (X 47)).bind fun q149 => (some ((1 : Int32), (us X [(39, Xa 39), (46, q149.1), (47, q149.2), (54, Xa 54), (55, Xa 55)]), Ya))) else ((f_M_next N (nI n) (nI nx') (Xa 3) (nI fr') (Xa 5) (Xa 6) (Ya 0)).bind fun q134 => ((f_M_stand N (Xa 55) (us X [(2, q134.1), (3, q134.2.1), (4, q134.2.2.1), (5, q134.2.2.2.1), (6, q134.2.2.2.2), (39, Xa 39), (49, nI d), (54, nI W), (55, Xa 55)]) Ya).bind fun q142 => (some ((1 : Int32), q142.1, q142.2)))))).bind (fun q => f_M_readConcept_28 N jI jA i q.1 q.2.1 q.2.2) := by
      intro i
      rw [run_behind x46 x56]
      unfold f_M_readBehind
      rw [x3, x4, x5, y0, y7, v1, Option.bind_some, if_neg nq.1, if_neg nq.2, show (7 : Int32) = nI 7 from rfl, CS, Option.bind_some]
      show (if (Xa 54 - 1) < 0 ∨ 500 ≤ (Xa 54 - 1).toNatClampNeg then none else _ : Option (Int32 × (Nat → Int32) × (Nat → Nat → Int32))).bind _ = _
      rw [A6, nI_pred, if_neg (nI_g (show W < 500 by omega) (by decide)), nI_cl (by omega), y52, if_neg (by decide), x6, x46, x1, x2, x49, nI_pred, e2]
    by_cases h41 : wT' = lN 41
    · obtain ⟨s1, s2⟩ := S41.1.mp h41
      obtain ⟨s3, s4⟩ := S41.2 h41
      have sg : f_M_isSignHere 41 (Xa 3) (Xa 6) = some 1 := by
        unfold f_M_isSignHere
        rw [if_pos s1, s2]
        rfl
      obtain ⟨fr2, nx2, c42, w2, k3', k5', k6', r1, r2, r3, r4⟩ := tok_step (N := N) (o3 := nI fr') (o4 := iT' 4) (m3 := Xa 3) (m4 := nI fr') (m5 := Xa 5) (m6 := Xa 6) (ow := wT') hN uR uT.2.1
      refine Or.inl ⟨c, m, nx2, fr2, nd', no', sz', na', nn', nr', o', φ', wt', pl', us iT' [(2, nI nx2), (3, nI fr2), (4, c42)], w2, iB', lB', iC', aC', us (us Xa [(2, nI nx2), (3, k3'), (4, nI fr2), (5, k5'), (6, k6'), (49, nI d), (54, nI W)]) [(55, Xa 55)], Ya, k + 2, N, us Xa [(2, nI nx2), (3, k3'), (4, nI fr2), (5, k5'), (6, k6'), (49, nI d), (54, nI W)], Ya, ?_, ⟨⟨a46, ⟨u1, u2, rfl, rfl, rfl, rfl, uR, uW, r3⟩, aM', aD⟩, AX, ((FrI.trans (i' := us iM [(2, nI nx1), (3, k3), (4, nI fr1), (5, k5), (6, k6), (46, 0), (47, iM 47), (49, nI (d + 1)), (54, nI (W + 1))]) (fri_us rfl) A3).trans (fri_us rfl)).trans (fri_us rfl), FrA.trans (a' := us aM [(52, upd (aM 52) W (nI 1)), (53, upd (aM 53) W (-1))]) (fra_us rfl (low_cons (fun i hi => absurd hi (by have : lowB 52 = 0 := rfl; omega)) (low_cons (fun i hi => absurd hi (by have : lowB 53 = 0 := rfl; omega)) (low_nil)))) A4, A5, rfl, rfl, A8, ⟨j, hj, hjm⟩, A10, fun i hi => ?_, A12, A13, A14, by omega, ?_, A17, A18, A19⟩, by omega, by omega, fun i => ?_⟩
      · rw [CL2, if_pos (show wT' = (41 : Int64) from h41), u1, u3, u5, r1, Option.bind_some]
      · obtain ⟨z1, z2⟩ := A11 i (by omega)
        exact ⟨z1.trans (up_n (by omega)), z2.trans (up_n (by omega))⟩
      · obtain ⟨pe, br, p1, p2, p3, p4⟩ := A16
        refine ⟨nx', 1, Nat.le_refl _, r4, fun _ => by omega, ?_⟩
        rw [if_pos hw]
        omega
      · rw [show i + (k + 2) = ((i + 1) + k) + 1 by omega, MR, E8, RB, sg, Option.bind_some, if_neg i1z, r2, Option.bind_some, us_brk e1]
        unfold f_M_stand
        cases f_M_stand_5 N (us Xa [(2, nI nx2), (3, k3'), (4, nI fr2), (5, k5'), (6, k6'), (49, nI d), (54, nI W)]) Ya N (us (us Xa [(2, nI nx2), (3, k3'), (4, nI fr2), (5, k5'), (6, k6'), (49, nI d), (54, nI W)]) [(55, Xa 55)]) Ya <;> rfl
    · have sg : f_M_isSignHere 41 (Xa 3) (Xa 6) = some 0 := by
        unfold f_M_isSignHere
        by_cases h : Xa 3 = 2
        · rw [if_pos h, if_neg (show ¬ Xa 6 = (41 : Int32) from fun z => h41 (S41.1.mpr ⟨h, z⟩))]
        · rw [if_neg h]
      obtain ⟨F, F1, F2, F3, F4⟩ := uT.misp
      have hfr' : fr' ≤ n := Nat.le_trans uT.1 uT.2.1
      refine Or.inr ⟨F, fr', k + 3, Xa 55, us X [(39, Xa 39), (46, nI F), (47, nI fr'), (54, Xa 54), (55, Xa 55)], Ya, us iR [(3, nI F), (4, nI fr')], (iT', wT', iB', lB', iC', aC'), ?_, F1, F2, by omega, rfl, rfl, by omega, fun i => ?_, rfl, rfl, (fri_back e1 (FrI.trans (i' := us iM [(2, nI nx1), (3, k3), (4, nI fr1), (5, k5), (6, k6), (46, 0), (47, iM 47), (49, nI (d + 1)), (54, nI (W + 1))]) (fri_us rfl) A3)).trans (fri_us rfl), FrA.trans (a' := us aM [(52, upd (aM 52) W (nI 1)), (53, upd (aM 53) W (-1))]) (fra_us rfl (low_cons (fun i hi => absurd hi (by have : lowB 52 = 0 := rfl; omega)) (low_cons (fun i hi => absurd hi (by have : lowB 53 = 0 := rfl; omega)) (low_nil)))) A4⟩
      · rw [CL2, if_neg (show ¬ wT' = (41 : Int64) from h41), R_misp, Option.bind_some, F3, u5]
      · show f_M_readConcept_28 N jI jA (i + (k + 3)) 1 iM aM = _
        rw [show i + (k + 3) = (((i + 1) + 1) + k) + 1 by omega, MR, E8, RB, sg, Option.bind_some, if_pos rfl, M_misp, Option.bind_some, F4, Option.bind_some]
        exact run_bad (F := F) rfl F1 F2
  · rw [g1, Option.bind_some] at CL
    refine Or.inr ⟨F, p, k + 1, v, X, Y, iR', z, ?_, g2, g3, g4, g5, g6, by omega, fun i => ?_, g9, g10, FrI.trans (i' := us iM [(2, nI nx1), (3, k3), (4, nI fr1), (5, k5), (6, k6), (46, 0), (47, iM 47), (49, nI (d + 1)), (54, nI (W + 1))]) (fri_us rfl) g11, FrA.trans (a' := us aM [(52, upd (aM 52) W (nI 1)), (53, upd (aM 53) W (-1))]) (fra_us rfl (low_cons (fun i hi => absurd hi (by have : lowB 52 = 0 := rfl; omega)) (low_cons (fun i hi => absurd hi (by have : lowB 53 = 0 := rfl; omega)) (low_nil)))) g12⟩
    · rw [CL]
      rfl
    · show f_M_readConcept_28 N jI jA (i + (k + 1)) 1 iM aM = _
      rw [show i + (k + 1) = (i + k) + 1 by omega, MR]
      exact g8 i
