/-! a concept read, of both -/
def RcO (N n : Nat) (tx : Nat → Int32) (S Od fr nd no sz nn nr : Nat) (o φ wt pl : Nat → Nat) (wT : Int64) (iR iB : Nat → Int32) (aC : Nat → Nat → Int32) (iM : Nat → Int32) (aM : Nat → Nat → Int32) (q : Option (Int32 × (Nat → Int32) × (Nat → Int32) × Int64 × (Nat → Int32) × (Nat → Nat → Int64) × (Nat → Int32) × (Nat → Nat → Int32))) (r : Option (Int32 × (Nat → Int32) × (Nat → Nat → Int32))) : Prop := (∃ (c m nx' fr' nd' no' sz' na' nn' nr' : Nat) (o' φ' wt' pl' : Nat → Nat) (iT' : Nat → Int32) (wT' : Int64) (iB' : Nat → Int32) (lB' : Nat → Nat → Int64) (iC' : Nat → Int32) (aC' : Nat → Nat → Int32) (X : Nat → Int32) (Y : Nat → Nat → Int32), q = some (nI c, iR, iT', wT', iB', lB', iC', aC') ∧ r = some (nI (200 + m), X, Y) ∧ PS n tx S Od nx' fr' nd' no' sz' na' nn' nr' o' φ' wt' pl' iT' wT' iB' lB' iC' aC' X Y ∧ ExS nd no sz o φ wt pl aC aM nd' no' sz' o' φ' wt' pl' aC' Y ∧ FrI tc iM X ∧ FrA ta aM Y ∧ (∀ j, j ≠ 1 → j ≠ 3 → j ≠ 5 → iB' j = iB j) ∧ (∃ j, j < no' ∧ o' j = m) ∧ φ' m = c ∧ c < sz' ∧ no' + nd = no + nd' ∧ nd + wt' c ≤ nd' ∧ fr < fr' ∧ TxC fr wT fr' (X 3) (plx (aC' 0) pl' 3 c) (wt' c) ∧ nn ≤ nn' ∧ nr ≤ nr' ∧ ∀ r, r < nr → rlM Y r = rlM aM r) ∨ (∃ (F p : Nat) (v : Int32) (X : Nat → Int32) (Y : Nat → Nat → Int32) (iR' : Nat → Int32) (z : (Nat → Int32) × Int64 × (Nat → Int32) × (Nat → Nat → Int64) × (Nat → Int32) × (Nat → Nat → Int32)), q = some (-1, iR', z) ∧ r = some (v, X, Y) ∧ 1 ≤ F ∧ F ≤ 6 ∧ p ≤ 2000 ∧ iR' 3 = nI F ∧ iR' 4 = nI p ∧ X 46 = nI F ∧ X 47 = nI p ∧ FrI tc iM X ∧ FrA ta aM Y)
theorem rc_eq {N n : Nat} {tx : Nat → Int32} {S Od nx fr nd no sz na nn nr : Nat} {o φ wt pl : Nat → Nat} {iR iT : Nat → Int32} {wT : Int64} {iB : Nat → Int32} {lB : Nat → Nat → Int64} {aB : Nat → Nat → Int32} {iC : Nat → Int32} {aC : Nat → Nat → Int32} {iM : Nat → Int32} {aM : Nat → Nat → Int32} (hN : 100000 ≤ N) (P : PS n tx S Od nx fr nd no sz na nn nr o φ wt pl iT wT iB lB iC aC iM aM) : RcO N n tx S Od fr nd no sz nn nr o φ wt pl wT iR iB aC iM aM (f_R_takeConcept N (f_R_takeOne N 14) 0 iR iT wT tx iB lB aB iC aC) (f_M_readConcept N iM aM) := by
  have P' := P
  obtain ⟨p46, ⟨t1, t2, t3, t4, t5, t6, tR, tW, tT⟩, PM, PD⟩ := P'
  have hn := tR.1
  have PS1 : PS n tx S Od nx fr nd no sz na nn nr o φ wt pl iT wT iB lB iC aC (us iM [(49, 0), (54, nI 1), (55, -1), (56, 1)]) (us aM [(52, upd (aM 52) 0 0), (53, upd (aM 53) 0 (-1))]) := ⟨p46, ⟨t1, t2, t3, t4, t5, t6, tR, tW, tT⟩, PM, PD⟩
  have ML : f_M_readConcept N iM aM = f_M_readConcept_28 N iM aM N 1 (us iM [(49, 0), (54, nI 1), (55, -1), (56, 1)]) (us aM [(52, upd (aM 52) 0 0), (53, upd (aM 53) 0 (-1))]) := rfl
  have fA : FrA ta aM (us aM [(52, upd (aM 52) 0 0), (53, upd (aM 53) 0 (-1))]) := fra_us rfl (low_cons (fun i hi => absurd hi (by have : lowB 52 = 0 := rfl; omega)) (low_cons (fun i hi => absurd hi (by have : lowB 53 = 0 := rfl; omega)) low_nil))
  have O1 := con_of (d := 0) (W := 1) (iR := iR) (aB := aB) (jI := iM) (jA := aM) hN (by decide) (p1_all hN 12 0 (by decide)) PS1 rfl rfl rfl (by decide) (by decide) (Or.inl (show upd (aM 52) 0 0 0 = nI 0 from up_s))
  rw [ML]
  rcases O1 with ⟨c, m, nx', fr', nd', no', sz', na', nn', nr', o', φ', wt', pl', iT', wT', iB', lB', iC', aC', X, Y, Xa, Ya, k, kk, E1, HD, E3, E4, E5, E6, E7, E8⟩ | ⟨F, p, k, v, X, Y, iR', z, g1, g2, g3, g4, g5, g6, g7, g8, g9, g10, g11, g12⟩
  · obtain ⟨AP, AX, A3, A4, A5, A6, A7, A8, ⟨j, hj, hjm⟩, A10, A11, A12, A13, A14, A15, A16, A17, A18, A19⟩ := HD
    have AP' := AP
    obtain ⟨a46, ⟨u1, u2, u3, u4, u5, u6, uR, uW, uT⟩, aM', aD⟩ := AP'
    obtain ⟨n1, n2, n3, n4, n5, n6, n7, n8, n9, n10, n11, n12, n13, n14, n15, n16⟩ := aD
    have hcs : c < sz' := by have := (n12 j hj).2.2.1; rw [hjm, A10] at this; exact this
    have CTT := E6 7 (Nat.le_refl _) (Nat.le_refl _)
    have y520 : Ya 52 0 = nI 0 := (A11 0 (by decide)).1.trans (show upd (aM 52) 0 0 0 = nI 0 from up_s)
    have hT : TopK 7 1 nd' Ya := Or.inl y520
    have CS := CTT.stop hN (show kk ≤ 2 by omega) A6 (by omega) (by omega) n1 hT
    obtain ⟨e1, e2, -⟩ := CTT
    have x56 : X 56 = 0 := (congrFun e1 56).trans E4
    have x46 : X 46 = 0 := (congrFun e1 46).trans a46
    have x3 : X 3 = Xa 3 := congrFun e1 3
    have x4 : X 4 = nI fr' := (congrFun e1 4).trans u6
    have x5 : X 5 = Xa 5 := congrFun e1 5
    have y0 : Y 0 = Ya 0 := congrFun e2 0
    have y7 : Y 7 = wordsM := (congrFun e2 7).trans uW
    have y52 : Y 52 0 = nI 0 := (congrFun (congrFun e2 52) 0).trans y520
    obtain ⟨q', v1, v2⟩ := kept_eq hN uR uT
    have nq : ¬ q' = 4 ∧ ¬ q' = 3 := by
      rcases v2 with ⟨a, b⟩ | ⟨i, i1, i2, i3⟩
      · rw [a]; decide
      · rw [i2]
        constructor
        · intro z
          have : i = 4 := (nI_eq (b := 4) (by omega) (by omega)).mp z
          rw [this] at i3
          exact E7.1.2 i3
        · intro z
          have : i = 3 := (nI_eq (b := 3) (by omega) (by omega)).mp z
          rw [this] at i3
          exact E7.2 i3
    have hfr' : fr' ≤ n := Nat.le_trans uT.1 uT.2.1
    refine Or.inl ⟨c, m, nx', fr', nd', no', sz', na', nn', nr', o', φ', wt', pl', iT', wT', iB', lB', iC', aC', Xa, Ya, E1, ?_, AP, AX, FrI.trans (i' := us iM [(49, 0), (54, nI 1), (55, -1), (56, 1)]) (fri_us rfl) A3, fA.trans A4, A5, ⟨j, hj, hjm⟩, A10, hcs, A12, A14, A15, A16, A17, A18, A19⟩
    obtain ⟨M, hM⟩ : ∃ M, N = (M + 2) + k := ⟨N - 2 - k, by omega⟩
    have RB : f_M_readBehind N X Y = some (0, Xa, Ya) := by
      unfold f_M_readBehind
      rw [x3, x4, x5, y0, y7, v1, Option.bind_some, if_neg nq.1, if_neg nq.2, show (7 : Int32) = nI 7 from rfl, CS, Option.bind_some]
      show (if (Xa 54 - 1) < 0 ∨ 500 ≤ (Xa 54 - 1).toNatClampNeg then none else _ : Option (Int32 × (Nat → Int32) × (Nat → Nat → Int32))) = _
      have A6' : Xa 54 = nI (0 + 1) := A6
      rw [A6', nI_pred, if_neg (nI_g (show 0 < 500 by omega) (by decide)), nI_cl (by omega), y52, if_pos (show nI 0 = (0 : Int32) from rfl)]
      rw [A6'] at e1
      exact congrArg some (congrArg (fun z => ((0 : Int32), z)) (Prod.ext e1 e2))
    have := E8 (M + 2)
    rw [← hM] at this
    rw [this, show M + 2 = (M + 1) + 1 by omega, run_behind x46 x56, RB, Option.bind_some, f_M_readConcept_28, if_pos rfl]
    unfold f_M_readConcept_61
    show some (Xa 55, Xa, Ya) = _
    rw [A8]
  · refine Or.inr ⟨F, p, v, X, Y, iR', z, g1, ?_, g2, g3, g4, g5, g6, g9, g10, FrI.trans (i' := us iM [(49, 0), (54, nI 1), (55, -1), (56, 1)]) (fri_us rfl) g11, fA.trans g12⟩
    obtain ⟨M, hM⟩ : ∃ M, N = M + k := ⟨N - k, by omega⟩
    have := g8 M
    rw [← hM] at this
    exact this
