/-! the statements of a text, of both -/
theorem r134 {N : Nat} {jM : Nat → Int32} {jA : Nat → Nat → Int32} {k : (Nat → Int32) → (Nat → Nat → Int32) → Option (Int32 × (Nat → Int32) × (Nat → Nat → Int32))} {X : Nat → Int32} {Y : Nat → Nat → Int32} : f_M_read_134 N jM jA k X Y = (TK N X Y).bind fun q => k q.1 q.2 := by
  unfold f_M_read_134 TK
  rw [Option.bind_assoc]
  rfl
theorem r134b {N : Nat} {jM : Nat → Int32} {jA : Nat → Nat → Int32} {k : (Nat → Int32) → (Nat → Nat → Int32) → Option (Int32 × (Nat → Int32) × (Nat → Nat → Int32))} {r : Option ((Nat → Int32) × (Nat → Nat → Int32))} : (r.bind fun q => f_M_read_134 N jM jA k q.1 q.2) = ((r.bind fun q => TK N q.1 q.2).bind fun q => k q.1 q.2) := by
  rw [Option.bind_assoc]
  congr 1
  funext q
  exact r134
/-- a statement more, of both -/
theorem lp_step {N n : Nat} {tx : Nat → Int32} {S Od G nx fr nd no sz na nn nr ns rc qc : Nat} {o φ wt pl tl : Nat → Nat} {iR : Nat → Int32} {iT : Nat → Int32} {wT : Int64} {iB : Nat → Int32} {lB : Nat → Nat → Int64} {aB : Nat → Nat → Int32} {iC : Nat → Int32} {aC : Nat → Nat → Int32} {iM : Nat → Int32} {aM : Nat → Nat → Int32} {jR jT : Nat → Int32} {jw : Int64} {jB : Nat → Int32} {jl : Nat → Nat → Int64} {jb : Nat → Nat → Int32} {jC : Nat → Int32} {ja : Nat → Nat → Int32} {jM : Nat → Int32} {jA : Nat → Nat → Int32} {s : Nat} (hN : 100000 ≤ N) (B : BkS n tx S Od G nx fr nd no sz na nn nr ns rc qc o φ wt pl tl iT wT iB lB aB iC aC iM aM) (h3 : iR 3 = 0) (h4 : ¬ iT 4 = 1) (hs : s ≤ n) : ∃ (q : Option ((Nat → Int32) × (Nat → Int32) × Int64 × (Nat → Int32) × (Nat → Nat → Int64) × (Nat → Nat → Int32) × (Nat → Int32) × (Nat → Nat → Int32))) (r : Option ((Nat → Int32) × (Nat → Nat → Int32))), StO n tx fr iR iM aM q r ∧ (∀ i, f_R_takeIn_40 N jR jT jw tx jB jl jb jC ja (nI n) (i + 1) (nI s) iR iT wT iB lB aB iC aC = q.bind fun q => f_R_takeIn_40 N jR jT jw tx jB jl jb jC ja (nI n) i (nI (s + 1)) q.1 q.2.1 q.2.2.1 q.2.2.2.1 q.2.2.2.2.1 q.2.2.2.2.2.1 q.2.2.2.2.2.2.1 q.2.2.2.2.2.2.2) ∧ ∀ i, f_M_read_76 N jM jA (i + 1) iM aM = r.bind fun q => f_M_read_76 N jM jA i q.1 q.2 := by
  have B' := B
  obtain ⟨P, -⟩ := B'
  obtain ⟨p46, ⟨t1, t2, t3, t4, t5, t6, tR, tW, tT⟩, PM, PD⟩ := P
  have hn := tR.1
  obtain ⟨d, d1, d2, d3, d4⟩ := disp_eq hN tR tT
  have m3 : ¬ iM 3 = 0 := fun z => h4 ((end_tok tT).mpr z)
  have sle : ¬ nI n < nI s := Int32.not_lt.mpr (nI_le (a := s) (b := n) hs (by omega))
  by_cases w0 : wT = lN 6386539
  · refine ⟨_, _, ask_st (iR := iR) hN B w0, fun i => ?_, fun i => ?_⟩
    · rw [f_R_takeIn_40, if_neg sle, if_pos h3, if_neg h4, nI_m, if_pos (show wT = (6386539 : Int64) from w0)]
    · rw [f_M_read_76, p46, M_fine0, Option.bind_some, if_neg i1z, if_neg m3, t6, tW, d1, Option.bind_some, if_pos (d2.mpr w0), r134b]
  · by_cases w1 : wT = lN 504363246962
    · refine ⟨_, _, under_st (iR := iR) hN B w1, fun i => ?_, fun i => ?_⟩
      · rw [f_R_takeIn_40, if_neg sle, if_pos h3, if_neg h4, nI_m, if_neg (show ¬ wT = (6386539 : Int64) from w0), if_pos (show wT = (504363246962 : Int64) from w1), Option.bind_assoc]
        rfl
      · rw [f_M_read_76, p46, M_fine0, Option.bind_some, if_neg i1z, if_neg m3, t6, tW, d1, Option.bind_some, if_neg (fun z => w0 (d2.mp z)), if_pos (d3.mpr w1), r134b]
    · by_cases w2 : wT = lN 126896661032037
      · refine ⟨_, _, single_st (iR := iR) hN B w2, fun i => ?_, fun i => ?_⟩
        · rw [f_R_takeIn_40, if_neg sle, if_pos h3, if_neg h4, nI_m, if_neg (show ¬ wT = (6386539 : Int64) from w0), if_neg (show ¬ wT = (504363246962 : Int64) from w1), if_pos (show wT = (126896661032037 : Int64) from w2), Option.bind_assoc]
          rfl
        · rw [f_M_read_76, p46, M_fine0, Option.bind_some, if_neg i1z, if_neg m3, t6, tW, d1, Option.bind_some, if_neg (fun z => w0 (d2.mp z)), if_neg (fun z => w1 (d3.mp z)), if_pos (d4.mpr w2), r134b]
      · refine ⟨_, _, rule_st (iR := iR) hN B, fun i => ?_, fun i => ?_⟩
        · rw [f_R_takeIn_40, if_neg sle, if_pos h3, if_neg h4, nI_m, if_neg (show ¬ wT = (6386539 : Int64) from w0), if_neg (show ¬ wT = (504363246962 : Int64) from w1), if_neg (show ¬ wT = (126896661032037 : Int64) from w2)]
        · rw [f_M_read_76, p46, M_fine0, Option.bind_some, if_neg i1z, if_neg m3, t6, tW, d1, Option.bind_some, if_neg (fun z => w0 (d2.mp z)), if_neg (fun z => w1 (d3.mp z)), if_neg (fun z => w2 (d4.mp z)), r134b]
/-- the whole text's outcome, of both -/
def LpO (N n : Nat) (tx : Nat → Int32) (jM : Nat → Int32) (jA : Nat → Nat → Int32) (iR iM : Nat → Int32) (aM : Nat → Nat → Int32) (q : Option (Int32 × (Nat → Int32) × (Nat → Int32) × Int64 × (Nat → Int32) × (Nat → Nat → Int64) × (Nat → Nat → Int32) × (Nat → Int32) × (Nat → Nat → Int32))) (r : Option (Int32 × (Nat → Int32) × (Nat → Nat → Int32))) : Prop := (∃ (S Od G nx fr nd no sz na nn nr ns rc qc : Nat) (o φ wt pl tl : Nat → Nat) (iT : Nat → Int32) (wT : Int64) (iB : Nat → Int32) (lB : Nat → Nat → Int64) (aB : Nat → Nat → Int32) (iC : Nat → Int32) (aC : Nat → Nat → Int32) (X : Nat → Int32) (Y : Nat → Nat → Int32), q = some (1, iR, iT, wT, iB, lB, aB, iC, aC) ∧ r = f_M_read_143 N jM jA X Y ∧ BkS n tx S Od G nx fr nd no sz na nn nr ns rc qc o φ wt pl tl iT wT iB lB aB iC aC X Y ∧ FrI tcs iM X ∧ FrA tas aM Y) ∨ (∃ (F p : Nat) (iR' : Nat → Int32) (z : (Nat → Int32) × Int64 × (Nat → Int32) × (Nat → Nat → Int64) × (Nat → Nat → Int32) × (Nat → Int32) × (Nat → Nat → Int32)) (X : Nat → Int32) (Y : Nat → Nat → Int32), q = some (0, iR', z) ∧ r = f_M_read_143 N jM jA X Y ∧ 1 ≤ F ∧ F ≤ 6 ∧ p ≤ 2000 ∧ iR' 3 = nI F ∧ iR' 4 = nI p ∧ X 46 = nI F ∧ X 47 = nI p ∧ FrI tcs iM X ∧ FrA tas aM Y)
theorem LpO.mono {N n : Nat} {tx : Nat → Int32} {jM : Nat → Int32} {jA : Nat → Nat → Int32} {iR iM iM' : Nat → Int32} {aM aM' : Nat → Nat → Int32} {q : Option (Int32 × (Nat → Int32) × (Nat → Int32) × Int64 × (Nat → Int32) × (Nat → Nat → Int64) × (Nat → Nat → Int32) × (Nat → Int32) × (Nat → Nat → Int32))} {r : Option (Int32 × (Nat → Int32) × (Nat → Nat → Int32))} (h1 : FrI tcs iM iM') (h2 : FrA tas aM aM') (H : LpO N n tx jM jA iR iM' aM' q r) : LpO N n tx jM jA iR iM aM q r := by
  rcases H with ⟨S, Od, G, nx, fr, nd, no, sz, na, nn, nr, ns, rc, qc, o, φ, wt, pl, tl, iT, wT, iB, lB, aB, iC, aC, X, Y, e1, e2, B, f1, f2⟩ | ⟨F, p, iR', z, X, Y, e1, e2, F1, F2, F3, F4, F5, F6, F7, f1, f2⟩
  · exact Or.inl ⟨S, Od, G, nx, fr, nd, no, sz, na, nn, nr, ns, rc, qc, o, φ, wt, pl, tl, iT, wT, iB, lB, aB, iC, aC, X, Y, e1, e2, B, h1.trans f1, h2.trans f2⟩
  · exact Or.inr ⟨F, p, iR', z, X, Y, e1, e2, F1, F2, F3, F4, F5, F6, F7, h1.trans f1, h2.trans f2⟩
theorem lp_eq {N n : Nat} {tx : Nat → Int32} {iR : Nat → Int32} {jR jT : Nat → Int32} {jw : Int64} {jB : Nat → Int32} {jl : Nat → Nat → Int64} {jb : Nat → Nat → Int32} {jC : Nat → Int32} {ja : Nat → Nat → Int32} {jM : Nat → Int32} {jA : Nat → Nat → Int32} (hN : 100000 ≤ N) (h3 : iR 3 = 0) : ∀ (d : Nat) (S Od G nx fr nd no sz na nn nr ns rc qc : Nat) (o φ wt pl tl : Nat → Nat) (iT : Nat → Int32) (wT : Int64) (iB : Nat → Int32) (lB : Nat → Nat → Int64) (aB : Nat → Nat → Int32) (iC : Nat → Int32) (aC : Nat → Nat → Int32) (iM : Nat → Int32) (aM : Nat → Nat → Int32) (s i j : Nat), BkS n tx S Od G nx fr nd no sz na nn nr ns rc qc o φ wt pl tl iT wT iB lB aB iC aC iM aM → n ≤ fr + d → s ≤ fr → d + 2 ≤ i → d + 2 ≤ j → LpO N n tx jM jA iR iM aM (f_R_takeIn_40 N jR jT jw tx jB jl jb jC ja (nI n) i (nI s) iR iT wT iB lB aB iC aC) (f_M_read_76 N jM jA j iM aM) := by
  intro d
  induction d with
  | zero =>
    intro S Od G nx fr nd no sz na nn nr ns rc qc o φ wt pl tl iT wT iB lB aB iC aC iM aM s i j B hd hs hi hj
    have B' := B
    obtain ⟨P, -⟩ := B'
    obtain ⟨p46, ⟨t1, t2, t3, t4, t5, t6, tR, tW, tT⟩, PM, PD⟩ := P
    have hn := tR.1
    have hfr : fr = n := by have := tT.1; have := tT.2.1; omega
    have h4 : iT 4 = 1 := by
      obtain ⟨a1, a2, a3⟩ := tT
      rcases a3 with ⟨-, -, a, -⟩ | ⟨a, -⟩ | ⟨a, -⟩ | ⟨sz, b1, b2, b3, -⟩
      · exact a
      · omega
      · omega
      · omega
    have m3 := (end_tok tT).mp h4
    obtain ⟨i, rfl⟩ : ∃ k, i = k + 1 := ⟨i - 1, by omega⟩
    obtain ⟨j, rfl⟩ : ∃ k, j = k + 1 := ⟨j - 1, by omega⟩
    refine Or.inl ⟨S, Od, G, nx, fr, nd, no, sz, na, nn, nr, ns, rc, qc, o, φ, wt, pl, tl, iT, wT, iB, lB, aB, iC, aC, iM, aM, ?_, ?_, B, FrI.rfl, FrA.rfl⟩
    · have sle : ¬ nI n < nI s := Int32.not_lt.mpr (nI_le (a := s) (b := n) (by omega) (by omega))
      rw [f_R_takeIn_40, if_neg sle, if_pos h3, if_pos h4]
      unfold f_R_takeIn_136
      rw [if_pos h3]
    · rw [f_M_read_76, p46, M_fine0, Option.bind_some, if_neg i1z, if_pos m3]
  | succ d ih =>
    intro S Od G nx fr nd no sz na nn nr ns rc qc o φ wt pl tl iT wT iB lB aB iC aC iM aM s i j B hd hs hi hj
    have B' := B
    obtain ⟨P, -⟩ := B'
    obtain ⟨p46, ⟨t1, t2, t3, t4, t5, t6, tR, tW, tT⟩, PM, PD⟩ := P
    have hn := tR.1
    have hfr : fr ≤ n := Nat.le_trans tT.1 tT.2.1
    obtain ⟨i, rfl⟩ : ∃ k, i = k + 1 := ⟨i - 1, by omega⟩
    obtain ⟨j, rfl⟩ : ∃ k, j = k + 1 := ⟨j - 1, by omega⟩
    by_cases h4 : iT 4 = 1
    · have m3 := (end_tok tT).mp h4
      refine Or.inl ⟨S, Od, G, nx, fr, nd, no, sz, na, nn, nr, ns, rc, qc, o, φ, wt, pl, tl, iT, wT, iB, lB, aB, iC, aC, iM, aM, ?_, ?_, B, FrI.rfl, FrA.rfl⟩
      · have sle : ¬ nI n < nI s := Int32.not_lt.mpr (nI_le (a := s) (b := n) (by omega) (by omega))
        rw [f_R_takeIn_40, if_neg sle, if_pos h3, if_pos h4]
        unfold f_R_takeIn_136
        rw [if_pos h3]
      · rw [f_M_read_76, p46, M_fine0, Option.bind_some, if_neg i1z, if_pos m3]
    · obtain ⟨q, r, st, l1, l2⟩ := lp_step (s := s) (jR := jR) (jT := jT) (jw := jw) (jB := jB) (jl := jl) (jb := jb) (jC := jC) (ja := ja) (jM := jM) (jA := jA) hN B h3 h4 (by omega)
      rw [l1, l2]
      rcases st with ⟨S', Od', G', nx', fr', nd', no', sz', na', nn', nr', ns', rc', qc', o', φ', wt', pl', tl', iT', wT', iB', lB', aB', iC', aC', X, Y, e1, e2, e3, B2, f1, f2⟩ | ⟨F, p, iR', z, X, Y, e1, e2, F1, F2, F3, F4, F5, F6, F7, f1, f2⟩
      · rw [e1, e2, Option.bind_some, Option.bind_some]
        exact LpO.mono f1 f2 (ih S' Od' G' nx' fr' nd' no' sz' na' nn' nr' ns' rc' qc' o' φ' wt' pl' tl' iT' wT' iB' lB' aB' iC' aC' X Y (s + 1) i j B2 (by omega) (by omega) (by omega) (by omega))
      · rw [e1, e2, Option.bind_some, Option.bind_some]
        obtain ⟨i, rfl⟩ : ∃ k, i = k + 1 := ⟨i - 1, by omega⟩
        obtain ⟨j, rfl⟩ : ∃ k, j = k + 1 := ⟨j - 1, by omega⟩
        have nz : ¬ iR' 3 = 0 := fun h => by
          rw [F4] at h
          have := (nI_eq (b := 0) (by omega) (by omega)).mp h
          omega
        refine Or.inr ⟨F, p, iR', z, X, Y, ?_, ?_, F1, F2, F3, F4, F5, F6, F7, f1, f2⟩
        · rw [f_R_takeIn_40]
          unfold f_R_takeIn_136
          by_cases c : nI n < nI (s + 1)
          · rw [if_pos c, if_neg nz]
          · rw [if_neg c, if_neg nz, if_neg nz]
        · show f_M_read_76 N jM jA (j + 1) X Y = _
          rw [f_M_read_76, F6, fine_bad F1 F2, Option.bind_some, if_pos rfl]
