/-! AND's and OR's rows, whole -/
theorem all_word {N n d fr nx p c1 : Nat} {tx t0 iR iT iB iC : Nat → Int32} {wT : Int64} {lB : Nat → Nat → Int64} {aB aC : Nat → Nat → Int32} {m3 m5 m6 : Int32} {z : (Nat → Int32) × (Nat → Int32) × Int64 × (Nat → Int32) × (Nat → Nat → Int64) × (Nat → Int32) × (Nat → Nat → Int32)} (hN : 100000 ≤ N) (hd : d ≤ 12) (H : RTape n tx t0) (T : Tok n tx nx fr (iT 4) wT m3 m5 m6) (hp : p ≤ fr) (ha : p < n → an (tx p) = false) (hc : c1 < 200) (h : f_R_takeAll N (f_R_takeOne N (14 - d)) (nI d) iR iT wT tx iB lB aB iC aC = some (nI c1, z)) : p + 1 ≤ fr + (if wT = lN 40 then 1 else 0) := by
  by_cases e : wT = lN 40
  · rw [if_pos e]; omega
  · rw [if_neg e]
    obtain ⟨q, -, q2⟩ := beg_eq hN H T
    rcases q2 with ⟨q2, -⟩ | ⟨-, -, q2⟩
    · exact absurd q2 e
    · rcases q2 with ⟨-, m, -⟩ | ⟨i, -, -, -, m, -⟩ | ⟨-, b, -⟩
      · exact word_gap T hp ha m
      · exact word_gap T hp ha m
      · exfalso
        have h1 : f_R_takeOne N (14 - d) (nI d) iR iT wT tx iB lB aB iC aC = some (-1, us iR [(3, if iT 4 = 0 then 1 else 2), (4, iT 3)], iT, wT, iB, lB, iC, aC) := by
          rw [show 14 - d = (13 - d) + 1 by omega, f_R_takeOne]
          unfold f_R_takeOneB
          rw [b, Option.bind_some, if_pos rfl, R_misp, Option.bind_some]
        unfold f_R_takeAll at h
        obtain ⟨M, rfl⟩ : ∃ M, N = M + 1 := ⟨N - 1, by omega⟩
        rw [h1, Option.bind_some, show (0 : Int32) = nI 0 from rfl, ta_bad] at h
        have := congrArg (fun o => o.map (fun x => x.1)) h
        simp only [Option.map_some, Option.some.injEq] at this
        exact nI_neg1 (by omega) this.symm
theorem all_of {N n : Nat} {tx : Nat → Int32} {S Od d W nx fr nd no sz na nn nr : Nat} {o φ wt pl : Nat → Nat} {iR iT : Nat → Int32} {wT : Int64} {iB : Nat → Int32} {lB : Nat → Nat → Int64} {aB : Nat → Nat → Int32} {iC : Nat → Int32} {aC : Nat → Nat → Int32} {iM : Nat → Int32} {aM : Nat → Nat → Int32} {jI : Nat → Int32} {jA : Nat → Nat → Int32} (hN : 100000 ≤ N) (hd : d ≤ 12) (IH : P1 N n tx S Od d) (P : PS n tx S Od nx fr nd no sz na nn nr o φ wt pl iT wT iB lB iC aC iM aM) (h56 : iM 56 = nI 1) (h54 : iM 54 = nI W) (h49 : iM 49 = nI d) (hW1 : 1 ≤ W) (hW : W + 1 ≤ 3 + 3 * d) (hTop : TopK 6 W nd aM) : ConO N n tx S Od d W fr nd no sz nn nr o φ wt pl wT iR iB aC iM aM jI jA 6 1 (fun w => True ∧ ¬ w = lN 6385252) (f_R_takeAll N (f_R_takeOne N (14 - d)) (nI d) iR iT wT tx iB lB aB iC aC) := by
  have h2 : ¬ aM 52 (W - 1) = nI 2 := fun z => by
    rcases hTop with h | h | ⟨-, h, -⟩ <;> (rw [z] at h; revert h; decide)
  have F1 := one_con (K := 6) hN (IH W nx fr nd no sz na nn nr o φ wt pl iR iT wT iB lB aB iC aC iM aM jI jA P h56 h54 hW1 (by omega) h49) hW1 (by omega) h2
  unfold f_R_takeAll
  rcases F1 with ⟨c, m, nx', fr', nd', no', sz', na', nn', nr', o', φ', wt', pl', iT', wT', iB', lB', iC', aC', X, Y, Xa, Ya, k, kk, E1, E2, E3, E4, E5, E6, E7, E8⟩ | ⟨F, p, k, v, X, Y, iR', z, g1, g2⟩
  · have hcs : c < 200 := by
      obtain ⟨j2, hj2, hjm2⟩ := E2.2.2.2.2.2.2.2.2.1
      have h10 := E2.2.2.2.2.2.2.2.2.2.1
      have hN2 := E2.1.2.2.2
      have h12 := (hN2.2.2.2.2.2.2.2.2.2.2.2.1 j2 hj2).2.2.1
      have := hN2.1
      have := hN2.2.2.1
      rw [hjm2, h10] at h12
      omega
    rw [E1, Option.bind_some]
    exact bet_loop (fun i v2 v3 xR xT w xB xl xC xa => f_R_takeAll_8 N (f_R_takeOne N (14 - d)) iR iT wT tx iB lB aB iC aC (nI d) i v2 v3 xR xT w xB xl xC xa) (fun xR xT w xB xl xC xa => f_R_takeOne N (14 - d) (nI d) xR xT w tx xB xl aB xC xa) (jI := jI) (jA := jA) (wT := wT) (iM := iM) (aM := aM) (iR := iR) (kw := lN 6385252) (E := fun _ => True) hN (Or.inl rfl) (by decide) rfl (fun i c v3 iT w iB lB iC aC a1 a2 a3 => ta_stop i c v3 iT w iB lB iC aC a1 a2 a3) (fun i c v3 iT iB lB iC aC a1 a2 a3 => ta_full i c v3 iT iB lB iC aC a1 a2 a3) (fun i c v3 nd nx1 fr1 iT iB lB iC aC c4 w1 a1 a2 a3 a4 a5 => ta_go i c v3 nd nx1 fr1 iT iB lB iC aC c4 w1 a1 a2 a3 a4 a5) (fun iT w iB lB iC aC nx fr p c t0 m3 m5 m6 z a1 a2 a3 a4 a5 a6 => op_word hN hd a1 a2 a3 a4 a5 a6) (fun nx fr nd no sz na nn nr o φ wt pl iT w iB lB iC aC X Y a1 a2 a3 a4 a5 a6 => one_con hN (IH (W + 1) nx fr nd no sz na nn nr o φ wt pl iR iT w iB lB aB iC aC X Y jI jA a1 a2 a3 (by omega) (by omega) a4) (by omega) (by omega) (show ¬ Y 52 W = nI 2 by rw [a5]; decide)) hW1 (by omega) hTop 201 N 0 k kk c m nx' fr' nd' no' sz' na' nn' nr' o' φ' wt' pl' iT' wT' iB' lB' iC' aC' X Y Xa Ya (by omega) (by omega) (by omega) E2 E3 E4 (by omega) E6 trivial E8
  · refine Or.inr ⟨F, p, k, v, X, Y, iR', z, ?_, g2⟩
    rw [g1, Option.bind_some]
    obtain ⟨M, hM⟩ : ∃ M, N = M + 1 := ⟨N - 1, by omega⟩
    have B := ta_bad (N := N) (one := (f_R_takeOne N (14 - d))) (jR := iR) (jT := iT) (jw := wT) (tx := tx) (jB := iB) (jl := lB) (aB := aB) (jC := iC) (ja := aC) (v1 := nI d) (i := M) (v3 := 0) (iR := iR') (iT := z.1) (w := z.2.1) (iB := z.2.2.1) (lB := z.2.2.2.1) (iC := z.2.2.2.2.1) (aC := z.2.2.2.2.2)
    rw [← hM] at B
    exact B
theorem con_of {N n : Nat} {tx : Nat → Int32} {S Od d W nx fr nd no sz na nn nr : Nat} {o φ wt pl : Nat → Nat} {iR iT : Nat → Int32} {wT : Int64} {iB : Nat → Int32} {lB : Nat → Nat → Int64} {aB : Nat → Nat → Int32} {iC : Nat → Int32} {aC : Nat → Nat → Int32} {iM : Nat → Int32} {aM : Nat → Nat → Int32} {jI : Nat → Int32} {jA : Nat → Nat → Int32} (hN : 100000 ≤ N) (hd : d ≤ 12) (IH : P1 N n tx S Od d) (P : PS n tx S Od nx fr nd no sz na nn nr o φ wt pl iT wT iB lB iC aC iM aM) (h56 : iM 56 = nI 1) (h54 : iM 54 = nI W) (h49 : iM 49 = nI d) (hW1 : 1 ≤ W) (hW : W + 2 ≤ 3 + 3 * d) (hTop : TopK 7 W nd aM) : ConO N n tx S Od d W fr nd no sz nn nr o φ wt pl wT iR iB aC iM aM jI jA 7 2 (fun w => (True ∧ ¬ w = lN 6385252) ∧ ¬ w = lN 28530) (f_R_takeConcept N (f_R_takeOne N (14 - d)) (nI d) iR iT wT tx iB lB aB iC aC) := by
  have hT6 : TopK 6 W nd aM := by
    rcases hTop with h | h | ⟨h, -⟩
    · exact Or.inl h
    · exact Or.inr (Or.inl h)
    · exact absurd h (by decide)
  have F1 := (all_of (iR := iR) (aB := aB) (jI := jI) (jA := jA) hN hd IH P h56 h54 h49 hW1 (by omega) hT6).weak (show 6 ≤ 7 by decide)
  unfold f_R_takeConcept
  rcases F1 with ⟨c, m, nx', fr', nd', no', sz', na', nn', nr', o', φ', wt', pl', iT', wT', iB', lB', iC', aC', X, Y, Xa, Ya, k, kk, E1, E2, E3, E4, E5, E6, E7, E8⟩ | ⟨F, p, k, v, X, Y, iR', z, g1, g2⟩
  · have hcs : c < 200 := by
      obtain ⟨j2, hj2, hjm2⟩ := E2.2.2.2.2.2.2.2.2.1
      have h10 := E2.2.2.2.2.2.2.2.2.2.1
      have hN2 := E2.1.2.2.2
      have h12 := (hN2.2.2.2.2.2.2.2.2.2.2.2.1 j2 hj2).2.2.1
      have := hN2.1
      have := hN2.2.2.1
      rw [hjm2, h10] at h12
      omega
    rw [E1, Option.bind_some]
    exact bet_loop (fun i v2 v3 xR xT w xB xl xC xa => f_R_takeConcept_8 N (f_R_takeOne N (14 - d)) iR iT wT tx iB lB aB iC aC (nI d) i v2 v3 xR xT w xB xl xC xa) (fun xR xT w xB xl xC xa => f_R_takeAll N (f_R_takeOne N (14 - d)) (nI d) xR xT w tx xB xl aB xC xa) (jI := jI) (jA := jA) (wT := wT) (iM := iM) (aM := aM) (iR := iR) (kw := lN 28530) (E := fun w => True ∧ ¬ w = lN 6385252) hN (Or.inr rfl) (by decide) rfl (fun i c v3 iT w iB lB iC aC a1 a2 a3 => tcn_stop i c v3 iT w iB lB iC aC a1 a2 a3) (fun i c v3 iT iB lB iC aC a1 a2 a3 => tcn_full i c v3 iT iB lB iC aC a1 a2 a3) (fun i c v3 nd nx1 fr1 iT iB lB iC aC c4 w1 a1 a2 a3 a4 a5 => tcn_go i c v3 nd nx1 fr1 iT iB lB iC aC c4 w1 a1 a2 a3 a4 a5) (fun iT w iB lB iC aC nx fr p c t0 m3 m5 m6 z a1 a2 a3 a4 a5 a6 => all_word hN hd a1 a2 a3 a4 a5 a6) (fun nx fr nd no sz na nn nr o φ wt pl iT w iB lB iC aC X Y a1 a2 a3 a4 a5 a6 => (all_of (iR := iR) (aB := aB) (jI := jI) (jA := jA) hN hd IH a1 a2 a3 a4 (by omega) (by omega) (Or.inr (Or.inr ⟨rfl, a5, a6⟩))).weak (show 6 ≤ 7 by decide)) hW1 (by omega) hTop 201 N 0 k kk c m nx' fr' nd' no' sz' na' nn' nr' o' φ' wt' pl' iT' wT' iB' lB' iC' aC' X Y Xa Ya (by omega) (by omega) (by omega) E2 E3 E4 (by omega) E6 E7 E8
  · refine Or.inr ⟨F, p, k, v, X, Y, iR', z, ?_, g2⟩
    rw [g1, Option.bind_some]
    obtain ⟨M, hM⟩ : ∃ M, N = M + 1 := ⟨N - 1, by omega⟩
    have B := tcn_bad (N := N) (one := (f_R_takeOne N (14 - d))) (jR := iR) (jT := iT) (jw := wT) (tx := tx) (jB := iB) (jl := lB) (aB := aB) (jC := iC) (ja := aC) (v1 := nI d) (i := M) (v3 := 0) (iR := iR') (iT := z.1) (w := z.2.1) (iB := z.2.2.1) (lB := z.2.2.2.1) (iC := z.2.2.2.2.1) (aC := z.2.2.2.2.2)
    rw [← hM] at B
    exact B
