/-! one concept read, of both, at every depth -/
theorem p1_step {N n : Nat} {tx : Nat → Int32} {S Od d : Nat} (hN : 100000 ≤ N) (hd : d ≤ 12) (IH : d < 12 → P1 N n tx S Od (d + 1)) : P1 N n tx S Od d := by
  intro W nx fr nd no sz na nn nr o φ wt pl iR iT wT iB lB aB iC aC iM aM jI jA P h56 h54 hW1 hW h49
  have P' := P
  obtain ⟨p46, ⟨t1, t2, t3, t4, t5, t6, tR, tW, tT⟩, PM, PD⟩ := P'
  have hn := tR.1
  have hfr : fr ≤ n := Nat.le_trans tT.1 tT.2.1
  have hnd := PD.1
  obtain ⟨q, q1, q2⟩ := beg_eq hN tR tT
  rcases q2 with ⟨a1, a2, a3, a4, a5, a6, a7⟩ | ⟨a1, a2, a3⟩
  · by_cases h : d < 12
    · exact one_brk hN h (IH h) P h56 h54 h49 hW1 hW ⟨q, q1⟩ a1 a2 a3 a4 a5 a6 a7
    · have d12 : d = 12 := by omega
      subst d12
      refine Or.inr (flt_now (F := 3) (p := fr) (X := us iM [(46, 3), (47, nI fr), (49, nI 12)]) (Y := aM) (iR' := us iR [(3, 3), (4, iT 3)]) (by omega) p46 h56 ?_ (by decide) (by decide) (by omega) rfl t5 ?_ rfl rfl (fri_us rfl) FrA.rfl)
      · rw [to_deep a6 a7]
        exact ⟨_, rfl⟩
      · unfold f_M_readOne
        rw [t6, tW, q1, Option.bind_some]
        have sg : f_M_isSignHere 40 (iM 3) (iM 6) = some 1 := by
          unfold f_M_isSignHere
          rw [if_pos a3, if_pos a4]
        rw [sg, Option.bind_some, if_neg i1z]
        unfold f_M_goesDeeper
        rw [h49, if_pos (show nI 12 = (12 : Int32) from rfl), p46, M_wrong0]
        rfl
  · rcases a3 with ⟨b1, b2, b3, b4, b5⟩ | ⟨i, b1, b2, b3, b4, b5, b6, b7, b8⟩ | ⟨b1, b2, b3⟩
    · by_cases h : nd = 200
      · subst h
        exact one_full hd P h56 a1 b2 q1 a2 b4 b5 (Or.inl rfl) (Or.inl b3)
      · exact one_name hN hd P (by omega) h56 h54 h49 a1 b1 (by rw [q1, b3]) a2 b4 b5
    · by_cases h : nd = 200
      · subst h
        refine one_full hd P h56 a1 b4 q1 a2 b7 b8 ?_ (Or.inr ⟨i, b1, b2, b5⟩)
        by_cases e : i < 8
        · rw [if_pos e]; exact Or.inr rfl
        · rw [if_neg e]; exact Or.inl rfl
      · have hnd' : nd < 200 := by omega
        by_cases e : i < 8
        · rw [if_pos e] at b8
          by_cases h : d < 12
          · by_cases h5 : i = 5
            · exact one_not hN h5 h (IH h) hW1 hW P hnd' h56 h54 h49 a1 b4 (by rw [q1, b5]) a2 b7 b8 b6
            · exact one_qu hN (show i = 6 ∨ i = 7 by omega) h (IH h) hW1 hW P hnd' h56 h54 h49 a1 b4 (by rw [q1, b5]) a2 b7 b8 b6
          · exact one_deep hN b1 e (by omega) P hnd' h56 h54 h49 a1 b4 (by rw [q1, b5]) a2 b7 b8 b6
        · rw [if_neg e] at b8
          exact one_top hN hd P hnd' h56 h54 h49 a1 b4 (by rw [q1, b5]) a2 b7 b8 (by omega) b6
    · exact one_mis hd P h56 q1 a2 b2 b3
theorem p1_all {N n : Nat} {tx : Nat → Int32} {S Od : Nat} (hN : 100000 ≤ N) : ∀ e d : Nat, d + e = 12 → P1 N n tx S Od d := by
  intro e
  induction e with
  | zero => intro d hd; exact p1_step hN (by omega) (fun h => absurd h (by omega))
  | succ e ih => intro d hd; exact p1_step hN (by omega) (fun _ => ih (d + 1) (by omega))
