/-! all rounds, of both -/
/-- a round that takes nothing: all that stand are met -/
def Fxp (N n nr : Nat) (m29 ax m59 m60 sd stood : Nat → Int32) : Prop := ∀ s, s < 2 ^ n → stood s = sd s ∧ (sd s = 1 → f_M_isMet_stood N (nI s) (nI nr) (nI n) m29 ax m59 m60 stood = some 1)
theorem gr_standing {N n nr S RA R Q : Nat} {c5 k5 k6 m60 m59 m29 ax m15 m16 m17 m19 m57 m61 m62 m63 rk1 rk2 sd stood : Nat → Int32} {pt row l11 l12 : Nat → Int64} {i20 i64 i65 mf v3m : Int32} {kk : Int32 → Int32 → (Nat → Int32) → (Nat → Int32) → (Nat → Int32) → Option (Int32 × Int32 × (Nat → Int32) × (Nat → Int32) × (Nat → Int32))} (hN : 100000 ≤ N) (H : RKd n nr S c5 k5 k6 m60 m59 m29 pt ax) (hra : RRa n RA c5 k6) (hR : R ≤ 512) (hQ : Q ≤ 512) (hrs : RSt n row sd) : ∃ (v' : Int32) (row' bf' met' : Nat → Int64) (rk1' rk2' sd' stood' : Nat → Int32), f_K_goRound_standing N (nI R) (nI S) (nI n) c5 (nI (2 ^ n)) (nI RA) pt row l11 l12 k5 k6 rk1 = some (v', row', bf', met', rk1') ∧ f_M_sift_95 N i20 (nI nr) (nI n) i64 i65 m15 m16 m17 m19 m29 m57 ax m59 m60 m61 m62 m63 kk mf v3m (nI Q) (0 : Int32) rk2 sd N (0 : Int32) stood = kk (nI Q + v') v' rk2' sd' stood' ∧ isZ v' ∧ RSt n row' sd' ∧ (v' = 0 → (∀ s, s < 2 ^ n → sd' s = sd s) ∧ rk2' = rk2) ∧ (v' = 1 → cnt sd' (2 ^ n) < cnt sd (2 ^ n)) ∧ ((∀ s, s < 2 ^ n → rk1 s = rk2 s) → R = Q + 1 → ¬ mf = 0 → ∀ s, s < 2 ^ n → rk1' s = rk2' s) ∧ (mf = 0 → rk2' = rk2) ∧ (R = 0 → rk1' = rk1)  ∧ (v' = 0 → Fxp N n nr m29 ax m59 m60 sd' stood') := by
  obtain ⟨hn, hnr, hS, hp, hf, ho, hcs, h29⟩ := id H
  have h9 := pw9_le n (by omega)
  obtain ⟨s0, e0, e1⟩ := sc_loop (N := N) (nr := nr) (i20 := i20) (i64 := i64) (i65 := i65) (m15 := m15) (m16 := m16) (m17 := m17) (m19 := m19) (m29 := m29) (m57 := m57) (ax := ax) (m59 := m59) (m60 := m60) (m61 := m61) (m62 := m62) (m63 := m63) (kk := kk) (mf := mf) (v3m := v3m) (v4 := nI Q) (v5 := 0) (rk2 := rk2) hn (fun s hs => (hrs.1 s hs).1) (2 ^ n) N 0 stood (by omega) (by omega) (fun s h => absurd h (by omega))
  unfold f_K_goRound_standing
  have hs0 : RSt n (va_cpy row l11 ((0 : Int32)).toNatClampNeg ((0 : Int32)).toNatClampNeg ((8 : Int32)).toNatClampNeg) s0 := ⟨fun s hs => by rw [cpy_tb (by omega), e1 s hs]; exact hrs.1 s hs, fun s h1 h2 => by rw [cpy_tb h2]; exact hrs.2 s h1 h2⟩
  obtain ⟨v', row', met', rk1', rk2', sd', a1, a2, a3, a4, a5, a6, a7, a8, a9, a10, a11⟩ := gl_standing (i20 := i20) (i64 := i64) (i65 := i65) (m15 := m15) (m16 := m16) (m17 := m17) (m19 := m19) (m57 := m57) (m61 := m61) (m62 := m62) (m63 := m63) (l9 := row) (l11 := l11) (l12 := l12) (k13 := rk1) (kk := kk) (mf := mf) (v3m := v3m) hN H hra hs0 hR hQ (2 ^ n) N N 0 0 row l12 rk1 rk2 sd (by omega) (by omega) (by omega) (Or.inl rfl) hrs (fun s _ hs => (e1 s hs).symm) (fun u hu => absurd hu (by omega))
  refine ⟨v', row', _, met', rk1', rk2', sd', s0, a1, (show _ = _ from e0).trans a2, a3, a4, fun h => (a6 h).2, fun h => ?_, a8, a9, a10, fun h s hs => ⟨(e1 s hs).trans ((a6 h).2.1 s hs).symm, fun q => a11 h s (by omega) hs ((e1 s hs).trans (((a6 h).2.1 s hs).symm.trans q))⟩⟩
  rcases a7 h with q | q
  · exact absurd q (by decide)
  · exact cnt_lt a5 q

theorem gr_trial {N n nr S RA R Q : Nat} {c5 k5 k6 m60 m59 m29 ax m15 m16 m17 m19 m57 m61 m62 m63 rk1 rk2 sd stood : Nat → Int32} {pt row l11 l12 : Nat → Int64} {i20 i64 i65 mf v3m : Int32} {kk : Int32 → Int32 → (Nat → Int32) → (Nat → Int32) → (Nat → Int32) → Option (Int32 × Int32 × (Nat → Int32) × (Nat → Int32) × (Nat → Int32))} (hN : 100000 ≤ N) (H : RKd n nr S c5 k5 k6 m60 m59 m29 pt ax) (hra : RRa n RA c5 k6) (hR : R ≤ 512) (hQ : Q ≤ 512) (hrs : RSt n row sd) : ∃ (v' : Int32) (row' bf' met' : Nat → Int64) (rk1' rk2' sd' stood' : Nat → Int32), f_K_goRound_trial N (nI R) (nI S) (nI n) c5 (nI (2 ^ n)) (nI RA) pt row l11 l12 k5 k6 rk1 = some (v', row', bf', met', rk1') ∧ f_M_sift_95 N i20 (nI nr) (nI n) i64 i65 m15 m16 m17 m19 m29 m57 ax m59 m60 m61 m62 m63 kk mf v3m (nI Q) (0 : Int32) rk2 sd N (0 : Int32) stood = kk (nI Q + v') v' rk2' sd' stood' ∧ isZ v' ∧ RSt n row' sd' ∧ (v' = 0 → (∀ s, s < 2 ^ n → sd' s = sd s) ∧ rk2' = rk2) ∧ (v' = 1 → cnt sd' (2 ^ n) < cnt sd (2 ^ n)) ∧ ((∀ s, s < 2 ^ n → rk1 s = rk2 s) → R = Q + 1 → ¬ mf = 0 → ∀ s, s < 2 ^ n → rk1' s = rk2' s) ∧ (mf = 0 → rk2' = rk2) ∧ (R = 0 → rk1' = rk1)  ∧ (v' = 0 → Fxp N n nr m29 ax m59 m60 sd' stood') := by
  obtain ⟨hn, hnr, hS, hp, hf, ho, hcs, h29⟩ := id H
  have h9 := pw9_le n (by omega)
  obtain ⟨s0, e0, e1⟩ := sc_loop (N := N) (nr := nr) (i20 := i20) (i64 := i64) (i65 := i65) (m15 := m15) (m16 := m16) (m17 := m17) (m19 := m19) (m29 := m29) (m57 := m57) (ax := ax) (m59 := m59) (m60 := m60) (m61 := m61) (m62 := m62) (m63 := m63) (kk := kk) (mf := mf) (v3m := v3m) (v4 := nI Q) (v5 := 0) (rk2 := rk2) hn (fun s hs => (hrs.1 s hs).1) (2 ^ n) N 0 stood (by omega) (by omega) (fun s h => absurd h (by omega))
  unfold f_K_goRound_trial
  have hs0 : RSt n (va_cpy row l11 ((0 : Int32)).toNatClampNeg ((0 : Int32)).toNatClampNeg ((8 : Int32)).toNatClampNeg) s0 := ⟨fun s hs => by rw [cpy_tb (by omega), e1 s hs]; exact hrs.1 s hs, fun s h1 h2 => by rw [cpy_tb h2]; exact hrs.2 s h1 h2⟩
  obtain ⟨v', row', met', rk1', rk2', sd', a1, a2, a3, a4, a5, a6, a7, a8, a9, a10, a11⟩ := gl_trial (i20 := i20) (i64 := i64) (i65 := i65) (m15 := m15) (m16 := m16) (m17 := m17) (m19 := m19) (m57 := m57) (m61 := m61) (m62 := m62) (m63 := m63) (l9 := row) (l11 := l11) (l12 := l12) (k13 := rk1) (kk := kk) (mf := mf) (v3m := v3m) hN H hra hs0 hR hQ (2 ^ n) N N 0 0 row l12 rk1 rk2 sd (by omega) (by omega) (by omega) (Or.inl rfl) hrs (fun s _ hs => (e1 s hs).symm) (fun u hu => absurd hu (by omega))
  refine ⟨v', row', _, met', rk1', rk2', sd', s0, a1, (show _ = _ from e0).trans a2, a3, a4, fun h => (a6 h).2, fun h => ?_, a8, a9, a10, fun h s hs => ⟨(e1 s hs).trans ((a6 h).2.1 s hs).symm, fun q => a11 h s (by omega) hs ((e1 s hs).trans (((a6 h).2.1 s hs).symm.trans q))⟩⟩
  rcases a7 h with q | q
  · exact absurd q (by decide)
  · exact cnt_lt a5 q

theorem s1_standing {N n nr S RA R i i' : Nat} {c5 k5 k6 m60 m59 m29 ax m15 m16 m17 m19 m57 m61 m62 m63 rk1 rk2 sd stood : Nat → Int32} {pt l9 l11 l12 row bf met : Nat → Int64} {k13 : Nat → Int32} {i20 i64 i65 cf mf v3m : Int32} (hN : 100000 ≤ N) (H : RKd n nr S c5 k5 k6 m60 m59 m29 pt ax) (hra : RRa n RA c5 k6) (hR : R < 512) (hrs : RSt n row sd) : ∃ (v' : Int32) (row' bf' met' : Nat → Int64) (rk1' rk2' sd' stood' : Nat → Int32), f_K_settle_standing_2 N (nI S) (nI n) c5 (nI (2 ^ n)) (nI RA) pt l9 l11 l12 k5 k6 k13 cf (i + 1) (nI (R + 1)) row bf met rk1 = (if v' = 0 then some (nI R, row', bf', met', rk1') else f_K_settle_standing_2 N (nI S) (nI n) c5 (nI (2 ^ n)) (nI RA) pt l9 l11 l12 k5 k6 k13 cf i (nI (R + 2)) row' bf' met' rk1') ∧ f_M_sift_84 N i20 (nI nr) (nI n) i64 i65 m15 m16 m17 m19 m29 m57 ax m59 m60 m61 m62 m63 mf v3m (i' + 1) (nI R) 1 rk2 sd stood = f_M_sift_84 N i20 (nI nr) (nI n) i64 i65 m15 m16 m17 m19 m29 m57 ax m59 m60 m61 m62 m63 mf v3m i' (nI R + v') v' rk2' sd' stood' ∧ isZ v' ∧ RSt n row' sd' ∧ (v' = 1 → cnt sd' (2 ^ n) < cnt sd (2 ^ n)) ∧ ((∀ s, s < 2 ^ n → rk1 s = rk2 s) → ¬ cf = 0 → ¬ mf = 0 → ∀ s, s < 2 ^ n → rk1' s = rk2' s) ∧ (mf = 0 → rk2' = rk2) ∧ (cf = 0 → rk1' = rk1)  ∧ (v' = 0 → Fxp N n nr m29 ax m59 m60 sd' stood') := by
  obtain ⟨R', hR', hRe, hcf0, hcf1⟩ : ∃ R' : Nat, R' ≤ 512 ∧ (if cf = 0 then f_K_settle_standing_20 N (nI S) (nI n) c5 (nI (2 ^ n)) (nI RA) pt l9 l11 l12 k5 k6 k13 (f_K_settle_standing_2 N (nI S) (nI n) c5 (nI (2 ^ n)) (nI RA) pt l9 l11 l12 k5 k6 k13 cf i) cf (nI (R + 1)) (0 : Int32) row bf met rk1 else f_K_settle_standing_20 N (nI S) (nI n) c5 (nI (2 ^ n)) (nI RA) pt l9 l11 l12 k5 k6 k13 (f_K_settle_standing_2 N (nI S) (nI n) c5 (nI (2 ^ n)) (nI RA) pt l9 l11 l12 k5 k6 k13 cf i) cf (nI (R + 1)) (nI (R + 1)) row bf met rk1) = f_K_settle_standing_20 N (nI S) (nI n) c5 (nI (2 ^ n)) (nI RA) pt l9 l11 l12 k5 k6 k13 (f_K_settle_standing_2 N (nI S) (nI n) c5 (nI (2 ^ n)) (nI RA) pt l9 l11 l12 k5 k6 k13 cf i) cf (nI (R + 1)) (nI R') row bf met rk1 ∧ (cf = 0 → R' = 0) ∧ (¬ cf = 0 → R' = R + 1) := by
    by_cases h : cf = 0
    · rw [if_pos h]; exact ⟨0, by omega, rfl, fun _ => rfl, fun q => absurd h q⟩
    · rw [if_neg h]; exact ⟨R + 1, by omega, rfl, fun q => absurd q h, fun _ => rfl⟩
  obtain ⟨v', row', bf', met', rk1', rk2', sd', stood', a1, a2, a3, a4, a5, a6, a7, a8, a9, a10⟩ := gr_standing (R := R') (Q := R) (i20 := i20) (i64 := i64) (i65 := i65) (m15 := m15) (m16 := m16) (m17 := m17) (m19 := m19) (m57 := m57) (m61 := m61) (m62 := m62) (m63 := m63) (l11 := bf) (l12 := met) (rk1 := rk1) (rk2 := rk2) (stood := stood) (kk := f_M_sift_84 N i20 (nI nr) (nI n) i64 i65 m15 m16 m17 m19 m29 m57 ax m59 m60 m61 m62 m63 mf v3m i') (mf := mf) (v3m := v3m) hN H hra hR' (by omega) hrs
  refine ⟨v', row', bf', met', rk1', rk2', sd', stood', ?_, ?_, a3, a4, a6, fun q1 q2 q3 => a7 q1 (hcf1 q2) q3, a8, fun q => a9 (hcf0 q), a10⟩
  · rw [f_K_settle_standing_2, if_neg (show ¬ (512 : Int32) < nI (R + 1) from nI_nlt (show R + 1 ≤ 512 by omega) (by decide)), hRe]
    unfold f_K_settle_standing_20
    rw [a1, Option.bind_some, nI_pred, nI_m]
  · rw [f_M_sift_84, if_neg i1z]
    exact a2
theorem st_standing {N n nr S RA : Nat} {c5 k5 k6 m60 m59 m29 ax m15 m16 m17 m19 m57 m61 m62 m63 : Nat → Int32} {pt l9 l11 l12 : Nat → Int64} {k13 : Nat → Int32} {i20 i64 i65 cf mf v3m : Int32} (hN : 100000 ≤ N) (H : RKd n nr S c5 k5 k6 m60 m59 m29 pt ax) (hra : RRa n RA c5 k6) : ∀ (c R i i' : Nat) (row bf met : Nat → Int64) (rk1 rk2 sd stood : Nat → Int32), RSt n row sd → cnt sd (2 ^ n) ≤ c → c + R = 512 → c + 3 < i → c + 3 < i' → ∃ (q : Nat) (row' bf' met' : Nat → Int64) (rk1' rk2' sd' stood' : Nat → Int32), q ≤ 512 ∧ f_K_settle_standing_2 N (nI S) (nI n) c5 (nI (2 ^ n)) (nI RA) pt l9 l11 l12 k5 k6 k13 cf i (nI (R + 1)) row bf met rk1 = some (nI q, row', bf', met', rk1') ∧ f_M_sift_84 N i20 (nI nr) (nI n) i64 i65 m15 m16 m17 m19 m29 m57 ax m59 m60 m61 m62 m63 mf v3m i' (nI R) 1 rk2 sd stood = some (if mf = 0 then i64 else v3m, if mf = 0 then i65 else nI q, rk2', sd', stood') ∧ RSt n row' sd' ∧ ((∀ s, s < 2 ^ n → rk1 s = rk2 s) → ¬ cf = 0 → ¬ mf = 0 → ∀ s, s < 2 ^ n → rk1' s = rk2' s) ∧ (mf = 0 → rk2' = rk2) ∧ (cf = 0 → rk1' = rk1)  ∧ Fxp N n nr m29 ax m59 m60 sd' stood' := by
  obtain ⟨hn, hnr, hS, hp, hf, ho, hcs, h29⟩ := id H
  have h9 := pw9_le n (by omega)
  have fin : ∀ (i' q : Nat) (rk2 sd stood : Nat → Int32), f_M_sift_84 N i20 (nI nr) (nI n) i64 i65 m15 m16 m17 m19 m29 m57 ax m59 m60 m61 m62 m63 mf v3m (i' + 1) (nI q) 0 rk2 sd stood = some (if mf = 0 then i64 else v3m, if mf = 0 then i65 else nI q, rk2, sd, stood) := by
    intro i' q rk2 sd stood
    rw [f_M_sift_84, if_pos rfl]
    by_cases h : mf = 0
    · rw [if_pos h, if_pos h, if_pos h]
    · rw [if_neg h, if_neg h, if_neg h]
  intro c
  induction c with
  | zero =>
    intro R i i' row bf met rk1 rk2 sd stood hrs hc hR hi hi'
    obtain ⟨i, rfl⟩ : ∃ k, i = k + 1 := ⟨i - 1, by omega⟩
    obtain ⟨i', rfl⟩ : ∃ k, i' = k + 2 := ⟨i' - 2, by omega⟩
    have hR2 : R = 512 := by omega
    subst hR2
    rw [f_K_settle_standing_2, if_pos (show (512 : Int32) < nI (512 + 1) from nI_lt (show 512 < 512 + 1 by omega) (by decide))]
    obtain ⟨v', row', bf', met', rk1', rk2', sd', stood', a1, a2, a3, a4, a5, a6, a7, a8, a9, a10⟩ := gr_standing (R := 0) (Q := 512) (i20 := i20) (i64 := i64) (i65 := i65) (m15 := m15) (m16 := m16) (m17 := m17) (m19 := m19) (m57 := m57) (m61 := m61) (m62 := m62) (m63 := m63) (l11 := bf) (l12 := met) (rk1 := rk1) (rk2 := rk2) (stood := stood) (kk := f_M_sift_84 N i20 (nI nr) (nI n) i64 i65 m15 m16 m17 m19 m29 m57 ax m59 m60 m61 m62 m63 mf v3m (i' + 1)) (mf := mf) (v3m := v3m) hN H hra (by omega) (by omega) hrs
    rw [f_M_sift_84, if_neg i1z, a2]
    rcases a3 with hv | hv
    · obtain ⟨b1, b2⟩ := a5 hv
      rw [hv, show nI 512 + 0 = nI 512 from nI_add 512 0, fin, b2]
      refine ⟨512, row, bf, met, rk1, rk2, sd', stood', by omega, rfl, rfl, ⟨fun s hs => ?_, hrs.2⟩, fun q _ _ => q, fun _ => rfl, fun _ => rfl, a10 hv⟩
      rw [b1 s hs]; exact hrs.1 s hs
    · have := a6 hv
      omega
  | succ c ih =>
    intro R i i' row bf met rk1 rk2 sd stood hrs hc hR hi hi'
    obtain ⟨i, rfl⟩ : ∃ k, i = k + 1 := ⟨i - 1, by omega⟩
    obtain ⟨i', rfl⟩ : ∃ k, i' = k + 2 := ⟨i' - 2, by omega⟩
    obtain ⟨v', row', bf', met', rk1', rk2', sd', stood', a1, a2, a3, a4, a6, a7, a8, a9, a10⟩ := s1_standing (i := i) (i' := i' + 1) (i20 := i20) (i64 := i64) (i65 := i65) (m15 := m15) (m16 := m16) (m17 := m17) (m19 := m19) (m57 := m57) (m61 := m61) (m62 := m62) (m63 := m63) (l9 := l9) (l11 := l11) (l12 := l12) (k13 := k13) (bf := bf) (met := met) (rk1 := rk1) (rk2 := rk2) (stood := stood) (cf := cf) (mf := mf) (v3m := v3m) hN H hra (show R < 512 by omega) hrs
    rw [a1, a2]
    rcases a3 with hv | hv
    · rw [if_pos hv, hv, show nI R + 0 = nI R from nI_add R 0, fin]
      exact ⟨R, row', bf', met', rk1', rk2', sd', stood', by omega, rfl, rfl, a4, a7, a8, a9, a10 hv⟩
    · rw [hv, if_neg i1z, nI_m]
      have hlt := a6 hv
      obtain ⟨q, row2, bf2, met2, rk12, rk22, sd2, stood2, b1, b2, b3, b4, b5, b6, b7, b8⟩ := ih (R + 1) i (i' + 1) row' bf' met' rk1' rk2' sd' stood' a4 (by omega) (by omega) (by omega) (by omega)
      exact ⟨q, row2, bf2, met2, rk12, rk22, sd2, stood2, b1, b2, b3, b4, fun q1 q2 q3 => b5 (a7 q1 q2 q3) q2 q3, fun q => (b6 q).trans (a8 q), fun q => (b7 q).trans (a9 q), b8⟩

theorem s1_trial {N n nr S RA R i i' : Nat} {c5 k5 k6 m60 m59 m29 ax m15 m16 m17 m19 m57 m61 m62 m63 rk1 rk2 sd stood : Nat → Int32} {pt l9 l11 l12 row bf met : Nat → Int64} {k13 : Nat → Int32} {i20 i64 i65 cf mf v3m : Int32} (hN : 100000 ≤ N) (H : RKd n nr S c5 k5 k6 m60 m59 m29 pt ax) (hra : RRa n RA c5 k6) (hR : R < 512) (hrs : RSt n row sd) : ∃ (v' : Int32) (row' bf' met' : Nat → Int64) (rk1' rk2' sd' stood' : Nat → Int32), f_K_settle_trial_2 N (nI S) (nI n) c5 (nI (2 ^ n)) (nI RA) pt l9 l11 l12 k5 k6 k13 cf (i + 1) (nI (R + 1)) row bf met rk1 = (if v' = 0 then some (nI R, row', bf', met', rk1') else f_K_settle_trial_2 N (nI S) (nI n) c5 (nI (2 ^ n)) (nI RA) pt l9 l11 l12 k5 k6 k13 cf i (nI (R + 2)) row' bf' met' rk1') ∧ f_M_sift_84 N i20 (nI nr) (nI n) i64 i65 m15 m16 m17 m19 m29 m57 ax m59 m60 m61 m62 m63 mf v3m (i' + 1) (nI R) 1 rk2 sd stood = f_M_sift_84 N i20 (nI nr) (nI n) i64 i65 m15 m16 m17 m19 m29 m57 ax m59 m60 m61 m62 m63 mf v3m i' (nI R + v') v' rk2' sd' stood' ∧ isZ v' ∧ RSt n row' sd' ∧ (v' = 1 → cnt sd' (2 ^ n) < cnt sd (2 ^ n)) ∧ ((∀ s, s < 2 ^ n → rk1 s = rk2 s) → ¬ cf = 0 → ¬ mf = 0 → ∀ s, s < 2 ^ n → rk1' s = rk2' s) ∧ (mf = 0 → rk2' = rk2) ∧ (cf = 0 → rk1' = rk1)  ∧ (v' = 0 → Fxp N n nr m29 ax m59 m60 sd' stood') := by
  obtain ⟨R', hR', hRe, hcf0, hcf1⟩ : ∃ R' : Nat, R' ≤ 512 ∧ (if cf = 0 then f_K_settle_trial_20 N (nI S) (nI n) c5 (nI (2 ^ n)) (nI RA) pt l9 l11 l12 k5 k6 k13 (f_K_settle_trial_2 N (nI S) (nI n) c5 (nI (2 ^ n)) (nI RA) pt l9 l11 l12 k5 k6 k13 cf i) cf (nI (R + 1)) (0 : Int32) row bf met rk1 else f_K_settle_trial_20 N (nI S) (nI n) c5 (nI (2 ^ n)) (nI RA) pt l9 l11 l12 k5 k6 k13 (f_K_settle_trial_2 N (nI S) (nI n) c5 (nI (2 ^ n)) (nI RA) pt l9 l11 l12 k5 k6 k13 cf i) cf (nI (R + 1)) (nI (R + 1)) row bf met rk1) = f_K_settle_trial_20 N (nI S) (nI n) c5 (nI (2 ^ n)) (nI RA) pt l9 l11 l12 k5 k6 k13 (f_K_settle_trial_2 N (nI S) (nI n) c5 (nI (2 ^ n)) (nI RA) pt l9 l11 l12 k5 k6 k13 cf i) cf (nI (R + 1)) (nI R') row bf met rk1 ∧ (cf = 0 → R' = 0) ∧ (¬ cf = 0 → R' = R + 1) := by
    by_cases h : cf = 0
    · rw [if_pos h]; exact ⟨0, by omega, rfl, fun _ => rfl, fun q => absurd h q⟩
    · rw [if_neg h]; exact ⟨R + 1, by omega, rfl, fun q => absurd q h, fun _ => rfl⟩
  obtain ⟨v', row', bf', met', rk1', rk2', sd', stood', a1, a2, a3, a4, a5, a6, a7, a8, a9, a10⟩ := gr_trial (R := R') (Q := R) (i20 := i20) (i64 := i64) (i65 := i65) (m15 := m15) (m16 := m16) (m17 := m17) (m19 := m19) (m57 := m57) (m61 := m61) (m62 := m62) (m63 := m63) (l11 := bf) (l12 := met) (rk1 := rk1) (rk2 := rk2) (stood := stood) (kk := f_M_sift_84 N i20 (nI nr) (nI n) i64 i65 m15 m16 m17 m19 m29 m57 ax m59 m60 m61 m62 m63 mf v3m i') (mf := mf) (v3m := v3m) hN H hra hR' (by omega) hrs
  refine ⟨v', row', bf', met', rk1', rk2', sd', stood', ?_, ?_, a3, a4, a6, fun q1 q2 q3 => a7 q1 (hcf1 q2) q3, a8, fun q => a9 (hcf0 q), a10⟩
  · rw [f_K_settle_trial_2, if_neg (show ¬ (512 : Int32) < nI (R + 1) from nI_nlt (show R + 1 ≤ 512 by omega) (by decide)), hRe]
    unfold f_K_settle_trial_20
    rw [a1, Option.bind_some, nI_pred, nI_m]
  · rw [f_M_sift_84, if_neg i1z]
    exact a2
theorem st_trial {N n nr S RA : Nat} {c5 k5 k6 m60 m59 m29 ax m15 m16 m17 m19 m57 m61 m62 m63 : Nat → Int32} {pt l9 l11 l12 : Nat → Int64} {k13 : Nat → Int32} {i20 i64 i65 cf mf v3m : Int32} (hN : 100000 ≤ N) (H : RKd n nr S c5 k5 k6 m60 m59 m29 pt ax) (hra : RRa n RA c5 k6) : ∀ (c R i i' : Nat) (row bf met : Nat → Int64) (rk1 rk2 sd stood : Nat → Int32), RSt n row sd → cnt sd (2 ^ n) ≤ c → c + R = 512 → c + 3 < i → c + 3 < i' → ∃ (q : Nat) (row' bf' met' : Nat → Int64) (rk1' rk2' sd' stood' : Nat → Int32), q ≤ 512 ∧ f_K_settle_trial_2 N (nI S) (nI n) c5 (nI (2 ^ n)) (nI RA) pt l9 l11 l12 k5 k6 k13 cf i (nI (R + 1)) row bf met rk1 = some (nI q, row', bf', met', rk1') ∧ f_M_sift_84 N i20 (nI nr) (nI n) i64 i65 m15 m16 m17 m19 m29 m57 ax m59 m60 m61 m62 m63 mf v3m i' (nI R) 1 rk2 sd stood = some (if mf = 0 then i64 else v3m, if mf = 0 then i65 else nI q, rk2', sd', stood') ∧ RSt n row' sd' ∧ ((∀ s, s < 2 ^ n → rk1 s = rk2 s) → ¬ cf = 0 → ¬ mf = 0 → ∀ s, s < 2 ^ n → rk1' s = rk2' s) ∧ (mf = 0 → rk2' = rk2) ∧ (cf = 0 → rk1' = rk1)  ∧ Fxp N n nr m29 ax m59 m60 sd' stood' := by
  obtain ⟨hn, hnr, hS, hp, hf, ho, hcs, h29⟩ := id H
  have h9 := pw9_le n (by omega)
  have fin : ∀ (i' q : Nat) (rk2 sd stood : Nat → Int32), f_M_sift_84 N i20 (nI nr) (nI n) i64 i65 m15 m16 m17 m19 m29 m57 ax m59 m60 m61 m62 m63 mf v3m (i' + 1) (nI q) 0 rk2 sd stood = some (if mf = 0 then i64 else v3m, if mf = 0 then i65 else nI q, rk2, sd, stood) := by
    intro i' q rk2 sd stood
    rw [f_M_sift_84, if_pos rfl]
    by_cases h : mf = 0
    · rw [if_pos h, if_pos h, if_pos h]
    · rw [if_neg h, if_neg h, if_neg h]
  intro c
  induction c with
  | zero =>
    intro R i i' row bf met rk1 rk2 sd stood hrs hc hR hi hi'
    obtain ⟨i, rfl⟩ : ∃ k, i = k + 1 := ⟨i - 1, by omega⟩
    obtain ⟨i', rfl⟩ : ∃ k, i' = k + 2 := ⟨i' - 2, by omega⟩
    have hR2 : R = 512 := by omega
    subst hR2
    rw [f_K_settle_trial_2, if_pos (show (512 : Int32) < nI (512 + 1) from nI_lt (show 512 < 512 + 1 by omega) (by decide))]
    obtain ⟨v', row', bf', met', rk1', rk2', sd', stood', a1, a2, a3, a4, a5, a6, a7, a8, a9, a10⟩ := gr_trial (R := 0) (Q := 512) (i20 := i20) (i64 := i64) (i65 := i65) (m15 := m15) (m16 := m16) (m17 := m17) (m19 := m19) (m57 := m57) (m61 := m61) (m62 := m62) (m63 := m63) (l11 := bf) (l12 := met) (rk1 := rk1) (rk2 := rk2) (stood := stood) (kk := f_M_sift_84 N i20 (nI nr) (nI n) i64 i65 m15 m16 m17 m19 m29 m57 ax m59 m60 m61 m62 m63 mf v3m (i' + 1)) (mf := mf) (v3m := v3m) hN H hra (by omega) (by omega) hrs
    rw [f_M_sift_84, if_neg i1z, a2]
    rcases a3 with hv | hv
    · obtain ⟨b1, b2⟩ := a5 hv
      rw [hv, show nI 512 + 0 = nI 512 from nI_add 512 0, fin, b2]
      refine ⟨512, row, bf, met, rk1, rk2, sd', stood', by omega, rfl, rfl, ⟨fun s hs => ?_, hrs.2⟩, fun q _ _ => q, fun _ => rfl, fun _ => rfl, a10 hv⟩
      rw [b1 s hs]; exact hrs.1 s hs
    · have := a6 hv
      omega
  | succ c ih =>
    intro R i i' row bf met rk1 rk2 sd stood hrs hc hR hi hi'
    obtain ⟨i, rfl⟩ : ∃ k, i = k + 1 := ⟨i - 1, by omega⟩
    obtain ⟨i', rfl⟩ : ∃ k, i' = k + 2 := ⟨i' - 2, by omega⟩
    obtain ⟨v', row', bf', met', rk1', rk2', sd', stood', a1, a2, a3, a4, a6, a7, a8, a9, a10⟩ := s1_trial (i := i) (i' := i' + 1) (i20 := i20) (i64 := i64) (i65 := i65) (m15 := m15) (m16 := m16) (m17 := m17) (m19 := m19) (m57 := m57) (m61 := m61) (m62 := m62) (m63 := m63) (l9 := l9) (l11 := l11) (l12 := l12) (k13 := k13) (bf := bf) (met := met) (rk1 := rk1) (rk2 := rk2) (stood := stood) (cf := cf) (mf := mf) (v3m := v3m) hN H hra (show R < 512 by omega) hrs
    rw [a1, a2]
    rcases a3 with hv | hv
    · rw [if_pos hv, hv, show nI R + 0 = nI R from nI_add R 0, fin]
      exact ⟨R, row', bf', met', rk1', rk2', sd', stood', by omega, rfl, rfl, a4, a7, a8, a9, a10 hv⟩
    · rw [hv, if_neg i1z, nI_m]
      have hlt := a6 hv
      obtain ⟨q, row2, bf2, met2, rk12, rk22, sd2, stood2, b1, b2, b3, b4, b5, b6, b7, b8⟩ := ih (R + 1) i (i' + 1) row' bf' met' rk1' rk2' sd' stood' a4 (by omega) (by omega) (by omega) (by omega)
      exact ⟨q, row2, bf2, met2, rk12, rk22, sd2, stood2, b1, b2, b3, b4, fun q1 q2 q3 => b5 (a7 q1 q2 q3) q2 q3, fun q => (b6 q).trans (a8 q), fun q => (b7 q).trans (a9 q), b8⟩
