/-! a round, of both -/
theorem sc_loop {N n nr : Nat} {m29 ax m59 m60 m15 m16 m17 m19 m57 m61 m62 m63 rk2 sd : Nat → Int32} {i20 i64 i65 mf v3m v4 v5 : Int32} {kk : Int32 → Int32 → (Nat → Int32) → (Nat → Int32) → (Nat → Int32) → Option (Int32 × Int32 × (Nat → Int32) × (Nat → Int32) × (Nat → Int32))} (hn : n ≤ 9) (hz : ∀ s, s < 2 ^ n → isZ (sd s)) : ∀ (d i t : Nat) (s0 : Nat → Int32), t + d = 2 ^ n → d < i → (∀ s, s < t → s0 s = sd s) → ∃ s0' : Nat → Int32, f_M_sift_95 N i20 (nI nr) (nI n) i64 i65 m15 m16 m17 m19 m29 m57 ax m59 m60 m61 m62 m63 kk mf v3m v4 v5 rk2 sd i (nI t) s0 = f_M_sift_127 N i20 (nI nr) (nI n) i64 i65 m15 m16 m17 m19 m29 m57 ax m59 m60 m61 m62 m63 kk mf v3m v4 s0' N v5 (0 : Int32) rk2 sd ∧ ∀ s, s < 2 ^ n → s0' s = sd s := by
  have h9 := pw9_le n (by omega)
  intro d
  induction d with
  | zero =>
    intro i t s0 ht hi hs
    obtain ⟨i, rfl⟩ : ∃ k, i = k + 1 := ⟨i - 1, by omega⟩
    rw [f_M_sift_95, M_types_eq hn, Option.bind_some, if_pos (nI_le (show 2 ^ n ≤ t by omega) (by omega))]
    exact ⟨s0, rfl, fun s h => hs s (by omega)⟩
  | succ d ih =>
    intro i t s0 ht hi hs
    obtain ⟨i, rfl⟩ : ∃ k, i = k + 1 := ⟨i - 1, by omega⟩
    rw [f_M_sift_95, M_types_eq hn, Option.bind_some, if_neg (nI_ge (show t < 2 ^ n by omega) (by omega)), if_neg (nI_g (show t < 512 by omega) (by decide)), nI_cl (by omega), nI_m, isZ_n (hz t (by omega))]
    refine ih i (t + 1) _ (by omega) (by omega) (fun s h => ?_)
    unfold upd
    by_cases e : s = t
    · rw [if_pos e, e]
    · rw [if_neg e]; exact hs s (by omega)
theorem cpy_tb {f g : Nat → Int64} {s : Nat} (hs : s < 512) : tb (va_cpy f g ((0 : Int32)).toNatClampNeg ((0 : Int32)).toNatClampNeg ((8 : Int32)).toNatClampNeg) 0 s = tb f 0 s := by
  have z0 : ((0 : Int32)).toNatClampNeg = 0 := by decide
  have z8 : ((8 : Int32)).toNatClampNeg = 8 := by decide
  rw [z0, z8]
  unfold tb
  rw [pk_cpy_in (Nat.zero_le _) (by omega)]
  rw [Nat.zero_add, Nat.sub_zero, Nat.zero_add]

theorem gl_standing {N n nr S RA R Q : Nat} {c5 k5 k6 m60 m59 m29 ax sd0 m15 m16 m17 m19 m57 m61 m62 m63 : Nat → Int32} {pt bf l9 l11 l12 : Nat → Int64} {k13 : Nat → Int32} {i20 i64 i65 mf v3m : Int32} {kk : Int32 → Int32 → (Nat → Int32) → (Nat → Int32) → (Nat → Int32) → Option (Int32 × Int32 × (Nat → Int32) × (Nat → Int32) × (Nat → Int32))} (hN : 100000 ≤ N) (H : RKd n nr S c5 k5 k6 m60 m59 m29 pt ax) (hra : RRa n RA c5 k6) (hs0 : RSt n bf sd0) (hR : R ≤ 512) (hQ : Q ≤ 512) : ∀ (d i i' t : Nat) (v : Int32) (row met : Nat → Int64) (rk1 rk2 sd : Nat → Int32), t + d = 2 ^ n → d < i → d < i' → isZ v → RSt n row sd → (∀ s, t ≤ s → s < 2 ^ n → sd s = sd0 s) → (∀ u, u < t → u &&& RA = u → ∀ r, f_K_isMet N (nI u) (nI S) (nI n) c5 pt bf k5 k6 = some r → (tb met 0 u = true ↔ r = 1)) → ∃ (v' : Int32) (row' met' : Nat → Int64) (rk1' rk2' sd' : Nat → Int32), f_K_goRound_standing_17 N (nI S) (nI n) c5 (nI (2 ^ n)) (nI RA) pt l9 l11 l12 k5 k6 k13 (nI R) bf i v (nI t) row met rk1 = some (v', row', bf, met', rk1') ∧ f_M_sift_127 N i20 (nI nr) (nI n) i64 i65 m15 m16 m17 m19 m29 m57 ax m59 m60 m61 m62 m63 kk mf v3m (nI Q) sd0 i' v (nI t) rk2 sd = kk (nI Q + v') v' rk2' sd' sd0 ∧ isZ v' ∧ RSt n row' sd' ∧ (∀ s, s < 2 ^ n → sd' s = 1 → sd s = 1) ∧ (v' = 0 → v = 0 ∧ (∀ s, s < 2 ^ n → sd' s = sd s) ∧ rk2' = rk2) ∧ (v' = 1 → v = 1 ∨ ∃ s, s < 2 ^ n ∧ sd s = 1 ∧ ¬ sd' s = 1) ∧ ((∀ s, s < 2 ^ n → rk1 s = rk2 s) → R = Q + 1 → ¬ mf = 0 → ∀ s, s < 2 ^ n → rk1' s = rk2' s) ∧ (mf = 0 → rk2' = rk2) ∧ (R = 0 → rk1' = rk1) ∧ (v' = 0 → ∀ s, t ≤ s → s < 2 ^ n → sd0 s = 1 → f_M_isMet_stood N (nI s) (nI nr) (nI n) m29 ax m59 m60 sd0 = some 1) := by
  obtain ⟨hn, hnr, hS, hp, hf, ho, hcs, h29⟩ := id H
  obtain ⟨ra1, ra2, ra3⟩ := id hra
  have h9 := pw9_le n (by omega)
  intro d
  induction d with
  | zero =>
    intro i i' t v row met rk1 rk2 sd ht hi hi' hv hrs hrest hcache
    obtain ⟨i, rfl⟩ : ∃ k, i = k + 1 := ⟨i - 1, by omega⟩
    obtain ⟨i', rfl⟩ : ∃ k, i' = k + 1 := ⟨i' - 1, by omega⟩
    have et : t = 2 ^ n := by omega
    refine ⟨v, row, met, rk1, rk2, sd, ?_, ?_, hv, hrs, fun s _ h => h, fun h => ⟨h, fun s _ => rfl, rfl⟩, fun h => Or.inl h, fun h _ _ => h, fun _ => rfl, fun _ => rfl, fun _ s h1 h2 => absurd h2 (by omega)⟩
    · rw [f_K_goRound_standing_17, if_pos (nI_le (show 2 ^ n ≤ t by omega) (by omega)), if_pos (isZ_n hv)]
    · rw [f_M_sift_127, M_types_eq hn, Option.bind_some, if_pos (nI_le (show 2 ^ n ≤ t by omega) (by omega))]
      rcases hv with hv | hv
      · rw [if_pos hv, hv]
      · rw [hv, if_neg i1z]
  | succ d ih =>
    intro i i' t v row met rk1 rk2 sd ht hi hi' hv hrs hrest hcache
    obtain ⟨i, rfl⟩ : ∃ k, i = k + 1 := ⟨i - 1, by omega⟩
    obtain ⟨i', rfl⟩ : ∃ k, i' = k + 1 := ⟨i' - 1, by omega⟩
    have htn : t < 2 ^ n := by omega
    have hta : t &&& RA < 2 ^ n := Nat.lt_of_le_of_lt Nat.and_le_left htn
    obtain ⟨m, m1, m2, m3⟩ := met_ba hN H hra hs0 htn
    -- the class: what is kept of being met
    have hX : ∃ met' : Nat → Int64, f_K_goRound_standing_17 N (nI S) (nI n) c5 (nI (2 ^ n)) (nI RA) pt l9 l11 l12 k5 k6 k13 (nI R) bf (i + 1) v (nI t) row met rk1 = f_K_goRound_standing_65 N (nI S) (nI n) c5 (nI (2 ^ n)) (nI RA) pt l9 l11 l12 k5 k6 k13 (f_K_goRound_standing_17 N (nI S) (nI n) c5 (nI (2 ^ n)) (nI RA) pt l9 l11 l12 k5 k6 k13 (nI R) bf i) (nI R) v (nI t) (nI (t &&& RA)) row bf met' rk1 ∧ (tb met' 0 (t &&& RA) = true ↔ m = 1) ∧ (∀ u, u < t + 1 → u &&& RA = u → ∀ r, f_K_isMet N (nI u) (nI S) (nI n) c5 pt bf k5 k6 = some r → (tb met' 0 u = true ↔ r = 1)) := by
      rw [f_K_goRound_standing_17, if_neg (nI_ge htn (by omega)), if_neg (show ¬ (512 : Int32) ≤ nI t from nI_ge (show t < 512 by omega) (by decide)), nI_and]
      by_cases hb : t &&& RA = t
      · rw [hb, if_pos rfl]
        rw [hb] at m1
        obtain ⟨f', e1, e2⟩ := K_put_eq (f := met) (t := t) m (by omega)
        rw [m1, Option.bind_some, e1, Option.bind_some]
        have hm : decide (¬ m = 0) = true ↔ m = 1 := by
          rcases m3 with z | z <;> (rw [z]; decide)
        refine ⟨f', rfl, by rw [e2 t (by omega), if_pos rfl]; exact hm, fun u hu hur r hr => ?_⟩
        rw [e2 u (by omega)]
        by_cases e : u = t
        · subst e
          rw [if_pos rfl]
          rw [m1] at hr
          rw [← Option.some.inj hr]; exact hm
        · rw [if_neg e]; exact hcache u (by omega) hur r hr
      · rw [if_neg (fun z => hb ((nI_eq (by omega) (by omega)).mp z))]
        have hlt : t &&& RA < t := Nat.lt_of_le_of_ne Nat.and_le_left hb
        have hid : (t &&& RA) &&& RA = t &&& RA := by rw [Nat.and_assoc, Nat.and_self]
        refine ⟨met, rfl, hcache _ hlt hid m m1, fun u hu hur r hr => ?_⟩
        by_cases e : u = t
        · subst e; exact absurd hur hb
        · exact hcache u (by omega) hur r hr
    obtain ⟨met', hX1, hX2, hX3⟩ := hX
    rw [hX1]
    unfold f_K_goRound_standing_65
    rw [K_has_eq (by omega), K_has_eq (show t &&& RA < 512 by omega), f_M_sift_127, M_types_eq hn]
    simp only [Option.bind_some]
    rw [if_neg (nI_ge htn (by omega)), if_neg (nI_g (show t < 512 by omega) (by decide)), nI_cl (by omega), nI_m, m2]
    simp only [Option.bind_some]
    have h0 := hs0.1 t htn
    by_cases hst : sd0 t = 0
    · have : ¬ tb bf 0 t = true := fun z => by have := h0.2.mp z; rw [hst] at this; exact absurd this (by decide)
      rw [if_neg this, if_pos rfl, if_pos hst]
      obtain ⟨v', row'', met'', rk1'', rk2'', sd', a1, a2, a3, a4, a5, a6, a7, a8, a9, a10, a11⟩ := ih i i' (t + 1) v row met' rk1 rk2 sd (by omega) (by omega) (by omega) hv hrs (fun s h1 h2 => hrest s (by omega) h2) hX3
      exact ⟨v', row'', met'', rk1'', rk2'', sd', a1, a2, a3, a4, a5, a6, a7, a8, a9, a10, fun h s q1 q2 q3 => by
        by_cases e : s = t
        · rw [e, hst] at q3; exact absurd q3 (by decide)
        · exact a11 h s (by omega) q2 q3⟩
    · have h1 : sd0 t = 1 := by rcases h0.1 with z | z; exact absurd z hst; exact z
      rw [if_pos (h0.2.mpr h1), if_neg i1z, if_neg hst]
      rcases m3 with hm | hm
      · have nb : ¬ tb met' 0 (t &&& RA) = true := fun z => by have := hX2.mp z; rw [hm] at this; exact absurd this (by decide)
        rw [if_pos (show (if tb met' 0 (t &&& RA) = true then (1 : Int32) else 0) = 0 by rw [if_neg nb]), if_pos hm]
        obtain ⟨row', p1, p2⟩ := K_put_eq (f := row) (t := t) 0 (by omega)
        rw [p1, Option.bind_some]
        have hsdt : sd t = 1 := by rw [hrest t (Nat.le_refl _) htn]; exact h1
        have z0b : vp_nar .boolean (0 : Int32) = 0 := by decide
        have nrs : RSt n row' (upd sd t 0) := by
          refine ⟨fun s hs => ?_, fun s h2 h3 => ?_⟩
          · rw [p2 s (by omega)]
            unfold upd
            by_cases e : s = t
            · rw [if_pos e, if_pos e]; exact ⟨Or.inl rfl, by decide⟩
            · rw [if_neg e, if_neg e]; exact hrs.1 s hs
          · rw [p2 s h3, if_neg (by omega)]; exact hrs.2 s h2 h3
        have nrest : ∀ s, t + 1 ≤ s → s < 2 ^ n → upd sd t 0 s = sd0 s := fun s h2 h3 => by
          unfold upd; rw [if_neg (by omega)]; exact hrest s (by omega) h3
        -- both ranks
        have key : ∀ (rk1' rk2' : Nat → Int32), ((∀ s, s < 2 ^ n → rk1 s = rk2 s) → R = Q + 1 → ¬ mf = 0 → ∀ s, s < 2 ^ n → rk1' s = rk2' s) → (mf = 0 → rk2' = rk2) → (R = 0 → rk1' = rk1) → ∃ (v' : Int32) (row'' met'' : Nat → Int64) (rk1'' rk2'' sd' : Nat → Int32), f_K_goRound_standing_17 N (nI S) (nI n) c5 (nI (2 ^ n)) (nI RA) pt l9 l11 l12 k5 k6 k13 (nI R) bf i 1 (nI (t + 1)) row' met' rk1' = some (v', row'', bf, met'', rk1'') ∧ f_M_sift_127 N i20 (nI nr) (nI n) i64 i65 m15 m16 m17 m19 m29 m57 ax m59 m60 m61 m62 m63 kk mf v3m (nI Q) sd0 i' 1 (nI (t + 1)) rk2' (upd sd t (vp_nar .boolean 0)) = kk (nI Q + v') v' rk2'' sd' sd0 ∧ isZ v' ∧ RSt n row'' sd' ∧ (∀ s, s < 2 ^ n → sd' s = 1 → sd s = 1) ∧ (v' = 0 → v = 0 ∧ (∀ s, s < 2 ^ n → sd' s = sd s) ∧ rk2'' = rk2) ∧ (v' = 1 → v = 1 ∨ ∃ s, s < 2 ^ n ∧ sd s = 1 ∧ ¬ sd' s = 1) ∧ ((∀ s, s < 2 ^ n → rk1 s = rk2 s) → R = Q + 1 → ¬ mf = 0 → ∀ s, s < 2 ^ n → rk1'' s = rk2'' s) ∧ (mf = 0 → rk2'' = rk2) ∧ (R = 0 → rk1'' = rk1) ∧ (v' = 0 → ∀ s, t ≤ s → s < 2 ^ n → sd0 s = 1 → f_M_isMet_stood N (nI s) (nI nr) (nI n) m29 ax m59 m60 sd0 = some 1) := by
          intro rk1' rk2' k1 k2 k3
          rw [z0b]
          obtain ⟨v', row'', met'', rk1'', rk2'', sd', a1, a2, a3, a4, a5, a6, a7, a8, a9, a10, -⟩ := ih i i' (t + 1) 1 row' met' rk1' rk2' (upd sd t 0) (by omega) (by omega) (by omega) (Or.inr rfl) nrs nrest hX3
          have sub : ∀ s, s < 2 ^ n → sd' s = 1 → ¬ s = t ∧ sd s = 1 := fun s hs h => by
            have := a5 s hs h
            unfold upd at this
            by_cases e : s = t
            · rw [if_pos e] at this; exact absurd this (by decide)
            · rw [if_neg e] at this; exact ⟨e, this⟩
          refine ⟨v', row'', met'', rk1'', rk2'', sd', a1, a2, a3, a4, fun s hs h => (sub s hs h).2, fun h => absurd (a6 h).1 (by decide), fun h => Or.inr ⟨t, htn, hsdt, fun z => (sub t htn z).1 rfl⟩, fun q1 q2 q3 => a8 (k1 q1 q2 q3) q2 q3, fun q => (a9 q).trans (k2 q), fun q => (a10 q).trans (k3 q), fun h => absurd (a6 h).1 (by decide)⟩
        have rT : ∀ R, R ≤ 512 → vp_nar .short (nI R).toInt16.toInt32 = nI R := by decide +kernel
        have hXr : (nI R ≤ 0 ↔ R = 0) := by
          constructor
          · intro z
            rcases Nat.eq_zero_or_pos R with q | q
            · exact q
            · exact absurd z (nI_nle q (by omega))
          · intro z; subst z; decide
        by_cases hR0 : R = 0
        · rw [if_pos (hXr.mpr hR0)]
          by_cases hmf : mf = 0
          · rw [if_pos hmf]
            exact key rk1 rk2 (fun q1 _ _ => q1) (fun _ => rfl) (fun _ => rfl)
          · rw [if_neg hmf]
            exact key rk1 _ (fun _ q2 _ => by omega) (fun q => absurd q hmf) (fun _ => rfl)
        · rw [if_neg (fun z => hR0 (hXr.mp z)), if_neg (nI_gc (show t < 512 by omega) (by decide)), rT R hR]
          by_cases hmf : mf = 0
          · rw [if_pos hmf]
            exact key _ rk2 (fun _ _ q => absurd hmf q) (fun _ => rfl) (fun q => absurd q hR0)
          · rw [if_neg hmf]
            refine key _ _ (fun q1 q2 _ s hs => ?_) (fun q => absurd q hmf) (fun q => absurd q hR0)
            unfold upd
            by_cases e : s = t
            · rw [if_pos e, if_pos e, q2, nI_m]
            · rw [if_neg e, if_neg e]; exact q1 s hs
      · rw [if_neg (show ¬ (if tb met' 0 (t &&& RA) = true then (1 : Int32) else 0) = 0 by rw [if_pos (hX2.mpr hm)]; decide), hm, if_neg i1z]
        obtain ⟨v', row'', met'', rk1'', rk2'', sd', a1, a2, a3, a4, a5, a6, a7, a8, a9, a10, a11⟩ := ih i i' (t + 1) v row met' rk1 rk2 sd (by omega) (by omega) (by omega) hv hrs (fun s h1 h2 => hrest s (by omega) h2) hX3
        exact ⟨v', row'', met'', rk1'', rk2'', sd', a1, a2, a3, a4, a5, a6, a7, a8, a9, a10, fun h s q1 q2 q3 => by
          by_cases e : s = t
          · rw [e, m2, hm]
          · exact a11 h s (by omega) q2 q3⟩

theorem gl_trial {N n nr S RA R Q : Nat} {c5 k5 k6 m60 m59 m29 ax sd0 m15 m16 m17 m19 m57 m61 m62 m63 : Nat → Int32} {pt bf l9 l11 l12 : Nat → Int64} {k13 : Nat → Int32} {i20 i64 i65 mf v3m : Int32} {kk : Int32 → Int32 → (Nat → Int32) → (Nat → Int32) → (Nat → Int32) → Option (Int32 × Int32 × (Nat → Int32) × (Nat → Int32) × (Nat → Int32))} (hN : 100000 ≤ N) (H : RKd n nr S c5 k5 k6 m60 m59 m29 pt ax) (hra : RRa n RA c5 k6) (hs0 : RSt n bf sd0) (hR : R ≤ 512) (hQ : Q ≤ 512) : ∀ (d i i' t : Nat) (v : Int32) (row met : Nat → Int64) (rk1 rk2 sd : Nat → Int32), t + d = 2 ^ n → d < i → d < i' → isZ v → RSt n row sd → (∀ s, t ≤ s → s < 2 ^ n → sd s = sd0 s) → (∀ u, u < t → u &&& RA = u → ∀ r, f_K_isMet N (nI u) (nI S) (nI n) c5 pt bf k5 k6 = some r → (tb met 0 u = true ↔ r = 1)) → ∃ (v' : Int32) (row' met' : Nat → Int64) (rk1' rk2' sd' : Nat → Int32), f_K_goRound_trial_17 N (nI S) (nI n) c5 (nI (2 ^ n)) (nI RA) pt l9 l11 l12 k5 k6 k13 (nI R) bf i v (nI t) row met rk1 = some (v', row', bf, met', rk1') ∧ f_M_sift_127 N i20 (nI nr) (nI n) i64 i65 m15 m16 m17 m19 m29 m57 ax m59 m60 m61 m62 m63 kk mf v3m (nI Q) sd0 i' v (nI t) rk2 sd = kk (nI Q + v') v' rk2' sd' sd0 ∧ isZ v' ∧ RSt n row' sd' ∧ (∀ s, s < 2 ^ n → sd' s = 1 → sd s = 1) ∧ (v' = 0 → v = 0 ∧ (∀ s, s < 2 ^ n → sd' s = sd s) ∧ rk2' = rk2) ∧ (v' = 1 → v = 1 ∨ ∃ s, s < 2 ^ n ∧ sd s = 1 ∧ ¬ sd' s = 1) ∧ ((∀ s, s < 2 ^ n → rk1 s = rk2 s) → R = Q + 1 → ¬ mf = 0 → ∀ s, s < 2 ^ n → rk1' s = rk2' s) ∧ (mf = 0 → rk2' = rk2) ∧ (R = 0 → rk1' = rk1) ∧ (v' = 0 → ∀ s, t ≤ s → s < 2 ^ n → sd0 s = 1 → f_M_isMet_stood N (nI s) (nI nr) (nI n) m29 ax m59 m60 sd0 = some 1) := by
  obtain ⟨hn, hnr, hS, hp, hf, ho, hcs, h29⟩ := id H
  obtain ⟨ra1, ra2, ra3⟩ := id hra
  have h9 := pw9_le n (by omega)
  intro d
  induction d with
  | zero =>
    intro i i' t v row met rk1 rk2 sd ht hi hi' hv hrs hrest hcache
    obtain ⟨i, rfl⟩ : ∃ k, i = k + 1 := ⟨i - 1, by omega⟩
    obtain ⟨i', rfl⟩ : ∃ k, i' = k + 1 := ⟨i' - 1, by omega⟩
    have et : t = 2 ^ n := by omega
    refine ⟨v, row, met, rk1, rk2, sd, ?_, ?_, hv, hrs, fun s _ h => h, fun h => ⟨h, fun s _ => rfl, rfl⟩, fun h => Or.inl h, fun h _ _ => h, fun _ => rfl, fun _ => rfl, fun _ s h1 h2 => absurd h2 (by omega)⟩
    · rw [f_K_goRound_trial_17, if_pos (nI_le (show 2 ^ n ≤ t by omega) (by omega)), if_pos (isZ_n hv)]
    · rw [f_M_sift_127, M_types_eq hn, Option.bind_some, if_pos (nI_le (show 2 ^ n ≤ t by omega) (by omega))]
      rcases hv with hv | hv
      · rw [if_pos hv, hv]
      · rw [hv, if_neg i1z]
  | succ d ih =>
    intro i i' t v row met rk1 rk2 sd ht hi hi' hv hrs hrest hcache
    obtain ⟨i, rfl⟩ : ∃ k, i = k + 1 := ⟨i - 1, by omega⟩
    obtain ⟨i', rfl⟩ : ∃ k, i' = k + 1 := ⟨i' - 1, by omega⟩
    have htn : t < 2 ^ n := by omega
    have hta : t &&& RA < 2 ^ n := Nat.lt_of_le_of_lt Nat.and_le_left htn
    obtain ⟨m, m1, m2, m3⟩ := met_ba hN H hra hs0 htn
    -- the class: what is kept of being met
    have hX : ∃ met' : Nat → Int64, f_K_goRound_trial_17 N (nI S) (nI n) c5 (nI (2 ^ n)) (nI RA) pt l9 l11 l12 k5 k6 k13 (nI R) bf (i + 1) v (nI t) row met rk1 = f_K_goRound_trial_65 N (nI S) (nI n) c5 (nI (2 ^ n)) (nI RA) pt l9 l11 l12 k5 k6 k13 (f_K_goRound_trial_17 N (nI S) (nI n) c5 (nI (2 ^ n)) (nI RA) pt l9 l11 l12 k5 k6 k13 (nI R) bf i) (nI R) v (nI t) (nI (t &&& RA)) row bf met' rk1 ∧ (tb met' 0 (t &&& RA) = true ↔ m = 1) ∧ (∀ u, u < t + 1 → u &&& RA = u → ∀ r, f_K_isMet N (nI u) (nI S) (nI n) c5 pt bf k5 k6 = some r → (tb met' 0 u = true ↔ r = 1)) := by
      rw [f_K_goRound_trial_17, if_neg (nI_ge htn (by omega)), if_neg (show ¬ (512 : Int32) ≤ nI t from nI_ge (show t < 512 by omega) (by decide)), nI_and]
      by_cases hb : t &&& RA = t
      · rw [hb, if_pos rfl]
        rw [hb] at m1
        obtain ⟨f', e1, e2⟩ := K_put_eq (f := met) (t := t) m (by omega)
        rw [m1, Option.bind_some, e1, Option.bind_some]
        have hm : decide (¬ m = 0) = true ↔ m = 1 := by
          rcases m3 with z | z <;> (rw [z]; decide)
        refine ⟨f', rfl, by rw [e2 t (by omega), if_pos rfl]; exact hm, fun u hu hur r hr => ?_⟩
        rw [e2 u (by omega)]
        by_cases e : u = t
        · subst e
          rw [if_pos rfl]
          rw [m1] at hr
          rw [← Option.some.inj hr]; exact hm
        · rw [if_neg e]; exact hcache u (by omega) hur r hr
      · rw [if_neg (fun z => hb ((nI_eq (by omega) (by omega)).mp z))]
        have hlt : t &&& RA < t := Nat.lt_of_le_of_ne Nat.and_le_left hb
        have hid : (t &&& RA) &&& RA = t &&& RA := by rw [Nat.and_assoc, Nat.and_self]
        refine ⟨met, rfl, hcache _ hlt hid m m1, fun u hu hur r hr => ?_⟩
        by_cases e : u = t
        · subst e; exact absurd hur hb
        · exact hcache u (by omega) hur r hr
    obtain ⟨met', hX1, hX2, hX3⟩ := hX
    rw [hX1]
    unfold f_K_goRound_trial_65
    rw [K_has_eq (by omega), K_has_eq (show t &&& RA < 512 by omega), f_M_sift_127, M_types_eq hn]
    simp only [Option.bind_some]
    rw [if_neg (nI_ge htn (by omega)), if_neg (nI_g (show t < 512 by omega) (by decide)), nI_cl (by omega), nI_m, m2]
    simp only [Option.bind_some]
    have h0 := hs0.1 t htn
    by_cases hst : sd0 t = 0
    · have : ¬ tb bf 0 t = true := fun z => by have := h0.2.mp z; rw [hst] at this; exact absurd this (by decide)
      rw [if_neg this, if_pos rfl, if_pos hst]
      obtain ⟨v', row'', met'', rk1'', rk2'', sd', a1, a2, a3, a4, a5, a6, a7, a8, a9, a10, a11⟩ := ih i i' (t + 1) v row met' rk1 rk2 sd (by omega) (by omega) (by omega) hv hrs (fun s h1 h2 => hrest s (by omega) h2) hX3
      exact ⟨v', row'', met'', rk1'', rk2'', sd', a1, a2, a3, a4, a5, a6, a7, a8, a9, a10, fun h s q1 q2 q3 => by
        by_cases e : s = t
        · rw [e, hst] at q3; exact absurd q3 (by decide)
        · exact a11 h s (by omega) q2 q3⟩
    · have h1 : sd0 t = 1 := by rcases h0.1 with z | z; exact absurd z hst; exact z
      rw [if_pos (h0.2.mpr h1), if_neg i1z, if_neg hst]
      rcases m3 with hm | hm
      · have nb : ¬ tb met' 0 (t &&& RA) = true := fun z => by have := hX2.mp z; rw [hm] at this; exact absurd this (by decide)
        rw [if_pos (show (if tb met' 0 (t &&& RA) = true then (1 : Int32) else 0) = 0 by rw [if_neg nb]), if_pos hm]
        obtain ⟨row', p1, p2⟩ := K_put_eq (f := row) (t := t) 0 (by omega)
        rw [p1, Option.bind_some]
        have hsdt : sd t = 1 := by rw [hrest t (Nat.le_refl _) htn]; exact h1
        have z0b : vp_nar .boolean (0 : Int32) = 0 := by decide
        have nrs : RSt n row' (upd sd t 0) := by
          refine ⟨fun s hs => ?_, fun s h2 h3 => ?_⟩
          · rw [p2 s (by omega)]
            unfold upd
            by_cases e : s = t
            · rw [if_pos e, if_pos e]; exact ⟨Or.inl rfl, by decide⟩
            · rw [if_neg e, if_neg e]; exact hrs.1 s hs
          · rw [p2 s h3, if_neg (by omega)]; exact hrs.2 s h2 h3
        have nrest : ∀ s, t + 1 ≤ s → s < 2 ^ n → upd sd t 0 s = sd0 s := fun s h2 h3 => by
          unfold upd; rw [if_neg (by omega)]; exact hrest s (by omega) h3
        -- both ranks
        have key : ∀ (rk1' rk2' : Nat → Int32), ((∀ s, s < 2 ^ n → rk1 s = rk2 s) → R = Q + 1 → ¬ mf = 0 → ∀ s, s < 2 ^ n → rk1' s = rk2' s) → (mf = 0 → rk2' = rk2) → (R = 0 → rk1' = rk1) → ∃ (v' : Int32) (row'' met'' : Nat → Int64) (rk1'' rk2'' sd' : Nat → Int32), f_K_goRound_trial_17 N (nI S) (nI n) c5 (nI (2 ^ n)) (nI RA) pt l9 l11 l12 k5 k6 k13 (nI R) bf i 1 (nI (t + 1)) row' met' rk1' = some (v', row'', bf, met'', rk1'') ∧ f_M_sift_127 N i20 (nI nr) (nI n) i64 i65 m15 m16 m17 m19 m29 m57 ax m59 m60 m61 m62 m63 kk mf v3m (nI Q) sd0 i' 1 (nI (t + 1)) rk2' (upd sd t (vp_nar .boolean 0)) = kk (nI Q + v') v' rk2'' sd' sd0 ∧ isZ v' ∧ RSt n row'' sd' ∧ (∀ s, s < 2 ^ n → sd' s = 1 → sd s = 1) ∧ (v' = 0 → v = 0 ∧ (∀ s, s < 2 ^ n → sd' s = sd s) ∧ rk2'' = rk2) ∧ (v' = 1 → v = 1 ∨ ∃ s, s < 2 ^ n ∧ sd s = 1 ∧ ¬ sd' s = 1) ∧ ((∀ s, s < 2 ^ n → rk1 s = rk2 s) → R = Q + 1 → ¬ mf = 0 → ∀ s, s < 2 ^ n → rk1'' s = rk2'' s) ∧ (mf = 0 → rk2'' = rk2) ∧ (R = 0 → rk1'' = rk1) ∧ (v' = 0 → ∀ s, t ≤ s → s < 2 ^ n → sd0 s = 1 → f_M_isMet_stood N (nI s) (nI nr) (nI n) m29 ax m59 m60 sd0 = some 1) := by
          intro rk1' rk2' k1 k2 k3
          rw [z0b]
          obtain ⟨v', row'', met'', rk1'', rk2'', sd', a1, a2, a3, a4, a5, a6, a7, a8, a9, a10, -⟩ := ih i i' (t + 1) 1 row' met' rk1' rk2' (upd sd t 0) (by omega) (by omega) (by omega) (Or.inr rfl) nrs nrest hX3
          have sub : ∀ s, s < 2 ^ n → sd' s = 1 → ¬ s = t ∧ sd s = 1 := fun s hs h => by
            have := a5 s hs h
            unfold upd at this
            by_cases e : s = t
            · rw [if_pos e] at this; exact absurd this (by decide)
            · rw [if_neg e] at this; exact ⟨e, this⟩
          refine ⟨v', row'', met'', rk1'', rk2'', sd', a1, a2, a3, a4, fun s hs h => (sub s hs h).2, fun h => absurd (a6 h).1 (by decide), fun h => Or.inr ⟨t, htn, hsdt, fun z => (sub t htn z).1 rfl⟩, fun q1 q2 q3 => a8 (k1 q1 q2 q3) q2 q3, fun q => (a9 q).trans (k2 q), fun q => (a10 q).trans (k3 q), fun h => absurd (a6 h).1 (by decide)⟩
        have rT : ∀ R, R ≤ 512 → vp_nar .short (nI R).toInt16.toInt32 = nI R := by decide +kernel
        have hXr : (nI R ≤ 0 ↔ R = 0) := by
          constructor
          · intro z
            rcases Nat.eq_zero_or_pos R with q | q
            · exact q
            · exact absurd z (nI_nle q (by omega))
          · intro z; subst z; decide
        by_cases hR0 : R = 0
        · rw [if_pos (hXr.mpr hR0)]
          by_cases hmf : mf = 0
          · rw [if_pos hmf]
            exact key rk1 rk2 (fun q1 _ _ => q1) (fun _ => rfl) (fun _ => rfl)
          · rw [if_neg hmf]
            exact key rk1 _ (fun _ q2 _ => by omega) (fun q => absurd q hmf) (fun _ => rfl)
        · rw [if_neg (fun z => hR0 (hXr.mp z)), if_neg (nI_gc (show t < 512 by omega) (by decide)), rT R hR]
          by_cases hmf : mf = 0
          · rw [if_pos hmf]
            exact key _ rk2 (fun _ _ q => absurd hmf q) (fun _ => rfl) (fun q => absurd q hR0)
          · rw [if_neg hmf]
            refine key _ _ (fun q1 q2 _ s hs => ?_) (fun q => absurd q hmf) (fun q => absurd q hR0)
            unfold upd
            by_cases e : s = t
            · rw [if_pos e, if_pos e, q2, nI_m]
            · rw [if_neg e, if_neg e]; exact q1 s hs
      · rw [if_neg (show ¬ (if tb met' 0 (t &&& RA) = true then (1 : Int32) else 0) = 0 by rw [if_pos (hX2.mpr hm)]; decide), hm, if_neg i1z]
        obtain ⟨v', row'', met'', rk1'', rk2'', sd', a1, a2, a3, a4, a5, a6, a7, a8, a9, a10, a11⟩ := ih i i' (t + 1) v row met' rk1 rk2 sd (by omega) (by omega) (by omega) hv hrs (fun s h1 h2 => hrest s (by omega) h2) hX3
        exact ⟨v', row'', met'', rk1'', rk2'', sd', a1, a2, a3, a4, a5, a6, a7, a8, a9, a10, fun h s q1 q2 q3 => by
          by_cases e : s = t
          · rw [e, m2, hm]
          · exact a11 h s (by omega) q2 q3⟩
