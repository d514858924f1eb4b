/-! being met is alike -/
theorem mo_loop {N n nr S t : Nat} {c5 k5 k6 m60 m59 m29 ax sd : Nat → Int32} {pt row : Nat → Int64} {own : Nat → Nat} (hN : 100000 ≤ N) (H : RKd n nr S c5 k5 k6 m60 m59 m29 pt ax) (hw : Ow n c5 k5 m60 own) (hs : RSt n row sd) (ht : t < 2 ^ n) : ∀ (d i R : Nat) (v : Int32), R + d = nr → d < i → isZ v → ∃ r : Int32, f_M_isMet_stood_5 N (nI nr) (nI n) m29 ax m59 m60 sd (nI t) i v (nI R) = some r ∧ isZ r ∧ (r = 1 ↔ v = 1 ∧ ∀ R', R ≤ R' → R' < nr → MetR N n S m59 ax sd own t R') := by
  obtain ⟨hn, hnr, hS, hp, hf, ho, hcs, h29⟩ := id H
  have h9 := pw9_le n (by omega)
  intro d
  induction d with
  | zero =>
    intro i R v hR hi hv
    obtain ⟨i, rfl⟩ : ∃ k, i = k + 1 := ⟨i - 1, by omega⟩
    rw [f_M_isMet_stood_5, if_pos (nI_le (show nr ≤ R by omega) (by omega)), if_pos (isZ_n hv)]
    exact ⟨v, rfl, hv, ⟨fun e => ⟨e, fun R' h1 h2 => by omega⟩, fun e => e.1⟩⟩
  | succ d ih =>
    intro i R v hR hi hv
    obtain ⟨i, rfl⟩ : ∃ k, i = k + 1 := ⟨i - 1, by omega⟩
    have hRn : R < nr := by omega
    obtain ⟨o1, o2, o3, o4⟩ := hw R (by omega)
    have hVlt : own R &&& t < 512 := Nat.lt_of_le_of_lt Nat.and_le_right (by omega)
    rw [f_M_isMet_stood_5, if_neg (nI_ge hRn (by omega))]
    rcases hv with hv | hv
    · rw [if_pos hv, if_pos (isZ_n (Or.inl hv))]
      exact ⟨v, rfl, Or.inl hv, ⟨fun e => by rw [hv] at e; exact absurd e (by decide), fun e => e.1⟩⟩
    · subst hv
      rw [if_neg i1z, if_neg (nI_g (show R < 3 by omega) (by decide)), if_neg (nI_g (show R < 6 by omega) (by decide)), nI_cl (by omega), h29 R hRn, o3, nI_and]
      -- what the inner loop does, whatever it begins with
      have inner : ∀ v : Int32, isZ v → ∃ r : Int32, f_M_isMet_stood_66 N (nI nr) (nI n) m29 ax m59 m60 sd (f_M_isMet_stood_5 N (nI nr) (nI n) m29 ax m59 m60 sd (nI t) i) (nI t) (nI R) (nI (own R &&& t)) N v (0 : Int32) = some r ∧ isZ r ∧ (r = 1 ↔ (v = 1 ∧ (¬ S.testBit R = true → ∀ j, j < n → (own R &&& t).testBit j = true → ¬ No N n m59 ax sd t R (2 ^ j))) ∧ ∀ R', R + 1 ≤ R' → R' < nr → MetR N n S m59 ax sd own t R') := by
        intro v hv
        obtain ⟨r, e1, e2, e3⟩ := mi_loop (kk := f_M_isMet_stood_5 N (nI nr) (nI n) m29 ax m59 m60 sd (nI t) i) hN H hw hs ht hRn n N 0 v (by omega) (by omega) hv
        obtain ⟨r', g1, g2, g3⟩ := ih i (R + 1) r (by omega) (by omega) e2
        refine ⟨r', (show _ = _ from e1).trans g1, g2, g3.trans ?_⟩
        rw [e3]
        constructor
        · rintro ⟨⟨a1, a2⟩, a3⟩
          exact ⟨⟨a1, fun q j hj => a2 q j (Nat.zero_le _) hj⟩, a3⟩
        · rintro ⟨⟨a1, a2⟩, a3⟩
          exact ⟨⟨a1, fun q j _ hj => a2 q j hj⟩, a3⟩
      have upt : (∀ R', R ≤ R' → R' < nr → MetR N n S m59 ax sd own t R') ↔ (MetR N n S m59 ax sd own t R ∧ ∀ R', R + 1 ≤ R' → R' < nr → MetR N n S m59 ax sd own t R') := ⟨fun h => ⟨h R (Nat.le_refl _) hRn, fun R' h1 h2 => h R' (by omega) h2⟩, fun h R' h1 h2 => by
        by_cases e : R' = R
        · subst e; exact h.1
        · exact h.2 R' (by omega) h2⟩
      by_cases hSR : S.testBit R = true
      · rw [if_pos hSR, if_neg i1z]
        have mr : MetR N n S m59 ax sd own t R ↔ (own R &&& t = 0 ∨ ¬ No N n m59 ax sd t R (own R &&& t)) := ⟨fun h => h.1 hSR, fun h => ⟨fun _ => h, fun q => absurd hSR q⟩⟩
        have e0 : nI (own R &&& t) = 0 ↔ own R &&& t = 0 := nI_eq (b := 0) (by omega) (by decide)
        by_cases h0 : own R &&& t = 0
        · rw [if_pos (e0.mpr h0)]
          obtain ⟨r, e1, e2, e3⟩ := inner 1 (Or.inr rfl)
          refine ⟨r, e1, e2, e3.trans ?_⟩
          rw [upt, mr]
          exact ⟨fun q => ⟨rfl, Or.inl h0, q.2⟩, fun q => ⟨⟨rfl, fun z => absurd hSR z⟩, q.2.2⟩⟩
        · rw [if_neg (fun q => h0 (e0.mp q))]
          -- some atom of it is set
          have hex : ∃ k, k < 9 ∧ (own R &&& t).testBit k = true := by
            apply Classical.byContradiction
            intro hne
            apply h0
            apply Nat.eq_of_testBit_eq
            intro j
            rw [Nat.zero_testBit]
            cases hj : (own R &&& t).testBit j
            · rfl
            · rcases Nat.lt_or_ge j 9 with q | q
              · exact absurd ⟨j, q, hj⟩ hne
              · rw [lt512_bit hVlt q] at hj; cases hj
          obtain ⟨k, hk9, hk⟩ := hex
          have hk2 : (own R).testBit k = true ∧ t.testBit k = true := by rw [Nat.testBit_and, Bool.and_eq_true] at hk; exact hk
          have hkn := bit_lt o1 hk2.1
          obtain ⟨v, v1, v2, v3⟩ := meet_before hN H hs ht hkn hk2.2 hRn ((o4 k hkn).mp hk2.1) o2 o1
          rw [if_pos hSR] at v2
          rw [v2, Option.bind_some]
          by_cases hv : v = -1
          · rw [if_pos ((neg_iff hn v3).mpr hv)]
            obtain ⟨r, e1, e2, e3⟩ := inner 0 (Or.inl rfl)
            refine ⟨r, e1, e2, e3.trans ?_⟩
            rw [upt, mr]
            constructor
            · intro q; exact absurd q.1.1 (by decide)
            · rintro ⟨-, q, -⟩
              rcases q with q | q
              · exact absurd q h0
              · unfold No at q
                rw [v2, hv] at q
                exact absurd rfl q
          · rw [if_neg (fun q => hv ((neg_iff hn v3).mp q))]
            obtain ⟨r, e1, e2, e3⟩ := inner 1 (Or.inr rfl)
            refine ⟨r, e1, e2, e3.trans ?_⟩
            rw [upt, mr]
            refine ⟨fun q => ⟨rfl, Or.inr (fun z => ?_), q.2⟩, fun q => ⟨⟨rfl, fun z => absurd hSR z⟩, q.2.2⟩⟩
            unfold No at z
            rw [v2] at z
            exact hv (Option.some.inj z)
      · rw [if_neg hSR, if_pos rfl]
        obtain ⟨r, e1, e2, e3⟩ := inner 1 (Or.inr rfl)
        refine ⟨r, e1, e2, e3.trans ?_⟩
        rw [upt]
        exact ⟨fun q => ⟨rfl, ⟨fun z => absurd z hSR, q.1.2⟩, q.2⟩, fun q => ⟨⟨rfl, q.2.1.2⟩, q.2.2⟩⟩
theorem met_iff {N n nr S t : Nat} {c5 k5 k6 m60 m59 m29 ax sd : Nat → Int32} {pt : Nat → Int64} {own : Nat → Nat} (H : RKd n nr S c5 k5 k6 m60 m59 m29 pt ax) (hw : Ow n c5 k5 m60 own) : MetX N n nr S c5 m59 ax sd own t 0 ↔ ∀ R', 0 ≤ R' → R' < nr → MetR N n S m59 ax sd own t R' := by
  obtain ⟨hn, hnr, hS, hp, hf, ho, hcs, h29⟩ := id H
  constructor
  · intro h R _ hR
    obtain ⟨o1, o2, o3, o4⟩ := hw R (by omega)
    refine ⟨fun hSR => ?_, fun hSR j hj hb => ?_⟩
    · by_cases h0 : own R &&& t = 0
      · exact Or.inl h0
      · refine Or.inr ?_
        obtain ⟨k, hk⟩ : ∃ k, (own R &&& t).testBit k = true := by
          apply Classical.byContradiction
          intro hne
          apply h0
          apply Nat.eq_of_testBit_eq
          intro j
          rw [Nat.zero_testBit]
          cases hj : (own R &&& t).testBit j
          · rfl
          · exact absurd ⟨j, hj⟩ hne
        have hk2 : (own R).testBit k = true ∧ t.testBit k = true := by rw [Nat.testBit_and, Bool.and_eq_true] at hk; exact hk
        have hkn := bit_lt o1 hk2.1
        have := h k (Nat.zero_le _) hkn hk2.2 R hR ((o4 k hkn).mp hk2.1)
        rw [if_pos hSR] at this
        exact this
    · have hk2 : (own R).testBit j = true ∧ t.testBit j = true := by rw [Nat.testBit_and, Bool.and_eq_true] at hb; exact hb
      have := h j (Nat.zero_le _) hj hk2.2 R hR ((o4 j hj).mp hk2.1)
      rw [if_neg hSR] at this
      exact this
  · intro h j _ hj hb R hR hc
    obtain ⟨o1, o2, o3, o4⟩ := hw R (by omega)
    have m := h R (Nat.zero_le _) hR
    have hbit : (own R &&& t).testBit j = true := by rw [Nat.testBit_and, (o4 j hj).mpr hc, hb]; rfl
    by_cases hSR : S.testBit R = true
    · rw [if_pos hSR]
      rcases m.1 hSR with q | q
      · rw [q, Nat.zero_testBit] at hbit; cases hbit
      · exact q
    · rw [if_neg hSR]
      exact m.2 hSR j hj hbit
theorem met_eq {N n nr S t : Nat} {c5 k5 k6 m60 m59 m29 ax sd : Nat → Int32} {pt row : Nat → Int64} (hN : 100000 ≤ N) (H : RKd n nr S c5 k5 k6 m60 m59 m29 pt ax) (hs : RSt n row sd) (ht : t < 2 ^ n) : ∃ r : Int32, f_K_isMet N (nI t) (nI S) (nI n) c5 pt row k5 k6 = some r ∧ f_M_isMet_stood N (nI t) (nI nr) (nI n) m29 ax m59 m60 sd = some r ∧ isZ r := by
  obtain ⟨hn, hnr, hS, hp, hf, ho, hcs, h29⟩ := id H
  have h9 := pw9_le n (by omega)
  have hw : Ow n c5 k5 m60 (fun r => (k5 r).toNatClampNeg) := by
    intro r hr
    obtain ⟨O, q1, q2, q3, q4⟩ := ho r hr
    have e : (k5 r).toNatClampNeg = O := by rw [q2, nI_cl (by omega)]
    show (k5 r).toNatClampNeg < _ ∧ k5 r = nI (k5 r).toNatClampNeg ∧ m60 r = nI (k5 r).toNatClampNeg ∧ ∀ k, k < n → ((k5 r).toNatClampNeg.testBit k = true ↔ _)
    rw [e]
    exact ⟨q1, q2, q3, q4⟩
  obtain ⟨r, e1, e2, e3⟩ := xm_loop hN H hw hs ht n N 0 (by omega) (by omega)
  obtain ⟨r', g1, g2, g3⟩ := mo_loop hN H hw hs ht nr N 0 1 (by omega) (by omega) (Or.inr rfl)
  have e : r = r' := isZ_eq e2 g2 e3 g3 (by rw [met_iff H hw]; exact ⟨fun q => ⟨rfl, q⟩, fun q => q.2⟩)
  subst e
  exact ⟨r, e1, g1, e2⟩
