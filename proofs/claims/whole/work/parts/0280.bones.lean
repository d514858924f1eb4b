/-! bones, of both -/
/-- what stands is what the class's rounds left of the fair rows -/
def RCl (n nr S rc RA N : Nat) (c5 k5 k6 : Nat → Int32) (pt tr : Nat → Int64) (cr : Nat → Int32) (st : Nat → Int64) : Prop := ∃ (row0 l8 b0 t0 : Nat → Int64) (rk1 : Nat → Int32) (z : Int32 × (Nat → Int64) × (Nat → Int64) × (Nat → Int64) × (Nat → Int32)), (∃ f, f_K_takeFair_fair N (nI (2 ^ rc - 1)) (nI rc) cr (nI (2 ^ n)) tr l8 = some f ∧ ∀ s, s < 512 → tb row0 0 s = tb f 0 s) ∧ f_K_settle_standing N (1 : Int32) (nI S) (nI n) c5 (nI (2 ^ n)) (nI RA) pt row0 b0 t0 k5 k6 rk1 = some z ∧ z.2.1 = st
theorem back_sift {N n nr S rc RA : Nat} {c5 k5 k6 m60 m59 m29 ax cr mr s15 s16 s17 is m61 m62 m63 : Nat → Int32} {pt tr st : Nat → Int64} {i64 i65 : Int32} (hN : 100000 ≤ N) (H : RFx n nr S rc RA c5 k5 k6 m60 m59 m29 pt ax cr mr s15 s16 s17 is tr) (hc : RCl n nr S rc RA N c5 k5 k6 pt tr cr st) : ∃ sd' stood' : Nat → Int32, f_M_sift N (0 : Int32) (0 : Int32) (nI rc) (nI nr) (nI n) i64 i65 s15 s16 s17 mr m29 is ax m59 m60 m61 m62 m63 = some (i64, i65, m61, sd', stood') ∧ RSt n st sd' := by
  obtain ⟨row0, l8, b0, t0, rk1, z, ⟨f, f1, f2⟩, e1, e2⟩ := hc
  have hrc := H.2.2.1
  have h12 := pw12_le rc (by omega)
  obtain ⟨f', g1, g2⟩ := tf_eq_fair (l8 := l8) hN H.1.1 H.2.2 (show 2 ^ rc - 1 < 4096 by omega)
  have ef : f' = f := Option.some.inj (g1.symm.trans f1)
  subst ef
  obtain ⟨q, row', bf', met', rk1', rk2', sd0, sd', stood', a1, a2, a3, a4, a5, a6, a7, a8, -⟩ := sift_standing (W := 0) (R := 2 ^ rc - 1) (row0 := row0) (b0 := b0) (t0 := t0) (rk1 := rk1) (m61 := m61) (m62 := m62) (m63 := m63) (i64 := i64) (i65 := i65) (cf := 1) (mf := 0) hN H (by decide) (fun s hs => by rw [f2 s hs]; exact g2 s hs) (fun k hk => by rw [Nat.testBit_two_pow_sub_one]; simp [hk]) (fun _ q => absurd rfl q)
  rw [if_pos rfl, if_pos rfl, a7 rfl] at a3
  refine ⟨sd', stood', a3, ?_⟩
  have : z = _ := Option.some.inj (e1.symm.trans a2)
  rw [this] at e2
  rw [← e2]
  exact a5
theorem bo_loop {N n nr S rc RA k j : Nat} {c5 k5 k6 m60 m59 m29 ax cr mr s15 s16 s17 is cq mq m61 a61 a62 a63 a13 : Nat → Int32} {pt tr st l9 l10 l11 l12 : Nat → Int64} {i64 i65 : Int32} {i22 : Int32} (hN : 100000 ≤ N) (H : RFx n nr S rc RA c5 k5 k6 m60 m59 m29 pt ax cr mr s15 s16 s17 is tr) (hc : RCl n nr S rc RA N c5 k5 k6 pt tr cr st) (hk : k ≤ 12) (hq : RAsk n k cq mq tr is) (hj : j < k) : ∀ (d i i' r W K : Nat) (row b t : Nat → Int64) (rk1 sd stood : Nat → Int32), r + d = rc → d < i → d < i' → W < 2 ^ rc → K < 2 ^ rc → (∀ u, u < rc → (K.testBit u = true ↔ W.testBit u = false)) → (∀ u, r ≤ u → u < rc → W.testBit u = false) → ∃ (v : Int32) (row' b' t' : Nat → Int64) (sd' stood' : Nat → Int32), f_K_rulesThatForbid_29 N (nI rc) (nI S) cr (nI n) c5 (nI (2 ^ n)) (nI RA) tr pt l9 l10 l11 l12 k5 k6 a13 (cq j) i (nI K) (nI r) row b t rk1 = some (v, row', b', t', rk1) ∧ f_M_bones_35 N (nI rc) i22 (nI nr) (nI n) 1 i64 i65 s15 s16 s17 mr mq m29 is ax m59 m60 a61 a62 a63 (nI j) i' (nI W) (nI r) i64 i65 m61 sd stood = some (v, i64, i65, m61, sd', stood') ∧ RSt n st sd' := by
  have hn := H.1.1
  have hrc := H.2.2.1
  have h12 := pw12_le rc (by omega)
  intro d
  induction d with
  | zero =>
    intro i i' r W K row b t rk1 sd stood hr hi hi' hW hK hKW hrest
    obtain ⟨i, rfl⟩ : ∃ k, i = k + 1 := ⟨i - 1, by omega⟩
    obtain ⟨i', rfl⟩ : ∃ k, i' = k + 1 := ⟨i' - 1, by omega⟩
    obtain ⟨sd', stood', e1, e2⟩ := back_sift (m61 := m61) (m62 := sd) (m63 := stood) (i64 := i64) (i65 := i65) hN H hc
    rw [f_K_rulesThatForbid_29, if_pos (nI_le (show rc ≤ r by omega) (by omega)), f_M_bones_35, if_pos (nI_le (show rc ≤ r by omega) (by omega)), e1, Option.bind_some, pw12_1 rc (by omega), nI_andm (m := rc) ones_lt (by omega)]
    have : (2 ^ rc - 1) &&& ((2 ^ rc - 1) ^^^ W) = K := by
      apply Nat.eq_of_testBit_eq
      intro u
      rw [andm_bit ones_lt, Nat.testBit_two_pow_sub_one]
      rcases Nat.lt_or_ge u rc with q | q
      · have := hKW u q
        cases hKu : K.testBit u <;> cases hWu : W.testBit u <;> rw [hKu, hWu] at this <;> simp at this <;> simp [q]
      · rw [bit_big hK q]; simp; omega
    rw [this]
    exact ⟨_, _, _, _, _, _, rfl, rfl, e2⟩
  | succ d ih =>
    intro i i' r W K row b t rk1 sd stood hr hi hi' hW hK hKW hrest
    obtain ⟨i, rfl⟩ : ∃ k, i = k + 1 := ⟨i - 1, by omega⟩
    obtain ⟨i', rfl⟩ : ∃ k, i' = k + 1 := ⟨i' - 1, by omega⟩
    have hr2 : r < rc := by omega
    have hp : 2 ^ r < 2 ^ rc := Nat.pow_lt_pow_right (by decide) hr2
    have eK : nI K &&& (((1 : Int32) <<< (nI r &&& 31)) ^^^ (-1 : Int32)) = nI (K &&& ((2 ^ rc - 1) ^^^ 2 ^ r)) := by
      rw [pw12 r (by omega)]; exact nI_andm hK (by omega)
    have eW : nI W ||| ((1 : Int32) <<< (nI r &&& 31)) = nI (W ||| 2 ^ r) := by
      rw [pw12 r (by omega), nI_or]
    have hK2 : K &&& ((2 ^ rc - 1) ^^^ 2 ^ r) < 2 ^ rc := Nat.lt_of_le_of_lt Nat.and_le_left hK
    have hW2 : W ||| 2 ^ r < 2 ^ rc := Nat.or_lt_two_pow hW hp
    have hKW2 : ∀ u, u < rc → ((K &&& ((2 ^ rc - 1) ^^^ 2 ^ r)).testBit u = true ↔ (W ||| 2 ^ r).testBit u = false) := by
      intro u hu
      rw [andm_bit hK, Nat.testBit_or, pw_bit]
      have := hKW u hu
      cases hKu : K.testBit u <;> cases hWu : W.testBit u <;> rw [hKu, hWu] at this <;> simp at this <;> simp
    have hrest2 : ∀ u, r + 1 ≤ u → u < rc → (W ||| 2 ^ r).testBit u = false := by
      intro u h1 h2
      rw [Nat.testBit_or, hrest u (by omega) h2, pw_bit]
      simp; omega
    rw [f_K_rulesThatForbid_29, if_neg (nI_ge hr2 (by omega)), f_M_bones_35, if_neg (nI_ge hr2 (by omega)), eK, eW, nI_m]
    obtain ⟨row0, t1, t2⟩ := tf_eq_trial (l8 := row) hN hn H.2.2 (show K &&& ((2 ^ rc - 1) ^^^ 2 ^ r) < 4096 by omega)
    obtain ⟨q, row', bf', met', rk1', rk2', sd0, sd', stood', a1, a2, a3, a4, a5, a6, a7, a8, -⟩ := sift_trial (W := W ||| 2 ^ r) (R := K &&& ((2 ^ rc - 1) ^^^ 2 ^ r)) (row0 := row0) (b0 := b) (t0 := t) (rk1 := rk1) (m61 := m61) (m62 := sd) (m63 := stood) (i64 := i64) (i65 := i65) (cf := 0) (mf := 0) hN H (by omega) t2 hKW2 (fun q => absurd rfl q)
    rw [if_pos rfl, if_pos rfl, a7 rfl] at a3
    rw [a8 rfl] at a2
    obtain ⟨x, x1, x2, x3⟩ := least_same_t hN hn hk hq a5 hj
    have ng := x3.neg (by have := pw9_le n (by omega); omega)
    rw [t1, Option.bind_some, a2, Option.bind_some, x1, Option.bind_some, a3, Option.bind_some, x2, Option.bind_some]
    by_cases hx : x = -1
    · rw [if_pos hx, if_neg (show ¬ 0 ≤ x by rw [hx]; decide)]
      exact ih i i' (r + 1) _ _ row' bf' met' rk1 sd' stood' (by omega) (by omega) (by omega) hW2 hK2 hKW2 hrest2
    · rw [if_neg hx, if_pos (fa_yes (fun z => hx (ng.2.mp z)))]
      exact ih i i' (r + 1) _ _ row' bf' met' rk1 sd' stood' (by omega) (by omega) (by omega) hW hK hKW (fun u h1 h2 => hrest u (by omega) h2)
theorem bones_eq {N n nr S rc RA k : Nat} {c5 k5 k6 m60 m59 m29 ax cr mr s15 s16 s17 is cq mq m61 sd m63 a13 : Nat → Int32} {pt tr st l10 l11 l12 : Nat → Int64} {i64 i65 : Int32} (hN : 100000 ≤ N) (H : RFx n nr S rc RA c5 k5 k6 m60 m59 m29 pt ax cr mr s15 s16 s17 is tr) (hc : RCl n nr S rc RA N c5 k5 k6 pt tr cr st) (hs : RSt n st sd) (hk : k ≤ 12) (hq : RAsk n k cq mq tr is) (a : Int32) : ∃ (v : Int32) (row' b' t' : Nat → Int64) (sd' stood' : Nat → Int32), f_X_bones N a 1 (nI rc) (nI k) (nI S) cr cq (nI n) c5 (nI (2 ^ n)) (nI RA) tr pt st l10 l11 l12 k5 k6 a13 = some (v, row', b', t', a13) ∧ f_M_bones N a (nI rc) (nI k) (nI nr) (nI n) 1 i64 i65 s15 s16 s17 mr mq m29 is ax m59 m60 m61 sd m63 = some (v, i64, i65, m61, sd', stood') ∧ RSt n st sd' := by
  have hn := H.1.1
  have hrc := H.2.2.1
  have h12 := pw12_le rc (by omega)
  unfold f_X_bones f_M_bones
  rw [if_neg i1z, if_neg i1z, X_isQ_eq (by omega), M_noQ_eq (by omega), Option.bind_some, Option.bind_some]
  by_cases h1 : ∃ j : Nat, j < k ∧ a = nI j
  · rw [if_pos h1, if_pos h1, if_neg i1z, if_pos rfl]
    obtain ⟨j, hj, rfl⟩ := h1
    rw [B_question_eq hk hj, Option.bind_some]
    obtain ⟨x, x1, x2, x3⟩ := least_same hN hn hk hq hs hj
    have ng := x3.neg (by have := pw9_le n (by omega); omega)
    unfold f_K_rulesThatForbid
    rw [x1, Option.bind_some, x2, Option.bind_some]
    by_cases hx : x = -1
    · rw [if_pos hx, if_pos (ng.2.mpr hx), pw12_1 rc (by omega)]
      obtain ⟨v, row', b', t', sd', stood', e1, e2, e3⟩ := bo_loop (m61 := m61) (a61 := m61) (a62 := sd) (a63 := m63) (a13 := a13) (l9 := st) (l10 := l10) (l11 := l11) (l12 := l12) (i64 := i64) (i65 := i65) (i22 := nI k) hN H hc hk hq hj rc N N 0 0 (2 ^ rc - 1) l10 l11 l12 a13 sd m63 (by omega) (by omega) (by omega) (Nat.two_pow_pos _) ones_lt (fun u hu => by rw [Nat.testBit_two_pow_sub_one]; simp [hu]) (fun u _ _ => by simp)
      have e1' : f_K_rulesThatForbid_29 N (nI rc) (nI S) cr (nI n) c5 (nI (2 ^ n)) (nI RA) tr pt st l10 l11 l12 k5 k6 a13 (cq j) N (nI (2 ^ rc - 1)) (0 : Int32) l10 l11 l12 a13 = _ := e1
      have e2' : f_M_bones_35 N (nI rc) (nI k) (nI nr) (nI n) 1 i64 i65 s15 s16 s17 mr mq m29 is ax m59 m60 m61 sd m63 (nI j) N (0 : Int32) (0 : Int32) i64 i65 m61 sd m63 = _ := e2
      rw [e1', Option.bind_some, e2']
      exact ⟨v, row', b', t', sd', stood', rfl, rfl, e3⟩
    · rw [if_neg hx, if_neg (fun z => hx (ng.2.mp z)), Option.bind_some]
      exact ⟨-1, l10, l11, l12, sd, m63, rfl, rfl, hs⟩
  · rw [if_neg h1, if_neg h1, if_pos rfl, if_neg i1z]
    exact ⟨-102, l10, l11, l12, sd, m63, rfl, rfl, hs⟩
