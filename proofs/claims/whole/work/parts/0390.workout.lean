/-! workOut of both -/
def RuS (h hR hS rc no ns : Nat) (o φ : Nat → Nat) (cr mr s15 s16 s17 : Nat → Int32) : Prop := ∀ k, k < rc → ∃ so sy j1 j2 : Nat, so < 2 ∧ sy < ns ∧ j1 < no ∧ j2 < no ∧ cr k = nI (so + 256 * φ (o j1) + 65536 * φ (o j2)) ∧ mr (hR + k) = nI sy ∧ s15 (hS + sy) = nI so ∧ s16 (hS + sy) = nI (h + o j1) ∧ s17 (hS + sy) = nI (h + o j2)
def QuS (h hR qc no : Nat) (o φ : Nat → Nat) (cq mq : Nat → Int32) : Prop := ∀ k, k < qc → ∃ j, j < no ∧ cq k = nI (φ (o j)) ∧ mq (hR + k) = nI (h + o j)
def NmC (nn n sz : Nat) (c0 c1 c3 c6 : Nat → Int32) : Prop := (∀ a, a < nn → ∃ c, c < sz ∧ c0 c = nI 0 ∧ c1 c = nI a) ∧ (∀ c, c < sz → c0 c = nI 0 → ∃ x : Nat, x < n ∧ c3 c = nI x ∧ c6 x = c1 c) ∧ (∀ k k', k < n → k' < n → c6 k = c6 k' → c6 k ≠ -1 → k = k')
/-- all that a book's work-out leaves, of both -/
def KRl (N n nn nr S rc qc sz : Nat) (c0 c1 c2 c5 cr cq iK : Nat → Int32) (lK : Nat → Nat → Int64) (aK : Nat → Nat → Int32) (i64 i65 : Int32) (m15 m16 m17 mr mq m29 m33 is ax m59 m60 m61 m62 : Nat → Int32) : Prop := ∃ (RA : Nat) (sd0 : Nat → Int32) (own : Nat → Nat), iK 2 = nI (2 ^ n) ∧ iK 7 = nI RA ∧ iK 14 = i65 ∧ RSt n (lK 8) sd0 ∧ i64 = nI (cnt sd0 (2 ^ n)) ∧ RSt n (lK 9) m62 ∧ (∀ s, s < 2 ^ n → aK 13 s = m61 s) ∧ RFx n nr S rc RA c5 (aK 5) (aK 6) m60 m59 m29 (lK 4) ax cr mr m15 m16 m17 is (lK 3) ∧ RCl n nr S rc RA N c5 (aK 5) (aK 6) (lK 4) (lK 3) cr (lK 9) ∧ Ow n c5 (aK 5) m60 own ∧ (∀ sd, RSt n (lK 9) sd → Mst N n nr S c5 m59 ax sd own) ∧ RAsk n qc cq mq (lK 3) is ∧ RNm n nn sz c0 c1 c2 m33 (lK 3)
theorem wr_loop {N n : Nat} {iK iC iB x_iK : Nat → Int32} {lK lB X : Nat → Nat → Int64} {aK aB aC A : Nat → Nat → Int32} (hn : n ≤ 9) (e2 : x_iK 2 = nI (2 ^ n)) : ∀ (d i t : Nat) (rk : Nat → Int32), t + d = 2 ^ n → d < i → (∀ s, s < t → rk s = if tb (X 8) 0 s = true then -1 else 0) → ∃ rk' : Nat → Int32, f_K_workOut_215 N iK lK aK iB lB aB iC aC x_iK X i (nI t) (us A [(13, rk)]) = f_K_workOut_259 N iK lK aK iB lB aB iC aC x_iK X (us A [(13, rk')]) ∧ ∀ s, s < 2 ^ n → rk' s = if tb (X 8) 0 s = true then -1 else 0 := by
  have h9 := pw9_le n (by omega)
  intro d
  induction d with
  | zero =>
    intro i t rk ht hi h
    obtain ⟨i, rfl⟩ : ∃ k, i = k + 1 := ⟨i - 1, by omega⟩
    rw [f_K_workOut_215, e2, if_pos (nI_le (show 2 ^ n ≤ t by omega) (by omega))]
    exact ⟨rk, rfl, fun s hs => h s (by omega)⟩
  | succ d ih =>
    intro i t rk ht hi h
    obtain ⟨i, rfl⟩ : ∃ k, i = k + 1 := ⟨i - 1, by omega⟩
    have s0 : vp_nar .short ((0 : Int32)).toInt16.toInt32 = 0 := by decide
    have s1 : vp_nar .short ((-1 : Int32)).toInt16.toInt32 = -1 := by decide
    have nx : ∀ v : Int32, (v = if tb (X 8) 0 t = true then -1 else 0) → ∀ s, s < t + 1 → upd rk t v s = if tb (X 8) 0 s = true then -1 else 0 := fun v hv s hs => by
      by_cases e : s = t
      · subst e; rw [up_s]; exact hv
      · rw [up_n e]; exact h s (by omega)
    rw [f_K_workOut_215, e2, if_neg (nI_ge (show t < 2 ^ n by omega) (by omega)), if_neg (show ¬ (512 : Int32) ≤ nI t from nI_ge (show t < 512 by omega) (by decide)), K_has_eq (by omega), Option.bind_some]
    by_cases q : tb (X 8) 0 t = true
    · rw [if_pos q, if_neg i1z]
      unfold f_K_workOut_251
      rw [if_neg (nI_g (show t < 512 by omega) (by decide)), nI_cl (by omega), us_at1, us_us1, nI_m, s1]
      exact ih i (t + 1) _ (by omega) (by omega) (nx (-1) (by rw [if_pos q]))
    · rw [if_neg q, if_pos rfl]
      unfold f_K_workOut_251
      rw [if_neg (nI_g (show t < 512 by omega) (by decide)), nI_cl (by omega), us_at1, us_us1, nI_m, s0]
      exact ih i (t + 1) _ (by omega) (by omega) (nx 0 (by rw [if_neg q]))
theorem own_union {n nr : Nat} {c5 : Nat → Int32} (hnr : nr ≤ 3) (hc : ∀ k, k < n → c5 k = -1 ∨ ∃ r : Nat, r < nr ∧ c5 k = nI r) : (mkS (ownP c5 0) n ||| mkS (ownP c5 1) n ||| mkS (ownP c5 2) n) < 2 ^ n ∧ ∀ k, k < n → ((mkS (ownP c5 0) n ||| mkS (ownP c5 1) n ||| mkS (ownP c5 2) n).testBit k = true ↔ ¬ c5 k = -1) := by
  refine ⟨Nat.or_lt_two_pow (Nat.or_lt_two_pow mkS_lt mkS_lt) mkS_lt, fun k hk => ?_⟩
  rw [Nat.testBit_or, Nat.testBit_or, mkS_bit, mkS_bit, mkS_bit, decide_eq_true hk, Bool.true_and, Bool.true_and, Bool.true_and]
  unfold ownP
  rcases hc k hk with h | ⟨r, hr, h⟩
  · rw [h]
    constructor
    · intro q
      simp only [Bool.or_eq_true, decide_eq_true_eq] at q
      rcases q with (q | q) | q <;> exact absurd q.symm (nI_neg1 (by decide))
    · intro q; exact absurd rfl q
  · rw [h]
    constructor
    · intro _; exact nI_neg1 (by omega)
    · intro _
      have h3 : r = 0 ∨ r = 1 ∨ r = 2 := by omega
      rcases h3 with e | e | e <;> (subst e; decide)
theorem wk_eq {N n nn nr S rc qc sz no ns : Nat} {o φ : Nat → Nat} {iK iB iC iM : Nat → Int32} {lK lB : Nat → Nat → Int64} {aK aB aC aM : Nat → Nat → Int32} {bl : Nat → Nat → Bool} (hN : 100000 ≤ N) (hn : n ≤ 9) (hnn : nn ≤ 5) (hnr : nr ≤ 3) (hz : sz ≤ 200) (hno : no ≤ 200) (hns : ns ≤ 250) (hrc : rc ≤ 12) (hS : S < 8) (c4 : iC 4 = nI sz) (c9 : iC 9 = nI n) (b9 : iB 9 = nI rc) (b13 : iB 13 = nI S) (m14 : iM 14 = nI no) (m20 : iM 20 = nI rc) (m28 : iM 28 = nI nr) (m36 : iM 36 = nI n) (H : RNd 0 no sz o φ (aM 8) (aM 9) (aM 10) (aM 11) (aM 13) (aC 0) (aC 1) (aC 2) (aC 3)) (HC : CNd sz nn nr n (aC 0) (aC 1) (aC 2) (aC 3)) (hA : AtR 0 0 n no nn nr o φ (aC 5) (aC 6) (aC 7) (aC 8) (aM 32) (aM 33) (aM 34) (aM 35)) (hRu : RuS 0 0 0 rc no ns o φ (aB 8) (aM 19) (aM 15) (aM 16) (aM 17)) (hQu : QuS 0 0 qc no o φ (aB 10) (aM 21)) (hNm : NmC nn n sz (aC 0) (aC 1) (aC 3) (aC 6)) (blX : ∀ r s, r < 3 → s < 3 → f_B_isRoleUnder (nI r) (nI s) (aB 12) = some (if bl r s = true then 1 else 0)) (blM : ∀ r s, r < 3 → s < 3 → f_M_isBelow N (nI r) (nI s) (aM 30) = some (if bl r s = true then 1 else 0)) (h29 : ∀ r, r < nr → aM 29 r = if S.testBit r = true then 1 else 0) : ∃ (iK' : Nat → Int32) (lK' : Nat → Nat → Int64) (aK' : Nat → Nat → Int32) (i64 i65 : Int32) (is ax m59 m60 m61 m62 m63 : Nat → Int32), f_K_workOut N iK lK aK iB lB aB iC aC = some (iK', lK', aK') ∧ f_M_workOut N iM aM = some (us iM [(64, i64), (65, i65)], us aM [(57, is), (58, ax), (59, m59), (60, m60), (61, m61), (62, m62), (63, m63)]) ∧ KRl N n nn nr S rc qc sz (aC 0) (aC 1) (aC 2) (aC 5) (aB 8) (aB 10) iK' lK' aK' i64 i65 (aM 15) (aM 16) (aM 17) (aM 19) (aM 21) (aM 29) (aM 33) is ax m59 m60 m61 m62 := by
  have h9 := pw9_le n (by omega)
  have h12 := pw12_le rc (by omega)
  have hc5 : ∀ k, k < n → aC 5 k = -1 ∨ ∃ r : Nat, r < nr ∧ aC 5 k = nI r := fun k hk => by
    rcases (hA k hk).2.2 with h | ⟨r, hr, h, -⟩
    · exact Or.inl h.1
    · exact Or.inr ⟨r, hr, h⟩
  have hAC : AtC n nr sz (aC 5) (aC 7) (aC 8) := fun k hk => by
    rcases (hA k hk).2.2 with h | ⟨r, hr, h5, h6, j, hj, h7, h34, h35, h8⟩
    · exact Or.inl ⟨h.1, h.2.2.1, h.2.2.2⟩
    · exact Or.inr ⟨r, hr, h5, φ (o j), (H j hj).2.2.1, h7, h8⟩
  -- the class: truths, X
  obtain ⟨tr, t1, t2⟩ := w1_eq (iK := iK) (iB := iB) (lK := lK) (lB := lB) (aK := aK) (aB := aB) (x_iK := us iK [(2, nI (2 ^ n))]) hN hz hn c4 HC sz N 0 (lK 3) (by omega) (by omega) (fun c' t h => absurd h (by omega))
  rw [us_id1] at t1
  obtain ⟨pt, p1, p2⟩ := w2_eq (iK := iK) (iB := iB) (lK := lK) (lB := lB) (aK := aK) (aB := aB) (x_iK := us iK [(2, nI (2 ^ n))]) (L := us lK [(3, tr)]) hN hn hnr hz c9 hAC n N 0 (us lK [(3, tr)] 4) (by omega) (by omega) (fun k' t h => absurd h (by omega))
  rw [us_id1] at p1
  rw [us_at1] at p2
  obtain ⟨f5, f6, g1, g2⟩ := ga_eq (a5 := aK 5) (a6 := aK 6) (i7 := us iK [(2, nI (2 ^ n))] 7) hN hn hnr hc5 blX
  obtain ⟨hRAlt, hRAb⟩ := own_union hnr hc5
  -- the model: truths, X, sets
  obtain ⟨is, ax, m59, m60, u1, u2, u3⟩ := fT_eq (m57 := aM 57) (m58 := aM 58) (m59 := aM 59) (m60 := aM 60) hN hn hnr hz hn hno H HC t2 hA blM
  have TMj : ∀ j, j < no → TM n tr is (φ (o j)) (o j) := fun j hj t ht => by
    have := (u2 t ht).1 j hj
    exact ⟨this.1, this.2.symm⟩
  have hPt : RPt n pt ax := fun t ht => ⟨mkS (xP tr (aC 5) (aC 7) (aC 8) t) n, mkS_lt, (u2 t ht).2, fun k hk => by
    rw [p2 k t hk (by omega), mkS_bit, decide_eq_true hk, Bool.true_and]⟩
  have hFar : RFar n f6 m59 := fun r hr => ⟨_, mkS_lt, (g2 r hr).2, (u3 r hr).2⟩
  have hRKd : RKd n nr S (aC 5) f5 f6 m60 m59 (aM 29) pt ax := ⟨hn, hnr, hS, hPt, hFar, fun r hr => ⟨_, mkS_lt, (g2 r hr).1, (u3 r hr).1, fun k hk => by
    rw [mkS_bit, decide_eq_true hk, Bool.true_and]
    unfold ownP
    rw [decide_eq_true_eq]⟩, hc5, h29⟩
  have hRRa : RRa n (mkS (ownP (aC 5) 0) n ||| mkS (ownP (aC 5) 1) n ||| mkS (ownP (aC 5) 2) n) (aC 5) f6 := ⟨hRAlt, hRAb, fun r hr F hF e k hk => by
    rw [(g2 r hr).2] at e
    have e' := (nI_eq (by have := mkS_lt (p := farP (aC 5) bl r) (B := n); omega) (by omega)).mp e
    rw [← e', mkS_bit, Bool.and_eq_true, decide_eq_true_eq] at hk
    rw [hRAb k hk.1]
    intro z
    have h2 := hk.2
    unfold farP at h2
    rw [z] at h2
    have : decide (-1 = nI r) = false := decide_eq_false (fun q => nI_neg1 (by omega) q.symm)
    rw [this] at h2
    exact absurd h2 (by simp)⟩
  have hRRu : RRu n rc (aB 8) (aM 19) (aM 15) (aM 16) (aM 17) is tr := ⟨hrc, fun k hk => by
    obtain ⟨so, sy, j1, j2, q1, q2, q3, q4, q5, q6, q7, q8, q9⟩ := hRu k hk
    rw [Nat.zero_add] at q6 q7 q8 q9
    rw [Nat.zero_add] at q8 q9
    have a1 := (H j1 q3).1
    have a2 := (H j2 q4).1
    have d1 := (H j1 q3).2.2.1
    have d2 := (H j2 q4).2.2.1
    exact ⟨so, φ (o j1), φ (o j2), o j1, o j2, sy, q1, by omega, by omega, a1, a2, by omega, q5, q6, q7, q8, q9, TMj j1 q3, TMj j2 q4⟩⟩
  have hFx : RFx n nr S rc (mkS (ownP (aC 5) 0) n ||| mkS (ownP (aC 5) 1) n ||| mkS (ownP (aC 5) 2) n) (aC 5) f5 f6 m60 m59 (aM 29) pt ax (aB 8) (aM 19) (aM 15) (aM 16) (aM 17) is tr := ⟨hRKd, hRRa, hRRu⟩
  generalize hRAe : (mkS (ownP (aC 5) 0) n ||| mkS (ownP (aC 5) 1) n ||| mkS (ownP (aC 5) 2) n) = RA at *
  -- fair types, ranks, rounds
  have hX3 : us (us lK [(3, tr)]) [(4, pt)] 3 = tr := by rw [us_ne1 (by decide), us_at1]
  have hX4 : us (us lK [(3, tr)]) [(4, pt)] 4 = pt := us_at1
  generalize us (us lK [(3, tr)]) [(4, pt)] = X at *
  obtain ⟨fr, v1, v2⟩ := tf_eq_fair (l8 := X 8) hN hn hRRu (show 2 ^ rc - 1 < 4096 by omega)
  generalize hrow : va_cpy fr (X 9) ((0 : Int32)).toNatClampNeg ((0 : Int32)).toNatClampNeg ((8 : Int32)).toNatClampNeg = row0
  have hrow0 : ∀ s, s < 512 → tb row0 0 s = tb fr 0 s := fun s hs => by rw [← hrow]; exact cpy_tb hs
  obtain ⟨rk1, r1, r2⟩ := wr_loop (N := N) (iK := iK) (iC := iC) (iB := iB) (lK := lK) (lB := lB) (aK := aK) (aB := aB) (aC := aC) (X := us X [(8, fr), (9, row0)]) (A := us aK [(5, f5), (6, f6)]) (x_iK := us (us iK [(2, nI (2 ^ n))]) [(7, nI RA)]) hn (by rw [us_ne1 (by decide), us_at1]) (2 ^ n) N 0 (us aK [(5, f5), (6, f6)] 13) (by omega) (by omega) (fun s h => absurd h (by omega))
  rw [us_id1] at r1
  have hY8 : us X [(8, fr), (9, row0)] 8 = fr := rfl
  rw [hY8] at r2
  obtain ⟨q, row', bf', met', rk1', rk2', sd0, sd', stood', s1, s2, s3, s4, s5, s6, s7, s8, s9⟩ := sift_standing (W := 0) (R := 2 ^ rc - 1) (row0 := row0) (b0 := X 11) (t0 := X 12) (rk1 := rk1) (m61 := aM 61) (m62 := aM 62) (m63 := aM 63) (i64 := iM 64) (i65 := iM 65) (cf := 1) (mf := 1) hN hFx (by decide) (fun s hs => by rw [hrow0 s hs]; exact v2 s hs) (fun k hk => by rw [Nat.testBit_two_pow_sub_one]; simp [hk]) (fun _ _ s hs => by rw [hrow0 s (by omega)]; exact r2 s hs)
  rw [if_neg i1z, if_neg i1z] at s3
  refine ⟨us (us (us iK [(2, nI (2 ^ n))]) [(7, nI RA)]) [(14, nI q)], us (us X [(8, fr), (9, row0)]) [(9, row'), (11, bf'), (12, met')], us (us (us aK [(5, f5), (6, f6)]) [(13, rk1)]) [(13, rk1')], nI (cnt sd0 (2 ^ n)), nI q, is, ax, m59, m60, rk2', sd', stood', ?_, ?_, ?_⟩
  · unfold f_K_workOut
    have e9 : ((1 : Int32) <<< ((if (9 : Int32) < iC 9 then (9 : Int32) else iC 9) &&& 31)) = nI (2 ^ n) := by
      rw [c9, if_neg (show ¬ (9 : Int32) < nI n from nI_nlt (show n ≤ 9 by omega) (by decide)), pw9 n (by omega)]
    rw [e9, show (0 : Int32) = nI 0 from rfl, t1, show (0 : Int32) = nI 0 from rfl, p1]
    unfold f_K_workOut_175
    rw [c9, g1, Option.bind_some, b9, pw12_1 rc (by omega)]
    rw [us_at1, hX3, v1, Option.bind_some, hrow, show (0 : Int32) = nI 0 from rfl, r1]
    unfold f_K_workOut_259
    have k2 : us (us iK [(2, nI (2 ^ n))]) [(7, nI RA)] 2 = nI (2 ^ n) := by rw [us_ne1 (by decide), us_at1]
    have k7 : us (us iK [(2, nI (2 ^ n))]) [(7, nI RA)] 7 = nI RA := us_at1
    have l4 : us X [(8, fr), (9, row0)] 4 = pt := by rw [← hX4]; rfl
    have l9 : us X [(8, fr), (9, row0)] 9 = row0 := rfl
    have l11 : us X [(8, fr), (9, row0)] 11 = X 11 := rfl
    have l12 : us X [(8, fr), (9, row0)] 12 = X 12 := rfl
    have a5 : us (us aK [(5, f5), (6, f6)]) [(13, rk1)] 5 = f5 := rfl
    have a6 : us (us aK [(5, f5), (6, f6)]) [(13, rk1)] 6 = f6 := rfl
    have a13 : us (us aK [(5, f5), (6, f6)]) [(13, rk1)] 13 = rk1 := us_at1
    rw [k2, k7, l4, l9, l11, l12, a5, a6, a13, b13, c9, s2, Option.bind_some]
  · unfold f_M_workOut
    rw [m14, m36, u1, Option.bind_some, m20, m28]
    show (f_M_sift N (0 : Int32) (1 : Int32) (nI rc) (nI nr) (nI n) (iM 64) (iM 65) (aM 15) (aM 16) (aM 17) (aM 19) (aM 29) is ax m59 m60 (aM 61) (aM 62) (aM 63)).bind _ = _
    rw [show (0 : Int32) = nI 0 from rfl, s3, Option.bind_some]
  · have hOw := ow_of hRKd
    refine ⟨RA, sd0, _, rfl, rfl, rfl, ?_, rfl, s5, fun s hs => s6 i1z i1z s hs, ?_, ?_, hOw, mst_of hN hRKd hOw s5 s9, ?_, ?_⟩
    · exact ⟨fun s hs => by
        have := s4.1 s hs
        rw [hrow0 s (by omega)] at this
        exact this, fun s h1 h2 => by
        have := s4.2 s h1 h2
        rw [hrow0 s h2] at this
        exact this⟩
    · show RFx n nr S rc RA (aC 5) f5 f6 m60 m59 (aM 29) (X 4) ax (aB 8) (aM 19) (aM 15) (aM 16) (aM 17) is (X 3)
      rw [hX3, hX4]; exact hFx
    · show RCl n nr S rc RA N (aC 5) f5 f6 (X 4) (X 3) (aB 8) row'
      rw [hX3, hX4]
      exact ⟨row0, X 8, X 11, X 12, rk1, _, ⟨fr, v1, hrow0⟩, s2, rfl⟩
    · show RAsk n qc (aB 10) (aM 21) (X 3) is
      rw [hX3]
      intro k hk
      obtain ⟨j, j1, j2, j3⟩ := hQu k hk
      rw [Nat.zero_add] at j3
      rw [Nat.zero_add] at j3
      have a1 := (H j j1).1
      have d1 := (H j j1).2.2.1
      exact ⟨φ (o j), o j, by omega, a1, j2, j3, TMj j j1⟩
    · show RNm n nn sz (aC 0) (aC 1) (aC 2) (aM 33) (X 3)
      rw [hX3]
      obtain ⟨n1, n2, n3⟩ := hNm
      have e33 : ∀ k, k < n → aM 33 k = aC 6 k := fun k hk => by
        have h := (hA k hk).2.1
        rw [show 0 + k = k from Nat.zero_add k] at h
        exact h
      intro a ha
      obtain ⟨c, hc, e0, e1⟩ := n1 a ha
      obtain ⟨x, hx, x1, x2⟩ := n2 c hc e0
      have uniq : ∀ k, k < n → aC 6 k = nI a → k = x := fun k hk e => n3 k x hk hx (by rw [e, x2, e1]) (by rw [e]; exact nI_neg1 (by omega))
      obtain ⟨K, hK, k0, -, -, -, k1, -⟩ := HC c hc
      have hK0 : K = 0 := ((nI_eq (by omega) (by omega)).mp (e0.symm.trans k0)).symm
      refine ⟨⟨c, hc, e0, e1, (k1 hK0).2⟩, x, hx, by rw [e33 x hx, x2, e1], fun k hk e => ?_, fun c' hc' e0' e1' t ht => ?_⟩
      · rw [e33 k (by omega)] at e
        have := uniq k (by omega) e
        omega
      · obtain ⟨x', hx', y1, y2⟩ := n2 c' hc' e0'
        have : x' = x := uniq x' hx' (by rw [y2, e1'])
        rw [(t2 c' t hc' (by omega)).1 (Or.inl e0'), y1, this, nI_cl (by omega)]
