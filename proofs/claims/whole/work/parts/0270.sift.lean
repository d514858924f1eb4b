/-! bones, of both -/
theorem lw_step_t {N i c w : Nat} {tr st : Nat → Int64} (hc : c < 200) (hw : w < 8) : f_K_leastWhere_trial_2 N tr st (nI c) (i + 1) (nI w) = if (st w &&& tr (c * 8 + w)) = 0 then f_K_leastWhere_trial_2 N tr st (nI c) i (nI (w + 1)) else (f_K_lowestBit (st w &&& tr (c * 8 + w))).bind fun q => some ((64 : Int32) * nI w + q) := by
  rw [f_K_leastWhere_trial_2, if_neg (show ¬ (8 : Int32) ≤ nI w from nI_ge hw (by decide)), if_neg (show ¬ (8 : Int32) ≤ nI w from nI_ge hw (by decide)), if_neg (nI_g hw (by decide)), K_truthOf_eq hc hw, Option.bind_some, nI_cl (by omega), nI_m]
theorem lw_loop_t {N c : Nat} {tr st : Nat → Int64} (hc : c < 200) : ∀ (d i w : Nat), w + d = 8 → d < i → (∀ s, s < 64 * w → ¬ (tb st 0 s = true ∧ tb tr (c * 8) s = true)) → ∃ r : Int32, f_K_leastWhere_trial_2 N tr st (nI c) i (nI w) = some r ∧ isLst (fun t => tb st 0 t = true ∧ tb tr (c * 8) t = true) 512 r := by
  intro d
  induction d with
  | zero =>
    intro i w hw hi hs
    obtain ⟨i, rfl⟩ : ∃ k, i = k + 1 := ⟨i - 1, by omega⟩
    rw [f_K_leastWhere_trial_2, if_pos (show (8 : Int32) ≤ nI w from nI_le (show 8 ≤ w by omega) (by omega))]
    exact ⟨-1, rfl, Or.inr ⟨rfl, fun s h => hs s (by omega)⟩⟩
  | succ d ih =>
    intro i w hw hi hs
    obtain ⟨i, rfl⟩ : ∃ k, i = k + 1 := ⟨i - 1, by omega⟩
    rw [lw_step_t hc (by omega)]
    have bit : ∀ s, s / 64 = w → ((st w &&& tr (c * 8 + w)).toBitVec.getLsbD (s % 64) = true ↔ (tb st 0 s = true ∧ tb tr (c * 8) s = true)) := by
      intro s e
      unfold tb
      rw [land_bit, e, Nat.zero_add, Bool.and_eq_true]
    by_cases h : (st w &&& tr (c * 8 + w)) = 0
    · rw [if_pos h]
      refine ih i (w + 1) (by omega) (by omega) (fun s hlt => ?_)
      rcases Nat.lt_or_ge s (64 * w) with q | q
      · exact hs s q
      · rw [← bit s (by omega), zero_bits h]; simp
    · rw [if_neg h]
      obtain ⟨k, hk, h1, h0⟩ := low_ex h
      rw [lowestBit_eq hk h1 h0, Option.bind_some]
      refine ⟨_, rfl, Or.inl ⟨64 * w + k, by omega, ?_, ?_, fun s hlt => ?_⟩⟩
      · rw [show (64 : Int32) = nI 64 from rfl, pk_mul, nI_add]
      · exact (bit (64 * w + k) (by omega)).mp (by rw [show (64 * w + k) % 64 = k by omega]; exact h1)
      · rcases Nat.lt_or_ge s (64 * w) with q | q
        · exact hs s q
        · intro z
          have h2 := (bit s (by omega)).mpr z
          rw [h0 (s % 64) (by omega)] at h2
          cases h2
theorem lw_eq_t {N c : Nat} {tr st : Nat → Int64} (hN : 100000 ≤ N) (hc : c < 200) : ∃ r : Int32, f_K_leastWhere_trial N (nI c) tr st = some r ∧ isLst (fun t => tb st 0 t = true ∧ tb tr (c * 8) t = true) 512 r := by
  unfold f_K_leastWhere_trial
  exact lw_loop_t hc 8 N 0 (by omega) (by omega) (fun s h => absurd h (by omega))
theorem least_same_t {N n k j : Nat} {cq mq is sd : Nat → Int32} {tr st : Nat → Int64} (hN : 100000 ≤ N) (hn : n ≤ 9) (hk : k ≤ 12) (h : RAsk n k cq mq tr is) (hs : RSt n st sd) (hj : j < k) : ∃ r : Int32, f_K_leastWhere_trial N (cq j) tr st = some r ∧ f_M_leastOf N (nI j) (nI n) mq is sd = some r ∧ isLst (fun t => sd t = 1 ∧ ∃ m : Nat, mq j = nI m ∧ m < 200 ∧ is (512 * m + t) = 1) (2 ^ n) r := by
  have h9 := pw9_le n (by omega)
  obtain ⟨c, m, hc, hm, e1, e2, e3⟩ := h j hj
  obtain ⟨r, g1, g2⟩ := lw_eq_t (N := N) (tr := tr) (st := st) hN hc
  obtain ⟨r', g3, g4⟩ := lo_eq (N := N) (sd := sd) hN hn (show j < 24 by omega) e2 hm (fun t ht => (e3 t ht).1)
  have e : r' = r := g4.uniq g2 h9 (fun t ht => by
    have q1 := hs.1 t ht
    have q2 := e3 t ht
    constructor
    · rintro ⟨a1, a2⟩
      refine ⟨q1.2.mpr ?_, q2.2.mpr a2⟩
      rcases q1.1 with z | z
      · exact absurd z a1
      · exact z
    · rintro ⟨a1, a2⟩
      refine ⟨fun z => ?_, q2.2.mp a2⟩
      rw [q1.2.mp a1] at z
      exact absurd z (by decide)) (fun t h1 h2 z => by rw [hs.2 t h1 h2] at z; exact absurd z.1 (by decide))
  subst e
  refine ⟨r', by rw [e1]; exact g1, g3, ?_⟩
  have conv : ∀ t, t < 2 ^ n → ((¬ sd t = 0 ∧ is (512 * m + t) = 1) ↔ (sd t = 1 ∧ ∃ m : Nat, mq j = nI m ∧ m < 200 ∧ is (512 * m + t) = 1)) := fun t ht => by
    constructor
    · rintro ⟨a1, a2⟩
      refine ⟨?_, m, e2, hm, a2⟩
      rcases (hs.1 t ht).1 with z | z
      · exact absurd z a1
      · exact z
    · rintro ⟨a1, m', a2, a3, a4⟩
      have : m = m' := (nI_eq (by omega) (by omega)).mp (e2.symm.trans a2)
      subst this
      exact ⟨by rw [a1]; decide, a4⟩
  rcases g4 with ⟨t, b1, b2, b3, b4⟩ | ⟨b1, b2⟩
  · exact Or.inl ⟨t, b1, b2, (conv t b1).mp b3, fun s hlt z => b4 s hlt ((conv s (by omega)).mpr z)⟩
  · exact Or.inr ⟨b1, fun s hlt z => b2 s hlt ((conv s hlt).mpr z)⟩

theorem bit_big {a m k : Nat} (ha : a < 2 ^ m) (hk : m ≤ k) : a.testBit k = false :=
  Nat.testBit_lt_two_pow (Nat.lt_of_lt_of_le ha (Nat.pow_le_pow_right (by decide) hk))
theorem ones_lt {m : Nat} : 2 ^ m - 1 < 2 ^ m := Nat.sub_lt (Nat.two_pow_pos m) (by decide)
/-- a without what is in t: m bits -/
theorem nI_andm {m a t : Nat} (ha : a < 2 ^ m) (hm : m ≤ 31) : nI a &&& (nI t ^^^ (-1 : Int32)) = nI (a &&& ((2 ^ m - 1) ^^^ t)) := by
  rw [← Int32.toBitVec_inj]
  show BitVec.ofNat 32 a &&& (BitVec.ofNat 32 t ^^^ (-1#32)) = BitVec.ofNat 32 (a &&& ((2 ^ m - 1) ^^^ t))
  apply BitVec.eq_of_getLsbD_eq
  intro i hi
  rw [BitVec.getLsbD_and, BitVec.getLsbD_xor, BitVec.getLsbD_ofNat, BitVec.getLsbD_ofNat, BitVec.getLsbD_ofNat, Nat.testBit_and, Nat.testBit_xor, Nat.testBit_two_pow_sub_one, show (-1#32) = BitVec.allOnes 32 from by decide, BitVec.getLsbD_allOnes]
  rcases Nat.lt_or_ge i m with q | q
  · simp [hi, q]
  · rw [bit_big ha q]; simp
theorem andm_bit {m a t k : Nat} (ha : a < 2 ^ m) : (a &&& ((2 ^ m - 1) ^^^ t)).testBit k = (a.testBit k && !(t.testBit k)) := by
  rw [Nat.testBit_and, Nat.testBit_xor, Nat.testBit_two_pow_sub_one]
  rcases Nat.lt_or_ge k m with q | q
  · simp [q]
  · rw [bit_big ha q]; simp
theorem pw12 : ∀ n, n < 13 → ((1 : Int32) <<< (nI n &&& 31)) = nI (2 ^ n) := by decide
theorem pw12_1 : ∀ n, n < 13 → ((1 : Int32) <<< (nI n &&& 31)) - (1 : Int32) = nI (2 ^ n - 1) := by decide
theorem pw12_le : ∀ n, n < 13 → 2 ^ n ≤ 4096 := by decide
/-- all that is fixed with a book: what both need to find what stands -/
def RFx (n nr S rc RA : Nat) (c5 k5 k6 m60 m59 m29 : Nat → Int32) (pt : Nat → Int64) (ax cr mr s15 s16 s17 is : Nat → Int32) (tr : Nat → Int64) : Prop := RKd n nr S c5 k5 k6 m60 m59 m29 pt ax ∧ RRa n RA c5 k6 ∧ RRu n rc cr mr s15 s16 s17 is tr
/-- the model's way from rules left out to what stands, beside a row of the class -/
theorem sift_standing {N n nr S rc RA W R : Nat} {c5 k5 k6 m60 m59 m29 ax cr mr s15 s16 s17 is m61 m62 m63 rk1 : Nat → Int32} {pt tr row0 b0 t0 : Nat → Int64} {i64 i65 cf mf : Int32} (hN : 100000 ≤ N) (H : RFx n nr S rc RA c5 k5 k6 m60 m59 m29 pt ax cr mr s15 s16 s17 is tr) (hW : W < 4096) (hrow : ∀ s, s < 512 → (tb row0 0 s = true ↔ s < 2 ^ n ∧ ∀ k, k < rc → R.testBit k = true → Hol mr s15 s16 s17 is k s)) (hWR : ∀ k, k < rc → (R.testBit k = true ↔ W.testBit k = false)) (hrk : ¬ cf = 0 → ¬ mf = 0 → ∀ s, s < 2 ^ n → rk1 s = if tb row0 0 s = true then -1 else 0) : ∃ (q : Nat) (row' bf' met' : Nat → Int64) (rk1' rk2' sd0 sd' stood' : Nat → Int32), q ≤ 512 ∧ f_K_settle_standing N cf (nI S) (nI n) c5 (nI (2 ^ n)) (nI RA) pt row0 b0 t0 k5 k6 rk1 = some (nI q, row', bf', met', rk1') ∧ f_M_sift N (nI W) mf (nI rc) (nI nr) (nI n) i64 i65 s15 s16 s17 mr m29 is ax m59 m60 m61 m62 m63 = some (if mf = 0 then i64 else nI (cnt sd0 (2 ^ n)), if mf = 0 then i65 else nI q, rk2', sd', stood') ∧ RSt n row0 sd0 ∧ RSt n row' sd' ∧ (¬ cf = 0 → ¬ mf = 0 → ∀ s, s < 2 ^ n → rk1' s = rk2' s) ∧ (mf = 0 → rk2' = m61) ∧ (cf = 0 → rk1' = rk1)  ∧ Fxp N n nr m29 ax m59 m60 sd' stood' := by
  obtain ⟨Hk, Ha, Hu⟩ := H
  have hn := Hk.1
  have h9 := pw9_le n (by omega)
  obtain ⟨rk2, sd0, a1, a2, a3, a4⟩ := sf_loop (N := N) (nr := nr) (m29 := m29) (ax := ax) (m59 := m59) (m60 := m60) (m61 := m61) (m62 := m62) (m63 := m63) (i64 := i64) (i65 := i65) (mf := mf) hN hn Hu hW (2 ^ n) N 0 m61 m62 (by omega) (by omega) (fun s h => absurd h (by omega)) (fun _ s h => absurd h (by omega))
  have hst : RSt n row0 sd0 := by
    refine ⟨fun s hs => ⟨(a2 s hs).1, ?_⟩, fun s h1 h2 => ?_⟩
    · rw [hrow s (by omega), (a2 s hs).2]
      exact ⟨fun q k hk hw => q.2 k hk ((hWR k hk).mpr hw), fun q => ⟨hs, fun k hk hr => q k hk ((hWR k hk).mp hr)⟩⟩
    · cases h : tb row0 0 s
      · rfl
      · exact absurd ((hrow s h2).mp h).1 (by omega)
  obtain ⟨q, row', bf', met', rk1', rk2', sd', stood', b1, b2, b3, b4, b5, b6, b7, b8⟩ := st_standing (m15 := s15) (m16 := s16) (m17 := s17) (m19 := mr) (m57 := is) (m61 := m61) (m62 := m62) (m63 := m63) (l9 := row0) (l11 := b0) (l12 := t0) (k13 := rk1) (i20 := nI rc) (i64 := i64) (i65 := i65) (cf := cf) (mf := mf) (v3m := nI (cnt sd0 (2 ^ n))) hN Hk Ha 512 0 N N row0 b0 t0 rk1 rk2 sd0 m63 hst (Nat.le_trans (cnt_le _ _) h9) (by omega) (by omega) (by omega)
  refine ⟨q, row', bf', met', rk1', rk2', sd0, sd', stood', b1, b2, ?_, hst, b4, fun q1 q2 s hs => b5 (fun s hs => ?_) q1 q2 s hs, fun q => (b6 q).trans (a4 q), b7, b8⟩
  · have a1' : f_M_sift N (nI W) mf (nI rc) (nI nr) (nI n) i64 i65 s15 s16 s17 mr m29 is ax m59 m60 m61 m62 m63 = _ := a1
    rw [a1']
    exact b3
  · rw [hrk q1 q2 s hs, a3 q2 s hs]
    have z := hst.1 s hs
    rcases z.1 with y | y
    · rw [if_neg (fun e => by have := z.2.mp e; rw [y] at this; exact absurd this (by decide)), if_pos y]
    · rw [if_pos (z.2.mpr y), y, if_neg i1z]
/-- the model's way from rules left out to what stands, beside a row of the class -/
theorem sift_trial {N n nr S rc RA W R : Nat} {c5 k5 k6 m60 m59 m29 ax cr mr s15 s16 s17 is m61 m62 m63 rk1 : Nat → Int32} {pt tr row0 b0 t0 : Nat → Int64} {i64 i65 cf mf : Int32} (hN : 100000 ≤ N) (H : RFx n nr S rc RA c5 k5 k6 m60 m59 m29 pt ax cr mr s15 s16 s17 is tr) (hW : W < 4096) (hrow : ∀ s, s < 512 → (tb row0 0 s = true ↔ s < 2 ^ n ∧ ∀ k, k < rc → R.testBit k = true → Hol mr s15 s16 s17 is k s)) (hWR : ∀ k, k < rc → (R.testBit k = true ↔ W.testBit k = false)) (hrk : ¬ cf = 0 → ¬ mf = 0 → ∀ s, s < 2 ^ n → rk1 s = if tb row0 0 s = true then -1 else 0) : ∃ (q : Nat) (row' bf' met' : Nat → Int64) (rk1' rk2' sd0 sd' stood' : Nat → Int32), q ≤ 512 ∧ f_K_settle_trial N cf (nI S) (nI n) c5 (nI (2 ^ n)) (nI RA) pt row0 b0 t0 k5 k6 rk1 = some (nI q, row', bf', met', rk1') ∧ f_M_sift N (nI W) mf (nI rc) (nI nr) (nI n) i64 i65 s15 s16 s17 mr m29 is ax m59 m60 m61 m62 m63 = some (if mf = 0 then i64 else nI (cnt sd0 (2 ^ n)), if mf = 0 then i65 else nI q, rk2', sd', stood') ∧ RSt n row0 sd0 ∧ RSt n row' sd' ∧ (¬ cf = 0 → ¬ mf = 0 → ∀ s, s < 2 ^ n → rk1' s = rk2' s) ∧ (mf = 0 → rk2' = m61) ∧ (cf = 0 → rk1' = rk1)  ∧ Fxp N n nr m29 ax m59 m60 sd' stood' := by
  obtain ⟨Hk, Ha, Hu⟩ := H
  have hn := Hk.1
  have h9 := pw9_le n (by omega)
  obtain ⟨rk2, sd0, a1, a2, a3, a4⟩ := sf_loop (N := N) (nr := nr) (m29 := m29) (ax := ax) (m59 := m59) (m60 := m60) (m61 := m61) (m62 := m62) (m63 := m63) (i64 := i64) (i65 := i65) (mf := mf) hN hn Hu hW (2 ^ n) N 0 m61 m62 (by omega) (by omega) (fun s h => absurd h (by omega)) (fun _ s h => absurd h (by omega))
  have hst : RSt n row0 sd0 := by
    refine ⟨fun s hs => ⟨(a2 s hs).1, ?_⟩, fun s h1 h2 => ?_⟩
    · rw [hrow s (by omega), (a2 s hs).2]
      exact ⟨fun q k hk hw => q.2 k hk ((hWR k hk).mpr hw), fun q => ⟨hs, fun k hk hr => q k hk ((hWR k hk).mp hr)⟩⟩
    · cases h : tb row0 0 s
      · rfl
      · exact absurd ((hrow s h2).mp h).1 (by omega)
  obtain ⟨q, row', bf', met', rk1', rk2', sd', stood', b1, b2, b3, b4, b5, b6, b7, b8⟩ := st_trial (m15 := s15) (m16 := s16) (m17 := s17) (m19 := mr) (m57 := is) (m61 := m61) (m62 := m62) (m63 := m63) (l9 := row0) (l11 := b0) (l12 := t0) (k13 := rk1) (i20 := nI rc) (i64 := i64) (i65 := i65) (cf := cf) (mf := mf) (v3m := nI (cnt sd0 (2 ^ n))) hN Hk Ha 512 0 N N row0 b0 t0 rk1 rk2 sd0 m63 hst (Nat.le_trans (cnt_le _ _) h9) (by omega) (by omega) (by omega)
  refine ⟨q, row', bf', met', rk1', rk2', sd0, sd', stood', b1, b2, ?_, hst, b4, fun q1 q2 s hs => b5 (fun s hs => ?_) q1 q2 s hs, fun q => (b6 q).trans (a4 q), b7, b8⟩
  · have a1' : f_M_sift N (nI W) mf (nI rc) (nI nr) (nI n) i64 i65 s15 s16 s17 mr m29 is ax m59 m60 m61 m62 m63 = _ := a1
    rw [a1']
    exact b3
  · rw [hrk q1 q2 s hs, a3 q2 s hs]
    have z := hst.1 s hs
    rcases z.1 with y | y
    · rw [if_neg (fun e => by have := z.2.mp e; rw [y] at this; exact absurd this (by decide)), if_pos y]
    · rw [if_pos (z.2.mpr y), y, if_neg i1z]
