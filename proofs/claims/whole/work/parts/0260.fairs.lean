/-! the class's fair rows -/
theorem st_left {so c1 c2 : Nat} (h0 : so < 2) (h1 : c1 < 200) (h2 : c2 < 200) : f_B_leftOf (nI (so + 256 * c1 + 65536 * c2)) = some (nI c1) ∧ f_B_rightOf (nI (so + 256 * c1 + 65536 * c2)) = some (nI c2) ∧ f_B_sortOf (nI (so + 256 * c1 + 65536 * c2)) = some (nI so) := by
  unfold f_B_leftOf f_B_rightOf f_B_sortOf
  rw [pk_shrN (k := 8) (by omega) _ (by decide), pk_shrN (k := 16) (by omega) _ (by decide), pk_andN (show (so + 256 * c1 + 65536 * c2) / 2 ^ 8 < 2 ^ 32 by omega) 8 (by decide), pk_andN (show (so + 256 * c1 + 65536 * c2) / 2 ^ 16 < 2 ^ 32 by omega) 8 (by decide), pk_andN (show (so + 256 * c1 + 65536 * c2) < 2 ^ 32 by omega) 8 (by decide)]
  rw [show (so + 256 * c1 + 65536 * c2) / 2 ^ 8 % 2 ^ 8 = c1 by omega, show (so + 256 * c1 + 65536 * c2) / 2 ^ 16 % 2 ^ 8 = c2 by omega, show (so + 256 * c1 + 65536 * c2) % 2 ^ 8 = so by omega]
  exact ⟨rfl, rfl, rfl⟩
theorem lxor_bit (a b : Int64) (j : Nat) : (a ^^^ b).toBitVec.getLsbD j = (a.toBitVec.getLsbD j ^^ b.toBitVec.getLsbD j) := by
  show (a.toBitVec ^^^ b.toBitVec).getLsbD j = _
  rw [BitVec.getLsbD_xor]
theorem ones_bit {j : Nat} (hj : j < 64) : (-1 : Int64).toBitVec.getLsbD j = true := by
  show (-1#64).getLsbD j = true
  rw [show (-1#64) = BitVec.allOnes 64 from by decide, BitVec.getLsbD_allOnes]
  simp [hj]
theorem low_mask : ∀ n, n < 6 → ∀ j, j < 64 → (((1 : Int64) <<< ((nI (2 ^ n)).toInt64 &&& 63)) - (1 : Int64)).toBitVec.getLsbD j = decide (j < 2 ^ n) := by decide +kernel
theorem pw6 {n w : Nat} (hn : n ≤ 9) (hn6 : 6 ≤ n) : 2 ^ n - 64 * w = 64 * (2 ^ (n - 6) - w) ∧ 2 ^ n = 64 * 2 ^ (n - 6) := by
  have : 2 ^ n = 64 * 2 ^ (n - 6) := by
    rw [show (64 : Nat) = 2 ^ 6 from rfl, ← Nat.pow_add, show 6 + (n - 6) = n by omega]
  exact ⟨by rw [this]; omega, this⟩
theorem ru_bit {n rc k w j : Nat} {cr mr s15 s16 s17 is : Nat → Int32} {tr : Nat → Int64} (H : RRu n rc cr mr s15 s16 s17 is tr) (hk : k < rc) (hw : w < 8) (hj : j < 64) : ∃ br : Int64, (f_B_ruleStatement (nI k) (nI rc) cr).bind (fun q83 => f_K_broken q83 (nI w) tr) = some br ∧ (64 * w + j < 2 ^ n → ((br ^^^ (-1 : Int64)).toBitVec.getLsbD j = true ↔ Hol mr s15 s16 s17 is k (64 * w + j))) := by
  obtain ⟨hrc, H⟩ := H
  obtain ⟨so, c1, c2, m1, m2, sy, a1, a2, a3, a4, a5, a6, a7, a8, a9, a10, a11, a12, a13⟩ := H k hk
  obtain ⟨b1, b2, b3⟩ := st_left a1 a2 a3
  have e1 : f_B_ruleStatement (nI k) (nI rc) cr = some (nI (so + 256 * c1 + 65536 * c2)) := by
    unfold f_B_ruleStatement
    rw [if_neg (nI_pos (by omega)), if_neg (nI_ge hk (by omega)), if_neg (nI_g (show k < 12 by omega) (by decide)), nI_cl (by omega), a7]
  rw [e1, Option.bind_some]
  unfold f_K_broken
  rw [b1, Option.bind_some, K_truthOf_eq a2 hw, Option.bind_some, b2, Option.bind_some, K_truthOf_eq a3 hw, Option.bind_some, b3, Option.bind_some]
  have tbe : ∀ c, (tr (c * 8 + w)).toBitVec.getLsbD j = tb tr (c * 8) (64 * w + j) := by
    intro c
    unfold tb
    rw [show (64 * w + j) / 64 = w by omega, show (64 * w + j) % 64 = j by omega]
  have hH : Hol mr s15 s16 s17 is k (64 * w + j) ↔ (if nI so = 0 then (is (512 * m1 + (64 * w + j)) = 1 → is (512 * m2 + (64 * w + j)) = 1) else is (512 * m1 + (64 * w + j)) = is (512 * m2 + (64 * w + j))) := by
    unfold Hol
    rw [a8, nI_cl (show sy < 2147483648 by omega), a9, a10, a11, nI_cl (show m1 < 2147483648 by omega), nI_cl (show m2 < 2147483648 by omega)]
  by_cases hso : so = 1
  · subst hso
    rw [if_pos (show nI 1 = (1 : Int32) from rfl)]
    refine ⟨_, rfl, fun hlt => ?_⟩
    rw [if_neg (show ¬ nI 1 = 0 by decide)] at hH
    rw [hH, xnot_bit _ hj, lxor_bit, tbe, tbe]
    have q1 := a12 _ hlt
    have q2 := a13 _ hlt
    have n01 : ¬ ((0 : Int32) = 1) := by decide
    have n10 : ¬ ((1 : Int32) = 0) := by decide
    rcases q1.1 with z1 | z1 <;> rcases q2.1 with z2 | z2 <;> rw [z1] at q1 ⊢ <;> rw [z2] at q2 ⊢
    · have f1 : tb tr (c1 * 8) (64 * w + j) = false := by cases h : tb tr (c1 * 8) (64 * w + j); rfl; exact absurd (q1.2.mp h) n01
      have f2 : tb tr (c2 * 8) (64 * w + j) = false := by cases h : tb tr (c2 * 8) (64 * w + j); rfl; exact absurd (q2.2.mp h) n01
      rw [f1, f2]; simp
    · have f1 : tb tr (c1 * 8) (64 * w + j) = false := by cases h : tb tr (c1 * 8) (64 * w + j); rfl; exact absurd (q1.2.mp h) n01
      rw [f1, q2.2.mpr rfl]; simp
    · have f2 : tb tr (c2 * 8) (64 * w + j) = false := by cases h : tb tr (c2 * 8) (64 * w + j); rfl; exact absurd (q2.2.mp h) n01
      rw [q1.2.mpr rfl, f2]; simp
    · rw [q1.2.mpr rfl, q2.2.mpr rfl]; simp
  · have hs0 : so = 0 := by omega
    subst hs0
    rw [if_neg (show ¬ nI 0 = (1 : Int32) by decide)]
    refine ⟨_, rfl, fun hlt => ?_⟩
    rw [if_pos (show nI 0 = 0 from rfl)] at hH
    rw [hH, xnot_bit _ hj, land_bit, xnot_bit _ hj, tbe, tbe, ← (a12 _ hlt).2, ← (a13 _ hlt).2]
    cases tb tr (c1 * 8) (64 * w + j) <;> cases tb tr (c2 * 8) (64 * w + j) <;> simp

theorem tf_in_fair {N n rc w R : Nat} {cr mr s15 s16 s17 is : Nat → Int32} {tr l8 row : Nat → Int64} {k2 : Int32 → (Nat → Int64) → Option (Nat → Int64)} (hn : n ≤ 9) (H : RRu n rc cr mr s15 s16 s17 is tr) (hw : w < 8) (hR : R < 4096) : ∀ (d i k : Nat) (v : Int64), k + d = rc → d < i → ∃ v' : Int64, f_K_takeFair_fair_52 N (nI rc) cr (nI (2 ^ n)) tr l8 k2 (nI R) (nI w) row i v (nI k) = k2 (nI (w + 1)) (vp_updL row w v') ∧ ∀ j, j < 64 → (64 * w + j < 2 ^ n → (v'.toBitVec.getLsbD j = true ↔ v.toBitVec.getLsbD j = true ∧ ∀ k', k ≤ k' → k' < rc → R.testBit k' = true → Hol mr s15 s16 s17 is k' (64 * w + j))) ∧ (v.toBitVec.getLsbD j = false → v'.toBitVec.getLsbD j = false) := by
  have hrc := H.1
  intro d
  induction d with
  | zero =>
    intro i k v hk hi
    obtain ⟨i, rfl⟩ : ∃ k, i = k + 1 := ⟨i - 1, by omega⟩
    rw [f_K_takeFair_fair_52, if_pos (nI_le (show rc ≤ k by omega) (by omega)), if_neg (nI_g hw (by decide)), nI_cl (by omega), nI_m]
    exact ⟨v, rfl, fun j hj => ⟨fun _ => ⟨fun h => ⟨h, fun k' h1 h2 => by omega⟩, fun h => h.1⟩, fun h => h⟩⟩
  | succ d ih =>
    intro i k v hk hi
    obtain ⟨i, rfl⟩ : ∃ k, i = k + 1 := ⟨i - 1, by omega⟩
    have hkr : k < rc := by omega
    have hb := mbitG1 (t := R) (x := k) (by omega) (by omega)
    rw [f_K_takeFair_fair_52, if_neg (nI_ge hkr (by omega)), nI_m]
    by_cases h1 : R.testBit k = true
    · rw [if_pos (hb.1.mpr h1)]
      obtain ⟨br, e1, -⟩ := ru_bit (j := 0) H hkr hw (by decide)
      have e1' : ((f_B_ruleStatement (nI k) (nI rc) cr).bind fun q83 => ((f_K_broken q83 (nI w) tr).bind fun q87 => (f_K_takeFair_fair_52 N (nI rc) cr (nI (2 ^ n)) tr l8 k2 (nI R) (nI w) row i ((v &&& (q87 ^^^ (-1 : Int64)))) (nI (k + 1))))) = f_K_takeFair_fair_52 N (nI rc) cr (nI (2 ^ n)) tr l8 k2 (nI R) (nI w) row i ((v &&& (br ^^^ (-1 : Int64)))) (nI (k + 1)) := by
        rw [← Option.bind_assoc, e1, Option.bind_some]
      rw [e1']
      obtain ⟨v', g1, g2⟩ := ih i (k + 1) (v &&& (br ^^^ (-1 : Int64))) (by omega) (by omega)
      refine ⟨v', g1, fun j hj => ⟨fun hlt => ?_, fun h => (g2 j hj).2 (by rw [land_bit, h, Bool.false_and])⟩⟩
      obtain ⟨br2, f1, f2⟩ := ru_bit (j := j) H hkr hw hj
      have : br2 = br := Option.some.inj (f1.symm.trans e1)
      subst this
      rw [(g2 j hj).1 hlt, land_bit, Bool.and_eq_true, f2 hlt]
      constructor
      · rintro ⟨⟨q1, q2⟩, q3⟩
        refine ⟨q1, fun k' p1 p2 p3 => ?_⟩
        by_cases e : k' = k
        · subst e; exact q2
        · exact q3 k' (by omega) p2 p3
      · rintro ⟨q1, q2⟩
        exact ⟨⟨q1, q2 k (Nat.le_refl _) hkr h1⟩, fun k' p1 p2 p3 => q2 k' (by omega) p2 p3⟩
    · rw [if_neg (fun q => h1 (hb.1.mp q))]
      obtain ⟨v', g1, g2⟩ := ih i (k + 1) v (by omega) (by omega)
      refine ⟨v', g1, fun j hj => ⟨fun hlt => ?_, (g2 j hj).2⟩⟩
      rw [(g2 j hj).1 hlt]
      constructor
      · rintro ⟨q1, q2⟩
        refine ⟨q1, fun k' p1 p2 p3 => ?_⟩
        by_cases e : k' = k
        · subst e; exact absurd p3 h1
        · exact q2 k' (by omega) p2 p3
      · rintro ⟨q1, q2⟩
        exact ⟨q1, fun k' p1 p2 p3 => q2 k' (by omega) p2 p3⟩
theorem tf_loop_fair {N n rc R : Nat} {cr mr s15 s16 s17 is : Nat → Int32} {tr l8 : Nat → Int64} (hN : 100000 ≤ N) (hn : n ≤ 9) (H : RRu n rc cr mr s15 s16 s17 is tr) (hR : R < 4096) : ∀ (d i w : Nat) (row : Nat → Int64), w + d = 8 → d < i → (∀ s, s < 64 * w → (tb row 0 s = true ↔ s < 2 ^ n ∧ ∀ k, k < rc → R.testBit k = true → Hol mr s15 s16 s17 is k s)) → ∃ row' : Nat → Int64, f_K_takeFair_fair_2 N (nI rc) cr (nI (2 ^ n)) tr l8 (nI R) i (nI w) row = some row' ∧ ∀ s, s < 512 → (tb row' 0 s = true ↔ s < 2 ^ n ∧ ∀ k, k < rc → R.testBit k = true → Hol mr s15 s16 s17 is k s) := by
  have h9 := pw9_le n (by omega)
  have hrc := H.1
  intro d
  induction d with
  | zero =>
    intro i w row hw hi hs
    obtain ⟨i, rfl⟩ : ∃ k, i = k + 1 := ⟨i - 1, by omega⟩
    rw [f_K_takeFair_fair_2, if_pos (show (8 : Int32) ≤ nI w from nI_le (show 8 ≤ w by omega) (by omega))]
    exact ⟨row, rfl, fun s h => hs s (by omega)⟩
  | succ d ih =>
    intro i w row hw hi hs
    obtain ⟨i, rfl⟩ : ∃ k, i = k + 1 := ⟨i - 1, by omega⟩
    have hw8 : w < 8 := by omega
    rw [f_K_takeFair_fair_2, if_neg (show ¬ (8 : Int32) ≤ nI w from nI_ge hw8 (by decide)), show (64 : Int32) * nI w = nI (64 * w) by rw [show (64 : Int32) = nI 64 from rfl, pk_mul]]
    -- whatever the word begins with
    have go : ∀ v : Int64, (∀ j, j < 64 → v.toBitVec.getLsbD j = decide (64 * w + j < 2 ^ n)) → ∃ row' : Nat → Int64, f_K_takeFair_fair_52 N (nI rc) cr (nI (2 ^ n)) tr l8 (f_K_takeFair_fair_2 N (nI rc) cr (nI (2 ^ n)) tr l8 (nI R) i) (nI R) (nI w) row N v (0 : Int32) = some row' ∧ ∀ s, s < 512 → (tb row' 0 s = true ↔ s < 2 ^ n ∧ ∀ k, k < rc → R.testBit k = true → Hol mr s15 s16 s17 is k s) := by
      intro v hv
      obtain ⟨v', e1, e2⟩ := tf_in_fair (N := N) (w := w) (R := R) (l8 := l8) (row := row) (k2 := f_K_takeFair_fair_2 N (nI rc) cr (nI (2 ^ n)) tr l8 (nI R) i) hn H hw8 hR rc N 0 v (by omega) (by omega)
      rw [show (0 : Int32) = nI 0 from rfl, e1]
      refine ih i (w + 1) _ (by omega) (by omega) (fun s h => ?_)
      by_cases e : s / 64 = w
      · have hb := e2 (s % 64) (Nat.mod_lt _ (by decide))
        have hvs := hv (s % 64) (Nat.mod_lt _ (by decide))
        rw [show 64 * w + s % 64 = s by omega] at hb hvs
        unfold tb
        rw [Nat.zero_add, e]
        show ((vp_updL row w v') w).toBitVec.getLsbD (s % 64) = true ↔ _
        rw [pk_uLs]
        by_cases hsn : s < 2 ^ n
        · rw [hb.1 hsn, hvs]
          constructor
          · rintro ⟨-, q⟩; exact ⟨hsn, fun k p1 p2 => q k (Nat.zero_le _) p1 p2⟩
          · rintro ⟨-, q⟩; exact ⟨decide_eq_true hsn, fun k _ p1 p2 => q k p1 p2⟩
        · rw [hb.2 (by rw [hvs]; exact decide_eq_false hsn)]
          constructor
          · intro q; cases q
          · rintro ⟨q, -⟩; exact absurd q hsn
      · unfold tb
        rw [Nat.zero_add, pk_uLn e]
        have := hs s (by omega)
        unfold tb at this
        rw [Nat.zero_add] at this
        exact this
    by_cases h0 : 64 * w < 2 ^ n
    · rw [pk_sub (by omega)]
      rcases Nat.lt_or_ge n 6 with q | q
      · have hp : 2 ^ n < 2 ^ 6 := Nat.pow_lt_pow_right (by decide) q
        have hw0 : w = 0 := by omega
        subst hw0
        rw [Nat.mul_zero, Nat.sub_zero, if_pos (show nI (2 ^ n) < (64 : Int32) from nI_lt (show 2 ^ n < 64 by omega) (by decide)), if_pos (show (0 : Int32) < nI (2 ^ n) from nI_lt (show 0 < 2 ^ n by omega) (by omega))]
        refine go _ (fun j hj => ?_)
        rw [low_mask n q j hj, Nat.mul_zero, Nat.zero_add]
      · obtain ⟨p1, p2⟩ := pw6 (w := w) hn q
        rw [if_neg (show ¬ nI (2 ^ n - 64 * w) < (64 : Int32) from nI_nlt (show 64 ≤ 2 ^ n - 64 * w by rw [p1]; omega) (by omega))]
        refine go _ (fun j hj => ?_)
        rw [ones_bit hj, eq_comm, decide_eq_true_eq]
        omega
    · have neg : ∀ x : Int32, x ≤ 0 → x < (64 : Int32) ∧ ¬ (0 : Int32) < x := by
        intro x hx
        rw [Int32.le_iff_toInt_le] at hx
        rw [Int32.lt_iff_toInt_lt, Int32.lt_iff_toInt_lt]
        have e1 : (0 : Int32).toInt = 0 := by decide
        have e2 : (64 : Int32).toInt = 64 := by decide
        rw [e1] at hx ⊢
        rw [e2]
        omega
      have hle : nI (2 ^ n) - nI (64 * w) ≤ 0 := by
        rw [Int32.le_iff_toInt_le, pk_sub_toInt (by omega) (by omega)]
        have e1 : (0 : Int32).toInt = 0 := by decide
        rw [e1]; omega
      obtain ⟨n1, n2⟩ := neg _ hle
      rw [if_pos n1, if_neg n2]
      refine go _ (fun j hj => ?_)
      rw [zero_bits rfl, eq_comm, decide_eq_false_iff_not]
      omega
theorem tf_eq_fair {N n rc R : Nat} {cr mr s15 s16 s17 is : Nat → Int32} {tr l8 : Nat → Int64} (hN : 100000 ≤ N) (hn : n ≤ 9) (H : RRu n rc cr mr s15 s16 s17 is tr) (hR : R < 4096) : ∃ row' : Nat → Int64, f_K_takeFair_fair N (nI R) (nI rc) cr (nI (2 ^ n)) tr l8 = some row' ∧ ∀ s, s < 512 → (tb row' 0 s = true ↔ s < 2 ^ n ∧ ∀ k, k < rc → R.testBit k = true → Hol mr s15 s16 s17 is k s) := by
  unfold f_K_takeFair_fair
  exact tf_loop_fair hN hn H hR 8 N 0 l8 (by omega) (by omega) (fun s h => absurd h (by omega))

theorem tf_in_trial {N n rc w R : Nat} {cr mr s15 s16 s17 is : Nat → Int32} {tr l8 row : Nat → Int64} {k2 : Int32 → (Nat → Int64) → Option (Nat → Int64)} (hn : n ≤ 9) (H : RRu n rc cr mr s15 s16 s17 is tr) (hw : w < 8) (hR : R < 4096) : ∀ (d i k : Nat) (v : Int64), k + d = rc → d < i → ∃ v' : Int64, f_K_takeFair_trial_52 N (nI rc) cr (nI (2 ^ n)) tr l8 k2 (nI R) (nI w) row i v (nI k) = k2 (nI (w + 1)) (vp_updL row w v') ∧ ∀ j, j < 64 → (64 * w + j < 2 ^ n → (v'.toBitVec.getLsbD j = true ↔ v.toBitVec.getLsbD j = true ∧ ∀ k', k ≤ k' → k' < rc → R.testBit k' = true → Hol mr s15 s16 s17 is k' (64 * w + j))) ∧ (v.toBitVec.getLsbD j = false → v'.toBitVec.getLsbD j = false) := by
  have hrc := H.1
  intro d
  induction d with
  | zero =>
    intro i k v hk hi
    obtain ⟨i, rfl⟩ : ∃ k, i = k + 1 := ⟨i - 1, by omega⟩
    rw [f_K_takeFair_trial_52, if_pos (nI_le (show rc ≤ k by omega) (by omega)), if_neg (nI_g hw (by decide)), nI_cl (by omega), nI_m]
    exact ⟨v, rfl, fun j hj => ⟨fun _ => ⟨fun h => ⟨h, fun k' h1 h2 => by omega⟩, fun h => h.1⟩, fun h => h⟩⟩
  | succ d ih =>
    intro i k v hk hi
    obtain ⟨i, rfl⟩ : ∃ k, i = k + 1 := ⟨i - 1, by omega⟩
    have hkr : k < rc := by omega
    have hb := mbitG1 (t := R) (x := k) (by omega) (by omega)
    rw [f_K_takeFair_trial_52, if_neg (nI_ge hkr (by omega)), nI_m]
    by_cases h1 : R.testBit k = true
    · rw [if_pos (hb.1.mpr h1)]
      obtain ⟨br, e1, -⟩ := ru_bit (j := 0) H hkr hw (by decide)
      have e1' : ((f_B_ruleStatement (nI k) (nI rc) cr).bind fun q83 => ((f_K_broken q83 (nI w) tr).bind fun q87 => (f_K_takeFair_trial_52 N (nI rc) cr (nI (2 ^ n)) tr l8 k2 (nI R) (nI w) row i ((v &&& (q87 ^^^ (-1 : Int64)))) (nI (k + 1))))) = f_K_takeFair_trial_52 N (nI rc) cr (nI (2 ^ n)) tr l8 k2 (nI R) (nI w) row i ((v &&& (br ^^^ (-1 : Int64)))) (nI (k + 1)) := by
        rw [← Option.bind_assoc, e1, Option.bind_some]
      rw [e1']
      obtain ⟨v', g1, g2⟩ := ih i (k + 1) (v &&& (br ^^^ (-1 : Int64))) (by omega) (by omega)
      refine ⟨v', g1, fun j hj => ⟨fun hlt => ?_, fun h => (g2 j hj).2 (by rw [land_bit, h, Bool.false_and])⟩⟩
      obtain ⟨br2, f1, f2⟩ := ru_bit (j := j) H hkr hw hj
      have : br2 = br := Option.some.inj (f1.symm.trans e1)
      subst this
      rw [(g2 j hj).1 hlt, land_bit, Bool.and_eq_true, f2 hlt]
      constructor
      · rintro ⟨⟨q1, q2⟩, q3⟩
        refine ⟨q1, fun k' p1 p2 p3 => ?_⟩
        by_cases e : k' = k
        · subst e; exact q2
        · exact q3 k' (by omega) p2 p3
      · rintro ⟨q1, q2⟩
        exact ⟨⟨q1, q2 k (Nat.le_refl _) hkr h1⟩, fun k' p1 p2 p3 => q2 k' (by omega) p2 p3⟩
    · rw [if_neg (fun q => h1 (hb.1.mp q))]
      obtain ⟨v', g1, g2⟩ := ih i (k + 1) v (by omega) (by omega)
      refine ⟨v', g1, fun j hj => ⟨fun hlt => ?_, (g2 j hj).2⟩⟩
      rw [(g2 j hj).1 hlt]
      constructor
      · rintro ⟨q1, q2⟩
        refine ⟨q1, fun k' p1 p2 p3 => ?_⟩
        by_cases e : k' = k
        · subst e; exact absurd p3 h1
        · exact q2 k' (by omega) p2 p3
      · rintro ⟨q1, q2⟩
        exact ⟨q1, fun k' p1 p2 p3 => q2 k' (by omega) p2 p3⟩
theorem tf_loop_trial {N n rc R : Nat} {cr mr s15 s16 s17 is : Nat → Int32} {tr l8 : Nat → Int64} (hN : 100000 ≤ N) (hn : n ≤ 9) (H : RRu n rc cr mr s15 s16 s17 is tr) (hR : R < 4096) : ∀ (d i w : Nat) (row : Nat → Int64), w + d = 8 → d < i → (∀ s, s < 64 * w → (tb row 0 s = true ↔ s < 2 ^ n ∧ ∀ k, k < rc → R.testBit k = true → Hol mr s15 s16 s17 is k s)) → ∃ row' : Nat → Int64, f_K_takeFair_trial_2 N (nI rc) cr (nI (2 ^ n)) tr l8 (nI R) i (nI w) row = some row' ∧ ∀ s, s < 512 → (tb row' 0 s = true ↔ s < 2 ^ n ∧ ∀ k, k < rc → R.testBit k = true → Hol mr s15 s16 s17 is k s) := by
  have h9 := pw9_le n (by omega)
  have hrc := H.1
  intro d
  induction d with
  | zero =>
    intro i w row hw hi hs
    obtain ⟨i, rfl⟩ : ∃ k, i = k + 1 := ⟨i - 1, by omega⟩
    rw [f_K_takeFair_trial_2, if_pos (show (8 : Int32) ≤ nI w from nI_le (show 8 ≤ w by omega) (by omega))]
    exact ⟨row, rfl, fun s h => hs s (by omega)⟩
  | succ d ih =>
    intro i w row hw hi hs
    obtain ⟨i, rfl⟩ : ∃ k, i = k + 1 := ⟨i - 1, by omega⟩
    have hw8 : w < 8 := by omega
    rw [f_K_takeFair_trial_2, if_neg (show ¬ (8 : Int32) ≤ nI w from nI_ge hw8 (by decide)), show (64 : Int32) * nI w = nI (64 * w) by rw [show (64 : Int32) = nI 64 from rfl, pk_mul]]
    -- whatever the word begins with
    have go : ∀ v : Int64, (∀ j, j < 64 → v.toBitVec.getLsbD j = decide (64 * w + j < 2 ^ n)) → ∃ row' : Nat → Int64, f_K_takeFair_trial_52 N (nI rc) cr (nI (2 ^ n)) tr l8 (f_K_takeFair_trial_2 N (nI rc) cr (nI (2 ^ n)) tr l8 (nI R) i) (nI R) (nI w) row N v (0 : Int32) = some row' ∧ ∀ s, s < 512 → (tb row' 0 s = true ↔ s < 2 ^ n ∧ ∀ k, k < rc → R.testBit k = true → Hol mr s15 s16 s17 is k s) := by
      intro v hv
      obtain ⟨v', e1, e2⟩ := tf_in_trial (N := N) (w := w) (R := R) (l8 := l8) (row := row) (k2 := f_K_takeFair_trial_2 N (nI rc) cr (nI (2 ^ n)) tr l8 (nI R) i) hn H hw8 hR rc N 0 v (by omega) (by omega)
      rw [show (0 : Int32) = nI 0 from rfl, e1]
      refine ih i (w + 1) _ (by omega) (by omega) (fun s h => ?_)
      by_cases e : s / 64 = w
      · have hb := e2 (s % 64) (Nat.mod_lt _ (by decide))
        have hvs := hv (s % 64) (Nat.mod_lt _ (by decide))
        rw [show 64 * w + s % 64 = s by omega] at hb hvs
        unfold tb
        rw [Nat.zero_add, e]
        show ((vp_updL row w v') w).toBitVec.getLsbD (s % 64) = true ↔ _
        rw [pk_uLs]
        by_cases hsn : s < 2 ^ n
        · rw [hb.1 hsn, hvs]
          constructor
          · rintro ⟨-, q⟩; exact ⟨hsn, fun k p1 p2 => q k (Nat.zero_le _) p1 p2⟩
          · rintro ⟨-, q⟩; exact ⟨decide_eq_true hsn, fun k _ p1 p2 => q k p1 p2⟩
        · rw [hb.2 (by rw [hvs]; exact decide_eq_false hsn)]
          constructor
          · intro q; cases q
          · rintro ⟨q, -⟩; exact absurd q hsn
      · unfold tb
        rw [Nat.zero_add, pk_uLn e]
        have := hs s (by omega)
        unfold tb at this
        rw [Nat.zero_add] at this
        exact this
    by_cases h0 : 64 * w < 2 ^ n
    · rw [pk_sub (by omega)]
      rcases Nat.lt_or_ge n 6 with q | q
      · have hp : 2 ^ n < 2 ^ 6 := Nat.pow_lt_pow_right (by decide) q
        have hw0 : w = 0 := by omega
        subst hw0
        rw [Nat.mul_zero, Nat.sub_zero, if_pos (show nI (2 ^ n) < (64 : Int32) from nI_lt (show 2 ^ n < 64 by omega) (by decide)), if_pos (show (0 : Int32) < nI (2 ^ n) from nI_lt (show 0 < 2 ^ n by omega) (by omega))]
        refine go _ (fun j hj => ?_)
        rw [low_mask n q j hj, Nat.mul_zero, Nat.zero_add]
      · obtain ⟨p1, p2⟩ := pw6 (w := w) hn q
        rw [if_neg (show ¬ nI (2 ^ n - 64 * w) < (64 : Int32) from nI_nlt (show 64 ≤ 2 ^ n - 64 * w by rw [p1]; omega) (by omega))]
        refine go _ (fun j hj => ?_)
        rw [ones_bit hj, eq_comm, decide_eq_true_eq]
        omega
    · have neg : ∀ x : Int32, x ≤ 0 → x < (64 : Int32) ∧ ¬ (0 : Int32) < x := by
        intro x hx
        rw [Int32.le_iff_toInt_le] at hx
        rw [Int32.lt_iff_toInt_lt, Int32.lt_iff_toInt_lt]
        have e1 : (0 : Int32).toInt = 0 := by decide
        have e2 : (64 : Int32).toInt = 64 := by decide
        rw [e1] at hx ⊢
        rw [e2]
        omega
      have hle : nI (2 ^ n) - nI (64 * w) ≤ 0 := by
        rw [Int32.le_iff_toInt_le, pk_sub_toInt (by omega) (by omega)]
        have e1 : (0 : Int32).toInt = 0 := by decide
        rw [e1]; omega
      obtain ⟨n1, n2⟩ := neg _ hle
      rw [if_pos n1, if_neg n2]
      refine go _ (fun j hj => ?_)
      rw [zero_bits rfl, eq_comm, decide_eq_false_iff_not]
      omega
theorem tf_eq_trial {N n rc R : Nat} {cr mr s15 s16 s17 is : Nat → Int32} {tr l8 : Nat → Int64} (hN : 100000 ≤ N) (hn : n ≤ 9) (H : RRu n rc cr mr s15 s16 s17 is tr) (hR : R < 4096) : ∃ row' : Nat → Int64, f_K_takeFair_trial N (nI R) (nI rc) cr (nI (2 ^ n)) tr l8 = some row' ∧ ∀ s, s < 512 → (tb row' 0 s = true ↔ s < 2 ^ n ∧ ∀ k, k < rc → R.testBit k = true → Hol mr s15 s16 s17 is k s) := by
  unfold f_K_takeFair_trial
  exact tf_loop_trial hN hn H hR 8 N 0 l8 (by omega) (by omega) (fun s h => absurd h (by omega))
