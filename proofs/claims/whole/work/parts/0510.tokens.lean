/-! tokens of both -/
def lt (v : Int32) : Bool := decide ((97 : Int32) ≤ v) && decide (v ≤ (122 : Int32))
def fg (v : Int32) : Bool := decide ((48 : Int32) ≤ v) && decide (v ≤ (57 : Int32))
def an (v : Int32) : Bool := lt v || fg v
theorem rng_eq (v a b : Int32) : (if v < a then (some (0 : Int32)) else (if b < v then (some (0 : Int32)) else (some (1 : Int32)))) = some (if (decide (a ≤ v) && decide (v ≤ b)) = true then 1 else 0) := by
  by_cases h1 : v < a
  · rw [if_pos h1, decide_eq_false (fun z => fa_no h1 z)]; rfl
  · rw [if_neg h1, decide_eq_true (fa_yes h1)]
    by_cases h2 : b < v
    · rw [if_pos h2, decide_eq_false (fun z => fa_no h2 z)]; rfl
    · rw [if_neg h2, decide_eq_true (fa_yes h2)]; rfl
theorem T_lt_eq (v : Int32) : f_T_isLetter v = some (if lt v = true then 1 else 0) := rng_eq v 97 122
theorem T_fg_eq (v : Int32) : f_T_isDigit v = some (if fg v = true then 1 else 0) := rng_eq v 48 57
theorem b01 (b : Bool) : vp_nar .boolean (if b = true then 1 else 0 : Int32) = (if b = true then 1 else 0) := by cases b <;> decide
theorem M_rng (v a b : Int32) : (f_M_in v.toInt64 a.toInt64 b.toInt64).bind (fun q8 => (if vp_nar .boolean q8 = q8 then (some q8) else none)) = some (if (decide (a ≤ v) && decide (v ≤ b)) = true then 1 else 0) := by
  rw [M_in_eq, Option.bind_some]
  by_cases h : a ≤ v ∧ v ≤ b
  · rw [if_pos h, decide_eq_true h.1, decide_eq_true h.2]; rfl
  · rw [if_neg h]
    have : ¬ (decide (a ≤ v) && decide (v ≤ b)) = true := fun z => h (by rw [Bool.and_eq_true, decide_eq_true_eq, decide_eq_true_eq] at z; exact z)
    rw [if_neg this]; rfl
theorem M_lt_eq (v : Int32) : f_M_isLetter v = some (if lt v = true then 1 else 0) := M_rng v 97 122
theorem M_fg_eq (v : Int32) : f_M_isFigure v = some (if fg v = true then 1 else 0) := M_rng v 48 57
theorem an_nI {v : Int32} (h : an v = true) : ∃ b : Nat, 1 ≤ b ∧ b < 128 ∧ v = nI b ∧ b ≠ 32 ∧ b ≠ 10 := by
  have h1 : (48 : Int32) ≤ v ∧ v ≤ (122 : Int32) := by
    unfold an lt fg at h
    rw [Bool.or_eq_true, Bool.and_eq_true, Bool.and_eq_true, decide_eq_true_eq, decide_eq_true_eq, decide_eq_true_eq, decide_eq_true_eq] at h
    rcases h with ⟨a, b⟩ | ⟨a, b⟩
    · rw [Int32.le_iff_toInt_le] at a b ⊢
      rw [Int32.le_iff_toInt_le]
      have : (48 : Int32).toInt = 48 := by decide
      have : (97 : Int32).toInt = 97 := by decide
      exact ⟨by omega, b⟩
    · rw [Int32.le_iff_toInt_le] at a b ⊢
      rw [Int32.le_iff_toInt_le]
      have : (122 : Int32).toInt = 122 := by decide
      have : (57 : Int32).toInt = 57 := by decide
      exact ⟨a, by omega⟩
  have h0 : ¬ v < 0 := fun z => by
    have := h1.1
    rw [Int32.le_iff_toInt_le] at this
    rw [Int32.lt_iff_toInt_lt] at z
    have e1 : (48 : Int32).toInt = 48 := by decide
    have e2 : (0 : Int32).toInt = 0 := by decide
    omega
  obtain ⟨j, hj, rfl⟩ := nI_of h0
  have a := (nI_leI (a := 48) (by omega) hj).mp h1.1
  have b := (nI_leI (b := 122) hj (by omega)).mp h1.2
  exact ⟨j, by omega, by omega, rfl, by omega, by omega⟩
/-- kept words, packed -/
def kww : List Nat := [6386539, 504363246962, 126896661032037, 28530, 6385252, 7237492, 1936682341, 435778056825, 7630704, 108230834679661]
def kwB (w : Int64) : Bool := decide (w = lN 6386539) || decide (w = lN 504363246962) || decide (w = lN 126896661032037) || decide (w = lN 28530) || decide (w = lN 6385252) || decide (w = lN 7237492) || decide (w = lN 1936682341) || decide (w = lN 435778056825) || decide (w = lN 7630704) || decide (w = lN 108230834679661)
theorem T_kw_eq (w : Int64) : f_T_isKeyword w = some (if kwB w = true then 1 else 0) := by
  unfold f_T_isKeyword kwB
  by_cases h0 : w = lN 6386539
  · rw [if_pos (show w = (6386539 : Int64) from h0), decide_eq_true h0]
    simp
  rw [if_neg (show ¬ w = (6386539 : Int64) from h0), decide_eq_false h0]
  by_cases h1 : w = lN 504363246962
  · rw [if_pos (show w = (504363246962 : Int64) from h1), decide_eq_true h1]
    simp
  rw [if_neg (show ¬ w = (504363246962 : Int64) from h1), decide_eq_false h1]
  by_cases h2 : w = lN 126896661032037
  · rw [if_pos (show w = (126896661032037 : Int64) from h2), decide_eq_true h2]
    simp
  rw [if_neg (show ¬ w = (126896661032037 : Int64) from h2), decide_eq_false h2]
  by_cases h3 : w = lN 28530
  · rw [if_pos (show w = (28530 : Int64) from h3), decide_eq_true h3]
    simp
  rw [if_neg (show ¬ w = (28530 : Int64) from h3), decide_eq_false h3]
  by_cases h4 : w = lN 6385252
  · rw [if_pos (show w = (6385252 : Int64) from h4), decide_eq_true h4]
    simp
  rw [if_neg (show ¬ w = (6385252 : Int64) from h4), decide_eq_false h4]
  by_cases h5 : w = lN 7237492
  · rw [if_pos (show w = (7237492 : Int64) from h5), decide_eq_true h5]
    simp
  rw [if_neg (show ¬ w = (7237492 : Int64) from h5), decide_eq_false h5]
  by_cases h6 : w = lN 1936682341
  · rw [if_pos (show w = (1936682341 : Int64) from h6), decide_eq_true h6]
    simp
  rw [if_neg (show ¬ w = (1936682341 : Int64) from h6), decide_eq_false h6]
  by_cases h7 : w = lN 435778056825
  · rw [if_pos (show w = (435778056825 : Int64) from h7), decide_eq_true h7]
    simp
  rw [if_neg (show ¬ w = (435778056825 : Int64) from h7), decide_eq_false h7]
  by_cases h8 : w = lN 7630704
  · rw [if_pos (show w = (7630704 : Int64) from h8), decide_eq_true h8]
    simp
  rw [if_neg (show ¬ w = (7630704 : Int64) from h8), decide_eq_false h8]
  by_cases h9 : w = lN 108230834679661
  · rw [if_pos (show w = (108230834679661 : Int64) from h9), decide_eq_true h9]
    simp
  rw [if_neg (show ¬ w = (108230834679661 : Int64) from h9), decide_eq_false h9]
  rfl
theorem lN_shl8 {w b : Nat} (hw : w < 2 ^ 56) (hb : b < 256) : (lN w <<< (((8 : Int32)).toInt64 &&& 63)) ||| lN b = lN (w * 256 + b) := by
  have e8 : (((8 : Int32)).toInt64 &&& (63 : Int64)) = lN 8 := by decide
  have h1 : lN w <<< (((8 : Int32)).toInt64 &&& 63) = lN (w * 256) := by
    apply Int64.toBitVec_inj.mp
    show (lN w <<< (((8 : Int32)).toInt64 &&& (63 : Int64))).toBitVec = BitVec.ofNat 64 (w * 256)
    rw [e8, Int64.toBitVec_shiftLeft]
    show (BitVec.ofNat 64 w) <<< ((BitVec.ofNat 64 8).smod 64#64).toNat = _
    rw [sm64 8 (by decide)]
    apply BitVec.eq_of_toNat_eq
    rw [BitVec.toNat_shiftLeft, BitVec.toNat_ofNat, BitVec.toNat_ofNat, Nat.shiftLeft_eq, Nat.mod_eq_of_lt (show w < 2 ^ 64 by omega)]
  rw [h1]
  have h2 : lN (w * 256) ||| lN b = lN ((w * 256) ||| b) := by
    apply Int64.toBitVec_inj.mp
    show BitVec.ofNat 64 (w * 256) ||| BitVec.ofNat 64 b = BitVec.ofNat 64 ((w * 256) ||| b)
    apply BitVec.eq_of_getLsbD_eq
    intro i hi
    rw [BitVec.getLsbD_or, BitVec.getLsbD_ofNat, BitVec.getLsbD_ofNat, BitVec.getLsbD_ofNat, Nat.testBit_or]
    simp [hi]
  have h3 := Nat.two_pow_add_eq_or_of_lt (i := 8) (b := b) (by omega) w
  rw [h2, Nat.mul_comm w, show (256 : Nat) * w ||| b = 256 * w + b from h3.symm]
/-- blanks, of both -/
theorem sk_loop {N n : Nat} {tx t0 : Nat → Int32} {o1 m2 m3 m4 m5 m6 : Int32} (H : RTape n tx t0) : ∀ (d i i' p : Nat), p + d = n → d < i → d < i' → ∃ q : Nat, p ≤ q ∧ q ≤ n ∧ f_T_skipBlanks_0 N (nI n) o1 tx i (nI p) = some (nI q) ∧ f_M_next_5 N (nI n) m2 m3 m4 m5 m6 t0 i' (nI p) = f_M_next_41 N (nI n) m2 m3 m4 m5 m6 t0 (nI q) := by
  have hn := H.1
  intro d
  induction d with
  | zero =>
    intro i i' p hp hi hi'
    obtain ⟨i, rfl⟩ : ∃ k, i = k + 1 := ⟨i - 1, by omega⟩
    obtain ⟨i', rfl⟩ : ∃ k, i' = k + 1 := ⟨i' - 1, by omega⟩
    rw [f_T_skipBlanks_0, f_M_next_5, if_pos (nI_le (show n ≤ p by omega) (by omega)), if_pos (nI_le (show n ≤ p by omega) (by omega))]
    exact ⟨p, Nat.le_refl _, by omega, rfl, rfl⟩
  | succ d ih =>
    intro i i' p hp hi hi'
    obtain ⟨i, rfl⟩ : ∃ k, i = k + 1 := ⟨i - 1, by omega⟩
    obtain ⟨i', rfl⟩ : ∃ k, i' = k + 1 := ⟨i' - 1, by omega⟩
    have e := (H.2 p (by omega)).1
    rw [f_T_skipBlanks_0, f_M_next_5, if_neg (nI_ge (show p < n by omega) (by omega)), if_neg (nI_ge (show p < n by omega) (by omega)), if_neg (nI_g (show p < 2000 by omega) (by decide)), if_neg (nI_g (show p < 2000 by omega) (by decide)), nI_cl (by omega), ← e]
    unfold f_T_skipBlanks_39
    obtain ⟨q, q1, q2, q3, q4⟩ := ih i i' (p + 1) (by omega) (by omega) (by omega)
    by_cases h1 : tx p = 10
    · rw [if_pos h1, if_neg (show ¬ tx p = 32 by rw [h1]; decide), if_pos h1, nI_m]
      exact ⟨q, by omega, q2, q3, q4⟩
    · rw [if_neg h1]
      by_cases h2 : tx p = 32
      · rw [if_pos h2, if_pos h2, nI_m]
        exact ⟨q, by omega, q2, q3, q4⟩
      · rw [if_neg h2, if_neg h2, if_neg h1]
        exact ⟨p, Nat.le_refl _, by omega, rfl, rfl⟩
/-- a row of letters and digits, of both -/
theorem ro_loop {N n q : Nat} {tx t0 : Nat → Int32} {o2 o3 o4 v1 m2 m3 m4 m5 m6 x4 x5 x6 : Int32} {ow : Int64} (H : RTape n tx t0) (hq : q ≤ n) : ∀ (d i i' j : Nat) (W : Int64), j + d = n → d < i → d < i' → q ≤ j → (∀ k, q ≤ k → k < j → an (tx k) = true) → (j - q ≤ 8 → W = lN (pkb tx q (j - q))) → ∃ (e : Nat) (W' : Int64), j ≤ e ∧ e ≤ n ∧ (∀ k, q ≤ k → k < e → an (tx k) = true) ∧ (e < n → an (tx e) = false) ∧ (e - q ≤ 8 → W' = lN (pkb tx q (e - q))) ∧ f_T_takeRow_13 N (nI n) o2 o3 o4 ow tx v1 i (nI j) W = f_T_takeRow_89 N (nI n) o2 o3 o4 ow tx v1 (nI e) W' ∧ f_M_next_96 N (nI n) m2 m3 m4 m5 m6 t0 x4 x5 x6 i' (nI j) = f_M_next_134 N (nI n) m2 m3 m4 m5 m6 t0 (nI e) x4 x5 x6 := by
  have hn := H.1
  intro d
  induction d with
  | zero =>
    intro i i' j W hj hi hi' hqj ha hW
    obtain ⟨i, rfl⟩ : ∃ k, i = k + 1 := ⟨i - 1, by omega⟩
    obtain ⟨i', rfl⟩ : ∃ k, i' = k + 1 := ⟨i' - 1, by omega⟩
    rw [f_T_takeRow_13, f_M_next_96, if_pos (nI_le (show n ≤ j by omega) (by omega)), if_pos (nI_le (show n ≤ j by omega) (by omega))]
    exact ⟨j, W, Nat.le_refl _, by omega, ha, fun z => absurd z (by omega), hW, rfl, rfl⟩
  | succ d ih =>
    intro i i' j W hj hi hi' hqj ha hW
    obtain ⟨i, rfl⟩ : ∃ k, i = k + 1 := ⟨i - 1, by omega⟩
    obtain ⟨i', rfl⟩ : ∃ k, i' = k + 1 := ⟨i' - 1, by omega⟩
    have e := (H.2 j (by omega)).1
    have g : ¬ (nI j < 0 ∨ 2000 ≤ j) := nI_gc (by omega) (by decide)
    rw [f_T_takeRow_13, f_M_next_96, if_neg (nI_ge (show j < n by omega) (by omega)), if_neg (nI_ge (show j < n by omega) (by omega)), nI_cl (show j < 2147483648 by omega), if_neg g, if_neg g, ← e, T_lt_eq, M_lt_eq, T_fg_eq, M_fg_eq]
    simp only [Option.bind_some]
    by_cases hb : an (tx j) = true
    · obtain ⟨b, b1, b2, b3, -, -⟩ := an_nI hb
      have h54 : f_T_takeRow_54 N (nI n) o2 o3 o4 ow tx (f_T_takeRow_13 N (nI n) o2 o3 o4 ow tx v1 i) v1 (nI j) W = f_T_takeRow_13 N (nI n) o2 o3 o4 ow tx v1 i (nI (j + 1)) ((W <<< (((8 : Int32)).toInt64 &&& 63)) ||| (tx j).toInt64) := by
        unfold f_T_takeRow_54
        rw [nI_cl (show j < 2147483648 by omega), if_neg g, nI_m]
      obtain ⟨e', W', r1, r2, r3, r4, r5, r6, r7⟩ := ih i i' (j + 1) ((W <<< (((8 : Int32)).toInt64 &&& 63)) ||| (tx j).toInt64) (by omega) (by omega) (by omega) (by omega) (fun k h1 h2 => by
        by_cases q2 : k = j
        · rw [q2]; exact hb
        · exact ha k h1 (by omega)) (fun h8 => by
        have hw := hW (by omega)
        have hlt : pkb tx q (j - q) < 2 ^ 56 := by
          have h1 := pkb_lt (f := tx) (a := q) (n := j - q) (fun i hi => by
            obtain ⟨b', c1, c2, c3, -, -⟩ := an_nI (ha (q + i) (by omega) (by omega))
            exact ⟨b', c1, c2, c3⟩)
          have h2 : 256 ^ (j - q) ≤ 256 ^ 7 := Nat.pow_le_pow_right (by decide) (by omega)
          have h3 : (256 : Nat) ^ 7 = 2 ^ 56 := by decide
          omega
        rw [hw, b3, nI_l (by omega), lN_shl8 hlt (by omega), show j + 1 - q = (j - q) + 1 by omega]
        show _ = lN (pkb tx q (j - q) * 256 + (tx (q + (j - q))).toNatClampNeg)
        rw [show q + (j - q) = j by omega, b3, nI_cl (by omega)])
      refine ⟨e', W', by omega, r2, r3, r4, r5, ?_, ?_⟩
      · by_cases hl : lt (tx j) = true
        · rw [if_pos hl, if_neg i1z, h54]; exact r6
        · rw [if_neg hl, if_pos rfl]
          have hf : fg (tx j) = true := by unfold an at hb; rw [Bool.or_eq_true] at hb; exact hb.elim (fun z => absurd z hl) id
          rw [if_pos hf, if_neg i1z, h54]; exact r6
      · by_cases hl : lt (tx j) = true
        · rw [if_pos hl, if_neg i1z, nI_m]; exact r7
        · rw [if_neg hl, if_pos rfl]
          have hf : fg (tx j) = true := by unfold an at hb; rw [Bool.or_eq_true] at hb; exact hb.elim (fun z => absurd z hl) id
          rw [if_pos hf, if_neg i1z, nI_m]; exact r7
    · have hl : ¬ lt (tx j) = true := fun z => hb (by unfold an; rw [z, Bool.true_or])
      have hf : ¬ fg (tx j) = true := fun z => hb (by unfold an; rw [z, Bool.or_true])
      rw [if_neg hl, if_pos rfl, if_neg hf, if_pos rfl, if_pos rfl, if_pos rfl]
      exact ⟨j, W, Nat.le_refl _, by omega, ha, fun _ => by cases z : an (tx j); rfl; exact absurd z hb, hW, rfl, rfl⟩
/-- the token at hand, of both -/
def Tok (n : Nat) (tx : Nat → Int32) (nx fr : Nat) (c4 : Int32) (w : Int64) (m3 m5 m6 : Int32) : Prop := fr ≤ nx ∧ nx ≤ n ∧ ((fr = n ∧ nx = n ∧ c4 = 1 ∧ w = lN 0 ∧ m3 = 0) ∨ (nx = fr + 1 ∧ c4 = 2 ∧ ∃ s : Nat, (s = 60 ∨ s = 61 ∨ s = 59 ∨ s = 40 ∨ s = 41) ∧ w = lN s ∧ m3 = 2 ∧ m6 = nI s) ∨ (fr < nx ∧ c4 = 0 ∧ w = lN 0 ∧ m3 = 3) ∨ (∃ sz : Nat, 1 ≤ sz ∧ sz ≤ 8 ∧ nx = fr + sz ∧ m3 = 1 ∧ m5 = nI sz ∧ m6 = 0 ∧ okR tx fr sz ∧ an (tx fr) = true ∧ w = lN (pkb tx fr sz) ∧ c4 = (if kwB w = true then 3 else 4) ∧ (nx < n → an (tx nx) = false)))
