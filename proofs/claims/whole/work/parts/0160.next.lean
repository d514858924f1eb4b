/-! next, of both -/
def Str (n : Nat) (mn sd : Nat → Int32) (a b : Nat) : Prop := Und n mn sd a b ∧ ¬ Und n mn sd b a
theorem ss_eq {N n nn sz a b : Nat} {f0 f1 f2 mn sd : Nat → Int32} {tr st : Nat → Int64} (hN : 100000 ≤ N) (hn : n ≤ 9) (hz : sz ≤ 200) (h : RNm n nn sz f0 f1 f2 mn tr) (hs : RSt n st sd) (ha : a < nn) (hb : b < nn) : ∃ r : Int32, f_X_isStrictlyUnder N (nI a) (nI b) (nI sz) f0 f1 f2 tr st = some r ∧ isZ r ∧ (r = 1 ↔ Str n mn sd a b) := by
  unfold f_X_isStrictlyUnder
  obtain ⟨r1, e1, z1, i1⟩ := su_eq hN hn hz h hs ha hb
  obtain ⟨r2, e2, z2, i2⟩ := su_eq hN hn hz h hs hb ha
  rw [e1, e2, Option.bind_some, Option.bind_some]
  rcases z1 with z1 | z1
  · rw [if_pos z1]
    exact ⟨0, rfl, Or.inl rfl, ⟨fun e => absurd e (by decide), fun e => by have := i1.mpr e.1; rw [z1] at this; exact absurd this (by decide)⟩⟩
  · rw [z1, if_neg i1z]
    rcases z2 with z2 | z2
    · rw [if_pos z2]
      exact ⟨1, rfl, Or.inr rfl, ⟨fun _ => ⟨i1.mp z1, fun z => by have := i2.mpr z; rw [z2] at this; exact absurd this (by decide)⟩, fun _ => rfl⟩⟩
    · rw [z2, if_neg i1z]
      exact ⟨0, rfl, Or.inl rfl, ⟨fun e => absurd e (by decide), fun e => absurd (i2.mp z2) e.2⟩⟩
theorem ab_eq {N n nn sz a b : Nat} {f0 f1 f2 mn sd : Nat → Int32} {tr st : Nat → Int64} (hN : 100000 ≤ N) (hn : n ≤ 9) (h : RNm n nn sz f0 f1 f2 mn tr) (hs : RSt n st sd) (ha : a < nn) (hb : b < nn) : ∃ r : Int32, f_M_isAbove N (nI a) (nI b) (nI n) mn sd = some r ∧ isZ r ∧ (r = 1 ↔ Str n mn sd a b) := by
  unfold f_M_isAbove
  obtain ⟨r1, e1, z1, i1⟩ := li_eq hN hn h hs ha hb
  obtain ⟨r2, e2, z2, i2⟩ := li_eq hN hn h hs hb ha
  rw [e1, e2, Option.bind_some, Option.bind_some]
  rcases z1 with z1 | z1
  · rw [if_pos z1]
    exact ⟨0, rfl, Or.inl rfl, ⟨fun e => absurd e (by decide), fun e => by have := i1.mpr e.1; rw [z1] at this; exact absurd this (by decide)⟩⟩
  · rw [z1, if_neg i1z]
    rcases z2 with z2 | z2
    · rw [if_pos z2]
      exact ⟨1, rfl, Or.inr rfl, ⟨fun _ => ⟨i1.mp z1, fun z => by have := i2.mpr z; rw [z2] at this; exact absurd this (by decide)⟩, fun _ => rfl⟩⟩
    · rw [z2, if_neg i1z]
      exact ⟨0, rfl, Or.inl rfl, ⟨fun e => absurd e (by decide), fun e => absurd (i2.mp z2) e.2⟩⟩
def Btw (n nn : Nat) (mn sd : Nat → Int32) (a b c : Nat) : Prop := ∀ e, c ≤ e → e < nn → ¬ (Str n mn sd a e ∧ Str n mn sd e b)
theorem na_loop {N n nn sz a b : Nat} {f0 f1 f2 mn sd : Nat → Int32} {tr st : Nat → Int64} (hN : 100000 ≤ N) (hn : n ≤ 9) (hnn : nn ≤ 5) (hz : sz ≤ 200) (h : RNm n nn sz f0 f1 f2 mn tr) (hs : RSt n st sd) (ha : a < nn) (hb : b < nn) : ∀ (d i c : Nat), c + d = nn → d < i → ∃ r : Int32, f_X_isNextAbove_13 N (nI nn) (nI sz) f0 f1 f2 tr st (nI a) (nI b) i (nI c) = some r ∧ isZ r ∧ (r = 1 ↔ Btw n nn mn sd a b c) := by
  intro d
  induction d with
  | zero =>
    intro i c hc hi
    obtain ⟨i, rfl⟩ : ∃ k, i = k + 1 := ⟨i - 1, by omega⟩
    rw [f_X_isNextAbove_13, if_pos (nI_le (show nn ≤ c by omega) (by omega))]
    exact ⟨1, rfl, Or.inr rfl, ⟨fun _ e h1 h2 => by omega, fun _ => rfl⟩⟩
  | succ d ih =>
    intro i c hc hi
    obtain ⟨i, rfl⟩ : ∃ k, i = k + 1 := ⟨i - 1, by omega⟩
    obtain ⟨r1, e1, z1, i1⟩ := ss_eq hN hn hz h hs ha (show c < nn by omega)
    obtain ⟨r2, e2, z2, i2⟩ := ss_eq hN hn hz h hs (show c < nn by omega) hb
    obtain ⟨r, g1, g2, g3⟩ := ih i (c + 1) (by omega) (by omega)
    have ext : ¬ (Str n mn sd a c ∧ Str n mn sd c b) → (Btw n nn mn sd a b (c + 1) ↔ Btw n nn mn sd a b c) := fun hx => ⟨fun H e h1 h2 => by
      by_cases q : e = c
      · subst q; exact hx
      · exact H e (by omega) h2, fun H e h1 h2 => H e (by omega) h2⟩
    rw [f_X_isNextAbove_13, if_neg (nI_ge (show c < nn by omega) (by omega)), e1, e2, Option.bind_some, Option.bind_some, nI_m]
    rcases z1 with z1 | z1
    · rw [if_pos z1]
      exact ⟨r, g1, g2, g3.trans (ext (fun q => by have := i1.mpr q.1; rw [z1] at this; exact absurd this (by decide)))⟩
    · rw [z1, if_neg i1z]
      rcases z2 with z2 | z2
      · rw [if_pos z2]
        exact ⟨r, g1, g2, g3.trans (ext (fun q => by have := i2.mpr q.2; rw [z2] at this; exact absurd this (by decide)))⟩
      · rw [z2, if_neg i1z]
        exact ⟨0, rfl, Or.inl rfl, ⟨fun e => absurd e (by decide), fun H => absurd ⟨i1.mp z1, i2.mp z2⟩ (H c (Nat.le_refl _) (by omega))⟩⟩
theorem xn_eq {N n nn sz a b : Nat} {f0 f1 f2 mn sd : Nat → Int32} {tr st : Nat → Int64} (hN : 100000 ≤ N) (hn : n ≤ 9) (hnn : nn ≤ 5) (hz : sz ≤ 200) (h : RNm n nn sz f0 f1 f2 mn tr) (hs : RSt n st sd) (ha : a < nn) (hb : b < nn) : ∃ r : Int32, f_X_isNextAbove N (nI a) (nI b) (nI nn) (nI sz) f0 f1 f2 tr st = some r ∧ isZ r ∧ (r = 1 ↔ Str n mn sd a b ∧ Btw n nn mn sd a b 0) := by
  unfold f_X_isNextAbove
  obtain ⟨r1, e1, z1, i1⟩ := ss_eq hN hn hz h hs ha hb
  obtain ⟨r, g1, g2, g3⟩ := na_loop hN hn hnn hz h hs ha hb nn N 0 (by omega) (by omega)
  rw [e1, Option.bind_some]
  rcases z1 with z1 | z1
  · rw [if_pos z1]
    exact ⟨0, rfl, Or.inl rfl, ⟨fun e => absurd e (by decide), fun e => by have := i1.mpr e.1; rw [z1] at this; exact absurd this (by decide)⟩⟩
  · rw [z1, if_neg i1z]
    exact ⟨r, g1, g2, g3.trans ⟨fun H => ⟨i1.mp z1, H⟩, fun H => H.2⟩⟩
theorem mn_loop {N n nn sz a b : Nat} {f0 f1 f2 mn sd : Nat → Int32} {tr st : Nat → Int64} {k : Int32 → Int32 → Option Int32} {v3 : Int32} (hN : 100000 ≤ N) (hn : n ≤ 9) (hnn : nn ≤ 5) (h : RNm n nn sz f0 f1 f2 mn tr) (hs : RSt n st sd) (ha : a < nn) (hb : b < nn) : ∀ (d i c : Nat) (v : Int32), c + d = nn → d < i → isZ v → ∃ r : Int32, f_M_next__47 N (nI nn) (nI n) 1 mn sd k (nI a) v3 (nI b) i v (nI c) = f_M_next__95 N (nI nn) (nI n) 1 mn sd k (nI a) v3 (nI b) r ∧ isZ r ∧ (r = 1 ↔ v = 1 ∧ Btw n nn mn sd a b c) := by
  intro d
  induction d with
  | zero =>
    intro i c v hc hi hv
    obtain ⟨i, rfl⟩ : ∃ k, i = k + 1 := ⟨i - 1, by omega⟩
    rw [f_M_next__47, if_pos (nI_le (show nn ≤ c by omega) (by omega))]
    exact ⟨v, rfl, hv, ⟨fun e => ⟨e, fun e h1 h2 => by omega⟩, fun e => e.1⟩⟩
  | succ d ih =>
    intro i c v hc hi hv
    obtain ⟨i, rfl⟩ : ∃ k, i = k + 1 := ⟨i - 1, by omega⟩
    rw [f_M_next__47, if_neg (nI_ge (show c < nn by omega) (by omega)), nI_m]
    rcases hv with hv | hv
    · rw [if_pos hv]
      exact ⟨v, rfl, Or.inl hv, ⟨fun e => by rw [hv] at e; exact absurd e (by decide), fun e => e.1⟩⟩
    · subst hv
      rw [if_neg i1z]
      obtain ⟨r1, e1, z1, i1⟩ := ab_eq hN hn h hs ha (show c < nn by omega)
      obtain ⟨r2, e2, z2, i2⟩ := ab_eq hN hn h hs (show c < nn by omega) hb
      obtain ⟨r, g1, g2, g3⟩ := ih i (c + 1) 1 (by omega) (by omega) (Or.inr rfl)
      obtain ⟨r', g1', g2', g3'⟩ := ih i (c + 1) 0 (by omega) (by omega) (Or.inl rfl)
      have ext : ¬ (Str n mn sd a c ∧ Str n mn sd c b) → (((1 : Int32) = 1 ∧ Btw n nn mn sd a b (c + 1)) ↔ ((1 : Int32) = 1 ∧ Btw n nn mn sd a b c)) := fun hx => ⟨fun H => ⟨rfl, fun e h1 h2 => by
        by_cases q : e = c
        · subst q; exact hx
        · exact H.2 e (by omega) h2⟩, fun H => ⟨rfl, fun e h1 h2 => H.2 e (by omega) h2⟩⟩
      rw [e1, e2, Option.bind_some, Option.bind_some]
      rcases z1 with z1 | z1
      · rw [if_pos z1]
        exact ⟨r, g1, g2, g3.trans (ext (fun q => by have := i1.mpr q.1; rw [z1] at this; exact absurd this (by decide)))⟩
      · rw [z1, if_neg i1z]
        rcases z2 with z2 | z2
        · rw [if_pos z2]
          exact ⟨r, g1, g2, g3.trans (ext (fun q => by have := i2.mpr q.2; rw [z2] at this; exact absurd this (by decide)))⟩
        · rw [z2, if_neg i1z]
          exact ⟨r', g1', g2', g3'.trans ⟨fun e => absurd e.1 (by decide), fun H => absurd ⟨i1.mp z1, i2.mp z2⟩ (H.2 c (Nat.le_refl _) (by omega))⟩⟩
theorem i32_sub0 (x y : Int32) : x - y = 0 ↔ y = x := by
  rw [← Int32.toBitVec_inj, ← Int32.toBitVec_inj, Int32.toBitVec_sub]
  constructor
  · intro h
    have h2 : x.toBitVec = y.toBitVec := by
      have h3 := congrArg (fun z => z + y.toBitVec) h
      simpa [BitVec.sub_add_cancel] using h3
    exact h2.symm
  · intro h
    rw [h]; simp
theorem i32_subm (x y : Int32) : x - y + (-1 : Int32) = x - (y + (1 : Int32)) := by
  rw [← Int32.toBitVec_inj, Int32.toBitVec_add, Int32.toBitVec_sub, Int32.toBitVec_sub, Int32.toBitVec_add]
  show x.toBitVec - y.toBitVec + (-1#32) = x.toBitVec - (y.toBitVec + 1#32)
  apply BitVec.eq_of_toNat_eq
  rw [BitVec.toNat_add, BitVec.toNat_sub, BitVec.toNat_sub, BitVec.toNat_add]
  have h1 : (-1#32).toNat = 4294967295 := by decide
  have h2 : (1#32).toNat = 1 := by decide
  rw [h1, h2]
  have h3 := x.toBitVec.isLt
  have h4 := y.toBitVec.isLt
  omega
theorem nx_loop {N n nn sz a : Nat} {f0 f1 f2 mn sd : Nat → Int32} {tr st : Nat → Int64} {v2 : Int32} (hN : 100000 ≤ N) (hn : n ≤ 9) (hnn : nn ≤ 5) (hz : sz ≤ 200) (h : RNm n nn sz f0 f1 f2 mn tr) (hs : RSt n st sd) (ha : a < nn) : ∀ (d i i' b : Nat) (m : Int32), b + d = nn → d < i → d < i' → ∃ r : Int32, f_X_next_26 N 1 (nI nn) (nI sz) f0 f1 f2 tr st (nI a) v2 i m (nI b) = some r ∧ f_M_next__26 N (nI nn) (nI n) 1 mn sd (nI a) i' (v2 - m) (nI b) = some r := by
  intro d
  induction d with
  | zero =>
    intro i i' b m hb hi hi'
    obtain ⟨i, rfl⟩ : ∃ k, i = k + 1 := ⟨i - 1, by omega⟩
    obtain ⟨i', rfl⟩ : ∃ k, i' = k + 1 := ⟨i' - 1, by omega⟩
    rw [f_X_next_26, f_M_next__26, if_pos (nI_le (show nn ≤ b by omega) (by omega)), if_pos (nI_le (show nn ≤ b by omega) (by omega))]
    exact ⟨-1, rfl, rfl⟩
  | succ d ih =>
    intro i i' b m hb hi hi'
    obtain ⟨i, rfl⟩ : ∃ k, i = k + 1 := ⟨i - 1, by omega⟩
    obtain ⟨i', rfl⟩ : ∃ k, i' = k + 1 := ⟨i' - 1, by omega⟩
    have hbn : b < nn := by omega
    rw [f_X_next_26, f_M_next__26, if_neg (nI_ge hbn (by omega)), if_neg (nI_ge hbn (by omega))]
    obtain ⟨r, e, z, g⟩ := xn_eq hN hn hnn hz h hs ha hbn
    obtain ⟨r1, e1, z1, g1⟩ := ab_eq hN hn h hs ha hbn
    obtain ⟨r2, e2, z2, g2⟩ := mn_loop (k := f_M_next__26 N (nI nn) (nI n) 1 mn sd (nI a) i') (v3 := v2 - m) hN hn hnn h hs ha hbn nn N 0 r1 (by omega) (by omega) z1
    have e2' : f_M_next__47 N (nI nn) (nI n) 1 mn sd (f_M_next__26 N (nI nn) (nI n) 1 mn sd (nI a) i') (nI a) (v2 - m) (nI b) N r1 (0 : Int32) = _ := e2
    have er : r = r2 := isZ_eq z z2 g g2 (by rw [g1])
    rw [e, e1, Option.bind_some, Option.bind_some, e2']
    unfold f_M_next__95
    rw [← er, nI_m]
    rcases z with z | z
    · rw [if_pos z, if_pos z]
      exact ih i i' (b + 1) m (by omega) (by omega) (by omega)
    · rw [z, if_neg i1z, if_neg i1z]
      by_cases hm : m = v2
      · rw [if_pos hm, if_pos ((i32_sub0 v2 m).mpr hm)]
        exact ⟨nI b, rfl, rfl⟩
      · rw [if_neg hm, if_neg (fun q => hm ((i32_sub0 v2 m).mp q)), i32_subm]
        exact ih i i' (b + 1) (m + 1) (by omega) (by omega) (by omega)
theorem next_eq {N n nn sz : Nat} {f0 f1 f2 mn sd : Nat → Int32} {tr st : Nat → Int64} (hN : 100000 ≤ N) (hn : n ≤ 9) (hnn : nn ≤ 5) (hz : sz ≤ 200) (h : RNm n nn sz f0 f1 f2 mn tr) (hs : RSt n st sd) (a v : Int32) : ∃ r : Int32, f_X_next N a v 1 (nI nn) (nI sz) f0 f1 f2 tr st = some r ∧ f_M_next_ N a v (nI nn) (nI n) 1 mn sd = some r := by
  unfold f_X_next f_M_next_
  rw [if_neg i1z, if_neg i1z, X_isN_eq (by omega), M_noN_eq (by omega), Option.bind_some, Option.bind_some]
  by_cases h1 : ∃ j : Nat, j < nn ∧ a = nI j
  · rw [if_pos h1, if_pos h1, if_neg i1z, if_pos rfl]
    obtain ⟨p, hp, rfl⟩ := h1
    obtain ⟨r, g1, g2⟩ := nx_loop (v2 := v) hN hn hnn hz h hs hp nn N N 0 0 (by omega) (by omega) (by omega)
    have e : v - 0 = v := by rw [← Int32.toBitVec_inj, Int32.toBitVec_sub]; show v.toBitVec - 0#32 = v.toBitVec; simp
    rw [e] at g2
    exact ⟨r, g1, g2⟩
  · rw [if_neg h1, if_neg h1, if_pos rfl, if_neg i1z]
    exact ⟨_, rfl, rfl⟩
