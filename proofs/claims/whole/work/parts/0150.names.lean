/-! names: what stands under what, of both -/
theorem find_loop {N sz : Nat} {f0 f1 f2 : Nat → Int32} {s l r : Int32} (hz : sz ≤ 200) : ∀ (d i c : Nat), c + d = sz → d < i → (∀ k, k < c → ¬ (f0 k = s ∧ f1 k = l ∧ f2 k = r)) → ∃ v : Int32, f_C_find_3 N (nI sz) f0 f1 f2 s l r i (nI c) = some v ∧ isLst (fun k => f0 k = s ∧ f1 k = l ∧ f2 k = r) sz v := by
  intro d
  induction d with
  | zero =>
    intro i c hc hi hs
    obtain ⟨i, rfl⟩ : ∃ k, i = k + 1 := ⟨i - 1, by omega⟩
    rw [f_C_find_3, if_pos (nI_le (show sz ≤ c by omega) (by omega))]
    exact ⟨-1, rfl, Or.inr ⟨rfl, fun k h => hs k (by omega)⟩⟩
  | succ d ih =>
    intro i c hc hi hs
    obtain ⟨i, rfl⟩ : ∃ k, i = k + 1 := ⟨i - 1, by omega⟩
    have go : ¬ (f0 c = s ∧ f1 c = l ∧ f2 c = r) → ∃ v : Int32, f_C_find_3 N (nI sz) f0 f1 f2 s l r i (nI (c + 1)) = some v ∧ isLst (fun k => f0 k = s ∧ f1 k = l ∧ f2 k = r) sz v := fun hn => ih i (c + 1) (by omega) (by omega) (fun k hk => by
      by_cases e : k = c
      · subst e; exact hn
      · exact hs k (by omega))
    rw [f_C_find_3, if_neg (nI_ge (show c < sz by omega) (by omega)), if_neg (nI_g (show c < 200 by omega) (by decide)), nI_cl (by omega), nI_m]
    by_cases h0 : f0 c = s
    · rw [if_pos h0]
      by_cases h1 : f1 c = l
      · rw [if_pos h1]
        by_cases h2 : f2 c = r
        · rw [if_pos h2]
          exact ⟨nI c, rfl, Or.inl ⟨c, by omega, rfl, ⟨h0, h1, h2⟩, hs⟩⟩
        · rw [if_neg h2]; exact go (fun z => h2 z.2.2)
      · rw [if_neg h1]; exact go (fun z => h1 z.2.1)
    · rw [if_neg h0]; exact go (fun z => h0 z.1)
theorem find_eq {N sz : Nat} {f0 f1 f2 : Nat → Int32} {s l r : Int32} (hN : 100000 ≤ N) (hz : sz ≤ 200) : ∃ v : Int32, f_C_find N s l r (nI sz) f0 f1 f2 = some v ∧ isLst (fun k => f0 k = s ∧ f1 k = l ∧ f2 k = r) sz v := by
  unfold f_C_find
  exact find_loop hz sz N 0 (by omega) (by omega) (fun k h => absurd h (by omega))
/-- a name: its node of the class, its atom -/
def RNm (n nn sz : Nat) (f0 f1 f2 mn : Nat → Int32) (tr : Nat → Int64) : Prop := ∀ a, a < nn → (∃ c : Nat, c < sz ∧ f0 c = 0 ∧ f1 c = nI a ∧ f2 c = 0) ∧ ∃ x : Nat, x < n ∧ mn x = nI a ∧ (∀ k, k < x → ¬ mn k = nI a) ∧ ∀ c, c < sz → f0 c = 0 → f1 c = nI a → ∀ t, t < 2 ^ n → (tb tr (c * 8) t = true ↔ t.testBit x = true)
/-- a name's atom -/
def isAtm (n : Nat) (mn : Nat → Int32) (a x : Nat) : Prop := x < n ∧ mn x = nI a ∧ ∀ k, k < x → ¬ mn k = nI a
theorem isAtm.uniq {n : Nat} {mn : Nat → Int32} {a x y : Nat} (h : isAtm n mn a x) (h' : isAtm n mn a y) : x = y := by
  rcases Nat.lt_trichotomy x y with q | q | q
  · exact absurd h.2.1 (h'.2.2 x q)
  · exact q
  · exact absurd h'.2.1 (h.2.2 y q)
def Und (n : Nat) (mn sd : Nat → Int32) (a b : Nat) : Prop := ∀ x y, isAtm n mn a x → isAtm n mn b y → ∀ s, s < 2 ^ n → sd s = 1 → s.testBit x = true → s.testBit y = true
theorem su_eq {N n nn sz a b : Nat} {f0 f1 f2 mn sd : Nat → Int32} {tr st : Nat → Int64} (hN : 100000 ≤ N) (hn : n ≤ 9) (hz : sz ≤ 200) (h : RNm n nn sz f0 f1 f2 mn tr) (hs : RSt n st sd) (ha : a < nn) (hb : b < nn) : ∃ r : Int32, f_X_standsUnder N (nI a) (nI b) (nI sz) f0 f1 f2 tr st = some r ∧ isZ r ∧ (r = 1 ↔ Und n mn sd a b) := by
  have h9 := pw9_le n (by omega)
  unfold f_X_standsUnder f_C_nodeOfName
  have nd : ∀ a, a < nn → ∃ c : Nat, c < sz ∧ f_C_find N ((0 : Int32)) (nI a) ((0 : Int32)) (nI sz) f0 f1 f2 = some (nI c) ∧ ∃ x, isAtm n mn a x ∧ ∀ t, t < 2 ^ n → (tb tr (c * 8) t = true ↔ t.testBit x = true) := by
    intro a ha
    obtain ⟨⟨c, c1, c2, c3, c4⟩, x, x1, x2, x3, x4⟩ := h a ha
    obtain ⟨v, v1, v2⟩ := find_eq (N := N) (f0 := f0) (f1 := f1) (f2 := f2) (s := 0) (l := nI a) (r := 0) hN hz
    rcases v2 with ⟨t, t1, t2, t3, t4⟩ | ⟨t1, t2⟩
    · exact ⟨t, t1, by rw [v1, t2], x, ⟨x1, x2, x3⟩, x4 t t1 t3.1 t3.2.1⟩
    · exact absurd ⟨c2, c3, c4⟩ (t2 c c1)
  obtain ⟨c, c1, c2, x, x1, x2⟩ := nd a ha
  obtain ⟨e, e1, e2, y, y1, y2⟩ := nd b hb
  rw [c2, e2]
  simp only [Option.bind_some]
  obtain ⟨r, r1, r2, r3⟩ := im_eq (tr := tr) (st := st) hN (show c < 200 by omega) (show e < 200 by omega)
  rw [r1, Option.bind_some, if_pos (isZ_n r2)]
  refine ⟨r, rfl, r2, r3.trans ?_⟩
  constructor
  · intro H x' y' hx hy s hlt hsd hbit
    rw [← x1.uniq hx] at hbit
    rw [← y1.uniq hy, ← y2 s hlt]
    exact H s (by omega) ((hs.1 s hlt).2.mpr hsd) ((x2 s hlt).mpr hbit)
  · intro H s hlt hst hb1
    rcases Nat.lt_or_ge s (2 ^ n) with q | q
    · exact (y2 s q).mpr (H x y x1 y1 s q ((hs.1 s q).2.mp hst) ((x2 s q).mp hb1))
    · rw [hs.2 s q hlt] at hst; cases hst
theorem mbit {t x : Nat} (ht : t < 512) (hx : x < 9) : ((nI t >>> (nI x &&& 31)) &&& (1 : Int32)) = nI (t / 2 ^ x % 2) := by
  have hsx : ∀ x, x < 9 → ((nI x &&& 31).toBitVec.smod 32).toNat = x := by decide
  rw [pk_shrN (k := x) (by omega) _ (hsx x hx)]
  have h1 : t / 2 ^ x < 2 ^ 32 := Nat.lt_of_le_of_lt (Nat.div_le_self _ _) (by omega)
  exact pk_andN h1 1 (by decide)
theorem mbit1 {t x : Nat} (ht : t < 512) (hx : x < 9) : (((nI t >>> (nI x &&& 31)) &&& (1 : Int32)) = 1 ↔ t.testBit x = true) ∧ (((nI t >>> (nI x &&& 31)) &&& (1 : Int32)) = 0 ↔ t.testBit x = false) := by
  rw [mbit ht hx, Nat.testBit_eq_decide_div_mod_eq]
  have h2 : t / 2 ^ x % 2 < 2 := Nat.mod_lt _ (by decide)
  have e1 : nI (t / 2 ^ x % 2) = 1 ↔ t / 2 ^ x % 2 = 1 := nI_eq (b := 1) (by omega) (by decide)
  have e0 : nI (t / 2 ^ x % 2) = 0 ↔ t / 2 ^ x % 2 = 0 := nI_eq (b := 0) (by omega) (by decide)
  rw [e1, e0]
  constructor
  · simp
  · simp
theorem aon_loop {N n a x : Nat} {mn : Nat → Int32} (hn : n ≤ 9) (h : isAtm n mn a x) : ∀ (d i k : Nat), k + d = x → d < i → f_M_atomOfName_2 N mn (nI a) i (nI k) = some (nI x) := by
  intro d
  induction d with
  | zero =>
    intro i k hk hi
    obtain ⟨i, rfl⟩ : ∃ k, i = k + 1 := ⟨i - 1, by omega⟩
    have : k = x := by omega
    subst this
    have := h.1
    rw [f_M_atomOfName_2, if_neg (nI_g (show k < 18 by omega) (by decide)), nI_cl (by omega), if_pos h.2.1]
  | succ d ih =>
    intro i k hk hi
    obtain ⟨i, rfl⟩ : ∃ k, i = k + 1 := ⟨i - 1, by omega⟩
    have := h.1
    rw [f_M_atomOfName_2, if_neg (nI_g (show k < 18 by omega) (by decide)), nI_cl (by omega), if_neg (h.2.2 k (by omega)), nI_m]
    exact ih i (k + 1) (by omega) (by omega)
theorem li_loop {N n x y : Nat} {mn sd : Nat → Int32} (hn : n ≤ 9) (hx : x < 9) (hy : y < 9) (hz : ∀ t, t < 2 ^ n → isZ (sd t)) : ∀ (d i t : Nat) (v : Int32), t + d = 2 ^ n → d < i → isZ v → (v = 1 ↔ ∀ s, s < t → sd s = 1 → s.testBit x = true → s.testBit y = true) → ∃ r : Int32, f_M_lies_19 N (nI n) mn sd (nI x) (nI y) i v (nI t) = some r ∧ isZ r ∧ (r = 1 ↔ ∀ s, s < 2 ^ n → sd s = 1 → s.testBit x = true → s.testBit y = true) := by
  have h9 := pw9_le n (by omega)
  intro d
  induction d with
  | zero =>
    intro i t v ht hi hv hs
    obtain ⟨i, rfl⟩ : ∃ k, i = k + 1 := ⟨i - 1, by omega⟩
    have et : t = 2 ^ n := by omega
    subst et
    rw [f_M_lies_19, M_types_eq hn, Option.bind_some, if_pos (nI_le (Nat.le_refl _) (by omega)), if_pos (isZ_n hv)]
    exact ⟨v, rfl, hv, hs⟩
  | succ d ih =>
    intro i t v ht hi hv hs
    obtain ⟨i, rfl⟩ : ∃ k, i = k + 1 := ⟨i - 1, by omega⟩
    have upt : ∀ (P : Nat → Prop), (∀ s, s < t + 1 → P s) ↔ ((∀ s, s < t → P s) ∧ P t) := fun P => ⟨fun h => ⟨fun s hs => h s (by omega), h t (by omega)⟩, fun h s hs => by
      by_cases e : s = t
      · subst e; exact h.2
      · exact h.1 s (by omega)⟩
    have hb := mbit1 (t := t) (x := x) (by omega) hx
    have hc := mbit1 (t := t) (x := y) (by omega) hy
    rw [f_M_lies_19, M_types_eq hn, Option.bind_some, if_neg (nI_ge (show t < 2 ^ n by omega) (by omega)), nI_m]
    rcases hv with hv | hv
    · rw [if_pos hv]
      refine ih i (t + 1) 0 (by omega) (by omega) (Or.inl rfl) ?_
      rw [upt, ← hs, hv]
      exact ⟨fun e => absurd e (by decide), fun e => absurd e.1 (by decide)⟩
    · rw [hv, if_neg i1z, if_neg (nI_g (show t < 512 by omega) (by decide)), nI_cl (by omega)]
      rcases hz t (by omega) with z | z
      · rw [if_pos z]
        refine ih i (t + 1) 1 (by omega) (by omega) (Or.inr rfl) ?_
        rw [upt, ← hs, hv]
        exact ⟨fun _ => ⟨rfl, fun q => by rw [z] at q; exact absurd q (by decide)⟩, fun _ => rfl⟩
      · rw [z, if_neg i1z]
        by_cases b1 : t.testBit x = true
        · rw [if_neg (fun q => by rw [hb.2.mp q] at b1; cases b1)]
          by_cases b2 : t.testBit y = true
          · rw [if_pos (hc.1.mpr b2)]
            refine ih i (t + 1) 1 (by omega) (by omega) (Or.inr rfl) ?_
            rw [upt, ← hs, hv]
            exact ⟨fun _ => ⟨rfl, fun _ _ => b2⟩, fun _ => rfl⟩
          · rw [if_neg (fun q => b2 (hc.1.mp q))]
            refine ih i (t + 1) 0 (by omega) (by omega) (Or.inl rfl) ?_
            rw [upt]
            exact ⟨fun e => absurd e (by decide), fun e => absurd (e.2 z b1) b2⟩
        · rw [if_pos (hb.2.mpr (by simpa using b1))]
          refine ih i (t + 1) 1 (by omega) (by omega) (Or.inr rfl) ?_
          rw [upt, ← hs, hv]
          exact ⟨fun _ => ⟨rfl, fun _ q => absurd q b1⟩, fun _ => rfl⟩
theorem li_eq {N n nn sz a b : Nat} {f0 f1 f2 mn sd : Nat → Int32} {tr st : Nat → Int64} (hN : 100000 ≤ N) (hn : n ≤ 9) (h : RNm n nn sz f0 f1 f2 mn tr) (hs : RSt n st sd) (ha : a < nn) (hb : b < nn) : ∃ r : Int32, f_M_lies N (nI a) (nI b) (nI n) mn sd = some r ∧ isZ r ∧ (r = 1 ↔ Und n mn sd a b) := by
  have h9 := pw9_le n (by omega)
  obtain ⟨-, x, x1, x2, x3, -⟩ := h a ha
  obtain ⟨-, y, y1, y2, y3, -⟩ := h b hb
  unfold f_M_lies f_M_atomOfName
  have ea : f_M_atomOfName_2 N mn (nI a) N (0 : Int32) = some (nI x) := aon_loop hn ⟨x1, x2, x3⟩ x N 0 (by omega) (by omega)
  have eb : f_M_atomOfName_2 N mn (nI b) N (0 : Int32) = some (nI y) := aon_loop hn ⟨y1, y2, y3⟩ y N 0 (by omega) (by omega)
  rw [ea, Option.bind_some, eb, Option.bind_some]
  obtain ⟨r, r1, r2, r3⟩ := li_loop (N := N) (mn := mn) (sd := sd) hn (show x < 9 by omega) (show y < 9 by omega) (fun t ht => (hs.1 t ht).1) (2 ^ n) N 0 1 (by omega) (by omega) (Or.inr rfl) ⟨fun _ s h => absurd h (by omega), fun _ => rfl⟩
  refine ⟨r, r1, r2, r3.trans ?_⟩
  constructor
  · intro H x' y' hx hy
    rw [← isAtm.uniq (⟨x1, x2, x3⟩ : isAtm n mn a x) hx, ← isAtm.uniq (⟨y1, y2, y3⟩ : isAtm n mn b y) hy]
    exact H
  · intro H
    exact H x y ⟨x1, x2, x3⟩ ⟨y1, y2, y3⟩
theorem isUnder_eq {N n nn sz : Nat} {f0 f1 f2 mn sd : Nat → Int32} {tr st : Nat → Int64} (hN : 100000 ≤ N) (hn : n ≤ 9) (hnn : nn ≤ 5) (hz : sz ≤ 200) (h : RNm n nn sz f0 f1 f2 mn tr) (hs : RSt n st sd) (a b : Int32) : ∃ r : Int32, f_X_isUnder N a b 1 (nI nn) (nI sz) f0 f1 f2 tr st = some r ∧ f_M_isUnder N a b (nI nn) (nI n) 1 mn sd = some r := by
  unfold f_X_isUnder f_M_isUnder
  rw [if_neg i1z, if_neg i1z, X_isN_eq (by omega), X_isN_eq (by omega), M_noN_eq (by omega), M_noN_eq (by omega)]
  simp only [Option.bind_some]
  by_cases h1 : ∃ j : Nat, j < nn ∧ a = nI j
  · rw [if_pos h1, if_pos h1, if_neg i1z, if_pos rfl]
    by_cases h2 : ∃ j : Nat, j < nn ∧ b = nI j
    · rw [if_pos h2, if_pos h2, if_neg i1z, if_pos rfl]
      obtain ⟨p, hp, rfl⟩ := h1
      obtain ⟨q, hq, rfl⟩ := h2
      obtain ⟨r, r1, r2, r3⟩ := su_eq hN hn hz h hs hp hq
      obtain ⟨r', g1, g2, g3⟩ := li_eq hN hn h hs hp hq
      rw [r1, g1, Option.bind_some, Option.bind_some, X_one_z r2, Option.bind_some]
      refine ⟨r, rfl, ?_⟩
      rw [isZ_eq r2 g2 r3 g3 Iff.rfl]
      rcases g2 with z | z
      · rw [z, if_pos rfl]
      · rw [z, if_neg i1z]
    · rw [if_neg h2, if_neg h2, if_pos rfl, if_neg i1z]
      exact ⟨_, rfl, rfl⟩
  · rw [if_neg h1, if_neg h1, if_pos rfl, if_neg i1z]
    exact ⟨_, rfl, rfl⟩
