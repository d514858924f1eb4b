/-! the state of both while a text is read -/
/-- what a reading of a concept may touch of the model -/
def tc (j : Nat) : Bool := j == 2 || j == 3 || j == 4 || j == 5 || j == 6 || j == 38 || j == 39 || j == 43 || j == 44 || j == 45 || j == 46 || j == 47 || j == 49 || j == 54 || j == 55 || j == 56
def ta (j : Nat) : Bool := j == 8 || j == 9 || j == 10 || j == 11 || j == 12 || j == 13 || j == 23 || j == 24 || j == 26 || j == 27 || j == 29 || j == 31 || j == 32 || j == 33 || j == 34 || j == 35 || j == 50 || j == 51 || j == 52 || j == 53
/-- the halves of the model's rows that hold the told book -/
def lowB (j : Nat) : Nat := if j = 8 ∨ j = 9 ∨ j = 10 ∨ j = 11 ∨ j = 13 then 200 else if j = 15 ∨ j = 16 ∨ j = 17 then 250 else if j = 19 ∨ j = 21 then 12 else if j = 23 then 40 else if j = 24 then 5 else if j = 26 then 24 else if j = 27 ∨ j = 29 then 3 else if j = 30 ∨ j = 32 ∨ j = 33 ∨ j = 34 ∨ j = 35 then 9 else 0
def FrI (T : Nat → Bool) (i i' : Nat → Int32) : Prop := ∀ j, T j = false → i' j = i j
def FrA (T : Nat → Bool) (a a' : Nat → Nat → Int32) : Prop := (∀ j, T j = false → a' j = a j) ∧ ∀ j i, i < lowB j → a' j i = a j i
theorem FrI.rfl {T : Nat → Bool} {i : Nat → Int32} : FrI T i i := fun _ _ => Eq.refl _
theorem FrI.trans {T : Nat → Bool} {i i' i'' : Nat → Int32} (h : FrI T i i') (h' : FrI T i' i'') : FrI T i i'' := fun j hj => (h' j hj).trans (h j hj)
theorem FrA.rfl {T : Nat → Bool} {a : Nat → Nat → Int32} : FrA T a a := ⟨fun _ _ => Eq.refl _, fun _ _ _ => Eq.refl _⟩
theorem FrA.trans {T : Nat → Bool} {a a' a'' : Nat → Nat → Int32} (h : FrA T a a') (h' : FrA T a' a'') : FrA T a a'' := ⟨fun j hj => (h'.1 j hj).trans (h.1 j hj), fun j i hi => (h'.2 j i hi).trans (h.2 j i hi)⟩
theorem us_out {α : Type} {f : Nat → α} {j : Nat} : ∀ {l : List (Nat × α)}, (∀ p, p ∈ l → j ≠ p.1) → us f l j = f j
  | [], _ => rfl
  | (k, v) :: r, h => by
    show (if j = k then v else us f r j) = f j
    rw [if_neg (h (k, v) (List.mem_cons_self ..))]
    exact us_out (fun p hp => h p (List.mem_cons_of_mem _ hp))
theorem fri_us {T : Nat → Bool} {i : Nat → Int32} {l : List (Nat × Int32)} (h : (l.map Prod.fst).all T = true) : FrI T i (us i l) := fun j hj => us_out (fun p hp e => by
  have := List.all_eq_true.mp h p.1 (List.mem_map.mpr ⟨p, hp, rfl⟩)
  rw [← e, hj] at this
  cases this)
theorem fra_us {T : Nat → Bool} {a : Nat → Nat → Int32} {l : List (Nat × (Nat → Int32))} (h : (l.map Prod.fst).all T = true) (hl : ∀ p, p ∈ l → ∀ i, i < lowB p.1 → p.2 i = a p.1 i) : FrA T a (us a l) := by
  refine ⟨fun j hj => us_out (fun p hp e => ?_), fun j i hi => ?_⟩
  · have := List.all_eq_true.mp h p.1 (List.mem_map.mpr ⟨p, hp, rfl⟩)
    rw [← e, hj] at this
    cases this
  · induction l with
    | nil => rfl
    | cons q r ih =>
      obtain ⟨k, v⟩ := q
      show (if j = k then v else us a r j) i = a j i
      by_cases e : j = k
      · rw [if_pos e]
        subst e
        exact hl (j, v) (List.mem_cons_self ..) i hi
      · rw [if_neg e]
        rw [List.map_cons, List.all_cons, Bool.and_eq_true] at h
        exact ih h.2 (fun p hp => hl p (List.mem_cons_of_mem _ hp))
theorem low_nil {a : Nat → Nat → Int32} : ∀ p, p ∈ ([] : List (Nat × (Nat → Int32))) → ∀ i, i < lowB p.1 → p.2 i = a p.1 i := fun p hp => absurd hp (by simp)
theorem low_cons {a : Nat → Nat → Int32} {k : Nat} {v : Nat → Int32} {r : List (Nat × (Nat → Int32))} (h : ∀ i, i < lowB k → v i = a k i) (h' : ∀ p, p ∈ r → ∀ i, i < lowB p.1 → p.2 i = a p.1 i) : ∀ p, p ∈ (k, v) :: r → ∀ i, i < lowB p.1 → p.2 i = a p.1 i := fun p hp => by
  rcases List.mem_cons.mp hp with e | e
  · rw [e]; exact h
  · exact h' p e
/-- lengths of names, of roles, as the model has them -/
def nlM (a : Nat → Nat → Int32) (x : Nat) : Nat := (a 24 (5 + x)).toNatClampNeg
def rlM (a : Nat → Nat → Int32) (x : Nat) : Nat := (a 27 (3 + x)).toNatClampNeg
/-- the class's nodes and atoms -/
def ClS (sz nn nr na : Nat) (wt pl nl rl : Nat → Nat) (c0 c1 c2 c3 c5 c6 c7 c8 : Nat → Int32) : Prop := CNd sz nn nr na c0 c1 c2 c3 ∧ CNu sz c0 c1 c2 ∧ AtU na c5 c6 c7 c8 ∧ ATn sz na c0 c1 c2 c3 c5 c6 c7 c8 ∧ ∀ c, c < sz → TrE c0 c1 c2 wt pl nl rl c
def TkS (n : Nat) (tx : Nat → Int32) (nx fr : Nat) (iT : Nat → Int32) (wT : Int64) (iM : Nat → Int32) (aM : Nat → Nat → Int32) : Prop := iT 1 = nI n ∧ iM 1 = nI n ∧ iT 2 = nI nx ∧ iM 2 = nI nx ∧ iT 3 = nI fr ∧ iM 4 = nI fr ∧ RTape n tx (aM 0) ∧ aM 7 = wordsM ∧ Tok n tx nx fr (iT 4) wT (iM 3) (iM 5) (iM 6)
def NmS (nn nr S Od : Nat) (iB : Nat → Int32) (lB : Nat → Nat → Int64) (iM : Nat → Int32) (aM : Nat → Nat → Int32) : Prop := nn ≤ 5 ∧ nr ≤ 3 ∧ iB 3 = nI nn ∧ iB 5 = nI nr ∧ iM 43 = nI nn ∧ iM 44 = nI nr ∧ NmW 5 40 nn (lB 2) (aM 23) (aM 24) ∧ NmW 3 24 nr (lB 4) (aM 26) (aM 27) ∧ (∀ r, r < nr → aM 29 (3 + r) = (if S.testBit r = true then 1 else 0) ∧ aM 31 (3 + r) = (if Od.testBit r = true then 1 else 0)) ∧ (∀ r, nr ≤ r → r < 3 → S.testBit r = false ∧ Od.testBit r = false)
def NdS (nd no sz na nn nr : Nat) (o φ wt pl : Nat → Nat) (iB iC : Nat → Int32) (aC : Nat → Nat → Int32) (iM : Nat → Int32) (aM : Nat → Nat → Int32) : Prop := nd ≤ 200 ∧ no ≤ nd ∧ sz ≤ nd ∧ na ≤ 9 ∧ iB 1 = nI nd ∧ iM 38 = nI nd ∧ iM 39 = nI no ∧ iC 4 = nI sz ∧ iC 9 = nI na ∧ iM 45 = nI na ∧ (∀ j, j < no → o j < nd) ∧ RNd 200 no sz o φ (aM 8) (aM 9) (aM 10) (aM 11) (aM 13) (aC 0) (aC 1) (aC 2) (aC 3) ∧ AtR 200 9 na no nn nr o φ (aC 5) (aC 6) (aC 7) (aC 8) (aM 32) (aM 33) (aM 34) (aM 35) ∧ ClS sz nn nr na wt pl (nlM aM) (rlM aM) (aC 0) (aC 1) (aC 2) (aC 3) (aC 5) (aC 6) (aC 7) (aC 8) ∧ (∀ c, c < sz → wt c ≤ nd) ∧ (∀ a, a < nn → ∃ c, c < sz ∧ aC 0 c = nI 0 ∧ aC 1 c = nI a)
/-- both at one place of a text, without fault -/
def PS (n : Nat) (tx : Nat → Int32) (S Od nx fr nd no sz na nn nr : Nat) (o φ wt pl : Nat → Nat) (iT : Nat → Int32) (wT : Int64) (iB : Nat → Int32) (lB : Nat → Nat → Int64) (iC : Nat → Int32) (aC : Nat → Nat → Int32) (iM : Nat → Int32) (aM : Nat → Nat → Int32) : Prop := iM 46 = 0 ∧ TkS n tx nx fr iT wT iM aM ∧ NmS nn nr S Od iB lB iM aM ∧ NdS nd no sz na nn nr o φ wt pl iB iC aC iM aM
/-- what was there stays -/
def ExS (nd no sz : Nat) (o φ wt pl : Nat → Nat) (aC aM : Nat → Nat → Int32) (nd' no' sz' : Nat) (o' φ' wt' pl' : Nat → Nat) (aC' aM' : Nat → Nat → Int32) : Prop := nd ≤ nd' ∧ no ≤ no' ∧ sz ≤ sz' ∧ (∀ j, j < no → o' j = o j ∧ φ' (o j) = φ (o j)) ∧ (∀ c, c < sz → aC' 0 c = aC 0 c ∧ wt' c = wt c ∧ pl' c = pl c) ∧ (∀ j, no ≤ j → j < no' → nd ≤ o' j) ∧ ∀ m, m < nd → aM' 8 (200 + m) = aM 8 (200 + m) ∧ aM' 9 (200 + m) = aM 9 (200 + m) ∧ aM' 10 (200 + m) = aM 10 (200 + m) ∧ aM' 11 (200 + m) = aM 11 (200 + m) ∧ aM' 12 (200 + m) = aM 12 (200 + m)
theorem ExS.refl {nd no sz : Nat} {o φ wt pl : Nat → Nat} {aC aM : Nat → Nat → Int32} : ExS nd no sz o φ wt pl aC aM nd no sz o φ wt pl aC aM := ⟨Nat.le_refl _, Nat.le_refl _, Nat.le_refl _, fun _ _ => ⟨rfl, rfl⟩, fun _ _ => ⟨rfl, rfl, rfl⟩, fun j h1 h2 => absurd h2 (by omega), fun _ _ => ⟨rfl, rfl, rfl, rfl, rfl⟩⟩
theorem ExS.trans {nd no sz nd' no' sz' nd'' no'' sz'' : Nat} {o φ wt pl o' φ' wt' pl' o'' φ'' wt'' pl'' : Nat → Nat} {aC aM aC' aM' aC'' aM'' : Nat → Nat → Int32} (h : ExS nd no sz o φ wt pl aC aM nd' no' sz' o' φ' wt' pl' aC' aM') (g : ExS nd' no' sz' o' φ' wt' pl' aC' aM' nd'' no'' sz'' o'' φ'' wt'' pl'' aC'' aM'') : ExS nd no sz o φ wt pl aC aM nd'' no'' sz'' o'' φ'' wt'' pl'' aC'' aM'' := by
  obtain ⟨h1, h2, h3, h4, h5, h6, h7⟩ := h
  obtain ⟨g1, g2, g3, g4, g5, g6, g7⟩ := g
  refine ⟨by omega, by omega, by omega, fun j hj => ?_, fun c hc => ?_, fun j q1 q2 => ?_, fun m hm => ?_⟩
  · have a := h4 j hj
    have b := g4 j (by omega)
    rw [a.1] at b
    exact ⟨b.1, b.2.trans a.2⟩
  · have a := h5 c hc
    have b := g5 c (by omega)
    exact ⟨b.1.trans a.1, b.2.1.trans a.2.1, b.2.2.trans a.2.2⟩
  · by_cases e : j < no'
    · rw [(g4 j e).1]; exact h6 j q1 e
    · have := g6 j (by omega) q2; omega
  · have a := h7 m hm
    have b := g7 m (by omega)
    exact ⟨b.1.trans a.1, b.2.1.trans a.2.1, b.2.2.1.trans a.2.2.1, b.2.2.2.1.trans a.2.2.2.1, b.2.2.2.2.trans a.2.2.2.2⟩
/-! nodes and atoms grow -/
theorem CNd_mono {sz nn nr na nn' nr' na' : Nat} {c0 c1 c2 c3 d0 d1 d2 d3 : Nat → Int32} (h : CNd sz nn nr na c0 c1 c2 c3) (h1 : nn ≤ nn') (h2 : nr ≤ nr') (h3 : na ≤ na') (e : ∀ c, c < sz → d0 c = c0 c ∧ d1 c = c1 c ∧ d2 c = c2 c ∧ d3 c = c3 c) : CNd sz nn' nr' na' d0 d1 d2 d3 := by
  intro c hc
  obtain ⟨K, hK, e0, p3, p1, p2, q0, q45, q12, q3⟩ := h c hc
  obtain ⟨x0, x1, x2, x3⟩ := e c hc
  rw [x0, x1, x2, x3]
  refine ⟨K, hK, e0, fun z => ?_, p1, p2, fun z => ?_, fun z => ?_, q12, q3⟩
  · obtain ⟨x, y, w⟩ := p3 z; exact ⟨x, by omega, w⟩
  · obtain ⟨⟨x, y, w⟩, v⟩ := q0 z; exact ⟨⟨x, by omega, w⟩, v⟩
  · obtain ⟨x, y, w⟩ := q45 z; exact ⟨x, by omega, w⟩
theorem TrE_same {sz nn nr na : Nat} {c0 c1 c2 c3 d0 d1 d2 : Nat → Int32} {wt pl nl rl wt' pl' nl' rl' : Nat → Nat} {c : Nat} (hz : sz ≤ 200) (hnn : nn ≤ 5) (hnr : nr ≤ 3) (H : CNd sz nn nr na c0 c1 c2 c3) (hc : c < sz) (e : ∀ c, c < sz → d0 c = c0 c ∧ d1 c = c1 c ∧ d2 c = c2 c ∧ wt' c = wt c ∧ pl' c = pl c) (en : ∀ a, a < nn → nl' a = nl a) (er : ∀ r, r < nr → rl' r = rl r) (h : TrE c0 c1 c2 wt pl nl rl c) : TrE d0 d1 d2 wt' pl' nl' rl' c := by
  obtain ⟨K, hK, e0, p3, p1, p2, q0, q45, q12, q3⟩ := H c hc
  obtain ⟨x0, x1, x2, x4, x5⟩ := e c hc
  have hk := kd_of hK e0
  have hk' : kd d0 c = K := kd_of hK (x0.trans e0)
  unfold TrE at h ⊢
  rw [hk] at h
  rw [hk', x1, x2, x4, x5]
  have px : ∀ least l, l < sz → plx d0 pl' least l = plx c0 pl least l := fun least l hl => by
    obtain ⟨y0, y1, y2, y4, y5⟩ := e l hl
    unfold plx kd
    rw [y0, y5]
  have L : 3 ≤ K → ∃ l, l < sz ∧ (c1 c).toNatClampNeg = l := fun z => by
    obtain ⟨l, l1, l2⟩ := p1 z
    exact ⟨l, by omega, by rw [l2, nI_cl (by omega)]⟩
  have R : 6 ≤ K → ∃ l, l < sz ∧ (c2 c).toNatClampNeg = l := fun z => by
    obtain ⟨l, l1, l2⟩ := p2 z
    exact ⟨l, by omega, by rw [l2, nI_cl (by omega)]⟩
  have R2 : K = 4 ∨ K = 5 → ∃ r, r < nr ∧ (c2 c).toNatClampNeg = r := fun z => by
    obtain ⟨l, l1, l2⟩ := q45 z
    exact ⟨l, l1, by rw [l2, nI_cl (by omega)]⟩
  refine ⟨fun z => ?_, h.2.1, h.2.2.1, fun z => ?_, fun z => ?_, fun z => ?_, fun z => ?_, fun z => ?_⟩
  · obtain ⟨⟨a, a1, a2⟩, -⟩ := q0 z
    have := h.1 z
    rw [a2, nI_cl (by omega)] at this ⊢
    rw [en a a1]; exact this
  · obtain ⟨l, l1, l2⟩ := L (by omega)
    have := h.2.2.2.1 z
    rw [l2] at this ⊢
    rw [(e l l1).2.2.2.1, px 3 l l1]; exact this
  · obtain ⟨l, l1, l2⟩ := L (by omega)
    obtain ⟨r, r1, r2⟩ := R2 (Or.inl z)
    have := h.2.2.2.2.1 z
    rw [l2, r2] at this ⊢
    rw [(e l l1).2.2.2.1, px 3 l l1, er r r1]; exact this
  · obtain ⟨l, l1, l2⟩ := L (by omega)
    obtain ⟨r, r1, r2⟩ := R2 (Or.inr z)
    have := h.2.2.2.2.2.1 z
    rw [l2, r2] at this ⊢
    rw [(e l l1).2.2.2.1, px 3 l l1, er r r1]; exact this
  · obtain ⟨l, l1, l2⟩ := L (by omega)
    obtain ⟨r, r1, r2⟩ := R (by omega)
    have := h.2.2.2.2.2.2.1 z
    rw [l2, r2] at this ⊢
    rw [(e l l1).2.2.2.1, (e r r1).2.2.2.1, px 2 l l1, px 3 r r1]; exact this
  · obtain ⟨l, l1, l2⟩ := L (by omega)
    obtain ⟨r, r1, r2⟩ := R (by omega)
    have := h.2.2.2.2.2.2.2 z
    rw [l2, r2] at this ⊢
    rw [(e l l1).2.2.2.1, (e r r1).2.2.2.1, px 1 l l1, px 2 r r1]; exact this
theorem ATn_mono {sz na na' : Nat} {c0 c1 c2 c3 c5 c6 c7 c8 d0 d1 d2 d3 d5 d6 d7 d8 : Nat → Int32} (h : ATn sz na c0 c1 c2 c3 c5 c6 c7 c8) (h3 : na ≤ na') (e : ∀ c, c < sz → d0 c = c0 c ∧ d1 c = c1 c ∧ d2 c = c2 c ∧ d3 c = c3 c) (ea : ∀ k, k < na → d5 k = c5 k ∧ d6 k = c6 k ∧ d7 k = c7 k ∧ d8 k = c8 k) : ATn sz na' d0 d1 d2 d3 d5 d6 d7 d8 := by
  intro c hc
  obtain ⟨a1, a2⟩ := h c hc
  obtain ⟨x0, x1, x2, x3⟩ := e c hc
  rw [x0, x1, x2, x3]
  refine ⟨fun z => ?_, fun K hK z => ?_⟩
  · obtain ⟨x, b1, b2, b3, b4⟩ := a1 z
    obtain ⟨u5, u6, u7, u8⟩ := ea x b1
    exact ⟨x, by omega, b2, by rw [u5]; exact b3, by rw [u6]; exact b4⟩
  · obtain ⟨x, l, p, t, b1, b2, b3, b4, b5, b6, b7, b8⟩ := a2 K hK z
    obtain ⟨u5, u6, u7, u8⟩ := ea x b1
    exact ⟨x, l, p, t, by omega, b2, b3, Key_same (sz := sz) (by omega) (fun c hc => (e c hc).1) (fun c hc => (e c hc).2.1) b4, b5, by rw [u5]; exact b6, by rw [u7]; exact b7, by rw [u8]; exact b8⟩
