/-! a node more, an atom more -/
theorem TrE_new {sz K : Nat} {d0 d1 d2 : Nat → Int32} {wt pl nl rl : Nat → Nat} (hK : kd d0 sz = K) : ∃ W P : Nat, ∀ wt' pl' : Nat → Nat, wt' sz = W → pl' sz = P → (3 ≤ K → wt' (d1 sz).toNatClampNeg = wt (d1 sz).toNatClampNeg ∧ ∀ least, plx d0 pl' least (d1 sz).toNatClampNeg = plx d0 pl least (d1 sz).toNatClampNeg) → (6 ≤ K → wt' (d2 sz).toNatClampNeg = wt (d2 sz).toNatClampNeg ∧ ∀ least, plx d0 pl' least (d2 sz).toNatClampNeg = plx d0 pl least (d2 sz).toNatClampNeg) → TrE d0 d1 d2 wt' pl' nl rl sz := by
  have cases8 : K = 0 ∨ K = 1 ∨ K = 2 ∨ K = 3 ∨ K = 4 ∨ K = 5 ∨ K = 6 ∨ 7 ≤ K := by omega
  rcases cases8 with e | e | e | e | e | e | e | e
  · refine ⟨1, nl (d1 sz).toNatClampNeg, fun wt' pl' hw hp h1 h2 => ?_⟩
    unfold TrE
    rw [hK, e, hw, hp]
    exact ⟨fun _ => ⟨rfl, rfl⟩, fun z => absurd z (by decide), fun z => absurd z (by decide), fun z => absurd z (by decide), fun z => absurd z (by decide), fun z => absurd z (by decide), fun z => absurd z (by decide), fun z => absurd z (by decide)⟩
  · refine ⟨1, 3, fun wt' pl' hw hp h1 h2 => ?_⟩
    unfold TrE
    rw [hK, e, hw, hp]
    exact ⟨fun z => absurd z (by decide), fun _ => ⟨rfl, rfl⟩, fun z => absurd z (by decide), fun z => absurd z (by decide), fun z => absurd z (by decide), fun z => absurd z (by decide), fun z => absurd z (by decide), fun z => absurd z (by decide)⟩
  · refine ⟨1, 6, fun wt' pl' hw hp h1 h2 => ?_⟩
    unfold TrE
    rw [hK, e, hw, hp]
    exact ⟨fun z => absurd z (by decide), fun z => absurd z (by decide), fun _ => ⟨rfl, rfl⟩, fun z => absurd z (by decide), fun z => absurd z (by decide), fun z => absurd z (by decide), fun z => absurd z (by decide), fun z => absurd z (by decide)⟩
  · refine ⟨1 + wt (d1 sz).toNatClampNeg, 4 + plx d0 pl 3 (d1 sz).toNatClampNeg, fun wt' pl' hw hp h1 h2 => ?_⟩
    obtain ⟨a, b⟩ := h1 (by omega)
    unfold TrE
    rw [hK, e, hw, hp]
    exact ⟨fun z => absurd z (by decide), fun z => absurd z (by decide), fun z => absurd z (by decide), fun _ => ⟨by rw [a], by rw [b]⟩, fun z => absurd z (by decide), fun z => absurd z (by decide), fun z => absurd z (by decide), fun z => absurd z (by decide)⟩
  · refine ⟨1 + wt (d1 sz).toNatClampNeg, 6 + rl (d2 sz).toNatClampNeg + plx d0 pl 3 (d1 sz).toNatClampNeg, fun wt' pl' hw hp h1 h2 => ?_⟩
    obtain ⟨a, b⟩ := h1 (by omega)
    unfold TrE
    rw [hK, e, hw, hp]
    exact ⟨fun z => absurd z (by decide), fun z => absurd z (by decide), fun z => absurd z (by decide), fun z => absurd z (by decide), fun _ => ⟨by rw [a], by rw [b]⟩, fun z => absurd z (by decide), fun z => absurd z (by decide), fun z => absurd z (by decide)⟩
  · refine ⟨1 + wt (d1 sz).toNatClampNeg, 7 + rl (d2 sz).toNatClampNeg + plx d0 pl 3 (d1 sz).toNatClampNeg, fun wt' pl' hw hp h1 h2 => ?_⟩
    obtain ⟨a, b⟩ := h1 (by omega)
    unfold TrE
    rw [hK, e, hw, hp]
    exact ⟨fun z => absurd z (by decide), fun z => absurd z (by decide), fun z => absurd z (by decide), fun z => absurd z (by decide), fun z => absurd z (by decide), fun _ => ⟨by rw [a], by rw [b]⟩, fun z => absurd z (by decide), fun z => absurd z (by decide)⟩
  · refine ⟨1 + wt (d1 sz).toNatClampNeg + wt (d2 sz).toNatClampNeg, plx d0 pl 2 (d1 sz).toNatClampNeg + 5 + plx d0 pl 3 (d2 sz).toNatClampNeg, fun wt' pl' hw hp h1 h2 => ?_⟩
    obtain ⟨a, b⟩ := h1 (by omega)
    obtain ⟨a', b'⟩ := h2 (by omega)
    unfold TrE
    rw [hK, e, hw, hp]
    exact ⟨fun z => absurd z (by decide), fun z => absurd z (by decide), fun z => absurd z (by decide), fun z => absurd z (by decide), fun z => absurd z (by decide), fun z => absurd z (by decide), fun _ => ⟨by rw [a, a'], by rw [b, b']⟩, fun z => absurd z (by decide)⟩
  · refine ⟨1 + wt (d1 sz).toNatClampNeg + wt (d2 sz).toNatClampNeg, plx d0 pl 1 (d1 sz).toNatClampNeg + 4 + plx d0 pl 2 (d2 sz).toNatClampNeg, fun wt' pl' hw hp h1 h2 => ?_⟩
    obtain ⟨a, b⟩ := h1 (by omega)
    obtain ⟨a', b'⟩ := h2 (by omega)
    unfold TrE
    rw [hK, hw, hp]
    exact ⟨fun z => absurd z (by omega), fun z => absurd z (by omega), fun z => absurd z (by omega), fun z => absurd z (by omega), fun z => absurd z (by omega), fun z => absurd z (by omega), fun z => absurd z (by omega), fun _ => ⟨by rw [a, a'], by rw [b, b']⟩⟩
theorem ClS_mono {sz nn nr na nn' nr' : Nat} {wt pl nl rl nl' rl' : Nat → Nat} {c0 c1 c2 c3 c5 c6 c7 c8 : Nat → Int32} (hz : sz ≤ 200) (hnn : nn ≤ 5) (hnr : nr ≤ 3) (H : ClS sz nn nr na wt pl nl rl c0 c1 c2 c3 c5 c6 c7 c8) (h1 : nn ≤ nn') (h2 : nr ≤ nr') (en : ∀ a, a < nn → nl' a = nl a) (er : ∀ r, r < nr → rl' r = rl r) : ClS sz nn' nr' na wt pl nl' rl' c0 c1 c2 c3 c5 c6 c7 c8 := by
  obtain ⟨HC, HU, HA, HT, HE⟩ := H
  exact ⟨CNd_mono HC h1 h2 (Nat.le_refl _) (fun _ _ => ⟨rfl, rfl, rfl, rfl⟩), HU, HA, HT, fun c hc => TrE_same hz hnn hnr HC hc (fun _ _ => ⟨rfl, rfl, rfl, rfl, rfl⟩) en er (HE c hc)⟩
theorem ClS_add {sz nn nr na na' K : Nat} {wt pl nl rl : Nat → Nat} {c0 c1 c2 c3 c5 c6 c7 c8 d5 d6 d7 d8 : Nat → Int32} {v1 v2 v3 : Int32} (hz : sz < 200) (hnn : nn ≤ 5) (hnr : nr ≤ 3) (H : ClS sz nn nr na wt pl nl rl c0 c1 c2 c3 c5 c6 c7 c8) (hna : na ≤ na') (ea : ∀ k, k < na → d5 k = c5 k ∧ d6 k = c6 k ∧ d7 k = c7 k ∧ d8 k = c8 k) (hAU : AtU na' d5 d6 d7 d8) (hK : K < 8) (fresh : ∀ c, c < sz → ¬ (c0 c = nI K ∧ c1 c = v1 ∧ c2 c = v2)) (N1 : (K = 0 ∨ K = 4 ∨ K = 5 → ∃ x : Nat, x < na' ∧ v3 = nI x) ∧ (3 ≤ K → ∃ l : Nat, l < sz ∧ v1 = nI l) ∧ (6 ≤ K → ∃ r : Nat, r < sz ∧ v2 = nI r) ∧ (K = 0 → (∃ a : Nat, a < nn ∧ v1 = nI a) ∧ v2 = nI 0) ∧ (K = 4 ∨ K = 5 → ∃ r : Nat, r < nr ∧ v2 = nI r) ∧ (K = 1 ∨ K = 2 → v1 = nI 0 ∧ v2 = nI 0) ∧ (K = 3 → v2 = nI 0)) (A1 : (K = 0 → ∃ x : Nat, x < na' ∧ v3 = nI x ∧ d5 x = -1 ∧ d6 x = v1) ∧ (K = 4 ∨ K = 5 → ∃ x l p t : Nat, x < na' ∧ l < sz ∧ v1 = nI l ∧ KeyOf c0 c1 K l p t ∧ v3 = nI x ∧ d5 x = v2 ∧ d7 x = nI p ∧ d8 x = nI t)) : ∃ wt' pl' : Nat → Nat, (∀ c, c < sz → wt' c = wt c ∧ pl' c = pl c) ∧ ClS (sz + 1) nn nr na' wt' pl' nl rl (upd c0 sz (nI K)) (upd c1 sz v1) (upd c2 sz v2) (upd c3 sz v3) d5 d6 d7 d8 := by
  obtain ⟨HC, HU, HA, HT, HE⟩ := H
  have same : ∀ c, c < sz → upd c0 sz (nI K) c = c0 c ∧ upd c1 sz v1 c = c1 c ∧ upd c2 sz v2 c = c2 c ∧ upd c3 sz v3 c = c3 c := fun c hc => ⟨up_n (by omega), up_n (by omega), up_n (by omega), up_n (by omega)⟩
  have hkd : kd (upd c0 sz (nI K)) sz = K := kd_of hK up_s
  obtain ⟨W, P, hWP⟩ := TrE_new (sz := sz) (d1 := upd c1 sz v1) (d2 := upd c2 sz v2) (wt := wt) (pl := pl) (nl := nl) (rl := rl) hkd
  refine ⟨fun c => if c = sz then W else wt c, fun c => if c = sz then P else pl c, fun c hc => ⟨if_neg (by omega), if_neg (by omega)⟩, ?_, ?_, hAU, ?_, ?_⟩
  · intro c hc
    by_cases e : c = sz
    · rw [e]
      simp only [up_s]
      exact ⟨K, hK, rfl, N1⟩
    · exact CNd_mono HC (Nat.le_refl _) (Nat.le_refl _) hna same c (by omega)
  · intro c c' hc hc' e0 e1 e2
    by_cases h : c = sz
    · by_cases h' : c' = sz
      · omega
      · obtain ⟨s0, s1, s2, s3⟩ := same c' (by omega)
        rw [h, up_s, s0] at e0
        rw [h, up_s, s1] at e1
        rw [h, up_s, s2] at e2
        exact absurd ⟨e0.symm, e1.symm, e2.symm⟩ (fresh c' (by omega))
    · obtain ⟨t0, t1, t2, t3⟩ := same c (by omega)
      by_cases h' : c' = sz
      · rw [h', up_s, t0] at e0
        rw [h', up_s, t1] at e1
        rw [h', up_s, t2] at e2
        exact absurd ⟨e0, e1, e2⟩ (fresh c (by omega))
      · obtain ⟨s0, s1, s2, s3⟩ := same c' (by omega)
        rw [t0, s0] at e0
        rw [t1, s1] at e1
        rw [t2, s2] at e2
        exact HU c c' (by omega) (by omega) e0 e1 e2
  · intro c hc
    by_cases e : c = sz
    · rw [e]
      simp only [up_s]
      refine ⟨fun z => ?_, fun K' hK' z => ?_⟩
      · exact A1.1 ((nI_eq (by omega) (by omega)).mp z)
      · have : K = K' := (nI_eq (by omega) (by omega)).mp z
        subst this
        obtain ⟨x, l, p, t, b1, b2, b3, b4, b5, b6, b7, b8⟩ := A1.2 hK'
        exact ⟨x, l, p, t, b1, b2, b3, Key_same (sz := sz) b2 (fun c hc => (same c hc).1) (fun c hc => (same c hc).2.1) b4, b5, b6, b7, b8⟩
    · exact ATn_mono HT hna same ea c (by omega)
  · intro c hc
    have low : ∀ l, l < sz → (fun c => if c = sz then W else wt c) l = wt l ∧ ∀ least, plx (upd c0 sz (nI K)) (fun c => if c = sz then P else pl c) least l = plx (upd c0 sz (nI K)) pl least l := fun l hl => ⟨if_neg (by omega), fun least => by
      unfold plx
      show (if l = sz then P else pl l) + _ = _
      rw [if_neg (by omega)]⟩
    by_cases e : c = sz
    · rw [e]
      refine hWP _ _ (if_pos rfl) (if_pos rfl) (fun z => ?_) (fun z => ?_)
      · obtain ⟨l, l1, l2⟩ := N1.2.1 z
        rw [up_s, l2, nI_cl (by omega)]
        exact low l l1
      · obtain ⟨l, l1, l2⟩ := N1.2.2.1 z
        rw [up_s, l2, nI_cl (by omega)]
        exact low l l1
    · exact TrE_same (by omega) hnn hnr HC (by omega) (fun c hc => ⟨(same c hc).1, (same c hc).2.1, (same c hc).2.2.1, if_neg (by omega), if_neg (by omega)⟩) (fun _ _ => rfl) (fun _ _ => rfl) (HE c (by omega))
theorem WtE_of {sz nn nr na : Nat} {wt pl nl rl : Nat → Nat} {c0 c1 c2 c3 : Nat → Int32} (HC : CNd sz nn nr na c0 c1 c2 c3) (HE : ∀ c, c < sz → TrE c0 c1 c2 wt pl nl rl c) : WtE sz c0 c1 c2 wt := by
  intro c hc
  obtain ⟨K, hK, e0, -⟩ := HC c hc
  have hk := kd_of hK e0
  have T := HE c hc
  unfold TrE at T
  rw [hk] at T
  rw [e0]
  have ne : ∀ b : Nat, b < 8 → (nI K = nI b ↔ K = b) := fun b hb => nI_eq (by omega) (by omega)
  rw [ne 3 (by decide), ne 4 (by decide), ne 5 (by decide), ne 6 (by decide), ne 7 (by decide)]
  have cases8 : K = 0 ∨ K = 1 ∨ K = 2 ∨ K = 3 ∨ K = 4 ∨ K = 5 ∨ K = 6 ∨ K = 7 := by omega
  rcases cases8 with e | e | e | e | e | e | e | e
  · have := T.1 e; exact ⟨by omega, fun z => by omega, fun z => by omega⟩
  · have := T.2.1 e; exact ⟨by omega, fun z => by omega, fun z => by omega⟩
  · have := T.2.2.1 e; exact ⟨by omega, fun z => by omega, fun z => by omega⟩
  · have := T.2.2.2.1 e; exact ⟨by omega, fun z => this.1, fun z => by omega⟩
  · have := T.2.2.2.2.1 e; exact ⟨by omega, fun z => this.1, fun z => by omega⟩
  · have := T.2.2.2.2.2.1 e; exact ⟨by omega, fun z => this.1, fun z => by omega⟩
  · have := T.2.2.2.2.2.2.1 e; exact ⟨by omega, fun z => by omega, fun z => this.1⟩
  · have := T.2.2.2.2.2.2.2 e; exact ⟨by omega, fun z => by omega, fun z => this.1⟩
/-- one ended node more -/
theorem RNd_add {no sz sz' m c : Nat} {o φ : Nat → Nat} {k8 k9 k10 k11 k13 c0 c1 c2 c3 l8 l9 l10 l11 l13 d0 d1 d2 d3 : Nat → Int32} (H : RNd 200 no sz o φ k8 k9 k10 k11 k13 c0 c1 c2 c3) (hsz : sz ≤ sz') (ec : ∀ a, a < sz → d0 a = c0 a ∧ d1 a = c1 a ∧ d2 a = c2 a ∧ d3 a = c3 a) (hm : m < 200) (hne : ∀ j, j < no → o j ≠ m) (em : ∀ j, j < no → l8 (200 + o j) = k8 (200 + o j) ∧ l9 (200 + o j) = k9 (200 + o j) ∧ l10 (200 + o j) = k10 (200 + o j) ∧ l11 (200 + o j) = k11 (200 + o j) ∧ l13 (200 + j) = k13 (200 + j)) (e13 : l13 (200 + no) = nI (200 + m)) (hc : c < sz') (hn : ∃ K : Nat, K < 8 ∧ l8 (200 + m) = nI K ∧ d0 c = nI K ∧ (K = 0 → l9 (200 + m) = d1 c) ∧ (K = 4 ∨ K = 5 → l9 (200 + m) = d2 c) ∧ (K = 0 ∨ K = 4 ∨ K = 5 → l11 (200 + m) = d3 c) ∧ (3 ≤ K → ∃ i, i < no ∧ l10 (200 + m) = nI (200 + o i) ∧ (if K < 6 then d1 else d2) c = nI (φ (o i))) ∧ (6 ≤ K → ∃ i, i < no ∧ l9 (200 + m) = nI (200 + o i) ∧ d1 c = nI (φ (o i)))) : RNd 200 (no + 1) sz' (fun j => if j = no then m else o j) (fun x => if x = m then c else φ x) l8 l9 l10 l11 l13 d0 d1 d2 d3 := by
  intro j hj
  by_cases e : j = no
  · subst e
    simp only [if_pos]
    refine ⟨hm, e13, hc, ?_⟩
    obtain ⟨K, hK, g8, g0, g9, g94, g11, g10, g96⟩ := hn
    refine ⟨K, hK, ?_, ?_, ?_, ?_, ?_, ?_, ?_⟩
    · simp only [if_pos]; exact g8
    · simp only [if_pos]; exact g0
    · simp only [if_pos]; exact g9
    · simp only [if_pos]; exact g94
    · simp only [if_pos]; exact g11
    · intro z
      obtain ⟨i, i1, i2, i3⟩ := g10 z
      refine ⟨i, i1, ?_, ?_⟩
      · simp only [if_pos, if_neg (show ¬ i = j by omega)]; exact i2
      · simp only [if_pos, if_neg (show ¬ i = j by omega), if_neg (hne i i1)]; exact i3
    · intro z
      obtain ⟨i, i1, i2, i3⟩ := g96 z
      refine ⟨i, i1, ?_, ?_⟩
      · simp only [if_pos, if_neg (show ¬ i = j by omega)]; exact i2
      · simp only [if_pos, if_neg (show ¬ i = j by omega), if_neg (hne i i1)]; exact i3
  · have hj' : j < no := by omega
    obtain ⟨p1, p2, p3, K, hK, p8, p0, p9, p94, p11, p10, p96⟩ := H j hj'
    obtain ⟨x8, x9, x10, x11, x13⟩ := em j hj'
    obtain ⟨y0, y1, y2, y3⟩ := ec _ p3
    simp only [if_neg e, if_neg (hne j hj')]
    refine ⟨p1, by rw [x13]; exact p2, by omega, K, hK, ?_, ?_, ?_, ?_, ?_, ?_, ?_⟩
    · simp only [if_neg e]; rw [x8]; exact p8
    · simp only [if_neg e, if_neg (hne j hj')]; rw [y0]; exact p0
    · simp only [if_neg e, if_neg (hne j hj')]; rw [x9, y1]; exact p9
    · simp only [if_neg e, if_neg (hne j hj')]; rw [x9, y2]; exact p94
    · simp only [if_neg e, if_neg (hne j hj')]; rw [x11, y3]; exact p11
    · intro z
      obtain ⟨i, i1, i2, i3⟩ := p10 z
      refine ⟨i, i1, ?_, ?_⟩
      · simp only [if_neg e, if_neg (show ¬ i = no by omega)]; rw [x10]; exact i2
      · simp only [if_neg e, if_neg (hne j hj'), if_neg (show ¬ i = no by omega), if_neg (hne i (by omega))]
        by_cases q : K < 6
        · rw [if_pos q] at i3 ⊢; rw [y1]; exact i3
        · rw [if_neg q] at i3 ⊢; rw [y2]; exact i3
    · intro z
      obtain ⟨i, i1, i2, i3⟩ := p96 z
      refine ⟨i, i1, ?_, ?_⟩
      · simp only [if_neg e, if_neg (show ¬ i = no by omega)]; rw [x9]; exact i2
      · simp only [if_neg e, if_neg (hne j hj'), if_neg (show ¬ i = no by omega), if_neg (hne i (by omega))]; rw [y1]; exact i3
/-- the same nodes over rows that agree there -/
theorem RNd_same {no sz : Nat} {o φ : Nat → Nat} {k8 k9 k10 k11 k13 c0 c1 c2 c3 l8 l9 l10 l11 l13 d0 d1 d2 d3 : Nat → Int32} (H : RNd 200 no sz o φ k8 k9 k10 k11 k13 c0 c1 c2 c3) (ec : ∀ a, a < sz → d0 a = c0 a ∧ d1 a = c1 a ∧ d2 a = c2 a ∧ d3 a = c3 a) (em : ∀ j, j < no → l8 (200 + o j) = k8 (200 + o j) ∧ l9 (200 + o j) = k9 (200 + o j) ∧ l10 (200 + o j) = k10 (200 + o j) ∧ l11 (200 + o j) = k11 (200 + o j) ∧ l13 (200 + j) = k13 (200 + j)) : RNd 200 no sz o φ l8 l9 l10 l11 l13 d0 d1 d2 d3 := by
  intro j hj
  obtain ⟨p1, p2, p3, K, hK, p8, p0, p9, p94, p11, p10, p96⟩ := H j hj
  obtain ⟨x8, x9, x10, x11, x13⟩ := em j hj
  obtain ⟨y0, y1, y2, y3⟩ := ec _ p3
  refine ⟨p1, by rw [x13]; exact p2, p3, K, hK, by rw [x8]; exact p8, by rw [y0]; exact p0, by rw [x9, y1]; exact p9, by rw [x9, y2]; exact p94, by rw [x11, y3]; exact p11, fun z => ?_, fun z => ?_⟩
  · obtain ⟨i, i1, i2, i3⟩ := p10 z
    refine ⟨i, i1, by rw [x10]; exact i2, ?_⟩
    by_cases q : K < 6
    · rw [if_pos q] at i3 ⊢; rw [y1]; exact i3
    · rw [if_neg q] at i3 ⊢; rw [y2]; exact i3
  · obtain ⟨i, i1, i2, i3⟩ := p96 z
    exact ⟨i, i1, by rw [x9]; exact i2, by rw [y1]; exact i3⟩
theorem AtR_mono {na no no' nn nn' nr nr' : Nat} {o φ o' φ' : Nat → Nat} {c5 c6 c7 c8 k32 k33 k34 k35 d5 d6 d7 d8 l32 l33 l34 l35 : Nat → Int32} (H : AtR 200 9 na no nn nr o φ c5 c6 c7 c8 k32 k33 k34 k35) (h1 : no ≤ no') (h2 : nn ≤ nn') (h3 : nr ≤ nr') (eo : ∀ j, j < no → o' j = o j ∧ φ' (o j) = φ (o j)) (ea : ∀ k, k < na → d5 k = c5 k ∧ d6 k = c6 k ∧ d7 k = c7 k ∧ d8 k = c8 k) (em : ∀ k, k < na → l32 (9 + k) = k32 (9 + k) ∧ l33 (9 + k) = k33 (9 + k) ∧ l34 (9 + k) = k34 (9 + k) ∧ l35 (9 + k) = k35 (9 + k)) : AtR 200 9 na no' nn' nr' o' φ' d5 d6 d7 d8 l32 l33 l34 l35 := by
  intro k hk
  obtain ⟨a32, a33, h⟩ := H k hk
  obtain ⟨x5, x6, x7, x8⟩ := ea k hk
  obtain ⟨y2, y3, y4, y5⟩ := em k hk
  rw [x5, x6, x7, x8, y2, y3, y4, y5]
  refine ⟨a32, a33, ?_⟩
  rcases h with ⟨h5, ⟨a, a1, a2⟩, h7⟩ | ⟨r, r1, h5, h6, j, j1, j2, j3, j4⟩
  · exact Or.inl ⟨h5, ⟨a, by omega, a2⟩, h7⟩
  · obtain ⟨e1, e2⟩ := eo j j1
    exact Or.inr ⟨r, by omega, h5, h6, j, by omega, by rw [e1, e2]; exact j2, by rw [e1]; exact j3, j4⟩
theorem AtU_add {na : Nat} {c5 c6 c7 c8 : Nat → Int32} {r nm p t : Int32} (H : AtU na c5 c6 c7 c8) (fresh : ∀ x, x < na → ¬ (c5 x = r ∧ c6 x = nm ∧ c7 x = p ∧ c8 x = t)) : AtU (na + 1) (upd c5 na r) (upd c6 na nm) (upd c7 na p) (upd c8 na t) := by
  intro k k' hk hk' e5 e6 e7 e8
  by_cases h : k = na
  · by_cases h' : k' = na
    · omega
    · rw [h, up_s, up_n h'] at e5 e6 e7 e8
      exact absurd ⟨e5.symm, e6.symm, e7.symm, e8.symm⟩ (fresh k' (by omega))
  · by_cases h' : k' = na
    · rw [h', up_s, up_n h] at e5 e6 e7 e8
      exact absurd ⟨e5, e6, e7, e8⟩ (fresh k (by omega))
    · rw [up_n h, up_n h'] at e5 e6 e7 e8
      exact H k k' (by omega) (by omega) e5 e6 e7 e8
