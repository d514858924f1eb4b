/-! what was told stays told while more is read -/
theorem RuS_mono {rc no no' ns ns' : Nat} {o φ o' φ' : Nat → Nat} {cr mr s15 s16 s17 cr' mr' t15 t16 t17 : Nat → Int32} (H : RuS 200 12 250 rc no ns o φ cr mr s15 s16 s17) (h1 : no ≤ no') (h2 : ns ≤ ns') (eo : ∀ j, j < no → o' j = o j ∧ φ' (o j) = φ (o j)) (ec : ∀ k, k < rc → cr' k = cr k ∧ mr' (12 + k) = mr (12 + k)) (es : ∀ s, s < ns → t15 (250 + s) = s15 (250 + s) ∧ t16 (250 + s) = s16 (250 + s) ∧ t17 (250 + s) = s17 (250 + s)) : RuS 200 12 250 rc no' ns' o' φ' cr' mr' t15 t16 t17 := by
  intro k hk
  obtain ⟨so, sy, j1, j2, a1, a2, a3, a4, a5, a6, a7, a8, a9⟩ := H k hk
  obtain ⟨e1, e2⟩ := ec k hk
  obtain ⟨f1, f2, f3⟩ := es sy a2
  obtain ⟨g1, g2⟩ := eo j1 a3
  obtain ⟨g3, g4⟩ := eo j2 a4
  exact ⟨so, sy, j1, j2, a1, by omega, by omega, by omega, by rw [e1, g1, g2, g3, g4]; exact a5, by rw [e2]; exact a6, by rw [f1]; exact a7, by rw [f2, g1]; exact a8, by rw [f3, g3]; exact a9⟩
theorem QuS_mono {qc no no' : Nat} {o φ o' φ' : Nat → Nat} {cq mq cq' mq' : Nat → Int32} (H : QuS 200 12 qc no o φ cq mq) (h1 : no ≤ no') (eo : ∀ j, j < no → o' j = o j ∧ φ' (o j) = φ (o j)) (ec : ∀ k, k < qc → cq' k = cq k ∧ mq' (12 + k) = mq (12 + k)) : QuS 200 12 qc no' o' φ' cq' mq' := by
  intro k hk
  obtain ⟨j, a1, a2, a3⟩ := H k hk
  obtain ⟨e1, e2⟩ := ec k hk
  obtain ⟨g1, g2⟩ := eo j a1
  exact ⟨j, by omega, by rw [e1, g1, g2]; exact a2, by rw [e2, g1]; exact a3⟩
theorem StS_mono {ns no no' nr nr' sz : Nat} {o φ wt pl rl o' φ' wt' pl' rl' tl tl' : Nat → Nat} {cs s15 s16 s17 cs' t15 t16 t17 : Nat → Int32} (H : StS 200 250 ns no nr o φ wt pl rl tl cs s15 s16 s17) (h1 : no ≤ no') (h2 : nr ≤ nr') (hz : ∀ j, j < no → φ (o j) < sz) (eo : ∀ j, j < no → o' j = o j ∧ φ' (o j) = φ (o j)) (ew : ∀ c, c < sz → wt' c = wt c ∧ pl' c = pl c) (er : ∀ r, r < nr → rl' r = rl r) (es : ∀ s, s < ns → cs' s = cs s ∧ t15 (250 + s) = s15 (250 + s) ∧ t16 (250 + s) = s16 (250 + s) ∧ t17 (250 + s) = s17 (250 + s)) (et : ∀ s, s ≤ ns → tl' s = tl s) : StS 200 250 ns no' nr' o' φ' wt' pl' rl' tl' cs' t15 t16 t17 := by
  intro s hs
  obtain ⟨e0, e1, e2, e3⟩ := es s hs
  have t0 := et s (by omega)
  have t1 := et (s + 1) (by omega)
  rcases H s hs with ⟨so, j1, j2, a1, a2, a3, a4, a5, a6, a7, a8, a9, a10⟩ | ⟨j1, a2, a4, a5, a6, a8, a10⟩ | ⟨r, r', a1, a2, a4, a5, a6, a7, a10⟩ | ⟨r, a1, a4, a5, a6, a10⟩
  · obtain ⟨g1, g2⟩ := eo j1 a2
    obtain ⟨g3, g4⟩ := eo j2 a3
    obtain ⟨w1, w2⟩ := ew _ (hz j1 a2)
    obtain ⟨w3, w4⟩ := ew _ (hz j2 a3)
    exact Or.inl ⟨so, j1, j2, a1, by omega, by omega, by rw [e0, g1, g2, g3, g4]; exact a4, by rw [e1]; exact a5, by rw [e2, g1]; exact a6, by rw [e3, g3]; exact a7, by rw [g1, g2, w1]; exact a8, by rw [g3, g4, w3]; exact a9, by rw [t0, t1, g1, g2, g3, g4, w2, w4]; exact a10⟩
  · obtain ⟨g1, g2⟩ := eo j1 a2
    obtain ⟨w1, w2⟩ := ew _ (hz j1 a2)
    exact Or.inr (Or.inl ⟨j1, by omega, by rw [e0, g1, g2]; exact a4, by rw [e1]; exact a5, by rw [e2, g1]; exact a6, by rw [g1, g2, w1]; exact a8, by rw [t0, t1, g1, g2, w2]; exact a10⟩)
  · exact Or.inr (Or.inr (Or.inl ⟨r, r', by omega, by omega, by rw [e0]; exact a4, by rw [e1]; exact a5, by rw [e2]; exact a6, by rw [e3]; exact a7, by rw [t0, t1, er r a1, er r' a2]; exact a10⟩))
  · exact Or.inr (Or.inr (Or.inr ⟨r, by omega, by rw [e0]; exact a4, by rw [e1]; exact a5, by rw [e2]; exact a6, by rw [t0, t1, er r a1]; exact a10⟩))
/-- one statement's outcome, of both -/
def StO (n : Nat) (tx : Nat → Int32) (fr : Nat) (iR iM : Nat → Int32) (aM : Nat → Nat → Int32) (q : Option ((Nat → Int32) × (Nat → Int32) × Int64 × (Nat → Int32) × (Nat → Nat → Int64) × (Nat → Nat → Int32) × (Nat → Int32) × (Nat → Nat → Int32))) (r : Option ((Nat → Int32) × (Nat → Nat → Int32))) : Prop := (∃ (S Od G nx' fr' nd no sz na nn nr ns rc qc : Nat) (o φ wt pl tl : Nat → Nat) (iT' : Nat → Int32) (wT' : Int64) (iB' : Nat → Int32) (lB' : Nat → Nat → Int64) (aB' : Nat → Nat → Int32) (iC' : Nat → Int32) (aC' : Nat → Nat → Int32) (X : Nat → Int32) (Y : Nat → Nat → Int32), q = some (iR, iT', wT', iB', lB', aB', iC', aC') ∧ r = some (X, Y) ∧ fr < fr' ∧ BkS n tx S Od G nx' fr' nd no sz na nn nr ns rc qc o φ wt pl tl iT' wT' iB' lB' aB' iC' aC' X Y ∧ FrI tcs iM X ∧ FrA tas aM Y) ∨ (∃ (F p : Nat) (iR' : Nat → Int32) (z : (Nat → Int32) × Int64 × (Nat → Int32) × (Nat → Nat → Int64) × (Nat → Nat → Int32) × (Nat → Int32) × (Nat → Nat → Int32)) (X : Nat → Int32) (Y : Nat → Nat → Int32), q = some (iR', z) ∧ r = some (X, Y) ∧ 1 ≤ F ∧ F ≤ 6 ∧ p ≤ 2000 ∧ iR' 3 = nI F ∧ iR' 4 = nI p ∧ X 46 = nI F ∧ X 47 = nI p ∧ FrI tcs iM X ∧ FrA tas aM Y)
