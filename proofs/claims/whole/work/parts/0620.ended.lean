/-! a node more has ended -/
def oAd (o : Nat → Nat) (no x : Nat) : Nat → Nat := fun j => if j = no then x else o j
def φAd (φ : Nat → Nat) (x c : Nat) : Nat → Nat := fun y => if y = x then c else φ y
theorem NdS_end {nd no sz na nn nr nn' nr' x c sz' na' : Nat} {o φ wt pl wt' pl' : Nat → Nat} {iB iC iB' iC' iM X : Nat → Int32} {aC aC' aM Y : Nat → Nat → Int32} (H : NdS nd no sz na nn nr o φ wt pl iB iC aC iM aM) (hx : x < nd) (hne : ∀ j, j < no → o j ≠ x) (hno : no < nd) (hsz : sz ≤ sz') (hsz' : sz' ≤ nd) (hna' : na' ≤ 9) (hc : c < sz') (hac : ∀ a, a < sz' → a < sz ∨ a = c) (eC : iC' 4 = nI sz' ∧ iC' 9 = nI na') (ea : ∀ a, a < sz → aC' 0 a = aC 0 a ∧ aC' 1 a = aC 1 a ∧ aC' 2 a = aC 2 a ∧ aC' 3 a = aC 3 a ∧ wt' a = wt a ∧ pl' a = pl a) (CS : ClS sz' nn' nr' na' wt' pl' (nlM Y) (rlM Y) (aC' 0) (aC' 1) (aC' 2) (aC' 3) (aC' 5) (aC' 6) (aC' 7) (aC' 8)) (eX : iB' 1 = iB 1 ∧ X 38 = iM 38 ∧ X 39 = nI (no + 1) ∧ X 45 = nI na') (em : ∀ j, j < no → Y 8 (200 + o j) = aM 8 (200 + o j) ∧ Y 9 (200 + o j) = aM 9 (200 + o j) ∧ Y 10 (200 + o j) = aM 10 (200 + o j) ∧ Y 11 (200 + o j) = aM 11 (200 + o j) ∧ Y 13 (200 + j) = aM 13 (200 + j)) (e13 : Y 13 (200 + no) = nI (200 + x)) (AT : AtR 200 9 na' no nn' nr' o φ (aC' 5) (aC' 6) (aC' 7) (aC' 8) (Y 32) (Y 33) (Y 34) (Y 35)) (hn : ∃ K : Nat, K < 8 ∧ Y 8 (200 + x) = nI K ∧ aC' 0 c = nI K ∧ (K = 0 → Y 9 (200 + x) = aC' 1 c) ∧ (K = 4 ∨ K = 5 → Y 9 (200 + x) = aC' 2 c) ∧ (K = 0 ∨ K = 4 ∨ K = 5 → Y 11 (200 + x) = aC' 3 c) ∧ (3 ≤ K → ∃ i, i < no ∧ Y 10 (200 + x) = nI (200 + o i) ∧ (if K < 6 then aC' 1 else aC' 2) c = nI (φ (o i))) ∧ (6 ≤ K → ∃ i, i < no ∧ Y 9 (200 + x) = nI (200 + o i) ∧ aC' 1 c = nI (φ (o i)))) (hw : wt' c ≤ nd) (hnm : ∀ a, a < nn' → ∃ c, c < sz' ∧ aC' 0 c = nI 0 ∧ aC' 1 c = nI a) : NdS nd (no + 1) sz' na' nn' nr' (oAd o no x) (φAd φ x c) wt' pl' iB' iC' aC' X Y := by
  obtain ⟨n1, n2, n3, n4, n5, n6, n7, n8, n9, n10, n11, n12, n13, n14, n15, n16⟩ := H
  obtain ⟨e1, e2, e3, e4⟩ := eX
  refine ⟨n1, by omega, hsz', hna', by rw [e1]; exact n5, by rw [e2]; exact n6, e3, eC.1, eC.2, e4, fun j hj => ?_, ?_, ?_, CS, fun a ha => ?_, hnm⟩
  · show (if j = no then x else o j) < nd
    by_cases e : j = no
    · rw [if_pos e]; exact hx
    · rw [if_neg e]; exact n11 j (by omega)
  · exact RNd_add n12 hsz (fun a ha => ⟨(ea a ha).1, (ea a ha).2.1, (ea a ha).2.2.1, (ea a ha).2.2.2.1⟩) (by omega) hne em e13 hc hn
  · exact AtR_mono AT (Nat.le_succ no) (Nat.le_refl _) (Nat.le_refl _) (fun j hj => ⟨if_neg (by omega), if_neg (hne j hj)⟩) (fun _ _ => ⟨rfl, rfl, rfl, rfl⟩) (fun _ _ => ⟨rfl, rfl, rfl, rfl⟩)
  · rcases hac a ha with h | h
    · rw [(ea a h).2.2.2.2.1]; exact n15 a h
    · rw [h]; exact hw
/-- a node more is begun -/
theorem NdS_new {nd no sz na nn nr K : Nat} {o φ wt pl : Nat → Nat} {iB iC iB' iM X : Nat → Int32} {aC aM Y : Nat → Nat → Int32} {u9 u10 u11 : Int32} (H : NdS nd no sz na nn nr o φ wt pl iB iC aC iM aM) (h : nd < 200) (eX : iB' 1 = nI (nd + 1) ∧ X 38 = nI (nd + 1) ∧ X 39 = iM 39 ∧ X 45 = iM 45) (e8 : Y 8 = upd (aM 8) (200 + nd) (nI K)) (e9 : Y 9 = upd (aM 9) (200 + nd) u9) (e10 : Y 10 = upd (aM 10) (200 + nd) u10) (e11 : Y 11 = upd (aM 11) (200 + nd) u11) (e13 : Y 13 = aM 13) (e24 : nlM Y = nlM aM) (e27 : rlM Y = rlM aM) (e32 : Y 32 = aM 32 ∧ Y 33 = aM 33 ∧ Y 34 = aM 34 ∧ Y 35 = aM 35) : NdS (nd + 1) no sz na nn nr o φ wt pl iB' iC aC X Y := by
  obtain ⟨n1, n2, n3, n4, n5, n6, n7, n8, n9, n10, n11, n12, n13, n14, n15, n16⟩ := H
  obtain ⟨x1, x2, x3, x4⟩ := eX
  obtain ⟨y2, y3, y4, y5⟩ := e32
  refine ⟨by omega, by omega, by omega, n4, x1, x2, by rw [x3]; exact n7, n8, n9, by rw [x4]; exact n10, fun j hj => by have := n11 j hj; omega, ?_, ?_, ?_, fun c hc => by have := n15 c hc; omega, n16⟩
  · exact RNd_same n12 (fun _ _ => ⟨rfl, rfl, rfl, rfl⟩) (fun j hj => by
      have := n11 j hj
      rw [e8, e9, e10, e11, e13]
      exact ⟨up_n (by omega), up_n (by omega), up_n (by omega), up_n (by omega), rfl⟩)
  · rw [y2, y3, y4, y5]; exact n13
  · rw [e24, e27]; exact n14
