/-! statements: the state between them, their end -/
def tcs (j : Nat) : Bool := tc j || j == 40 || j == 41 || j == 42
def tas (j : Nat) : Bool := ta j || j == 15 || j == 16 || j == 17 || j == 19 || j == 21 || j == 30
theorem tcs_of {i i' : Nat → Int32} (h : FrI tc i i') : FrI tcs i i' := fun j hj => h j (by
  unfold tcs at hj
  cases e : tc j
  · rfl
  · rw [e] at hj; simp at hj)
theorem tas_of {a a' : Nat → Nat → Int32} (h : FrA ta a a') : FrA tas a a' := ⟨fun j hj => h.1 j (by
  unfold tas at hj
  cases e : ta j
  · rfl
  · rw [e] at hj; simp at hj), h.2⟩
/-- both between two statements, without fault -/
def BkS (n : Nat) (tx : Nat → Int32) (S Od G nx fr nd no sz na nn nr ns rc qc : Nat) (o φ wt pl tl : Nat → Nat) (iT : Nat → Int32) (wT : Int64) (iB : Nat → Int32) (lB : Nat → Nat → Int64) (aB : Nat → Nat → Int32) (iC : Nat → Int32) (aC : Nat → Nat → Int32) (iM : Nat → Int32) (aM : Nat → Nat → Int32) : Prop := PS n tx S Od nx fr nd no sz na nn nr o φ wt pl iT wT iB lB iC aC iM aM ∧ (no = nd ∧ G < 512 ∧ acy G = true ∧ S < 8 ∧ Od < 8) ∧ (iB 13 = nI S ∧ iB 14 = nI Od ∧ iB 7 = nI ns ∧ iM 40 = nI ns ∧ iB 9 = nI rc ∧ iM 41 = nI rc ∧ iB 11 = nI qc ∧ iM 42 = nI qc ∧ rc ≤ 12 ∧ qc ≤ 12) ∧ UnC G (aB 12) ∧ UnM 9 G (aM 30) ∧ RuS 200 12 250 rc no ns o φ (aB 8) (aM 19) (aM 15) (aM 16) (aM 17) ∧ QuS 200 12 qc no o φ (aB 10) (aM 21) ∧ StS 200 250 ns no nr o φ wt pl (rlM aM) tl (aB 6) (aM 15) (aM 16) (aM 17) ∧ (tl 0 = 0 ∧ (∀ s, s < ns → tl s ≤ tl (s + 1)) ∧ 9 * ns ≤ fr + 9 * (rc + qc) ∧ tl ns ≤ fr + ns + 2 * rc + 2 * nd)
/-- a statement's end, of both -/
theorem end_eq {N n nx fr : Nat} {tx iT iM : Nat → Int32} {aM : Nat → Nat → Int32} {wT : Int64} {r3 r4 i47 : Int32} (hN : 100000 ≤ N) (H : TkS n tx nx fr iT wT iM aM) : (wT = lN 59 ∧ iM 3 = 2 ∧ ∃ (fr' nx' : Nat) (c4' : Int32) (w' : Int64) (k3 k5 k6 : Int32), f_R_takeEnd N r3 r4 (iT 1) (iT 2) (iT 3) (iT 4) wT tx = some (1, r3, r4, nI nx', nI fr', c4', w') ∧ f_M_take N 59 (iM 1) (iM 2) (iM 3) (iM 4) (iM 5) (iM 6) 0 i47 (aM 0) = some (nI nx', k3, nI fr', k5, k6, 0, i47) ∧ Tok n tx nx' fr' c4' w' k3 k5 k6 ∧ fr + 1 ≤ fr') ∨ (∃ F : Nat, 1 ≤ F ∧ F ≤ 6 ∧ f_R_takeEnd N r3 r4 (iT 1) (iT 2) (iT 3) (iT 4) wT tx = some (0, nI F, nI fr, iT 2, iT 3, iT 4, wT) ∧ f_M_take N 59 (iM 1) (iM 2) (iM 3) (iM 4) (iM 5) (iM 6) 0 i47 (aM 0) = some (iM 2, iM 3, iM 4, iM 5, iM 6, nI F, nI fr)) := by
  obtain ⟨t1, t2, t3, t4, t5, t6, tR, tW, tT⟩ := H
  have S59 := w_sign tT (s := 59) (by omega)
  unfold f_R_takeEnd f_M_take
  rw [M_fine0, Option.bind_some, if_neg i1z]
  by_cases h : wT = lN 59
  · obtain ⟨s1, s2⟩ := S59.1.mp h
    obtain ⟨s3, s4⟩ := S59.2 h
    have sg : f_M_isSignHere 59 (iM 3) (iM 6) = some 1 := by
      unfold f_M_isSignHere
      rw [if_pos s1, s2]
      rfl
    obtain ⟨fr', nx', c4', w', k3, k5, k6, q1, q2, q3, q4⟩ := tok_step (N := N) (o3 := nI fr) (o4 := iT 4) (m3 := iM 3) (m4 := nI fr) (m5 := iM 5) (m6 := iM 6) (ow := wT) hN tR tT.2.1
    refine Or.inl ⟨h, s1, fr', nx', c4', w', k3, k5, k6, ?_, ?_, q3, by omega⟩
    · rw [if_pos (show wT = (59 : Int64) from h), t1, t3, t5, q1, Option.bind_some]
    · rw [sg, Option.bind_some, if_neg i1z, t2, t4, t6, q2, Option.bind_some]
  · have sg : f_M_isSignHere 59 (iM 3) (iM 6) = some 0 := by
      unfold f_M_isSignHere
      by_cases h' : iM 3 = 2
      · rw [if_pos h', if_neg (show ¬ iM 6 = (59 : Int32) from fun z => h (S59.1.mpr ⟨h', z⟩))]
      · rw [if_neg h']
    obtain ⟨F, F1, F2, F3, F4⟩ := tT.misp
    refine Or.inr ⟨F, F1, F2, ?_, ?_⟩
    · rw [if_neg (show ¬ wT = (59 : Int64) from h), R_misp, Option.bind_some, F3, t5]
    · rw [sg, Option.bind_some, if_pos rfl, M_misp, Option.bind_some, F4, t6]
theorem take_bad {N F : Nat} {i1 i2 i3 i4 i5 i6 i47 : Int32} {a0 : Nat → Int32} (h1 : 1 ≤ F) (h6 : F ≤ 6) : f_M_take N 59 i1 i2 i3 i4 i5 i6 (nI F) i47 a0 = some (i2, i3, i4, i5, i6, nI F, i47) := by
  unfold f_M_take
  rw [fine_bad h1 h6, Option.bind_some, if_pos rfl]
