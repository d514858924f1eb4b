/-! a class node with an atom made, the model's atom looked up -/
theorem mk_at {N sz nn nr na K x : Nat} {wt pl nl rl : Nat → Nat} {v1 v2 r nm p t nd m12x i47 : Int32} {c0 c1 c2 c3 c5 c6 c7 c8 m11 m32 m33 m34 m35 : Nat → Int32} {found : Nat → Prop} {q' : Option (Int32 × Int32 × Int32 × (Nat → Int32) × (Nat → Int32) × (Nat → Int32) × (Nat → Int32) × (Nat → Int32))} (hN : 100000 ≤ N) (hz : sz < 200) (hnn : nn ≤ 5) (hnr : nr ≤ 3) (hna : na ≤ 9) (H : ClS sz nn nr na wt pl nl rl c0 c1 c2 c3 c5 c6 c7 c8) (hK : K = 0 ∨ K = 4 ∨ K = 5) (h1 : 3 ≤ K → ∃ l : Nat, l < sz ∧ v1 = nI l) (h0 : K = 0 → (∃ a : Nat, a < nn ∧ v1 = nI a) ∧ v2 = nI 0) (h45 : K = 4 ∨ K = 5 → ∃ r : Nat, r < nr ∧ v2 = nI r) (hmk : f_C_find N (nI K) v1 v2 (nI sz) c0 c1 c2 = some (-1) → f_C_make N (nI K) v1 v2 (nI sz) (nI na) c0 c1 c2 c3 c5 c6 c7 c8 = (f_C_atomFor N r nm p t (nI na) c5 c6 c7 c8).bind (fun q => if q.1 = -1 then some (-1, nI sz, q.2.1, c0, c1, c2, c3, q.2.2.1, q.2.2.2.1, q.2.2.2.2.1, q.2.2.2.2.2) else some (nI sz, nI (sz + 1), q.2.1, upd c0 sz (nI K), upd c1 sz v1, upd c2 sz v2, upd c3 sz q.1, q.2.2.1, q.2.2.2.1, q.2.2.2.2.1, q.2.2.2.2.2))) (hkn : ∀ c, c < sz → c0 c = nI K → c1 c = v1 → c2 c = v2 → ∃ y : Nat, y < na ∧ c3 c = nI y ∧ c5 y = r ∧ c6 y = nm ∧ c7 y = p ∧ c8 y = t) (hA1 : ∀ (d5 d6 d7 d8 : Nat → Int32) (na' ka : Nat), ka < na' → d5 ka = r → d6 ka = nm → d7 ka = p → d8 ka = t → (K = 0 → ∃ y : Nat, y < na' ∧ nI ka = nI y ∧ d5 y = -1 ∧ d6 y = v1) ∧ (K = 4 ∨ K = 5 → ∃ y l p t : Nat, y < na' ∧ l < sz ∧ v1 = nI l ∧ KeyOf c0 c1 K l p t ∧ nI ka = nI y ∧ d5 y = v2 ∧ d7 y = nI p ∧ d8 y = nI t)) (h' : Mfr na x r nm nd t m12x i47 m11 m32 m33 m34 m35 found q') (hf : ∀ k, k < na → (found k ↔ c5 k = r ∧ c6 k = nm ∧ c7 k = p ∧ c8 k = t)) : (∃ (na' ka : Nat) (d5 d6 d7 d8 l32 l33 l34 l35 : Nat → Int32) (q : Option (Int32 × Int32 × (Nat → Int32) × (Nat → Int32) × (Nat → Int32) × (Nat → Int32))) (c sz' : Nat) (wt' pl' : Nat → Nat) (d0 d1 d2 d3 : Nat → Int32), AtJ na x na' ka r nm p t nd i47 c5 c6 c7 c8 m11 m32 m33 m34 m35 d5 d6 d7 d8 l32 l33 l34 l35 q q' ∧ MkO N K sz nn nr na wt pl nl rl v1 v2 c0 c1 c2 c3 c5 c6 c7 c8 na' d5 d6 d7 d8 c sz' wt' pl' d0 d1 d2 d3 ∧ d3 c = nI ka) ∨ (q' = some (nI na, 5, m12x, m11, m32, m33, m34, m35) ∧ f_C_make N (nI K) v1 v2 (nI sz) (nI na) c0 c1 c2 c3 c5 c6 c7 c8 = some (-1, nI sz, nI na, c0, c1, c2, c3, c5, c6, c7, c8)) := by
  have kk : K < 8 := by clear h1 h0 h45 hA1 hkn hf; omega
  have n6 : ¬ 6 ≤ K := by clear h1 h0 h45 hA1 hkn hf; omega
  have n12 : ¬ (K = 1 ∨ K = 2) := by clear h1 h0 h45 hA1 hkn hf; omega
  have n3 : ¬ K = 3 := by clear h1 h0 h45 hA1 hkn hf; omega
  rcases mk_find (N := N) (K := K) (a2 := v1) (a3 := v2) (c0 := c0) (c1 := c1) (c2 := c2) hN (Nat.le_of_lt hz) with ⟨c, q1, q2, q3, q4, q5⟩ | ⟨q1, q2⟩
  · obtain ⟨y, y1, y2, y5, y6, y7, y8⟩ := hkn c q1 q2 q3 q4
    rcases at_join hna H.2.2.1 (Or.inl ⟨y, y1, y5, y6, y7, y8, rfl⟩) h' hf with ⟨na', ka, d5, d6, d7, d8, l32, l33, l34, l35, J⟩ | ⟨g, -⟩
    · have e := J.1
      have e1 := congrArg (fun z => z.map (fun q => q.1)) e
      have e2 := congrArg (fun z => z.map (fun q => q.2.1)) e
      have e3 := congrArg (fun z => z.map (fun q => q.2.2.1)) e
      have e4 := congrArg (fun z => z.map (fun q => q.2.2.2.1)) e
      have e5 := congrArg (fun z => z.map (fun q => q.2.2.2.2.1)) e
      have e6 := congrArg (fun z => z.map (fun q => q.2.2.2.2.2)) e
      simp only [Option.map_some, Option.some.injEq] at e1 e2 e3 e4 e5 e6
      have f1 : y = ka := (nI_eq (by omega) (by have := J.2.2.1; have := J.2.2.2.2.1; omega)).mp e1
      have f2 : na = na' := (nI_eq (by omega) (by have := J.2.2.2.2.1; omega)).mp e2
      subst f1 f2 e3 e4 e5 e6
      exact Or.inl ⟨na, y, c5, c6, c7, c8, l32, l33, l34, l35, _, c, sz, wt, pl, c0, c1, c2, c3, J, ⟨mk_known (by omega) q5, Nat.le_refl _, by omega, q1, fun _ h => Or.inl h, fun _ _ => ⟨rfl, rfl, rfl, rfl, rfl, rfl⟩, q2, q3, q4, H⟩, y2⟩
    · have e1 := congrArg (fun z => z.map (fun q => q.1)) g
      simp only [Option.map_some, Option.some.injEq] at e1
      exact absurd e1 (nI_neg1 (by omega))
  · rw [hmk q2]
    rcases at_join hna H.2.2.1 (af_eq (N := N) hN hna) h' hf with ⟨na', ka, d5, d6, d7, d8, l32, l33, l34, l35, J⟩ | ⟨g1, g2⟩
    · obtain ⟨j1, j2, j3, j4, j5, ja, jm, jl, k5, k6, k7, k8, jU, jn⟩ := J
      have A := ClS_add (K := K) (v1 := v1) (v2 := v2) (v3 := nI ka) (na' := na') (d5 := d5) (d6 := d6) (d7 := d7) (d8 := d8) hz hnn hnr H j4 ja jU kk q1 ⟨fun _ => ⟨ka, j3, rfl⟩, h1, fun z => absurd z n6, h0, h45, fun z => absurd z n12, fun z => absurd z n3⟩ (hA1 d5 d6 d7 d8 na' ka j3 k5 k6 k7 k8)
      obtain ⟨wt', pl', e, R⟩ := A
      refine Or.inl ⟨na', ka, d5, d6, d7, d8, l32, l33, l34, l35, _, sz, sz + 1, wt', pl', upd c0 sz (nI K), upd c1 sz v1, upd c2 sz v2, upd c3 sz (nI ka), ⟨j1, j2, j3, j4, j5, ja, jm, jl, k5, k6, k7, k8, jU, jn⟩, ⟨?_, by omega, Nat.le_refl _, by omega, fun a ha => by clear h1 h0 h45 hA1 hkn hf; omega, fun a ha => ⟨up_n (by omega), up_n (by omega), up_n (by omega), up_n (by omega), (e a ha).1, (e a ha).2⟩, up_s, up_s, up_s, R⟩, up_s⟩
      rw [hmk q2, j1, Option.bind_some]
      show (if nI ka = -1 then _ else _) = _
      rw [if_neg (nI_neg1 (by omega))]
    · refine Or.inr ⟨g2, ?_⟩
      rw [g1, Option.bind_some]
      rfl
