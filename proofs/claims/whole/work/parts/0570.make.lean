/-! the class makes a node; the model's atom of a some, an every -/
theorem fA_eq {N no sz nn nr na x j K p t : Nat} {o φ : Nat → Nat} {k8 k9 k10 k11 k12 k13 c0 c1 c2 c3 m32 m33 m34 m35 a50 a51 : Nat → Int32} {i47 : Int32} (hz : sz ≤ 200) (hx : x < 200) (H : RNd 200 no sz o φ k8 k9 k10 k11 k13 c0 c1 c2 c3) (hK : K = 4 ∨ K = 5) (e8 : k8 (200 + x) = nI K) (hj : j < no) (e10 : k10 (200 + x) = nI (200 + o j)) (hk : KeyOf c0 c1 K (φ (o j)) p t) : ∃ jp, jp < no ∧ φ (o jp) = p ∧ f_M_findAtom N (nI (200 + x)) (nI na) 0 i47 k8 k9 k10 k11 k12 m32 m33 m34 m35 a50 a51 = f_M_findAtom_72 N (nI na) 0 i47 k8 k9 k10 k11 k12 m32 m33 m34 m35 a50 a51 (nI (200 + x)) (nI t) (nI (200 + o jp)) N (0 : Int32) k11 a50 a51 := by
  have gx : ¬ (nI (200 + x) < 0 ∨ 400 ≤ 200 + x) := nI_gc (by omega) (by decide)
  have cx : (nI (200 + x)).toNatClampNeg = 200 + x := nI_cl (by omega)
  -- the part of a not
  have st : ∀ i, i < no → c0 (φ (o i)) = nI 3 → k8 (200 + o i) = nI 3 ∧ ∃ i', i' < no ∧ k10 (200 + o i) = nI (200 + o i') ∧ c1 (φ (o i)) = nI (φ (o i')) := fun i hi h0 => by
    obtain ⟨p1, p2, p3, K', hK', p8, p0, p9, p94, p11, p10, p96⟩ := H i hi
    have : K' = 3 := ((nI_eq (by omega) (by omega)).mp (h0.symm.trans p0)).symm
    subst this
    obtain ⟨i', u1, u2, u3⟩ := p10 (by omega)
    rw [if_pos (by decide)] at u3
    exact ⟨p8, i', by omega, u2, u3⟩
  have ns : ∀ i, i < no → ¬ c0 (φ (o i)) = nI 3 → ¬ k8 (200 + o i) = (3 : Int32) := fun i hi h0 z => by
    obtain ⟨p1, p2, p3, K', hK', p8, p0, -⟩ := H i hi
    rw [p8] at z
    exact h0 (p0.trans z)
  have lo : ∀ i, i < no → φ (o i) < 200 := fun i hi => Nat.lt_of_lt_of_le (H i hi).2.2.1 hz
  have goo : ∀ i, i < no → ¬ (nI (200 + o i) < 0 ∨ 400 ≤ 200 + o i) := fun i hi => nI_gc (by have := (H i hi).1; omega) (by decide)
  have co : ∀ i, i < no → (nI (200 + o i)).toNatClampNeg = 200 + o i := fun i hi => nI_cl (by have := (H i hi).1; omega)
  have h46 : ∀ i t1, i < no → t1 ≤ 1 → ((t1 = 0 ∧ c0 (φ (o i)) = nI 3 ∧ c1 (φ (o i)) = nI p ∧ p < φ (o i) ∧ t = 1) ∨ (¬ (t1 = 0 ∧ c0 (φ (o i)) = nI 3) ∧ p = φ (o i) ∧ t = t1)) → ∃ jp, jp < no ∧ φ (o jp) = p ∧ f_M_findAtom_46 N (nI na) 0 i47 k8 k9 k10 k11 k12 m32 m33 m34 m35 a50 a51 (nI (200 + x)) (nI t1) (nI (200 + o i)) = f_M_findAtom_72 N (nI na) 0 i47 k8 k9 k10 k11 k12 m32 m33 m34 m35 a50 a51 (nI (200 + x)) (nI t) (nI (200 + o jp)) N (0 : Int32) k11 a50 a51 := by
    intro i t1 hi ht1 h
    unfold f_M_findAtom_46
    rw [co i hi]
    rcases h with ⟨q1, q2, q3, q4, q5⟩ | ⟨q1, q2, q3⟩
    · obtain ⟨w8, i', w1, w2, w3⟩ := st i hi q2
      have e : φ (o i') = p := (nI_eq (by have := lo i' w1; omega) (by have := lo i hi; omega)).mp (w3.symm.trans q3)
      rw [q1, if_pos (show nI 0 = (0 : Int32) from rfl), if_neg (goo i hi), if_pos (show k8 (200 + o i) = (3 : Int32) from w8), w2, q5]
      exact ⟨i', w1, e, rfl⟩
    · rw [q3]
      refine ⟨i, hi, q2.symm, ?_⟩
      by_cases z : t1 = 0
      · rw [z, if_pos (show nI 0 = (0 : Int32) from rfl), if_neg (goo i hi), if_neg (ns i hi (fun y => q1 ⟨z, y⟩))]
      · rw [if_neg (show ¬ nI t1 = (0 : Int32) from fun y => z ((nI_eq (b := 0) (by omega) (by omega)).mp y))]
  obtain ⟨l1, t1, h1, h2⟩ := hk
  have hl1 : (K = 5 ∧ c0 (φ (o j)) = nI 3 ∧ ∃ i', i' < no ∧ k10 (200 + o j) = nI (200 + o i') ∧ φ (o i') = l1 ∧ t1 = 0) ∨ (¬ (K = 5 ∧ c0 (φ (o j)) = nI 3) ∧ l1 = φ (o j) ∧ t1 = (if K = 5 then 1 else 0)) := by
    rcases h1 with ⟨a1, a2, a3, a4, a5⟩ | h1
    · obtain ⟨w8, i', w1, w2, w3⟩ := st j hj a2
      exact Or.inl ⟨a1, a2, i', w1, w2, (nI_eq (by have := lo i' w1; omega) (by have := lo j hj; omega)).mp (w3.symm.trans a3), a5⟩
    · exact Or.inr h1
  unfold f_M_findAtom f_M_findAtom_15
  rw [cx, if_neg gx, e8]
  rcases hK with e | e
  · subst e
    rcases hl1 with ⟨a1, -⟩ | ⟨a1, a2, a3⟩
    · exact absurd a1 (by decide)
    · rw [if_neg (show ¬ nI 4 = (5 : Int32) by decide), if_neg gx, if_pos rfl, e10]
      rw [if_neg (by decide)] at a3
      subst a3
      rw [a2] at h2
      exact h46 j 0 hj (by omega) h2
  · subst e
    rw [if_pos (show nI 5 = (5 : Int32) from rfl), if_neg gx, if_neg i1z, e10, co j hj, if_neg (goo j hj)]
    rcases hl1 with ⟨a1, a2, i', w1, w2, w3, w4⟩ | ⟨a1, a2, a3⟩
    · obtain ⟨w8, -⟩ := st j hj a2
      rw [if_pos (show k8 (200 + o j) = (3 : Int32) from w8), w2]
      subst w4
      rw [← w3] at h2
      exact h46 i' 0 w1 (by omega) h2
    · rw [if_neg (ns j hj (fun z => a1 ⟨rfl, z⟩))]
      rw [if_pos rfl] at a3
      subst a3
      rw [a2] at h2
      exact h46 j 1 hj (by omega) h2
/-! make -/
theorem mk_find {N sz K : Nat} {a2 a3 : Int32} {c0 c1 c2 : Nat → Int32} (hN : 100000 ≤ N) (hz : sz ≤ 200) : (∃ c : Nat, c < sz ∧ c0 c = nI K ∧ c1 c = a2 ∧ c2 c = a3 ∧ f_C_find N (nI K) a2 a3 (nI sz) c0 c1 c2 = some (nI c)) ∨ ((∀ c, c < sz → ¬ (c0 c = nI K ∧ c1 c = a2 ∧ c2 c = a3)) ∧ f_C_find N (nI K) a2 a3 (nI sz) c0 c1 c2 = some (-1)) := by
  obtain ⟨v, v1, v2⟩ := find_eq (s := nI K) (l := a2) (r := a3) (f0 := c0) (f1 := c1) (f2 := c2) hN hz
  rcases v2 with ⟨c, h1, h2, h3, -⟩ | ⟨h1, h2⟩
  · exact Or.inl ⟨c, h1, h3.1, h3.2.1, h3.2.2, by rw [v1, h2]⟩
  · exact Or.inr ⟨h2, by rw [v1, h1]⟩
theorem mk_known {N sz na K c : Nat} {a2 a3 : Int32} {c0 c1 c2 c3 c5 c6 c7 c8 : Nat → Int32} (hc : c < 200) (h : f_C_find N (nI K) a2 a3 (nI sz) c0 c1 c2 = some (nI c)) : f_C_make N (nI K) a2 a3 (nI sz) (nI na) c0 c1 c2 c3 c5 c6 c7 c8 = some (nI c, nI sz, nI na, c0, c1, c2, c3, c5, c6, c7, c8) := by
  unfold f_C_make
  rw [h, Option.bind_some, if_neg (nI_neg1 (by omega))]
theorem mk_136 {N sz K : Nat} {na' a2 a3 at' : Int32} {i9 : Int32} {c0 c1 c2 c3 c5 c6 c7 c8 d5 d6 d7 d8 : Nat → Int32} (hz : sz < 200) : f_C_make_136 N (nI sz) i9 c0 c1 c2 c3 c5 c6 c7 c8 (nI K) a2 a3 at' na' d5 d6 d7 d8 = some (nI sz, nI (sz + 1), na', upd c0 sz (nI K), upd c1 sz a2, upd c2 sz a3, upd c3 sz at', d5, d6, d7, d8) := by
  unfold f_C_make_136
  rw [if_neg (nI_g hz (by decide)), nI_m, nI_pred, nI_cl (by omega)]
theorem mk_plain {N sz na K : Nat} {a2 a3 : Int32} {c0 c1 c2 c3 c5 c6 c7 c8 : Nat → Int32} (hz : sz < 200) (hK : K = 1 ∨ K = 2 ∨ K = 3 ∨ K = 6 ∨ K = 7) (h : f_C_find N (nI K) a2 a3 (nI sz) c0 c1 c2 = some (-1)) : f_C_make N (nI K) a2 a3 (nI sz) (nI na) c0 c1 c2 c3 c5 c6 c7 c8 = some (nI sz, nI (sz + 1), nI na, upd c0 sz (nI K), upd c1 sz a2, upd c2 sz a3, upd c3 sz (-1), c5, c6, c7, c8) := by
  have h0 : ¬ nI K = (0 : Int32) := by rcases hK with e | e | e | e | e <;> (rw [e]; decide)
  have h4 : ¬ nI K = (4 : Int32) := by rcases hK with e | e | e | e | e <;> (rw [e]; decide)
  have h5 : ¬ nI K = (5 : Int32) := by rcases hK with e | e | e | e | e <;> (rw [e]; decide)
  unfold f_C_make
  rw [h, Option.bind_some, if_pos rfl, if_pos (show nI sz < (200 : Int32) from nI_lt hz (by decide)), if_neg h0, if_neg h4, if_neg h5]
  unfold f_C_make_114
  rw [if_pos rfl, if_neg h0, if_neg h4, if_neg h5, mk_136 hz]
/-- where an atom was sought -/
theorem mk_114 {N sz K : Nat} {i9 na' a2 a3 at' : Int32} {c0 c1 c2 c3 c5 c6 c7 c8 d5 d6 d7 d8 : Nat → Int32} (hz : sz < 200) (hK : K = 0 ∨ K = 4 ∨ K = 5) : f_C_make_114 N (nI sz) i9 c0 c1 c2 c3 c5 c6 c7 c8 (nI K) a2 a3 at' na' d5 d6 d7 d8 = if at' = -1 then some (-1, nI sz, na', c0, c1, c2, c3, d5, d6, d7, d8) else some (nI sz, nI (sz + 1), na', upd c0 sz (nI K), upd c1 sz a2, upd c2 sz a3, upd c3 sz at', d5, d6, d7, d8) := by
  unfold f_C_make_114
  by_cases h : at' = -1
  · rw [if_pos h, if_pos h]
    rcases hK with e | e | e
    · rw [e, if_pos (show nI 0 = (0 : Int32) from rfl)]
    · rw [e, if_neg (show ¬ nI 4 = (0 : Int32) by decide), if_pos (show nI 4 = (4 : Int32) from rfl)]
    · rw [e, if_neg (show ¬ nI 5 = (0 : Int32) by decide), if_neg (show ¬ nI 5 = (4 : Int32) by decide), if_pos (show nI 5 = (5 : Int32) from rfl)]
  · rw [if_neg h, if_neg h, mk_136 hz]
theorem mk_name {N sz na : Nat} {a2 : Int32} {c0 c1 c2 c3 c5 c6 c7 c8 : Nat → Int32} (hz : sz < 200) (h : f_C_find N (nI 0) a2 (nI 0) (nI sz) c0 c1 c2 = some (-1)) : f_C_make N (nI 0) a2 (nI 0) (nI sz) (nI na) c0 c1 c2 c3 c5 c6 c7 c8 = (f_C_atomFor N (-1) a2 (-1) 0 (nI na) c5 c6 c7 c8).bind (fun q => if q.1 = -1 then some (-1, nI sz, q.2.1, c0, c1, c2, c3, q.2.2.1, q.2.2.2.1, q.2.2.2.2.1, q.2.2.2.2.2) else some (nI sz, nI (sz + 1), q.2.1, upd c0 sz (nI 0), upd c1 sz a2, upd c2 sz (nI 0), upd c3 sz q.1, q.2.2.1, q.2.2.2.1, q.2.2.2.2.1, q.2.2.2.2.2)) := by
  unfold f_C_make
  rw [h, Option.bind_some, if_pos rfl, if_pos (show nI sz < (200 : Int32) from nI_lt hz (by decide)), if_pos (show nI 0 = (0 : Int32) from rfl)]
  congr 1
  funext q
  exact mk_114 hz (Or.inl rfl)
theorem mk_quant {N sz nn nr na K l p t : Nat} {a3 : Int32} {c0 c1 c2 c3 c5 c6 c7 c8 : Nat → Int32} (hz : sz < 200) (HC : CNd sz nn nr na c0 c1 c2 c3) (hK : K = 4 ∨ K = 5) (hl : l < sz) (hk : KeyOf c0 c1 K l p t) (h : f_C_find N (nI K) (nI l) a3 (nI sz) c0 c1 c2 = some (-1)) : f_C_make N (nI K) (nI l) a3 (nI sz) (nI na) c0 c1 c2 c3 c5 c6 c7 c8 = (f_C_atomFor N a3 (-1) (nI p) (nI t) (nI na) c5 c6 c7 c8).bind (fun q => if q.1 = -1 then some (-1, nI sz, q.2.1, c0, c1, c2, c3, q.2.2.1, q.2.2.2.1, q.2.2.2.2.1, q.2.2.2.2.2) else some (nI sz, nI (sz + 1), q.2.1, upd c0 sz (nI K), upd c1 sz (nI l), upd c2 sz a3, upd c3 sz q.1, q.2.2.1, q.2.2.2.1, q.2.2.2.2.1, q.2.2.2.2.2)) := by
  have hz' : sz ≤ 200 := by omega
  have aor : ∀ l1 t1 : Nat, l1 < sz → t1 ≤ 1 → ((t1 = 0 ∧ c0 l1 = nI 3 ∧ c1 l1 = nI p ∧ p < l1 ∧ t = 1) ∨ (¬ (t1 = 0 ∧ c0 l1 = nI 3) ∧ p = l1 ∧ t = t1)) → f_C_atomOfRole N a3 (nI l1) (nI t1) (nI sz) (nI na) c0 c1 c5 c6 c7 c8 = f_C_atomFor N a3 (-1) (nI p) (nI t) (nI na) c5 c6 c7 c8 := by
    intro l1 t1 h1 ht1 hh
    unfold f_C_atomOfRole f_C_atomOfRole_26
    rcases hh with ⟨q1, q2, q3, q4, q5⟩ | ⟨q1, q2, q3⟩
    · rw [q1, if_pos (show nI 0 = (0 : Int32) from rfl), C_sortOf_eq hz' h1, Option.bind_some, if_pos (show c0 l1 = (3 : Int32) from q2), C_leftOf_eq hz' h1, Option.bind_some, q3, q5]
      show (f_C_atomFor N a3 (-1) (nI p) (nI 1) (nI na) c5 c6 c7 c8).bind _ = _
      cases f_C_atomFor N a3 (-1) (nI p) (nI 1) (nI na) c5 c6 c7 c8 <;> rfl
    · rw [q2, q3]
      by_cases z : t1 = 0
      · rw [z, if_pos (show nI 0 = (0 : Int32) from rfl), C_sortOf_eq hz' h1, Option.bind_some, if_neg (show ¬ c0 l1 = (3 : Int32) from fun y => q1 ⟨z, y⟩)]
        cases f_C_atomFor N a3 (-1) (nI l1) (nI 0) (nI na) c5 c6 c7 c8 <;> rfl
      · rw [if_neg (show ¬ nI t1 = (0 : Int32) from fun y => z ((nI_eq (b := 0) (by omega) (by omega)).mp y))]
        cases f_C_atomFor N a3 (-1) (nI l1) (nI t1) (nI na) c5 c6 c7 c8 <;> rfl
  obtain ⟨l1, t1, g1, g2⟩ := hk
  unfold f_C_make
  rw [h, Option.bind_some, if_pos rfl, if_pos (show nI sz < (200 : Int32) from nI_lt hz (by decide))]
  rcases hK with e | e
  · subst e
    rw [if_neg (show ¬ nI 4 = (0 : Int32) by decide), if_pos (show nI 4 = (4 : Int32) from rfl)]
    rcases g1 with ⟨a1, -⟩ | ⟨a1, a2, a3'⟩
    · exact absurd a1 (by decide)
    · rw [if_neg (by decide)] at a3'
      subst a3'
      rw [a2] at g2
      rw [show (0 : Int32) = nI 0 from rfl, aor l 0 hl (by omega) g2]
      congr 1
      funext q
      exact mk_114 hz (Or.inr (Or.inl rfl))
  · subst e
    rw [if_neg (show ¬ nI 5 = (0 : Int32) by decide), if_neg (show ¬ nI 5 = (4 : Int32) by decide), if_pos (show nI 5 = (5 : Int32) from rfl), C_sortOf_eq hz' hl, Option.bind_some]
    rcases g1 with ⟨a1, a2, a3', a4, a5⟩ | ⟨a1, a2, a3'⟩
    · rw [if_pos (show c0 l = (3 : Int32) from a2)]
      unfold f_C_make_84
      rw [if_neg i1z, C_leftOf_eq hz' hl, Option.bind_some, a3']
      subst a5
      rw [show (0 : Int32) = nI 0 from rfl, aor l1 0 (by omega) (by omega) g2]
      congr 1
      funext q
      exact mk_114 hz (Or.inr (Or.inr rfl))
    · rw [if_neg (show ¬ c0 l = (3 : Int32) from fun y => a1 ⟨rfl, y⟩)]
      unfold f_C_make_84
      rw [if_pos rfl]
      rw [if_pos rfl] at a3'
      subst a3'
      rw [a2] at g2
      rw [show (1 : Int32) = nI 1 from rfl, aor l 1 hl (by omega) g2]
      congr 1
      funext q
      exact mk_114 hz (Or.inr (Or.inr rfl))
