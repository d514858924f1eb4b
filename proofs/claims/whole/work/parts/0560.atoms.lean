/-! atoms, of both -/
def AtU (na : Nat) (c5 c6 c7 c8 : Nat → Int32) : Prop := ∀ k k', k < na → k' < na → c5 k = c5 k' → c6 k = c6 k' → c7 k = c7 k' → c8 k = c8 k' → k = k'
/-- what X of a some, an every is: its node, and whether it is turned -/
def KeyOf (c0 c1 : Nat → Int32) (K l p t : Nat) : Prop := ∃ l1 t1 : Nat, ((K = 5 ∧ c0 l = nI 3 ∧ c1 l = nI l1 ∧ l1 < l ∧ t1 = 0) ∨ (¬ (K = 5 ∧ c0 l = nI 3) ∧ l1 = l ∧ t1 = (if K = 5 then 1 else 0))) ∧ ((t1 = 0 ∧ c0 l1 = nI 3 ∧ c1 l1 = nI p ∧ p < l1 ∧ t = 1) ∨ (¬ (t1 = 0 ∧ c0 l1 = nI 3) ∧ p = l1 ∧ t = t1))
/-- each node's atom is the right one -/
def ATn (sz na : Nat) (c0 c1 c2 c3 c5 c6 c7 c8 : Nat → Int32) : Prop := ∀ c, c < sz → (c0 c = nI 0 → ∃ x : Nat, x < na ∧ c3 c = nI x ∧ c5 x = -1 ∧ c6 x = c1 c) ∧ (∀ K : Nat, (K = 4 ∨ K = 5) → c0 c = nI K → ∃ x l p t : Nat, x < na ∧ l < c ∧ c1 c = nI l ∧ KeyOf c0 c1 K l p t ∧ c3 c = nI x ∧ c5 x = c2 c ∧ c7 x = nI p ∧ c8 x = nI t)
theorem Key_ex {sz nn nr na K l : Nat} {c0 c1 c2 c3 : Nat → Int32} (HC : CNd sz nn nr na c0 c1 c2 c3) (hl : l < sz) : ∃ p t : Nat, KeyOf c0 c1 K l p t := by
  have st : ∀ a, a < sz → c0 a = nI 3 → ∃ b : Nat, b < a ∧ c1 a = nI b := fun a ha h => by
    obtain ⟨K', hK', k0, -, k1, -⟩ := HC a ha
    have : K' = 3 := ((nI_eq (by omega) (by omega)).mp (h.symm.trans k0)).symm
    exact k1 (by omega)
  have two : ∀ l1 t1 : Nat, l1 < sz → ∃ p t : Nat, ((t1 = 0 ∧ c0 l1 = nI 3 ∧ c1 l1 = nI p ∧ p < l1 ∧ t = 1) ∨ (¬ (t1 = 0 ∧ c0 l1 = nI 3) ∧ p = l1 ∧ t = t1)) := fun l1 t1 h1 => by
    by_cases h : t1 = 0 ∧ c0 l1 = nI 3
    · obtain ⟨b, hb, e⟩ := st l1 h1 h.2
      exact ⟨b, 1, Or.inl ⟨h.1, h.2, e, hb, rfl⟩⟩
    · exact ⟨l1, t1, Or.inr ⟨h, rfl, rfl⟩⟩
  by_cases h : K = 5 ∧ c0 l = nI 3
  · obtain ⟨b, hb, e⟩ := st l hl h.2
    obtain ⟨p, t, q⟩ := two b 0 (by omega)
    exact ⟨p, t, b, 0, Or.inl ⟨h.1, h.2, e, hb, rfl⟩, q⟩
  · obtain ⟨p, t, q⟩ := two l (if K = 5 then 1 else 0) hl
    exact ⟨p, t, l, _, Or.inr ⟨h, rfl, rfl⟩, q⟩
theorem Key_le {K l p t : Nat} {c0 c1 : Nat → Int32} (h : KeyOf c0 c1 K l p t) : p ≤ l ∧ t ≤ 1 := by
  obtain ⟨l1, t1, h1, h2⟩ := h
  have a : l1 ≤ l ∧ t1 ≤ 1 := by
    rcases h1 with ⟨-, -, -, a, b⟩ | ⟨-, a, b⟩
    · omega
    · rw [a, b]; refine ⟨Nat.le_refl _, ?_⟩; split <;> omega
  rcases h2 with ⟨-, -, -, b, c⟩ | ⟨-, b, c⟩ <;> omega
theorem Key_un {K l p t p' t' : Nat} {c0 c1 : Nat → Int32} (hl : l < 200) (h : KeyOf c0 c1 K l p t) (h' : KeyOf c0 c1 K l p' t') : p = p' ∧ t = t' := by
  obtain ⟨l1, t1, h1, h2⟩ := h
  obtain ⟨l1', t1', h1', h2'⟩ := h'
  have e : l1 = l1' ∧ t1 = t1' := by
    rcases h1 with ⟨a1, a2, a3, a4, a5⟩ | ⟨a1, a2, a3⟩
    · rcases h1' with ⟨b1, b2, b3, b4, b5⟩ | ⟨b1, b2, b3⟩
      · exact ⟨(nI_eq (by omega) (by omega)).mp (a3.symm.trans b3), by omega⟩
      · exact absurd ⟨a1, a2⟩ b1
    · rcases h1' with ⟨b1, b2, b3, b4, b5⟩ | ⟨b1, b2, b3⟩
      · exact absurd ⟨b1, b2⟩ a1
      · exact ⟨a2.trans b2.symm, a3.trans b3.symm⟩
  obtain ⟨e1, e2⟩ := e
  subst e1
  subst e2
  have hl1 : l1 < 200 := by
    rcases h1 with ⟨a1, a2, a3, a4, a5⟩ | ⟨a1, a2, a3⟩ <;> omega
  rcases h2 with ⟨a1, a2, a3, a4, a5⟩ | ⟨a1, a2, a3⟩
  · rcases h2' with ⟨b1, b2, b3, b4, b5⟩ | ⟨b1, b2, b3⟩
    · exact ⟨(nI_eq (by omega) (by omega)).mp (a3.symm.trans b3), by omega⟩
    · exact absurd ⟨a1, a2⟩ b1
  · rcases h2' with ⟨b1, b2, b3, b4, b5⟩ | ⟨b1, b2, b3⟩
    · exact absurd ⟨b1, b2⟩ a1
    · omega
theorem Key_same {sz K l p t : Nat} {c0 c1 d0 d1 : Nat → Int32} (hl : l < sz) (e0 : ∀ c, c < sz → d0 c = c0 c) (e1 : ∀ c, c < sz → d1 c = c1 c) (h : KeyOf c0 c1 K l p t) : KeyOf d0 d1 K l p t := by
  obtain ⟨l1, t1, h1, h2⟩ := h
  have hl1 : l1 < sz := by
    rcases h1 with ⟨a1, a2, a3, a4, a5⟩ | ⟨a1, a2, a3⟩ <;> omega
  refine ⟨l1, t1, ?_, ?_⟩
  · rw [e0 l hl, e1 l hl]; exact h1
  · rw [e0 l1 hl1, e1 l1 hl1]; exact h2
/-- the class seeks an atom, or makes it -/
def Afr (na : Nat) (r nm p t : Int32) (c5 c6 c7 c8 : Nat → Int32) (q : Option (Int32 × Int32 × (Nat → Int32) × (Nat → Int32) × (Nat → Int32) × (Nat → Int32))) : Prop := (∃ x : Nat, x < na ∧ c5 x = r ∧ c6 x = nm ∧ c7 x = p ∧ c8 x = t ∧ q = some (nI x, nI na, c5, c6, c7, c8)) ∨ ((∀ x, x < na → ¬ (c5 x = r ∧ c6 x = nm ∧ c7 x = p ∧ c8 x = t)) ∧ ((na < 9 ∧ q = some (nI na, nI (na + 1), upd c5 na r, upd c6 na nm, upd c7 na p, upd c8 na t)) ∨ (na = 9 ∧ q = some (-1, nI na, c5, c6, c7, c8))))
theorem af_loop {N na : Nat} {r nm p t : Int32} {c5 c6 c7 c8 : Nat → Int32} (hna : na ≤ 9) : ∀ (d i k : Nat), k + d = na → d < i → (∀ x, x < k → ¬ (c5 x = r ∧ c6 x = nm ∧ c7 x = p ∧ c8 x = t)) → Afr na r nm p t c5 c6 c7 c8 (f_C_atomFor_3 N (nI na) c5 c6 c7 c8 r nm p t i (nI k)) := by
  intro d
  induction d with
  | zero =>
    intro i k hk hi h
    obtain ⟨i, rfl⟩ : ∃ k, i = k + 1 := ⟨i - 1, by omega⟩
    have ek : k = na := by omega
    subst ek
    rw [f_C_atomFor_3, if_pos (nI_le (Nat.le_refl _) (by omega))]
    refine Or.inr ⟨h, ?_⟩
    by_cases h9 : k < 9
    · rw [if_pos (show nI k < (9 : Int32) from nI_lt h9 (by decide)), if_neg (nI_g h9 (by decide)), nI_m, nI_pred, nI_cl (by omega)]
      exact Or.inl ⟨h9, rfl⟩
    · rw [if_neg (show ¬ nI k < (9 : Int32) from nI_nlt (show 9 ≤ k by omega) (by omega))]
      exact Or.inr ⟨by omega, rfl⟩
  | succ d ih =>
    intro i k hk hi h
    obtain ⟨i, rfl⟩ : ∃ k, i = k + 1 := ⟨i - 1, by omega⟩
    rw [f_C_atomFor_3, if_neg (nI_ge (show k < na by omega) (by omega)), if_neg (nI_g (show k < 9 by omega) (by decide)), nI_cl (by omega), nI_m]
    have go : ¬ (c5 k = r ∧ c6 k = nm ∧ c7 k = p ∧ c8 k = t) → Afr na r nm p t c5 c6 c7 c8 (f_C_atomFor_3 N (nI na) c5 c6 c7 c8 r nm p t i (nI (k + 1))) := fun hn => ih i (k + 1) (by omega) (by omega) (fun x hx => by
      by_cases e : x = k
      · rw [e]; exact hn
      · exact h x (by omega))
    by_cases h5 : c5 k = r
    · rw [if_pos h5]
      by_cases h6 : c6 k = nm
      · rw [if_pos h6]
        by_cases h7 : c7 k = p
        · rw [if_pos h7]
          by_cases h8 : c8 k = t
          · rw [if_pos h8]; exact Or.inl ⟨k, by omega, h5, h6, h7, h8, rfl⟩
          · rw [if_neg h8]; exact go (fun z => h8 z.2.2.2)
        · rw [if_neg h7]; exact go (fun z => h7 z.2.2.1)
      · rw [if_neg h6]; exact go (fun z => h6 z.2.1)
    · rw [if_neg h5]; exact go (fun z => h5 z.1)
theorem af_eq {N na : Nat} {r nm p t : Int32} {c5 c6 c7 c8 : Nat → Int32} (hN : 100000 ≤ N) (hna : na ≤ 9) : Afr na r nm p t c5 c6 c7 c8 (f_C_atomFor N r nm p t (nI na) c5 c6 c7 c8) := by
  unfold f_C_atomFor
  exact af_loop hna na N 0 (by omega) (by omega) (fun x hx => absurd hx (by omega))
/-- the model's atoms after the same -/
def Mfr (na x : Nat) (r nm nd t m12x i47 : Int32) (m11 m32 m33 m34 m35 : Nat → Int32) (found : Nat → Prop) (q : Option (Int32 × Int32 × Int32 × (Nat → Int32) × (Nat → Int32) × (Nat → Int32) × (Nat → Int32) × (Nat → Int32))) : Prop := (∃ k : Nat, k < na ∧ found k ∧ q = some (nI na, 0, i47, upd m11 x (nI k), m32, m33, m34, m35)) ∨ ((∀ k, k < na → ¬ found k) ∧ ((na < 9 ∧ q = some (nI (na + 1), 0, i47, upd m11 x (nI na), upd m32 (9 + na) r, upd m33 (9 + na) nm, upd m34 (9 + na) nd, upd m35 (9 + na) t)) ∨ (na = 9 ∧ q = some (nI na, 5, m12x, m11, m32, m33, m34, m35))))
theorem na_eq {na x : Nat} {r nm nd t i47 : Int32} {m11 m12 m32 m33 m34 m35 : Nat → Int32} (hx : x < 400) (hna : na ≤ 9) (ht : isZ t) : (na < 9 ∧ f_M_newAtom (nI x) r nm nd t (nI na) 0 i47 m11 m12 m32 m33 m34 m35 = some (nI (na + 1), 0, i47, upd m11 x (nI na), upd m32 (9 + na) r, upd m33 (9 + na) nm, upd m34 (9 + na) nd, upd m35 (9 + na) t)) ∨ (na = 9 ∧ f_M_newAtom (nI x) r nm nd t (nI na) 0 i47 m11 m12 m32 m33 m34 m35 = some (nI na, 5, m12 x, m11, m32, m33, m34, m35)) := by
  unfold f_M_newAtom
  by_cases h : na = 9
  · subst h
    rw [if_pos (show nI 9 = (9 : Int32) from rfl), if_neg (nI_g hx (by decide)), nI_cl (by omega), M_wrong0, Option.bind_some]
    exact Or.inr ⟨rfl, rfl⟩
  · have e9 : (9 : Int32) + nI na = nI (9 + na) := by rw [show (9 : Int32) = nI 9 from rfl, nI_add]
    rw [if_neg (show ¬ nI na = (9 : Int32) from fun z => h ((nI_eq (b := 9) (by omega) (by omega)).mp z)), if_neg (nI_g hx (by decide)), e9, if_neg (nI_g (show 9 + na < 18 by omega) (by decide)), nI_cl (show x < 2147483648 by omega), nI_cl (show 9 + na < 2147483648 by omega), nI_m, isZ_n ht]
    exact Or.inl ⟨by omega, rfl⟩
theorem fa_loop {N no sz nn nr na x j r t : Nat} {o φ wt : Nat → Nat} {k8 k9 k10 k11 k12 k13 c0 c1 c2 c3 c5 c6 c7 c8 m32 m33 m34 m35 b11 b50 b51 : Nat → Int32} {i47 : Int32} (hN : 100000 ≤ N) (hz : sz ≤ 200) (hna : na ≤ 9) (hnr : nr ≤ 3) (hx : x < 200) (H : RNd 200 no sz o φ k8 k9 k10 k11 k13 c0 c1 c2 c3) (HC : CNd sz nn nr na c0 c1 c2 c3) (HU : CNu sz c0 c1 c2) (HW : WtE sz c0 c1 c2 wt) (hwt : ∀ c, c < sz → wt c ≤ 200) (HA : AtR 200 9 na no nn nr o φ c5 c6 c7 c8 m32 m33 m34 m35) (hAU : AtU na c5 c6 c7 c8) (hj : j < no) (hr : r < nr) (ht : t ≤ 1) (e9 : k9 (200 + x) = nI r) : ∀ (d i k : Nat) (m11 a50 a51 : Nat → Int32), k + d = na → d < i → ((∃ k0, k0 < k ∧ (c5 k0 = nI r ∧ c7 k0 = nI (φ (o j)) ∧ c8 k0 = nI t) ∧ m11 = upd b11 (200 + x) (nI k0)) ∨ ((∀ k0, k0 < k → ¬ (c5 k0 = nI r ∧ c7 k0 = nI (φ (o j)) ∧ c8 k0 = nI t)) ∧ m11 = b11)) → b11 (200 + x) = -1 → ∃ (a50' a51' : Nat → Int32) (q : Option (Int32 × Int32 × Int32 × (Nat → Int32) × (Nat → Int32) × (Nat → Int32) × (Nat → Int32) × (Nat → Int32))), f_M_findAtom_72 N (nI na) 0 i47 k8 k9 k10 k11 k12 m32 m33 m34 m35 b50 b51 (nI (200 + x)) (nI t) (nI (200 + o j)) i (nI k) m11 a50 a51 = q.bind (fun z => some (z.1, z.2.1, z.2.2.1, z.2.2.2.1, z.2.2.2.2.1, z.2.2.2.2.2.1, z.2.2.2.2.2.2.1, z.2.2.2.2.2.2.2, a50', a51')) ∧ Mfr na (200 + x) (nI r) (-1) (nI (200 + o j)) (nI t) (k12 (200 + x)) i47 b11 m32 m33 m34 m35 (fun k => c5 k = nI r ∧ c7 k = nI (φ (o j)) ∧ c8 k = nI t) q := by
  have tz : isZ (nI t) := by
    have : t = 0 ∨ t = 1 := by omega
    rcases this with e | e <;> (rw [e]; first | exact Or.inl rfl | exact Or.inr rfl)
  have gx : ¬ (nI (200 + x) < 0 ∨ 400 ≤ (nI (200 + x)).toNatClampNeg) := nI_g (show 200 + x < 400 by omega) (by decide)
  have cx : (nI (200 + x)).toNatClampNeg = 200 + x := nI_cl (by omega)
  intro d
  induction d with
  | zero =>
    intro i k m11 a50 a51 hk hi hm h1
    obtain ⟨i, rfl⟩ : ∃ k, i = k + 1 := ⟨i - 1, by omega⟩
    have ek : k = na := by omega
    subst ek
    rw [f_M_findAtom_72, if_pos (nI_le (Nat.le_refl _) (by omega)), if_neg gx, cx]
    rcases hm with ⟨k0, g1, g2, g3⟩ | ⟨g1, g2⟩
    · rw [if_pos (show (0 : Int32) ≤ m11 (200 + x) by rw [g3, up_s]; exact nI_pos' (by omega))]
      exact ⟨a50, a51, some (nI k, 0, i47, m11, m32, m33, m34, m35), rfl, Or.inl ⟨k0, g1, g2, by rw [g3]⟩⟩
    · rw [if_neg (show ¬ (0 : Int32) ≤ m11 (200 + x) by rw [g2, h1]; decide), e9]
      refine ⟨a50, a51, f_M_newAtom (nI (200 + x)) (nI r) (-1) (nI (200 + o j)) (nI t) (nI k) 0 i47 m11 k12 m32 m33 m34 m35, rfl, Or.inr ⟨g1, ?_⟩⟩
      rw [g2]
      exact na_eq (by omega) hna tz
  | succ d ih =>
    intro i k m11 a50 a51 hk hi hm h1
    obtain ⟨i, rfl⟩ : ∃ k, i = k + 1 := ⟨i - 1, by omega⟩
    obtain ⟨a32, a33, ha⟩ := HA k (by omega)
    have e9k : (9 : Int32) + nI k = nI (9 + k) := by rw [show (9 : Int32) = nI 9 from rfl, nI_add]
    rw [f_M_findAtom_72, if_neg (nI_ge (show k < na by omega) (by omega)), e9k, if_neg (nI_g (show 9 + k < 18 by omega) (by decide)), if_neg gx, cx, nI_cl (show 9 + k < 2147483648 by omega), a32, e9, nI_m]
    have skip : ¬ (c5 k = nI r ∧ c7 k = nI (φ (o j)) ∧ c8 k = nI t) → (∃ k0, k0 < k + 1 ∧ (c5 k0 = nI r ∧ c7 k0 = nI (φ (o j)) ∧ c8 k0 = nI t) ∧ m11 = upd b11 (200 + x) (nI k0)) ∨ ((∀ k0, k0 < k + 1 → ¬ (c5 k0 = nI r ∧ c7 k0 = nI (φ (o j)) ∧ c8 k0 = nI t)) ∧ m11 = b11) := fun hn => by
      rcases hm with ⟨k0, g1, g2, g3⟩ | ⟨g1, g2⟩
      · exact Or.inl ⟨k0, by omega, g2, g3⟩
      · refine Or.inr ⟨fun k0 hk0 => ?_, g2⟩
        by_cases e : k0 = k
        · rw [e]; exact hn
        · exact g1 k0 (by omega)
    rcases ha with ⟨h5, -, h7, h8⟩ | ⟨r', hr', h5, h6, j', hj', h7, h34, h35, hz8⟩
    · rw [h5, if_neg (fun z => nI_neg1 (k := r) (by omega) z.symm)]
      exact ih i (k + 1) m11 a50 a51 (by omega) (by omega) (skip (fun z => by rw [h5] at z; exact nI_neg1 (k := r) (by omega) z.1.symm)) h1
    · by_cases e5 : c5 k = nI r
      · rw [if_pos e5, h35]
        by_cases e8 : c8 k = nI t
        · rw [if_pos e8, h34]
          have hf := (H j' hj').2.2.1
          have hf' := (H j hj).2.2.1
          obtain ⟨v, s1, s2, v1, v2, v3⟩ := al_eq (a50 := a50) (a51 := a51) hN hz H HC HU HW hj' hj (hwt _ hf)
          rw [v1, Option.bind_some]
          have key : v = 1 ↔ (c5 k = nI r ∧ c7 k = nI (φ (o j)) ∧ c8 k = nI t) := by
            rw [v3, h7]
            exact ⟨fun q => ⟨e5, by rw [q], e8⟩, fun q => (nI_eq (by omega) (by omega)).mp q.2.1⟩
          rcases v2 with z | z
          · rw [if_pos z]
            exact ih i (k + 1) m11 s1 s2 (by omega) (by omega) (skip (fun q => by rw [key.mpr q] at z; exact absurd z (by decide))) h1
          · rw [if_neg (show ¬ v = 0 by rw [z]; decide)]
            have hk0 := key.mp z
            refine ih i (k + 1) (upd m11 (200 + x) (nI k)) s1 s2 (by omega) (by omega) (Or.inl ⟨k, by omega, hk0, ?_⟩) h1
            rcases hm with ⟨k0, g1, g2, g3⟩ | ⟨g1, g2⟩
            · exfalso
              have h60 : c6 k0 = -1 := by
                rcases (HA k0 (by omega)).2.2 with ⟨u5, -⟩ | ⟨r2, -, u5, u6, -⟩
                · rw [u5] at g2; exact absurd g2.1.symm (nI_neg1 (by omega))
                · exact u6
              have := hAU k0 k (by omega) (by omega) (by rw [g2.1, hk0.1]) (by rw [h60, h6]) (by rw [g2.2.1, hk0.2.1]) (by rw [g2.2.2, hk0.2.2])
              omega
            · rw [g2]
        · rw [if_neg e8]
          exact ih i (k + 1) m11 a50 a51 (by omega) (by omega) (skip (fun z => e8 z.2.2)) h1
      · rw [if_neg e5]
        exact ih i (k + 1) m11 a50 a51 (by omega) (by omega) (skip (fun z => e5 z.1)) h1
