/-! a class node made: known or new -/
def MkO (N K : Nat) (sz nn nr na : Nat) (wt pl nl rl : Nat → Nat) (v1 v2 : Int32) (c0 c1 c2 c3 c5 c6 c7 c8 : Nat → Int32) (na' : Nat) (d5 d6 d7 d8 : Nat → Int32) (c sz' : Nat) (wt' pl' : Nat → Nat) (d0 d1 d2 d3 : Nat → Int32) : Prop := f_C_make N (nI K) v1 v2 (nI sz) (nI na) c0 c1 c2 c3 c5 c6 c7 c8 = some (nI c, nI sz', nI na', d0, d1, d2, d3, d5, d6, d7, d8) ∧ sz ≤ sz' ∧ sz' ≤ sz + 1 ∧ c < sz' ∧ (∀ a, a < sz' → a < sz ∨ a = c) ∧ (∀ a, a < sz → d0 a = c0 a ∧ d1 a = c1 a ∧ d2 a = c2 a ∧ d3 a = c3 a ∧ wt' a = wt a ∧ pl' a = pl a) ∧ d0 c = nI K ∧ d1 c = v1 ∧ d2 c = v2 ∧ ClS sz' nn nr na' wt' pl' nl rl d0 d1 d2 d3 d5 d6 d7 d8
theorem mk_pl {N sz nn nr na K : Nat} {wt pl nl rl : Nat → Nat} {v1 v2 : Int32} {c0 c1 c2 c3 c5 c6 c7 c8 : Nat → Int32} (hN : 100000 ≤ N) (hz : sz < 200) (hnn : nn ≤ 5) (hnr : nr ≤ 3) (H : ClS sz nn nr na wt pl nl rl c0 c1 c2 c3 c5 c6 c7 c8) (hK : K = 1 ∨ K = 2 ∨ K = 3 ∨ K = 6 ∨ K = 7) (h1 : 3 ≤ K → ∃ l : Nat, l < sz ∧ v1 = nI l) (h2 : 6 ≤ K → ∃ r : Nat, r < sz ∧ v2 = nI r) (h12 : K = 1 ∨ K = 2 → v1 = nI 0 ∧ v2 = nI 0) (h3 : K = 3 → v2 = nI 0) : ∃ (c sz' : Nat) (wt' pl' : Nat → Nat) (d0 d1 d2 d3 : Nat → Int32), MkO N K sz nn nr na wt pl nl rl v1 v2 c0 c1 c2 c3 c5 c6 c7 c8 na c5 c6 c7 c8 c sz' wt' pl' d0 d1 d2 d3 := by
  rcases mk_find (N := N) (K := K) (a2 := v1) (a3 := v2) (c0 := c0) (c1 := c1) (c2 := c2) hN (Nat.le_of_lt hz) with ⟨c, q1, q2, q3, q4, q5⟩ | ⟨q1, q2⟩
  · exact ⟨c, sz, wt, pl, c0, c1, c2, c3, mk_known (by omega) q5, Nat.le_refl _, by omega, q1, fun _ h => Or.inl h, fun _ _ => ⟨rfl, rfl, rfl, rfl, rfl, rfl⟩, q2, q3, q4, H⟩
  · have kk : K < 8 := by clear h1 h2 h12 h3; omega
    have n0 : ¬ (K = 0 ∨ K = 4 ∨ K = 5) := by clear h1 h2 h12 h3; omega
    have A := ClS_add (K := K) (v1 := v1) (v2 := v2) (v3 := -1) hz hnn hnr H (Nat.le_refl na) (fun _ _ => ⟨rfl, rfl, rfl, rfl⟩) H.2.2.1 kk q1 ⟨fun z => absurd z n0, h1, h2, fun z => absurd (Or.inl z) n0, fun z => absurd (Or.inr z) n0, h12, h3⟩ ⟨fun z => absurd (Or.inl z) n0, fun z => absurd (Or.inr z) n0⟩
    obtain ⟨wt', pl', e, R⟩ := A
    exact ⟨sz, sz + 1, wt', pl', upd c0 sz (nI K), upd c1 sz v1, upd c2 sz v2, upd c3 sz (-1), mk_plain hz hK q2, by omega, Nat.le_refl _, by omega, fun a ha => by omega, fun a ha => ⟨up_n (by omega), up_n (by omega), up_n (by omega), up_n (by omega), (e a ha).1, (e a ha).2⟩, up_s, up_s, up_s, R⟩
/-- the model looks a name's atom up -/
theorem nm_loop {N no nn nr na x a : Nat} {o φ : Nat → Nat} {t0 o9 o11 m12 o23 o24 m26 m27 x9 x23 x24 c5 c6 c7 c8 m32 m33 m34 m35 b11 : Nat → Int32} {o4 o5 o43 o44 i47 x43 : Int32} (hna : na ≤ 9) (hx : x < 200) (ha5 : a < 5) (HA : AtR 200 9 na no nn nr o φ c5 c6 c7 c8 m32 m33 m34 m35) (hAU : AtU na c5 c6 c7 c8) : ∀ (d i k : Nat) (m11 : Nat → Int32), k + d = na → d < i → ((∃ k0, k0 < k ∧ c6 k0 = nI a ∧ m11 = upd b11 (200 + x) (nI k0)) ∨ ((∀ k0, k0 < k → ¬ c6 k0 = nI a) ∧ m11 = b11)) → b11 (200 + x) = -1 → ∃ (q : Option (Int32 × Int32 × Int32 × (Nat → Int32) × (Nat → Int32) × (Nat → Int32) × (Nat → Int32) × (Nat → Int32))), f_M_readName_128 N o4 o5 o43 o44 (nI na) 0 i47 t0 o9 o11 m12 o23 o24 m26 m27 m32 m33 m34 m35 (nI (200 + x)) (nI a) x43 x9 x23 x24 i (nI k) m11 = q.bind (fun z => some (x43, z.1, z.2.1, z.2.2.1, x9, z.2.2.2.1, x23, x24, z.2.2.2.2.1, z.2.2.2.2.2.1, z.2.2.2.2.2.2.1, z.2.2.2.2.2.2.2)) ∧ Mfr na (200 + x) (-1) (nI a) (-1) 0 (m12 (200 + x)) i47 b11 m32 m33 m34 m35 (fun k => c6 k = nI a) q := by
  have gx : ¬ (nI (200 + x) < 0 ∨ 400 ≤ (nI (200 + x)).toNatClampNeg) := nI_g (show 200 + x < 400 by omega) (by decide)
  have cx : (nI (200 + x)).toNatClampNeg = 200 + x := nI_cl (by omega)
  have nm : ∀ k, k < na → c6 k = nI a → c5 k = -1 ∧ c7 k = -1 ∧ c8 k = 0 := fun k hk h => by
    rcases (HA k hk).2.2 with ⟨h5, -, h7, h8⟩ | ⟨r', hr', h5, h6, -⟩
    · exact ⟨h5, h7, h8⟩
    · rw [h6] at h; exact absurd h.symm (nI_neg1 (by omega))
  intro d
  induction d with
  | zero =>
    intro i k m11 hk hi hm h1
    obtain ⟨i, rfl⟩ : ∃ k, i = k + 1 := ⟨i - 1, by omega⟩
    have ek : k = na := by omega
    subst ek
    rw [f_M_readName_128, if_pos (nI_le (Nat.le_refl _) (by omega)), if_neg gx, cx]
    rcases hm with ⟨k0, g1, g2, g3⟩ | ⟨g1, g2⟩
    · rw [if_pos (show (0 : Int32) ≤ m11 (200 + x) by rw [g3, up_s]; exact nI_pos' (by omega))]
      exact ⟨some (nI k, 0, i47, m11, m32, m33, m34, m35), rfl, Or.inl ⟨k0, g1, g2, by rw [g3]⟩⟩
    · rw [if_neg (show ¬ (0 : Int32) ≤ m11 (200 + x) by rw [g2, h1]; decide)]
      refine ⟨f_M_newAtom (nI (200 + x)) (-1) (nI a) (-1) 0 (nI k) 0 i47 m11 m12 m32 m33 m34 m35, rfl, Or.inr ⟨g1, ?_⟩⟩
      rw [g2]
      exact na_eq (by omega) hna (Or.inl rfl)
  | succ d ih =>
    intro i k m11 hk hi hm h1
    obtain ⟨i, rfl⟩ : ∃ k, i = k + 1 := ⟨i - 1, by omega⟩
    obtain ⟨a32, a33, ha⟩ := HA k (by omega)
    have e9k : (9 : Int32) + nI k = nI (9 + k) := by rw [show (9 : Int32) = nI 9 from rfl, nI_add]
    rw [f_M_readName_128, if_neg (nI_ge (show k < na by omega) (by omega)), e9k, if_neg (nI_g (show 9 + k < 18 by omega) (by decide)), nI_cl (show 9 + k < 2147483648 by omega), a33, nI_m]
    by_cases e6 : c6 k = nI a
    · rw [if_pos e6, if_neg gx, cx]
      refine ih i (k + 1) (upd m11 (200 + x) (nI k)) (by omega) (by omega) (Or.inl ⟨k, by omega, e6, ?_⟩) h1
      rcases hm with ⟨k0, g1, g2, g3⟩ | ⟨g1, g2⟩
      · exfalso
        obtain ⟨u1, u2, u3⟩ := nm k (by omega) e6
        obtain ⟨w1, w2, w3⟩ := nm k0 (by omega) g2
        have := hAU k0 k (by omega) (by omega) (by rw [u1, w1]) (by rw [g2, e6]) (by rw [u2, w2]) (by rw [u3, w3])
        omega
      · rw [g2]
    · rw [if_neg e6]
      refine ih i (k + 1) m11 (by omega) (by omega) ?_ h1
      rcases hm with ⟨k0, g1, g2, g3⟩ | ⟨g1, g2⟩
      · exact Or.inl ⟨k0, by omega, g2, g3⟩
      · refine Or.inr ⟨fun k0 hk0 => ?_, g2⟩
        by_cases e : k0 = k
        · rw [e]; exact e6
        · exact g1 k0 (by omega)
/-- an atom looked up by both -/
def AtJ (na x na' ka : Nat) (r nm p t nd : Int32) (i47 : Int32) (c5 c6 c7 c8 m11 m32 m33 m34 m35 d5 d6 d7 d8 l32 l33 l34 l35 : Nat → Int32) (q : Option (Int32 × Int32 × (Nat → Int32) × (Nat → Int32) × (Nat → Int32) × (Nat → Int32))) (q' : Option (Int32 × Int32 × Int32 × (Nat → Int32) × (Nat → Int32) × (Nat → Int32) × (Nat → Int32) × (Nat → Int32))) : Prop := q = some (nI ka, nI na', d5, d6, d7, d8) ∧ q' = some (nI na', 0, i47, upd m11 x (nI ka), l32, l33, l34, l35) ∧ ka < na' ∧ na ≤ na' ∧ na' ≤ 9 ∧ (∀ k, k < na → d5 k = c5 k ∧ d6 k = c6 k ∧ d7 k = c7 k ∧ d8 k = c8 k) ∧ (∀ k, k < na → l32 (9 + k) = m32 (9 + k) ∧ l33 (9 + k) = m33 (9 + k) ∧ l34 (9 + k) = m34 (9 + k) ∧ l35 (9 + k) = m35 (9 + k)) ∧ (∀ i, i < 9 → l32 i = m32 i ∧ l33 i = m33 i ∧ l34 i = m34 i ∧ l35 i = m35 i) ∧ d5 ka = r ∧ d6 ka = nm ∧ d7 ka = p ∧ d8 ka = t ∧ AtU na' d5 d6 d7 d8 ∧ ∀ k, na ≤ k → k < na' → k = ka ∧ l32 (9 + k) = r ∧ l33 (9 + k) = nm ∧ l34 (9 + k) = nd ∧ l35 (9 + k) = t
theorem at_join {na x : Nat} {r nm p t nd m12x i47 : Int32} {c5 c6 c7 c8 m11 m32 m33 m34 m35 : Nat → Int32} {found : Nat → Prop} {q : Option (Int32 × Int32 × (Nat → Int32) × (Nat → Int32) × (Nat → Int32) × (Nat → Int32))} {q' : Option (Int32 × Int32 × Int32 × (Nat → Int32) × (Nat → Int32) × (Nat → Int32) × (Nat → Int32) × (Nat → Int32))} (hna : na ≤ 9) (hAU : AtU na c5 c6 c7 c8) (h : Afr na r nm p t c5 c6 c7 c8 q) (h' : Mfr na x r nm nd t m12x i47 m11 m32 m33 m34 m35 found q') (hf : ∀ k, k < na → (found k ↔ c5 k = r ∧ c6 k = nm ∧ c7 k = p ∧ c8 k = t)) : (∃ (na' ka : Nat) (d5 d6 d7 d8 l32 l33 l34 l35 : Nat → Int32), AtJ na x na' ka r nm p t nd i47 c5 c6 c7 c8 m11 m32 m33 m34 m35 d5 d6 d7 d8 l32 l33 l34 l35 q q') ∨ (q = some (-1, nI na, c5, c6, c7, c8) ∧ q' = some (nI na, 5, m12x, m11, m32, m33, m34, m35)) := by
  rcases h with ⟨k, k1, k5, k6, k7, k8, kq⟩ | ⟨n1, hq⟩
  · rcases h' with ⟨k', g1, g2, g3⟩ | ⟨g1, -⟩
    · obtain ⟨f5, f6, f7, f8⟩ := (hf k' g1).mp g2
      have : k' = k := hAU k' k g1 k1 (by rw [f5, k5]) (by rw [f6, k6]) (by rw [f7, k7]) (by rw [f8, k8])
      subst this
      exact Or.inl ⟨na, k', c5, c6, c7, c8, m32, m33, m34, m35, kq, g3, g1, Nat.le_refl _, hna, fun _ _ => ⟨rfl, rfl, rfl, rfl⟩, fun _ _ => ⟨rfl, rfl, rfl, rfl⟩, fun _ _ => ⟨rfl, rfl, rfl, rfl⟩, k5, k6, k7, k8, hAU, fun k h1 h2 => absurd h2 (by omega)⟩
    · exact absurd ((hf k k1).mpr ⟨k5, k6, k7, k8⟩) (g1 k k1)
  · rcases h' with ⟨k', g1, g2, g3⟩ | ⟨g1, g2⟩
    · exact absurd ((hf k' g1).mp g2) (n1 k' g1)
    · rcases hq with ⟨a1, a2⟩ | ⟨a1, a2⟩
      · rcases g2 with ⟨b1, b2⟩ | ⟨b1, b2⟩
        · exact Or.inl ⟨na + 1, na, upd c5 na r, upd c6 na nm, upd c7 na p, upd c8 na t, upd m32 (9 + na) r, upd m33 (9 + na) nm, upd m34 (9 + na) nd, upd m35 (9 + na) t, a2, b2, by omega, by omega, by omega, fun k hk => ⟨up_n (by omega), up_n (by omega), up_n (by omega), up_n (by omega)⟩, fun k hk => ⟨up_n (by omega), up_n (by omega), up_n (by omega), up_n (by omega)⟩, fun k hk => ⟨up_n (by omega), up_n (by omega), up_n (by omega), up_n (by omega)⟩, up_s, up_s, up_s, up_s, AtU_add hAU n1, fun k h1 h2 => by
            have : k = na := by omega
            rw [this]; exact ⟨rfl, up_s, up_s, up_s, up_s⟩⟩
        · omega
      · rcases g2 with ⟨b1, b2⟩ | ⟨b1, b2⟩
        · omega
        · exact Or.inr ⟨a2, b2⟩
theorem AtR_j {na na' ka x no nn nr : Nat} {o φ : Nat → Nat} {r nm p t nd i47 : Int32} {c5 c6 c7 c8 m11 m32 m33 m34 m35 d5 d6 d7 d8 l32 l33 l34 l35 : Nat → Int32} {q : Option (Int32 × Int32 × (Nat → Int32) × (Nat → Int32) × (Nat → Int32) × (Nat → Int32))} {q' : Option (Int32 × Int32 × Int32 × (Nat → Int32) × (Nat → Int32) × (Nat → Int32) × (Nat → Int32) × (Nat → Int32))} (J : AtJ na x na' ka r nm p t nd i47 c5 c6 c7 c8 m11 m32 m33 m34 m35 d5 d6 d7 d8 l32 l33 l34 l35 q q') (H : AtR 200 9 na no nn nr o φ c5 c6 c7 c8 m32 m33 m34 m35) (hc : ((r = -1 ∧ (∃ a : Nat, a < nn ∧ nm = nI a) ∧ p = -1 ∧ t = 0) ∨ (∃ r' : Nat, r' < nr ∧ r = nI r' ∧ nm = -1 ∧ ∃ j, j < no ∧ p = nI (φ (o j)) ∧ nd = nI (200 + o j) ∧ isZ t))) : AtR 200 9 na' no nn nr o φ d5 d6 d7 d8 l32 l33 l34 l35 := by
  obtain ⟨-, -, -, h1, h2, ea, em, -, k5, k6, k7, k8, -, hn⟩ := J
  intro k hk
  by_cases e : k < na
  · exact AtR_mono H (Nat.le_refl _) (Nat.le_refl _) (Nat.le_refl _) (fun _ _ => ⟨rfl, rfl⟩) ea em k e
  · obtain ⟨e1, e2, e3, e4, e5⟩ := hn k (by omega) hk
    rw [e2, e3, e4, e5, e1, k5, k6, k7, k8]
    refine ⟨rfl, rfl, ?_⟩
    rcases hc with ⟨x1, x2, x3, x4⟩ | ⟨r', x1, x2, x3, j, j1, j2, j3, j4⟩
    · exact Or.inl ⟨x1, x2, x3, x4⟩
    · exact Or.inr ⟨r', x1, x2, x3, j, j1, j2, j3, rfl, j4⟩
