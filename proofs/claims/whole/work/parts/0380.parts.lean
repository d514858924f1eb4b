/-! the class's rows of X; all that stand are met, of both -/
theorem C_partOfAtom_eq {n k : Nat} {f : Nat → Int32} (hn : n ≤ 9) (hk : k < n) : f_C_partOfAtom (nI k) (nI n) f = some (f k) := by
  unfold f_C_partOfAtom
  rw [if_neg (nI_pos (by omega)), if_neg (nI_ge hk (by omega)), if_neg (nI_g (show k < 9 by omega) (by decide)), nI_cl (by omega)]
theorem C_isTurned_eq {n k : Nat} {f : Nat → Int32} (hn : n ≤ 9) (hk : k < n) : f_C_isTurned (nI k) (nI n) f = some (if f k = 1 then 1 else 0) := by
  unfold f_C_isTurned
  rw [if_neg (nI_pos (by omega)), if_neg (nI_ge hk (by omega)), if_neg (nI_g (show k < 9 by omega) (by decide)), nI_cl (by omega)]
  by_cases h : f k = 1
  · rw [if_pos h, if_pos h]
  · rw [if_neg h, if_neg h]
def AtC (n nr sz : Nat) (c5 c7 c8 : Nat → Int32) : Prop := ∀ k, k < n → (c5 k = -1 ∧ c7 k = -1 ∧ c8 k = 0) ∨ (∃ r : Nat, r < nr ∧ c5 k = nI r ∧ ∃ p : Nat, p < sz ∧ c7 k = nI p ∧ isZ (c8 k))
theorem wp_word {n nr sz k w : Nat} {c5 c7 c8 : Nat → Int32} {tr : Nat → Int64} (hn : n ≤ 9) (hnr : nr ≤ 3) (hz : sz ≤ 200) (H : AtC n nr sz c5 c7 c8) (hk : k < n) (hw : w < 8) : ∃ W : Int64, (f_K_truthOf (c7 k) (nI w) tr = some W ∧ c8 k ≠ 1 ∨ ∃ V : Int64, f_K_truthOf (c7 k) (nI w) tr = some V ∧ W = V ^^^ (-1 : Int64) ∧ c8 k = 1) ∧ ∀ j, j < 64 → W.toBitVec.getLsbD j = xP tr c5 c7 c8 (64 * w + j) k := by
  rcases H k hk with ⟨h5, h7, h8⟩ | ⟨r, hr, h5, p, hp, h7, h8⟩
  · refine ⟨0, Or.inl ⟨?_, by rw [h8]; decide⟩, fun j hj => ?_⟩
    · unfold f_K_truthOf
      rw [h7, if_pos (by decide)]
    · unfold xP
      rw [h5, zero_bits rfl]; rfl
  · have hx : ∀ j, j < 64 → xP tr c5 c7 c8 (64 * w + j) k = ((tr (p * 8 + w)).toBitVec.getLsbD j != decide (c8 k = 1)) := fun j hj => by
      unfold xP
      rw [h5, h7, nI_cl (by omega), tb_w hj]
      have : decide (nI r = -1) = false := decide_eq_false (nI_neg1 (by omega))
      rw [this]; rfl
    rcases h8 with z | z
    · refine ⟨tr (p * 8 + w), Or.inl ⟨by rw [h7, K_truthOf_eq (by omega) hw], by rw [z]; decide⟩, fun j hj => ?_⟩
      rw [hx j hj, z]
      cases (tr (p * 8 + w)).toBitVec.getLsbD j <;> rfl
    · refine ⟨tr (p * 8 + w) ^^^ (-1 : Int64), Or.inr ⟨tr (p * 8 + w), by rw [h7, K_truthOf_eq (by omega) hw], rfl, z⟩, fun j hj => ?_⟩
      rw [hx j hj, z, xnot_bit _ hj]
      cases (tr (p * 8 + w)).toBitVec.getLsbD j <;> rfl
theorem w2_in {N n nr sz k : Nat} {iK iC iB x_iK : Nat → Int32} {lK lB L : Nat → Nat → Int64} {aK aB aC : Nat → Nat → Int32} {k90 : Int32 → (Nat → Nat → Int64) → Option ((Nat → Int32) × (Nat → Nat → Int64) × (Nat → Nat → Int32))} (hn : n ≤ 9) (hnr : nr ≤ 3) (hz : sz ≤ 200) (e9 : iC 9 = nI n) (H : AtC n nr sz (aC 5) (aC 7) (aC 8)) (hk : k < n) : ∀ (d i w : Nat) (pt : Nat → Int64), w + d = 8 → d < i → (∀ k' t, k' < k → t < 512 → tb pt (k' * 8) t = xP (L 3) (aC 5) (aC 7) (aC 8) t k') → (∀ t, t < 64 * w → tb pt (k * 8) t = xP (L 3) (aC 5) (aC 7) (aC 8) t k) → ∃ pt' : Nat → Int64, f_K_workOut_109 N iK lK aK iB lB aB iC aC k90 (nI k) x_iK i (nI w) (us L [(4, pt)]) = k90 (nI (k + 1)) (us L [(4, pt')]) ∧ ∀ k' t, k' < k + 1 → t < 512 → tb pt' (k' * 8) t = xP (L 3) (aC 5) (aC 7) (aC 8) t k' := by
  intro d
  induction d with
  | zero =>
    intro i w pt hw hi h1 h2
    obtain ⟨i, rfl⟩ : ∃ k, i = k + 1 := ⟨i - 1, by omega⟩
    rw [f_K_workOut_109, if_pos (show (8 : Int32) ≤ nI w from nI_le (show 8 ≤ w by omega) (by omega)), nI_m]
    refine ⟨pt, rfl, fun k' t hk' ht => ?_⟩
    by_cases e : k' = k
    · subst e; exact h2 t (by omega)
    · exact h1 k' t (by omega) ht
  | succ d ih =>
    intro i w pt hw hi h1 h2
    obtain ⟨i, rfl⟩ : ∃ k, i = k + 1 := ⟨i - 1, by omega⟩
    have e8 : (nI k * (8 : Int32)) + nI w = nI (k * 8 + w) := by rw [show (8 : Int32) = nI 8 from rfl, pk_mul, nI_add]
    obtain ⟨W, hW1, hW2⟩ := wp_word (tr := L 3) hn hnr hz H hk (show w < 8 by omega)
    have key : f_K_workOut_109 N iK lK aK iB lB aB iC aC k90 (nI k) x_iK (i + 1) (nI w) (us L [(4, pt)]) = f_K_workOut_109 N iK lK aK iB lB aB iC aC k90 (nI k) x_iK i (nI (w + 1)) (us L [(4, vp_updL pt (k * 8 + w) W)]) := by
      rw [f_K_workOut_109, if_neg (show ¬ (8 : Int32) ≤ nI w from nI_ge (show w < 8 by omega) (by decide)), e9, C_partOfAtom_eq hn hk, Option.bind_some, us_ne1 (show 3 ≠ 4 by decide), C_isTurned_eq hn hk]
      rcases hW1 with ⟨a1, a2⟩ | ⟨V, a1, a2, a3⟩
      · rw [a1, Option.bind_some, Option.bind_some, if_neg a2, if_pos rfl]
        unfold f_K_workOut_162
        rw [e8, if_neg (nI_g (show k * 8 + w < 72 by omega) (by decide)), nI_cl (by omega), us_at1, us_us1, nI_m]
      · rw [a1, Option.bind_some, Option.bind_some, if_pos a3, if_neg i1z]
        unfold f_K_workOut_162
        rw [e8, if_neg (nI_g (show k * 8 + w < 72 by omega) (by decide)), nI_cl (by omega), us_at1, us_us1, nI_m, a2]
    rw [key]
    refine ih i (w + 1) _ (by omega) (by omega) (fun k' t hk' ht => ?_) (fun t ht => ?_)
    · rw [tb_upd (by omega) ht, if_neg (by omega)]; exact h1 k' t hk' ht
    · rw [tb_upd (by omega) (by omega)]
      by_cases q : t / 64 = w
      · rw [if_pos ⟨rfl, q⟩, hW2 _ (Nat.mod_lt _ (by decide)), show 64 * w + t % 64 = t by omega]
      · rw [if_neg (fun z => q z.2)]; exact h2 t (by omega)
theorem w2_eq {N n nr sz : Nat} {iK iC iB x_iK : Nat → Int32} {lK lB L : Nat → Nat → Int64} {aK aB aC : Nat → Nat → Int32} (hN : 100000 ≤ N) (hn : n ≤ 9) (hnr : nr ≤ 3) (hz : sz ≤ 200) (e9 : iC 9 = nI n) (H : AtC n nr sz (aC 5) (aC 7) (aC 8)) : ∀ (d i k : Nat) (pt : Nat → Int64), k + d = n → d < i → (∀ k' t, k' < k → t < 512 → tb pt (k' * 8) t = xP (L 3) (aC 5) (aC 7) (aC 8) t k') → ∃ pt' : Nat → Int64, f_K_workOut_90 N iK lK aK iB lB aB iC aC x_iK i (nI k) (us L [(4, pt)]) = f_K_workOut_175 N iK lK aK iB lB aB iC aC x_iK (us L [(4, pt')]) ∧ ∀ k' t, k' < n → t < 512 → tb pt' (k' * 8) t = xP (L 3) (aC 5) (aC 7) (aC 8) t k' := by
  intro d
  induction d with
  | zero =>
    intro i k pt hk hi h
    obtain ⟨i, rfl⟩ : ∃ k, i = k + 1 := ⟨i - 1, by omega⟩
    rw [f_K_workOut_90, e9, if_pos (nI_le (show n ≤ k by omega) (by omega))]
    exact ⟨pt, rfl, fun k' t hk' ht => h k' t (by omega) ht⟩
  | succ d ih =>
    intro i k pt hk hi h
    obtain ⟨i, rfl⟩ : ∃ k, i = k + 1 := ⟨i - 1, by omega⟩
    rw [f_K_workOut_90, e9, if_neg (nI_ge (show k < n by omega) (by omega)), if_neg (show ¬ (9 : Int32) ≤ nI k from nI_ge (show k < 9 by omega) (by decide))]
    obtain ⟨pt1, a1, a2⟩ := w2_in (N := N) (iK := iK) (iB := iB) (x_iK := x_iK) (lK := lK) (lB := lB) (L := L) (aK := aK) (aB := aB) (k90 := f_K_workOut_90 N iK lK aK iB lB aB iC aC x_iK i) hn hnr hz e9 H (show k < n by omega) 8 N 0 pt (by omega) (by omega) h (fun t ht => absurd ht (by omega))
    rw [show (0 : Int32) = nI 0 from rfl, a1]
    exact ih i (k + 1) pt1 (by omega) (by omega) a2
theorem no_congr {N n T R F W : Nat} {ax g row row' : Nat → Int32} (hN : 100000 ≤ N) (hn : n ≤ 9) (hR : R < 3) (hg : g R = nI F) (hF : F < 512) (hT : T < 512) (hW : W < 512) (hA : ∀ u, u < 2 ^ n → ∃ A : Nat, A < 512 ∧ ax u = nI A) (h : ∀ s, s < 2 ^ n → row s = row' s) : No N n g ax row T R W ↔ No N n g ax row' T R W := by
  rw [no_iff hN hn hR hg hF hT hW hA, no_iff hN hn hR hg hF hT hW hA]
  constructor
  · intro q s hs; rw [← h s hs]; exact q s hs
  · intro q s hs; rw [h s hs]; exact q s hs
theorem mst_of {N n nr S : Nat} {c5 k5 k6 m60 m59 m29 ax sd stood : Nat → Int32} {pt st : Nat → Int64} {own : Nat → Nat} (hN : 100000 ≤ N) (H : RKd n nr S c5 k5 k6 m60 m59 m29 pt ax) (hw : Ow n c5 k5 m60 own) (hs : RSt n st sd) (hf : Fxp N n nr m29 ax m59 m60 sd stood) : ∀ sd2 : Nat → Int32, RSt n st sd2 → Mst N n nr S c5 m59 ax sd2 own := by
  obtain ⟨hn, hnr, hS, hp, hfr, ho, hcs, h29⟩ := id H
  have h9 := pw9_le n (by omega)
  intro sd2 hs2 s hs' h1
  have same : ∀ u, u < 2 ^ n → stood u = sd2 u := fun u hu => by
    rw [(hf u hu).1]
    have a := hs.1 u hu
    have b := hs2.1 u hu
    exact isZ_eq a.1 b.1 a.2.symm b.2.symm Iff.rfl
  have hsd : sd s = 1 := by rw [← (hf s hs').1, same s hs']; exact h1
  have hst : RSt n st stood := ⟨fun u hu => by rw [(hf u hu).1]; exact hs.1 u hu, hs.2⟩
  obtain ⟨r', g1, g2, g3⟩ := mo_loop hN H hw hst hs' nr N 0 1 (by omega) (by omega) (Or.inr rfl)
  have hm := (hf s hs').2 hsd
  have e : r' = 1 := by
    have : f_M_isMet_stood N (nI s) (nI nr) (nI n) m29 ax m59 m60 stood = some r' := g1
    rw [hm] at this
    exact (Option.some.inj this).symm
  have hX := (met_iff H hw).mpr (g3.mp e).2
  intro j hj0 hjn hjb R hR hc
  have hO := hw R (by omega)
  obtain ⟨F, f1, f2, f3⟩ := hfr R (by omega)
  have hWl : (if S.testBit R = true then own R &&& s else 2 ^ j) < 512 := by
    by_cases h : S.testBit R = true
    · rw [if_pos h]; exact Nat.lt_of_le_of_lt Nat.and_le_left (by have := hO.1; omega)
    · rw [if_neg h]; have : 2 ^ j < 2 ^ n := Nat.pow_lt_pow_right (by decide) hjn; omega
  have hA : ∀ u, u < 2 ^ n → ∃ A : Nat, A < 512 ∧ ax u = nI A := fun u hu => by obtain ⟨A, a1, a2, -⟩ := hp u hu; exact ⟨A, by omega, a2⟩
  rw [← no_congr hN hn (by omega) f3 (by omega) (by omega) hWl hA same]
  exact hX j hj0 hjn hjb R hR hc
