/-! the class's truths: a row a node -/
theorem us_us1 {α : Type} {f : Nat → α} {k : Nat} {v w : α} : us (us f [(k, v)]) [(k, w)] = us f [(k, w)] := by
  funext j
  show (if j = k then w else (if j = k then v else f j)) = if j = k then w else f j
  by_cases h : j = k
  · rw [if_pos h, if_pos h]
  · rw [if_neg h, if_neg h, if_neg h]
theorem us_id1 {α : Type} {f : Nat → α} {k : Nat} : us f [(k, f k)] = f := by
  funext j
  show (if j = k then f k else f j) = f j
  by_cases h : j = k
  · rw [if_pos h, h]
  · rw [if_neg h]
theorem us_at1 {α : Type} {f : Nat → α} {k : Nat} {v : α} : us f [(k, v)] k = v := by
  show (if k = k then v else f k) = v
  rw [if_pos rfl]
theorem us_ne1 {α : Type} {f : Nat → α} {k j : Nat} {v : α} (h : j ≠ k) : us f [(k, v)] j = f j := by
  show (if j = k then v else f j) = f j
  rw [if_neg h]
theorem C_sortOf_eq {sz c : Nat} {f : Nat → Int32} (hz : sz ≤ 200) (hc : c < sz) : f_C_sortOf (nI c) (nI sz) f = some (f c) := by
  unfold f_C_sortOf
  rw [if_neg (nI_pos (by omega)), if_neg (nI_ge hc (by omega)), if_neg (nI_g (show c < 200 by omega) (by decide)), nI_cl (by omega)]
theorem C_leftOf_eq {sz c : Nat} {f : Nat → Int32} (hz : sz ≤ 200) (hc : c < sz) : f_C_leftOf (nI c) (nI sz) f = some (f c) := by
  unfold f_C_leftOf
  rw [if_neg (nI_pos (by omega)), if_neg (nI_ge hc (by omega)), if_neg (nI_g (show c < 200 by omega) (by decide)), nI_cl (by omega)]
theorem C_rightOf_eq {sz c : Nat} {f : Nat → Int32} (hz : sz ≤ 200) (hc : c < sz) : f_C_rightOf (nI c) (nI sz) f = some (f c) := by
  unfold f_C_rightOf
  rw [if_neg (nI_pos (by omega)), if_neg (nI_ge hc (by omega)), if_neg (nI_g (show c < 200 by omega) (by decide)), nI_cl (by omega)]
theorem C_atomOf_eq {sz c : Nat} {f : Nat → Int32} (hz : sz ≤ 200) (hc : c < sz) : f_C_atomOf (nI c) (nI sz) f = some (f c) := by
  unfold f_C_atomOf
  rw [if_neg (nI_pos (by omega)), if_neg (nI_ge hc (by omega)), if_neg (nI_g (show c < 200 by omega) (by decide)), nI_cl (by omega)]
def bpW (x w : Nat) : Int64 := (f_K_bitPattern (nI x) (nI w)).getD 0
theorem bp_eq : ∀ x, x < 9 → ∀ w, w < 8 → f_K_bitPattern (nI x) (nI w) = some (bpW x w) := by decide +kernel
theorem bp_bit : ∀ x, x < 9 → ∀ w, w < 8 → ∀ j, j < 64 → (bpW x w).toBitVec.getLsbD j = (64 * w + j).testBit x := by decide +kernel
/-- the class's nodes: sz of them, parts lower -/
def CNd (sz nn nr na : Nat) (c0 c1 c2 c3 : Nat → Int32) : Prop := ∀ c, c < sz → ∃ K : Nat, K < 8 ∧ c0 c = nI K ∧ (K = 0 ∨ K = 4 ∨ K = 5 → ∃ x : Nat, x < na ∧ c3 c = nI x) ∧ (3 ≤ K → ∃ l : Nat, l < c ∧ c1 c = nI l) ∧ (6 ≤ K → ∃ r : Nat, r < c ∧ c2 c = nI r) ∧ (K = 0 → (∃ a : Nat, a < nn ∧ c1 c = nI a) ∧ c2 c = nI 0) ∧ (K = 4 ∨ K = 5 → ∃ r : Nat, r < nr ∧ c2 c = nI r) ∧ (K = 1 ∨ K = 2 → c1 c = nI 0 ∧ c2 c = nI 0) ∧ (K = 3 → c2 c = nI 0)
/-- what the truth of a node at a type is, by its parts -/
def EqC (c0 c1 c2 c3 : Nat → Int32) (tr : Nat → Int64) (c t : Nat) : Prop := (c0 c = nI 0 ∨ c0 c = nI 4 → tb tr (c * 8) t = t.testBit (c3 c).toNatClampNeg) ∧ (c0 c = nI 5 → tb tr (c * 8) t = !(t.testBit (c3 c).toNatClampNeg)) ∧ (c0 c = nI 1 → tb tr (c * 8) t = true) ∧ (c0 c = nI 2 → tb tr (c * 8) t = false) ∧ (c0 c = nI 3 → tb tr (c * 8) t = !(tb tr ((c1 c).toNatClampNeg * 8) t)) ∧ (c0 c = nI 6 → tb tr (c * 8) t = (tb tr ((c1 c).toNatClampNeg * 8) t && tb tr ((c2 c).toNatClampNeg * 8) t)) ∧ (c0 c = nI 7 → tb tr (c * 8) t = (tb tr ((c1 c).toNatClampNeg * 8) t || tb tr ((c2 c).toNatClampNeg * 8) t))
theorem tb_upd {tr : Nat → Int64} {c c' w t : Nat} {W : Int64} (hw : w < 8) (ht : t < 512) : tb (vp_updL tr (c * 8 + w) W) (c' * 8) t = if c' = c ∧ t / 64 = w then W.toBitVec.getLsbD (t % 64) else tb tr (c' * 8) t := by
  unfold tb vp_updL
  by_cases h : c' = c ∧ t / 64 = w
  · rw [if_pos (by omega), if_pos h]
  · rw [if_neg (by omega), if_neg h]
/-- the word that truthWord makes, bit by bit -/
def TvW (c0 c1 c2 c3 : Nat → Int32) (tr : Nat → Int64) (c w : Nat) (W : Int64) : Prop := ∀ j, j < 64 → (c0 c = nI 0 ∨ c0 c = nI 4 → W.toBitVec.getLsbD j = (64 * w + j).testBit (c3 c).toNatClampNeg) ∧ (c0 c = nI 5 → W.toBitVec.getLsbD j = !((64 * w + j).testBit (c3 c).toNatClampNeg)) ∧ (c0 c = nI 1 → W.toBitVec.getLsbD j = true) ∧ (c0 c = nI 2 → W.toBitVec.getLsbD j = false) ∧ (c0 c = nI 3 → W.toBitVec.getLsbD j = !(tb tr ((c1 c).toNatClampNeg * 8) (64 * w + j))) ∧ (c0 c = nI 6 → W.toBitVec.getLsbD j = (tb tr ((c1 c).toNatClampNeg * 8) (64 * w + j) && tb tr ((c2 c).toNatClampNeg * 8) (64 * w + j))) ∧ (c0 c = nI 7 → W.toBitVec.getLsbD j = (tb tr ((c1 c).toNatClampNeg * 8) (64 * w + j) || tb tr ((c2 c).toNatClampNeg * 8) (64 * w + j)))
theorem tb_w {tr : Nat → Int64} {b w j : Nat} (hj : j < 64) : tb tr b (64 * w + j) = (tr (b + w)).toBitVec.getLsbD j := by
  unfold tb
  rw [show (64 * w + j) / 64 = w by omega, show (64 * w + j) % 64 = j by omega]
theorem tw_eq {sz nn nr na c w : Nat} {c0 c1 c2 c3 : Nat → Int32} {tr : Nat → Int64} (hz : sz ≤ 200) (hna : na ≤ 9) (H : CNd sz nn nr na c0 c1 c2 c3) (hc : c < sz) (hw : w < 8) : ∃ W : Int64, f_K_truthWord (nI c) (nI w) (nI sz) c0 c1 c2 c3 tr = some W ∧ TvW c0 c1 c2 c3 tr c w W := by
  obtain ⟨K, hK, e0, h3, h1, h2, -, -, -, -⟩ := H c hc
  unfold f_K_truthWord
  rw [C_leftOf_eq hz hc, C_rightOf_eq hz hc, C_sortOf_eq hz hc, C_atomOf_eq hz hc]
  simp only [Option.bind_some]
  have ne : ∀ a b : Nat, a < 8 → b < 8 → a ≠ b → ¬ nI a = nI b := fun a b ha hb hab q => hab ((nI_eq (by omega) (by omega)).mp q)
  unfold TvW
  rw [e0]
  have cases8 : K = 0 ∨ K = 1 ∨ K = 2 ∨ K = 3 ∨ K = 4 ∨ K = 5 ∨ K = 6 ∨ K = 7 := by omega
  have no : ∀ {a b : Nat} {P : Prop}, a < 8 → b < 8 → a ≠ b → (nI a = nI b → P) := fun ha hb hab q => absurd q (ne _ _ ha hb hab)
  have no2 : ∀ {a b d : Nat} {P : Prop}, a < 8 → b < 8 → d < 8 → a ≠ b → a ≠ d → (nI a = nI b ∨ nI a = nI d → P) := fun ha hb hd hab had q => absurd q (fun z => z.elim (ne _ _ ha hb hab) (ne _ _ ha hd had))
  rcases cases8 with e | e | e | e | e | e | e | e <;> subst e
  · obtain ⟨x, hx, ex⟩ := h3 (Or.inl rfl)
    rw [if_neg (by decide), if_neg (by decide), if_neg (by decide), if_neg (by decide), if_neg (by decide), if_neg (by decide), if_neg (by decide), ex, bp_eq x (by omega) w hw, Option.bind_some]
    refine ⟨_, rfl, fun j hj => ⟨fun _ => ?_, no (by omega) (by omega) (by omega), no (by omega) (by omega) (by omega), no (by omega) (by omega) (by omega), no (by omega) (by omega) (by omega), no (by omega) (by omega) (by omega), no (by omega) (by omega) (by omega)⟩⟩
    rw [nI_cl (by omega)]; exact bp_bit x (by omega) w hw j hj
  · rw [if_pos (by decide)]
    refine ⟨_, rfl, fun j hj => ⟨no2 (by omega) (by omega) (by omega) (by omega) (by omega), no (by omega) (by omega) (by omega), fun _ => ones_bit hj, no (by omega) (by omega) (by omega), no (by omega) (by omega) (by omega), no (by omega) (by omega) (by omega), no (by omega) (by omega) (by omega)⟩⟩
  · rw [if_neg (by decide), if_pos (by decide)]
    refine ⟨_, rfl, fun j hj => ⟨no2 (by omega) (by omega) (by omega) (by omega) (by omega), no (by omega) (by omega) (by omega), no (by omega) (by omega) (by omega), fun _ => zero_bits rfl j, no (by omega) (by omega) (by omega), no (by omega) (by omega) (by omega), no (by omega) (by omega) (by omega)⟩⟩
  · obtain ⟨l, hl, el⟩ := h1 (by omega)
    rw [if_neg (by decide), if_neg (by decide), if_pos (by decide), el, K_truthOf_eq (by omega) hw, Option.bind_some]
    refine ⟨_, rfl, fun j hj => ⟨no2 (by omega) (by omega) (by omega) (by omega) (by omega), no (by omega) (by omega) (by omega), no (by omega) (by omega) (by omega), no (by omega) (by omega) (by omega), fun _ => ?_, no (by omega) (by omega) (by omega), no (by omega) (by omega) (by omega)⟩⟩
    rw [nI_cl (by omega), xnot_bit _ hj, tb_w hj]
  · obtain ⟨x, hx, ex⟩ := h3 (Or.inr (Or.inl rfl))
    rw [if_neg (by decide), if_neg (by decide), if_neg (by decide), if_pos (by decide), ex, bp_eq x (by omega) w hw, Option.bind_some]
    refine ⟨_, rfl, fun j hj => ⟨fun _ => ?_, no (by omega) (by omega) (by omega), no (by omega) (by omega) (by omega), no (by omega) (by omega) (by omega), no (by omega) (by omega) (by omega), no (by omega) (by omega) (by omega), no (by omega) (by omega) (by omega)⟩⟩
    rw [nI_cl (by omega)]; exact bp_bit x (by omega) w hw j hj
  · obtain ⟨x, hx, ex⟩ := h3 (Or.inr (Or.inr rfl))
    rw [if_neg (by decide), if_neg (by decide), if_neg (by decide), if_neg (by decide), if_pos (by decide), ex, bp_eq x (by omega) w hw, Option.bind_some]
    refine ⟨_, rfl, fun j hj => ⟨no2 (by omega) (by omega) (by omega) (by omega) (by omega), fun _ => ?_, no (by omega) (by omega) (by omega), no (by omega) (by omega) (by omega), no (by omega) (by omega) (by omega), no (by omega) (by omega) (by omega), no (by omega) (by omega) (by omega)⟩⟩
    rw [nI_cl (by omega), xnot_bit _ hj, bp_bit x (by omega) w hw j hj]
  · obtain ⟨l, hl, el⟩ := h1 (by omega)
    obtain ⟨r, hr, er⟩ := h2 (by omega)
    rw [if_neg (by decide), if_neg (by decide), if_neg (by decide), if_neg (by decide), if_neg (by decide), if_pos (by decide), el, er, K_truthOf_eq (by omega) hw, K_truthOf_eq (by omega) hw, Option.bind_some, Option.bind_some]
    refine ⟨_, rfl, fun j hj => ⟨no2 (by omega) (by omega) (by omega) (by omega) (by omega), no (by omega) (by omega) (by omega), no (by omega) (by omega) (by omega), no (by omega) (by omega) (by omega), no (by omega) (by omega) (by omega), fun _ => ?_, no (by omega) (by omega) (by omega)⟩⟩
    rw [nI_cl (by omega), nI_cl (by omega), land_bit, tb_w hj, tb_w hj]
  · obtain ⟨l, hl, el⟩ := h1 (by omega)
    obtain ⟨r, hr, er⟩ := h2 (by omega)
    rw [if_neg (by decide), if_neg (by decide), if_neg (by decide), if_neg (by decide), if_neg (by decide), if_neg (by decide), if_pos (by decide), el, er, K_truthOf_eq (by omega) hw, K_truthOf_eq (by omega) hw, Option.bind_some, Option.bind_some]
    refine ⟨_, rfl, fun j hj => ⟨no2 (by omega) (by omega) (by omega) (by omega) (by omega), no (by omega) (by omega) (by omega), no (by omega) (by omega) (by omega), no (by omega) (by omega) (by omega), no (by omega) (by omega) (by omega), no (by omega) (by omega) (by omega), fun _ => ?_⟩⟩
    rw [nI_cl (by omega), nI_cl (by omega), lor_bit, tb_w hj, tb_w hj]
/-- a word put at its place makes the equations of its node there, and leaves all of lower nodes -/
theorem eqc_put {sz nn nr na c w : Nat} {c0 c1 c2 c3 : Nat → Int32} {tr : Nat → Int64} {W : Int64} (H : CNd sz nn nr na c0 c1 c2 c3) (hc : c < sz) (hz : sz ≤ 200) (hw : w < 8) (hW : TvW c0 c1 c2 c3 tr c w W) : (∀ t, t < 512 → t / 64 = w → EqC c0 c1 c2 c3 (vp_updL tr (c * 8 + w) W) c t) ∧ (∀ c' t, c' < sz → t < 512 → (c' < c ∨ c' = c ∧ ¬ t / 64 = w) → EqC c0 c1 c2 c3 tr c' t → EqC c0 c1 c2 c3 (vp_updL tr (c * 8 + w) W) c' t) := by
  have low : ∀ c', c' < sz → c' ≤ c → ((c0 c' = nI 3 ∨ c0 c' = nI 6 ∨ c0 c' = nI 7) → (c1 c').toNatClampNeg < c) ∧ ((c0 c' = nI 6 ∨ c0 c' = nI 7) → (c2 c').toNatClampNeg < c) := by
    intro c' hc' hle
    obtain ⟨K, hK, e0, h3, h1, h2, -, -, -, -⟩ := H c' hc'
    rw [e0]
    constructor
    · intro q
      have : 3 ≤ K := by
        rcases q with q | q | q <;> (have := (nI_eq (by omega) (by omega)).mp q; omega)
      obtain ⟨l, hl, el⟩ := h1 this
      rw [el, nI_cl (by omega)]; omega
    · intro q
      have : 6 ≤ K := by
        rcases q with q | q <;> (have := (nI_eq (by omega) (by omega)).mp q; omega)
      obtain ⟨l, hl, el⟩ := h2 this
      rw [el, nI_cl (by omega)]; omega
  have old : ∀ x t, x < c → t < 512 → tb (vp_updL tr (c * 8 + w) W) (x * 8) t = tb tr (x * 8) t := fun x t hx ht => by rw [tb_upd hw ht, if_neg (by omega)]
  constructor
  · intro t ht htw
    have lw := low c hc (Nat.le_refl _)
    have e : tb (vp_updL tr (c * 8 + w) W) (c * 8) t = W.toBitVec.getLsbD (t % 64) := by rw [tb_upd hw ht, if_pos ⟨rfl, htw⟩]
    have h := hW (t % 64) (Nat.mod_lt _ (by decide))
    rw [show 64 * w + t % 64 = t by omega] at h
    unfold EqC
    rw [e]
    refine ⟨h.1, h.2.1, h.2.2.1, h.2.2.2.1, fun q => ?_, fun q => ?_, fun q => ?_⟩
    · rw [old _ t (lw.1 (Or.inl q)) ht]; exact h.2.2.2.2.1 q
    · rw [old _ t (lw.1 (Or.inr (Or.inl q))) ht, old _ t (lw.2 (Or.inl q)) ht]; exact h.2.2.2.2.2.1 q
    · rw [old _ t (lw.1 (Or.inr (Or.inr q))) ht, old _ t (lw.2 (Or.inr q)) ht]; exact h.2.2.2.2.2.2 q
  · intro c' t hc' ht hx h
    have lw := low c' hc' (by omega)
    have e : tb (vp_updL tr (c * 8 + w) W) (c' * 8) t = tb tr (c' * 8) t := by rw [tb_upd hw ht, if_neg (by omega)]
    unfold EqC
    rw [e]
    refine ⟨h.1, h.2.1, h.2.2.1, h.2.2.2.1, fun q => ?_, fun q => ?_, fun q => ?_⟩
    · rw [old _ t (lw.1 (Or.inl q)) ht]; exact h.2.2.2.2.1 q
    · rw [old _ t (lw.1 (Or.inr (Or.inl q))) ht, old _ t (lw.2 (Or.inl q)) ht]; exact h.2.2.2.2.2.1 q
    · rw [old _ t (lw.1 (Or.inr (Or.inr q))) ht, old _ t (lw.2 (Or.inr q)) ht]; exact h.2.2.2.2.2.2 q
theorem w1_in {N sz nn nr na c : Nat} {iK iC iB x_iK : Nat → Int32} {lK lB : Nat → Nat → Int64} {aK aB aC : Nat → Nat → Int32} {k33 : Int32 → (Nat → Nat → Int64) → Option ((Nat → Int32) × (Nat → Nat → Int64) × (Nat → Nat → Int32))} (hz : sz ≤ 200) (hna : na ≤ 9) (e4 : iC 4 = nI sz) (H : CNd sz nn nr na (aC 0) (aC 1) (aC 2) (aC 3)) (hc : c < sz) : ∀ (d i w : Nat) (tr : Nat → Int64), w + d = 8 → d < i → (∀ c' t, c' < c → t < 512 → EqC (aC 0) (aC 1) (aC 2) (aC 3) tr c' t) → (∀ t, t < 64 * w → EqC (aC 0) (aC 1) (aC 2) (aC 3) tr c t) → ∃ tr' : Nat → Int64, f_K_workOut_53 N iK lK aK iB lB aB iC aC k33 (nI c) x_iK i (nI w) (us lK [(3, tr)]) = k33 (nI (c + 1)) (us lK [(3, tr')]) ∧ ∀ c' t, c' < c + 1 → t < 512 → EqC (aC 0) (aC 1) (aC 2) (aC 3) tr' c' t := by
  intro d
  induction d with
  | zero =>
    intro i w tr hw hi h1 h2
    obtain ⟨i, rfl⟩ : ∃ k, i = k + 1 := ⟨i - 1, by omega⟩
    rw [f_K_workOut_53, if_pos (show (8 : Int32) ≤ nI w from nI_le (show 8 ≤ w by omega) (by omega)), nI_m]
    refine ⟨tr, rfl, fun c' t hc' ht => ?_⟩
    by_cases e : c' = c
    · subst e; exact h2 t (by omega)
    · exact h1 c' t (by omega) ht
  | succ d ih =>
    intro i w tr hw hi h1 h2
    obtain ⟨i, rfl⟩ : ∃ k, i = k + 1 := ⟨i - 1, by omega⟩
    obtain ⟨W, hW1, hW2⟩ := tw_eq (tr := tr) hz hna H hc (show w < 8 by omega)
    have e8 : (nI c * (8 : Int32)) + nI w = nI (c * 8 + w) := by rw [show (8 : Int32) = nI 8 from rfl, pk_mul, nI_add]
    rw [f_K_workOut_53, if_neg (show ¬ (8 : Int32) ≤ nI w from nI_ge (show w < 8 by omega) (by decide)), e4, us_at1, hW1, Option.bind_some, e8, if_neg (nI_g (show c * 8 + w < 1600 by omega) (by decide)), nI_cl (by omega), us_us1, nI_m]
    have hp := eqc_put H hc hz (show w < 8 by omega) hW2
    refine ih i (w + 1) _ (by omega) (by omega) (fun c' t hc' ht => hp.2 c' t (by omega) ht (Or.inl hc') (h1 c' t hc' ht)) (fun t ht => ?_)
    by_cases q : t / 64 = w
    · exact hp.1 t (by omega) q
    · exact hp.2 c t hc (by omega) (Or.inr ⟨rfl, q⟩) (h2 t (by omega))
theorem w1_eq {N sz nn nr na : Nat} {iK iC iB x_iK : Nat → Int32} {lK lB : Nat → Nat → Int64} {aK aB aC : Nat → Nat → Int32} (hN : 100000 ≤ N) (hz : sz ≤ 200) (hna : na ≤ 9) (e4 : iC 4 = nI sz) (H : CNd sz nn nr na (aC 0) (aC 1) (aC 2) (aC 3)) : ∀ (d i c : Nat) (tr : Nat → Int64), c + d = sz → d < i → (∀ c' t, c' < c → t < 512 → EqC (aC 0) (aC 1) (aC 2) (aC 3) tr c' t) → ∃ tr' : Nat → Int64, f_K_workOut_33 N iK lK aK iB lB aB iC aC x_iK i (nI c) (us lK [(3, tr)]) = f_K_workOut_90 N iK lK aK iB lB aB iC aC x_iK N (0 : Int32) (us lK [(3, tr')]) ∧ ∀ c' t, c' < sz → t < 512 → EqC (aC 0) (aC 1) (aC 2) (aC 3) tr' c' t := by
  intro d
  induction d with
  | zero =>
    intro i c tr hc hi h
    obtain ⟨i, rfl⟩ : ∃ k, i = k + 1 := ⟨i - 1, by omega⟩
    rw [f_K_workOut_33, e4, if_pos (nI_le (show sz ≤ c by omega) (by omega))]
    exact ⟨tr, rfl, fun c' t hc' ht => h c' t (by omega) ht⟩
  | succ d ih =>
    intro i c tr hc hi h
    obtain ⟨i, rfl⟩ : ∃ k, i = k + 1 := ⟨i - 1, by omega⟩
    rw [f_K_workOut_33, e4, if_neg (nI_ge (show c < sz by omega) (by omega)), if_neg (show ¬ (200 : Int32) ≤ nI c from nI_ge (show c < 200 by omega) (by decide))]
    obtain ⟨tr1, a1, a2⟩ := w1_in (N := N) (iK := iK) (iB := iB) (x_iK := x_iK) (lK := lK) (lB := lB) (aK := aK) (aB := aB) (k33 := f_K_workOut_33 N iK lK aK iB lB aB iC aC x_iK i) hz hna e4 H (show c < sz by omega) 8 N 0 tr (by omega) (by omega) h (fun t ht => absurd ht (by omega))
    rw [show (0 : Int32) = nI 0 from rfl, a1]
    exact ih i (c + 1) tr1 (by omega) (by omega) a2
