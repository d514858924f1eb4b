/-! LIKE of the model: alike are those that have one node of the class -/
def sm (f : Nat → Nat) : Nat → Nat
  | 0 => 0
  | n + 1 => sm f n + f n
theorem sm_same {f g : Nat → Nat} : ∀ {n}, (∀ i, i < n → f i = g i) → sm f n = sm g n
  | 0, _ => rfl
  | n + 1, h => by
    show sm f n + f n = sm g n + g n
    rw [sm_same (fun i hi => h i (by omega)), h n (by omega)]
theorem sm_ge {f : Nat → Nat} : ∀ {n}, (∀ i, i < n → 1 ≤ f i) → n ≤ sm f n
  | 0, _ => Nat.le_refl _
  | n + 1, h => by
    show n + 1 ≤ sm f n + f n
    have := sm_ge (f := f) (n := n) (fun i hi => h i (by omega))
    have := h n (by omega)
    omega
/-- class nodes that are one in all are one -/
def CNu (sz : Nat) (c0 c1 c2 : Nat → Int32) : Prop := ∀ c c', c < sz → c' < sz → c0 c = c0 c' → c1 c = c1 c' → c2 c = c2 c' → c = c'
/-- sizes of class nodes as trees -/
def WtE (sz : Nat) (c0 c1 c2 : Nat → Int32) (wt : Nat → Nat) : Prop := ∀ c, c < sz → 1 ≤ wt c ∧ (c0 c = nI 3 ∨ c0 c = nI 4 ∨ c0 c = nI 5 → wt c = 1 + wt (c1 c).toNatClampNeg) ∧ (c0 c = nI 6 ∨ c0 c = nI 7 → wt c = 1 + wt (c1 c).toNatClampNeg + wt (c2 c).toNatClampNeg)
theorem al_loop {N no sz nn nr na : Nat} {o φ wt : Nat → Nat} {k8 k9 k10 k11 k13 c0 c1 c2 c3 b50 b51 : Nat → Int32} (hz : sz ≤ 200) (H : RNd 200 no sz o φ k8 k9 k10 k11 k13 c0 c1 c2 c3) (HC : CNd sz nn nr na c0 c1 c2 c3) (HU : CNu sz c0 c1 c2) (HW : WtE sz c0 c1 c2 wt) : ∀ (i n : Nat) (v : Int32) (a50 a51 : Nat → Int32) (e e' : Nat → Nat), isZ v → (∀ x, x < n → e x < no ∧ e' x < no ∧ a50 x = nI (200 + o (e x)) ∧ a51 x = nI (200 + o (e' x))) → sm (fun x => wt (φ (o (e x)))) n < i → sm (fun x => wt (φ (o (e x)))) n ≤ 399 → ∃ (r : Int32) (a50' a51' : Nat → Int32), f_M_areLike_19 N k8 k9 k10 b50 b51 i (nI n) v a50 a51 = some (r, a50', a51') ∧ isZ r ∧ (r = 1 ↔ v = 1 ∧ ∀ x, x < n → φ (o (e x)) = φ (o (e' x))) := by
  intro i
  induction i with
  | zero => intro n v a50 a51 e e' hv he hs; exact absurd hs (by omega)
  | succ i ih =>
    intro n v a50 a51 e e' hv he hs hs4
    have hn : n ≤ 399 := Nat.le_trans (sm_ge (fun x hx => (HW _ (H (e x) (he x hx).1).2.2.1).1)) hs4
    rw [f_M_areLike_19]
    cases n with
    | zero =>
      rw [if_pos (show nI 0 ≤ (0 : Int32) by decide), if_pos (isZ_n hv)]
      exact ⟨v, a50, a51, rfl, hv, ⟨fun h => ⟨h, fun x hx => absurd hx (by omega)⟩, fun h => h.1⟩⟩
    | succ n =>
      rw [if_neg (nI_nle (show 0 < n + 1 by omega) (by omega)), pk_m1]
      rcases hv with hv | hv
      · rw [if_pos hv, if_pos (isZ_n (Or.inl hv))]
        exact ⟨v, a50, a51, rfl, Or.inl hv, ⟨fun h => by rw [hv] at h; exact absurd h (by decide), fun h => h.1⟩⟩
      · obtain ⟨x1, x2, x3, x4⟩ := he n (by omega)
        obtain ⟨p1, p2, p3, K, hK, p8, p0, p9, p94, p11, p10, p96⟩ := H (e n) x1
        obtain ⟨q1, q2, q3, K', hK', q8, q0, q9, q94, q11, q10, q96⟩ := H (e' n) x2
        have gn : ¬ (nI n < 0 ∨ 400 ≤ n) := nI_gc (by omega) (by decide)
        have gx : ¬ (nI (200 + o (e n)) < 0 ∨ 400 ≤ 200 + o (e n)) := nI_gc (by omega) (by decide)
        have gy : ¬ (nI (200 + o (e' n)) < 0 ∨ 400 ≤ 200 + o (e' n)) := nI_gc (by omega) (by decide)
        have hsm : sm (fun x => wt (φ (o (e x)))) (n + 1) = sm (fun x => wt (φ (o (e x)))) n + wt (φ (o (e n))) := rfl
        rw [hsm] at hs hs4
        have Wx := HW _ p3
        rw [hv, if_neg i1z, nI_cl (show n < 2147483648 by omega), if_neg gn, x3, x4, nI_cl (show 200 + o (e n) < 2147483648 by omega), nI_cl (show 200 + o (e' n) < 2147483648 by omega), if_neg gx, if_neg gy, p8, q8]
        have allE : (∀ x, x < n + 1 → φ (o (e x)) = φ (o (e' x))) ↔ (∀ x, x < n → φ (o (e x)) = φ (o (e' x))) ∧ φ (o (e n)) = φ (o (e' n)) := ⟨fun h => ⟨fun x hx => h x (by omega), h n (by omega)⟩, fun h x hx => by
          by_cases q : x = n
          · rw [q]; exact h.2
          · exact h.1 x (by omega)⟩
        by_cases hKK : K = K'
        · subst hKK
          rw [if_pos rfl]
          unfold f_M_areLike_69
          rw [if_neg i1z, nI_cl (show 200 + o (e n) < 2147483648 by omega), if_neg gx, p8, nI_cl (show 200 + o (e' n) < 2147483648 by omega)]
          obtain ⟨Kx, hKx, kx0, -, d1, d2, d0, d45, d12, d3⟩ := HC _ p3
          have ex : Kx = K := (nI_eq (by omega) (by omega)).mp (kx0.symm.trans p0)
          subst ex
          obtain ⟨Ky, hKy, ky0, -, u1, u2, u0, u45, u12, u3⟩ := HC _ q3
          have ey : Ky = Kx := (nI_eq (by omega) (by omega)).mp (ky0.symm.trans q0)
          subst ey
          -- one node, or not, by its parts
          have same : φ (o (e n)) = φ (o (e' n)) ↔ c1 (φ (o (e n))) = c1 (φ (o (e' n))) ∧ c2 (φ (o (e n))) = c2 (φ (o (e' n))) := ⟨fun h => by rw [h]; exact ⟨rfl, rfl⟩, fun h => HU _ _ p3 q3 (by rw [p0, q0]) h.1 h.2⟩
          have lo : ∀ {y y' : Nat}, y < no → y' < no → (nI (φ (o y)) = nI (φ (o y')) ↔ φ (o y) = φ (o y')) := fun h h' => nI_eq (by have := (H _ h).2.2.1; omega) (by have := (H _ h').2.2.1; omega)
          have go0 : ∀ v' : Int32, isZ v' → ∃ (r : Int32) (a50' a51' : Nat → Int32), f_M_areLike_19 N k8 k9 k10 b50 b51 i (nI n) v' a50 a51 = some (r, a50', a51') ∧ isZ r ∧ (r = 1 ↔ v' = 1 ∧ ∀ x, x < n → φ (o (e x)) = φ (o (e' x))) := fun v' hv' => ih n v' a50 a51 e e' hv' (fun x hx => he x (by omega)) (by omega) (by omega)
          -- one part more
          have go1 : ∀ (v' : Int32) (y y' : Nat), isZ v' → y < no → y' < no → 1 + wt (φ (o y)) ≤ wt (φ (o (e n))) → ∃ (r : Int32) (a50' a51' : Nat → Int32), f_M_areLike_19 N k8 k9 k10 b50 b51 i (nI (n + 1)) v' (upd a50 n (nI (200 + o y))) (upd a51 n (nI (200 + o y'))) = some (r, a50', a51') ∧ isZ r ∧ (r = 1 ↔ v' = 1 ∧ (∀ x, x < n → φ (o (e x)) = φ (o (e' x))) ∧ φ (o y) = φ (o y')) := by
            intro v' y y' hv' hy hy' hw
            have e1 : sm (fun x => wt (φ (o (if x = n then y else e x)))) (n + 1) = sm (fun x => wt (φ (o (e x)))) n + wt (φ (o y)) := by
              show sm _ n + wt (φ (o (if n = n then y else e n))) = _
              rw [if_pos rfl, sm_same (g := fun x => wt (φ (o (e x)))) (fun i hi => by
                show wt (φ (o (if i = n then y else e i))) = _
                rw [if_neg (by omega)])]
            obtain ⟨r, s1, s2, r1, r2, r3⟩ := ih (n + 1) v' (upd a50 n (nI (200 + o y))) (upd a51 n (nI (200 + o y'))) (fun x => if x = n then y else e x) (fun x => if x = n then y' else e' x) hv' (fun x hx => by
              by_cases q : x = n
              · simp only [q, if_pos, up_s]; exact ⟨hy, hy', trivial, trivial⟩
              · simp only [if_neg q]; rw [up_n q, up_n q]; exact he x (by omega)) (by omega) (by omega)
            refine ⟨r, s1, s2, r1, r2, r3.trans ⟨fun h => ⟨h.1, fun x hx => ?_, ?_⟩, fun h => ⟨h.1, fun x hx => ?_⟩⟩⟩
            · have := h.2 x (by omega)
              simp only [if_neg (show ¬ x = n by omega)] at this; exact this
            · have := h.2 n (by omega)
              simp only [if_pos] at this; exact this
            · by_cases q : x = n
              · simp only [q, if_pos]; exact h.2.2
              · simp only [if_neg q]; exact h.2.1 x (by omega)
          have cases8 : Ky = 0 ∨ Ky = 1 ∨ Ky = 2 ∨ Ky = 3 ∨ Ky = 4 ∨ Ky = 5 ∨ Ky = 6 ∨ Ky = 7 := by omega
          rcases cases8 with z | z | z | z | z | z | z | z <;> subst z
          · -- a name
            rw [if_pos (show nI 0 = (0 : Int32) from rfl), if_neg gy, p9 rfl, q9 rfl]
            have s0 : φ (o (e n)) = φ (o (e' n)) ↔ c1 (φ (o (e n))) = c1 (φ (o (e' n))) := by
              rw [same, (d0 rfl).2, (u0 rfl).2]; exact ⟨fun h => h.1, fun h => ⟨h, rfl⟩⟩
            by_cases h : c1 (φ (o (e n))) = c1 (φ (o (e' n)))
            · rw [if_pos h]
              obtain ⟨r, s1, s2, r1, r2, r3⟩ := go0 1 (Or.inr rfl)
              refine ⟨r, s1, s2, r1, r2, r3.trans ?_⟩
              rw [allE, s0]
              exact ⟨fun q => ⟨rfl, q.2, h⟩, fun q => ⟨rfl, q.2.1⟩⟩
            · rw [if_neg h]
              obtain ⟨r, s1, s2, r1, r2, r3⟩ := go0 0 (Or.inl rfl)
              refine ⟨r, s1, s2, r1, r2, r3.trans ?_⟩
              rw [allE, s0]
              exact ⟨fun q => absurd q.1 (by decide), fun q => absurd q.2.2 h⟩
          · rw [if_neg (by decide), if_neg (by decide), if_neg (by decide), if_neg (by decide), if_pos (by decide)]
            obtain ⟨r, s1, s2, r1, r2, r3⟩ := go0 1 (Or.inr rfl)
            refine ⟨r, s1, s2, r1, r2, r3.trans ?_⟩
            rw [allE, same, (d12 (Or.inl rfl)).1, (d12 (Or.inl rfl)).2, (u12 (Or.inl rfl)).1, (u12 (Or.inl rfl)).2]
            exact ⟨fun q => ⟨rfl, q.2, rfl, rfl⟩, fun q => ⟨rfl, q.2.1⟩⟩
          · rw [if_neg (by decide), if_neg (by decide), if_neg (by decide), if_neg (by decide), if_pos (by decide)]
            obtain ⟨r, s1, s2, r1, r2, r3⟩ := go0 1 (Or.inr rfl)
            refine ⟨r, s1, s2, r1, r2, r3.trans ?_⟩
            rw [allE, same, (d12 (Or.inr rfl)).1, (d12 (Or.inr rfl)).2, (u12 (Or.inr rfl)).1, (u12 (Or.inr rfl)).2]
            exact ⟨fun q => ⟨rfl, q.2, rfl, rfl⟩, fun q => ⟨rfl, q.2.1⟩⟩
          · -- not
            obtain ⟨y, y1, y2, y3⟩ := p10 (by omega)
            obtain ⟨y', w1, w2, w3⟩ := q10 (by omega)
            rw [if_pos (by decide)] at y3 w3
            rw [if_neg (by decide), if_neg (by decide), if_neg (by decide), if_pos (by decide)]
            unfold f_M_areLike_199
            rw [nI_cl (show 200 + o (e n) < 2147483648 by omega), if_neg gx, nI_cl (show n < 2147483648 by omega), if_neg gn, nI_cl (show 200 + o (e' n) < 2147483648 by omega), if_neg gy, if_pos (by decide), y2, w2, nI_m]
            have wq := Wx.2.1 (Or.inl p0)
            rw [y3, nI_cl (by have := (H y (by omega)).2.2.1; omega)] at wq
            obtain ⟨r, s1, s2, r1, r2, r3⟩ := go1 1 y y' (Or.inr rfl) (by omega) (by omega) (by omega)
            refine ⟨r, s1, s2, r1, r2, r3.trans ?_⟩
            rw [allE, same, y3, w3, d3 rfl, u3 rfl, lo (by omega) (by omega)]
            exact ⟨fun q => ⟨rfl, q.2.1, q.2.2, rfl⟩, fun q => ⟨rfl, q.2.1, q.2.2.1⟩⟩
          · obtain ⟨y, y1, y2, y3⟩ := p10 (by omega)
            obtain ⟨y', w1, w2, w3⟩ := q10 (by omega)
            rw [if_pos (by decide)] at y3 w3
            have wq := Wx.2.1 (Or.inr (Or.inl p0))
            rw [y3, nI_cl (by have := (H y (by omega)).2.2.1; omega)] at wq
            rw [if_neg (by decide), if_pos (by decide)]
            unfold f_M_areLike_131 f_M_areLike_153
            rw [nI_cl (show 200 + o (e n) < 2147483648 by omega), if_neg gx, nI_cl (show 200 + o (e' n) < 2147483648 by omega), if_neg gy, nI_cl (show n < 2147483648 by omega), if_neg gx, if_neg gn, if_neg gy, if_neg gx, if_neg gn, if_neg gy, y2, w2, nI_m, p94 (by omega), q94 (by omega)]
            by_cases h : c2 (φ (o (e n))) = c2 (φ (o (e' n)))
            · rw [if_pos h]
              obtain ⟨r, s1, s2, r1, r2, r3⟩ := go1 1 y y' (Or.inr rfl) (by omega) (by omega) (by omega)
              refine ⟨r, s1, s2, r1, r2, r3.trans ?_⟩
              rw [allE, same, y3, w3, lo (by omega) (by omega)]
              exact ⟨fun q => ⟨rfl, q.2.1, q.2.2, h⟩, fun q => ⟨rfl, q.2.1, q.2.2.1⟩⟩
            · rw [if_neg h]
              obtain ⟨r, s1, s2, r1, r2, r3⟩ := go1 0 y y' (Or.inl rfl) (by omega) (by omega) (by omega)
              refine ⟨r, s1, s2, r1, r2, r3.trans ?_⟩
              rw [allE, same]
              exact ⟨fun q => absurd q.1 (by decide), fun q => absurd q.2.2.2 h⟩
          · obtain ⟨y, y1, y2, y3⟩ := p10 (by omega)
            obtain ⟨y', w1, w2, w3⟩ := q10 (by omega)
            rw [if_pos (by decide)] at y3 w3
            have wq := Wx.2.1 (Or.inr (Or.inr p0))
            rw [y3, nI_cl (by have := (H y (by omega)).2.2.1; omega)] at wq
            rw [if_neg (by decide), if_neg (by decide), if_pos (by decide)]
            unfold f_M_areLike_131 f_M_areLike_153
            rw [nI_cl (show 200 + o (e n) < 2147483648 by omega), if_neg gx, nI_cl (show 200 + o (e' n) < 2147483648 by omega), if_neg gy, nI_cl (show n < 2147483648 by omega), if_neg gx, if_neg gn, if_neg gy, if_neg gx, if_neg gn, if_neg gy, y2, w2, nI_m, p94 (by omega), q94 (by omega)]
            by_cases h : c2 (φ (o (e n))) = c2 (φ (o (e' n)))
            · rw [if_pos h]
              obtain ⟨r, s1, s2, r1, r2, r3⟩ := go1 1 y y' (Or.inr rfl) (by omega) (by omega) (by omega)
              refine ⟨r, s1, s2, r1, r2, r3.trans ?_⟩
              rw [allE, same, y3, w3, lo (by omega) (by omega)]
              exact ⟨fun q => ⟨rfl, q.2.1, q.2.2, h⟩, fun q => ⟨rfl, q.2.1, q.2.2.1⟩⟩
            · rw [if_neg h]
              obtain ⟨r, s1, s2, r1, r2, r3⟩ := go1 0 y y' (Or.inl rfl) (by omega) (by omega) (by omega)
              refine ⟨r, s1, s2, r1, r2, r3.trans ?_⟩
              rw [allE, same]
              exact ⟨fun q => absurd q.1 (by decide), fun q => absurd q.2.2.2 h⟩
          all_goals
            obtain ⟨y, y1, y2, y3⟩ := p10 (by omega)
            obtain ⟨y', w1, w2, w3⟩ := q10 (by omega)
            obtain ⟨t, t1, t2, t3⟩ := p96 (by omega)
            obtain ⟨t', s1', s2', s3'⟩ := q96 (by omega)
            rw [if_neg (by decide)] at y3 w3
            have wq := Wx.2.2 (by first | exact Or.inl p0 | exact Or.inr p0)
            rw [t3, y3, nI_cl (show φ (o t) < 2147483648 by have := (H t (by omega)).2.2.1; omega), nI_cl (show φ (o y) < 2147483648 by have := (H y (by omega)).2.2.1; omega)] at wq
            have wy := (HW _ (H y (by omega)).2.2.1).1
            rw [if_neg (by decide), if_neg (by decide), if_neg (by decide), if_neg (by decide), if_neg (by decide)]
            unfold f_M_areLike_199
            rw [nI_cl (show 200 + o (e n) < 2147483648 by omega), if_neg gx, nI_cl (show n < 2147483648 by omega), if_neg gn, nI_cl (show 200 + o (e' n) < 2147483648 by omega), if_neg gy, if_neg (by decide), nI_m, if_neg (nI_g (show n + 1 < 400 by have := sm_ge (f := fun x => wt (φ (o (e x)))) (n := n) (fun x hx => (HW _ (H (e x) (he x (by omega)).1).2.2.1).1); omega) (by decide)), nI_cl (show n + 1 < 2147483648 by omega), y2, w2, t2, s2', nI_m]
            have e1 : sm (fun x => wt (φ (o (if x = n + 1 then t else if x = n then y else e x)))) (n + 1 + 1) = sm (fun x => wt (φ (o (e x)))) n + wt (φ (o y)) + wt (φ (o t)) := by
              show (sm _ n + wt (φ (o (if n = n + 1 then t else if n = n then y else e n)))) + wt (φ (o (if n + 1 = n + 1 then t else if n + 1 = n then y else e (n + 1)))) = _
              rw [if_neg (show ¬ n = n + 1 by omega), if_pos rfl, if_pos rfl, sm_same (g := fun x => wt (φ (o (e x)))) (fun i hi => by
                show wt (φ (o (if i = n + 1 then t else if i = n then y else e i))) = _
                rw [if_neg (by omega), if_neg (by omega)])]
            obtain ⟨r, z1, z2, r1, r2, r3⟩ := ih (n + 1 + 1) 1 (upd (upd a50 n (nI (200 + o y))) (n + 1) (nI (200 + o t))) (upd (upd a51 n (nI (200 + o y'))) (n + 1) (nI (200 + o t'))) (fun x => if x = n + 1 then t else if x = n then y else e x) (fun x => if x = n + 1 then t' else if x = n then y' else e' x) (Or.inr rfl) (fun x hx => by
              by_cases q : x = n + 1
              · simp only [q, if_pos, up_s]; exact ⟨by omega, by omega, trivial, trivial⟩
              · by_cases q' : x = n
                · simp only [if_neg q]
                  rw [up_n q, up_n q]
                  simp only [q', if_pos, up_s]; exact ⟨by omega, by omega, trivial, trivial⟩
                · simp only [if_neg q, if_neg q']; rw [up_n q, up_n q, up_n q', up_n q']; exact he x (by omega)) (by omega) (by omega)
            refine ⟨r, z1, z2, r1, r2, r3.trans ?_⟩
            rw [allE, same, y3, w3, t3, s3', lo (by omega) (by omega), lo (by omega) (by omega)]
            constructor
            · intro h
              have hn1 := h.2 (n + 1) (by omega)
              have hn0 := h.2 n (by omega)
              simp only [if_pos] at hn1
              simp only [if_neg (show ¬ n = n + 1 by omega), if_pos] at hn0
              refine ⟨rfl, fun x hx => ?_, hn1, hn0⟩
              have := h.2 x (by omega)
              simp only [if_neg (show ¬ x = n + 1 by omega), if_neg (show ¬ x = n by omega)] at this
              exact this
            · intro h
              refine ⟨rfl, fun x hx => ?_⟩
              by_cases q : x = n + 1
              · simp only [q, if_pos]; exact h.2.2.1
              · by_cases q' : x = n
                · simp only [if_neg q]; simp only [q', if_pos]; exact h.2.2.2
                · simp only [if_neg q, if_neg q']; exact h.2.1 x (by omega)
        · rw [if_neg (fun z => hKK ((nI_eq (by omega) (by omega)).mp z))]
          unfold f_M_areLike_69
          rw [if_pos rfl]
          refine ⟨0, a50, a51, rfl, Or.inl rfl, ⟨fun h => absurd h (by decide), fun h => ?_⟩⟩
          have h2 := h.2 n (by omega)
          rw [← h2] at q0
          exact absurd ((nI_eq (by omega) (by omega)).mp (p0.symm.trans q0)) hKK
theorem al_eq {N no sz nn nr na i j : Nat} {o φ wt : Nat → Nat} {k8 k9 k10 k11 k13 c0 c1 c2 c3 a50 a51 : Nat → Int32} (hN : 100000 ≤ N) (hz : sz ≤ 200) (H : RNd 200 no sz o φ k8 k9 k10 k11 k13 c0 c1 c2 c3) (HC : CNd sz nn nr na c0 c1 c2 c3) (HU : CNu sz c0 c1 c2) (HW : WtE sz c0 c1 c2 wt) (hi : i < no) (hj : j < no) (hw : wt (φ (o i)) ≤ 200) : ∃ (r : Int32) (a50' a51' : Nat → Int32), f_M_areLike N (nI (200 + o i)) (nI (200 + o j)) k8 k9 k10 a50 a51 = some (r, a50', a51') ∧ isZ r ∧ (r = 1 ↔ φ (o i) = φ (o j)) := by
  unfold f_M_areLike
  have es : sm (fun x => wt (φ (o ((fun _ => i) x)))) 1 = wt (φ (o i)) := by show 0 + _ = _; rw [Nat.zero_add]
  obtain ⟨r, s1, s2, r1, r2, r3⟩ := al_loop (N := N) (b50 := a50) (b51 := a51) hz H HC HU HW N 1 1 (upd a50 0 (nI (200 + o i))) (upd a51 0 (nI (200 + o j))) (fun _ => i) (fun _ => j) (Or.inr rfl) (fun x hx => by
    have : x = 0 := by omega
    subst this
    exact ⟨hi, hj, up_s, up_s⟩) (by rw [es]; omega) (by rw [es]; omega)
  exact ⟨r, s1, s2, r1, r2, r3.trans ⟨fun h => h.2 0 (by omega), fun h => ⟨rfl, fun x _ => h⟩⟩⟩
