/-! the model's sets of atoms; all its truths -/
/-- atoms of both -/
def AtR (h hA n no nn nr : Nat) (o φ : Nat → Nat) (c5 c6 c7 c8 k32 k33 k34 k35 : Nat → Int32) : Prop := ∀ k, k < n → k32 (hA + k) = c5 k ∧ k33 (hA + k) = c6 k ∧ ((c5 k = -1 ∧ (∃ a : Nat, a < nn ∧ c6 k = nI a) ∧ c7 k = -1 ∧ c8 k = 0) ∨ (∃ r : Nat, r < nr ∧ c5 k = nI r ∧ c6 k = -1 ∧ ∃ j, j < no ∧ c7 k = nI (φ (o j)) ∧ k34 (hA + k) = nI (h + o j) ∧ k35 (hA + k) = c8 k ∧ isZ (c8 k)))
/-- whether X of atom k is at a type -/
def xP (tr : Nat → Int64) (c5 c7 c8 : Nat → Int32) (t k : Nat) : Bool := !(decide (c5 k = -1)) && (tb tr ((c7 k).toNatClampNeg * 8) t != decide (c8 k = 1))
theorem up_s {f : Nat → Int32} {v : Int32} {r : Nat} : upd f r v r = v := by unfold upd; rw [if_pos rfl]
theorem up_n {f : Nat → Int32} {v : Int32} {r j : Nat} (h : j ≠ r) : upd f r v j = f j := by unfold upd; rw [if_neg h]
theorem fr_in {N no n nr r : Nat} {m8 m9 m10 m11 m13 m30 m32 m34 m35 m57 m58 m59 m60 c5 is x58 : Nat → Int32} {bl : Nat → Nat → Bool} {k389 : Int32 → (Nat → Int32) → (Nat → Int32) → Option ((Nat → Int32) × (Nat → Int32) × (Nat → Int32) × (Nat → Int32))} (hn : n ≤ 9) (hnr : nr ≤ 3) (hr : r < 3) (h32 : ∀ k, k < n → m32 k = c5 k) (hc : ∀ k, k < n → c5 k = -1 ∨ ∃ r : Nat, r < nr ∧ c5 k = nI r) (hbl : ∀ r s, r < 3 → s < 3 → f_M_isBelow N (nI r) (nI s) m30 = some (if bl r s = true then 1 else 0)) : ∀ (d i k : Nat) (f5 f6 : Nat → Int32), k + d = n → d < i → f5 r = nI (mkS (ownP c5 r) k) → f6 r = nI (mkS (farP c5 bl r) k) → ∃ f5' f6' : Nat → Int32, f_M_findTruths_410 N (nI no) (nI n) m8 m9 m10 m11 m13 m30 m32 m34 m35 m57 m58 m59 m60 k389 (nI r) is x58 i (nI k) f6 f5 = k389 (nI (r + 1)) f6' f5' ∧ f5' r = nI (mkS (ownP c5 r) n) ∧ f6' r = nI (mkS (farP c5 bl r) n) ∧ ∀ j, j ≠ r → f5' j = f5 j ∧ f6' j = f6 j := by
  intro d
  induction d with
  | zero =>
    intro i k f5 f6 hk hi h5 h6
    obtain ⟨i, rfl⟩ : ∃ k, i = k + 1 := ⟨i - 1, by omega⟩
    have ek : k = n := by omega
    subst ek
    rw [f_M_findTruths_410, if_pos (nI_le (Nat.le_refl _) (by omega)), nI_m]
    exact ⟨f5, f6, rfl, h5, h6, fun _ _ => ⟨rfl, rfl⟩⟩
  | succ d ih =>
    intro i k f5 f6 hk hi h5 h6
    obtain ⟨i, rfl⟩ : ∃ k, i = k + 1 := ⟨i - 1, by omega⟩
    have hkn : k < n := by omega
    have g3 : ¬ (nI r < 0 ∨ 3 ≤ r) := nI_gc (by omega) (by decide)
    have h474 : ∀ (x59 x60 : Nat → Int32) (s2 s3 : Int32), f_M_findTruths_474 N (nI no) (nI n) m8 m9 m10 m11 m13 m30 m32 m34 m35 m57 m58 m59 m60 (f_M_findTruths_410 N (nI no) (nI n) m8 m9 m10 m11 m13 m30 m32 m34 m35 m57 m58 m59 m60 k389 (nI r) is x58 i) (nI r) (nI k) (nI r) s2 s3 is x58 x59 x60 = f_M_findTruths_410 N (nI no) (nI n) m8 m9 m10 m11 m13 m30 m32 m34 m35 m57 m58 m59 m60 k389 (nI r) is x58 i (nI (k + 1)) x59 (upd x60 r (s2 ||| s3)) := by
      intro x59 x60 s2 s3
      unfold f_M_findTruths_474
      rw [nI_cl (show r < 2147483648 by omega), if_neg g3, nI_m]
    have h455 : ∀ (x59 x60 : Nat → Int32), x60 r = nI (mkS (ownP c5 r) k) → x60 = f5 → f_M_findTruths_455 N (nI no) (nI n) m8 m9 m10 m11 m13 m30 m32 m34 m35 m57 m58 m59 m60 (f_M_findTruths_410 N (nI no) (nI n) m8 m9 m10 m11 m13 m30 m32 m34 m35 m57 m58 m59 m60 k389 (nI r) is x58 i) (nI r) (nI k) (c5 k) is x58 x59 x60 = f_M_findTruths_410 N (nI no) (nI n) m8 m9 m10 m11 m13 m30 m32 m34 m35 m57 m58 m59 m60 k389 (nI r) is x58 i (nI (k + 1)) x59 (upd f5 r (nI (mkS (ownP c5 r) (k + 1)))) := by
      intro x59 x60 q1 q2
      unfold f_M_findTruths_455
      rw [nI_cl (show r < 2147483648 by omega), if_neg g3, h474, h474, q1, pw9 k (by omega), q2]
      by_cases e : c5 k = nI r
      · rw [if_pos e, nI_or, ← mkS_step (p := ownP c5 r) (by unfold ownP; rw [e]; simp)]
      · rw [if_neg e, show (0 : Int32) = nI 0 from rfl, nI_or, Nat.or_zero, mkS_skip (p := ownP c5 r) (by unfold ownP; simp [e])]
    have h443 : f_M_findTruths_443 N (nI no) (nI n) m8 m9 m10 m11 m13 m30 m32 m34 m35 m57 m58 m59 m60 (f_M_findTruths_410 N (nI no) (nI n) m8 m9 m10 m11 m13 m30 m32 m34 m35 m57 m58 m59 m60 k389 (nI r) is x58 i) (nI r) (nI k) (c5 k) is x58 f6 f5 = f_M_findTruths_410 N (nI no) (nI n) m8 m9 m10 m11 m13 m30 m32 m34 m35 m57 m58 m59 m60 k389 (nI r) is x58 i (nI (k + 1)) (upd f6 r (nI (mkS (farP c5 bl r) k ||| 2 ^ k))) (upd f5 r (nI (mkS (ownP c5 r) (k + 1)))) := by
      unfold f_M_findTruths_443
      rw [nI_cl (show r < 2147483648 by omega), if_neg g3, h6, pw9 k (by omega), nI_or]
      exact h455 _ _ h5 rfl
    have go1 := ih i (k + 1) (upd f5 r (nI (mkS (ownP c5 r) (k + 1)))) (upd f6 r (nI (mkS (farP c5 bl r) (k + 1)))) (by omega) (by omega) up_s up_s
    rw [f_M_findTruths_410, if_neg (nI_ge hkn (by omega)), if_neg (nI_g (show k < 18 by omega) (by decide)), nI_cl (show k < 2147483648 by omega), h32 k hkn]
    have fin1 : farP c5 bl r k = true → ∃ f5' f6' : Nat → Int32, f_M_findTruths_410 N (nI no) (nI n) m8 m9 m10 m11 m13 m30 m32 m34 m35 m57 m58 m59 m60 k389 (nI r) is x58 i (nI (k + 1)) (upd f6 r (nI (mkS (farP c5 bl r) k ||| 2 ^ k))) (upd f5 r (nI (mkS (ownP c5 r) (k + 1)))) = k389 (nI (r + 1)) f6' f5' ∧ f5' r = nI (mkS (ownP c5 r) n) ∧ f6' r = nI (mkS (farP c5 bl r) n) ∧ ∀ j, j ≠ r → f5' j = f5 j ∧ f6' j = f6 j := fun q => by
      rw [← mkS_step q]
      obtain ⟨f5', f6', a1, a2, a3, a4⟩ := go1
      exact ⟨f5', f6', a1, a2, a3, fun j hj => ⟨(a4 j hj).1.trans (up_n hj), (a4 j hj).2.trans (up_n hj)⟩⟩
    have fin2 : ¬ farP c5 bl r k = true → ∃ f5' f6' : Nat → Int32, f_M_findTruths_410 N (nI no) (nI n) m8 m9 m10 m11 m13 m30 m32 m34 m35 m57 m58 m59 m60 k389 (nI r) is x58 i (nI (k + 1)) f6 (upd f5 r (nI (mkS (ownP c5 r) (k + 1)))) = k389 (nI (r + 1)) f6' f5' ∧ f5' r = nI (mkS (ownP c5 r) n) ∧ f6' r = nI (mkS (farP c5 bl r) n) ∧ ∀ j, j ≠ r → f5' j = f5 j ∧ f6' j = f6 j := fun q => by
      obtain ⟨f5', f6', a1, a2, a3, a4⟩ := ih i (k + 1) (upd f5 r (nI (mkS (ownP c5 r) (k + 1)))) f6 (by omega) (by omega) up_s (by rw [mkS_skip q]; exact h6)
      exact ⟨f5', f6', a1, a2, a3, fun j hj => ⟨(a4 j hj).1.trans (up_n hj), (a4 j hj).2⟩⟩
    rcases hc k hkn with h | ⟨s, hs, h⟩
    · rw [if_pos (show c5 k < 0 by rw [h]; decide), h455 f6 f5 h5 rfl]
      exact fin2 (by unfold farP; rw [h]; simp [show ¬ (-1 : Int32) = nI r from fun z => nI_neg1 (by omega) z.symm])
    · rw [if_neg (show ¬ c5 k < 0 by rw [h]; exact nI_pos (by omega))]
      by_cases e : c5 k = nI r
      · rw [if_pos e, h443]
        exact fin1 (by unfold farP; rw [e]; simp)
      · have hsr : ¬ nI s = nI r := fun z => e (h.trans z)
        have hs1 : ¬ nI s = -1 := nI_neg1 (by omega)
        have o2e : farP c5 bl r k = bl r s := by unfold farP; rw [h, nI_cl (by omega)]; simp [hsr, hs1]
        have hb2 := hbl r s hr (by omega)
        rw [← h] at hb2
        rw [if_neg e, hb2, Option.bind_some]
        by_cases hb : bl r s = true
        · rw [if_pos hb, if_neg i1z, h443]
          exact fin1 (o2e.trans hb)
        · rw [if_neg hb, if_pos rfl, h455 f6 f5 h5 rfl]
          exact fin2 (by rw [o2e]; exact hb)
theorem fr_eq {N no n nr : Nat} {m8 m9 m10 m11 m13 m30 m32 m34 m35 m57 m58 m59 m60 c5 is x58 : Nat → Int32} {bl : Nat → Nat → Bool} (hN : 100000 ≤ N) (hn : n ≤ 9) (hnr : nr ≤ 3) (h32 : ∀ k, k < n → m32 k = c5 k) (hc : ∀ k, k < n → c5 k = -1 ∨ ∃ r : Nat, r < nr ∧ c5 k = nI r) (hbl : ∀ r s, r < 3 → s < 3 → f_M_isBelow N (nI r) (nI s) m30 = some (if bl r s = true then 1 else 0)) : ∃ f5 f6 : Nat → Int32, f_M_findTruths_389 N (nI no) (nI n) m8 m9 m10 m11 m13 m30 m32 m34 m35 m57 m58 m59 m60 is x58 N (0 : Int32) m59 m60 = some (is, x58, f6, f5) ∧ ∀ r, r < 3 → f5 r = nI (mkS (ownP c5 r) n) ∧ f6 r = nI (mkS (farP c5 bl r) n) := by
  obtain ⟨M, rfl⟩ : ∃ M, N = M + 4 := ⟨N - 4, by omega⟩
  have step : ∀ (r i : Nat) (f5 f6 : Nat → Int32), r < 3 → ∃ f5' f6' : Nat → Int32, f_M_findTruths_389 (M + 4) (nI no) (nI n) m8 m9 m10 m11 m13 m30 m32 m34 m35 m57 m58 m59 m60 is x58 (i + 1) (nI r) f6 f5 = f_M_findTruths_389 (M + 4) (nI no) (nI n) m8 m9 m10 m11 m13 m30 m32 m34 m35 m57 m58 m59 m60 is x58 i (nI (r + 1)) f6' f5' ∧ f5' r = nI (mkS (ownP c5 r) n) ∧ f6' r = nI (mkS (farP c5 bl r) n) ∧ ∀ j, j ≠ r → f5' j = f5 j ∧ f6' j = f6 j := by
    intro r i f5 f6 hr
    rw [f_M_findTruths_389, if_neg (show ¬ (3 : Int32) ≤ nI r from nI_ge hr (by decide)), if_neg (nI_g (show r < 3 by omega) (by decide)), nI_cl (by omega)]
    obtain ⟨f5', f6', a1, a2, a3, a4⟩ := fr_in (N := M + 4) (no := no) (m8 := m8) (m9 := m9) (m10 := m10) (m11 := m11) (m13 := m13) (m34 := m34) (m35 := m35) (m57 := m57) (m58 := m58) (m59 := m59) (m60 := m60) (is := is) (x58 := x58) (k389 := f_M_findTruths_389 (M + 4) (nI no) (nI n) m8 m9 m10 m11 m13 m30 m32 m34 m35 m57 m58 m59 m60 is x58 i) hn hnr hr h32 hc hbl n (M + 4) 0 (upd f5 r 0) (upd f6 r 0) (by omega) (by omega) up_s up_s
    rw [show (0 : Int32) = nI 0 from rfl] at a1 a4 ⊢
    exact ⟨f5', f6', a1, a2, a3, fun j hj => ⟨(a4 j hj).1.trans (up_n hj), (a4 j hj).2.trans (up_n hj)⟩⟩
  obtain ⟨f50, f60, e0, p0, q0, -⟩ := step 0 (M + 3) m60 m59 (by decide)
  obtain ⟨f51, f61, e1, p1, q1, r1⟩ := step 1 (M + 2) f50 f60 (by decide)
  obtain ⟨f52, f62, e2, p2, q2, r2⟩ := step 2 (M + 1) f51 f61 (by decide)
  rw [show (0 : Int32) = nI 0 from rfl]
  rw [e0, e1, e2, f_M_findTruths_389, if_pos (show (3 : Int32) ≤ nI (2 + 1) by decide)]
  refine ⟨f52, f62, rfl, fun r hr => ?_⟩
  have h3 : r = 0 ∨ r = 1 ∨ r = 2 := by omega
  rcases h3 with e | e | e <;> subst e
  · rw [(r2 0 (by decide)).1, (r2 0 (by decide)).2, (r1 0 (by decide)).1, (r1 0 (by decide)).2]; exact ⟨p0, q0⟩
  · rw [(r2 1 (by decide)).1, (r2 1 (by decide)).2]; exact ⟨p1, q1⟩
  · exact ⟨p2, q2⟩
theorem xx_loop {N no n nn nr t sz : Nat} {o φ : Nat → Nat} {m8 m9 m10 m11 m13 m30 m32 m34 m35 m57 m58 m59 m60 m33 c5 c6 c7 c8 is : Nat → Int32} {tr : Nat → Int64} {k2 : Int32 → (Nat → Int32) → (Nat → Int32) → Option ((Nat → Int32) × (Nat → Int32) × (Nat → Int32) × (Nat → Int32))} (hn : n ≤ 9) (hnr : nr ≤ 3) (ho : ∀ j, j < no → o j < 200) (hφ : ∀ j, j < no → φ (o j) < 200) (hA : AtR 0 0 n no nn nr o φ c5 c6 c7 c8 m32 m33 m34 m35) (ht : t < 512) (hT : ∀ j, j < no → TN tr is (φ (o j)) (o j) t) : ∀ (d i k : Nat) (x : Nat → Int32), k + d = n → d < i → x t = nI (mkS (xP tr c5 c7 c8 t) k) → ∃ x' : Nat → Int32, f_M_findTruths_320 N (nI no) (nI n) m8 m9 m10 m11 m13 m30 m32 m34 m35 m57 m58 m59 m60 k2 (nI t) is i (nI k) x = k2 (nI (t + 1)) is x' ∧ x' t = nI (mkS (xP tr c5 c7 c8 t) n) ∧ ∀ u, u ≠ t → x' u = x u := by
  intro d
  induction d with
  | zero =>
    intro i k x hk hi hx
    obtain ⟨i, rfl⟩ : ∃ k, i = k + 1 := ⟨i - 1, by omega⟩
    have ek : k = n := by omega
    subst ek
    rw [f_M_findTruths_320, if_pos (nI_le (Nat.le_refl _) (by omega)), nI_m]
    exact ⟨x, rfl, hx, fun _ _ => rfl⟩
  | succ d ih =>
    intro i k x hk hi hx
    obtain ⟨i, rfl⟩ : ∃ k, i = k + 1 := ⟨i - 1, by omega⟩
    have hkn : k < n := by omega
    obtain ⟨a32, -, h⟩ := hA k hkn
    rw [Nat.zero_add] at a32 h
    rw [f_M_findTruths_320, if_neg (nI_ge hkn (by omega)), if_neg (nI_g (show k < 18 by omega) (by decide)), nI_cl (show k < 2147483648 by omega), a32]
    rcases h with ⟨h5, -, h7, h8⟩ | ⟨r, hr, h5, h6, j, hj, h7, h34, h35, hz8⟩
    · have : ¬ xP tr c5 c7 c8 t k = true := by unfold xP; rw [h5]; simp
      rw [h5, if_pos (by decide), nI_m]
      exact ih i (k + 1) x (by omega) (by omega) (by rw [mkS_skip this]; exact hx)
    · have hoj := ho j hj
      have hfj := hφ j hj
      have hTj := hT j hj
      rw [Nat.zero_add] at h34
      rw [h5, if_neg (nI_pos (by omega)), h34, ix512, if_neg (nI_g (show 512 * o j + t < 102400 by omega) (by decide)), nI_cl (show 512 * o j + t < 2147483648 by omega), h35, nI_m]
      have hxp : xP tr c5 c7 c8 t k = (tb tr (φ (o j) * 8) t != decide (c8 k = 1)) := by
        unfold xP
        rw [h5, h7, nI_cl (by omega)]
        have : decide (nI r = -1) = false := decide_eq_false (nI_neg1 (by omega))
        rw [this]; rfl
      by_cases e : is (512 * o j + t) = c8 k
      · have : ¬ xP tr c5 c7 c8 t k = true := by
          rw [hxp]
          have e2 : tb tr (φ (o j) * 8) t = decide (c8 k = 1) := by
            rw [← e]
            cases q : tb tr (φ (o j) * 8) t
            · exact (decide_eq_false (fun z => by rw [hTj.2.mp z] at q; cases q)).symm
            · exact (decide_eq_true (hTj.2.mpr q)).symm
          rw [e2]; simp
        rw [if_pos e]
        exact ih i (k + 1) x (by omega) (by omega) (by rw [mkS_skip this]; exact hx)
      · have hp : xP tr c5 c7 c8 t k = true := by
          rw [hxp]
          rcases hTj.1 with z | z <;> rcases hz8 with y | y
          · exact absurd (z.trans y.symm) e
          · have : tb tr (φ (o j) * 8) t = false := by
              cases q : tb tr (φ (o j) * 8) t
              · rfl
              · rw [hTj.2.mpr q] at z; exact absurd z (by decide)
            rw [this, y]; rfl
          · rw [hTj.2.mp z, y]; rfl
          · exact absurd (z.trans y.symm) e
        rw [if_neg e, if_neg (nI_g (show t < 512 by omega) (by decide)), nI_cl (show t < 2147483648 by omega), hx, pw9 k (by omega), nI_or, ← mkS_step hp]
        obtain ⟨x', a1, a2, a3⟩ := ih i (k + 1) (upd x t (nI (mkS (xP tr c5 c7 c8 t) (k + 1)))) (by omega) (by omega) up_s
        exact ⟨x', a1, a2, fun u hu => (a3 u hu).trans (up_n hu)⟩
theorem f2_loop {N no n nn nr na sz : Nat} {o φ : Nat → Nat} {m8 m9 m10 m11 m13 m30 m32 m34 m35 m57 m58 m59 m60 m33 c0 c1 c2 c3 c5 c6 c7 c8 : Nat → Int32} {tr : Nat → Int64} (hN : 100000 ≤ N) (hn : n ≤ 9) (hnr : nr ≤ 3) (hz : sz ≤ 200) (hna : na ≤ 9) (hno : no ≤ 200) (H : RNd 0 no sz o φ m8 m9 m10 m11 m13 c0 c1 c2 c3) (HC : CNd sz nn nr na c0 c1 c2 c3) (hE : ∀ c t, c < sz → t < 512 → EqC c0 c1 c2 c3 tr c t) (hA : AtR 0 0 n no nn nr o φ c5 c6 c7 c8 m32 m33 m34 m35) : ∀ (d i t : Nat) (is x : Nat → Int32), t + d = 2 ^ n → d < i → (∀ t', t' < t → (∀ j, j < no → TN tr is (φ (o j)) (o j) t') ∧ x t' = nI (mkS (xP tr c5 c7 c8 t') n)) → ∃ is' x' : Nat → Int32, f_M_findTruths_2 N (nI no) (nI n) m8 m9 m10 m11 m13 m30 m32 m34 m35 m57 m58 m59 m60 i (nI t) is x = f_M_findTruths_389 N (nI no) (nI n) m8 m9 m10 m11 m13 m30 m32 m34 m35 m57 m58 m59 m60 is' x' N (0 : Int32) m59 m60 ∧ ∀ t', t' < 2 ^ n → (∀ j, j < no → TN tr is' (φ (o j)) (o j) t') ∧ x' t' = nI (mkS (xP tr c5 c7 c8 t') n) := by
  have h9 := pw9_le n (by omega)
  intro d
  induction d with
  | zero =>
    intro i t is x ht hi h
    obtain ⟨i, rfl⟩ : ∃ k, i = k + 1 := ⟨i - 1, by omega⟩
    rw [f_M_findTruths_2, M_types_eq hn, Option.bind_some, if_pos (nI_le (show 2 ^ n ≤ t by omega) (by omega))]
    exact ⟨is, x, rfl, fun t' h' => h t' (by omega)⟩
  | succ d ih =>
    intro i t is x ht hi h
    obtain ⟨i, rfl⟩ : ∃ k, i = k + 1 := ⟨i - 1, by omega⟩
    rw [f_M_findTruths_2, M_types_eq hn, Option.bind_some, if_neg (nI_ge (show t < 2 ^ n by omega) (by omega))]
    obtain ⟨is1, a1, a2, a3⟩ := ft_in (N := N) (n := n) (m30 := m30) (m32 := m32) (m34 := m34) (m35 := m35) (m57 := m57) (m58 := m58) (m59 := m59) (m60 := m60) (x58 := x) (k2 := f_M_findTruths_2 N (nI no) (nI n) m8 m9 m10 m11 m13 m30 m32 m34 m35 m57 m58 m59 m60 i) hz hna hno H HC hE (show t < 512 by omega) no N 0 is (by omega) (by omega) (fun j' h' => absurd h' (by omega))
    obtain ⟨x1, b1, b2, b3⟩ := xx_loop (N := N) (m8 := m8) (m9 := m9) (m10 := m10) (m11 := m11) (m13 := m13) (m30 := m30) (m57 := m57) (m58 := m58) (m59 := m59) (m60 := m60) (sz := sz) (k2 := f_M_findTruths_2 N (nI no) (nI n) m8 m9 m10 m11 m13 m30 m32 m34 m35 m57 m58 m59 m60 i) hn hnr (fun j hj => (H j hj).1) (fun j hj => Nat.lt_of_lt_of_le (H j hj).2.2.1 hz) hA (show t < 512 by omega) a2 n N 0 (upd x t 0) (by omega) (by omega) up_s
    rw [show (0 : Int32) = nI 0 from rfl] at a1 b1 b3 ⊢
    rw [a1, b1]
    refine ih i (t + 1) is1 x1 (by omega) (by omega) (fun t' ht' => ?_)
    by_cases e : t' = t
    · subst e; exact ⟨a2, b2⟩
    · obtain ⟨g1, g2⟩ := h t' (by omega)
      refine ⟨fun j hj => ?_, by rw [b3 t' e, up_n e]; exact g2⟩
      unfold TN
      rw [a3 (o j) t' (by omega) e]
      exact g1 j hj
theorem fT_eq {N no n nn nr na sz : Nat} {o φ : Nat → Nat} {m8 m9 m10 m11 m13 m30 m32 m34 m35 m57 m58 m59 m60 m33 c0 c1 c2 c3 c5 c6 c7 c8 : Nat → Int32} {tr : Nat → Int64} {bl : Nat → Nat → Bool} (hN : 100000 ≤ N) (hn : n ≤ 9) (hnr : nr ≤ 3) (hz : sz ≤ 200) (hna : na ≤ 9) (hno : no ≤ 200) (H : RNd 0 no sz o φ m8 m9 m10 m11 m13 c0 c1 c2 c3) (HC : CNd sz nn nr na c0 c1 c2 c3) (hE : ∀ c t, c < sz → t < 512 → EqC c0 c1 c2 c3 tr c t) (hA : AtR 0 0 n no nn nr o φ c5 c6 c7 c8 m32 m33 m34 m35) (hbl : ∀ r s, r < 3 → s < 3 → f_M_isBelow N (nI r) (nI s) m30 = some (if bl r s = true then 1 else 0)) : ∃ is' x' f6 f5 : Nat → Int32, f_M_findTruths N (nI no) (nI n) m8 m9 m10 m11 m13 m30 m32 m34 m35 m57 m58 m59 m60 = some (is', x', f6, f5) ∧ (∀ t', t' < 2 ^ n → (∀ j, j < no → TN tr is' (φ (o j)) (o j) t') ∧ x' t' = nI (mkS (xP tr c5 c7 c8 t') n)) ∧ ∀ r, r < 3 → f5 r = nI (mkS (ownP c5 r) n) ∧ f6 r = nI (mkS (farP c5 bl r) n) := by
  have h9 := pw9_le n (by omega)
  obtain ⟨is', x', a1, a2⟩ := f2_loop (m30 := m30) (m57 := m57) (m58 := m58) (m59 := m59) (m60 := m60) hN hn hnr hz hna hno H HC hE hA (2 ^ n) N 0 m57 m58 (by omega) (by omega) (fun t' h => absurd h (by omega))
  have h32 : ∀ k, k < n → m32 k = c5 k := fun k hk => by
    have h := (hA k hk).1
    rw [show 0 + k = k from Nat.zero_add k] at h
    exact h
  have h5 : ∀ k, k < n → c5 k = -1 ∨ ∃ r : Nat, r < nr ∧ c5 k = nI r := fun k hk => by
    rcases (hA k hk).2.2 with h | ⟨r, hr, h, -⟩
    · exact Or.inl h.1
    · exact Or.inr ⟨r, hr, h⟩
  obtain ⟨f5, f6, b1, b2⟩ := fr_eq (N := N) (no := no) (m8 := m8) (m9 := m9) (m10 := m10) (m11 := m11) (m13 := m13) (m34 := m34) (m35 := m35) (m57 := m57) (m58 := m58) (m59 := m59) (m60 := m60) (is := is') (x58 := x') hN hn hnr h32 h5 hbl
  refine ⟨is', x', f6, f5, ?_, a2, b2⟩
  unfold f_M_findTruths
  rw [show (0 : Int32) = nI 0 from rfl, a1]
  exact b1
