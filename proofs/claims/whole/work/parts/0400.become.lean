/-! become: the new book's rows are moved down -/
def mvd (v : Int32) : Int32 := if (200 : Int32) ≤ v then v - (200 : Int32) else v
theorem M_moved_eq (v : Int32) : f_M_moved v = some (mvd v) := by
  unfold f_M_moved mvd
  by_cases h : (200 : Int32) ≤ v
  · rw [if_pos h, if_pos h]
  · rw [if_neg h, if_neg h]
def Bc10 (a : Nat → Nat → Int32) (k : Nat) (x : Nat → Nat → Int32) : Prop := (∀ j, j ≠ 8 → j ≠ 9 → j ≠ 10 → j ≠ 11 → j ≠ 13 → x j = a j) ∧ (∀ i, x 8 i = if i < k then a 8 (200 + i) else a 8 i) ∧ (∀ i, x 9 i = if i < k then (if a 8 (200 + i) ≤ (5 : Int32) then a 9 (200 + i) else mvd (a 9 (200 + i))) else a 9 i) ∧ (∀ i, x 10 i = if i < k then mvd (a 10 (200 + i)) else a 10 i) ∧ (∀ i, x 11 i = if i < k then a 11 (200 + i) else a 11 i) ∧ (∀ i, x 13 i = if i < k then mvd (a 13 (200 + i)) else a 13 i)
def Bc128 (a : Nat → Nat → Int32) (k : Nat) (x : Nat → Nat → Int32) : Prop := (∀ j, j ≠ 15 → j ≠ 16 → j ≠ 17 → x j = a j) ∧ (∀ i, x 15 i = if i < k then a 15 (250 + i) else a 15 i) ∧ (∀ i, x 16 i = if i < k then mvd (a 16 (250 + i)) else a 16 i) ∧ (∀ i, x 17 i = if i < k then mvd (a 17 (250 + i)) else a 17 i)
def Bc238 (a : Nat → Nat → Int32) (k : Nat) (x : Nat → Nat → Int32) : Prop := (∀ j, j ≠ 19 → j ≠ 21 → x j = a j) ∧ (∀ i, x 19 i = if i < k then a 19 (12 + i) else a 19 i) ∧ (∀ i, x 21 i = if i < k then mvd (a 21 (12 + i)) else a 21 i)
def Bc285 (a : Nat → Nat → Int32) (k : Nat) (x : Nat → Nat → Int32) : Prop := (∀ j, j ≠ 23 → x j = a j) ∧ (∀ i, x 23 i = if i < k then vp_nar .byte (a 23 (40 + i)) else a 23 i)
def Bc314 (a : Nat → Nat → Int32) (k : Nat) (x : Nat → Nat → Int32) : Prop := (∀ j, j ≠ 26 → x j = a j) ∧ (∀ i, x 26 i = if i < k then vp_nar .byte (a 26 (24 + i)) else a 26 i)
def Bc343 (a : Nat → Nat → Int32) (k : Nat) (x : Nat → Nat → Int32) : Prop := (∀ j, j ≠ 24 → x j = a j) ∧ (∀ i, x 24 i = if i < k then a 24 (5 + i) else a 24 i)
def Bc370 (a : Nat → Nat → Int32) (k : Nat) (x : Nat → Nat → Int32) : Prop := (∀ j, j ≠ 27 → j ≠ 29 → x j = a j) ∧ (∀ i, x 27 i = if i < k then a 27 (3 + i) else a 27 i) ∧ (∀ i, x 29 i = if i < k then vp_nar .boolean (a 29 (3 + i)) else a 29 i)
def Bc411 (a : Nat → Nat → Int32) (k : Nat) (x : Nat → Nat → Int32) : Prop := (∀ j, j ≠ 30 → j ≠ 32 → j ≠ 33 → j ≠ 34 → j ≠ 35 → x j = a j) ∧ (∀ i, x 30 i = if i < k then vp_nar .boolean (a 30 (9 + i)) else a 30 i) ∧ (∀ i, x 32 i = if i < k then a 32 (9 + i) else a 32 i) ∧ (∀ i, x 33 i = if i < k then a 33 (9 + i) else a 33 i) ∧ (∀ i, x 34 i = if i < k then mvd (a 34 (9 + i)) else a 34 i) ∧ (∀ i, x 35 i = if i < k then vp_nar .boolean (a 35 (9 + i)) else a 35 i)
theorem bc10_loop {N no : Nat} {iM xi : Nat → Int32} {aM a : Nat → Nat → Int32} (hB : no ≤ 200) (eB : xi 14 = nI no) : ∀ (d i k : Nat) (x : Nat → Nat → Int32), k + d = no → d < i → Bc10 a k x → ∃ x' : Nat → Nat → Int32, f_M_become_10 N iM aM xi i (nI k) x = f_M_become_128 N iM aM (us xi [(18, xi 40)]) N (0 : Int32) x' ∧ Bc10 a no x' := by
  intro d
  induction d with
  | zero =>
    intro i k x hk hi h
    obtain ⟨i, rfl⟩ : ∃ k, i = k + 1 := ⟨i - 1, by omega⟩
    have ek : k = no := by omega
    rw [ek] at h ⊢
    rw [f_M_become_10, eB, if_pos (nI_le (Nat.le_refl _) (by omega))]
    exact ⟨x, rfl, h⟩
  | succ d ih =>
    intro i k x hk hi h
    obtain ⟨i, rfl⟩ : ∃ k, i = k + 1 := ⟨i - 1, by omega⟩
    obtain ⟨h0, h8, h9, h10, h11, h13⟩ := h
    have eo : (200 : Int32) + nI k = nI (200 + k) := by rw [show (200 : Int32) = nI 200 from rfl, nI_add]
    have e8 : x 8 (200 + k) = a 8 (200 + k) := by rw [h8, if_neg (by omega)]
    have e9 : x 9 (200 + k) = a 9 (200 + k) := by rw [h9, if_neg (by omega)]
    have e10 : x 10 (200 + k) = a 10 (200 + k) := by rw [h10, if_neg (by omega)]
    have e11 : x 11 (200 + k) = a 11 (200 + k) := by rw [h11, if_neg (by omega)]
    have e13 : x 13 (200 + k) = a 13 (200 + k) := by rw [h13, if_neg (by omega)]
    have gk : ¬ (nI k < 0 ∨ 400 ≤ k) := nI_gc (by omega) (by decide)
    have go : ¬ (nI (200 + k) < 0 ∨ 400 ≤ 200 + k) := nI_gc (by omega) (by decide)
    have nx : Bc10 a (k + 1) (us x [(8, upd (x 8) k (a 8 (200 + k))), (9, upd (x 9) k ((if a 8 (200 + k) ≤ (5 : Int32) then a 9 (200 + k) else mvd (a 9 (200 + k))))), (10, upd (x 10) k (mvd (a 10 (200 + k)))), (11, upd (x 11) k (a 11 (200 + k))), (13, upd (x 13) k (mvd (a 13 (200 + k))))]) := by
      refine ⟨fun j q8 q9 q10 q11 q13 => ?_, fun i => ?_, fun i => ?_, fun i => ?_, fun i => ?_, fun i => ?_⟩
      · rw [← h0 j q8 q9 q10 q11 q13]
        simp only [us, if_neg q8, if_neg q9, if_neg q10, if_neg q11, if_neg q13]
      · show upd (x 8) k (a 8 (200 + k)) i = _
        unfold upd
        by_cases e : i = k
        · rw [if_pos e, if_pos (show i < k + 1 by omega), e]
        · rw [if_neg e, h8]
          by_cases q : i < k
          · rw [if_pos q, if_pos (show i < k + 1 by omega)]
          · rw [if_neg q, if_neg (show ¬ i < k + 1 by omega)]
      · show upd (x 9) k ((if a 8 (200 + k) ≤ (5 : Int32) then a 9 (200 + k) else mvd (a 9 (200 + k)))) i = _
        unfold upd
        by_cases e : i = k
        · rw [if_pos e, if_pos (show i < k + 1 by omega), e]
        · rw [if_neg e, h9]
          by_cases q : i < k
          · rw [if_pos q, if_pos (show i < k + 1 by omega)]
          · rw [if_neg q, if_neg (show ¬ i < k + 1 by omega)]
      · show upd (x 10) k (mvd (a 10 (200 + k))) i = _
        unfold upd
        by_cases e : i = k
        · rw [if_pos e, if_pos (show i < k + 1 by omega), e]
        · rw [if_neg e, h10]
          by_cases q : i < k
          · rw [if_pos q, if_pos (show i < k + 1 by omega)]
          · rw [if_neg q, if_neg (show ¬ i < k + 1 by omega)]
      · show upd (x 11) k (a 11 (200 + k)) i = _
        unfold upd
        by_cases e : i = k
        · rw [if_pos e, if_pos (show i < k + 1 by omega), e]
        · rw [if_neg e, h11]
          by_cases q : i < k
          · rw [if_pos q, if_pos (show i < k + 1 by omega)]
          · rw [if_neg q, if_neg (show ¬ i < k + 1 by omega)]
      · show upd (x 13) k (mvd (a 13 (200 + k))) i = _
        unfold upd
        by_cases e : i = k
        · rw [if_pos e, if_pos (show i < k + 1 by omega), e]
        · rw [if_neg e, h13]
          by_cases q : i < k
          · rw [if_pos q, if_pos (show i < k + 1 by omega)]
          · rw [if_neg q, if_neg (show ¬ i < k + 1 by omega)]
    have key : f_M_become_10 N iM aM xi (i + 1) (nI k) x = f_M_become_10 N iM aM xi i (nI (k + 1)) (us x [(8, upd (x 8) k (a 8 (200 + k))), (9, upd (x 9) k ((if a 8 (200 + k) ≤ (5 : Int32) then a 9 (200 + k) else mvd (a 9 (200 + k))))), (10, upd (x 10) k (mvd (a 10 (200 + k)))), (11, upd (x 11) k (a 11 (200 + k))), (13, upd (x 13) k (mvd (a 13 (200 + k))))]) := by
      rw [f_M_become_10, eB, if_neg (nI_ge (show k < no by omega) (by omega)), eo, nI_cl (show 200 + k < 2147483648 by omega), nI_cl (show k < 2147483648 by omega), if_neg go, if_neg gk]
      have eu : upd (x 8) k (x 8 (200 + k)) (200 + k) = a 8 (200 + k) := by rw [up_n (by omega), e8]
      have e69 : ∀ (s1 : Int32) (v : Int32), s1 = nI k → f_M_become_69 N iM aM (f_M_become_10 N iM aM xi i) (nI k) (nI (200 + k)) s1 v xi (us x [(8, upd (x 8) k (x 8 (200 + k)))]) = f_M_become_10 N iM aM xi i (nI (k + 1)) (us x [(8, upd (x 8) k (a 8 (200 + k))), (9, upd (x 9) k v), (10, upd (x 10) k (mvd (a 10 (200 + k)))), (11, upd (x 11) k (a 11 (200 + k))), (13, upd (x 13) k (mvd (a 13 (200 + k))))]) := by
        intro s1 v hs1
        subst hs1
        unfold f_M_become_69
        rw [nI_cl (show 200 + k < 2147483648 by omega), nI_cl (show k < 2147483648 by omega), if_neg gk, if_neg go, M_moved_eq, Option.bind_some, if_neg gk, M_moved_eq, Option.bind_some, nI_m]
        have f9 : us x [(8, upd (x 8) k (x 8 (200 + k)))] 9 = x 9 := rfl
        have f10 : us x [(8, upd (x 8) k (x 8 (200 + k)))] 10 = x 10 := rfl
        have f11 : us x [(8, upd (x 8) k (x 8 (200 + k)))] 11 = x 11 := rfl
        have f13 : us x [(8, upd (x 8) k (x 8 (200 + k)))] 13 = x 13 := rfl
        rw [f9, f10, f11, f13, e10, e11, e13, e8]
        congr 1
        funext j
        simp only [us]
        by_cases j9 : j = 9
        · rw [if_pos j9, if_neg (by omega), if_pos j9]
        · rw [if_neg j9, if_neg j9]
          by_cases j10 : j = 10
          · rw [if_pos j10, if_neg (by omega), if_pos j10]
          · rw [if_neg j10, if_neg j10]
            by_cases j11 : j = 11
            · rw [if_pos j11, if_neg (by omega), if_pos j11]
            · rw [if_neg j11, if_neg j11]
              by_cases j13 : j = 13
              · rw [if_pos j13, if_neg (by omega), if_pos j13]
              · rw [if_neg j13, if_neg j13]
      rw [eu]
      by_cases c : a 8 (200 + k) ≤ (5 : Int32)
      · rw [if_pos c, e69 _ _ rfl, e9, if_pos c]
      · rw [if_neg c, M_moved_eq, Option.bind_some, e69 _ _ rfl, e9, if_neg c]
    rw [key]
    exact ih i (k + 1) _ (by omega) (by omega) nx
theorem bc128_loop {N ns : Nat} {iM xi : Nat → Int32} {aM a : Nat → Nat → Int32} (hB : ns ≤ 250) (eB : xi 18 = nI ns) : ∀ (d i k : Nat) (x : Nat → Nat → Int32), k + d = ns → d < i → Bc128 a k x → ∃ x' : Nat → Nat → Int32, f_M_become_128 N iM aM xi i (nI k) x = f_M_become_238 N iM aM (us xi [(20, xi 41), (22, xi 42), (25, xi 43), (28, xi 44), (36, xi 45)]) N (0 : Int32) x' ∧ Bc128 a ns x' := by
  intro d
  induction d with
  | zero =>
    intro i k x hk hi h
    obtain ⟨i, rfl⟩ : ∃ k, i = k + 1 := ⟨i - 1, by omega⟩
    have ek : k = ns := by omega
    rw [ek] at h ⊢
    rw [f_M_become_128, eB, if_pos (nI_le (Nat.le_refl _) (by omega))]
    exact ⟨x, rfl, h⟩
  | succ d ih =>
    intro i k x hk hi h
    obtain ⟨i, rfl⟩ : ∃ k, i = k + 1 := ⟨i - 1, by omega⟩
    obtain ⟨h0, h15, h16, h17⟩ := h
    have eo : (250 : Int32) + nI k = nI (250 + k) := by rw [show (250 : Int32) = nI 250 from rfl, nI_add]
    have e15 : x 15 (250 + k) = a 15 (250 + k) := by rw [h15, if_neg (by omega)]
    have e16 : x 16 (250 + k) = a 16 (250 + k) := by rw [h16, if_neg (by omega)]
    have e17 : x 17 (250 + k) = a 17 (250 + k) := by rw [h17, if_neg (by omega)]
    have gk : ¬ (nI k < 0 ∨ 500 ≤ k) := nI_gc (by omega) (by decide)
    have go : ¬ (nI (250 + k) < 0 ∨ 500 ≤ 250 + k) := nI_gc (by omega) (by decide)
    have nx : Bc128 a (k + 1) (us x [(15, upd (x 15) k (a 15 (250 + k))), (16, upd (x 16) k (mvd (a 16 (250 + k)))), (17, upd (x 17) k (mvd (a 17 (250 + k))))]) := by
      refine ⟨fun j q15 q16 q17 => ?_, fun i => ?_, fun i => ?_, fun i => ?_⟩
      · rw [← h0 j q15 q16 q17]
        simp only [us, if_neg q15, if_neg q16, if_neg q17]
      · show upd (x 15) k (a 15 (250 + k)) i = _
        unfold upd
        by_cases e : i = k
        · rw [if_pos e, if_pos (show i < k + 1 by omega), e]
        · rw [if_neg e, h15]
          by_cases q : i < k
          · rw [if_pos q, if_pos (show i < k + 1 by omega)]
          · rw [if_neg q, if_neg (show ¬ i < k + 1 by omega)]
      · show upd (x 16) k (mvd (a 16 (250 + k))) i = _
        unfold upd
        by_cases e : i = k
        · rw [if_pos e, if_pos (show i < k + 1 by omega), e]
        · rw [if_neg e, h16]
          by_cases q : i < k
          · rw [if_pos q, if_pos (show i < k + 1 by omega)]
          · rw [if_neg q, if_neg (show ¬ i < k + 1 by omega)]
      · show upd (x 17) k (mvd (a 17 (250 + k))) i = _
        unfold upd
        by_cases e : i = k
        · rw [if_pos e, if_pos (show i < k + 1 by omega), e]
        · rw [if_neg e, h17]
          by_cases q : i < k
          · rw [if_pos q, if_pos (show i < k + 1 by omega)]
          · rw [if_neg q, if_neg (show ¬ i < k + 1 by omega)]
    have key : f_M_become_128 N iM aM xi (i + 1) (nI k) x = f_M_become_128 N iM aM xi i (nI (k + 1)) (us x [(15, upd (x 15) k (a 15 (250 + k))), (16, upd (x 16) k (mvd (a 16 (250 + k)))), (17, upd (x 17) k (mvd (a 17 (250 + k))))]) := by
      rw [f_M_become_128, eB, if_neg (nI_ge (show k < ns by omega) (by omega)), eo, nI_cl (show 250 + k < 2147483648 by omega), nI_cl (show k < 2147483648 by omega), if_neg go, if_neg gk, M_moved_eq, Option.bind_some, M_moved_eq, Option.bind_some, nI_m, e15, e16, e17]
    rw [key]
    exact ih i (k + 1) _ (by omega) (by omega) nx
theorem bc238_loop {N  : Nat} {iM xi : Nat → Int32} {aM a : Nat → Nat → Int32} : ∀ (d i k : Nat) (x : Nat → Nat → Int32), k + d = 12 → d < i → Bc238 a k x → ∃ x' : Nat → Nat → Int32, f_M_become_238 N iM aM xi i (nI k) x = f_M_become_285 N iM aM xi N (0 : Int32) x' ∧ Bc238 a 12 x' := by
  intro d
  induction d with
  | zero =>
    intro i k x hk hi h
    obtain ⟨i, rfl⟩ : ∃ k, i = k + 1 := ⟨i - 1, by omega⟩
    have ek : k = 12 := by omega
    subst ek
    rw [f_M_become_238, if_pos (show (12 : Int32) ≤ nI 12 by decide)]
    exact ⟨x, rfl, h⟩
  | succ d ih =>
    intro i k x hk hi h
    obtain ⟨i, rfl⟩ : ∃ k, i = k + 1 := ⟨i - 1, by omega⟩
    obtain ⟨h0, h19, h21⟩ := h
    have eo : (12 : Int32) + nI k = nI (12 + k) := by rw [show (12 : Int32) = nI 12 from rfl, nI_add]
    have e19 : x 19 (12 + k) = a 19 (12 + k) := by rw [h19, if_neg (by omega)]
    have e21 : x 21 (12 + k) = a 21 (12 + k) := by rw [h21, if_neg (by omega)]
    have gk : ¬ (nI k < 0 ∨ 24 ≤ k) := nI_gc (by omega) (by decide)
    have go : ¬ (nI (12 + k) < 0 ∨ 24 ≤ 12 + k) := nI_gc (by omega) (by decide)
    have nx : Bc238 a (k + 1) (us x [(19, upd (x 19) k (a 19 (12 + k))), (21, upd (x 21) k (mvd (a 21 (12 + k))))]) := by
      refine ⟨fun j q19 q21 => ?_, fun i => ?_, fun i => ?_⟩
      · rw [← h0 j q19 q21]
        simp only [us, if_neg q19, if_neg q21]
      · show upd (x 19) k (a 19 (12 + k)) i = _
        unfold upd
        by_cases e : i = k
        · rw [if_pos e, if_pos (show i < k + 1 by omega), e]
        · rw [if_neg e, h19]
          by_cases q : i < k
          · rw [if_pos q, if_pos (show i < k + 1 by omega)]
          · rw [if_neg q, if_neg (show ¬ i < k + 1 by omega)]
      · show upd (x 21) k (mvd (a 21 (12 + k))) i = _
        unfold upd
        by_cases e : i = k
        · rw [if_pos e, if_pos (show i < k + 1 by omega), e]
        · rw [if_neg e, h21]
          by_cases q : i < k
          · rw [if_pos q, if_pos (show i < k + 1 by omega)]
          · rw [if_neg q, if_neg (show ¬ i < k + 1 by omega)]
    have key : f_M_become_238 N iM aM xi (i + 1) (nI k) x = f_M_become_238 N iM aM xi i (nI (k + 1)) (us x [(19, upd (x 19) k (a 19 (12 + k))), (21, upd (x 21) k (mvd (a 21 (12 + k))))]) := by
      rw [f_M_become_238, if_neg (show ¬ (12 : Int32) ≤ nI k from nI_ge (show k < 12 by omega) (by decide)), eo, nI_cl (show 12 + k < 2147483648 by omega), nI_cl (show k < 2147483648 by omega), if_neg go, if_neg gk, M_moved_eq, Option.bind_some, nI_m, e19, e21]
    rw [key]
    exact ih i (k + 1) _ (by omega) (by omega) nx
theorem bc285_loop {N  : Nat} {iM xi : Nat → Int32} {aM a : Nat → Nat → Int32} : ∀ (d i k : Nat) (x : Nat → Nat → Int32), k + d = 40 → d < i → Bc285 a k x → ∃ x' : Nat → Nat → Int32, f_M_become_285 N iM aM xi i (nI k) x = f_M_become_314 N iM aM xi N (0 : Int32) x' ∧ Bc285 a 40 x' := by
  intro d
  induction d with
  | zero =>
    intro i k x hk hi h
    obtain ⟨i, rfl⟩ : ∃ k, i = k + 1 := ⟨i - 1, by omega⟩
    have ek : k = 40 := by omega
    subst ek
    rw [f_M_become_285, if_pos (show (40 : Int32) ≤ nI 40 by decide)]
    exact ⟨x, rfl, h⟩
  | succ d ih =>
    intro i k x hk hi h
    obtain ⟨i, rfl⟩ : ∃ k, i = k + 1 := ⟨i - 1, by omega⟩
    obtain ⟨h0, h23⟩ := h
    have eo : (40 : Int32) + nI k = nI (40 + k) := by rw [show (40 : Int32) = nI 40 from rfl, nI_add]
    have e23 : x 23 (40 + k) = a 23 (40 + k) := by rw [h23, if_neg (by omega)]
    have gk : ¬ (nI k < 0 ∨ 80 ≤ k) := nI_gc (by omega) (by decide)
    have go : ¬ (nI (40 + k) < 0 ∨ 80 ≤ 40 + k) := nI_gc (by omega) (by decide)
    have nx : Bc285 a (k + 1) (us x [(23, upd (x 23) k (vp_nar .byte (a 23 (40 + k))))]) := by
      refine ⟨fun j q23 => ?_, fun i => ?_⟩
      · rw [← h0 j q23]
        simp only [us, if_neg q23]
      · show upd (x 23) k (vp_nar .byte (a 23 (40 + k))) i = _
        unfold upd
        by_cases e : i = k
        · rw [if_pos e, if_pos (show i < k + 1 by omega), e]
        · rw [if_neg e, h23]
          by_cases q : i < k
          · rw [if_pos q, if_pos (show i < k + 1 by omega)]
          · rw [if_neg q, if_neg (show ¬ i < k + 1 by omega)]
    have key : f_M_become_285 N iM aM xi (i + 1) (nI k) x = f_M_become_285 N iM aM xi i (nI (k + 1)) (us x [(23, upd (x 23) k (vp_nar .byte (a 23 (40 + k))))]) := by
      rw [f_M_become_285, if_neg (show ¬ (40 : Int32) ≤ nI k from nI_ge (show k < 40 by omega) (by decide)), eo, nI_cl (show 40 + k < 2147483648 by omega), nI_cl (show k < 2147483648 by omega), if_neg go, if_neg gk, nI_m, e23]
    rw [key]
    exact ih i (k + 1) _ (by omega) (by omega) nx
theorem bc314_loop {N  : Nat} {iM xi : Nat → Int32} {aM a : Nat → Nat → Int32} : ∀ (d i k : Nat) (x : Nat → Nat → Int32), k + d = 24 → d < i → Bc314 a k x → ∃ x' : Nat → Nat → Int32, f_M_become_314 N iM aM xi i (nI k) x = f_M_become_343 N iM aM xi N (0 : Int32) x' ∧ Bc314 a 24 x' := by
  intro d
  induction d with
  | zero =>
    intro i k x hk hi h
    obtain ⟨i, rfl⟩ : ∃ k, i = k + 1 := ⟨i - 1, by omega⟩
    have ek : k = 24 := by omega
    subst ek
    rw [f_M_become_314, if_pos (show (24 : Int32) ≤ nI 24 by decide)]
    exact ⟨x, rfl, h⟩
  | succ d ih =>
    intro i k x hk hi h
    obtain ⟨i, rfl⟩ : ∃ k, i = k + 1 := ⟨i - 1, by omega⟩
    obtain ⟨h0, h26⟩ := h
    have eo : (24 : Int32) + nI k = nI (24 + k) := by rw [show (24 : Int32) = nI 24 from rfl, nI_add]
    have e26 : x 26 (24 + k) = a 26 (24 + k) := by rw [h26, if_neg (by omega)]
    have gk : ¬ (nI k < 0 ∨ 48 ≤ k) := nI_gc (by omega) (by decide)
    have go : ¬ (nI (24 + k) < 0 ∨ 48 ≤ 24 + k) := nI_gc (by omega) (by decide)
    have nx : Bc314 a (k + 1) (us x [(26, upd (x 26) k (vp_nar .byte (a 26 (24 + k))))]) := by
      refine ⟨fun j q26 => ?_, fun i => ?_⟩
      · rw [← h0 j q26]
        simp only [us, if_neg q26]
      · show upd (x 26) k (vp_nar .byte (a 26 (24 + k))) i = _
        unfold upd
        by_cases e : i = k
        · rw [if_pos e, if_pos (show i < k + 1 by omega), e]
        · rw [if_neg e, h26]
          by_cases q : i < k
          · rw [if_pos q, if_pos (show i < k + 1 by omega)]
          · rw [if_neg q, if_neg (show ¬ i < k + 1 by omega)]
    have key : f_M_become_314 N iM aM xi (i + 1) (nI k) x = f_M_become_314 N iM aM xi i (nI (k + 1)) (us x [(26, upd (x 26) k (vp_nar .byte (a 26 (24 + k))))]) := by
      rw [f_M_become_314, if_neg (show ¬ (24 : Int32) ≤ nI k from nI_ge (show k < 24 by omega) (by decide)), eo, nI_cl (show 24 + k < 2147483648 by omega), nI_cl (show k < 2147483648 by omega), if_neg go, if_neg gk, nI_m, e26]
    rw [key]
    exact ih i (k + 1) _ (by omega) (by omega) nx
theorem bc343_loop {N  : Nat} {iM xi : Nat → Int32} {aM a : Nat → Nat → Int32} : ∀ (d i k : Nat) (x : Nat → Nat → Int32), k + d = 5 → d < i → Bc343 a k x → ∃ x' : Nat → Nat → Int32, f_M_become_343 N iM aM xi i (nI k) x = f_M_become_370 N iM aM xi N (0 : Int32) x' ∧ Bc343 a 5 x' := by
  intro d
  induction d with
  | zero =>
    intro i k x hk hi h
    obtain ⟨i, rfl⟩ : ∃ k, i = k + 1 := ⟨i - 1, by omega⟩
    have ek : k = 5 := by omega
    subst ek
    rw [f_M_become_343, if_pos (show (5 : Int32) ≤ nI 5 by decide)]
    exact ⟨x, rfl, h⟩
  | succ d ih =>
    intro i k x hk hi h
    obtain ⟨i, rfl⟩ : ∃ k, i = k + 1 := ⟨i - 1, by omega⟩
    obtain ⟨h0, h24⟩ := h
    have eo : (5 : Int32) + nI k = nI (5 + k) := by rw [show (5 : Int32) = nI 5 from rfl, nI_add]
    have e24 : x 24 (5 + k) = a 24 (5 + k) := by rw [h24, if_neg (by omega)]
    have gk : ¬ (nI k < 0 ∨ 10 ≤ k) := nI_gc (by omega) (by decide)
    have go : ¬ (nI (5 + k) < 0 ∨ 10 ≤ 5 + k) := nI_gc (by omega) (by decide)
    have nx : Bc343 a (k + 1) (us x [(24, upd (x 24) k (a 24 (5 + k)))]) := by
      refine ⟨fun j q24 => ?_, fun i => ?_⟩
      · rw [← h0 j q24]
        simp only [us, if_neg q24]
      · show upd (x 24) k (a 24 (5 + k)) i = _
        unfold upd
        by_cases e : i = k
        · rw [if_pos e, if_pos (show i < k + 1 by omega), e]
        · rw [if_neg e, h24]
          by_cases q : i < k
          · rw [if_pos q, if_pos (show i < k + 1 by omega)]
          · rw [if_neg q, if_neg (show ¬ i < k + 1 by omega)]
    have key : f_M_become_343 N iM aM xi (i + 1) (nI k) x = f_M_become_343 N iM aM xi i (nI (k + 1)) (us x [(24, upd (x 24) k (a 24 (5 + k)))]) := by
      rw [f_M_become_343, if_neg (show ¬ (5 : Int32) ≤ nI k from nI_ge (show k < 5 by omega) (by decide)), eo, nI_cl (show 5 + k < 2147483648 by omega), nI_cl (show k < 2147483648 by omega), if_neg go, if_neg gk, nI_m, e24]
    rw [key]
    exact ih i (k + 1) _ (by omega) (by omega) nx
theorem bc370_loop {N  : Nat} {iM xi : Nat → Int32} {aM a : Nat → Nat → Int32} : ∀ (d i k : Nat) (x : Nat → Nat → Int32), k + d = 3 → d < i → Bc370 a k x → ∃ x' : Nat → Nat → Int32, f_M_become_370 N iM aM xi i (nI k) x = f_M_become_411 N iM aM xi N (0 : Int32) x' ∧ Bc370 a 3 x' := by
  intro d
  induction d with
  | zero =>
    intro i k x hk hi h
    obtain ⟨i, rfl⟩ : ∃ k, i = k + 1 := ⟨i - 1, by omega⟩
    have ek : k = 3 := by omega
    subst ek
    rw [f_M_become_370, if_pos (show (3 : Int32) ≤ nI 3 by decide)]
    exact ⟨x, rfl, h⟩
  | succ d ih =>
    intro i k x hk hi h
    obtain ⟨i, rfl⟩ : ∃ k, i = k + 1 := ⟨i - 1, by omega⟩
    obtain ⟨h0, h27, h29⟩ := h
    have eo : (3 : Int32) + nI k = nI (3 + k) := by rw [show (3 : Int32) = nI 3 from rfl, nI_add]
    have e27 : x 27 (3 + k) = a 27 (3 + k) := by rw [h27, if_neg (by omega)]
    have e29 : x 29 (3 + k) = a 29 (3 + k) := by rw [h29, if_neg (by omega)]
    have gk : ¬ (nI k < 0 ∨ 6 ≤ k) := nI_gc (by omega) (by decide)
    have go : ¬ (nI (3 + k) < 0 ∨ 6 ≤ 3 + k) := nI_gc (by omega) (by decide)
    have nx : Bc370 a (k + 1) (us x [(27, upd (x 27) k (a 27 (3 + k))), (29, upd (x 29) k (vp_nar .boolean (a 29 (3 + k))))]) := by
      refine ⟨fun j q27 q29 => ?_, fun i => ?_, fun i => ?_⟩
      · rw [← h0 j q27 q29]
        simp only [us, if_neg q27, if_neg q29]
      · show upd (x 27) k (a 27 (3 + k)) i = _
        unfold upd
        by_cases e : i = k
        · rw [if_pos e, if_pos (show i < k + 1 by omega), e]
        · rw [if_neg e, h27]
          by_cases q : i < k
          · rw [if_pos q, if_pos (show i < k + 1 by omega)]
          · rw [if_neg q, if_neg (show ¬ i < k + 1 by omega)]
      · show upd (x 29) k (vp_nar .boolean (a 29 (3 + k))) i = _
        unfold upd
        by_cases e : i = k
        · rw [if_pos e, if_pos (show i < k + 1 by omega), e]
        · rw [if_neg e, h29]
          by_cases q : i < k
          · rw [if_pos q, if_pos (show i < k + 1 by omega)]
          · rw [if_neg q, if_neg (show ¬ i < k + 1 by omega)]
    have key : f_M_become_370 N iM aM xi (i + 1) (nI k) x = f_M_become_370 N iM aM xi i (nI (k + 1)) (us x [(27, upd (x 27) k (a 27 (3 + k))), (29, upd (x 29) k (vp_nar .boolean (a 29 (3 + k))))]) := by
      rw [f_M_become_370, if_neg (show ¬ (3 : Int32) ≤ nI k from nI_ge (show k < 3 by omega) (by decide)), eo, nI_cl (show 3 + k < 2147483648 by omega), nI_cl (show k < 2147483648 by omega), if_neg go, if_neg gk, nI_m, e27, e29]
    rw [key]
    exact ih i (k + 1) _ (by omega) (by omega) nx
theorem bc411_loop {N  : Nat} {iM xi : Nat → Int32} {aM a : Nat → Nat → Int32} : ∀ (d i k : Nat) (x : Nat → Nat → Int32), k + d = 9 → d < i → Bc411 a k x → ∃ x' : Nat → Nat → Int32, f_M_become_411 N iM aM xi i (nI k) x = ((f_M_workOut N (us xi [(37, (1 : Int32)), (66, (0 : Int32)), (68, (0 : Int32))]) x').bind fun q517 => (some (q517.1, q517.2))) ∧ Bc411 a 9 x' := by
  intro d
  induction d with
  | zero =>
    intro i k x hk hi h
    obtain ⟨i, rfl⟩ : ∃ k, i = k + 1 := ⟨i - 1, by omega⟩
    have ek : k = 9 := by omega
    subst ek
    rw [f_M_become_411, if_pos (show (9 : Int32) ≤ nI 9 by decide)]
    exact ⟨x, rfl, h⟩
  | succ d ih =>
    intro i k x hk hi h
    obtain ⟨i, rfl⟩ : ∃ k, i = k + 1 := ⟨i - 1, by omega⟩
    obtain ⟨h0, h30, h32, h33, h34, h35⟩ := h
    have eo : (9 : Int32) + nI k = nI (9 + k) := by rw [show (9 : Int32) = nI 9 from rfl, nI_add]
    have e30 : x 30 (9 + k) = a 30 (9 + k) := by rw [h30, if_neg (by omega)]
    have e32 : x 32 (9 + k) = a 32 (9 + k) := by rw [h32, if_neg (by omega)]
    have e33 : x 33 (9 + k) = a 33 (9 + k) := by rw [h33, if_neg (by omega)]
    have e34 : x 34 (9 + k) = a 34 (9 + k) := by rw [h34, if_neg (by omega)]
    have e35 : x 35 (9 + k) = a 35 (9 + k) := by rw [h35, if_neg (by omega)]
    have gk : ¬ (nI k < 0 ∨ 18 ≤ k) := nI_gc (by omega) (by decide)
    have go : ¬ (nI (9 + k) < 0 ∨ 18 ≤ 9 + k) := nI_gc (by omega) (by decide)
    have nx : Bc411 a (k + 1) (us x [(30, upd (x 30) k (vp_nar .boolean (a 30 (9 + k)))), (32, upd (x 32) k (a 32 (9 + k))), (33, upd (x 33) k (a 33 (9 + k))), (34, upd (x 34) k (mvd (a 34 (9 + k)))), (35, upd (x 35) k (vp_nar .boolean (a 35 (9 + k))))]) := by
      refine ⟨fun j q30 q32 q33 q34 q35 => ?_, fun i => ?_, fun i => ?_, fun i => ?_, fun i => ?_, fun i => ?_⟩
      · rw [← h0 j q30 q32 q33 q34 q35]
        simp only [us, if_neg q30, if_neg q32, if_neg q33, if_neg q34, if_neg q35]
      · show upd (x 30) k (vp_nar .boolean (a 30 (9 + k))) i = _
        unfold upd
        by_cases e : i = k
        · rw [if_pos e, if_pos (show i < k + 1 by omega), e]
        · rw [if_neg e, h30]
          by_cases q : i < k
          · rw [if_pos q, if_pos (show i < k + 1 by omega)]
          · rw [if_neg q, if_neg (show ¬ i < k + 1 by omega)]
      · show upd (x 32) k (a 32 (9 + k)) i = _
        unfold upd
        by_cases e : i = k
        · rw [if_pos e, if_pos (show i < k + 1 by omega), e]
        · rw [if_neg e, h32]
          by_cases q : i < k
          · rw [if_pos q, if_pos (show i < k + 1 by omega)]
          · rw [if_neg q, if_neg (show ¬ i < k + 1 by omega)]
      · show upd (x 33) k (a 33 (9 + k)) i = _
        unfold upd
        by_cases e : i = k
        · rw [if_pos e, if_pos (show i < k + 1 by omega), e]
        · rw [if_neg e, h33]
          by_cases q : i < k
          · rw [if_pos q, if_pos (show i < k + 1 by omega)]
          · rw [if_neg q, if_neg (show ¬ i < k + 1 by omega)]
      · show upd (x 34) k (mvd (a 34 (9 + k))) i = _
        unfold upd
        by_cases e : i = k
        · rw [if_pos e, if_pos (show i < k + 1 by omega), e]
        · rw [if_neg e, h34]
          by_cases q : i < k
          · rw [if_pos q, if_pos (show i < k + 1 by omega)]
          · rw [if_neg q, if_neg (show ¬ i < k + 1 by omega)]
      · show upd (x 35) k (vp_nar .boolean (a 35 (9 + k))) i = _
        unfold upd
        by_cases e : i = k
        · rw [if_pos e, if_pos (show i < k + 1 by omega), e]
        · rw [if_neg e, h35]
          by_cases q : i < k
          · rw [if_pos q, if_pos (show i < k + 1 by omega)]
          · rw [if_neg q, if_neg (show ¬ i < k + 1 by omega)]
    have key : f_M_become_411 N iM aM xi (i + 1) (nI k) x = f_M_become_411 N iM aM xi i (nI (k + 1)) (us x [(30, upd (x 30) k (vp_nar .boolean (a 30 (9 + k)))), (32, upd (x 32) k (a 32 (9 + k))), (33, upd (x 33) k (a 33 (9 + k))), (34, upd (x 34) k (mvd (a 34 (9 + k)))), (35, upd (x 35) k (vp_nar .boolean (a 35 (9 + k))))]) := by
      rw [f_M_become_411, if_neg (show ¬ (9 : Int32) ≤ nI k from nI_ge (show k < 9 by omega) (by decide)), eo, nI_cl (show 9 + k < 2147483648 by omega), nI_cl (show k < 2147483648 by omega), if_neg go, if_neg gk, M_moved_eq, Option.bind_some, nI_m, e30, e32, e33, e34, e35]
    rw [key]
    exact ih i (k + 1) _ (by omega) (by omega) nx
/-- all rows of the model after become -/
def BcA (a : Nat → Nat → Int32) (no ns : Nat) (x : Nat → Nat → Int32) : Prop := (∀ j, j ≠ 8 → j ≠ 9 → j ≠ 10 → j ≠ 11 → j ≠ 13 → j ≠ 15 → j ≠ 16 → j ≠ 17 → j ≠ 19 → j ≠ 21 → j ≠ 23 → j ≠ 26 → j ≠ 24 → j ≠ 27 → j ≠ 29 → j ≠ 30 → j ≠ 32 → j ≠ 33 → j ≠ 34 → j ≠ 35 → x j = a j) ∧ (∀ i, x 8 i = if i < no then a 8 (200 + i) else a 8 i) ∧ (∀ i, x 9 i = if i < no then (if a 8 (200 + i) ≤ (5 : Int32) then a 9 (200 + i) else mvd (a 9 (200 + i))) else a 9 i) ∧ (∀ i, x 10 i = if i < no then mvd (a 10 (200 + i)) else a 10 i) ∧ (∀ i, x 11 i = if i < no then a 11 (200 + i) else a 11 i) ∧ (∀ i, x 13 i = if i < no then mvd (a 13 (200 + i)) else a 13 i) ∧ (∀ i, x 15 i = if i < ns then a 15 (250 + i) else a 15 i) ∧ (∀ i, x 16 i = if i < ns then mvd (a 16 (250 + i)) else a 16 i) ∧ (∀ i, x 17 i = if i < ns then mvd (a 17 (250 + i)) else a 17 i) ∧ (∀ i, x 19 i = if i < 12 then a 19 (12 + i) else a 19 i) ∧ (∀ i, x 21 i = if i < 12 then mvd (a 21 (12 + i)) else a 21 i) ∧ (∀ i, x 23 i = if i < 40 then vp_nar .byte (a 23 (40 + i)) else a 23 i) ∧ (∀ i, x 26 i = if i < 24 then vp_nar .byte (a 26 (24 + i)) else a 26 i) ∧ (∀ i, x 24 i = if i < 5 then a 24 (5 + i) else a 24 i) ∧ (∀ i, x 27 i = if i < 3 then a 27 (3 + i) else a 27 i) ∧ (∀ i, x 29 i = if i < 3 then vp_nar .boolean (a 29 (3 + i)) else a 29 i) ∧ (∀ i, x 30 i = if i < 9 then vp_nar .boolean (a 30 (9 + i)) else a 30 i) ∧ (∀ i, x 32 i = if i < 9 then a 32 (9 + i) else a 32 i) ∧ (∀ i, x 33 i = if i < 9 then a 33 (9 + i) else a 33 i) ∧ (∀ i, x 34 i = if i < 9 then mvd (a 34 (9 + i)) else a 34 i) ∧ (∀ i, x 35 i = if i < 9 then vp_nar .boolean (a 35 (9 + i)) else a 35 i)
theorem become_eq {N no ns : Nat} {iM : Nat → Int32} {aM : Nat → Nat → Int32} (hN : 100000 ≤ N) (hno : no ≤ 200) (hns : ns ≤ 250) (e38 : iM 38 = nI no) (e40 : iM 40 = nI ns) : ∃ x : Nat → Nat → Int32, f_M_become N iM aM = ((f_M_workOut N (us (us (us (us iM [(14, nI no)]) [(18, nI ns)]) [(20, iM 41), (22, iM 42), (25, iM 43), (28, iM 44), (36, iM 45)]) [(37, (1 : Int32)), (66, (0 : Int32)), (68, (0 : Int32))]) x).bind fun q517 => (some (q517.1, q517.2))) ∧ BcA aM no ns x := by
  unfold f_M_become
  rw [e38]
  obtain ⟨y0, p0, q0⟩ := bc10_loop (N := N) (iM := iM) (xi := us iM [(14, nI no)]) (aM := aM) (a := aM) hno (us_at1) no N 0 aM (by omega) (by omega) ⟨fun _ _ _ _ _ _ => rfl, fun i => by rw [if_neg (by omega)], fun i => by rw [if_neg (by omega)], fun i => by rw [if_neg (by omega)], fun i => by rw [if_neg (by omega)], fun i => by rw [if_neg (by omega)]⟩
  obtain ⟨y1, p1, q1⟩ := bc128_loop (N := N) (iM := iM) (xi := us (us iM [(14, nI no)]) [(18, nI ns)]) (aM := aM) (a := y0) hns (us_at1) ns N 0 y0 (by omega) (by omega) ⟨fun _ _ _ _ => rfl, fun i => by rw [if_neg (by omega)], fun i => by rw [if_neg (by omega)], fun i => by rw [if_neg (by omega)]⟩
  obtain ⟨y2, p2, q2⟩ := bc238_loop (N := N) (iM := iM) (xi := us (us (us iM [(14, nI no)]) [(18, nI ns)]) [(20, iM 41), (22, iM 42), (25, iM 43), (28, iM 44), (36, iM 45)]) (aM := aM) (a := y1)  12 N 0 y1 (by omega) (by omega) ⟨fun _ _ _ => rfl, fun i => by rw [if_neg (by omega)], fun i => by rw [if_neg (by omega)]⟩
  obtain ⟨y3, p3, q3⟩ := bc285_loop (N := N) (iM := iM) (xi := us (us (us iM [(14, nI no)]) [(18, nI ns)]) [(20, iM 41), (22, iM 42), (25, iM 43), (28, iM 44), (36, iM 45)]) (aM := aM) (a := y2)  40 N 0 y2 (by omega) (by omega) ⟨fun _ _ => rfl, fun i => by rw [if_neg (by omega)]⟩
  obtain ⟨y4, p4, q4⟩ := bc314_loop (N := N) (iM := iM) (xi := us (us (us iM [(14, nI no)]) [(18, nI ns)]) [(20, iM 41), (22, iM 42), (25, iM 43), (28, iM 44), (36, iM 45)]) (aM := aM) (a := y3)  24 N 0 y3 (by omega) (by omega) ⟨fun _ _ => rfl, fun i => by rw [if_neg (by omega)]⟩
  obtain ⟨y5, p5, q5⟩ := bc343_loop (N := N) (iM := iM) (xi := us (us (us iM [(14, nI no)]) [(18, nI ns)]) [(20, iM 41), (22, iM 42), (25, iM 43), (28, iM 44), (36, iM 45)]) (aM := aM) (a := y4)  5 N 0 y4 (by omega) (by omega) ⟨fun _ _ => rfl, fun i => by rw [if_neg (by omega)]⟩
  obtain ⟨y6, p6, q6⟩ := bc370_loop (N := N) (iM := iM) (xi := us (us (us iM [(14, nI no)]) [(18, nI ns)]) [(20, iM 41), (22, iM 42), (25, iM 43), (28, iM 44), (36, iM 45)]) (aM := aM) (a := y5)  3 N 0 y5 (by omega) (by omega) ⟨fun _ _ _ => rfl, fun i => by rw [if_neg (by omega)], fun i => by rw [if_neg (by omega)]⟩
  obtain ⟨y7, p7, q7⟩ := bc411_loop (N := N) (iM := iM) (xi := us (us (us iM [(14, nI no)]) [(18, nI ns)]) [(20, iM 41), (22, iM 42), (25, iM 43), (28, iM 44), (36, iM 45)]) (aM := aM) (a := y6)  9 N 0 y6 (by omega) (by omega) ⟨fun _ _ _ _ _ _ => rfl, fun i => by rw [if_neg (by omega)], fun i => by rw [if_neg (by omega)], fun i => by rw [if_neg (by omega)], fun i => by rw [if_neg (by omega)], fun i => by rw [if_neg (by omega)]⟩
  have x40 : us iM [(14, nI no)] 40 = nI ns := by rw [us_ne1 (by decide), e40]
  rw [x40] at p0
  have z41 : us (us iM [(14, nI no)]) [(18, nI ns)] 41 = iM 41 := rfl
  have z42 : us (us iM [(14, nI no)]) [(18, nI ns)] 42 = iM 42 := rfl
  have z43 : us (us iM [(14, nI no)]) [(18, nI ns)] 43 = iM 43 := rfl
  have z44 : us (us iM [(14, nI no)]) [(18, nI ns)] 44 = iM 44 := rfl
  have z45 : us (us iM [(14, nI no)]) [(18, nI ns)] 45 = iM 45 := rfl
  rw [z41, z42, z43, z44, z45] at p1
  rw [show (0 : Int32) = nI 0 from rfl] at p0 p1 p2 p3 p4 p5 p6 ⊢
  rw [p0, p1, p2, p3, p4, p5, p6, p7]
  refine ⟨y7, rfl, ?_⟩
  obtain ⟨r0, s8, s9, s10, s11, s13⟩ := q0
  obtain ⟨r1, s15, s16, s17⟩ := q1
  obtain ⟨r2, s19, s21⟩ := q2
  obtain ⟨r3, s23⟩ := q3
  obtain ⟨r4, s26⟩ := q4
  obtain ⟨r5, s24⟩ := q5
  obtain ⟨r6, s27, s29⟩ := q6
  obtain ⟨r7, s30, s32, s33, s34, s35⟩ := q7
  refine ⟨fun j u8 u9 u10 u11 u13 u15 u16 u17 u19 u21 u23 u26 u24 u27 u29 u30 u32 u33 u34 u35 => ?_, fun i => ?_, fun i => ?_, fun i => ?_, fun i => ?_, fun i => ?_, fun i => ?_, fun i => ?_, fun i => ?_, fun i => ?_, fun i => ?_, fun i => ?_, fun i => ?_, fun i => ?_, fun i => ?_, fun i => ?_, fun i => ?_, fun i => ?_, fun i => ?_, fun i => ?_, fun i => ?_⟩
  · rw [r7 j u30 u32 u33 u34 u35, r6 j u27 u29, r5 j u24, r4 j u26, r3 j u23, r2 j u19 u21, r1 j u15 u16 u17, r0 j u8 u9 u10 u11 u13]
  · rw [r7 8 (by decide) (by decide) (by decide) (by decide) (by decide), r6 8 (by decide) (by decide), r5 8 (by decide), r4 8 (by decide), r3 8 (by decide), r2 8 (by decide) (by decide), r1 8 (by decide) (by decide) (by decide), s8]
  · rw [r7 9 (by decide) (by decide) (by decide) (by decide) (by decide), r6 9 (by decide) (by decide), r5 9 (by decide), r4 9 (by decide), r3 9 (by decide), r2 9 (by decide) (by decide), r1 9 (by decide) (by decide) (by decide), s9]
  · rw [r7 10 (by decide) (by decide) (by decide) (by decide) (by decide), r6 10 (by decide) (by decide), r5 10 (by decide), r4 10 (by decide), r3 10 (by decide), r2 10 (by decide) (by decide), r1 10 (by decide) (by decide) (by decide), s10]
  · rw [r7 11 (by decide) (by decide) (by decide) (by decide) (by decide), r6 11 (by decide) (by decide), r5 11 (by decide), r4 11 (by decide), r3 11 (by decide), r2 11 (by decide) (by decide), r1 11 (by decide) (by decide) (by decide), s11]
  · rw [r7 13 (by decide) (by decide) (by decide) (by decide) (by decide), r6 13 (by decide) (by decide), r5 13 (by decide), r4 13 (by decide), r3 13 (by decide), r2 13 (by decide) (by decide), r1 13 (by decide) (by decide) (by decide), s13]
  · rw [r7 15 (by decide) (by decide) (by decide) (by decide) (by decide), r6 15 (by decide) (by decide), r5 15 (by decide), r4 15 (by decide), r3 15 (by decide), r2 15 (by decide) (by decide), s15, r0 15 (by decide) (by decide) (by decide) (by decide) (by decide)]
  · rw [r7 16 (by decide) (by decide) (by decide) (by decide) (by decide), r6 16 (by decide) (by decide), r5 16 (by decide), r4 16 (by decide), r3 16 (by decide), r2 16 (by decide) (by decide), s16, r0 16 (by decide) (by decide) (by decide) (by decide) (by decide)]
  · rw [r7 17 (by decide) (by decide) (by decide) (by decide) (by decide), r6 17 (by decide) (by decide), r5 17 (by decide), r4 17 (by decide), r3 17 (by decide), r2 17 (by decide) (by decide), s17, r0 17 (by decide) (by decide) (by decide) (by decide) (by decide)]
  · rw [r7 19 (by decide) (by decide) (by decide) (by decide) (by decide), r6 19 (by decide) (by decide), r5 19 (by decide), r4 19 (by decide), r3 19 (by decide), s19, r1 19 (by decide) (by decide) (by decide), r0 19 (by decide) (by decide) (by decide) (by decide) (by decide)]
  · rw [r7 21 (by decide) (by decide) (by decide) (by decide) (by decide), r6 21 (by decide) (by decide), r5 21 (by decide), r4 21 (by decide), r3 21 (by decide), s21, r1 21 (by decide) (by decide) (by decide), r0 21 (by decide) (by decide) (by decide) (by decide) (by decide)]
  · rw [r7 23 (by decide) (by decide) (by decide) (by decide) (by decide), r6 23 (by decide) (by decide), r5 23 (by decide), r4 23 (by decide), s23, r2 23 (by decide) (by decide), r1 23 (by decide) (by decide) (by decide), r0 23 (by decide) (by decide) (by decide) (by decide) (by decide)]
  · rw [r7 26 (by decide) (by decide) (by decide) (by decide) (by decide), r6 26 (by decide) (by decide), r5 26 (by decide), s26, r3 26 (by decide), r2 26 (by decide) (by decide), r1 26 (by decide) (by decide) (by decide), r0 26 (by decide) (by decide) (by decide) (by decide) (by decide)]
  · rw [r7 24 (by decide) (by decide) (by decide) (by decide) (by decide), r6 24 (by decide) (by decide), s24, r4 24 (by decide), r3 24 (by decide), r2 24 (by decide) (by decide), r1 24 (by decide) (by decide) (by decide), r0 24 (by decide) (by decide) (by decide) (by decide) (by decide)]
  · rw [r7 27 (by decide) (by decide) (by decide) (by decide) (by decide), s27, r5 27 (by decide), r4 27 (by decide), r3 27 (by decide), r2 27 (by decide) (by decide), r1 27 (by decide) (by decide) (by decide), r0 27 (by decide) (by decide) (by decide) (by decide) (by decide)]
  · rw [r7 29 (by decide) (by decide) (by decide) (by decide) (by decide), s29, r5 29 (by decide), r4 29 (by decide), r3 29 (by decide), r2 29 (by decide) (by decide), r1 29 (by decide) (by decide) (by decide), r0 29 (by decide) (by decide) (by decide) (by decide) (by decide)]
  · rw [s30, r6 30 (by decide) (by decide), r5 30 (by decide), r4 30 (by decide), r3 30 (by decide), r2 30 (by decide) (by decide), r1 30 (by decide) (by decide) (by decide), r0 30 (by decide) (by decide) (by decide) (by decide) (by decide)]
  · rw [s32, r6 32 (by decide) (by decide), r5 32 (by decide), r4 32 (by decide), r3 32 (by decide), r2 32 (by decide) (by decide), r1 32 (by decide) (by decide) (by decide), r0 32 (by decide) (by decide) (by decide) (by decide) (by decide)]
  · rw [s33, r6 33 (by decide) (by decide), r5 33 (by decide), r4 33 (by decide), r3 33 (by decide), r2 33 (by decide) (by decide), r1 33 (by decide) (by decide) (by decide), r0 33 (by decide) (by decide) (by decide) (by decide) (by decide)]
  · rw [s34, r6 34 (by decide) (by decide), r5 34 (by decide), r4 34 (by decide), r3 34 (by decide), r2 34 (by decide) (by decide), r1 34 (by decide) (by decide) (by decide), r0 34 (by decide) (by decide) (by decide) (by decide) (by decide)]
  · rw [s35, r6 35 (by decide) (by decide), r5 35 (by decide), r4 35 (by decide), r3 35 (by decide), r2 35 (by decide) (by decide), r1 35 (by decide) (by decide) (by decide), r0 35 (by decide) (by decide) (by decide) (by decide) (by decide)]
