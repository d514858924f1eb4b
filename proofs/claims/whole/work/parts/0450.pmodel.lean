/-! a concept printed by the model -/
theorem M_later_eq {q : Nat} {a b c : Int32} {a74 a75 a76 : Nat → Int32} (hq : q < 2000) : f_M_later a b c (nI q) a74 a75 a76 = some (nI (q + 1), upd a74 q a, upd a75 q b, upd a76 q c) := by
  unfold f_M_later
  rw [if_neg (nI_g hq (by decide)), nI_cl (by omega), nI_m]
theorem wr1 {f : Nat → Int32} {k b : Nat} : wr f k [b] = upd f k (nI b) := rfl
theorem pm_exp {N i k q : Nat} {o73 o77 : Int32} {m8 m9 m10 m23 m24 m26 m27 p72 p74 p75 p76 ou a74 a75 a76 : Nat → Int32} (hq : q < 2000) (h : a74 q = 0) : f_M_putConcept_12 N o73 o77 wordsM m8 m9 m10 m23 m24 m26 m27 p72 p74 p75 p76 (i + 1) (nI k) (nI (q + 1)) ou a74 a75 a76 = (f_M_putOne N (a75 q) (a76 q) (nI k) (nI q) wordsM m8 m9 m10 m23 m24 m26 m27 ou a74 a75 a76).bind fun q60 => (f_M_putConcept_12 N o73 o77 wordsM m8 m9 m10 m23 m24 m26 m27 p72 p74 p75 p76 i q60.1 q60.2.1 q60.2.2.1 q60.2.2.2.1 q60.2.2.2.2.1 q60.2.2.2.2.2) := by
  rw [f_M_putConcept_12, if_neg (nI_nle (show 0 < q + 1 by omega) (by omega)), nI_pred, if_neg (nI_g hq (by decide)), nI_cl (by omega), h, if_pos rfl]
theorem pm_sign {N i k q b : Nat} {o73 o77 : Int32} {m8 m9 m10 m23 m24 m26 m27 p72 p74 p75 p76 ou a74 a75 a76 : Nat → Int32} (hq : q < 2000) (hk : k < 16000) (hb : b < 128) (h : a74 q = 1) (h2 : a75 q = nI b) : f_M_putConcept_12 N o73 o77 wordsM m8 m9 m10 m23 m24 m26 m27 p72 p74 p75 p76 (i + 1) (nI k) (nI (q + 1)) ou a74 a75 a76 = f_M_putConcept_12 N o73 o77 wordsM m8 m9 m10 m23 m24 m26 m27 p72 p74 p75 p76 i (nI (k + 1)) (nI q) (wr ou k [b]) a74 a75 a76 := by
  rw [f_M_putConcept_12, if_neg (nI_nle (show 0 < q + 1 by omega) (by omega)), nI_pred, if_neg (nI_g hq (by decide)), nI_cl (by omega), h, if_neg i1z, if_pos rfl, h2, M_put_eq hk hb, Option.bind_some, wr1]
theorem pm_word {N i k q w : Nat} {l : List Nat} {o73 o77 : Int32} {m8 m9 m10 m23 m24 m26 m27 p72 p74 p75 p76 ou a74 a75 a76 : Nat → Int32} (hW : mW N w l) (hq : q < 2000) (hk : k + l.length < 16000) (h : a74 q = 2) (h2 : a75 q = nI w) : f_M_putConcept_12 N o73 o77 wordsM m8 m9 m10 m23 m24 m26 m27 p72 p74 p75 p76 (i + 1) (nI k) (nI (q + 1)) ou a74 a75 a76 = f_M_putConcept_12 N o73 o77 wordsM m8 m9 m10 m23 m24 m26 m27 p72 p74 p75 p76 i (nI (k + l.length)) (nI q) (wr ou k l) a74 a75 a76 := by
  rw [f_M_putConcept_12, if_neg (nI_nle (show 0 < q + 1 by omega) (by omega)), nI_pred, if_neg (nI_g hq (by decide)), nI_cl (by omega), h, if_neg (by decide), if_neg (by decide), h2, hW k ou hk, Option.bind_some]
/-- the model's steps that print a node m of kind K, brackets aside -/
def PrK (N : Nat) (m8 m9 m10 m23 m24 m26 m27 : Nat → Int32) (m K W : Nat) (l : List Nat) : Prop := ∃ st : Nat, st + 2 ≤ 6 * W ∧ ∀ (o73 o77 k0 q0 : Int32) (p72 p74 p75 p76 b72 b74 b75 b76 : Nat → Int32) (i k q : Nat) (ou a74 a75 a76 : Nat → Int32), q + 6 * W ≤ 2001 → k + l.length ≤ 2670 → ∃ a74' a75' a76' : Nat → Int32, (f_M_putOne_50 N k0 q0 wordsM m8 m9 m10 m23 m24 m26 m27 b72 b74 b75 b76 (nI m) (nI K) (nI (rkn K)) (nI k) (nI q) ou a74 a75 a76).bind (fun q60 => (f_M_putConcept_12 N o73 o77 wordsM m8 m9 m10 m23 m24 m26 m27 p72 p74 p75 p76 (i + st) q60.1 q60.2.1 q60.2.2.1 q60.2.2.2.1 q60.2.2.2.2.1 q60.2.2.2.2.2)) = f_M_putConcept_12 N o73 o77 wordsM m8 m9 m10 m23 m24 m26 m27 p72 p74 p75 p76 i (nI (k + l.length)) (nI q) (wr ou k l) a74' a75' a76' ∧ ∀ x, x < q → a74' x = a74 x ∧ a75' x = a75 x ∧ a76' x = a76 x
/-- the model's steps that print what waits at place q -/
def PrM (N : Nat) (m8 m9 m10 m23 m24 m26 m27 : Nat → Int32) (m K W : Nat) (l : List Nat) : Prop := ∀ least : Nat, 1 ≤ least → least ≤ 3 → ∃ st : Nat, st ≤ 6 * W ∧ ∀ (o73 o77 : Int32) (p72 p74 p75 p76 : Nat → Int32) (i k q : Nat) (ou a74 a75 a76 : Nat → Int32), a74 q = 0 → a75 q = nI m → a76 q = nI least → q + 6 * W ≤ 2000 → k + (brk (decide (rkn K < least)) l).length ≤ 2670 → ∃ a74' a75' a76' : Nat → Int32, f_M_putConcept_12 N o73 o77 wordsM m8 m9 m10 m23 m24 m26 m27 p72 p74 p75 p76 (i + st) (nI k) (nI (q + 1)) ou a74 a75 a76 = f_M_putConcept_12 N o73 o77 wordsM m8 m9 m10 m23 m24 m26 m27 p72 p74 p75 p76 i (nI (k + (brk (decide (rkn K < least)) l).length)) (nI q) (wr ou k (brk (decide (rkn K < least)) l)) a74' a75' a76' ∧ ∀ x, x < q → a74' x = a74 x ∧ a75' x = a75 x ∧ a76' x = a76 x
theorem rkn_le (K : Nat) : 1 ≤ rkn K ∧ rkn K ≤ 3 := by
  unfold rkn
  by_cases h : K = 7
  · rw [if_pos h]; decide
  · rw [if_neg h]
    by_cases h : K = 6
    · rw [if_pos h]; decide
    · rw [if_neg h]; decide
theorem M_putOne_eq {N m K : Nat} {k q : Int32} {least : Int32} {m8 m9 m10 m23 m24 m26 m27 ou a74 a75 a76 : Nat → Int32} (hm : m < 400) (hK : K < 8) (e : m8 m = nI K) : f_M_putOne N (nI m) least k q wordsM m8 m9 m10 m23 m24 m26 m27 ou a74 a75 a76 = f_M_putOne_28 N k q wordsM m8 m9 m10 m23 m24 m26 m27 ou a74 a75 a76 (nI m) least (nI K) (nI (rkn K)) := by
  unfold f_M_putOne
  rw [if_neg (nI_g hm (by decide)), nI_cl (by omega), e]
  have cases8 : K = 0 ∨ K = 1 ∨ K = 2 ∨ K = 3 ∨ K = 4 ∨ K = 5 ∨ K = 6 ∨ K = 7 := by omega
  rcases cases8 with e | e | e | e | e | e | e | e <;> subst e
  · rw [if_neg (by decide), if_neg (by decide)]; rfl
  · rw [if_neg (by decide), if_neg (by decide)]; rfl
  · rw [if_neg (by decide), if_neg (by decide)]; rfl
  · rw [if_neg (by decide), if_neg (by decide)]; rfl
  · rw [if_neg (by decide), if_neg (by decide)]; rfl
  · rw [if_neg (by decide), if_neg (by decide)]; rfl
  · rw [if_neg (by decide), if_pos (by decide)]; rfl
  · rw [if_pos (by decide)]; rfl
theorem PrM_of {N m K W : Nat} {m8 m9 m10 m23 m24 m26 m27 : Nat → Int32} {l : List Nat} (hm : m < 400) (hK : K < 8) (e : m8 m = nI K) (h : PrK N m8 m9 m10 m23 m24 m26 m27 m K W l) : PrM N m8 m9 m10 m23 m24 m26 m27 m K W l := by
  intro least hl1 hl3
  obtain ⟨st, s1, s2⟩ := h
  have hr := rkn_le K
  by_cases hb : rkn K < least
  · refine ⟨st + 2, by omega, fun o73 o77 p72 p74 p75 p76 i k q ou a74 a75 a76 h1 h2 h3 hq hk => ?_⟩
    rw [decide_eq_true hb, brk_len] at hk
    have hk' : k + (l.length + 2) ≤ 2670 := hk
    obtain ⟨x74, x75, x76, e1, e2⟩ := s2 o73 o77 (nI k) (nI q) p72 p74 p75 p76 ou a74 a75 a76 (i + 1) (k + 1) (q + 1) (wr ou k [40]) (upd a74 q 1) (upd a75 q 41) (upd a76 q 0) (by omega) (by omega)
    refine ⟨x74, x75, x76, ?_, fun x hx => ?_⟩
    · rw [show i + (st + 2) = (i + 1 + st) + 1 by omega, pm_exp (by omega) h1, h2, h3, M_putOne_eq hm hK e]
      unfold f_M_putOne_28
      rw [if_neg (nI_ge hb (by omega)), show (40 : Int32) = nI 40 from rfl, M_put_eq (by omega) (by decide), Option.bind_some, M_later_eq (by omega), Option.bind_some]
      have e1' := e1
      rw [wr1] at e1'
      show (f_M_putOne_50 N (nI k) (nI q) wordsM m8 m9 m10 m23 m24 m26 m27 ou a74 a75 a76 (nI m) (nI K) (nI (rkn K)) (nI (k + 1)) (nI (q + 1)) (upd ou k (nI 40)) (upd a74 q 1) (upd a75 q 41) (upd a76 q 0)).bind _ = _
      rw [e1', pm_sign (b := 41) (by omega) (by omega) (by decide) (by rw [(e2 q (by omega)).1, up_s]) (by rw [(e2 q (by omega)).2.1, up_s]; rfl)]
      have el : brk true l = [40] ++ (l ++ [41]) := rfl
      rw [decide_eq_true hb, brk_len, el, wr_app, wr_app, show k + 1 + l.length + 1 = k + (l.length + if true = true then 2 else 0) by show _ = k + (l.length + 2); omega]
      rfl
    · have := e2 x (by omega)
      rw [up_n (by omega), up_n (by omega), up_n (by omega)] at this
      exact this
  · refine ⟨st + 1, by omega, fun o73 o77 p72 p74 p75 p76 i k q ou a74 a75 a76 h1 h2 h3 hq hk => ?_⟩
    rw [decide_eq_false hb] at hk ⊢
    obtain ⟨x74, x75, x76, e1, e2⟩ := s2 o73 o77 (nI k) (nI q) p72 p74 p75 p76 ou a74 a75 a76 i k q ou a74 a75 a76 (by omega) hk
    refine ⟨x74, x75, x76, ?_, e2⟩
    rw [show i + (st + 1) = (i + st) + 1 by omega, pm_exp (by omega) h1, h2, h3, M_putOne_eq hm hK e]
    unfold f_M_putOne_28
    rw [if_pos (nI_le (show least ≤ rkn K by omega) (by omega))]
    exact e1
theorem M_name_loop {N a n : Nat} {o73 : Int32} {m23 m24 o9 : Nat → Int32} (ha : a < 10) (hn : n ≤ 8) (e : m24 a = nI n) (h : okR m23 (8 * a) n) (hz : 8 * a + n ≤ 80) : ∀ (d i j k : Nat) (ou : Nat → Int32), j + d = n → d < i → k + n < 16000 → f_M_putName_2 N o73 m23 m24 o9 (nI a) i (nI j) (nI (k + j)) (wr ou k (lsb m23 (8 * a) j)) = some (nI (k + n), wr ou k (lsb m23 (8 * a) n)) := by
  intro d
  induction d with
  | zero =>
    intro i j k ou hj hi hk
    obtain ⟨i, rfl⟩ : ∃ k, i = k + 1 := ⟨i - 1, by omega⟩
    have ej : j = n := by omega
    subst ej
    rw [f_M_putName_2, if_neg (nI_g ha (by decide)), nI_cl (show a < 2147483648 by omega), e, if_pos (nI_le (Nat.le_refl _) (by omega))]
  | succ d ih =>
    intro i j k ou hj hi hk
    obtain ⟨i, rfl⟩ : ∃ k, i = k + 1 := ⟨i - 1, by omega⟩
    have hc := h.cl (show j < n by omega)
    have e8 : ((8 : Int32) * nI a) + nI j = nI (8 * a + j) := by rw [show (8 : Int32) = nI 8 from rfl, pk_mul, nI_add]
    rw [f_M_putName_2, if_neg (nI_g ha (by decide)), nI_cl (show a < 2147483648 by omega), e, if_neg (nI_ge (show j < n by omega) (by omega)), e8, if_neg (nI_g (show 8 * a + j < 80 by omega) (by decide)), nI_cl (show 8 * a + j < 2147483648 by omega), hc.2.2, M_put_eq (by omega) hc.2.1, Option.bind_some, nI_m]
    have := ih i (j + 1) k ou (by omega) (by omega) hk
    rw [lsb_s, wr_snoc, lsb_len] at this
    exact this
theorem M_name_eq {N a n k : Nat} {m23 m24 ou : Nat → Int32} (hN : 100000 ≤ N) (ha : a < 10) (hn : n ≤ 8) (e : m24 a = nI n) (h : okR m23 (8 * a) n) (hk : k + n < 16000) : f_M_putName N (nI a) (nI k) m23 m24 ou = some (nI (k + n), wr ou k (lsb m23 (8 * a) n)) := by
  unfold f_M_putName
  exact M_name_loop (N := N) (o73 := nI k) (o9 := ou) ha hn e h (by omega) n N 0 k ou (by omega) (by omega) hk
theorem M_role_loop {N a n : Nat} {o73 : Int32} {m23 m24 o9 : Nat → Int32} (ha : a < 6) (hn : n ≤ 8) (e : m24 a = nI n) (h : okR m23 (8 * a) n) (hz : 8 * a + n ≤ 48) : ∀ (d i j k : Nat) (ou : Nat → Int32), j + d = n → d < i → k + n < 16000 → f_M_putRole_2 N o73 m23 m24 o9 (nI a) i (nI j) (nI (k + j)) (wr ou k (lsb m23 (8 * a) j)) = some (nI (k + n), wr ou k (lsb m23 (8 * a) n)) := by
  intro d
  induction d with
  | zero =>
    intro i j k ou hj hi hk
    obtain ⟨i, rfl⟩ : ∃ k, i = k + 1 := ⟨i - 1, by omega⟩
    have ej : j = n := by omega
    subst ej
    rw [f_M_putRole_2, if_neg (nI_g ha (by decide)), nI_cl (show a < 2147483648 by omega), e, if_pos (nI_le (Nat.le_refl _) (by omega))]
  | succ d ih =>
    intro i j k ou hj hi hk
    obtain ⟨i, rfl⟩ : ∃ k, i = k + 1 := ⟨i - 1, by omega⟩
    have hc := h.cl (show j < n by omega)
    have e8 : ((8 : Int32) * nI a) + nI j = nI (8 * a + j) := by rw [show (8 : Int32) = nI 8 from rfl, pk_mul, nI_add]
    rw [f_M_putRole_2, if_neg (nI_g ha (by decide)), nI_cl (show a < 2147483648 by omega), e, if_neg (nI_ge (show j < n by omega) (by omega)), e8, if_neg (nI_g (show 8 * a + j < 48 by omega) (by decide)), nI_cl (show 8 * a + j < 2147483648 by omega), hc.2.2, M_put_eq (by omega) hc.2.1, Option.bind_some, nI_m]
    have := ih i (j + 1) k ou (by omega) (by omega) hk
    rw [lsb_s, wr_snoc, lsb_len] at this
    exact this
theorem M_role_eq {N a n k : Nat} {m23 m24 ou : Nat → Int32} (hN : 100000 ≤ N) (ha : a < 6) (hn : n ≤ 8) (e : m24 a = nI n) (h : okR m23 (8 * a) n) (hk : k + n < 16000) : f_M_putRole N (nI a) (nI k) m23 m24 ou = some (nI (k + n), wr ou k (lsb m23 (8 * a) n)) := by
  unfold f_M_putRole
  exact M_role_loop (N := N) (o73 := nI k) (o9 := ou) ha hn e h (by omega) n N 0 k ou (by omega) (by omega) hk
