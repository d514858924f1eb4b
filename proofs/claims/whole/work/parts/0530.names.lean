/-! names and roles at hand, of both -/
theorem fnd_loop {N ln k : Nat} {la : Nat → Int64} {w : Int64} (hk : k ≤ ln) (hln : ln ≤ 5) : ∀ (d i c : Nat), c + d = k → d < i → (∀ j, j < c → ¬ la j = w) → ∃ r : Int32, f_B_find_3 N ln la (nI k) w i (nI c) = some r ∧ isLst (fun j => la j = w) k r := by
  intro d
  induction d with
  | zero =>
    intro i c hc hi h
    obtain ⟨i, rfl⟩ : ∃ k, i = k + 1 := ⟨i - 1, by omega⟩
    rw [f_B_find_3, if_pos (nI_le (show k ≤ c by omega) (by omega))]
    exact ⟨-1, rfl, Or.inr ⟨rfl, fun j hj => h j (by omega)⟩⟩
  | succ d ih =>
    intro i c hc hi h
    obtain ⟨i, rfl⟩ : ∃ k, i = k + 1 := ⟨i - 1, by omega⟩
    rw [f_B_find_3, if_neg (nI_ge (show c < k by omega) (by omega)), if_neg (show ¬ Int32.ofNat ln ≤ nI c from nI_ge (show c < ln by omega) (by omega)), if_neg (nI_g (show c < ln by omega) (by omega)), nI_cl (by omega), nI_m]
    by_cases e : la c = w
    · rw [if_pos e]
      exact ⟨_, rfl, Or.inl ⟨c, by omega, rfl, e, h⟩⟩
    · rw [if_neg e]
      refine ih i (c + 1) (by omega) (by omega) (fun j hj => ?_)
      by_cases q : j = c
      · rw [q]; exact e
      · exact h j (by omega)
theorem fnd_eq {N ln k : Nat} {la : Nat → Int64} {w : Int64} (hN : 100000 ≤ N) (hk : k ≤ ln) (hln : ln ≤ 5) : ∃ r : Int32, f_B_find N ln (nI k) w la = some r ∧ isLst (fun j => la j = w) k r := by
  unfold f_B_find
  exact fnd_loop hk hln k N 0 (by omega) (by omega) (fun j h => absurd h (by omega))
theorem isLst.same {P P' : Nat → Prop} {B : Nat} {r r' : Int32} (h : isLst P B r) (h' : isLst P' B r') (hP : ∀ t, t < B → (P t ↔ P' t)) : r = r' := h.uniq h' (Nat.le_refl _) hP (fun t h1 h2 => absurd h2 (by omega))
theorem NmW_add {hK hL k n : Nat} {lw lw' : Nat → Int64} {m m' z z' : Nat → Int32} (h : NmW hK hL k lw m z) (el : ∀ a, a < k → lw' a = lw a) (em : ∀ i, hL ≤ i → i < hL + 8 * k → m' i = m i) (ez : ∀ a, a < k → z' (hK + a) = z (hK + a)) (n1 : 1 ≤ n) (n8 : n ≤ 8) (hz : z' (hK + k) = nI n) (hok : okR m' (hL + 8 * k) n) (hlw : lw' k = lN (pkb m' (hL + 8 * k) n)) : NmW hK hL (k + 1) lw' m' z' := by
  intro a ha
  by_cases e : a = k
  · rw [e]; exact ⟨n, n1, n8, hz, hok, hlw⟩
  · obtain ⟨n', p1, p2, p3, p4, p5⟩ := h a (by omega)
    have hsame : ∀ i, i < n' → m' (hL + 8 * a + i) = m (hL + 8 * a + i) := fun i hi => em _ (by omega) (by omega)
    have hok' : okR m' (hL + 8 * a) n' := fun i hi => by
      obtain ⟨b, b1, b2, b3⟩ := p4 i hi
      exact ⟨b, b1, b2, by rw [hsame i hi]; exact b3⟩
    refine ⟨n', p1, p2, by rw [ez a (by omega)]; exact p3, hok', ?_⟩
    rw [el a (by omega), p5, (pkb_inj hok' p4 p2 p2).mpr ⟨rfl, fun i hi => hsame i hi⟩]
theorem hn18 {N a z fr sz : Nat} {t0 m : Nat → Int32} (hz : a + z ≤ 80) (hf : fr + z ≤ 2000) : ∀ (d i j : Nat) (v : Int32), j + d = z → d < i → isZ v → ∃ r : Int32, f_M_isHere_nameLetters_18 N (nI fr) (nI sz) t0 m (nI a) (nI z) i v (nI j) = some r ∧ isZ r ∧ (r = 1 ↔ v = 1 ∧ ∀ j', j ≤ j' → j' < z → m (a + j') = t0 (fr + j')) := by
  intro d
  induction d with
  | zero =>
    intro i j v hj hi hv
    obtain ⟨i, rfl⟩ : ∃ k, i = k + 1 := ⟨i - 1, by omega⟩
    rw [f_M_isHere_nameLetters_18, if_pos (nI_le (show z ≤ j by omega) (by omega)), if_pos (isZ_n hv)]
    exact ⟨v, rfl, hv, ⟨fun h => ⟨h, fun j' h1 h2 => absurd h2 (by omega)⟩, fun h => h.1⟩⟩
  | succ d ih =>
    intro i j v hj hi hv
    obtain ⟨i, rfl⟩ : ∃ k, i = k + 1 := ⟨i - 1, by omega⟩
    rw [f_M_isHere_nameLetters_18, if_neg (nI_ge (show j < z by omega) (by omega))]
    rcases hv with hv | hv
    · rw [if_pos hv, if_pos (isZ_n (Or.inl hv))]
      exact ⟨v, rfl, Or.inl hv, ⟨fun h => by rw [hv] at h; exact absurd h (by decide), fun h => h.1⟩⟩
    · rw [hv, if_neg i1z, nI_add, nI_add, if_neg (nI_g (show a + j < 80 by omega) (by decide)), if_neg (nI_g (show fr + j < 2000 by omega) (by decide)), nI_cl (show a + j < 2147483648 by omega), nI_cl (show fr + j < 2147483648 by omega), nI_m]
      by_cases h : m (a + j) = t0 (fr + j)
      · rw [if_pos h]
        obtain ⟨r, r1, r2, r3⟩ := ih i (j + 1) 1 (by omega) (by omega) (Or.inr rfl)
        refine ⟨r, r1, r2, r3.trans ⟨fun q => ⟨rfl, fun j' h1 h2 => ?_⟩, fun q => ⟨rfl, fun j' h1 h2 => q.2 j' (by omega) h2⟩⟩⟩
        by_cases e : j' = j
        · rw [e]; exact h
        · exact q.2 j' (by omega) h2
      · rw [if_neg h]
        obtain ⟨r, r1, r2, r3⟩ := ih i (j + 1) 0 (by omega) (by omega) (Or.inl rfl)
        refine ⟨r, r1, r2, r3.trans ⟨fun q => absurd q.1 (by decide), fun q => absurd (q.2 j (Nat.le_refl _) (by omega)) h⟩⟩
theorem hn_eq {N a z fr sz : Nat} {t0 m : Nat → Int32} (hN : 100000 ≤ N) (hz : a + z ≤ 80) (hs8 : sz ≤ 2000) (hf : fr + sz ≤ 2000) : ∃ r : Int32, f_M_isHere_nameLetters N (nI a) (nI z) (nI fr) (nI sz) t0 m = some r ∧ isZ r ∧ (r = 1 ↔ z = sz ∧ ∀ j, j < z → m (a + j) = t0 (fr + j)) := by
  unfold f_M_isHere_nameLetters
  by_cases e : z = sz
  · subst e
    rw [if_pos rfl]
    obtain ⟨r, r1, r2, r3⟩ := hn18 (N := N) (t0 := t0) (m := m) (sz := z) hz hf z N 0 1 (by omega) (by omega) (Or.inr rfl)
    exact ⟨r, r1, r2, r3.trans ⟨fun q => ⟨rfl, fun j hj => q.2 j (Nat.zero_le _) hj⟩, fun q => ⟨rfl, fun j _ hj => q.2 j hj⟩⟩⟩
  · rw [if_neg (fun q => e ((nI_eq (by omega) (by omega)).mp q))]
    obtain ⟨M, rfl⟩ : ∃ M, N = M + 1 := ⟨N - 1, by omega⟩
    rw [f_M_isHere_nameLetters_18]
    have z0 : vp_nar .boolean (0 : Int32) = 0 := by decide
    by_cases h : nI z ≤ (0 : Int32)
    · rw [if_pos h, if_pos z0]; exact ⟨0, rfl, Or.inl rfl, ⟨fun q => absurd q (by decide), fun q => absurd q.1 e⟩⟩
    · rw [if_neg h, if_pos rfl, if_pos z0]; exact ⟨0, rfl, Or.inl rfl, ⟨fun q => absurd q (by decide), fun q => absurd q.1 e⟩⟩
theorem hn_loop {N k fr sz n : Nat} {tx t0 m z : Nat → Int32} {lw : Nat → Int64} (hN : 100000 ≤ N) (hk : k ≤ 5) (H : RTape n tx t0) (hs : sz ≤ 8) (hf : fr + sz ≤ n) (hok : okR tx fr sz) (W : NmW 5 40 k lw m z) : ∀ (d i c : Nat), c + d = k → d < i → (∀ j, j < c → ¬ lw j = lN (pkb tx fr sz)) → ∃ r : Int32, f_M_nameHere_2 N (nI fr) (nI sz) (nI k) t0 m z i (nI c) = some r ∧ isLst (fun j => lw j = lN (pkb tx fr sz)) k r := by
  have hn := H.1
  intro d
  induction d with
  | zero =>
    intro i c hc hi h
    obtain ⟨i, rfl⟩ : ∃ k, i = k + 1 := ⟨i - 1, by omega⟩
    rw [f_M_nameHere_2, if_pos (nI_le (show k ≤ c by omega) (by omega))]
    exact ⟨-1, rfl, Or.inr ⟨rfl, fun j hj => h j (by omega)⟩⟩
  | succ d ih =>
    intro i c hc hi h
    obtain ⟨i, rfl⟩ : ∃ k, i = k + 1 := ⟨i - 1, by omega⟩
    obtain ⟨n', p1, p2, p3, p4, p5⟩ := W c (by omega)
    have e5 : (5 : Int32) + nI c = nI (5 + c) := by rw [show (5 : Int32) = nI 5 from rfl, nI_add]
    have e8 : (8 : Int32) * nI (5 + c) = nI (40 + 8 * c) := by rw [show (8 : Int32) = nI 8 from rfl, pk_mul, show 8 * (5 + c) = 40 + 8 * c by omega]
    obtain ⟨r, r1, r2, r3⟩ := hn_eq (N := N) (a := 40 + 8 * c) (z := n') (fr := fr) (sz := sz) (t0 := t0) (m := m) hN (by omega) (by omega) (by omega)
    rw [f_M_nameHere_2, if_neg (nI_ge (show c < k by omega) (by omega)), e5, if_neg (nI_g (show 5 + c < 10 by omega) (by decide)), nI_cl (by omega), e8, p3, r1, Option.bind_some, nI_m]
    have key : r = 1 ↔ lw c = lN (pkb tx fr sz) := by
      rw [r3, p5, pk_lEQ (pkb_63 p4 p2) (pkb_63 hok hs), pkb_inj p4 hok p2 hs]
      constructor
      · rintro ⟨q1, q2⟩; exact ⟨q1, fun j hj => by rw [q2 j hj, (H.2 (fr + j) (by omega)).1]⟩
      · rintro ⟨q1, q2⟩; exact ⟨q1, fun j hj => by rw [q2 j hj, (H.2 (fr + j) (by omega)).1]⟩
    rcases r2 with q | q
    · rw [if_pos q]
      refine ih i (c + 1) (by omega) (by omega) (fun j hj => ?_)
      by_cases e : j = c
      · rw [e]; intro z; rw [key.mpr z] at q; exact absurd q (by decide)
      · exact h j (by omega)
    · rw [if_neg (by rw [q]; decide)]
      exact ⟨_, rfl, Or.inl ⟨c, by omega, rfl, key.mp q, h⟩⟩
theorem hr18 {N a z fr sz : Nat} {t0 m : Nat → Int32} (hz : a + z ≤ 48) (hf : fr + z ≤ 2000) : ∀ (d i j : Nat) (v : Int32), j + d = z → d < i → isZ v → ∃ r : Int32, f_M_isHere_roleLetters_18 N (nI fr) (nI sz) t0 m (nI a) (nI z) i v (nI j) = some r ∧ isZ r ∧ (r = 1 ↔ v = 1 ∧ ∀ j', j ≤ j' → j' < z → m (a + j') = t0 (fr + j')) := by
  intro d
  induction d with
  | zero =>
    intro i j v hj hi hv
    obtain ⟨i, rfl⟩ : ∃ k, i = k + 1 := ⟨i - 1, by omega⟩
    rw [f_M_isHere_roleLetters_18, if_pos (nI_le (show z ≤ j by omega) (by omega)), if_pos (isZ_n hv)]
    exact ⟨v, rfl, hv, ⟨fun h => ⟨h, fun j' h1 h2 => absurd h2 (by omega)⟩, fun h => h.1⟩⟩
  | succ d ih =>
    intro i j v hj hi hv
    obtain ⟨i, rfl⟩ : ∃ k, i = k + 1 := ⟨i - 1, by omega⟩
    rw [f_M_isHere_roleLetters_18, if_neg (nI_ge (show j < z by omega) (by omega))]
    rcases hv with hv | hv
    · rw [if_pos hv, if_pos (isZ_n (Or.inl hv))]
      exact ⟨v, rfl, Or.inl hv, ⟨fun h => by rw [hv] at h; exact absurd h (by decide), fun h => h.1⟩⟩
    · rw [hv, if_neg i1z, nI_add, nI_add, if_neg (nI_g (show a + j < 48 by omega) (by decide)), if_neg (nI_g (show fr + j < 2000 by omega) (by decide)), nI_cl (show a + j < 2147483648 by omega), nI_cl (show fr + j < 2147483648 by omega), nI_m]
      by_cases h : m (a + j) = t0 (fr + j)
      · rw [if_pos h]
        obtain ⟨r, r1, r2, r3⟩ := ih i (j + 1) 1 (by omega) (by omega) (Or.inr rfl)
        refine ⟨r, r1, r2, r3.trans ⟨fun q => ⟨rfl, fun j' h1 h2 => ?_⟩, fun q => ⟨rfl, fun j' h1 h2 => q.2 j' (by omega) h2⟩⟩⟩
        by_cases e : j' = j
        · rw [e]; exact h
        · exact q.2 j' (by omega) h2
      · rw [if_neg h]
        obtain ⟨r, r1, r2, r3⟩ := ih i (j + 1) 0 (by omega) (by omega) (Or.inl rfl)
        refine ⟨r, r1, r2, r3.trans ⟨fun q => absurd q.1 (by decide), fun q => absurd (q.2 j (Nat.le_refl _) (by omega)) h⟩⟩
theorem hr_eq {N a z fr sz : Nat} {t0 m : Nat → Int32} (hN : 100000 ≤ N) (hz : a + z ≤ 48) (hs8 : sz ≤ 2000) (hf : fr + sz ≤ 2000) : ∃ r : Int32, f_M_isHere_roleLetters N (nI a) (nI z) (nI fr) (nI sz) t0 m = some r ∧ isZ r ∧ (r = 1 ↔ z = sz ∧ ∀ j, j < z → m (a + j) = t0 (fr + j)) := by
  unfold f_M_isHere_roleLetters
  by_cases e : z = sz
  · subst e
    rw [if_pos rfl]
    obtain ⟨r, r1, r2, r3⟩ := hr18 (N := N) (t0 := t0) (m := m) (sz := z) hz hf z N 0 1 (by omega) (by omega) (Or.inr rfl)
    exact ⟨r, r1, r2, r3.trans ⟨fun q => ⟨rfl, fun j hj => q.2 j (Nat.zero_le _) hj⟩, fun q => ⟨rfl, fun j _ hj => q.2 j hj⟩⟩⟩
  · rw [if_neg (fun q => e ((nI_eq (by omega) (by omega)).mp q))]
    obtain ⟨M, rfl⟩ : ∃ M, N = M + 1 := ⟨N - 1, by omega⟩
    rw [f_M_isHere_roleLetters_18]
    have z0 : vp_nar .boolean (0 : Int32) = 0 := by decide
    by_cases h : nI z ≤ (0 : Int32)
    · rw [if_pos h, if_pos z0]; exact ⟨0, rfl, Or.inl rfl, ⟨fun q => absurd q (by decide), fun q => absurd q.1 e⟩⟩
    · rw [if_neg h, if_pos rfl, if_pos z0]; exact ⟨0, rfl, Or.inl rfl, ⟨fun q => absurd q (by decide), fun q => absurd q.1 e⟩⟩
theorem hr_loop {N k fr sz n : Nat} {tx t0 m z : Nat → Int32} {lw : Nat → Int64} (hN : 100000 ≤ N) (hk : k ≤ 3) (H : RTape n tx t0) (hs : sz ≤ 8) (hf : fr + sz ≤ n) (hok : okR tx fr sz) (W : NmW 3 24 k lw m z) : ∀ (d i c : Nat), c + d = k → d < i → (∀ j, j < c → ¬ lw j = lN (pkb tx fr sz)) → ∃ r : Int32, f_M_roleHere_2 N (nI fr) (nI sz) (nI k) t0 m z i (nI c) = some r ∧ isLst (fun j => lw j = lN (pkb tx fr sz)) k r := by
  have hn := H.1
  intro d
  induction d with
  | zero =>
    intro i c hc hi h
    obtain ⟨i, rfl⟩ : ∃ k, i = k + 1 := ⟨i - 1, by omega⟩
    rw [f_M_roleHere_2, if_pos (nI_le (show k ≤ c by omega) (by omega))]
    exact ⟨-1, rfl, Or.inr ⟨rfl, fun j hj => h j (by omega)⟩⟩
  | succ d ih =>
    intro i c hc hi h
    obtain ⟨i, rfl⟩ : ∃ k, i = k + 1 := ⟨i - 1, by omega⟩
    obtain ⟨n', p1, p2, p3, p4, p5⟩ := W c (by omega)
    have e5 : (3 : Int32) + nI c = nI (3 + c) := by rw [show (3 : Int32) = nI 3 from rfl, nI_add]
    have e8 : (8 : Int32) * nI (3 + c) = nI (24 + 8 * c) := by rw [show (8 : Int32) = nI 8 from rfl, pk_mul, show 8 * (3 + c) = 24 + 8 * c by omega]
    obtain ⟨r, r1, r2, r3⟩ := hr_eq (N := N) (a := 24 + 8 * c) (z := n') (fr := fr) (sz := sz) (t0 := t0) (m := m) hN (by omega) (by omega) (by omega)
    rw [f_M_roleHere_2, if_neg (nI_ge (show c < k by omega) (by omega)), e5, if_neg (nI_g (show 3 + c < 6 by omega) (by decide)), nI_cl (by omega), e8, p3, r1, Option.bind_some, nI_m]
    have key : r = 1 ↔ lw c = lN (pkb tx fr sz) := by
      rw [r3, p5, pk_lEQ (pkb_63 p4 p2) (pkb_63 hok hs), pkb_inj p4 hok p2 hs]
      constructor
      · rintro ⟨q1, q2⟩; exact ⟨q1, fun j hj => by rw [q2 j hj, (H.2 (fr + j) (by omega)).1]⟩
      · rintro ⟨q1, q2⟩; exact ⟨q1, fun j hj => by rw [q2 j hj, (H.2 (fr + j) (by omega)).1]⟩
    rcases r2 with q | q
    · rw [if_pos q]
      refine ih i (c + 1) (by omega) (by omega) (fun j hj => ?_)
      by_cases e : j = c
      · rw [e]; intro z; rw [key.mpr z] at q; exact absurd q (by decide)
      · exact h j (by omega)
    · rw [if_neg (by rw [q]; decide)]
      exact ⟨_, rfl, Or.inl ⟨c, by omega, rfl, key.mp q, h⟩⟩
theorem hn_all {N k fr sz n : Nat} {tx t0 m z : Nat → Int32} {lw : Nat → Int64} (hN : 100000 ≤ N) (hk : k ≤ 5) (H : RTape n tx t0) (hs : sz ≤ 8) (hf : fr + sz ≤ n) (hok : okR tx fr sz) (W : NmW 5 40 k lw m z) : ∃ r : Int32, f_B_findName N (lN (pkb tx fr sz)) (nI k) lw = some r ∧ f_M_nameHere N (nI fr) (nI sz) (nI k) t0 m z = some r ∧ ((r = -1 ∧ ∀ j, j < k → ¬ lw j = lN (pkb tx fr sz)) ∨ ∃ j, j < k ∧ r = nI j ∧ lw j = lN (pkb tx fr sz) ∧ z (5 + j) = nI sz) := by
  unfold f_B_findName f_M_nameHere
  obtain ⟨r, r1, r2⟩ := fnd_eq (N := N) (ln := 5) (k := k) (la := lw) (w := lN (pkb tx fr sz)) hN hk (by decide)
  obtain ⟨r', s1, s2⟩ := hn_loop hN hk H hs hf hok W k N 0 (by omega) (by omega) (fun j h => absurd h (by omega))
  have e := r2.same s2 (fun _ _ => Iff.rfl)
  subst e
  rw [r1, Option.bind_some]
  refine ⟨r, rfl, s1, ?_⟩
  rcases r2 with ⟨j, j1, j2, j3, -⟩ | ⟨j1, j2⟩
  · refine Or.inr ⟨j, j1, j2, j3, ?_⟩
    obtain ⟨n', p1, p2, p3, p4, p5⟩ := W j j1
    have := (pkb_inj p4 hok p2 hs).mp ((pk_lEQ (pkb_63 p4 p2) (pkb_63 hok hs)).mp (p5.symm.trans j3))
    rw [p3, this.1]
  · exact Or.inl ⟨j1, j2⟩
theorem hr_all {N k fr sz n : Nat} {tx t0 m z : Nat → Int32} {lw : Nat → Int64} (hN : 100000 ≤ N) (hk : k ≤ 3) (H : RTape n tx t0) (hs : sz ≤ 8) (hf : fr + sz ≤ n) (hok : okR tx fr sz) (W : NmW 3 24 k lw m z) : ∃ r : Int32, f_B_findRole N (lN (pkb tx fr sz)) (nI k) lw = some r ∧ f_M_roleHere N (nI fr) (nI sz) (nI k) t0 m z = some r ∧ ((r = -1 ∧ ∀ j, j < k → ¬ lw j = lN (pkb tx fr sz)) ∨ ∃ j, j < k ∧ r = nI j ∧ lw j = lN (pkb tx fr sz) ∧ z (3 + j) = nI sz) := by
  unfold f_B_findRole f_M_roleHere
  obtain ⟨r, r1, r2⟩ := fnd_eq (N := N) (ln := 3) (k := k) (la := lw) (w := lN (pkb tx fr sz)) hN hk (by decide)
  obtain ⟨r', s1, s2⟩ := hr_loop hN hk H hs hf hok W k N 0 (by omega) (by omega) (fun j h => absurd h (by omega))
  have e := r2.same s2 (fun _ _ => Iff.rfl)
  subst e
  rw [r1, Option.bind_some]
  refine ⟨r, rfl, s1, ?_⟩
  rcases r2 with ⟨j, j1, j2, j3, -⟩ | ⟨j1, j2⟩
  · refine Or.inr ⟨j, j1, j2, j3, ?_⟩
    obtain ⟨n', p1, p2, p3, p4, p5⟩ := W j j1
    have := (pkb_inj p4 hok p2 hs).mp ((pk_lEQ (pkb_63 p4 p2) (pkb_63 hok hs)).mp (p5.symm.trans j3))
    rw [p3, this.1]
  · exact Or.inl ⟨j1, j2⟩
