/-! a step to the next token; the kept words, of both -/
theorem i64_eq {v : Int32} {k : Nat} (hk : k < 2147483648) : v.toInt64 = lN k ↔ v = nI k := by
  constructor
  · intro h
    have h1 := congrArg Int64.toInt h
    rw [Int32.toInt_toInt64, lN_toInt hk] at h1
    exact Int32.toInt_inj.mp (h1.trans (nI_toInt hk).symm)
  · intro h
    rw [h, nI_l hk]
theorem tok_step {N n p : Nat} {tx t0 : Nat → Int32} {o3 o4 m3 m4 m5 m6 : Int32} {ow : Int64} (hN : 100000 ≤ N) (H : RTape n tx t0) (hp : p ≤ n) : ∃ (fr nx : Nat) (c4 : Int32) (w : Int64) (k3 k5 k6 : Int32), f_T_step N (nI n) (nI p) o3 o4 ow tx = some (nI nx, nI fr, c4, w) ∧ f_M_next N (nI n) (nI p) m3 m4 m5 m6 t0 = some (nI nx, k3, nI fr, k5, k6) ∧ Tok n tx nx fr c4 w k3 k5 k6 ∧ p ≤ fr := by
  have hn := H.1
  obtain ⟨q, q1, q2, q3, q4⟩ := sk_loop (N := N) (o1 := nI p) (m2 := nI p) (m3 := m3) (m4 := m4) (m5 := m5) (m6 := m6) H (n - p) N N p (by omega) (by omega) (by omega)
  unfold f_T_step f_M_next f_T_skipBlanks
  rw [q3, q4, Option.bind_some]
  unfold f_M_next_41
  by_cases hqn : q = n
  · subst hqn
    rw [if_neg (nI_nlt (Nat.le_refl _) (by omega)), if_pos rfl]
    exact ⟨q, q, 1, lN 0, 0, 0, 0, rfl, rfl, ⟨Nat.le_refl _, Nat.le_refl _, Or.inl ⟨rfl, rfl, rfl, rfl, rfl⟩⟩, q1⟩
  · have hlt : q < n := by omega
    have e := (H.2 q hlt).1
    have g : ¬ (nI q < 0 ∨ 2000 ≤ q) := nI_gc (by omega) (by decide)
    rw [if_pos (nI_lt hlt (by omega)), if_neg (fun z => hqn ((nI_eq (by omega) (by omega)).mp z)), nI_cl (show q < 2147483648 by omega), if_neg g, if_neg g, ← e, T_lt_eq, T_fg_eq, M_lt_eq, M_fg_eq]
    simp only [Option.bind_some]
    by_cases ha : an (tx q) = true
    · -- a row
      have row : ∃ (fr nx : Nat) (c4 : Int32) (w : Int64) (k3 k5 k6 : Int32), f_T_step_66 N (nI n) (nI p) o3 o4 ow tx (nI q) (nI q) (0 : Int64) = some (nI nx, nI fr, c4, w) ∧ f_M_next_96 N (nI n) (nI p) m3 m4 m5 m6 t0 (nI q) (0 : Int32) (0 : Int32) N (nI q) = some (nI nx, k3, nI fr, k5, k6) ∧ Tok n tx nx fr c4 w k3 k5 k6 ∧ p ≤ fr := by
        unfold f_T_step_66 f_T_takeRow
        rw [nI_cl (show q < 2147483648 by omega), if_neg g, T_lt_eq, Option.bind_some]
        obtain ⟨e', W', r1, r2, r3, r4, r5, r6, r7⟩ := ro_loop (N := N) (q := q) (o2 := nI q) (o3 := nI q) (o4 := o4) (ow := 0) (v1 := if lt (tx q) = true then 1 else 0) (m2 := nI p) (m3 := m3) (m4 := m4) (m5 := m5) (m6 := m6) (x4 := nI q) (x5 := 0) (x6 := 0) H q2 (n - q) N N q 0 (by omega) (by omega) (by omega) (Nat.le_refl _) (fun k h1 h2 => absurd h2 (by omega)) (fun _ => by rw [Nat.sub_self]; rfl)
        have hqe : q < e' := by
          rcases Nat.lt_or_ge q e' with z | z
          · exact z
          · have ee : e' = q := by omega
            have := r4 (by omega)
            rw [ee, ha] at this
            cases this
        rw [r6, r7]
        unfold f_T_takeRow_89 f_M_next_134
        rw [nI_cl (show q < 2147483648 by omega), if_neg g, ← e, M_lt_eq, Option.bind_some, pk_sub (by omega)]
        by_cases hl : lt (tx q) = true
        · rw [if_pos hl, if_neg i1z, if_neg i1z]
          by_cases h8 : e' - q ≤ 8
          · rw [if_pos (show nI (e' - q) ≤ (8 : Int32) from nI_le h8 (by decide)), if_neg (show ¬ (8 : Int32) < nI (e' - q) from nI_nlt h8 (by decide)), T_kw_eq, Option.bind_some]
            unfold f_M_next_174 f_M_next_247
            have tk : ∀ c4 : Int32, c4 = (if kwB W' = true then 3 else 4) → Tok n tx e' q c4 W' 1 (nI (e' - q)) 0 := fun c4 hc4 => ⟨by omega, r2, Or.inr (Or.inr (Or.inr ⟨e' - q, by omega, h8, by omega, rfl, rfl, rfl, fun i hi => by
              obtain ⟨b, c1, c2, c3, -, -⟩ := an_nI (r3 (q + i) (by omega) (by omega))
              exact ⟨b, c1, c2, c3⟩, ha, r5 h8, hc4, r4⟩))⟩
            by_cases hk : kwB W' = true
            · rw [if_pos hk, if_neg i1z]
              exact ⟨q, e', 3, W', 1, nI (e' - q), 0, rfl, rfl, tk 3 (by rw [if_pos hk]), q1⟩
            · rw [if_neg hk, if_pos rfl]
              exact ⟨q, e', 4, W', 1, nI (e' - q), 0, rfl, rfl, tk 4 (by rw [if_neg hk]), q1⟩
          · rw [if_neg (show ¬ nI (e' - q) ≤ (8 : Int32) from nI_ge (show 8 < e' - q by omega) (by omega)), if_pos (show (8 : Int32) < nI (e' - q) from nI_lt (show 8 < e' - q by omega) (by omega))]
            exact ⟨q, e', 0, lN 0, 3, nI (e' - q), 0, rfl, rfl, ⟨by omega, r2, Or.inr (Or.inr (Or.inl ⟨hqe, rfl, rfl, rfl⟩))⟩, q1⟩
        · rw [if_neg hl, if_pos rfl, if_pos rfl]
          exact ⟨q, e', 0, lN 0, 3, nI (e' - q), 0, rfl, rfl, ⟨by omega, r2, Or.inr (Or.inr (Or.inl ⟨hqe, rfl, rfl, rfl⟩))⟩, q1⟩
      by_cases hl : lt (tx q) = true
      · rw [if_pos hl, if_neg i1z, if_neg i1z]; exact row
      · have hf : fg (tx q) = true := by unfold an at ha; rw [Bool.or_eq_true] at ha; exact ha.elim (fun z => absurd z hl) id
        rw [if_neg hl, if_pos rfl, if_pos rfl, if_pos hf, if_neg i1z, if_neg i1z]; exact row
    · have hl : ¬ lt (tx q) = true := fun z => ha (by unfold an; rw [z, Bool.true_or])
      have hf : ¬ fg (tx q) = true := fun z => ha (by unfold an; rw [z, Bool.or_true])
      rw [if_neg hl, if_pos rfl, if_pos rfl, if_neg hf, if_pos rfl, if_pos rfl]
      unfold f_T_takeSign
      rw [nI_cl (show q < 2147483648 by omega), if_neg g]
      have sg : ∀ s : Nat, (s = 60 ∨ s = 61 ∨ s = 59 ∨ s = 40 ∨ s = 41) → tx q = nI s → Tok n tx (q + 1) q 2 (tx q).toInt64 2 0 (tx q) := fun s hs hx => ⟨by omega, by omega, Or.inr (Or.inl ⟨rfl, rfl, s, hs, by rw [hx, nI_l (by omega)], rfl, hx⟩)⟩
      by_cases h60 : tx q = nI 60
      · rw [if_pos (show (tx q).toInt64 = (60 : Int64) from (i64_eq (by decide)).mpr h60), if_pos (show tx q = (60 : Int32) from h60)]
        unfold f_T_takeSign_65 f_M_next_241 f_M_next_247
        rw [nI_m]
        exact ⟨q, q + 1, 2, (tx q).toInt64, 2, 0, tx q, rfl, rfl, sg 60 (by decide) h60, q1⟩
      rw [if_neg (show ¬ (tx q).toInt64 = (60 : Int64) from fun z => h60 ((i64_eq (by decide)).mp z)), if_neg (show ¬ tx q = (60 : Int32) from h60)]
      by_cases h61 : tx q = nI 61
      · rw [if_pos (show (tx q).toInt64 = (61 : Int64) from (i64_eq (by decide)).mpr h61), if_pos (show tx q = (61 : Int32) from h61)]
        unfold f_T_takeSign_65 f_M_next_241 f_M_next_247
        rw [nI_m]
        exact ⟨q, q + 1, 2, (tx q).toInt64, 2, 0, tx q, rfl, rfl, sg 61 (by decide) h61, q1⟩
      rw [if_neg (show ¬ (tx q).toInt64 = (61 : Int64) from fun z => h61 ((i64_eq (by decide)).mp z)), if_neg (show ¬ tx q = (61 : Int32) from h61)]
      by_cases h59 : tx q = nI 59
      · rw [if_pos (show (tx q).toInt64 = (59 : Int64) from (i64_eq (by decide)).mpr h59), if_pos (show tx q = (59 : Int32) from h59)]
        unfold f_T_takeSign_65 f_M_next_241 f_M_next_247
        rw [nI_m]
        exact ⟨q, q + 1, 2, (tx q).toInt64, 2, 0, tx q, rfl, rfl, sg 59 (by decide) h59, q1⟩
      rw [if_neg (show ¬ (tx q).toInt64 = (59 : Int64) from fun z => h59 ((i64_eq (by decide)).mp z)), if_neg (show ¬ tx q = (59 : Int32) from h59)]
      by_cases h40 : tx q = nI 40
      · rw [if_pos (show (tx q).toInt64 = (40 : Int64) from (i64_eq (by decide)).mpr h40), if_pos (show tx q = (40 : Int32) from h40)]
        unfold f_T_takeSign_65 f_M_next_241 f_M_next_247
        rw [nI_m]
        exact ⟨q, q + 1, 2, (tx q).toInt64, 2, 0, tx q, rfl, rfl, sg 40 (by decide) h40, q1⟩
      rw [if_neg (show ¬ (tx q).toInt64 = (40 : Int64) from fun z => h40 ((i64_eq (by decide)).mp z)), if_neg (show ¬ tx q = (40 : Int32) from h40)]
      by_cases h41 : tx q = nI 41
      · rw [if_pos (show (tx q).toInt64 = (41 : Int64) from (i64_eq (by decide)).mpr h41), if_pos (show tx q = (41 : Int32) from h41)]
        unfold f_T_takeSign_65 f_M_next_241 f_M_next_247
        rw [nI_m]
        exact ⟨q, q + 1, 2, (tx q).toInt64, 2, 0, tx q, rfl, rfl, sg 41 (by decide) h41, q1⟩
      rw [if_neg (show ¬ (tx q).toInt64 = (41 : Int64) from fun z => h41 ((i64_eq (by decide)).mp z)), if_neg (show ¬ tx q = (41 : Int32) from h41)]
      unfold f_M_next_241 f_M_next_247
      rw [nI_m]
      exact ⟨q, q + 1, 0, lN 0, 3, 0, tx q, rfl, rfl, ⟨by omega, by omega, Or.inr (Or.inr (Or.inl ⟨by omega, rfl, rfl, rfl⟩))⟩, q1⟩
/-! the kept words -/
theorem k51 {N fr sz a L : Nat} {o3 : Int32} {t0 : Nat → Int32} {k6 : Int32 → Int32 → Int32 → Option Int32} {v1 v3 : Int32} {l : List Nat} (hL : l.length = L) (hsz : sz = L) (hfr : fr + sz ≤ 2000) (ha : a + L ≤ 50) (hl : ∀ j, j < L → wdl.getD (a + j) 0 = l.getD j 0) : ∀ (d i j : Nat) (v : Int32), j + d = sz → d < i → isZ v → ∃ r : Int32, f_M_kept_51 N o3 (nI fr) (nI sz) t0 wordsM k6 v1 (nI a) v3 i v (nI j) = f_M_kept_102 N o3 (nI fr) (nI sz) t0 wordsM k6 v1 v3 r ∧ isZ r ∧ (r = 1 ↔ v = 1 ∧ ∀ j', j ≤ j' → j' < L → t0 (fr + j') = nI (l.getD j' 0)) := by
  intro d
  induction d with
  | zero =>
    intro i j v hj hi hv
    obtain ⟨i, rfl⟩ : ∃ k, i = k + 1 := ⟨i - 1, by omega⟩
    rw [f_M_kept_51, if_pos (nI_le (show sz ≤ j by omega) (by omega))]
    exact ⟨v, rfl, hv, ⟨fun h => ⟨h, fun j' h1 h2 => absurd h2 (by omega)⟩, fun h => h.1⟩⟩
  | succ d ih =>
    intro i j v hj hi hv
    obtain ⟨i, rfl⟩ : ∃ k, i = k + 1 := ⟨i - 1, by omega⟩
    rw [f_M_kept_51, if_neg (nI_ge (show j < sz by omega) (by omega))]
    rcases hv with hv | hv
    · rw [if_pos hv]
      exact ⟨v, rfl, Or.inl hv, ⟨fun h => by rw [hv] at h; exact absurd h (by decide), fun h => h.1⟩⟩
    · rw [hv, if_neg i1z, nI_add, nI_add, if_neg (nI_g (show fr + j < 2000 by omega) (by decide)), if_neg (nI_g (show a + j < 50 by omega) (by decide)), nI_cl (show fr + j < 2147483648 by omega), nI_cl (show a + j < 2147483648 by omega), wdM (a + j) (by omega), hl j (by omega), nI_m]
      by_cases h : t0 (fr + j) = nI (l.getD j 0)
      · rw [if_pos h]
        obtain ⟨r, r1, r2, r3⟩ := ih i (j + 1) 1 (by omega) (by omega) (Or.inr rfl)
        refine ⟨r, r1, r2, r3.trans ⟨fun q => ⟨rfl, fun j' h1 h2 => ?_⟩, fun q => ⟨rfl, fun j' h1 h2 => q.2 j' (by omega) h2⟩⟩⟩
        by_cases e : j' = j
        · rw [e]; exact h
        · exact q.2 j' (by omega) h2
      · rw [if_neg h]
        obtain ⟨r, r1, r2, r3⟩ := ih i (j + 1) 0 (by omega) (by omega) (Or.inl rfl)
        refine ⟨r, r1, r2, r3.trans ⟨fun q => absurd q.1 (by decide), fun q => absurd (q.2 j (Nat.le_refl _) (by omega)) h⟩⟩
theorem kw_one {N fr a L w : Nat} {m3 m5 : Int32} {t0 : Nat → Int32} {l : List Nat} {sz : Nat} (hN : 100000 ≤ N) (hL : l.length = L) (ha : a + L < 50) (hl : ∀ j, j < L → wdl.getD (a + j) 0 = l.getD j 0 ∧ l.getD j 0 ≠ 32) (hsp : wdl.getD (a + L) 0 = 32) (h5 : m3 = 1 → m5 = nI sz ∧ sz ≤ 8 ∧ fr + sz ≤ 2000) (hneg : ¬ m3 = 1 → True) : ∀ i : Nat, (m3 = 1 ∧ sz = L ∧ (∀ j, j < L → t0 (fr + j) = nI (l.getD j 0)) ∧ f_M_kept_6 N m3 (nI fr) m5 t0 wordsM (i + L + 1) (nI w) (nI a) (nI a) = some (nI w)) ∨ (¬ (m3 = 1 ∧ sz = L ∧ ∀ j, j < L → t0 (fr + j) = nI (l.getD j 0)) ∧ f_M_kept_6 N m3 (nI fr) m5 t0 wordsM (i + L + 1) (nI w) (nI a) (nI a) = f_M_kept_6 N m3 (nI fr) m5 t0 wordsM i (nI (w + 1)) (nI (a + L + 1)) (nI (a + L + 1))) := by
  intro i
  have walk : ∀ (d j : Nat), j + d = L → f_M_kept_6 N m3 (nI fr) m5 t0 wordsM (i + 1 + d) (nI w) (nI a) (nI (a + j)) = f_M_kept_6 N m3 (nI fr) m5 t0 wordsM (i + 1) (nI w) (nI a) (nI (a + L)) := by
    intro d
    induction d with
    | zero => intro j hj; rw [show a + j = a + L by omega]
    | succ d ih =>
      intro j hj
      have h1 := hl j (by omega)
      have lt := wdl_lt (a + j) (by omega)
      rw [show i + 1 + (d + 1) = (i + 1 + d) + 1 by omega, f_M_kept_6, if_neg (show ¬ (50 : Int32) ≤ nI (a + j) from nI_ge (show a + j < 50 by omega) (by decide)), if_neg (nI_g (show a + j < 50 by omega) (by decide)), nI_cl (by omega), wdM (a + j) (by omega), if_neg (show ¬ nI (wdl.getD (a + j) 0) = (32 : Int32) from fun z => by
        have := (nI_eq (b := 32) (by omega) (by omega)).mp z
        rw [h1.1] at this
        exact h1.2 this), nI_m]
      exact ih (j + 1) (by omega)
  have w0 := walk L 0 (by omega)
  rw [show a + 0 = a from rfl] at w0
  rw [show i + L + 1 = i + 1 + L by omega, w0]
  have at32 : f_M_kept_6 N m3 (nI fr) m5 t0 wordsM (i + 1) (nI w) (nI a) (nI (a + L)) = (if m3 = (1 : Int32) then (if (nI (a + L) - nI a) = m5 then (f_M_kept_51 N m3 (nI fr) m5 t0 wordsM (f_M_kept_6 N m3 (nI fr) m5 t0 wordsM i) (nI w) (nI a) (nI (a + L)) N (1 : Int32) (0 : Int32)) else (f_M_kept_51 N m3 (nI fr) m5 t0 wordsM (f_M_kept_6 N m3 (nI fr) m5 t0 wordsM i) (nI w) (nI a) (nI (a + L)) N (0 : Int32) (0 : Int32))) else (f_M_kept_51 N m3 (nI fr) m5 t0 wordsM (f_M_kept_6 N m3 (nI fr) m5 t0 wordsM i) (nI w) (nI a) (nI (a + L)) N (0 : Int32) (0 : Int32))) := by
    rw [f_M_kept_6, if_neg (show ¬ (50 : Int32) ≤ nI (a + L) from nI_ge ha (by decide)), if_neg (nI_g ha (by decide)), nI_cl (by omega), wdM (a + L) ha, hsp, if_pos (show nI 32 = (32 : Int32) from rfl)]
  rw [at32, pk_sub (by omega), show a + L - a = L by omega]
  obtain ⟨M, rfl⟩ : ∃ M, N = M + 1 := ⟨N - 1, by omega⟩
  have zero : f_M_kept_51 (M + 1) m3 (nI fr) m5 t0 wordsM (f_M_kept_6 (M + 1) m3 (nI fr) m5 t0 wordsM i) (nI w) (nI a) (nI (a + L)) (M + 1) (0 : Int32) (0 : Int32) = f_M_kept_6 (M + 1) m3 (nI fr) m5 t0 wordsM i (nI (w + 1)) (nI (a + L + 1)) (nI (a + L + 1)) := by
    rw [f_M_kept_51]
    by_cases h : m5 ≤ 0
    · rw [if_pos h]; unfold f_M_kept_102; rw [if_pos rfl, nI_m, nI_m]
    · rw [if_neg h, if_pos rfl]; unfold f_M_kept_102; rw [if_pos rfl, nI_m, nI_m]
  by_cases h3 : m3 = 1
  · obtain ⟨g5, g8, gf⟩ := h5 h3
    rw [if_pos h3]
    by_cases hs : sz = L
    · rw [if_pos (by rw [g5, hs])]
      obtain ⟨r, r1, r2, r3⟩ := k51 (N := M + 1) (o3 := m3) (t0 := t0) (k6 := f_M_kept_6 (M + 1) m3 (nI fr) m5 t0 wordsM i) (v1 := nI w) (v3 := nI (a + L)) (a := a) hL hs gf (by omega) (fun j hj => (hl j hj).1) sz (M + 1) 0 1 (by omega) (by omega) (Or.inr rfl)
      rw [← g5, show nI 0 = (0 : Int32) from rfl] at r1
      rw [r1]
      unfold f_M_kept_102
      rcases r2 with z | z
      · refine Or.inr ⟨fun q => ?_, by rw [if_pos z, nI_m, nI_m]⟩
        have := r3.mpr ⟨rfl, fun j' _ h2 => q.2.2 j' h2⟩
        rw [z] at this; exact absurd this (by decide)
      · exact Or.inl ⟨h3, hs, fun j hj => (r3.mp z).2 j (Nat.zero_le _) hj, by rw [z, if_neg i1z]⟩
    · rw [if_neg (fun z => hs (by rw [g5] at z; exact ((nI_eq (by omega) (by omega)).mp z).symm))]
      exact Or.inr ⟨fun q => hs q.2.1, zero⟩
  · rw [if_neg h3]
    exact Or.inr ⟨fun q => h3 q.1, zero⟩
/-- a word's bytes are those of a kept word: its packed number is that word's -/
theorem kw_pk {tx : Nat → Int32} {fr sz L K : Nat} {l : List Nat} (hL : l.length = L) (h8 : sz ≤ 8) (hL8 : L ≤ 8) (hok : okR tx fr sz) (hol : okR (fun j => nI (l.getD j 0)) 0 L) (hK : pkb (fun j => nI (l.getD j 0)) 0 L = K) : (sz = L ∧ ∀ j, j < L → tx (fr + j) = nI (l.getD j 0)) ↔ lN (pkb tx fr sz) = lN K := by
  have h1 := pkb_inj hok hol h8 hL8
  rw [hK] at h1
  have b1 := pkb_63 hok h8
  have b2 := pkb_63 hol hL8
  rw [hK] at b2
  rw [pk_lEQ b1 b2, h1]
  constructor
  · rintro ⟨rfl, q⟩; exact ⟨rfl, fun i hi => by rw [Nat.zero_add]; exact q i hi⟩
  · rintro ⟨rfl, q⟩; exact ⟨rfl, fun i hi => by have := q i hi; rw [Nat.zero_add] at this; exact this⟩
theorem ok_w (l : List Nat) (h : ∀ j, j < l.length → 1 ≤ l.getD j 0 ∧ l.getD j 0 < 128) : okR (fun j => nI (l.getD j 0)) 0 l.length := fun i hi => ⟨l.getD i 0, (h i hi).1, (h i hi).2, by rw [Nat.zero_add]⟩
theorem kept_eq {N n nx fr : Nat} {tx t0 : Nat → Int32} {c4 m3 m5 m6 : Int32} {w : Int64} (hN : 100000 ≤ N) (H : RTape n tx t0) (T : Tok n tx nx fr c4 w m3 m5 m6) : ∃ q : Int32, f_M_kept N m3 (nI fr) m5 t0 wordsM = some q ∧ ((q = -1 ∧ kwB w = false) ∨ ∃ i, i < 10 ∧ q = nI i ∧ w = lN (kww.getD i 0)) := by
  have hn := H.1
  obtain ⟨t1, t2, t3⟩ := T
  obtain ⟨sz, g5⟩ : ∃ sz : Nat, m3 = 1 → m5 = nI sz ∧ sz ≤ 8 ∧ nx = fr + sz ∧ okR tx fr sz ∧ w = lN (pkb tx fr sz) := by
    rcases t3 with ⟨a1, a2, a3, a4, a5⟩ | ⟨a1, a2, s, hs, a3, a4, a5⟩ | ⟨a1, a2, a3, a4⟩ | ⟨sz, a1, a2, a3, a4, a5, a6, a7, a8, a9, a10, a11⟩
    · exact ⟨0, fun z => by rw [a5] at z; exact absurd z (by decide)⟩
    · exact ⟨0, fun z => by rw [a4] at z; exact absurd z (by decide)⟩
    · exact ⟨0, fun z => by rw [a4] at z; exact absurd z (by decide)⟩
    · exact ⟨sz, fun _ => ⟨a5, a2, a3, a7, a9⟩⟩
  have h5' : m3 = 1 → m5 = nI sz ∧ sz ≤ 8 ∧ fr + sz ≤ 2000 := fun z => by
    obtain ⟨u1, u2, u3, -, -⟩ := g5 z
    exact ⟨u1, u2, by omega⟩
  have tt : m3 = 1 → ∀ L, sz = L → ∀ l : List Nat, ((∀ j, j < L → t0 (fr + j) = nI (l.getD j 0)) ↔ ∀ j, j < L → tx (fr + j) = nI (l.getD j 0)) := fun z L hL l => by
    obtain ⟨u1, u2, u3, -, -⟩ := g5 z
    constructor
    · intro q j hj; rw [(H.2 (fr + j) (by omega)).1]; exact q j hj
    · intro q j hj; rw [← (H.2 (fr + j) (by omega)).1]; exact q j hj
  -- where the token isn't a word, no kept word has its number
  have nw : ¬ m3 = 1 → kwB w = false := fun z => by
    rcases t3 with ⟨a1, a2, a3, a4, a5⟩ | ⟨a1, a2, s, hs, a3, a4, a5⟩ | ⟨a1, a2, a3, a4⟩ | ⟨sz, a1, a2, a3, a4, -⟩
    · rw [a4]; decide +kernel
    · rw [a3]; rcases hs with e | e | e | e | e <;> (rw [e]; decide +kernel)
    · rw [a3]; decide +kernel
    · exact absurd a4 z
  unfold f_M_kept
  obtain ⟨M, rfl⟩ : ∃ M, N = M + 51 := ⟨N - 51, by omega⟩
  rw [show (0 : Int32) = nI 0 from rfl]
  rcases kw_one (N := M + 51) (fr := fr) (a := 0) (L := 3) (w := 0) (m3 := m3) (m5 := m5) (t0 := t0) (l := [97, 115, 107]) (sz := sz) hN rfl (by decide) (by decide) (by decide) h5' (fun _ => trivial) (M + 47) with ⟨x1, x2, x3, x4⟩ | ⟨n0, x4⟩
  · refine ⟨nI 0, x4, Or.inr ⟨0, by decide, rfl, ?_⟩⟩
    obtain ⟨u1, u2, u3, u4, u5⟩ := g5 x1
    rw [u5]
    exact (kw_pk (L := 3) (l := [97, 115, 107]) rfl u2 (by decide) u4 (ok_w [97, 115, 107] (by decide)) (by decide +kernel)).mp ⟨x2, (tt x1 3 x2 [97, 115, 107]).mp x3⟩
  rw [show f_M_kept_6 (M + 51) m3 (nI fr) m5 t0 wordsM (M + 51) (nI 0) (nI 0) (nI 0) = _ from x4]
  rcases kw_one (N := M + 51) (fr := fr) (a := 4) (L := 5) (w := 1) (m3 := m3) (m5 := m5) (t0 := t0) (l := [117, 110, 100, 101, 114]) (sz := sz) hN rfl (by decide) (by decide) (by decide) h5' (fun _ => trivial) (M + 41) with ⟨x1, x2, x3, x4⟩ | ⟨n1, x4⟩
  · refine ⟨nI 1, x4, Or.inr ⟨1, by decide, rfl, ?_⟩⟩
    obtain ⟨u1, u2, u3, u4, u5⟩ := g5 x1
    rw [u5]
    exact (kw_pk (L := 5) (l := [117, 110, 100, 101, 114]) rfl u2 (by decide) u4 (ok_w [117, 110, 100, 101, 114] (by decide)) (by decide +kernel)).mp ⟨x2, (tt x1 5 x2 [117, 110, 100, 101, 114]).mp x3⟩
  rw [show f_M_kept_6 (M + 51) m3 (nI fr) m5 t0 wordsM (M + 47) (nI 1) (nI 4) (nI 4) = _ from x4]
  rcases kw_one (N := M + 51) (fr := fr) (a := 10) (L := 6) (w := 2) (m3 := m3) (m5 := m5) (t0 := t0) (l := [115, 105, 110, 103, 108, 101]) (sz := sz) hN rfl (by decide) (by decide) (by decide) h5' (fun _ => trivial) (M + 34) with ⟨x1, x2, x3, x4⟩ | ⟨n2, x4⟩
  · refine ⟨nI 2, x4, Or.inr ⟨2, by decide, rfl, ?_⟩⟩
    obtain ⟨u1, u2, u3, u4, u5⟩ := g5 x1
    rw [u5]
    exact (kw_pk (L := 6) (l := [115, 105, 110, 103, 108, 101]) rfl u2 (by decide) u4 (ok_w [115, 105, 110, 103, 108, 101] (by decide)) (by decide +kernel)).mp ⟨x2, (tt x1 6 x2 [115, 105, 110, 103, 108, 101]).mp x3⟩
  rw [show f_M_kept_6 (M + 51) m3 (nI fr) m5 t0 wordsM (M + 41) (nI 2) (nI 10) (nI 10) = _ from x4]
  rcases kw_one (N := M + 51) (fr := fr) (a := 17) (L := 2) (w := 3) (m3 := m3) (m5 := m5) (t0 := t0) (l := [111, 114]) (sz := sz) hN rfl (by decide) (by decide) (by decide) h5' (fun _ => trivial) (M + 31) with ⟨x1, x2, x3, x4⟩ | ⟨n3, x4⟩
  · refine ⟨nI 3, x4, Or.inr ⟨3, by decide, rfl, ?_⟩⟩
    obtain ⟨u1, u2, u3, u4, u5⟩ := g5 x1
    rw [u5]
    exact (kw_pk (L := 2) (l := [111, 114]) rfl u2 (by decide) u4 (ok_w [111, 114] (by decide)) (by decide +kernel)).mp ⟨x2, (tt x1 2 x2 [111, 114]).mp x3⟩
  rw [show f_M_kept_6 (M + 51) m3 (nI fr) m5 t0 wordsM (M + 34) (nI 3) (nI 17) (nI 17) = _ from x4]
  rcases kw_one (N := M + 51) (fr := fr) (a := 20) (L := 3) (w := 4) (m3 := m3) (m5 := m5) (t0 := t0) (l := [97, 110, 100]) (sz := sz) hN rfl (by decide) (by decide) (by decide) h5' (fun _ => trivial) (M + 27) with ⟨x1, x2, x3, x4⟩ | ⟨n4, x4⟩
  · refine ⟨nI 4, x4, Or.inr ⟨4, by decide, rfl, ?_⟩⟩
    obtain ⟨u1, u2, u3, u4, u5⟩ := g5 x1
    rw [u5]
    exact (kw_pk (L := 3) (l := [97, 110, 100]) rfl u2 (by decide) u4 (ok_w [97, 110, 100] (by decide)) (by decide +kernel)).mp ⟨x2, (tt x1 3 x2 [97, 110, 100]).mp x3⟩
  rw [show f_M_kept_6 (M + 51) m3 (nI fr) m5 t0 wordsM (M + 31) (nI 4) (nI 20) (nI 20) = _ from x4]
  rcases kw_one (N := M + 51) (fr := fr) (a := 24) (L := 3) (w := 5) (m3 := m3) (m5 := m5) (t0 := t0) (l := [110, 111, 116]) (sz := sz) hN rfl (by decide) (by decide) (by decide) h5' (fun _ => trivial) (M + 23) with ⟨x1, x2, x3, x4⟩ | ⟨n5, x4⟩
  · refine ⟨nI 5, x4, Or.inr ⟨5, by decide, rfl, ?_⟩⟩
    obtain ⟨u1, u2, u3, u4, u5⟩ := g5 x1
    rw [u5]
    exact (kw_pk (L := 3) (l := [110, 111, 116]) rfl u2 (by decide) u4 (ok_w [110, 111, 116] (by decide)) (by decide +kernel)).mp ⟨x2, (tt x1 3 x2 [110, 111, 116]).mp x3⟩
  rw [show f_M_kept_6 (M + 51) m3 (nI fr) m5 t0 wordsM (M + 27) (nI 5) (nI 24) (nI 24) = _ from x4]
  rcases kw_one (N := M + 51) (fr := fr) (a := 28) (L := 4) (w := 6) (m3 := m3) (m5 := m5) (t0 := t0) (l := [115, 111, 109, 101]) (sz := sz) hN rfl (by decide) (by decide) (by decide) h5' (fun _ => trivial) (M + 18) with ⟨x1, x2, x3, x4⟩ | ⟨n6, x4⟩
  · refine ⟨nI 6, x4, Or.inr ⟨6, by decide, rfl, ?_⟩⟩
    obtain ⟨u1, u2, u3, u4, u5⟩ := g5 x1
    rw [u5]
    exact (kw_pk (L := 4) (l := [115, 111, 109, 101]) rfl u2 (by decide) u4 (ok_w [115, 111, 109, 101] (by decide)) (by decide +kernel)).mp ⟨x2, (tt x1 4 x2 [115, 111, 109, 101]).mp x3⟩
  rw [show f_M_kept_6 (M + 51) m3 (nI fr) m5 t0 wordsM (M + 23) (nI 6) (nI 28) (nI 28) = _ from x4]
  rcases kw_one (N := M + 51) (fr := fr) (a := 33) (L := 5) (w := 7) (m3 := m3) (m5 := m5) (t0 := t0) (l := [101, 118, 101, 114, 121]) (sz := sz) hN rfl (by decide) (by decide) (by decide) h5' (fun _ => trivial) (M + 12) with ⟨x1, x2, x3, x4⟩ | ⟨n7, x4⟩
  · refine ⟨nI 7, x4, Or.inr ⟨7, by decide, rfl, ?_⟩⟩
    obtain ⟨u1, u2, u3, u4, u5⟩ := g5 x1
    rw [u5]
    exact (kw_pk (L := 5) (l := [101, 118, 101, 114, 121]) rfl u2 (by decide) u4 (ok_w [101, 118, 101, 114, 121] (by decide)) (by decide +kernel)).mp ⟨x2, (tt x1 5 x2 [101, 118, 101, 114, 121]).mp x3⟩
  rw [show f_M_kept_6 (M + 51) m3 (nI fr) m5 t0 wordsM (M + 18) (nI 7) (nI 33) (nI 33) = _ from x4]
  rcases kw_one (N := M + 51) (fr := fr) (a := 39) (L := 3) (w := 8) (m3 := m3) (m5 := m5) (t0 := t0) (l := [116, 111, 112]) (sz := sz) hN rfl (by decide) (by decide) (by decide) h5' (fun _ => trivial) (M + 8) with ⟨x1, x2, x3, x4⟩ | ⟨n8, x4⟩
  · refine ⟨nI 8, x4, Or.inr ⟨8, by decide, rfl, ?_⟩⟩
    obtain ⟨u1, u2, u3, u4, u5⟩ := g5 x1
    rw [u5]
    exact (kw_pk (L := 3) (l := [116, 111, 112]) rfl u2 (by decide) u4 (ok_w [116, 111, 112] (by decide)) (by decide +kernel)).mp ⟨x2, (tt x1 3 x2 [116, 111, 112]).mp x3⟩
  rw [show f_M_kept_6 (M + 51) m3 (nI fr) m5 t0 wordsM (M + 12) (nI 8) (nI 39) (nI 39) = _ from x4]
  rcases kw_one (N := M + 51) (fr := fr) (a := 43) (L := 6) (w := 9) (m3 := m3) (m5 := m5) (t0 := t0) (l := [98, 111, 116, 116, 111, 109]) (sz := sz) hN rfl (by decide) (by decide) (by decide) h5' (fun _ => trivial) (M + 1) with ⟨x1, x2, x3, x4⟩ | ⟨n9, x4⟩
  · refine ⟨nI 9, x4, Or.inr ⟨9, by decide, rfl, ?_⟩⟩
    obtain ⟨u1, u2, u3, u4, u5⟩ := g5 x1
    rw [u5]
    exact (kw_pk (L := 6) (l := [98, 111, 116, 116, 111, 109]) rfl u2 (by decide) u4 (ok_w [98, 111, 116, 116, 111, 109] (by decide)) (by decide +kernel)).mp ⟨x2, (tt x1 6 x2 [98, 111, 116, 116, 111, 109]).mp x3⟩
  rw [show f_M_kept_6 (M + 51) m3 (nI fr) m5 t0 wordsM (M + 8) (nI 9) (nI 43) (nI 43) = _ from x4]
  refine ⟨-1, ?_, Or.inl ⟨rfl, ?_⟩⟩
  · rw [f_M_kept_6, if_pos (show (50 : Int32) ≤ nI 50 by decide)]
  · by_cases h3 : m3 = 1
    · obtain ⟨u1, u2, u3, u4, u5⟩ := g5 h3
      have d0 : ¬ w = lN 6386539 := fun z => n0 ⟨h3, by
        have q := (kw_pk (L := 3) (l := [97, 115, 107]) rfl u2 (by decide) u4 (ok_w [97, 115, 107] (by decide)) (show pkb (fun j => nI (List.getD [97, 115, 107] j 0)) 0 3 = 6386539 by decide +kernel)).mpr (u5.symm.trans z)
        exact ⟨q.1, (tt h3 3 q.1 [97, 115, 107]).mpr q.2⟩⟩
      have d1 : ¬ w = lN 504363246962 := fun z => n1 ⟨h3, by
        have q := (kw_pk (L := 5) (l := [117, 110, 100, 101, 114]) rfl u2 (by decide) u4 (ok_w [117, 110, 100, 101, 114] (by decide)) (show pkb (fun j => nI (List.getD [117, 110, 100, 101, 114] j 0)) 0 5 = 504363246962 by decide +kernel)).mpr (u5.symm.trans z)
        exact ⟨q.1, (tt h3 5 q.1 [117, 110, 100, 101, 114]).mpr q.2⟩⟩
      have d2 : ¬ w = lN 126896661032037 := fun z => n2 ⟨h3, by
        have q := (kw_pk (L := 6) (l := [115, 105, 110, 103, 108, 101]) rfl u2 (by decide) u4 (ok_w [115, 105, 110, 103, 108, 101] (by decide)) (show pkb (fun j => nI (List.getD [115, 105, 110, 103, 108, 101] j 0)) 0 6 = 126896661032037 by decide +kernel)).mpr (u5.symm.trans z)
        exact ⟨q.1, (tt h3 6 q.1 [115, 105, 110, 103, 108, 101]).mpr q.2⟩⟩
      have d3 : ¬ w = lN 28530 := fun z => n3 ⟨h3, by
        have q := (kw_pk (L := 2) (l := [111, 114]) rfl u2 (by decide) u4 (ok_w [111, 114] (by decide)) (show pkb (fun j => nI (List.getD [111, 114] j 0)) 0 2 = 28530 by decide +kernel)).mpr (u5.symm.trans z)
        exact ⟨q.1, (tt h3 2 q.1 [111, 114]).mpr q.2⟩⟩
      have d4 : ¬ w = lN 6385252 := fun z => n4 ⟨h3, by
        have q := (kw_pk (L := 3) (l := [97, 110, 100]) rfl u2 (by decide) u4 (ok_w [97, 110, 100] (by decide)) (show pkb (fun j => nI (List.getD [97, 110, 100] j 0)) 0 3 = 6385252 by decide +kernel)).mpr (u5.symm.trans z)
        exact ⟨q.1, (tt h3 3 q.1 [97, 110, 100]).mpr q.2⟩⟩
      have d5 : ¬ w = lN 7237492 := fun z => n5 ⟨h3, by
        have q := (kw_pk (L := 3) (l := [110, 111, 116]) rfl u2 (by decide) u4 (ok_w [110, 111, 116] (by decide)) (show pkb (fun j => nI (List.getD [110, 111, 116] j 0)) 0 3 = 7237492 by decide +kernel)).mpr (u5.symm.trans z)
        exact ⟨q.1, (tt h3 3 q.1 [110, 111, 116]).mpr q.2⟩⟩
      have d6 : ¬ w = lN 1936682341 := fun z => n6 ⟨h3, by
        have q := (kw_pk (L := 4) (l := [115, 111, 109, 101]) rfl u2 (by decide) u4 (ok_w [115, 111, 109, 101] (by decide)) (show pkb (fun j => nI (List.getD [115, 111, 109, 101] j 0)) 0 4 = 1936682341 by decide +kernel)).mpr (u5.symm.trans z)
        exact ⟨q.1, (tt h3 4 q.1 [115, 111, 109, 101]).mpr q.2⟩⟩
      have d7 : ¬ w = lN 435778056825 := fun z => n7 ⟨h3, by
        have q := (kw_pk (L := 5) (l := [101, 118, 101, 114, 121]) rfl u2 (by decide) u4 (ok_w [101, 118, 101, 114, 121] (by decide)) (show pkb (fun j => nI (List.getD [101, 118, 101, 114, 121] j 0)) 0 5 = 435778056825 by decide +kernel)).mpr (u5.symm.trans z)
        exact ⟨q.1, (tt h3 5 q.1 [101, 118, 101, 114, 121]).mpr q.2⟩⟩
      have d8 : ¬ w = lN 7630704 := fun z => n8 ⟨h3, by
        have q := (kw_pk (L := 3) (l := [116, 111, 112]) rfl u2 (by decide) u4 (ok_w [116, 111, 112] (by decide)) (show pkb (fun j => nI (List.getD [116, 111, 112] j 0)) 0 3 = 7630704 by decide +kernel)).mpr (u5.symm.trans z)
        exact ⟨q.1, (tt h3 3 q.1 [116, 111, 112]).mpr q.2⟩⟩
      have d9 : ¬ w = lN 108230834679661 := fun z => n9 ⟨h3, by
        have q := (kw_pk (L := 6) (l := [98, 111, 116, 116, 111, 109]) rfl u2 (by decide) u4 (ok_w [98, 111, 116, 116, 111, 109] (by decide)) (show pkb (fun j => nI (List.getD [98, 111, 116, 116, 111, 109] j 0)) 0 6 = 108230834679661 by decide +kernel)).mpr (u5.symm.trans z)
        exact ⟨q.1, (tt h3 6 q.1 [98, 111, 116, 116, 111, 109]).mpr q.2⟩⟩
      unfold kwB
      rw [decide_eq_false d0, decide_eq_false d1, decide_eq_false d2, decide_eq_false d3, decide_eq_false d4, decide_eq_false d5, decide_eq_false d6, decide_eq_false d7, decide_eq_false d8, decide_eq_false d9]
      rfl
    · exact nw h3
