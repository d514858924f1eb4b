/-! sums over types; things of a world -/
def sW (w : Nat → Nat) (p : Nat → Bool) : Nat → Nat
  | 0 => 0
  | B + 1 => sW w p B + (if p B = true then w B else 0)
theorem sW_le (w : Nat → Nat) (p : Nat → Bool) : ∀ B, sW w p B ≤ sW w (fun _ => true) B
  | 0 => Nat.le_refl _
  | B + 1 => by
    have := sW_le w p B
    unfold sW
    rw [if_pos rfl]
    by_cases h : p B = true
    · rw [if_pos h]; omega
    · rw [if_neg h]; omega
theorem sW_same {w : Nat → Nat} {p q : Nat → Bool} : ∀ {B}, (∀ s, s < B → p s = q s) → sW w p B = sW w q B
  | 0, _ => rfl
  | B + 1, h => by
    unfold sW
    rw [sW_same (B := B) (fun s hs => h s (by omega)), h B (by omega)]
theorem sW_flip {w : Nat → Nat} {p : Nat → Bool} {u : Nat} (hu : p u = false) : ∀ {B}, u < B → sW w (fun v => p v || v == u) B = sW w p B + w u
  | 0, h => absurd h (by omega)
  | B + 1, h => by
    show sW w (fun v => p v || v == u) B + (if (p B || B == u) = true then w B else 0) = sW w p B + (if p B = true then w B else 0) + w u
    by_cases e : u = B
    · subst e
      rw [sW_same (w := w) (p := fun v => p v || v == u) (q := p) (B := u) (fun s hs => by
        have : (s == u) = false := by simp; omega
        show (p s || s == u) = p s
        rw [this, Bool.or_false]), hu]
      simp
    · rw [sW_flip hu (B := B) (by omega)]
      have : (B == u) = false := by simp; omega
      rw [this, Bool.or_false]
      omega
theorem sW_one : ∀ B, sW (fun _ => 1) (fun _ => true) B = B
  | 0 => rfl
  | B + 1 => by
    unfold sW
    rw [sW_one B, if_pos rfl]
/-- the types of the first t things -/
def pd (ty : Nat → Nat) : Nat → Nat → Bool
  | 0, _ => false
  | t + 1, u => pd ty t u || u == ty t
theorem pd_iff {ty : Nat → Nat} {u : Nat} : ∀ {t}, pd ty t u = true ↔ ∃ j, j < t ∧ ty j = u
  | 0 => ⟨fun h => absurd h (by show ¬ false = true; decide), fun ⟨j, h, _⟩ => absurd h (by omega)⟩
  | t + 1 => by
    show (pd ty t u || u == ty t) = true ↔ _
    rw [Bool.or_eq_true, pd_iff, beq_iff_eq]
    constructor
    · rintro (⟨j, h, e⟩ | e)
      · exact ⟨j, by omega, e⟩
      · exact ⟨t, by omega, e.symm⟩
    · rintro ⟨j, h, e⟩
      by_cases q : j = t
      · subst q; exact Or.inr e.symm
      · exact Or.inl ⟨j, by omega, e⟩
theorem pd_same {ty ty' : Nat → Nat} : ∀ {t}, (∀ j, j < t → ty' j = ty j) → pd ty' t = pd ty t
  | 0, _ => rfl
  | t + 1, h => by
    funext u
    show (pd ty' t u || u == ty' t) = (pd ty t u || u == ty t)
    rw [pd_same (t := t) (fun j hj => h j (by omega)), h t (by omega)]
theorem pd_new {ty : Nat → Nat} {t : Nat} (hi : ∀ j, j < t → ty j ≠ ty t) : pd ty t (ty t) = false := by
  cases h : pd ty t (ty t)
  · rfl
  · obtain ⟨j, h1, h2⟩ := pd_iff.mp h
    exact absurd h2 (hi j h1)
theorem sW_pd {w : Nat → Nat} {ty : Nat → Nat} {t B : Nat} (hi : ∀ j, j < t → ty j ≠ ty t) (hB : ty t < B) : sW w (pd ty (t + 1)) B = sW w (pd ty t) B + w (ty t) := sW_flip (pd_new hi) hB
theorem sW_cnt {ty : Nat → Nat} {B : Nat} : ∀ {t}, (∀ i j, i < j → j < t → ty i ≠ ty j) → (∀ j, j < t → ty j < B) → sW (fun _ => 1) (pd ty t) B = t
  | 0, _, _ => by
    have : ∀ B, sW (fun _ => 1) (pd ty 0) B = 0 := fun B => by
      induction B with
      | zero => rfl
      | succ B ih => unfold sW; rw [ih]; rfl
    exact this B
  | t + 1, h, hB => by
    rw [sW_pd (fun j hj => h j t hj (by omega)) (hB t (by omega)), sW_cnt (fun i j a b => h i j a (by omega)) (fun j hj => hB j (by omega))]
/-- how many bits of nine -/
def pc9 (u : Nat) : Nat := cb (fun j => u.testBit j) 9
theorem pc9_all : sW pc9 (fun _ => true) 512 = 2304 := by decide +kernel
theorem cb_mono {p : Nat → Bool} {a b : Nat} (h : a ≤ b) : cb p a ≤ cb p b := by
  obtain ⟨d, rfl⟩ : ∃ d, b = a + d := ⟨b - a, by omega⟩
  rw [cb_add]; omega
/-- things of both -/
def WdT (n T : Nat) (ty : Nat → Nat) (sd w0 w2 m67 : Nat → Int32) : Prop := T ≤ 512 ∧ (∀ t, t < T → ty t < 2 ^ n ∧ sd (ty t) = 1 ∧ w0 t = nI (ty t) ∧ m67 t = nI (ty t) ∧ w2 (ty t) = nI t) ∧ ∀ u, u < 512 → (∀ t, t < T → ty t ≠ u) → w2 u = -1
theorem WdT.inj {n T : Nat} {ty : Nat → Nat} {sd w0 w2 m67 : Nat → Int32} (h : WdT n T ty sd w0 w2 m67) {i j : Nat} (hi : i < T) (hj : j < T) (e : ty i = ty j) : i = j := by
  have h1 := (h.2.1 i hi).2.2.2.2
  have h2 := (h.2.1 j hj).2.2.2.2
  have hT := h.1
  rw [e, h2] at h1
  exact ((nI_eq (by omega) (by omega)).mp h1).symm
theorem WdT.room {n T u : Nat} {ty : Nat → Nat} {sd w0 w2 m67 : Nat → Int32} (hn : n ≤ 9) (h : WdT n T ty sd w0 w2 m67) (hu : u < 2 ^ n) (hx : ∀ t, t < T → ty t ≠ u) : T < 512 := by
  have h9 := pw9_le n (by omega)
  have h1 := sW_cnt (ty := ty) (B := 512) (t := T) (fun i j a b e => by have := h.inj (by omega) b e; omega) (fun j hj => by have := (h.2.1 j hj).1; omega)
  have h2 := sW_flip (w := fun _ => 1) (p := pd ty T) (u := u) (by cases q : pd ty T u; rfl; obtain ⟨j, a, b⟩ := pd_iff.mp q; exact absurd b (hx j a)) (B := 512) (by omega)
  have h3 := sW_le (fun _ => 1) (fun v => pd ty T v || v == u) 512
  rw [sW_one, h2, h1] at h3
  omega
theorem short_id : ∀ R, R ≤ 512 → vp_nar .short (nI R).toInt16.toInt32 = nI R := by decide +kernel
theorem to_loop {N T u j : Nat} {m67 : Nat → Int32} {ty : Nat → Nat} (hT : T ≤ 512) (hj : j ≤ T) (hu : u < 512) (hm : ∀ t, t < T → m67 t = nI (ty t) ∧ ty t < 512) (hbef : ∀ t, t < j → ty t ≠ u) (hend : j < T → ty j = u) (hroom : j = T → T < 512) : ∀ (d i t : Nat), t + d = j → d < i → f_M_thingOf_2 N (nI T) m67 (nI u) i (nI t) = if j < T then some (nI j, nI T, m67) else some (nI T, nI (T + 1), upd m67 T (nI u)) := by
  intro d
  induction d with
  | zero =>
    intro i t ht hi
    obtain ⟨i, rfl⟩ : ∃ k, i = k + 1 := ⟨i - 1, by omega⟩
    have et : t = j := by omega
    subst et
    by_cases h : t < T
    · rw [f_M_thingOf_2, if_neg (nI_ge h (by omega)), if_neg (nI_g (show t < 512 by omega) (by decide)), nI_cl (by omega), (hm t h).1, hend h, if_pos rfl, if_pos h]
    · have e : t = T := by omega
      have := hroom e
      rw [f_M_thingOf_2, if_pos (nI_le (by omega) (by omega)), if_neg (nI_g this (by decide)), nI_cl (by omega), nI_m, nI_pred, if_neg h]
  | succ d ih =>
    intro i t ht hi
    obtain ⟨i, rfl⟩ : ∃ k, i = k + 1 := ⟨i - 1, by omega⟩
    have hm1 := hm t (by omega)
    rw [f_M_thingOf_2, if_neg (nI_ge (show t < T by omega) (by omega)), if_neg (nI_g (show t < 512 by omega) (by decide)), nI_cl (by omega), hm1.1, if_neg (fun z => hbef t (by omega) ((nI_eq (by omega) (by omega)).mp z)), nI_m]
    exact ih i (t + 1) (by omega) (by omega)
theorem th_eq {N n T u : Nat} {ty : Nat → Nat} {sd w0 w2 m67 : Nat → Int32} (hN : 100000 ≤ N) (hn : n ≤ 9) (h : WdT n T ty sd w0 w2 m67) (hu : u < 2 ^ n) (hs : sd u = 1) : ∃ (j T' : Nat) (ty' : Nat → Nat) (w0' w2' m67' : Nat → Int32), j < T' ∧ T ≤ T' ∧ f_W_thingFor (nI u) (nI T) w0 w2 = some (nI j, nI T', w0', w2') ∧ f_M_thingOf N (nI u) (nI T) m67 = some (nI j, nI T', m67') ∧ WdT n T' ty' sd w0' w2' m67' ∧ ∀ t, t < T → ty' t = ty t := by
  have h9 := pw9_le n (by omega)
  have hT := h.1
  unfold f_W_thingFor f_M_thingOf
  rw [if_neg (nI_pos (by omega)), if_pos (show nI u < (512 : Int32) from nI_lt (show u < 512 by omega) (by decide)), if_neg (nI_g (show u < 512 by omega) (by decide)), nI_cl (by omega)]
  have hm : ∀ t, t < T → m67 t = nI (ty t) ∧ ty t < 512 := fun t ht => ⟨(h.2.1 t ht).2.2.2.1, by have := (h.2.1 t ht).1; omega⟩
  by_cases hx : ∃ j, j < T ∧ ty j = u
  · obtain ⟨j, hj, e⟩ := hx
    have h5 := (h.2.1 j hj).2.2.2.2
    rw [e] at h5
    rw [h5, if_neg (nI_neg1 (by omega))]
    unfold f_W_thingFor_65
    rw [if_neg (nI_g (show u < 512 by omega) (by decide)), nI_cl (by omega), h5, show (0 : Int32) = nI 0 from rfl, to_loop (j := j) hT (by omega) (by omega) hm (fun t ht q => by have := h.inj (show t < T by omega) hj (q.trans e.symm); omega) (fun _ => e) (fun q => by omega) j N 0 (by omega) (by omega), if_pos hj]
    exact ⟨j, T, ty, w0, w2, m67, hj, Nat.le_refl _, rfl, rfl, h, fun _ _ => rfl⟩
  · have hx' : ∀ t, t < T → ty t ≠ u := fun t ht q => hx ⟨t, ht, q⟩
    have hroom := h.room hn hu hx'
    rw [h.2.2 u (by omega) hx', if_pos rfl, if_neg (show ¬ (512 : Int32) ≤ nI T from nI_ge hroom (by decide)), if_neg (nI_g hroom (by decide)), nI_cl (by omega), nI_m]
    unfold f_W_thingFor_65
    rw [if_neg (nI_g (show u < 512 by omega) (by decide)), nI_cl (by omega), short_id u (by omega), short_id T (by omega), show (0 : Int32) = nI 0 from rfl, to_loop (j := T) hT (Nat.le_refl _) (by omega) hm hx' (fun q => absurd q (by omega)) (fun _ => hroom) T N 0 (by omega) (by omega), if_neg (Nat.lt_irrefl _)]
    have eu : upd w2 u (nI T) u = nI T := by unfold upd; rw [if_pos rfl]
    rw [eu]
    refine ⟨T, T + 1, fun t => if t = T then u else ty t, _, _, _, by omega, by omega, rfl, rfl, ⟨by omega, fun t ht => ?_, fun v hv hvt => ?_⟩, fun t ht => if_neg (by omega)⟩
    · by_cases e : t = T
      · subst e
        simp only [if_pos]
        unfold upd
        rw [if_pos rfl, if_pos rfl, if_pos rfl]
        exact ⟨hu, hs, rfl, rfl, rfl⟩
      · have h6 := h.2.1 t (by omega)
        simp only [if_neg e]
        unfold upd
        rw [if_neg e, if_neg e, if_neg (hx' t (by omega))]
        exact h6
    · have hvu : v ≠ u := fun q => hvt T (by omega) (by show (if T = T then u else ty T) = v; rw [if_pos rfl, q])
      unfold upd
      rw [if_neg hvu]
      refine h.2.2 v hv (fun t ht q => hvt t (by omega) ?_)
      show (if t = T then u else ty t) = v
      rw [if_neg (by omega)]; exact q
