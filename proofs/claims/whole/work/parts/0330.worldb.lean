/-! the world, of both -/
theorem clr_loop {N : Nat} {i1 i4 x1 x4 : Int32} {a0 : Nat → Int32} : ∀ (d i t : Nat) (w2 : Nat → Int32), t + d = 512 → d < i → (∀ u, u < t → w2 u = -1) → ∃ w2' : Nat → Int32, f_W_clear_12 N i1 i4 a0 x1 x4 i (nI t) w2 = some (x1, x4, w2') ∧ ∀ u, u < 512 → w2' u = -1 := by
  intro d
  induction d with
  | zero =>
    intro i t w2 ht hi h
    obtain ⟨i, rfl⟩ : ∃ k, i = k + 1 := ⟨i - 1, by omega⟩
    rw [f_W_clear_12, if_pos (show (512 : Int32) ≤ nI t from nI_le (show 512 ≤ t by omega) (by omega))]
    exact ⟨w2, rfl, fun u hu => h u (by omega)⟩
  | succ d ih =>
    intro i t w2 ht hi h
    obtain ⟨i, rfl⟩ : ∃ k, i = k + 1 := ⟨i - 1, by omega⟩
    rw [f_W_clear_12, if_neg (show ¬ (512 : Int32) ≤ nI t from nI_ge (show t < 512 by omega) (by decide)), if_neg (nI_g (show t < 512 by omega) (by decide)), nI_cl (by omega), nI_m]
    refine ih i (t + 1) _ (by omega) (by omega) (fun u hu => ?_)
    unfold upd
    by_cases e : u = t
    · rw [if_pos e]; decide
    · rw [if_neg e]; exact h u (by omega)
theorem clr_eq {N : Nat} {i1 i4 : Int32} {w2 : Nat → Int32} (hN : 100000 ≤ N) : ∃ w2' : Nat → Int32, f_W_clear N i1 i4 w2 = some (0, 0, w2') ∧ ∀ u, u < 512 → w2' u = -1 := by
  unfold f_W_clear
  exact clr_loop 512 N 0 w2 (by omega) (by omega) (fun u h => absurd h (by omega))
theorem bu_loop {N n nr S : Nat} {c5 k5 k6 m60 m59 m29 ax sd m21 m57 : Nat → Int32} {tr pt st : Nat → Int64} {own : Nat → Nat} {i22 i37 o66 o68 o1 o4 : Int32} {o67 o69 o70 o71 p0 p2 p3 m32 : Nat → Int32} (hN : 100000 ≤ N) (H : RKd n nr S c5 k5 k6 m60 m59 m29 pt ax) (hw : Ow n c5 k5 m60 own) (hs : RSt n st sd) (hM : Mst N n nr S c5 m59 ax sd own) (h32 : ∀ k, k < n → m32 k = c5 k) : ∀ (d i i' t T E : Nat) (ty : Nat → Nat) (w0 w2 w3 m67 m69 m70 m71 : Nat → Int32), t + d = 512 → d < i → d < i' → t ≤ T → WdT n T ty sd w0 w2 m67 → REd E w3 m69 m70 m71 → E ≤ sW pc9 (pd ty t) 512 → ∃ (T' E' : Nat) (ty' : Nat → Nat) (w0' w2' w3' m67' m69' m70' m71' : Nat → Int32), f_W_build_29 N (nI S) (nI n) c5 tr pt st k5 k6 o1 o4 p0 p2 p3 i (nI t) (nI T) (nI E) w0 w2 w3 = some (nI T', nI E', w0', w2', w3') ∧ f_M_world_57 N i22 (nI n) i37 o66 o68 m21 m29 m32 m57 ax m59 m60 sd o67 o69 o70 o71 i' (nI t) (nI T) (nI E) m67 m69 m70 m71 = some (nI T', nI T', nI E', m67', m69', m70', m71') ∧ WdT n T' ty' sd w0' w2' m67' ∧ REd E' w3' m69' m70' m71' ∧ E' ≤ 2304 := by
  have hn := H.1
  have h9 := pw9_le n (by omega)
  have allb : ∀ p : Nat → Bool, sW pc9 p 512 ≤ 2304 := fun p => by have := sW_le pc9 p 512; rw [pc9_all] at this; exact this
  intro d
  induction d with
  | zero =>
    intro i i' t T E ty w0 w2 w3 m67 m69 m70 m71 hd hi hi' htT hW hE hB
    obtain ⟨i, rfl⟩ : ∃ k, i = k + 1 := ⟨i - 1, by omega⟩
    obtain ⟨i', rfl⟩ : ∃ k, i' = k + 1 := ⟨i' - 1, by omega⟩
    have hT5 := hW.1
    rw [f_W_build_29, f_M_world_57, if_pos (nI_le (show T ≤ t by omega) (by omega)), if_pos (nI_le (show T ≤ t by omega) (by omega))]
    exact ⟨T, E, ty, w0, w2, w3, m67, m69, m70, m71, rfl, rfl, hW, hE, Nat.le_trans hB (allb _)⟩
  | succ d ih =>
    intro i i' t T E ty w0 w2 w3 m67 m69 m70 m71 hd hi hi' htT hW hE hB
    obtain ⟨i, rfl⟩ : ∃ k, i = k + 1 := ⟨i - 1, by omega⟩
    obtain ⟨i', rfl⟩ : ∃ k, i' = k + 1 := ⟨i' - 1, by omega⟩
    have hT5 := hW.1
    by_cases hlt : t < T
    · obtain ⟨h1, h2, h3, h4, h5⟩ := hW.2.1 t hlt
      have hX : sW pc9 (pd ty t) 512 + pc9 (ty t) ≤ 2304 := by
        rw [← sW_pd (fun j hj e => by have := hW.inj (show j < T by omega) hlt e; omega) (by omega)]
        exact allb _
      rw [f_W_build_29, f_M_world_57, if_neg (nI_ge hlt (by omega)), if_neg (nI_ge hlt (by omega)), if_neg (show ¬ (512 : Int32) ≤ nI t from nI_ge (show t < 512 by omega) (by decide))]
      unfold f_W_addEdges
      rw [if_neg (nI_g (show t < 512 by omega) (by decide)), nI_cl (by omega), h3]
      obtain ⟨T', E', ty', w0', w2', w3', m67', m69', m70', m71', a1, a2, a3, a4, a5, a6, a7⟩ := ae_loop (i22 := i22) (i37 := i37) (o66 := o66) (o68 := o68) (m21 := m21) (m57 := m57) (o67 := o67) (o69 := o69) (o70 := o70) (o71 := o71) (o1 := nI T) (o4 := nI E) (p0 := w0) (p2 := w2) (p3 := w3) (kk := f_M_world_57 N i22 (nI n) i37 o66 o68 m21 m29 m32 m57 ax m59 m60 sd o67 o69 o70 o71 i') hN H hw hs hM h32 h1 h2 (show t < 512 by omega) n N N 0 T E 0 (sW pc9 (pd ty t) 512) ty w0 w2 w3 m67 m69 m70 m71 (by omega) (by omega) (by omega) hlt rfl hW hE (by show E ≤ _ + 0; omega) hX (by decide) (fun R hR hSR => by
        rw [Nat.zero_testBit]
        exact ⟨fun q => absurd q (by decide), fun ⟨j, j1, _⟩ => absurd j1 (by omega)⟩)
      rw [show (0 : Int32) = nI 0 from rfl, a1, Option.bind_some, a2]
      have hty' : pd ty' t = pd ty t := pd_same (fun j hj => a7 j (by omega))
      have ett : ty' t = ty t := a7 t hlt
      have := ih i i' (t + 1) T' E' ty' w0' w2' w3' m67' m69' m70' m71' (by omega) (by omega) (by omega) (by omega) a4 a5 (by
        rw [sW_pd (fun j hj e => by have := a4.inj (show j < T' by omega) (show t < T' by omega) e; omega) (by rw [ett]; omega), hty', ett]
        exact a6)
      rw [nI_m]
      exact this
    · rw [f_W_build_29, f_M_world_57, if_pos (nI_le (show T ≤ t by omega) (by omega)), if_pos (nI_le (show T ≤ t by omega) (by omega))]
      exact ⟨T, E, ty, w0, w2, w3, m67, m69, m70, m71, rfl, rfl, hW, hE, Nat.le_trans hB (allb _)⟩
/-- the worlds of both, as other calls show them -/
def RWd (T E : Nat) (w0 w3 m67 m69 m70 m71 : Nat → Int32) : Prop := T ≤ 512 ∧ E ≤ 2304 ∧ (∀ t, t < T → w0 t = m67 t) ∧ REd E w3 m69 m70 m71
theorem world_eq {N n nr S k : Nat} {c5 k5 k6 m60 m59 m29 ax sd is cq mq m32 w0 w2 w3 m67 m69 m70 m71 : Nat → Int32} {tr pt st : Nat → Int64} {own : Nat → Nat} {T E : Nat} (hN : 100000 ≤ N) (H : RKd n nr S c5 k5 k6 m60 m59 m29 pt ax) (hw : Ow n c5 k5 m60 own) (hs : RSt n st sd) (hM : Mst N n nr S c5 m59 ax sd own) (h32 : ∀ k, k < n → m32 k = c5 k) (hk : k ≤ 12) (hq : RAsk n k cq mq tr is) (hW : RWd T E w0 w3 m67 m69 m70 m71) (a : Int32) : ∃ (v : Int32) (T' E' : Nat) (w0' w2' w3' m67' m69' m70' m71' : Nat → Int32), f_X_world N a 1 (nI k) (nI S) cq (nI n) c5 tr pt st k5 k6 (nI T) (nI E) w0 w2 w3 = some (v, nI T', nI E', w0', w2', w3') ∧ f_M_world N a (nI k) (nI n) 1 (nI T) (nI E) mq m29 m32 is ax m59 m60 sd m67 m69 m70 m71 = some (v, nI T', nI E', m67', m69', m70', m71') ∧ RWd T' E' w0' w3' m67' m69' m70' m71' := by
  have hn := H.1
  have h9 := pw9_le n (by omega)
  unfold f_X_world f_M_world
  rw [if_neg i1z, if_neg i1z, X_isQ_eq (by omega), M_noQ_eq (by omega), Option.bind_some, Option.bind_some]
  by_cases h1 : ∃ j : Nat, j < k ∧ a = nI j
  · rw [if_pos h1, if_pos h1, if_neg i1z, if_pos rfl]
    obtain ⟨j, hj, rfl⟩ := h1
    obtain ⟨r, e1, e2, e3⟩ := least_same hN hn hk hq hs hj
    obtain ⟨w2', c1, c2⟩ := clr_eq (N := N) (i1 := nI T) (i4 := nI E) (w2 := w2) hN
    rw [B_question_eq hk hj, Option.bind_some, e2, Option.bind_some]
    unfold f_W_build
    rw [c1, Option.bind_some, e1, Option.bind_some]
    have ng := e3.neg (by omega)
    by_cases h2 : r = -1
    · rw [if_pos h2, Option.bind_some, h2, if_neg (show ¬ (0 : Int32) ≤ -1 by decide)]
      exact ⟨0, 0, 0, w0, w2', w3, m67, m69, m70, m71, rfl, rfl, by omega, by omega, fun t ht => absurd ht (by omega), fun t ht => absurd ht (by omega)⟩
    · rw [if_neg h2]
      rcases e3 with ⟨u, u1, u2, u3, u4⟩ | ⟨u1, -⟩
      · rw [u2, if_pos (nI_pos' (show u < 2 ^ 31 by omega))]
        have hw0 : WdT n 0 (fun _ => 0) sd w0 w2' m67 := ⟨by omega, fun t ht => absurd ht (by omega), fun v hv _ => c2 v hv⟩
        obtain ⟨j', T', ty', w0', w22, m67', g1, g2, g3, g4, g5, g6⟩ := th_eq hN hn hw0 u1 u3.1
        -- the model puts the first thing itself
        have hM0 : f_M_thingOf N (nI u) (nI 0) m67 = some (nI 0, nI 1, upd m67 0 (nI u)) := by
          unfold f_M_thingOf
          have := to_loop (N := N) (T := 0) (u := u) (j := 0) (m67 := m67) (ty := fun _ => 0) (by omega) (by omega) (by omega) (fun t ht => absurd ht (by omega)) (fun t ht => absurd ht (by omega)) (fun q => absurd q (by omega)) (fun _ => by omega) 0 N 0 (by omega) (by omega)
          rw [show (0 : Int32) = nI 0 from rfl, this, if_neg (by omega)]
        rw [hM0] at g4
        have g4' := Option.some.inj g4
        have t1 : nI 1 = nI T' := (Prod.mk.inj (Prod.mk.inj g4').2).1
        have t2 : upd m67 0 (nI u) = m67' := (Prod.mk.inj (Prod.mk.inj g4').2).2
        have hT'5 := g5.1
        have t3 : T' = 1 := ((nI_eq (by omega) (by omega)).mp t1).symm
        subst t3
        obtain ⟨T2, E2, ty2, x0, x2, x3, y67, y69, y70, y71, b1, b2, b3, b4, b5⟩ := bu_loop (tr := tr) (m21 := mq) (m57 := is) (i22 := nI k) (i37 := 1) (o66 := nI T) (o68 := nI E) (o67 := m67) (o69 := m69) (o70 := m70) (o71 := m71) (o1 := nI T) (o4 := nI E) (p0 := w0) (p2 := w2) (p3 := w3) hN H hw hs hM h32 512 N N 0 1 0 ty' w0' w22 w3 m67' m69 m70 m71 (by omega) (by omega) (by omega) (by omega) g5 (fun t ht => absurd ht (by omega)) (by omega)
        rw [show (0 : Int32) = nI 0 from rfl, g3, Option.bind_some]
        have z0 : (nI 0).toNatClampNeg = 0 := by decide
        rw [z0, t2, show (1 : Int32) = nI 1 from rfl]
        rw [show (1 : Int32) = nI 1 from rfl] at b2
        rw [b1, Option.bind_some]
        refine ⟨nI T2, T2, E2, x0, x2, x3, y67, y69, y70, y71, rfl, b2, b3.1, b5, fun t ht => ?_, b4⟩
        have := b3.2.1 t ht
        rw [this.2.2.1, this.2.2.2.1]
      · exact absurd u1 h2
  · rw [if_neg h1, if_neg h1, if_pos rfl, if_neg i1z]
    exact ⟨_, T, E, w0, w2, w3, m67, m69, m70, m71, rfl, rfl, hW⟩
