/-! a ROLE taken, by both -/
theorem f1z : ¬ ((0 : Int32) < 0) := by decide
theorem M_wrong0 (a b c : Int32) : f_M_wrong a b 0 c = some (a, b) := by
  unfold f_M_wrong
  rw [if_pos rfl]
theorem M_fine0 : f_M_fine 0 = some 1 := rfl
theorem M_misp {m3 m4 c : Int32} : f_M_misplaced m3 m4 0 c = some (if m3 = 3 then 1 else 2, m4) := by
  unfold f_M_misplaced f_M_misplaced_14
  by_cases h : m3 = 3
  · rw [if_pos h, M_wrong0, Option.bind_some, if_pos h]
  · rw [if_neg h, M_wrong0, Option.bind_some, if_neg h]
theorem R_misp {r3 r4 t3 c4 : Int32} : f_R_misplaced r3 r4 t3 c4 = some (-1, if c4 = 0 then 1 else 2, t3) := by
  unfold f_R_misplaced f_R_misplaced_16 f_R_failHere f_R_fail
  by_cases h : c4 = 0
  · rw [if_pos h, if_pos h]; rfl
  · rw [if_neg h, if_neg h]; rfl
theorem R_failH {a r3 r4 t3 : Int32} : f_R_failHere a r3 r4 t3 = some (-1, a, t3) := rfl
/-- a token is bad for both, or for none -/
theorem Tok.bad {n nx fr : Nat} {tx : Nat → Int32} {c4 m3 m5 m6 : Int32} {w : Int64} (T : Tok n tx nx fr c4 w m3 m5 m6) : (c4 = 0 ↔ m3 = 3) := by
  obtain ⟨t1, t2, t3⟩ := T
  rcases t3 with ⟨a1, a2, a3, a4, a5⟩ | ⟨a1, a2, s, hs, a3, a4, a5⟩ | ⟨a1, a2, a3, a4⟩ | ⟨sz, a1, a2, a3, a4, a5, a6, a7, a8, a9, a10, a11⟩
  · rw [a3, a5]; decide
  · rw [a2, a4]; decide
  · rw [a2, a4]; decide
  · rw [a10, a4]
    cases kwB w <;> decide
theorem Tok.misp {n nx fr : Nat} {tx : Nat → Int32} {c4 m3 m5 m6 : Int32} {w : Int64} (T : Tok n tx nx fr c4 w m3 m5 m6) : ∃ F : Nat, 1 ≤ F ∧ F ≤ 6 ∧ (if c4 = 0 then (1 : Int32) else 2) = nI F ∧ (if m3 = 3 then (1 : Int32) else 2) = nI F := by
  have h := T.bad
  by_cases e : c4 = 0
  · rw [if_pos e, if_pos (h.mp e)]; exact ⟨1, by decide, by decide, rfl, rfl⟩
  · rw [if_neg e, if_neg (fun z => e (h.mpr z))]; exact ⟨2, by decide, by decide, rfl, rfl⟩
/-- what a free word is -/
theorem Tok.free {n nx fr : Nat} {tx : Nat → Int32} {c4 m3 m5 m6 : Int32} {w : Int64} (T : Tok n tx nx fr c4 w m3 m5 m6) : (c4 = 4 → ∃ sz : Nat, 1 ≤ sz ∧ sz ≤ 8 ∧ nx = fr + sz ∧ m3 = 1 ∧ m5 = nI sz ∧ m6 = 0 ∧ okR tx fr sz ∧ an (tx fr) = true ∧ w = lN (pkb tx fr sz) ∧ kwB w = false ∧ (nx < n → an (tx nx) = false)) ∧ (¬ c4 = 4 → m3 = 1 → kwB w = true) := by
  obtain ⟨t1, t2, t3⟩ := T
  rcases t3 with ⟨a1, a2, a3, a4, a5⟩ | ⟨a1, a2, s, hs, a3, a4, a5⟩ | ⟨a1, a2, a3, a4⟩ | ⟨sz, a1, a2, a3, a4, a5, a6, a7, a8, a9, a10, a11⟩
  · exact ⟨fun z => by rw [a3] at z; exact absurd z (by decide), fun _ z => by rw [a5] at z; exact absurd z (by decide)⟩
  · exact ⟨fun z => by rw [a2] at z; exact absurd z (by decide), fun _ z => by rw [a4] at z; exact absurd z (by decide)⟩
  · exact ⟨fun z => by rw [a2] at z; exact absurd z (by decide), fun _ z => by rw [a4] at z; exact absurd z (by decide)⟩
  · constructor
    · intro z
      refine ⟨sz, a1, a2, a3, a4, a5, a6, a7, a8, a9, ?_, a11⟩
      cases h : kwB w
      · rfl
      · rw [a10, h] at z; exact absurd z (by decide)
    · intro z _
      cases h : kwB w
      · rw [a10, h] at z; exact absurd rfl z
      · rfl
theorem kwB_of {i : Nat} (hi : i < 10) : kwB (lN (kww.getD i 0)) = true := by
  have : ∀ i, i < 10 → kwB (lN (kww.getD i 0)) = true := by decide +kernel
  exact this i hi
/-- the model copies a role's bytes -/
theorem rc_loop {N fr sz n r : Nat} {tx t0 m23 m24 m26o m27 m29 m31 : Nat → Int32} {o3 o43 o44 o47 : Int32} (H : RTape n tx t0) (hs : sz ≤ 8) (hf : fr + sz ≤ n) (hr : r < 3) : ∀ (d i j : Nat) (m : Nat → Int32), j + d = sz → d < i → (∀ k, k < j → m (24 + 8 * r + k) = tx (fr + k)) → ∃ m' : Nat → Int32, f_M_readRole_85 N o3 (nI fr) (nI sz) o43 (nI o44.toNatClampNeg) 0 o47 t0 wordsM m23 m24 m26o m27 m29 m31 (nI r) i (nI j) m = some (nI r, nI o44.toNatClampNeg + 1, 0, o47, m', upd m27 (3 + r) (nI sz), upd m29 (3 + r) 0, upd m31 (3 + r) 0) ∧ (∀ k, k < sz → m' (24 + 8 * r + k) = tx (fr + k)) ∧ ∀ i, i < 24 + 8 * r → m' i = m i := by
  have hn := H.1
  have e3 : ((3 : Int32) + nI r) = nI (3 + r) := by rw [show (3 : Int32) = nI 3 from rfl, nI_add]
  have e8 : ((8 : Int32) * nI (3 + r)) = nI (24 + 8 * r) := by rw [show (8 : Int32) = nI 8 from rfl, pk_mul, show 8 * (3 + r) = 24 + 8 * r by omega]
  have b0 : vp_nar .boolean (0 : Int32) = 0 := by decide
  intro d
  induction d with
  | zero =>
    intro i j m hj hi h
    obtain ⟨i, rfl⟩ : ∃ k, i = k + 1 := ⟨i - 1, by omega⟩
    rw [f_M_readRole_85, if_pos (nI_le (show sz ≤ j by omega) (by omega)), e3, if_neg (nI_g (show 3 + r < 6 by omega) (by decide)), nI_cl (by omega), b0]
    exact ⟨m, rfl, fun k hk => h k (by omega), fun _ _ => rfl⟩
  | succ d ih =>
    intro i j m hj hi h
    obtain ⟨i, rfl⟩ : ∃ k, i = k + 1 := ⟨i - 1, by omega⟩
    have hb := H.2 (fr + j) (by omega)
    rw [f_M_readRole_85, if_neg (nI_ge (show j < sz by omega) (by omega)), nI_add, if_neg (nI_g (show fr + j < 2000 by omega) (by decide)), e3, e8, nI_add, if_neg (nI_g (show 24 + 8 * r + j < 48 by omega) (by decide)), nI_cl (by omega), nI_cl (by omega), ← hb.1, hb.2.1, nI_m]
    obtain ⟨m', a1, a2, a3⟩ := ih i (j + 1) (upd m (24 + 8 * r + j) (tx (fr + j))) (by omega) (by omega) (fun k hk => by
      by_cases e : k = j
      · rw [e, up_s]
      · rw [up_n (by omega)]; exact h k (by omega))
    exact ⟨m', a1, a2, fun i hi => (a3 i hi).trans (up_n (by omega))⟩
/-- what a role's taking leaves of the roles -/
def RlX (nr nr' : Nat) (l4 l4' : Nat → Int64) (m26 m26' m27 m27' m29 m29' m31 m31' : Nat → Int32) : Prop := nr ≤ nr' ∧ nr' ≤ 3 ∧ (∀ k, k < nr → l4' k = l4 k ∧ m27' (3 + k) = m27 (3 + k) ∧ m29' (3 + k) = m29 (3 + k) ∧ m31' (3 + k) = m31 (3 + k)) ∧ (∀ k, nr ≤ k → k < nr' → m29' (3 + k) = 0 ∧ m31' (3 + k) = 0) ∧ (∀ i, i < 24 → m26' i = m26 i) ∧ (∀ i, i < 3 → m27' i = m27 i ∧ m29' i = m29 i) ∧ NmW 3 24 nr' l4' m26' m27'
theorem rl_eq {N n nx fr nn nr : Nat} {tx t0 m23 m24 m26 m27 m29 m31 : Nat → Int32} {c4 m3 m5 m6 r3 r4 i47 : Int32} {w : Int64} {l2 l4 : Nat → Int64} (hN : 100000 ≤ N) (H : RTape n tx t0) (T : Tok n tx nx fr c4 w m3 m5 m6) (hnn : nn ≤ 5) (hnr : nr ≤ 3) (Wn : NmW 5 40 nn l2 m23 m24) (Wr : NmW 3 24 nr l4 m26 m27) : (∃ F : Nat, 1 ≤ F ∧ F ≤ 6 ∧ f_R_takeRole N r3 r4 (nI n) (nI nx) (nI fr) c4 w tx (nI nn) (nI nr) l2 l4 = some (-1, nI F, nI fr, nI nx, nI fr, c4, w, nI nr, l4) ∧ f_M_readRole N m3 (nI fr) m5 (nI nn) (nI nr) 0 i47 t0 wordsM m23 m24 m26 m27 m29 m31 = some (0, nI nr, nI F, nI fr, m26, m27, m29, m31)) ∨ (∃ (r nr' sz : Nat) (l4' : Nat → Int64) (m26' m27' m29' m31' : Nat → Int32), r < nr' ∧ 1 ≤ sz ∧ sz ≤ 8 ∧ nx = fr + sz ∧ an (tx fr) = true ∧ (nx < n → an (tx nx) = false) ∧ m27' (3 + r) = nI sz ∧ RlX nr nr' l4 l4' m26 m26' m27 m27' m29 m29' m31 m31' ∧ f_R_takeRole N r3 r4 (nI n) (nI nx) (nI fr) c4 w tx (nI nn) (nI nr) l2 l4 = (f_T_step N (nI n) (nI nx) (nI fr) c4 w tx).bind (fun q => some (nI r, r3, r4, q.1, q.2.1, q.2.2.1, q.2.2.2, nI nr', l4')) ∧ f_M_readRole N m3 (nI fr) m5 (nI nn) (nI nr) 0 i47 t0 wordsM m23 m24 m26 m27 m29 m31 = some (nI r, nI nr', 0, i47, m26', m27', m29', m31')) := by
  have hn := H.1
  have hnx := T.2.1
  have TF := T.free
  unfold f_R_takeRole f_M_readRole
  rw [M_fine0, Option.bind_some, if_neg i1z]
  by_cases h4 : c4 = 4
  · obtain ⟨sz, a1, a2, a3, a4, a5, a6, a7, a8, a9, a10, a11⟩ := TF.1 h4
    obtain ⟨q, q1, q2⟩ := kept_eq hN H T
    have hq : q = -1 := by
      rcases q2 with q2 | ⟨i, i1, i2, i3⟩
      · exact q2.1
      · rw [i3, kwB_of i1] at a10; cases a10
    rw [if_pos h4, if_pos a4, q1, Option.bind_some, hq, if_pos (show (-1 : Int32) < 0 by decide), a9, a5]
    obtain ⟨r, r1, r2, r3'⟩ := hr_all (z := m27) (m := m26) (lw := l4) hN hnr H a2 (by omega) a7 Wr
    rw [r1, r2, Option.bind_some, Option.bind_some]
    rcases r3' with ⟨s1, s2⟩ | ⟨j, j1, j2, j3, j4⟩
    · -- no such role
      rw [s1, if_pos rfl, if_pos (show (-1 : Int32) < 0 by decide)]
      obtain ⟨v, v1, v2, v3⟩ := hn_all (z := m24) (m := m23) (lw := l2) hN hnn H a2 (by omega) a7 Wn
      rw [v1, v2, Option.bind_some, Option.bind_some]
      rcases v3 with ⟨u1, u2⟩ | ⟨j, j1, j2, j3, j4⟩
      · rw [u1, if_pos rfl, if_pos (show (-1 : Int32) < 0 by decide)]
        unfold f_R_takeRole_60 f_B_addRole
        rw [if_pos rfl]
        by_cases h3 : nr = 3
        · subst h3
          rw [if_neg (show ¬ nI 3 < (3 : Int32) by decide), Option.bind_some]
          unfold f_R_takeRole_80
          rw [if_pos rfl, if_pos (show nI 3 = (3 : Int32) from rfl), R_failH, Option.bind_some, M_wrong0, Option.bind_some]
          exact Or.inl ⟨3, by decide, by decide, rfl, rfl⟩
        · have hlt : nr < 3 := by omega
          rw [if_pos (show nI nr < (3 : Int32) from nI_lt hlt (by decide)), if_neg (nI_g hlt (by decide)), Option.bind_some, if_neg (show ¬ nI nr = (3 : Int32) from fun z => h3 ((nI_eq (b := 3) (by omega) (by omega)).mp z)), nI_m, nI_pred, nI_cl (by omega)]
          have e44 : (nI nr).toNatClampNeg = nr := nI_cl (by omega)
          obtain ⟨m', x1, x2, x3⟩ := rc_loop (N := N) (r := nr) (m23 := m23) (m24 := m24) (m26o := m26) (m27 := m27) (m29 := m29) (m31 := m31) (o3 := m3) (o43 := nI nn) (o44 := nI nr) (o47 := i47) H a2 (show fr + sz ≤ n by omega) hlt sz N 0 m26 (by omega) (by omega) (fun k hk => absurd hk (by omega))
          rw [e44, nI_m] at x1
          have hok' : okR m' (24 + 8 * nr) sz := fun i hi => by
            obtain ⟨b, b1, b2, b3⟩ := a7 i hi
            exact ⟨b, b1, b2, by rw [x2 i hi]; exact b3⟩
          have hlw : (vp_updL l4 nr (lN (pkb tx fr sz))) nr = lN (pkb m' (24 + 8 * nr) sz) := by
            rw [pk_uLs, (pkb_inj a7 hok' a2 a2).mpr ⟨rfl, fun i hi => (x2 i hi).symm⟩]
          refine Or.inr ⟨nr, nr + 1, sz, vp_updL l4 nr (lN (pkb tx fr sz)), m', upd m27 (3 + nr) (nI sz), upd m29 (3 + nr) 0, upd m31 (3 + nr) 0, by omega, a1, a2, a3, a8, a11, up_s, ⟨by omega, by omega, fun k hk => ⟨pk_uLn (by omega), up_n (by omega), up_n (by omega), up_n (by omega)⟩, fun k h1 h2 => ?_, fun i hi => x3 i (by omega), fun i hi => ⟨up_n (by omega), up_n (by omega)⟩, ?_⟩, ?_, x1⟩
          · have : k = nr := by omega
            rw [this]; exact ⟨up_s, up_s⟩
          · exact NmW_add Wr (fun a ha => pk_uLn (by omega)) (fun i h1 h2 => x3 i (by omega)) (fun a ha => up_n (by omega)) a1 a2 up_s hok' hlw
          · unfold f_R_takeRole_80
            rw [if_neg (nI_neg1 (by omega))]
      · rw [j2, if_neg (nI_neg1 (by omega)), if_neg (nI_pos (show j < 2147483648 by omega)), R_failH, Option.bind_some, M_wrong0, Option.bind_some]
        exact Or.inl ⟨4, by decide, by decide, rfl, rfl⟩
    · -- a role that is told of
      rw [j2, if_neg (nI_neg1 (by omega)), if_neg (nI_pos (show j < 2147483648 by omega))]
      unfold f_R_takeRole_60
      rw [if_neg (nI_neg1 (by omega))]
      unfold f_R_takeRole_80
      rw [if_neg (nI_neg1 (by omega))]
      exact Or.inr ⟨j, nr, sz, l4, m26, m27, m29, m31, j1, a1, a2, a3, a8, a11, j4, ⟨Nat.le_refl _, hnr, fun k hk => ⟨rfl, rfl, rfl, rfl⟩, fun k h1 h2 => absurd h2 (by omega), fun _ _ => rfl, fun _ _ => ⟨rfl, rfl⟩, Wr⟩, rfl, rfl⟩
  · -- no free word
    obtain ⟨F, F1, F2, F3, F4⟩ := T.misp
    refine Or.inl ⟨F, F1, F2, ?_, ?_⟩
    · rw [if_neg h4, R_misp, Option.bind_some, F3]
    · have m24e : f_M_readRole_24 N m3 (nI fr) m5 (nI nn) (nI nr) 0 i47 t0 wordsM m23 m24 m26 m27 m29 m31 = some (0, nI nr, nI F, nI fr, m26, m27, m29, m31) := by
        unfold f_M_readRole_24
        rw [M_misp, Option.bind_some, F4]
      by_cases h3 : m3 = 1
      · rw [if_pos h3]
        have hk := TF.2 h4 h3
        obtain ⟨q, q1, q2⟩ := kept_eq hN H T
        rcases q2 with q2 | ⟨i, i1, i2, i3⟩
        · rw [hk] at q2; cases q2.2
        · rw [q1, Option.bind_some, i2, if_neg (nI_pos (by omega))]
          exact m24e
      · rw [if_neg h3]
        exact m24e
