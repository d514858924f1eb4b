/-! where a reading begins, of both -/
theorem tas30 : tas 30 = true := by decide
theorem rd48_loop {N : Nat} {jM xi : Nat → Int32} {jA aM : Nat → Nat → Int32} : ∀ (d i v : Nat) (x : Nat → Nat → Int32), v + d = 18 → 9 ≤ v → d < i → FrA tas aM x → (∀ k, 9 ≤ k → k < v → x 30 k = 0) → ∃ x' : Nat → Nat → Int32, f_M_read_48 N jM jA xi i (nI v) x = ((f_M_next N (xi 1) 0 (xi 3) (xi 4) (xi 5) (xi 6) (x' 0)).bind fun q73 => f_M_read_76 N jM jA N (us xi [(2, q73.1), (3, q73.2.1), (4, q73.2.2.1), (5, q73.2.2.2.1), (6, q73.2.2.2.2)]) x') ∧ FrA tas aM x' ∧ ∀ k, 9 ≤ k → k < 18 → x' 30 k = 0 := by
  intro d
  induction d with
  | zero =>
    intro i v x hv h9 hi hf hx
    obtain ⟨i, rfl⟩ : ∃ k, i = k + 1 := ⟨i - 1, by omega⟩
    have ev : v = 18 := by omega
    subst ev
    rw [f_M_read_48, if_pos (show (18 : Int32) ≤ nI 18 from nI_le (a := 18) (by omega) (by omega))]
    exact ⟨x, rfl, hf, hx⟩
  | succ d ih =>
    intro i v x hv h9 hi hf hx
    obtain ⟨i, rfl⟩ : ∃ k, i = k + 1 := ⟨i - 1, by omega⟩
    rw [f_M_read_48, if_neg (show ¬ (18 : Int32) ≤ nI v from nI_ge (a := v) (b := 18) (by omega) (by decide)), if_neg (nI_g (show v < 18 by omega) (by decide)), nI_cl (by omega), nI_m]
    have e0 : vp_nar .boolean (0 : Int32) = 0 := by decide
    rw [e0]
    refine ih i (v + 1) (us x [(30, upd (x 30) v 0)]) (by omega) (by omega) (by omega) (hf.trans (fra_us rfl (low_cons (fun k hk => up_n (by have : lowB 30 = 9 := rfl; omega)) low_nil))) (fun k h1 h2 => ?_)
    show upd (x 30) v 0 k = 0
    by_cases e : k = v
    · rw [e]; exact up_s
    · exact (up_n e).trans (hx k h1 (by omega))
theorem bclr_loop {N : Nat} {iB1 iB3 iB5 iB7 iB9 iB11 iB13 iB14 iC4 iC9 x1 x3 x5 x7 x9 x11 y4 y9 : Int32} {b12 : Nat → Int32} : ∀ (d i v : Nat) (x : Nat → Int32), v + d = 3 → d < i → (∀ k, k < v → x k = 0) → ∃ x' : Nat → Int32, f_B_clear_39 N iB1 iB3 iB5 iB7 iB9 iB11 iB13 iB14 b12 iC4 iC9 x1 x3 x5 x7 x9 x11 y4 y9 i (nI v) x = some (x1, x3, x5, x7, x9, x11, 0, 0, x', y4, y9) ∧ ∀ k, k < 3 → x' k = 0 := by
  intro d
  induction d with
  | zero =>
    intro i v x hv hi hx
    obtain ⟨i, rfl⟩ : ∃ k, i = k + 1 := ⟨i - 1, by omega⟩
    have ev : v = 3 := by omega
    subst ev
    rw [f_B_clear_39, if_pos (show (3 : Int32) ≤ nI 3 from nI_le (a := 3) (by omega) (by omega))]
    exact ⟨x, rfl, hx⟩
  | succ d ih =>
    intro i v x hv hi hx
    obtain ⟨i, rfl⟩ : ∃ k, i = k + 1 := ⟨i - 1, by omega⟩
    rw [f_B_clear_39, if_neg (show ¬ (3 : Int32) ≤ nI v from nI_ge (a := v) (b := 3) (by omega) (by decide)), if_neg (nI_g (show v < 3 by omega) (by decide)), nI_cl (by omega), nI_m]
    refine ih i (v + 1) _ (by omega) (by omega) (fun k hk => ?_)
    by_cases e : k = v
    · rw [e]; exact up_s
    · exact (up_n e).trans (hx k (by omega))
theorem bclr_eq {N : Nat} {iB1 iB3 iB5 iB7 iB9 iB11 iB13 iB14 iC4 iC9 : Int32} {b12 : Nat → Int32} (hN : 100000 ≤ N) : ∃ x' : Nat → Int32, f_B_clear N iB1 iB3 iB5 iB7 iB9 iB11 iB13 iB14 b12 iC4 iC9 = some (0, 0, 0, 0, 0, 0, 0, 0, x', 0, 0) ∧ ∀ k, k < 3 → x' k = 0 := by
  obtain ⟨x', e, h⟩ := bclr_loop (N := N) (iB1 := iB1) (iB3 := iB3) (iB5 := iB5) (iB7 := iB7) (iB9 := iB9) (iB11 := iB11) (iB13 := iB13) (iB14 := iB14) (iC4 := iC4) (iC9 := iC9) (x1 := 0) (x3 := 0) (x5 := 0) (x7 := 0) (x9 := 0) (x11 := 0) (y4 := 0) (y9 := 0) (b12 := b12) 3 N 0 b12 (by omega) (by omega) (fun k hk => absurd hk (by omega))
  refine ⟨x', ?_, h⟩
  unfold f_B_clear f_C_clear
  exact e
/-- both at a text's beginning -/
theorem bks_begin {n nx fr : Nat} {tx : Nat → Int32} {iT : Nat → Int32} {wT : Int64} {iB : Nat → Int32} {lB : Nat → Nat → Int64} {aB : Nat → Nat → Int32} {iC : Nat → Int32} {aC : Nat → Nat → Int32} {iM : Nat → Int32} {aM : Nat → Nat → Int32} (HT : TkS n tx nx fr iT wT iM aM) (h46 : iM 46 = 0) (b : ∀ j, j = 1 ∨ j = 3 ∨ j = 5 ∨ j = 7 ∨ j = 9 ∨ j = 11 ∨ j = 13 ∨ j = 14 → iB j = 0) (c : iC 4 = 0 ∧ iC 9 = 0) (m : ∀ j, 38 ≤ j → j ≤ 45 → iM j = 0) (h12 : ∀ k, k < 3 → aB 12 k = 0) (h30 : ∀ k, 9 ≤ k → k < 18 → aM 30 k = 0) : BkS n tx 0 0 0 nx fr 0 0 0 0 0 0 0 0 0 (fun _ => 0) (fun _ => 0) (fun _ => 0) (fun _ => 0) (fun _ => 0) iT wT iB lB aB iC aC iM aM := by
  have z : nI 0 = (0 : Int32) := rfl
  have tf0 : ∀ r, (0 : Nat).testBit r = false := fun r => Nat.zero_testBit r
  have no' : ∀ {P : Nat → Prop} (j : Nat), j < 0 → P j := fun j h => absurd h (by omega)
  refine ⟨⟨h46, HT, ⟨by omega, by omega, ?_, ?_, ?_, ?_, ?_, ?_, ?_, ?_⟩, ⟨by omega, by omega, by omega, by omega, ?_, ?_, ?_, ?_, ?_, ?_, ?_, ?_, ?_, ?_, ?_, ?_⟩⟩, ⟨rfl, by omega, by decide, by omega, by omega⟩, ⟨?_, ?_, ?_, ?_, ?_, ?_, ?_, ?_, by omega, by omega⟩, ?_, ?_, ?_, ?_, ?_, ⟨rfl, ?_, by omega, Nat.zero_le _⟩⟩
  · exact (b 3 (by decide)).trans z.symm
  · exact (b 5 (by decide)).trans z.symm
  · exact (m 43 (by decide) (by decide)).trans z.symm
  · exact (m 44 (by decide) (by decide)).trans z.symm
  · exact fun j h => absurd h (by omega)
  · exact fun j h => absurd h (by omega)
  · exact fun j h => absurd h (by omega)
  · exact fun r _ _ => ⟨tf0 r, tf0 r⟩
  · exact (b 1 (by decide)).trans z.symm
  · exact (m 38 (by decide) (by decide)).trans z.symm
  · exact (m 39 (by decide) (by decide)).trans z.symm
  · exact c.1.trans z.symm
  · exact c.2.trans z.symm
  · exact (m 45 (by decide) (by decide)).trans z.symm
  · exact fun j h => absurd h (by omega)
  · exact fun j h => absurd h (by omega)
  · exact fun j h => absurd h (by omega)
  · exact ⟨fun j h => absurd h (by omega), fun j j' h => absurd h (by omega), fun j j' h => absurd h (by omega), fun j h => absurd h (by omega), fun j h => absurd h (by omega)⟩
  · exact fun j h => absurd h (by omega)
  · exact fun j h => absurd h (by omega)
  · exact (b 13 (by decide)).trans z.symm
  · exact (b 14 (by decide)).trans z.symm
  · exact (b 7 (by decide)).trans z.symm
  · exact (m 40 (by decide) (by decide)).trans z.symm
  · exact (b 9 (by decide)).trans z.symm
  · exact (m 41 (by decide) (by decide)).trans z.symm
  · exact (b 11 (by decide)).trans z.symm
  · exact (m 42 (by decide) (by decide)).trans z.symm
  · intro r hr
    have : ∀ r, r < 3 → nI (rowG 0 r) = 0 := by decide
    rw [h12 r hr, this r hr]
  · intro k hk
    rw [h30 (9 + k) (by omega) (by omega), tf0]
    rfl
  · exact fun j h => absurd h (by omega)
  · exact fun j h => absurd h (by omega)
  · exact fun j h => absurd h (by omega)
  · exact fun j h => absurd h (by omega)
/-- a whole text, of both -/
theorem rd_eq {N n : Nat} {tx : Nat → Int32} {iR iT : Nat → Int32} {wT : Int64} {iB : Nat → Int32} {lB : Nat → Nat → Int64} {aB : Nat → Nat → Int32} {iC : Nat → Int32} {aC : Nat → Nat → Int32} {iM : Nat → Int32} {aM : Nat → Nat → Int32} (hN : 100000 ≤ N) (H : RTape n tx (aM 0)) (e1 : iM 1 = nI n) (e7 : aM 7 = wordsM) : LpO N n tx iM aM (us iR [(3, 0), (4, -1)]) iM aM (f_R_takeIn N (nI n) iR iT wT tx iB lB aB iC aC) (f_M_read N iM aM) := by
  have hn := H.1
  obtain ⟨b12, b1, b2⟩ := bclr_eq (N := N) (iB1 := iB 1) (iB3 := iB 3) (iB5 := iB 5) (iB7 := iB 7) (iB9 := iB 9) (iB11 := iB 11) (iB13 := iB 13) (iB14 := iB 14) (iC4 := iC 4) (iC9 := iC 9) (b12 := aB 12) hN
  obtain ⟨y, y1, y2, y3⟩ := rd48_loop (N := N) (jM := iM) (jA := aM) (aM := aM) (xi := us iM [(38, 0), (39, 0), (40, 0), (41, 0), (42, 0), (43, 0), (44, 0), (45, 0), (46, 0)]) 9 N 9 aM (by omega) (by omega) (by omega) FrA.rfl (fun k h1 h2 => absurd h2 (by omega))
  have y0 : y 0 = aM 0 := y2.1 0 rfl
  have y7 : y 7 = wordsM := (y2.1 7 rfl).trans e7
  obtain ⟨fr, nx, c4, w, k3, k5, k6, q1, q2, q3, q4⟩ := tok_step (N := N) (p := 0) (o3 := iT 3) (o4 := iT 4) (m3 := iM 3) (m4 := iM 4) (m5 := iM 5) (m6 := iM 6) (ow := wT) hN H (Nat.zero_le n)
  have TS : f_T_start N (nI n) (iT 1) (iT 2) (iT 3) (iT 4) wT tx = some (nI n, nI nx, nI fr, c4, w) := by
    unfold f_T_start
    have l : ¬ (2000 : Int32) < nI n := Int32.not_lt.mpr (nI_le (a := n) (b := 2000) hn (by omega))
    rw [if_neg l, show (0 : Int32) = nI 0 from rfl, q1, Option.bind_some]
  unfold f_R_takeIn f_M_read
  rw [b1, Option.bind_some, TS, Option.bind_some, show (9 : Int32) = nI 9 from rfl, y1]
  show LpO N n tx iM aM (us iR [(3, 0), (4, -1)]) iM aM (f_R_takeIn_40 N iR iT wT tx iB lB aB iC aC (nI n) N (nI 0) (us iR [(3, 0), (4, -1)]) (us iT [(1, nI n), (2, nI nx), (3, nI fr), (4, c4)]) w (us iB [(1, 0), (3, 0), (5, 0), (7, 0), (9, 0), (11, 0), (13, 0), (14, 0)]) lB (us aB [(12, b12)]) (us iC [(4, 0), (9, 0)]) aC) ((f_M_next N (iM 1) (nI 0) (iM 3) (iM 4) (iM 5) (iM 6) (y 0)).bind _)
  rw [y0, e1, q2, Option.bind_some]
  refine LpO.mono (iM' := us (us iM [(38, 0), (39, 0), (40, 0), (41, 0), (42, 0), (43, 0), (44, 0), (45, 0), (46, 0)]) [(2, nI nx), (3, k3), (4, nI fr), (5, k5), (6, k6)]) (aM' := y) ((fri_us rfl).trans (fri_us rfl)) y2 ?_
  refine lp_eq (jR := iR) (jT := iT) (jw := wT) (jB := iB) (jl := lB) (jb := aB) (jC := iC) (ja := aC) (jM := iM) (jA := aM) hN rfl n 0 0 0 nx fr 0 0 0 0 0 0 0 0 0 (fun _ => 0) (fun _ => 0) (fun _ => 0) (fun _ => 0) (fun _ => 0) _ _ _ _ _ _ _ _ _ 0 N N (bks_begin ⟨rfl, e1, rfl, rfl, rfl, rfl, ?_, y7, q3⟩ rfl ?_ ⟨rfl, rfl⟩ ?_ ?_ y3) (by omega) (by omega) (by omega) (by omega)
  · rw [y0]; exact H
  · intro j hj
    rcases hj with h | h | h | h | h | h | h | h <;> (subst h; rfl)
  · intro j h1 h2
    rcases (show j = 38 ∨ j = 39 ∨ j = 40 ∨ j = 41 ∨ j = 42 ∨ j = 43 ∨ j = 44 ∨ j = 45 by omega) with h | h | h | h | h | h | h | h <;> (subst h; rfl)
  · exact b2
