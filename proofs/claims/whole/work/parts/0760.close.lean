/-! the model closes what lies between -/
def CT (N : Nat) (L : Int32) (kk : Nat) (X : Nat → Int32) (Y : Nat → Nat → Int32) (Xa : Nat → Int32) (Ya : Nat → Nat → Int32) : Prop := us X [(39, Xa 39), (54, Xa 54), (55, Xa 55)] = Xa ∧ us Y [(10, Ya 10), (13, Ya 13)] = Ya ∧ ∀ (e39 e54 e55 : Int32) (e10 e13 : Nat → Int32) (i : Nat), f_M_close_0 N e39 e54 e55 (Y 8) e10 e13 (Y 52) (Y 53) L (i + kk) (X 39) (X 54) (X 55) (Y 10) (Y 13) = f_M_close_0 N e39 e54 e55 (Y 8) e10 e13 (Y 52) (Y 53) L i (Xa 39) (Xa 54) (Xa 55) (Ya 10) (Ya 13)
theorem us_3 {X : Nat → Int32} : us X [(39, X 39), (54, X 54), (55, X 55)] = X := by
  funext j
  show (if j = 39 then X 39 else if j = 54 then X 54 else if j = 55 then X 55 else X j) = X j
  by_cases h : j = 39
  · rw [if_pos h, h]
  · rw [if_neg h]
    by_cases h' : j = 54
    · rw [if_pos h', h']
    · rw [if_neg h']
      by_cases h2 : j = 55
      · rw [if_pos h2, h2]
      · rw [if_neg h2]
theorem us_2 {Y : Nat → Nat → Int32} : us Y [(10, Y 10), (13, Y 13)] = Y := by
  funext j
  show (if j = 10 then Y 10 else if j = 13 then Y 13 else Y j) = Y j
  by_cases h : j = 10
  · rw [if_pos h, h]
  · rw [if_neg h]
    by_cases h' : j = 13
    · rw [if_pos h', h']
    · rw [if_neg h']
theorem us_33 {X : Nat → Int32} {a b c a' b' c' : Int32} : us (us X [(39, a), (54, b), (55, c)]) [(39, a'), (54, b'), (55, c')] = us X [(39, a'), (54, b'), (55, c')] := by
  funext j
  show (if j = 39 then a' else if j = 54 then b' else if j = 55 then c' else (if j = 39 then a else if j = 54 then b else if j = 55 then c else X j)) = (if j = 39 then a' else if j = 54 then b' else if j = 55 then c' else X j)
  by_cases h : j = 39
  · simp [h]
  · by_cases h' : j = 54
    · simp [h']
    · by_cases h2 : j = 55
      · simp [h2]
      · simp [h, h', h2]
theorem us_22 {Y : Nat → Nat → Int32} {a b a' b' : Nat → Int32} : us (us Y [(10, a), (13, b)]) [(10, a'), (13, b')] = us Y [(10, a'), (13, b')] := by
  funext j
  show (if j = 10 then a' else if j = 13 then b' else (if j = 10 then a else if j = 13 then b else Y j)) = (if j = 10 then a' else if j = 13 then b' else Y j)
  by_cases h : j = 10
  · simp [h]
  · by_cases h' : j = 13
    · simp [h']
    · simp [h, h']
theorem CT.rf {N : Nat} {L : Int32} {X : Nat → Int32} {Y : Nat → Nat → Int32} : CT N L 0 X Y X Y := ⟨us_3, us_2, fun _ _ _ _ _ _ => rfl⟩
/-- one more is closed -/
theorem CT.step {N kk W b K j no : Nat} {X Xa : Nat → Int32} {Y Ya : Nat → Nat → Int32} (H : CT N (nI j) kk X Y Xa Ya) (h54 : Xa 54 = nI (W + 1)) (hW : W < 500) (h52 : Ya 52 W = nI 3) (h53 : Ya 53 W = nI (200 + b)) (hb : b < 200) (h8 : Ya 8 (200 + b) = nI K) (hK : K ≤ j) (hj : j < 8) (h39 : Xa 39 = nI no) (hno : no < 200) : CT N (nI j) (kk + 1) X Y (us Xa [(39, nI (no + 1)), (54, nI W), (55, nI (200 + b))]) (us Ya [(10, upd (Ya 10) (200 + b) (Xa 55)), (13, upd (Ya 13) (200 + no) (nI (200 + b)))]) := by
  obtain ⟨e1, e2, e3⟩ := H
  refine ⟨?_, ?_, fun e39 e54 e55 e10 e13 i => ?_⟩
  · show us X [(39, nI (no + 1)), (54, nI W), (55, nI (200 + b))] = us Xa [(39, nI (no + 1)), (54, nI W), (55, nI (200 + b))]
    rw [← e1, us_33]
  · show us Y [(10, upd (Ya 10) (200 + b) (Xa 55)), (13, upd (Ya 13) (200 + no) (nI (200 + b)))] = us Ya [(10, upd (Ya 10) (200 + b) (Xa 55)), (13, upd (Ya 13) (200 + no) (nI (200 + b)))]
    conv => rhs; rw [← e2]
    rw [us_22]
    exact congrArg (fun z => us Y z) (by rw [e2])
  · have y52 : Y 52 = Ya 52 := congrFun e2 52
    have y53 : Y 53 = Ya 53 := congrFun e2 53
    have y8 : Y 8 = Ya 8 := congrFun e2 8
    rw [show i + (kk + 1) = (i + 1) + kk by omega, e3, f_M_close_0, h54, nI_pred, if_neg (nI_g (show W < 500 by omega) (by decide)), nI_cl (by omega), y52, h52, if_pos (show nI 3 = (3 : Int32) from rfl), y53, h53, if_neg (nI_g (show 200 + b < 400 by omega) (by decide)), nI_cl (by omega), y8, h8, if_neg (show ¬ nI j < nI K from nI_nlt hK (by omega))]
    unfold f_M_ended
    rw [h39, show (200 : Int32) = nI 200 from rfl, nI_add, if_neg (nI_g (show 200 + no < 400 by omega) (by decide)), Option.bind_some, nI_cl (by omega), nI_m]
    rfl
/-- what closing finds on top where it stops -/
def TopK (K W nd : Nat) (Y : Nat → Nat → Int32) : Prop := Y 52 (W - 1) = nI 0 ∨ Y 52 (W - 1) = nI 1 ∨ (K = 6 ∧ Y 52 (W - 1) = nI 3 ∧ ∃ b, b < nd ∧ Y 53 (W - 1) = nI (200 + b) ∧ Y 8 (200 + b) = nI 7)
theorem CT.stop {N kk W K nd : Nat} {X Xa : Nat → Int32} {Y Ya : Nat → Nat → Int32} (hN : 100000 ≤ N) (H : CT N (nI K) kk X Y Xa Ya) (hk : kk ≤ 2) (h54 : Xa 54 = nI W) (hW1 : 1 ≤ W) (hW : W ≤ 500) (hnd : nd ≤ 200) (hT : TopK K W nd Ya) : f_M_close N (nI K) (X 39) (X 54) (X 55) (Y 8) (Y 10) (Y 13) (Y 52) (Y 53) = some (Xa 39, Xa 54, Xa 55, Ya 10, Ya 13) := by
  obtain ⟨e1, e2, e3⟩ := H
  have y52 : Y 52 = Ya 52 := congrFun e2 52
  have y53 : Y 53 = Ya 53 := congrFun e2 53
  have y8 : Y 8 = Ya 8 := congrFun e2 8
  unfold f_M_close
  obtain ⟨M, rfl⟩ : ∃ M, N = (M + 1) + kk := ⟨N - 1 - kk, by omega⟩
  obtain ⟨w, rfl⟩ : ∃ w, W = w + 1 := ⟨W - 1, by omega⟩
  rw [e3, f_M_close_0, h54, nI_pred, if_neg (nI_g (show w < 500 by omega) (by decide)), nI_cl (by omega), y52]
  unfold TopK at hT
  rw [Nat.add_sub_cancel] at hT
  rcases hT with h | h | ⟨h1, h2, b, h3, h4, h5⟩
  · rw [h, if_neg (by decide)]
  · rw [h, if_neg (by decide)]
  · rw [h2, if_pos (show nI 3 = (3 : Int32) from rfl), y53, h4, if_neg (nI_g (show 200 + b < 400 by omega) (by decide)), nI_cl (by omega), y8, h5, h1, if_pos (by decide)]
/-- a joining word read by the model -/
theorem beh_step {N n nx fr nd W K kk : Nat} {tx : Nat → Int32} {jI X Xa : Nat → Int32} {jA Y Ya : Nat → Nat → Int32} {c4 : Int32} {w : Int64} (hN : 100000 ≤ N) (hK : K = 6 ∨ K = 7) (H : CT N (nI K) kk X Y Xa Ya) (hk : kk ≤ 2) (h54 : Xa 54 = nI W) (hW1 : 1 ≤ W) (hW : W < 500) (hnd : nd ≤ 200) (hT : TopK K W nd Ya) (h56 : Xa 56 = 0) (h46 : Xa 46 = 0) (k1 : Xa 1 = nI n) (k2 : Xa 2 = nI nx) (k4 : Xa 4 = nI fr) (k38 : Xa 38 = nI nd) (tR : RTape n tx (Ya 0)) (tW : Ya 7 = wordsM) (tT : Tok n tx nx fr c4 w (Xa 3) (Xa 5) (Xa 6)) (hw : w = lN (kww.getD (10 - K) 0)) : (nd = 200 → ∃ (X' : Nat → Int32) (Y' : Nat → Nat → Int32), (∀ i, f_M_readConcept_28 N jI jA (i + 2) 1 X Y = some (X' 55, X', Y')) ∧ X' 46 = nI 3 ∧ X' 47 = nI fr ∧ FrI tc Xa X' ∧ FrA ta Ya Y') ∧ (nd < 200 → ∀ (fr1 nx1 : Nat) (k3 k5 k6 : Int32), f_M_next N (nI n) (nI nx) (Xa 3) (nI fr) (Xa 5) (Xa 6) (Ya 0) = some (nI nx1, k3, nI fr1, k5, k6) → ∀ i, f_M_readConcept_28 N jI jA (i + 1) 1 X Y = f_M_readConcept_28 N jI jA i 1 (us Xa [(2, nI nx1), (3, k3), (4, nI fr1), (5, k5), (6, k6), (38, nI (nd + 1)), (46, 0), (47, Xa 47), (54, nI (W + 1)), (56, 1)]) (us Ya [(8, upd (Ya 8) (200 + nd) (nI K)), (9, upd (upd (Ya 9) (200 + nd) (-1)) (200 + nd) (Xa 55)), (10, upd (Ya 10) (200 + nd) (-1)), (11, upd (Ya 11) (200 + nd) (-1)), (12, upd (Ya 12) (200 + nd) (nI fr)), (52, upd (Ya 52) W (nI 3)), (53, upd (Ya 53) W (nI (200 + nd)))])) := by
  have CS := H.stop hN hk h54 hW1 (by omega) hnd hT
  obtain ⟨e1, e2, -⟩ := H
  have x56 : X 56 = 0 := (congrFun e1 56).trans h56
  have x46 : X 46 = 0 := (congrFun e1 46).trans h46
  have x3 : X 3 = Xa 3 := congrFun e1 3
  have x4 : X 4 = nI fr := (congrFun e1 4).trans k4
  have x5 : X 5 = Xa 5 := congrFun e1 5
  have y0 : Y 0 = Ya 0 := congrFun e2 0
  have y7 : Y 7 = wordsM := (congrFun e2 7).trans tW
  obtain ⟨q, q1, q2⟩ := kept_eq hN tR tT
  have hq : q = nI (10 - K) := by
    rcases q2 with ⟨a, b⟩ | ⟨i, i1, i2, i3⟩
    · rw [hw] at b; exact tf (kwB_of (by omega)) b
    · rw [i2]
      have : ∀ i, i < 10 → ∀ j, j < 10 → lN (kww.getD i 0) = lN (kww.getD j 0) → i = j := by decide +kernel
      rw [this i i1 (10 - K) (by omega) (i3.symm.trans hw)]
  have RB : ∀ i, f_M_readConcept_28 N jI jA (i + 1) 1 X Y = (f_M_readBehind_44 N X Y (nI K) Xa Ya).bind (fun q => f_M_readConcept_28 N jI jA i q.1 q.2.1 q.2.2) := by
    intro i
    rw [run_behind x46 x56]
    unfold f_M_readBehind
    rw [x3, x4, x5, y0, y7, q1, Option.bind_some, hq]
    rcases hK with e | e
    · rw [e, if_pos (show nI (10 - 6) = (4 : Int32) from rfl)]
      unfold f_M_readBehind_15
      rw [if_pos (show nI (10 - 6) = (4 : Int32) from rfl)]
      unfold f_M_readBehind_28
      rw [e] at CS
      rw [show (6 : Int32) = nI 6 from rfl, CS, Option.bind_some, if_pos (show nI (10 - 6) = (4 : Int32) from rfl)]
      show (f_M_readBehind_44 N X Y (nI 6) (us X [(39, Xa 39), (54, Xa 54), (55, Xa 55)]) (us Y [(10, Ya 10), (13, Ya 13)])).bind _ = _
      rw [e1, e2]
    · rw [e, if_neg (show ¬ nI (10 - 7) = (4 : Int32) by decide), if_pos (show nI (10 - 7) = (3 : Int32) from rfl)]
      unfold f_M_readBehind_15
      rw [if_neg (show ¬ nI (10 - 7) = (4 : Int32) by decide)]
      unfold f_M_readBehind_28
      rw [e] at CS
      rw [show (7 : Int32) = nI 7 from rfl, CS, Option.bind_some, if_neg (show ¬ nI (10 - 7) = (4 : Int32) by decide)]
      show (f_M_readBehind_44 N X Y (nI 7) (us X [(39, Xa 39), (54, Xa 54), (55, Xa 55)]) (us Y [(10, Ya 10), (13, Ya 13)])).bind _ = _
      rw [e1, e2]
  constructor
  · intro h
    refine ⟨us Xa [(38, nI 200), (46, 3), (47, nI fr)], us Ya [(8, Ya 8), (9, Ya 9), (10, Ya 10), (11, Ya 11), (12, Ya 12)], fun i => ?_, rfl, rfl, fri_us rfl, fra_us rfl (low_cons (fun i hi => rfl) (low_cons (fun i hi => rfl) (low_cons (fun i hi => rfl) (low_cons (fun i hi => rfl) (low_cons (fun i hi => rfl) low_nil)))))⟩
    rw [show i + 2 = (i + 1) + 1 by omega, RB]
    unfold f_M_readBehind_44
    rw [k4, k38, h46, h, nn_full, Option.bind_some, show f_M_fine 3 = some 0 from rfl, Option.bind_some, if_pos rfl, Option.bind_some]
    exact run_bad (F := 3) rfl (by decide) (by decide)
  · intro h fr1 nx1 k3 k5 k6 hnext i
    rw [RB]
    unfold f_M_readBehind_44
    rw [k4, k38, h46, nn_new h, Option.bind_some, M_fine0, Option.bind_some, if_neg i1z, if_neg (nI_g (show 200 + nd < 400 by omega) (by decide))]
    unfold f_M_wait
    rw [h54, if_neg (nI_g (show W < 500 by omega) (by decide)), nI_cl (show W < 2147483648 by omega), nI_cl (show 200 + nd < 2147483648 by omega), nI_m, Option.bind_some, k1, k2, hnext, Option.bind_some, Option.bind_some]
    rfl
