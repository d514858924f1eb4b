/-! every concept is printed alike -/
theorem bs6 : ∀ K, K < 8 → ((nI K < (6 : Int32)) ↔ ¬ (rkn K < 3)) := by decide +kernel
theorem bs66 : ∀ K, K < 8 → ((nI K < nI 6) ↔ ¬ (rkn K < 2 + 1)) := by decide +kernel
theorem bs77 : ∀ K, K < 8 → ((nI K < nI 7) ↔ ¬ (rkn K < 1 + 1)) := by decide +kernel
theorem bs6l : ∀ K, K < 8 → ((nI K ≤ nI 6) ↔ ¬ (rkn K < 2)) := by decide +kernel
theorem bs7l : ∀ K, K < 8 → ((nI K ≤ nI 7) ↔ ¬ (rkn K < 1)) := by decide +kernel
theorem rk_hi : ∀ K, K < 8 → rkn K < 3 → 6 ≤ K := by decide +kernel
theorem P_part0 {q c : Nat} {a3 : Nat → Int32} (hq : q + 3 ≤ 500) : ∃ a3' : Nat → Int32, f_P_awaitPart (nI c) (0 : Int32) (nI q) a3 = some (nI (q + iln false), a3') ∧ itm false c a3' q ∧ ∀ j, j < q → a3' j = a3 j := P_part_eq (b := false) hq
theorem P_part1 {q c : Nat} {a3 : Nat → Int32} (hq : q + 3 ≤ 500) : ∃ a3' : Nat → Int32, f_P_awaitPart (nI c) (1 : Int32) (nI q) a3 = some (nI (q + iln true), a3') ∧ itm true c a3' q ∧ ∀ j, j < q → a3' j = a3 j := P_part_eq (b := true) hq
theorem c_un3 {N sz c x Kx : Nat} {i3 i5 : Int32} {l2 l4 : Nat → Int64} {c0 c1 c2 : Nat → Int32} (hN : 100000 ≤ N) (hz : sz ≤ 200) (hc : c < sz) (hx : x < sz) (e0 : c0 c = nI 3) (e1 : c1 c = nI x) (hKx : Kx < 8) (ex : c0 x = nI Kx) : ∀ (k q : Nat) (p a3 : Nat → Int32), k + ([110, 111, 116] ++ [32]).length ≤ 2670 → q + 3 ≤ 500 → ∃ a3' : Nat → Int32, f_P_printNode N (nI c) i3 i5 l2 l4 (nI sz) c0 c1 c2 (nI k) (nI q) p a3 = some (nI (k + ([110, 111, 116] ++ [32]).length), nI (q + iln (decide (rkn Kx < 3))), wr p k ([110, 111, 116] ++ [32]), a3') ∧ itm (decide (rkn Kx < 3)) x a3' q ∧ ∀ j, j < q → a3' j = a3 j := by
  intro k q p a3 hk hq
  unfold f_P_printNode
  rw [C_sortOf_eq hz hc, C_leftOf_eq hz hc, C_rightOf_eq hz hc]
  simp only [Option.bind_some]
  rw [e0, if_neg (by decide), if_neg (by decide), if_neg (by decide), if_pos (by decide), show (7237492 : Int64) = lN 7237492 from rfl, cB_of hN (cW_not hN) hk, Option.bind_some, e1, C_sortOf_eq hz hx, Option.bind_some, ex]
  by_cases h : rkn Kx < 3
  · rw [if_neg (fun z => (bs6 Kx hKx).mp z h), decide_eq_true h]
    unfold f_P_printNode_200
    obtain ⟨a3', a1, a2, a4⟩ := P_part1 (c := x) (a3 := a3) hq
    rw [a1, Option.bind_some]
    exact ⟨a3', rfl, a2, a4⟩
  · rw [if_pos ((bs6 Kx hKx).mpr h), decide_eq_false h]
    unfold f_P_printNode_200
    obtain ⟨a3', a1, a2, a4⟩ := P_part0 (c := x) (a3 := a3) hq
    rw [a1, Option.bind_some]
    exact ⟨a3', rfl, a2, a4⟩
theorem c_un221 {N sz x Kx r nr w : Nat} {i3 : Int32} {l2 l4 : Nat → Int64} {c0 c1 c2 : Nat → Int32} {lw lr : List Nat} {wr' : Nat} (hN : 100000 ≤ N) (hz : sz ≤ 200) (hnr : nr ≤ 3) (hx : x < sz) (hr : r < nr) (hKx : Kx < 8) (ex : c0 x = nI Kx) (hw : cW N w lw) (el : l4 r = lN wr') (hwr : cW N wr' lr) : ∀ (k q : Nat) (p a3 : Nat → Int32), k + ((lw ++ [32]) ++ (lr ++ [32])).length ≤ 2670 → q + 3 ≤ 500 → ∃ a3' : Nat → Int32, f_P_printNode_221 N i3 (nI nr) l2 l4 (nI sz) c0 c1 c2 (nI k) (nI q) p a3 (nI x) (nI r) (lN w) = some (nI (k + ((lw ++ [32]) ++ (lr ++ [32])).length), nI (q + iln (decide (rkn Kx < 3))), wr p k ((lw ++ [32]) ++ (lr ++ [32])), a3') ∧ itm (decide (rkn Kx < 3)) x a3' q ∧ ∀ j, j < q → a3' j = a3 j := by
  intro k q p a3 hk hq
  rw [List.length_append] at hk
  unfold f_P_printNode_221
  rw [cB_of hN hw (by omega), Option.bind_some, B_role_eq hnr hr, Option.bind_some, el]
  show ∃ a3', ((f_P_putBehind N (lN wr') (nI (k + (lw ++ [32]).length)) (wr p k (lw ++ [32]))).bind _) = _ ∧ _
  rw [cB_of hN hwr (by omega), Option.bind_some, C_sortOf_eq hz hx, Option.bind_some, ex]
  by_cases h : rkn Kx < 3
  · rw [if_neg (fun z => (bs6 Kx hKx).mp z h), decide_eq_true h]
    unfold f_P_printNode_256
    obtain ⟨a3', a1, a2, a4⟩ := P_part1 (c := x) (a3 := a3) hq
    rw [a1, Option.bind_some]
    refine ⟨a3', ?_, a2, a4⟩
    rw [wr_app (l := lw ++ [32]), List.length_append (as := lw ++ [32]), Nat.add_assoc]
  · rw [if_pos ((bs6 Kx hKx).mpr h), decide_eq_false h]
    unfold f_P_printNode_256
    obtain ⟨a3', a1, a2, a4⟩ := P_part0 (c := x) (a3 := a3) hq
    rw [a1, Option.bind_some]
    refine ⟨a3', ?_, a2, a4⟩
    rw [wr_app (l := lw ++ [32]), List.length_append (as := lw ++ [32]), Nat.add_assoc]
/-- both parts of an and, an or, put on the class's stack -/
theorem c_bin {N sz x y Kx : Nat} {i3 i5 k q v3 jc : Int32} {l2 l4 : Nat → Int64} {c0 c1 c2 p a3 : Nat → Int32} {bY bx : Bool} {qn : Nat} (hz : sz ≤ 200) (hx : x < sz) (ex : c0 x = nI Kx) (hq : q = nI qn) (hqn : qn + iln bY + 4 ≤ 500) (hv : (v3 = 6 ∧ jc = -3) ∨ (¬ v3 = 6 ∧ jc = -4)) (hb : (nI Kx ≤ v3) ↔ bx = false) : ∃ a3' : Nat → Int32, f_P_printNode_130 N i3 i5 l2 l4 (nI sz) c0 c1 c2 k q p a3 v3 (nI x) (nI y) (if bY = true then 1 else 0) = some (k, nI (qn + iln bY + 1 + iln bx), p, a3') ∧ itm bY y a3' qn ∧ a3' (qn + iln bY) = jc ∧ itm bx x a3' (qn + iln bY + 1) ∧ ∀ j, j < qn → a3' j = a3 j := by
  subst hq
  unfold f_P_printNode_130
  obtain ⟨a, a1, a2, a4⟩ := P_part_eq (c := y) (b := bY) (a3 := a3) (q := qn) (by omega)
  rw [a1, Option.bind_some]
  have h147 : ∃ a3' : Nat → Int32, f_P_printNode_147 N i3 i5 l2 l4 (nI sz) c0 c1 c2 k (nI qn) p a3 v3 (nI x) jc (nI (qn + iln bY)) a = some (k, nI (qn + iln bY + 1 + iln bx), p, a3') ∧ itm bY y a3' qn ∧ a3' (qn + iln bY) = jc ∧ itm bx x a3' (qn + iln bY + 1) ∧ ∀ j, j < qn → a3' j = a3 j := by
    unfold f_P_printNode_147
    rw [P_await_eq (by omega), Option.bind_some, C_sortOf_eq hz hx, Option.bind_some, ex]
    have fin : ∀ (b3 : Nat → Int32), (itm bx x b3 (qn + iln bY + 1) ∧ ∀ j, j < qn + iln bY + 1 → b3 j = upd a (qn + iln bY) jc j) → itm bY y b3 qn ∧ b3 (qn + iln bY) = jc ∧ itm bx x b3 (qn + iln bY + 1) ∧ ∀ j, j < qn → b3 j = a3 j := by
      intro b3 ⟨h1, h2⟩
      have il : 1 ≤ iln bY := by cases bY <;> decide
      refine ⟨itm_same a2 (fun j hj => by rw [h2 j (by omega), up_n (by omega)]), by rw [h2 _ (by omega), up_s], h1, fun j hj => by rw [h2 j (by omega), up_n (by omega)]; exact a4 j hj⟩
    cases bx with
    | false =>
      rw [if_pos (hb.mpr rfl)]
      unfold f_P_printNode_168
      obtain ⟨b3, b1, b2, b4⟩ := P_part0 (c := x) (a3 := upd a (qn + iln bY) jc) (q := qn + iln bY + 1) (by omega)
      rw [b1, Option.bind_some]
      exact ⟨b3, rfl, fin b3 ⟨b2, b4⟩⟩
    | true =>
      rw [if_neg (fun z => by have := hb.mp z; cases this)]
      unfold f_P_printNode_168
      obtain ⟨b3, b1, b2, b4⟩ := P_part1 (c := x) (a3 := upd a (qn + iln bY) jc) (q := qn + iln bY + 1) (by omega)
      rw [b1, Option.bind_some]
      exact ⟨b3, rfl, fin b3 ⟨b2, b4⟩⟩
  rcases hv with ⟨h, e⟩ | ⟨h, e⟩
  · rw [if_pos h]; rw [e] at h147 ⊢; exact h147
  · rw [if_neg h]; rw [e] at h147 ⊢; exact h147
theorem c_and {N sz c x y Kx Ky : Nat} {i3 i5 : Int32} {l2 l4 : Nat → Int64} {c0 c1 c2 : Nat → Int32} (hz : sz ≤ 200) (hc : c < sz) (hx : x < sz) (hy : y < sz) (e0 : c0 c = nI 6) (e1 : c1 c = nI x) (e2 : c2 c = nI y) (hKx : Kx < 8) (ex : c0 x = nI Kx) (hKy : Ky < 8) (ey : c0 y = nI Ky) : ∀ (k q : Nat) (p a3 : Nat → Int32), q + iln (decide (rkn Ky < 2 + 1)) + 4 ≤ 500 → ∃ a3' : Nat → Int32, f_P_printNode N (nI c) i3 i5 l2 l4 (nI sz) c0 c1 c2 (nI k) (nI q) p a3 = some (nI k, nI (q + iln (decide (rkn Ky < 2 + 1)) + 1 + iln (decide (rkn Kx < 2))), p, a3') ∧ itm (decide (rkn Ky < 2 + 1)) y a3' q ∧ a3' (q + iln (decide (rkn Ky < 2 + 1))) = -3 ∧ itm (decide (rkn Kx < 2)) x a3' (q + iln (decide (rkn Ky < 2 + 1)) + 1) ∧ ∀ j, j < q → a3' j = a3 j := by
  intro k q p a3 hq
  unfold f_P_printNode
  rw [C_sortOf_eq hz hc, C_leftOf_eq hz hc, C_rightOf_eq hz hc]
  simp only [Option.bind_some]
  rw [e0, if_neg (by decide), if_neg (by decide), if_neg (by decide), if_neg (by decide), if_neg (by decide), if_neg (by decide), if_pos (by decide), e1, e2, C_sortOf_eq hz hy, Option.bind_some, ey]
  have hb : (nI Kx ≤ nI 6) ↔ decide (rkn Kx < 2) = false := by rw [bs6l Kx hKx, decide_eq_false_iff_not]
  have fin := c_bin (N := N) (i3 := i3) (i5 := i5) (k := nI k) (q := nI q) (v3 := nI 6) (jc := -3) (l2 := l2) (l4 := l4) (c1 := c1) (c2 := c2) (p := p) (a3 := a3) (y := y) hz hx ex rfl hq (Or.inl ⟨rfl, rfl⟩) hb
  by_cases h : rkn Ky < 2 + 1
  · rw [if_neg (fun z => (bs66 Ky hKy).mp z h)]
    rw [decide_eq_true h] at fin ⊢
    exact fin
  · rw [if_pos ((bs66 Ky hKy).mpr h)]
    rw [decide_eq_false h] at fin ⊢
    exact fin
theorem c_or {N sz c x y Kx Ky : Nat} {i3 i5 : Int32} {l2 l4 : Nat → Int64} {c0 c1 c2 : Nat → Int32} (hz : sz ≤ 200) (hc : c < sz) (hx : x < sz) (hy : y < sz) (e0 : c0 c = nI 7) (e1 : c1 c = nI x) (e2 : c2 c = nI y) (hKx : Kx < 8) (ex : c0 x = nI Kx) (hKy : Ky < 8) (ey : c0 y = nI Ky) : ∀ (k q : Nat) (p a3 : Nat → Int32), q + iln (decide (rkn Ky < 1 + 1)) + 4 ≤ 500 → ∃ a3' : Nat → Int32, f_P_printNode N (nI c) i3 i5 l2 l4 (nI sz) c0 c1 c2 (nI k) (nI q) p a3 = some (nI k, nI (q + iln (decide (rkn Ky < 1 + 1)) + 1 + iln (decide (rkn Kx < 1))), p, a3') ∧ itm (decide (rkn Ky < 1 + 1)) y a3' q ∧ a3' (q + iln (decide (rkn Ky < 1 + 1))) = -4 ∧ itm (decide (rkn Kx < 1)) x a3' (q + iln (decide (rkn Ky < 1 + 1)) + 1) ∧ ∀ j, j < q → a3' j = a3 j := by
  intro k q p a3 hq
  unfold f_P_printNode
  rw [C_sortOf_eq hz hc, C_leftOf_eq hz hc, C_rightOf_eq hz hc]
  simp only [Option.bind_some]
  rw [e0, if_neg (by decide), if_neg (by decide), if_neg (by decide), if_neg (by decide), if_neg (by decide), if_neg (by decide), if_neg (by decide), if_pos (by decide), e1, e2, C_sortOf_eq hz hy, Option.bind_some, ey]
  have hb : (nI Kx ≤ nI 7) ↔ decide (rkn Kx < 1) = false := by rw [bs7l Kx hKx, decide_eq_false_iff_not]
  have fin := c_bin (N := N) (i3 := i3) (i5 := i5) (k := nI k) (q := nI q) (v3 := nI 7) (jc := -4) (l2 := l2) (l4 := l4) (c1 := c1) (c2 := c2) (p := p) (a3 := a3) (y := y) hz hx ex rfl hq (Or.inr ⟨by decide, rfl⟩) hb
  by_cases h : rkn Ky < 1 + 1
  · rw [if_neg (fun z => (bs77 Ky hKy).mp z h)]
    rw [decide_eq_true h] at fin ⊢
    exact fin
  · rw [if_pos ((bs77 Ky hKy).mpr h)]
    rw [decide_eq_false h] at fin ⊢
    exact fin
