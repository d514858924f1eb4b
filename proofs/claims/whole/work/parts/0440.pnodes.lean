/-! the class prints a node, its parts given -/
theorem un_fin {N sz c x Wx : Nat} {i3 i5 : Int32} {l2 l4 : Nat → Int64} {c0 c1 c2 : Nat → Int32} {b : Bool} {l T : List Nat} (hc : c < 200) (hkd : ¬ 6 ≤ kd c0 c) (hWx : 1 ≤ Wx) (hp : ∀ (k q : Nat) (p a3 : Nat → Int32), k + T.length ≤ 2670 → q + 3 ≤ 500 → ∃ a3' : Nat → Int32, f_P_printNode N (nI c) i3 i5 l2 l4 (nI sz) c0 c1 c2 (nI k) (nI q) p a3 = some (nI (k + T.length), nI (q + iln b), wr p k T, a3') ∧ itm b x a3' q ∧ ∀ j, j < q → a3' j = a3 j) (h : PrP N i3 i5 l2 l4 sz c0 c1 c2 x Wx b l) : PrC N i3 i5 l2 l4 sz c0 c1 c2 c (1 + Wx) (T ++ brk b l) := by
  obtain ⟨st, s1, s2⟩ := h
  refine ⟨1 + st, by rw [if_neg hkd]; omega, fun o1 o4 p0 p3 i s k q p a3 hi hq hs hk => ?_⟩
  rw [List.length_append] at hk
  obtain ⟨a3', e1, e2, e3⟩ := hp k q p a3 (by omega) (by omega)
  obtain ⟨a3'', g1, g2⟩ := s2 o1 o4 p0 p3 i (s + 1) (k + T.length) q (wr p k T) a3' e2 (by cases b; simp; omega; simp; omega) (by omega) (by omega)
  refine ⟨a3'', ?_, fun j hj => (g2 j hj).trans (e3 j hj)⟩
  rw [show i + (1 + st) = (i + st) + 1 by omega, pc_node (by omega) (by omega) hc hi, e1, Option.bind_some]
  show f_P_printConcept_12 N i3 i5 l2 l4 (nI sz) c0 c1 c2 o1 o4 p0 p3 (i + st) (nI (s + 1)) (nI (k + T.length)) (nI (q + iln b)) (wr p k T) a3' = _
  rw [g1, List.length_append, wr_app, show s + 1 + st = s + (1 + st) by omega, Nat.add_assoc]
theorem lf_fin {N sz c : Nat} {i3 i5 : Int32} {l2 l4 : Nat → Int64} {c0 c1 c2 : Nat → Int32} {T : List Nat} (hc : c < 200) (hkd : ¬ 6 ≤ kd c0 c) (hp : ∀ (k q : Nat) (p a3 : Nat → Int32), k + T.length ≤ 2670 → f_P_printNode N (nI c) i3 i5 l2 l4 (nI sz) c0 c1 c2 (nI k) (nI q) p a3 = some (nI (k + T.length), nI q, wr p k T, a3)) : PrC N i3 i5 l2 l4 sz c0 c1 c2 c 1 T := by
  refine ⟨1, by rw [if_neg hkd]; omega, fun o1 o4 p0 p3 i s k q p a3 hi hq hs hk => ⟨a3, ?_, fun j hj => rfl⟩⟩
  rw [pc_node (by omega) (by omega) hc hi, hp k q p a3 hk, Option.bind_some]
theorem bin_fin {N sz c x y Wx Wy : Nat} {i3 i5 : Int32} {l2 l4 : Nat → Int64} {c0 c1 c2 : Nat → Int32} {bx bY : Bool} {lx ly J : List Nat} {jc : Int32} (hc : c < 200) (hWx : 1 ≤ Wx) (hWy : 1 ≤ Wy) (hbx : bx = true → 3 ≤ Wx) (hby : bY = true → 3 ≤ Wy) (hJ : ∀ (o1 o4 : Int32) (p0 p3 : Nat → Int32) (i s k q : Nat) (p a3 : Nat → Int32), q < 500 → s < 800 → k + J.length ≤ 2670 → a3 q = jc → f_P_printConcept_12 N i3 i5 l2 l4 (nI sz) c0 c1 c2 o1 o4 p0 p3 (i + 1) (nI s) (nI k) (nI (q + 1)) p a3 = f_P_printConcept_12 N i3 i5 l2 l4 (nI sz) c0 c1 c2 o1 o4 p0 p3 i (nI (s + 1)) (nI (k + J.length)) (nI q) (wr p k J) a3) (hp : ∀ (k q : Nat) (p a3 : Nat → Int32), q + iln bY + 4 ≤ 500 → ∃ a3' : Nat → Int32, f_P_printNode N (nI c) i3 i5 l2 l4 (nI sz) c0 c1 c2 (nI k) (nI q) p a3 = some (nI k, nI (q + iln bY + 1 + iln bx), p, a3') ∧ itm bY y a3' q ∧ a3' (q + iln bY) = jc ∧ itm bx x a3' (q + iln bY + 1) ∧ ∀ j, j < q → a3' j = a3 j) (hx : PrP N i3 i5 l2 l4 sz c0 c1 c2 x Wx bx lx) (hy : PrP N i3 i5 l2 l4 sz c0 c1 c2 y Wy bY ly) : PrC N i3 i5 l2 l4 sz c0 c1 c2 c (1 + Wx + Wy) (brk bx lx ++ (J ++ brk bY ly)) := by
  obtain ⟨sx, x1, x2⟩ := hx
  obtain ⟨sy, y1, y2⟩ := hy
  have il : iln bY ≤ 3 ∧ (iln bY ≤ 2 * Wy) := by
    cases bY
    · exact ⟨by decide, by show 1 ≤ 2 * Wy; omega⟩
    · have := hby rfl
      exact ⟨by decide, by show 3 ≤ 2 * Wy; omega⟩
  have il2 : bY = true ∧ 3 ≤ Wy ∨ iln bY = 1 := by
    cases bY
    · exact Or.inr rfl
    · exact Or.inl ⟨rfl, hby rfl⟩
  refine ⟨1 + sx + 1 + sy, by split <;> omega, fun o1 o4 p0 p3 i s k q p a3 hi hq hs hk => ?_⟩
  rw [List.length_append, List.length_append] at hk
  obtain ⟨a3', e1, e2, e3, e4, e5⟩ := hp k q p a3 (by omega)
  obtain ⟨b3, g1, g2⟩ := x2 o1 o4 p0 p3 (i + sy + 1) (s + 1) k (q + iln bY + 1) p a3' e4 (by cases bx; simp; omega; simp; omega) (by omega) (by omega)
  obtain ⟨d3, h1, h2⟩ := y2 o1 o4 p0 p3 i (s + 1 + sx + 1) (k + (brk bx lx).length + J.length) q (wr (wr p k (brk bx lx)) (k + (brk bx lx).length) J) b3 (itm_same e2 (fun j hj => g2 j (by omega))) (by cases bY; simp; omega; simp; omega) (by omega) (by omega)
  refine ⟨d3, ?_, fun j hj => ((h2 j hj).trans (g2 j (by omega))).trans (e5 j hj)⟩
  rw [show i + (1 + sx + 1 + sy) = (i + sy + 1 + sx) + 1 by omega, pc_node (by omega) (by omega) hc hi, e1, Option.bind_some]
  show f_P_printConcept_12 N i3 i5 l2 l4 (nI sz) c0 c1 c2 o1 o4 p0 p3 (i + sy + 1 + sx) (nI (s + 1)) (nI k) (nI (q + iln bY + 1 + iln bx)) p a3' = _
  rw [g1, hJ o1 o4 p0 p3 (i + sy) (s + 1 + sx) (k + (brk bx lx).length) (q + iln bY) _ b3 (by omega) (by omega) (by omega) (by rw [g2 _ (by omega)]; exact e3), h1]
  rw [List.length_append, List.length_append, wr_app, wr_app, show s + 1 + sx + 1 + sy = s + (1 + sx + 1 + sy) by omega, show k + (brk bx lx).length + J.length + (brk bY ly).length = k + ((brk bx lx).length + (J.length + (brk bY ly).length)) by omega]
theorem kd_of {c0 : Nat → Int32} {c K : Nat} (hK : K < 8) (h : c0 c = nI K) : kd c0 c = K := by
  unfold kd
  rw [h, nI_cl (by omega)]
theorem B_name_eq {nn a : Nat} {l2 : Nat → Int64} (hnn : nn ≤ 5) (ha : a < nn) : f_B_nameWord (nI a) (nI nn) l2 = some (l2 a) := by
  unfold f_B_nameWord
  rw [if_neg (nI_pos (by omega)), if_neg (nI_ge ha (by omega)), if_neg (nI_g (show a < 5 by omega) (by decide)), nI_cl (by omega)]
theorem B_role_eq {nr a : Nat} {l4 : Nat → Int64} (hnr : nr ≤ 3) (ha : a < nr) : f_B_roleWord (nI a) (nI nr) l4 = some (l4 a) := by
  unfold f_B_roleWord
  rw [if_neg (nI_pos (by omega)), if_neg (nI_ge ha (by omega)), if_neg (nI_g (show a < 3 by omega) (by decide)), nI_cl (by omega)]
/-- a word of a row of names or roles, written -/
theorem cW_row {N hK hL nn a : Nat} {lw : Nat → Int64} {m23 m24 : Nat → Int32} (hN : 100000 ≤ N) (H : NmW hK hL nn lw m23 m24) (ha : a < nn) : ∃ w : Nat, lw a = lN w ∧ cW N w (lsb m23 (hL + 8 * a) (m24 (hK + a)).toNatClampNeg) ∧ (lsb m23 (hL + 8 * a) (m24 (hK + a)).toNatClampNeg).length = (m24 (hK + a)).toNatClampNeg ∧ okB (lsb m23 (hL + 8 * a) (m24 (hK + a)).toNatClampNeg) := by
  obtain ⟨n, n1, n8, e1, e2, e3⟩ := H a ha
  rw [e1, nI_cl (by omega)]
  refine ⟨_, e3, fun k p hk => ?_, lsb_len _ _ _, lsb_ok e2⟩
  rw [lsb_len] at hk ⊢
  exact pw_row hN e2 n8 hk
theorem ct_all {N sz nn nr na : Nat} {l2 l4 : Nat → Int64} {c0 c1 c2 c3 m23 m24 m26 m27 : Nat → Int32} {wt pl : Nat → Nat} (hN : 100000 ≤ N) (hz : sz ≤ 200) (hnn : nn ≤ 5) (hnr : nr ≤ 3) (HC : CNd sz nn nr na c0 c1 c2 c3) (HT : ∀ c, c < sz → TrE c0 c1 c2 wt pl (fun a => (m24 a).toNatClampNeg) (fun a => (m27 a).toNatClampNeg) c) (Hn : NmW 0 0 nn l2 m23 m24) (Hr : NmW 0 0 nr l4 m26 m27) : ∀ c, c < sz → 1 ≤ wt c ∧ (6 ≤ kd c0 c → 3 ≤ wt c) := by
  intro c
  induction c using Nat.strongRecOn with
  | ind c ih =>
    intro hc
    obtain ⟨K, hK, e0, -, h1, h2, -, -, -, -⟩ := HC c hc
    have hk := kd_of hK e0
    have T := HT c hc
    unfold TrE at T
    rw [hk] at T ⊢
    have cases8 : K = 0 ∨ K = 1 ∨ K = 2 ∨ K = 3 ∨ K = 4 ∨ K = 5 ∨ K = 6 ∨ K = 7 := by omega
    rcases cases8 with e | e | e | e | e | e | e | e
    · have := T.1 e; omega
    · have := T.2.1 e; omega
    · have := T.2.2.1 e; omega
    · have := T.2.2.2.1 e; omega
    · have := T.2.2.2.2.1 e; omega
    · have := T.2.2.2.2.2.1 e; omega
    · have t := T.2.2.2.2.2.2.1 e
      obtain ⟨l, hl, el⟩ := h1 (by omega)
      obtain ⟨r, hr, er⟩ := h2 (by omega)
      have il := ih l hl (by omega)
      have ir := ih r hr (by omega)
      rw [el, er, nI_cl (by omega), nI_cl (by omega)] at t
      omega
    · have t := T.2.2.2.2.2.2.2 e
      obtain ⟨l, hl, el⟩ := h1 (by omega)
      obtain ⟨r, hr, er⟩ := h2 (by omega)
      have il := ih l hl (by omega)
      have ir := ih r hr (by omega)
      rw [el, er, nI_cl (by omega), nI_cl (by omega)] at t
      omega
