/-! a NAME, of both -/
theorem bind_eta8 {α1 α2 α3 α4 α5 α6 α7 α8 : Type} {o : Option (α1 × α2 × α3 × α4 × α5 × α6 × α7 × α8)} : o.bind (fun q => some (q.1, q.2.1, q.2.2.1, q.2.2.2.1, q.2.2.2.2.1, q.2.2.2.2.2.1, q.2.2.2.2.2.2.1, q.2.2.2.2.2.2.2)) = o := by
  cases o <;> rfl
/-- the model copies a name's bytes -/
theorem nc_loop {N fr sz n r : Nat} {tx t0 m9 m11 m12 m23o m24 m26 m27 m32 m33 m34 m35 : Nat → Int32} {o43 o44 o45 o46 o47 v1 : Int32} (H : RTape n tx t0) (hs : sz ≤ 8) (hf : fr + sz ≤ n) (hr : r < 5) : ∀ (d i j : Nat) (m : Nat → Int32), j + d = sz → d < i → (∀ k, k < j → m (40 + 8 * r + k) = tx (fr + k)) → ∃ m' : Nat → Int32, f_M_readName_59 N (nI fr) (nI sz) o43 o44 o45 o46 o47 t0 m9 m11 m12 m23o m24 m26 m27 m32 m33 m34 m35 v1 (nI r) i (nI j) m = f_M_readName_119 N (nI fr) (nI sz) o43 o44 o45 o46 o47 t0 m9 m11 m12 m23o m24 m26 m27 m32 m33 m34 m35 v1 (nI r) (o43 + 1) m' (upd m24 (5 + r) (nI sz)) ∧ (∀ k, k < sz → m' (40 + 8 * r + k) = tx (fr + k)) ∧ ∀ i, i < 40 + 8 * r → m' i = m i := by
  have hn := H.1
  have e3 : ((5 : Int32) + nI r) = nI (5 + r) := by rw [show (5 : Int32) = nI 5 from rfl, nI_add]
  have e8 : ((8 : Int32) * nI (5 + r)) = nI (40 + 8 * r) := by rw [show (8 : Int32) = nI 8 from rfl, pk_mul, show 8 * (5 + r) = 40 + 8 * r by omega]
  intro d
  induction d with
  | zero =>
    intro i j m hj hi h
    obtain ⟨i, rfl⟩ : ∃ k, i = k + 1 := ⟨i - 1, by omega⟩
    rw [f_M_readName_59, if_pos (nI_le (show sz ≤ j by omega) (by omega)), e3, if_neg (nI_g (show 5 + r < 10 by omega) (by decide)), nI_cl (by omega)]
    exact ⟨m, rfl, fun k hk => h k (by omega), fun _ _ => rfl⟩
  | succ d ih =>
    intro i j m hj hi h
    obtain ⟨i, rfl⟩ : ∃ k, i = k + 1 := ⟨i - 1, by omega⟩
    have hb := H.2 (fr + j) (by omega)
    rw [f_M_readName_59, if_neg (nI_ge (show j < sz by omega) (by omega)), nI_add, if_neg (nI_g (show fr + j < 2000 by omega) (by decide)), e3, e8, nI_add, if_neg (nI_g (show 40 + 8 * r + j < 80 by omega) (by decide)), nI_cl (by omega), nI_cl (by omega), ← hb.1, hb.2.1, nI_m]
    obtain ⟨m', a1, a2, a3⟩ := ih i (j + 1) (upd m (40 + 8 * r + j) (tx (fr + j))) (by omega) (by omega) (fun k hk => by
      by_cases e : k = j
      · rw [e, up_s]
      · rw [up_n (by omega)]; exact h k (by omega))
    exact ⟨m', a1, a2, fun i hi => (a3 i hi).trans (up_n (by omega))⟩
theorem nm_body {N no sz na nn nr nn' x a : Nat} {o φ wt pl nl rl : Nat → Nat} {c0 c1 c2 c3 c5 c6 c7 c8 t0 m9 m11 m12 o23 o24 m26 m27 x23 x24 m32 m33 m34 m35 : Nat → Int32} {o4 o5 o43 o44 i47 x43 : Int32} (hN : 100000 ≤ N) (hz : sz < 200) (hx : x < 200) (hna : na ≤ 9) (hnn : nn' ≤ 5) (hnr : nr ≤ 3) (HA : AtR 200 9 na no nn nr o φ c5 c6 c7 c8 m32 m33 m34 m35) (CS : ClS sz nn' nr na wt pl nl rl c0 c1 c2 c3 c5 c6 c7 c8) (ha : a < nn') (e11 : m11 (200 + x) = -1) : (∃ (na' ka : Nat) (d5 d6 d7 d8 l32 l33 l34 l35 : Nat → Int32) (q : Option (Int32 × Int32 × (Nat → Int32) × (Nat → Int32) × (Nat → Int32) × (Nat → Int32))) (c sz' : Nat) (wt' pl' : Nat → Nat) (d0 d1 d2 d3 : Nat → Int32), AtJ na (200 + x) na' ka (-1) (nI a) (-1) 0 (-1) i47 c5 c6 c7 c8 m11 m32 m33 m34 m35 d5 d6 d7 d8 l32 l33 l34 l35 q (some (nI na', 0, i47, upd m11 (200 + x) (nI ka), l32, l33, l34, l35)) ∧ MkO N 0 sz nn' nr na wt pl nl rl (nI a) (nI 0) c0 c1 c2 c3 c5 c6 c7 c8 na' d5 d6 d7 d8 c sz' wt' pl' d0 d1 d2 d3 ∧ d3 c = nI ka ∧ f_M_readName_119 N o4 o5 o43 o44 (nI na) 0 i47 t0 m9 m11 m12 o23 o24 m26 m27 m32 m33 m34 m35 (nI (200 + x)) (nI a) x43 x23 x24 = some (x43, nI na', 0, i47, upd m9 (200 + x) (nI a), upd m11 (200 + x) (nI ka), x23, x24, l32, l33, l34, l35)) ∨ (f_C_make N (nI 0) (nI a) (nI 0) (nI sz) (nI na) c0 c1 c2 c3 c5 c6 c7 c8 = some (-1, nI sz, nI na, c0, c1, c2, c3, c5, c6, c7, c8) ∧ f_M_readName_119 N o4 o5 o43 o44 (nI na) 0 i47 t0 m9 m11 m12 o23 o24 m26 m27 m32 m33 m34 m35 (nI (200 + x)) (nI a) x43 x23 x24 = some (x43, nI na, 5, m12 (200 + x), upd m9 (200 + x) (nI a), m11, x23, x24, m32, m33, m34, m35)) := by
  obtain ⟨q', F1, F2⟩ := nm_loop (N := N) (a := a) (x := x) (t0 := t0) (o9 := m9) (o11 := m11) (m12 := m12) (o23 := o23) (o24 := o24) (m26 := m26) (m27 := m27) (x9 := upd m9 (200 + x) (nI a)) (x23 := x23) (x24 := x24) (b11 := m11) (o4 := o4) (o5 := o5) (o43 := o43) (o44 := o44) (i47 := i47) (x43 := x43) hna hx (by omega) HA CS.2.2.1 na N 0 m11 (by omega) (by omega) (Or.inr ⟨fun k h => absurd h (by omega), rfl⟩) e11
  have hN119 : f_M_readName_119 N o4 o5 o43 o44 (nI na) 0 i47 t0 m9 m11 m12 o23 o24 m26 m27 m32 m33 m34 m35 (nI (200 + x)) (nI a) x43 x23 x24 = f_M_readName_128 N o4 o5 o43 o44 (nI na) 0 i47 t0 m9 m11 m12 o23 o24 m26 m27 m32 m33 m34 m35 (nI (200 + x)) (nI a) x43 (upd m9 (200 + x) (nI a)) x23 x24 N (nI 0) m11 := by
    unfold f_M_readName_119
    rw [if_neg (nI_g (show 200 + x < 400 by omega) (by decide)), nI_cl (by omega)]
    rfl
  rw [hN119, F1]
  have nm : ∀ k, k < na → c6 k = nI a → c5 k = -1 ∧ c7 k = -1 ∧ c8 k = 0 := fun k hk h => by
    rcases (HA k hk).2.2 with ⟨h5, -, h7, h8⟩ | ⟨r', hr', h5, h6, -⟩
    · exact ⟨h5, h7, h8⟩
    · rw [h6] at h; exact absurd h.symm (nI_neg1 (by omega))
  have G := mk_at (N := N) (K := 0) (x := 200 + x) (v1 := nI a) (v2 := nI 0) (r := -1) (nm := nI a) (p := -1) (t := 0) (nd := -1) hN hz hnn hnr hna CS (Or.inl rfl) (fun z => absurd z (by decide)) (fun _ => ⟨⟨a, ha, rfl⟩, rfl⟩) (fun z => absurd z (by decide)) (mk_name hz) (fun c hc q0 q1 q2 => by
    obtain ⟨y, b1, b2, b3, b4⟩ := (CS.2.2.2.1 c hc).1 q0
    obtain ⟨u5, u7, u8⟩ := nm y b1 (b4.trans q1)
    exact ⟨y, b1, b2, b3, b4.trans q1, u7, u8⟩) (fun d5 d6 d7 d8 na' ka z1 z5 z6 z7 z8 => ⟨fun _ => ⟨ka, z1, rfl, z5, z6⟩, fun z => absurd z (by decide)⟩) F2 (fun k hk => ⟨fun z => by obtain ⟨u5, u7, u8⟩ := nm k hk z; exact ⟨u5, z, u7, u8⟩, fun z => z.2.1⟩)
  rcases G with ⟨na', ka, d5, d6, d7, d8, l32, l33, l34, l35, q, c, sz', wt', pl', d0, d1, d2, d3, J, M, e3⟩ | ⟨g1, g2⟩
  · have j2 := J.2.1
    subst j2
    exact Or.inl ⟨na', ka, d5, d6, d7, d8, l32, l33, l34, l35, q, c, sz', wt', pl', d0, d1, d2, d3, J, M, e3, rfl⟩
  · subst g1
    exact Or.inr ⟨g2, rfl⟩
theorem tr_nm {sz nn nr na c a : Nat} {wt pl nl rl : Nat → Nat} {d0 d1 d2 d3 d5 d6 d7 d8 : Nat → Int32} (CS : ClS sz nn nr na wt pl nl rl d0 d1 d2 d3 d5 d6 d7 d8) (hc : c < sz) (ha : a < 5) (e0 : d0 c = nI 0) (e1 : d1 c = nI a) : wt c = 1 ∧ plx d0 pl 3 c = nl a := by
  have TE := CS.2.2.2.2 c hc
  have hkd : kd d0 c = 0 := kd_of (by decide) e0
  unfold TrE at TE
  rw [hkd, e1, nI_cl (show a < 2147483648 by omega)] at TE
  unfold plx
  rw [hkd]
  obtain ⟨u1, u2⟩ := TE.1 rfl
  rw [u2]; exact ⟨u1, rfl⟩
