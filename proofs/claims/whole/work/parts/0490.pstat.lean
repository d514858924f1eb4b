/-! print, of both -/
theorem st_left5 {so c1 c2 : Nat} (h0 : so < 5) (h1 : c1 < 200) (h2 : c2 < 200) : f_B_leftOf (nI (so + 256 * c1 + 65536 * c2)) = some (nI c1) ∧ f_B_rightOf (nI (so + 256 * c1 + 65536 * c2)) = some (nI c2) ∧ f_B_sortOf (nI (so + 256 * c1 + 65536 * c2)) = some (nI so) := by
  unfold f_B_leftOf f_B_rightOf f_B_sortOf
  rw [pk_shrN (k := 8) (by omega) _ (by decide), pk_shrN (k := 16) (by omega) _ (by decide), pk_andN (show (so + 256 * c1 + 65536 * c2) / 2 ^ 8 < 2 ^ 32 by omega) 8 (by decide), pk_andN (show (so + 256 * c1 + 65536 * c2) / 2 ^ 16 < 2 ^ 32 by omega) 8 (by decide), pk_andN (show (so + 256 * c1 + 65536 * c2) < 2 ^ 32 by omega) 8 (by decide)]
  rw [show (so + 256 * c1 + 65536 * c2) / 2 ^ 8 % 2 ^ 8 = c1 by omega, show (so + 256 * c1 + 65536 * c2) / 2 ^ 16 % 2 ^ 8 = c2 by omega, show (so + 256 * c1 + 65536 * c2) % 2 ^ 8 = so by omega]
  exact ⟨rfl, rfl, rfl⟩
/-- statements of both; tl: where the text of each begins -/
def StS (h hS ns no nr : Nat) (o φ wt pl rl tl : Nat → Nat) (cs s15 s16 s17 : Nat → Int32) : Prop := ∀ s, s < ns → (∃ so j1 j2 : Nat, so < 2 ∧ j1 < no ∧ j2 < no ∧ cs s = nI (so + 256 * φ (o j1) + 65536 * φ (o j2)) ∧ s15 (hS + s) = nI so ∧ s16 (hS + s) = nI (h + o j1) ∧ s17 (hS + s) = nI (h + o j2) ∧ wt (φ (o j1)) ≤ 200 ∧ wt (φ (o j2)) ≤ 200 ∧ tl (s + 1) = tl s + (pl (φ (o j1)) + 3 + pl (φ (o j2)) + 2)) ∨ (∃ j1 : Nat, j1 < no ∧ cs s = nI (2 + 256 * φ (o j1) + 65536 * 0) ∧ s15 (hS + s) = nI 2 ∧ s16 (hS + s) = nI (h + o j1) ∧ wt (φ (o j1)) ≤ 200 ∧ tl (s + 1) = tl s + (4 + pl (φ (o j1)) + 2)) ∨ (∃ r r' : Nat, r < nr ∧ r' < nr ∧ cs s = nI (3 + 256 * r + 65536 * r') ∧ s15 (hS + s) = nI 3 ∧ s16 (hS + s) = nI r ∧ s17 (hS + s) = nI r' ∧ tl (s + 1) = tl s + (6 + rl r + 1 + rl r' + 2)) ∨ (∃ r : Nat, r < nr ∧ cs s = nI (4 + 256 * r + 65536 * 0) ∧ s15 (hS + s) = nI 4 ∧ s16 (hS + s) = nI r ∧ tl (s + 1) = tl s + (7 + rl r + 2))
theorem pcc_eq {N sz c W : Nat} {i3 i5 : Int32} {l2 l4 : Nat → Int64} {c0 c1 c2 : Nat → Int32} {l : List Nat} (hN : 100000 ≤ N) (hW : W ≤ 200) (h : PrC N i3 i5 l2 l4 sz c0 c1 c2 c W l) : ∀ (k : Nat) (i4 : Int32) (p a3 : Nat → Int32), k + l.length ≤ 2670 → ∃ (i4' : Int32) (a3' : Nat → Int32), f_P_printConcept N (nI c) i3 i5 l2 l4 (nI sz) c0 c1 c2 (nI k) i4 p a3 = some (nI (k + l.length), i4', wr p k l, a3') := by
  intro k i4 p a3 hk
  obtain ⟨st, s1, s2⟩ := h
  unfold f_P_printConcept
  rw [show (0 : Int32) = nI 0 from rfl, P_await_eq (by decide), Option.bind_some]
  have s4 : st ≤ 4 * W := by omega
  obtain ⟨a3', e1, -⟩ := s2 (nI k) i4 p a3 (N - st) 0 k 0 p (upd a3 0 (nI c)) up_s (by omega) (by omega) hk
  rw [show N - st + st = N by omega] at e1
  show ∃ i4' a3', f_P_printConcept_12 N i3 i5 l2 l4 (nI sz) c0 c1 c2 (nI k) i4 p a3 N (nI 0) (nI k) (nI (0 + 1)) p (upd a3 0 (nI c)) = _
  rw [e1]
  obtain ⟨M, hM⟩ : ∃ M, N - st = M + 1 := ⟨N - st - 1, by omega⟩
  rw [hM, f_P_printConcept_12]
  by_cases q : (800 : Int32) ≤ nI (0 + st)
  · rw [if_pos q]; exact ⟨_, _, rfl⟩
  · rw [if_neg q, if_pos (show nI 0 ≤ (0 : Int32) by decide)]; exact ⟨_, _, rfl⟩
theorem pcm_eq {N m K W : Nat} {m8 m9 m10 m23 m24 m26 m27 : Nat → Int32} {l : List Nat} (hN : 100000 ≤ N) (hW : W ≤ 200) (h : PrM N m8 m9 m10 m23 m24 m26 m27 m K W l) : ∀ (k : Nat) (i77 : Int32) (ou a74 a75 a76 : Nat → Int32), k + l.length ≤ 2670 → ∃ (i77' : Int32) (b74 b75 b76 : Nat → Int32), f_M_putConcept N (nI m) (nI k) i77 wordsM m8 m9 m10 m23 m24 m26 m27 ou a74 a75 a76 = some (nI (k + l.length), i77', wr ou k l, b74, b75, b76) := by
  intro k i77 ou a74 a75 a76 hk
  obtain ⟨st, s1, s2⟩ := h 1 (by decide) (by decide)
  have hr := (rkn_le K).1
  have hb : decide (rkn K < 1) = false := decide_eq_false (by omega)
  rw [hb] at s2
  have eb : brk false l = l := rfl
  rw [eb] at s2
  unfold f_M_putConcept
  rw [show f_M_later (0 : Int32) (nI m) (1 : Int32) (0 : Int32) a74 a75 a76 = some (nI (0 + 1), upd a74 0 0, upd a75 0 (nI m), upd a76 0 (nI 1)) from M_later_eq (q := 0) (by decide), Option.bind_some]
  obtain ⟨b74, b75, b76, e1, -⟩ := s2 (nI k) i77 ou a74 a75 a76 (N - st) k 0 ou (upd a74 0 0) (upd a75 0 (nI m)) (upd a76 0 (nI 1)) up_s up_s up_s (by omega) hk
  rw [show N - st + st = N by omega] at e1
  show ∃ i77' b74 b75 b76, f_M_putConcept_12 N (nI k) i77 wordsM m8 m9 m10 m23 m24 m26 m27 ou a74 a75 a76 N (nI k) (nI (0 + 1)) ou (upd a74 0 0) (upd a75 0 (nI m)) (upd a76 0 (nI 1)) = _
  rw [e1]
  obtain ⟨M, hM⟩ : ∃ M, N - st = M + 1 := ⟨N - st - 1, by omega⟩
  rw [hM, f_M_putConcept_12, if_pos (show nI 0 ≤ (0 : Int32) by decide)]
  exact ⟨_, _, _, _, rfl⟩
/-- the class prints a statement, the model one with its end -/
def CsP (N nn nr sz : Nat) (l2 l4 : Nat → Int64) (c0 c1 c2 : Nat → Int32) (v : Int32) (L : List Nat) : Prop := ∀ (k : Nat) (i4 : Int32) (p a3 : Nat → Int32), k + L.length ≤ 2670 → ∃ (i4' : Int32) (a3' : Nat → Int32), f_P_printStatement N v (nI nn) (nI nr) l2 l4 (nI sz) c0 c1 c2 (nI k) i4 p a3 = some (nI (k + L.length), i4', wr p k L, a3')
def MsP (N : Nat) (i18 i37 : Int32) (m8 m9 m10 s15 s16 s17 m23 m24 m26 m27 : Nat → Int32) (s : Nat) (L : List Nat) : Prop := ∀ (o73 o77 : Int32) (p72 p74 p75 p76 : Nat → Int32) (i k : Nat) (i77 : Int32) (ou a74 a75 a76 : Nat → Int32), i18 = nI i18.toNatClampNeg → s < i18.toNatClampNeg → i18.toNatClampNeg ≤ 250 → k + (L ++ [59, 10]).length ≤ 2670 → ∃ (i77' : Int32) (b74 b75 b76 : Nat → Int32), f_M_print_17 N i18 i37 o73 o77 wordsM m8 m9 m10 s15 s16 s17 m23 m24 m26 m27 p72 p74 p75 p76 (i + 1) (nI s) (nI k) i77 ou a74 a75 a76 = f_M_print_17 N i18 i37 o73 o77 wordsM m8 m9 m10 s15 s16 s17 m23 m24 m26 m27 p72 p74 p75 p76 i (nI (s + 1)) (nI (k + (L ++ [59, 10]).length)) i77' (wr ou k (L ++ [59, 10])) b74 b75 b76
theorem m_167 {k s : Nat} {kk : Int32 → Int32 → Int32 → (Nat → Int32) → (Nat → Int32) → (Nat → Int32) → (Nat → Int32) → Option (Int32 × Int32 × Int32 × (Nat → Int32) × (Nat → Int32) × (Nat → Int32) × (Nat → Int32))} {N : Nat} {i18 i37 o73 o77 i77 : Int32} {m8 m9 m10 s15 s16 s17 m23 m24 m26 m27 p72 p74 p75 p76 ou a74 a75 a76 : Nat → Int32} (hk : k + 2 ≤ 2670) : f_M_print_167 N i18 i37 o73 o77 wordsM m8 m9 m10 s15 s16 s17 m23 m24 m26 m27 p72 p74 p75 p76 kk (nI s) (nI k) i77 ou a74 a75 a76 = kk (nI (s + 1)) (nI (k + 2)) i77 (wr ou k [59, 10]) a74 a75 a76 := by
  unfold f_M_print_167
  rw [show (59 : Int32) = nI 59 from rfl, M_put_eq (by omega) (by decide), Option.bind_some]
  show ((f_M_put (10 : Int32) (nI (k + 1)) (upd ou k (nI 59))).bind _) = _
  rw [show (10 : Int32) = nI 10 from rfl, M_put_eq (by omega) (by decide), Option.bind_some, nI_m]
  rfl
theorem m_put1 {k b : Nat} {ou : Nat → Int32} (hk : k < 16000) (hb : b < 128) : f_M_put (nI b) (nI k) ou = some (nI (k + 1), wr ou k [b]) := M_put_eq hk hb
theorem stm_rule {N nn nr sz so c c' W W' m m' K K' s : Nat} {l2 l4 : Nat → Int64} {i18 i37 : Int32} {c0 c1 c2 m8 m9 m10 s15 s16 s17 m23 m24 m26 m27 : Nat → Int32} {l l' : List Nat} (hN : 100000 ≤ N) (hc : c < 200) (hc' : c' < 200) (hso : so < 2) (hW : W ≤ 200) (hW' : W' ≤ 200) (hs : s < 250) (h : PrC N (nI nn) (nI nr) l2 l4 sz c0 c1 c2 c W l) (h' : PrC N (nI nn) (nI nr) l2 l4 sz c0 c1 c2 c' W' l') (g : PrM N m8 m9 m10 m23 m24 m26 m27 m K W l) (g' : PrM N m8 m9 m10 m23 m24 m26 m27 m' K' W' l') (e15 : s15 s = nI so) (e16 : s16 s = nI m) (e17 : s17 s = nI m') : CsP N nn nr sz l2 l4 c0 c1 c2 (nI (so + 256 * c + 65536 * c')) (l ++ ([32] ++ (([60 + so] ++ [32]) ++ l'))) ∧ MsP N i18 i37 m8 m9 m10 s15 s16 s17 m23 m24 m26 m27 s (l ++ ([32] ++ (([60 + so] ++ [32]) ++ l'))) := by
  have len : (l ++ ([32] ++ (([60 + so] ++ [32]) ++ l'))).length = l.length + (3 + l'.length) := by
    rw [List.length_append, List.length_append, List.length_append]
    show l.length + (1 + (2 + l'.length)) = _
    omega
  constructor
  · intro k i4 p a3 hk
    rw [len] at hk
    obtain ⟨f1, f2, f3⟩ := st_left5 (show so < 5 by omega) hc hc'
    unfold f_P_printStatement
    rw [f1, Option.bind_some, f2, Option.bind_some, f3, Option.bind_some]
    obtain ⟨i4', b3, e1⟩ := pcc_eq hN hW h k i4 p a3 (by omega)
    have e2 := cW_sign hN 32 (by decide) (by decide) (k + l.length) (wr p k l) (by show k + l.length + 1 ≤ 2670; omega)
    have h75 : ∃ (i4'' : Int32) (d3 : Nat → Int32), f_P_printStatement_75 N (nI nn) (nI nr) l2 l4 (nI sz) c0 c1 c2 (nI k) i4 p a3 (nI c') (lN (60 + so)) (nI (k + l.length + 1)) i4' (wr (wr p k l) (k + l.length) [32]) b3 = some (nI (k + (l.length + (3 + l'.length))), i4'', wr p k (l ++ ([32] ++ (([60 + so] ++ [32]) ++ l'))), d3) := by
      unfold f_P_printStatement_75
      rw [cB_of hN (cW_sign hN (60 + so) (by omega) (by omega)) (by show k + l.length + 1 + 2 ≤ 2670; omega), Option.bind_some]
      obtain ⟨i4'', d3, e3⟩ := pcc_eq hN hW' h' (k + l.length + 1 + 2) i4' (wr (wr (wr p k l) (k + l.length) [32]) (k + l.length + 1) ([60 + so] ++ [32])) b3 (by omega)
      show ∃ i4'' d3, ((f_P_printConcept N (nI c') (nI nn) (nI nr) l2 l4 (nI sz) c0 c1 c2 (nI (k + l.length + 1 + 2)) i4' (wr (wr (wr p k l) (k + l.length) [32]) (k + l.length + 1) ([60 + so] ++ [32])) b3).bind _) = _
      rw [e3, Option.bind_some]
      refine ⟨i4'', d3, ?_⟩
      rw [wr_app, wr_app, wr_app, show k + (l.length + (3 + l'.length)) = k + l.length + 1 + 2 + l'.length by omega]
      rfl
    rw [len]
    have c01 : so = 0 ∨ so = 1 := by omega
    rcases c01 with e | e
    · subst e
      rw [if_pos (show nI 0 = (0 : Int32) from rfl), e1, Option.bind_some]
      show ∃ i4'' d3, ((f_P_putWord N (lN 32) (nI (k + l.length)) (wr p k l)).bind _) = _
      rw [e2, Option.bind_some, if_pos (show nI 0 = (0 : Int32) from rfl)]
      exact h75
    · subst e
      rw [if_neg (show ¬ nI 1 = (0 : Int32) by decide), if_pos (show nI 1 = (1 : Int32) from rfl), e1, Option.bind_some]
      show ∃ i4'' d3, ((f_P_putWord N (lN 32) (nI (k + l.length)) (wr p k l)).bind _) = _
      rw [e2, Option.bind_some, if_neg (show ¬ nI 1 = (0 : Int32) by decide)]
      exact h75
  · intro o73 o77 p72 p74 p75 p76 i k i77 ou a74 a75 a76 e18 hlt h250 hk
    rw [List.length_append, len] at hk
    have hk2 : k + (l.length + (3 + l'.length) + 2) ≤ 2670 := hk
    rw [f_M_print_17, e18, if_neg (nI_ge hlt (by omega)), if_neg (nI_g (show s < 500 by omega) (by decide)), nI_cl (show s < 2147483648 by omega), e15, e16, if_neg (show ¬ (2 : Int32) ≤ nI so from nI_ge (show so < 2 by omega) (by decide))]
    obtain ⟨j77, d74, d75, d76, e1⟩ := pcm_eq hN hW g k i77 ou a74 a75 a76 (by omega)
    rw [e1, Option.bind_some]
    show ∃ i77' b74 b75 b76, ((f_M_put (nI 32) (nI (k + l.length)) (wr ou k l)).bind _) = _
    rw [m_put1 (by omega) (by decide), Option.bind_some, ← e18]
    have h68 : ∃ (i77' : Int32) (b74 b75 b76 : Nat → Int32), f_M_print_68 N i18 i37 o73 o77 wordsM m8 m9 m10 s15 s16 s17 m23 m24 m26 m27 p72 p74 p75 p76 (f_M_print_17 N i18 i37 o73 o77 wordsM m8 m9 m10 s15 s16 s17 m23 m24 m26 m27 p72 p74 p75 p76 i) (nI s) (nI (60 + so)) (nI (k + l.length + 1)) j77 (wr (wr ou k l) (k + l.length) [32]) d74 d75 d76 = f_M_print_17 N i18 i37 o73 o77 wordsM m8 m9 m10 s15 s16 s17 m23 m24 m26 m27 p72 p74 p75 p76 i (nI (s + 1)) (nI (k + ((l ++ ([32] ++ (([60 + so] ++ [32]) ++ l'))) ++ [59, 10]).length)) i77' (wr ou k ((l ++ ([32] ++ (([60 + so] ++ [32]) ++ l'))) ++ [59, 10])) b74 b75 b76 := by
      unfold f_M_print_68
      rw [m_put1 (by omega) (by omega), Option.bind_some]
      show ∃ i77' b74 b75 b76, ((f_M_put (nI 32) (nI (k + l.length + 1 + 1)) (wr (wr (wr ou k l) (k + l.length) [32]) (k + l.length + 1) [60 + so])).bind _) = _
      rw [m_put1 (by omega) (by decide), Option.bind_some, if_neg (nI_g (show s < 500 by omega) (by decide)), nI_cl (show s < 2147483648 by omega), e17]
      obtain ⟨n77, x74, x75, x76, e3⟩ := pcm_eq hN hW' g' (k + l.length + 1 + 1 + 1) j77 (wr (wr (wr (wr ou k l) (k + l.length) [32]) (k + l.length + 1) [60 + so]) (k + l.length + 1 + 1) [32]) d74 d75 d76 (by omega)
      show ∃ i77' b74 b75 b76, ((f_M_putConcept N (nI m') (nI (k + l.length + 1 + 1 + 1)) j77 wordsM m8 m9 m10 m23 m24 m26 m27 (wr (wr (wr (wr ou k l) (k + l.length) [32]) (k + l.length + 1) [60 + so]) (k + l.length + 1 + 1) [32]) d74 d75 d76).bind _) = _
      rw [e3, Option.bind_some]
      refine ⟨n77, x74, x75, x76, ?_⟩
      show f_M_print_167 N i18 i37 o73 o77 wordsM m8 m9 m10 s15 s16 s17 m23 m24 m26 m27 p72 p74 p75 p76 (f_M_print_17 N i18 i37 o73 o77 wordsM m8 m9 m10 s15 s16 s17 m23 m24 m26 m27 p72 p74 p75 p76 i) (nI s) (nI (k + l.length + 1 + 1 + 1 + l'.length)) n77 _ x74 x75 x76 = _
      rw [m_167 (by omega), List.length_append, len, wr_app, wr_app, wr_app, wr_app, len, show k + l.length + 1 + 1 + 1 + l'.length + 2 = k + (l.length + (3 + l'.length) + [59, 10].length) by show _ = k + (l.length + (3 + l'.length) + 2); omega, show k + (l.length + (3 + l'.length)) = k + l.length + 1 + 1 + 1 + l'.length by omega]
      rfl
    have c01 : so = 0 ∨ so = 1 := by omega
    rcases c01 with e | e
    · subst e
      rw [if_pos (show nI 0 = (0 : Int32) from rfl)]
      exact h68
    · subst e
      rw [if_neg (show ¬ nI 1 = (0 : Int32) by decide)]
      exact h68
