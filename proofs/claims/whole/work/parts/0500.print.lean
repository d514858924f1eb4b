/-! print, of both: the other statements, the book -/
theorem stm_ask {N nn nr sz c W m K s : Nat} {l2 l4 : Nat → Int64} {i18 i37 : Int32} {c0 c1 c2 m8 m9 m10 s15 s16 s17 m23 m24 m26 m27 : Nat → Int32} {l : List Nat} (hN : 100000 ≤ N) (hc : c < 200) (hW : W ≤ 200) (hs : s < 250) (h : PrC N (nI nn) (nI nr) l2 l4 sz c0 c1 c2 c W l) (g : PrM N m8 m9 m10 m23 m24 m26 m27 m K W l) (e15 : s15 s = nI 2) (e16 : s16 s = nI m) : CsP N nn nr sz l2 l4 c0 c1 c2 (nI (2 + 256 * c + 65536 * 0)) (([97, 115, 107] ++ [32]) ++ l) ∧ MsP N i18 i37 m8 m9 m10 s15 s16 s17 m23 m24 m26 m27 s (([97, 115, 107] ++ [32]) ++ l) := by
  have len : (([97, 115, 107] ++ [32]) ++ l).length = 4 + l.length := by rw [List.length_append]; rfl
  constructor
  · intro k i4 p a3 hk
    rw [len] at hk
    obtain ⟨f1, f2, f3⟩ := st_left5 (show 2 < 5 by omega) hc (show 0 < 200 by omega)
    unfold f_P_printStatement
    rw [f1, Option.bind_some, f2, Option.bind_some, f3, Option.bind_some, if_neg (show ¬ nI 2 = (0 : Int32) by decide), if_neg (show ¬ nI 2 = (1 : Int32) by decide), if_pos (show nI 2 = (2 : Int32) from rfl), show (6386539 : Int64) = lN 6386539 from rfl, cB_of hN (cW_ask hN) (by show k + 4 ≤ 2670; omega), Option.bind_some]
    obtain ⟨i4', b3, e1⟩ := pcc_eq hN hW h (k + 4) i4 (wr p k ([97, 115, 107] ++ [32])) a3 (by omega)
    show ∃ i4' a3', ((f_P_printConcept N (nI c) (nI nn) (nI nr) l2 l4 (nI sz) c0 c1 c2 (nI (k + 4)) i4 (wr p k ([97, 115, 107] ++ [32])) a3).bind _) = _
    rw [e1, Option.bind_some]
    refine ⟨i4', b3, ?_⟩
    rw [len, wr_app (l := [97, 115, 107] ++ [32]), ← Nat.add_assoc]
    rfl
  · intro o73 o77 p72 p74 p75 p76 i k i77 ou a74 a75 a76 e18 hlt h250 hk
    rw [List.length_append, len] at hk
    have hk2 : k + (4 + l.length + 2) ≤ 2670 := hk
    rw [f_M_print_17, e18, if_neg (nI_ge hlt (by omega)), if_neg (nI_g (show s < 500 by omega) (by decide)), nI_cl (show s < 2147483648 by omega), e15, e16, if_pos (show (2 : Int32) ≤ nI 2 by decide), show nI 2 - (2 : Int32) = nI 0 from pk_sub (a := 2) (b := 2) (by decide), mW_0 hN k ou (by show k + 3 < 16000; omega), Option.bind_some]
    show ∃ i77' b74 b75 b76, ((f_M_put (nI 32) (nI (k + 3)) (wr ou k [97, 115, 107])).bind _) = _
    rw [m_put1 (by omega) (by decide), Option.bind_some, if_pos (show nI 2 = (2 : Int32) from rfl), ← e18]
    obtain ⟨j77, d74, d75, d76, e1⟩ := pcm_eq hN hW g (k + 3 + 1) i77 (wr (wr ou k [97, 115, 107]) (k + 3) [32]) a74 a75 a76 (by omega)
    show ∃ i77' b74 b75 b76, ((f_M_putConcept N (nI m) (nI (k + 3 + 1)) i77 wordsM m8 m9 m10 m23 m24 m26 m27 (wr (wr ou k [97, 115, 107]) (k + 3) [32]) a74 a75 a76).bind _) = _
    rw [e1, Option.bind_some]
    refine ⟨j77, d74, d75, d76, ?_⟩
    show f_M_print_141 N i18 i37 o73 o77 wordsM m8 m9 m10 s15 s16 s17 m23 m24 m26 m27 p72 p74 p75 p76 (f_M_print_17 N i18 i37 o73 o77 wordsM m8 m9 m10 s15 s16 s17 m23 m24 m26 m27 p72 p74 p75 p76 i) (nI s) (nI (k + 3 + 1 + l.length)) j77 (wr (wr (wr ou k [97, 115, 107]) (k + 3) [32]) (k + 3 + 1) l) d74 d75 d76 = _
    unfold f_M_print_141
    rw [if_neg (nI_g (show s < 500 by omega) (by decide)), nI_cl (show s < 2147483648 by omega), e15, if_neg (show ¬ nI 2 = (3 : Int32) by decide), m_167 (by omega), List.length_append, len, wr_app, wr_app, wr_app, len, show k + 3 + 1 + l.length + 2 = k + (4 + l.length + [59, 10].length) by show _ = k + (4 + l.length + 2); omega, show k + (4 + l.length) = k + 3 + 1 + l.length by omega]
    rfl
theorem stm_under {N nn nr sz r r' s : Nat} {l2 l4 : Nat → Int64} {i18 i37 : Int32} {c0 c1 c2 m8 m9 m10 s15 s16 s17 m23 m24 m26 m27 : Nat → Int32} (hN : 100000 ≤ N) (hnr : nr ≤ 3) (hr : r < nr) (hr' : r' < nr) (hs : s < 250) (Hr : NmW 0 0 nr l4 m26 m27) (e15 : s15 s = nI 3) (e16 : s16 s = nI r) (e17 : s17 s = nI r') : ∃ L : List Nat, L.length = 6 + (m27 r).toNatClampNeg + 1 + (m27 r').toNatClampNeg ∧ okB L ∧ CsP N nn nr sz l2 l4 c0 c1 c2 (nI (3 + 256 * r + 65536 * r')) L ∧ MsP N i18 i37 m8 m9 m10 s15 s16 s17 m23 m24 m26 m27 s L := by
  obtain ⟨w, w1, w2, w3, w4⟩ := cW_row hN Hr hr
  obtain ⟨w', v1, v2, v3, v4⟩ := cW_row hN Hr hr'
  obtain ⟨n, n1, n8, f1, f2, f3⟩ := Hr r hr
  obtain ⟨n', n1', n8', f1', f2', f3'⟩ := Hr r' hr'
  rw [Nat.zero_add] at w2 w3 w4 f1 f2 v2 v3 v4 f1' f2'
  rw [Nat.zero_add] at w2 w3 w4 v2 v3 v4
  rw [f1, nI_cl (by omega)] at w2 w3 w4 ⊢
  rw [f1', nI_cl (by omega)] at v2 v3 v4 ⊢
  have len : (([117, 110, 100, 101, 114] ++ [32]) ++ ((lsb m26 (8 * r) n ++ [32]) ++ lsb m26 (8 * r') n')).length = 6 + (n + 1 + n') := by
    rw [List.length_append, List.length_append (bs := lsb m26 (8 * r') n'), List.length_append (as := lsb m26 (8 * r) n), w3, v3]; rfl
  refine ⟨([117, 110, 100, 101, 114] ++ [32]) ++ ((lsb m26 (8 * r) n ++ [32]) ++ lsb m26 (8 * r') n'), by rw [len]; omega, okB_app (by unfold okB; decide) (okB_app (okB_app w4 (by unfold okB; decide)) v4), ?_, ?_⟩
  · intro k i4 p a3 hk
    rw [len] at hk
    obtain ⟨q1, q2, q3⟩ := st_left5 (show 3 < 5 by omega) (show r < 200 by omega) (show r' < 200 by omega)
    unfold f_P_printStatement
    rw [q1, Option.bind_some, q2, Option.bind_some, q3, Option.bind_some, if_neg (show ¬ nI 3 = (0 : Int32) by decide), if_neg (show ¬ nI 3 = (1 : Int32) by decide), if_neg (show ¬ nI 3 = (2 : Int32) by decide), if_pos (show nI 3 = (3 : Int32) from rfl), show (504363246962 : Int64) = lN 504363246962 from rfl, cB_of hN (cW_under hN) (by show k + 6 ≤ 2670; omega), Option.bind_some, B_role_eq hnr hr, Option.bind_some, w1]
    have lr : (lsb m26 (8 * r) n ++ [32]).length = n + 1 := by rw [List.length_append, w3]; rfl
    show ∃ i4' a3', ((f_P_putBehind N (lN w) (nI (k + 6)) (wr p k ([117, 110, 100, 101, 114] ++ [32]))).bind _) = _
    rw [cB_of hN w2 (by rw [lr]; omega), Option.bind_some, B_role_eq hnr hr', Option.bind_some, v1]
    show ∃ i4' a3', ((f_P_putWord N (lN w') (nI (k + 6 + (lsb m26 (8 * r) n ++ [32]).length)) (wr (wr p k ([117, 110, 100, 101, 114] ++ [32])) (k + 6) (lsb m26 (8 * r) n ++ [32]))).bind _) = _
    rw [v2 _ _ (by rw [lr, v3]; omega), Option.bind_some]
    refine ⟨i4, a3, ?_⟩
    rw [len, wr_app (l := [117, 110, 100, 101, 114] ++ [32]), wr_app (l := lsb m26 (8 * r) n ++ [32]), lr, v3, show k + (6 + (n + 1 + n')) = k + 6 + (n + 1) + n' by omega]
    rfl
  · intro o73 o77 p72 p74 p75 p76 i k i77 ou a74 a75 a76 e18 hlt h250 hk
    rw [List.length_append, len] at hk
    have hk2 : k + (6 + (n + 1 + n') + 2) ≤ 2670 := hk
    rw [f_M_print_17, e18, if_neg (nI_ge hlt (by omega)), if_neg (nI_g (show s < 500 by omega) (by decide)), nI_cl (show s < 2147483648 by omega), e15, e16, if_pos (show (2 : Int32) ≤ nI 3 by decide), show nI 3 - (2 : Int32) = nI 1 from pk_sub (a := 3) (b := 2) (by decide), mW_1 hN k ou (by show k + 5 < 16000; omega), Option.bind_some]
    show ∃ i77' b74 b75 b76, ((f_M_put (nI 32) (nI (k + 5)) (wr ou k [117, 110, 100, 101, 114])).bind _) = _
    rw [m_put1 (by omega) (by decide), Option.bind_some, if_neg (show ¬ nI 3 = (2 : Int32) by decide), ← e18]
    show ∃ i77' b74 b75 b76, ((f_M_putRole N (nI r) (nI (k + 5 + 1)) m26 m27 (wr (wr ou k [117, 110, 100, 101, 114]) (k + 5) [32])).bind _) = _
    rw [M_role_eq hN (by omega) n8 f1 f2 (by omega), Option.bind_some]
    refine ⟨i77, a74, a75, a76, ?_⟩
    show f_M_print_141 N i18 i37 o73 o77 wordsM m8 m9 m10 s15 s16 s17 m23 m24 m26 m27 p72 p74 p75 p76 (f_M_print_17 N i18 i37 o73 o77 wordsM m8 m9 m10 s15 s16 s17 m23 m24 m26 m27 p72 p74 p75 p76 i) (nI s) (nI (k + 5 + 1 + n)) i77 (wr (wr (wr ou k [117, 110, 100, 101, 114]) (k + 5) [32]) (k + 5 + 1) (lsb m26 (8 * r) n)) a74 a75 a76 = _
    unfold f_M_print_141
    rw [if_neg (nI_g (show s < 500 by omega) (by decide)), nI_cl (show s < 2147483648 by omega), e15, if_pos (show nI 3 = (3 : Int32) from rfl), show (32 : Int32) = nI 32 from rfl, m_put1 (by omega) (by decide), Option.bind_some, e17]
    show ((f_M_putRole N (nI r') (nI (k + 5 + 1 + n + 1)) m26 m27 (wr (wr (wr (wr ou k [117, 110, 100, 101, 114]) (k + 5) [32]) (k + 5 + 1) (lsb m26 (8 * r) n)) (k + 5 + 1 + n) [32])).bind _) = _
    rw [M_role_eq hN (by omega) n8' f1' f2' (by omega), Option.bind_some]
    show f_M_print_167 N i18 i37 o73 o77 wordsM m8 m9 m10 s15 s16 s17 m23 m24 m26 m27 p72 p74 p75 p76 (f_M_print_17 N i18 i37 o73 o77 wordsM m8 m9 m10 s15 s16 s17 m23 m24 m26 m27 p72 p74 p75 p76 i) (nI s) (nI (k + 5 + 1 + n + 1 + n')) i77 _ a74 a75 a76 = _
    rw [m_167 (by omega), List.length_append, len, wr_app, wr_app, wr_app, wr_app, wr_app, len, List.length_append (as := lsb m26 (8 * r) n), w3, show k + 5 + 1 + n + 1 + n' + 2 = k + (6 + (n + 1 + n') + [59, 10].length) by show _ = k + (6 + (n + 1 + n') + 2); omega, show k + (6 + (n + 1 + n')) = k + 5 + 1 + n + 1 + n' by omega]
    rfl
theorem stm_single {N nn nr sz r s : Nat} {l2 l4 : Nat → Int64} {i18 i37 : Int32} {c0 c1 c2 m8 m9 m10 s15 s16 s17 m23 m24 m26 m27 : Nat → Int32} (hN : 100000 ≤ N) (hnr : nr ≤ 3) (hr : r < nr) (hs : s < 250) (Hr : NmW 0 0 nr l4 m26 m27) (e15 : s15 s = nI 4) (e16 : s16 s = nI r) : ∃ L : List Nat, L.length = 7 + (m27 r).toNatClampNeg ∧ okB L ∧ CsP N nn nr sz l2 l4 c0 c1 c2 (nI (4 + 256 * r + 65536 * 0)) L ∧ MsP N i18 i37 m8 m9 m10 s15 s16 s17 m23 m24 m26 m27 s L := by
  obtain ⟨w, w1, w2, w3, w4⟩ := cW_row hN Hr hr
  obtain ⟨n, n1, n8, f1, f2, f3⟩ := Hr r hr
  rw [Nat.zero_add] at w2 w3 w4 f1 f2
  rw [Nat.zero_add] at w2 w3 w4
  rw [f1, nI_cl (by omega)] at w2 w3 w4 ⊢
  have len : (([115, 105, 110, 103, 108, 101] ++ [32]) ++ lsb m26 (8 * r) n).length = 7 + n := by
    rw [List.length_append, w3]; rfl
  refine ⟨([115, 105, 110, 103, 108, 101] ++ [32]) ++ lsb m26 (8 * r) n, len, okB_app (by unfold okB; decide) w4, ?_, ?_⟩
  · intro k i4 p a3 hk
    rw [len] at hk
    obtain ⟨q1, q2, q3⟩ := st_left5 (show 4 < 5 by omega) (show r < 200 by omega) (show 0 < 200 by omega)
    unfold f_P_printStatement
    rw [q1, Option.bind_some, q2, Option.bind_some, q3, Option.bind_some, if_neg (show ¬ nI 4 = (0 : Int32) by decide), if_neg (show ¬ nI 4 = (1 : Int32) by decide), if_neg (show ¬ nI 4 = (2 : Int32) by decide), if_neg (show ¬ nI 4 = (3 : Int32) by decide), show (126896661032037 : Int64) = lN 126896661032037 from rfl, cB_of hN (cW_single hN) (by show k + 7 ≤ 2670; omega), Option.bind_some, B_role_eq hnr hr, Option.bind_some, w1]
    show ∃ i4' a3', ((f_P_putWord N (lN w) (nI (k + 7)) (wr p k ([115, 105, 110, 103, 108, 101] ++ [32]))).bind _) = _
    rw [w2 _ _ (by rw [w3]; omega), Option.bind_some]
    refine ⟨i4, a3, ?_⟩
    rw [len, wr_app (l := [115, 105, 110, 103, 108, 101] ++ [32]), w3, show k + (7 + n) = k + 7 + n by omega]
    rfl
  · intro o73 o77 p72 p74 p75 p76 i k i77 ou a74 a75 a76 e18 hlt h250 hk
    rw [List.length_append, len] at hk
    have hk2 : k + (7 + n + 2) ≤ 2670 := hk
    rw [f_M_print_17, e18, if_neg (nI_ge hlt (by omega)), if_neg (nI_g (show s < 500 by omega) (by decide)), nI_cl (show s < 2147483648 by omega), e15, e16, if_pos (show (2 : Int32) ≤ nI 4 by decide), show nI 4 - (2 : Int32) = nI 2 from pk_sub (a := 4) (b := 2) (by decide), mW_2 hN k ou (by show k + 6 < 16000; omega), Option.bind_some]
    show ∃ i77' b74 b75 b76, ((f_M_put (nI 32) (nI (k + 6)) (wr ou k [115, 105, 110, 103, 108, 101])).bind _) = _
    rw [m_put1 (by omega) (by decide), Option.bind_some, if_neg (show ¬ nI 4 = (2 : Int32) by decide), ← e18]
    show ∃ i77' b74 b75 b76, ((f_M_putRole N (nI r) (nI (k + 6 + 1)) m26 m27 (wr (wr ou k [115, 105, 110, 103, 108, 101]) (k + 6) [32])).bind _) = _
    rw [M_role_eq hN (by omega) n8 f1 f2 (by omega), Option.bind_some]
    refine ⟨i77, a74, a75, a76, ?_⟩
    show f_M_print_141 N i18 i37 o73 o77 wordsM m8 m9 m10 s15 s16 s17 m23 m24 m26 m27 p72 p74 p75 p76 (f_M_print_17 N i18 i37 o73 o77 wordsM m8 m9 m10 s15 s16 s17 m23 m24 m26 m27 p72 p74 p75 p76 i) (nI s) (nI (k + 6 + 1 + n)) i77 (wr (wr (wr ou k [115, 105, 110, 103, 108, 101]) (k + 6) [32]) (k + 6 + 1) (lsb m26 (8 * r) n)) a74 a75 a76 = _
    unfold f_M_print_141
    rw [if_neg (nI_g (show s < 500 by omega) (by decide)), nI_cl (show s < 2147483648 by omega), e15, if_neg (show ¬ nI 4 = (3 : Int32) by decide), m_167 (by omega), List.length_append, len, wr_app, wr_app, wr_app, len, show k + 6 + 1 + n + 2 = k + (7 + n + [59, 10].length) by show _ = k + (7 + n + 2); omega, show k + (7 + n) = k + 6 + 1 + n by omega]
    rfl
theorem B_statement_eq {ns s : Nat} {cs : Nat → Int32} (hns : ns ≤ 246) (hs : s < ns) : f_B_statement (nI s) (nI ns) cs = some (cs s) := by
  unfold f_B_statement
  rw [if_neg (nI_pos (by omega)), if_neg (nI_ge hs (by omega)), if_neg (nI_g (show s < 246 by omega) (by decide)), nI_cl (by omega)]
theorem pb_loop {N sz nn nr na no ns : Nat} {o φ wt pl tl : Nat → Nat} {l2 l4 : Nat → Int64} {i37 o73 o77 o1 o4 : Int32} {c0 c1 c2 c3 cs m8 m9 m10 m11 m13 s15 s16 s17 m23 m24 m26 m27 p72 p74 p75 p76 p0 p3 : Nat → Int32} (hN : 100000 ≤ N) (hz : sz ≤ 200) (hnn : nn ≤ 5) (hnr : nr ≤ 3) (hns : ns ≤ 246) (HC : CNd sz nn nr na c0 c1 c2 c3) (HR : RNd 0 no sz o φ m8 m9 m10 m11 m13 c0 c1 c2 c3) (HT : ∀ c, c < sz → TrE c0 c1 c2 wt pl (fun a => (m24 a).toNatClampNeg) (fun a => (m27 a).toNatClampNeg) c) (Hn : NmW 0 0 nn l2 m23 m24) (Hr : NmW 0 0 nr l4 m26 m27) (HS : StS 0 0 ns no nr o φ wt pl (fun a => (m27 a).toNatClampNeg) tl cs s15 s16 s17) (htl : tl ns ≤ 2670) (hmono : ∀ s, s ≤ ns → tl s ≤ tl ns) : ∀ (d i i' s : Nat) (i4 i77 : Int32) (p a3 ou a74 a75 a76 : Nat → Int32), s + d = ns → d < i → d < i' → ROut (tl s) p ou → ∃ (i4' i77' : Int32) (p' a3' ou' b74 b75 b76 : Nat → Int32), f_P_printBook_12 N (nI nn) (nI nr) (nI ns) l2 l4 cs (nI sz) c0 c1 c2 o1 o4 p0 p3 i (nI s) (nI (tl s)) i4 p a3 = some (nI (tl ns), i4', p', a3') ∧ f_M_print_17 N (nI ns) i37 o73 o77 wordsM m8 m9 m10 s15 s16 s17 m23 m24 m26 m27 p72 p74 p75 p76 i' (nI s) (nI (tl s)) i77 ou a74 a75 a76 = some (nI (tl ns), nI (tl ns), i77', ou', b74, b75, b76) ∧ ROut (tl ns) p' ou' := by
  have PN := pn_all hN hz hnn hnr HC HR HT Hn Hr
  intro d
  induction d with
  | zero =>
    intro i i' s i4 i77 p a3 ou a74 a75 a76 hs hi hi' hro
    obtain ⟨i, rfl⟩ : ∃ k, i = k + 1 := ⟨i - 1, by omega⟩
    obtain ⟨i', rfl⟩ : ∃ k, i' = k + 1 := ⟨i' - 1, by omega⟩
    have es : s = ns := by omega
    subst es
    rw [f_P_printBook_12, if_pos (nI_le (Nat.le_refl _) (by omega)), f_M_print_17, if_pos (nI_le (Nat.le_refl _) (by omega))]
    exact ⟨_, _, _, _, _, _, _, _, rfl, rfl, hro⟩
  | succ d ih =>
    intro i i' s i4 i77 p a3 ou a74 a75 a76 hs hi hi' hro
    obtain ⟨i, rfl⟩ : ∃ k, i = k + 1 := ⟨i - 1, by omega⟩
    obtain ⟨i', rfl⟩ : ∃ k, i' = k + 1 := ⟨i' - 1, by omega⟩
    have hsn : s < ns := by omega
    have ht1 := hmono (s + 1) (by omega)
    have key : ∃ L : List Nat, tl (s + 1) = tl s + (L ++ [59, 10]).length ∧ okB L ∧ CsP N nn nr sz l2 l4 c0 c1 c2 (cs s) L ∧ MsP N (nI ns) i37 m8 m9 m10 s15 s16 s17 m23 m24 m26 m27 s L := by
      have eL : ∀ L : List Nat, (L ++ [59, 10]).length = L.length + 2 := fun L => by rw [List.length_append]; rfl
      rcases HS s hsn with ⟨so, j1, j2, h1, h2, h3, h4, h5, h6, h7, h8, h9, h10⟩ | ⟨j1, h2, h4, h5, h6, h8, h10⟩ | ⟨r, r', h1, h2, h4, h5, h6, h7, h10⟩ | ⟨r, h1, h4, h5, h6, h10⟩
      · rw [Nat.zero_add] at h5 h6 h7
        rw [Nat.zero_add] at h6 h7
        obtain ⟨q1, q2, q3, q4⟩ := HR j1 h2
        obtain ⟨u1, u2, u3, u4⟩ := HR j2 h3
        obtain ⟨l, y1, y2, y3, y4⟩ := PN _ q3
        obtain ⟨l', z1, z2, z3, z4⟩ := PN _ u3
        have := stm_rule (i18 := nI ns) (i37 := i37) hN (show φ (o j1) < 200 by omega) (show φ (o j2) < 200 by omega) h1 h8 h9 (show s < 250 by omega) y3 z3 (y4 j1 h2 rfl) (z4 j2 h3 rfl) h5 h6 h7
        refine ⟨_, ?_, okB_app y2 (okB_app (by unfold okB; decide) (okB_app (okB_app (fun b hb => ?_) (by unfold okB; decide)) z2)), by rw [h4]; exact this.1, this.2⟩
        · rw [h10, eL, List.length_append, List.length_append, List.length_append, y1, z1]
          show _ = tl s + (pl (φ (o j1)) + (1 + (2 + pl (φ (o j2)))) + 2)
          omega
        · rw [List.mem_singleton] at hb; omega
      · rw [Nat.zero_add] at h5 h6
        rw [Nat.zero_add] at h6
        obtain ⟨q1, q2, q3, q4⟩ := HR j1 h2
        obtain ⟨l, y1, y2, y3, y4⟩ := PN _ q3
        have := stm_ask (i18 := nI ns) (i37 := i37) hN (show φ (o j1) < 200 by omega) h8 (show s < 250 by omega) y3 (y4 j1 h2 rfl) (s15 := s15) (s16 := s16) (s17 := s17) h5 h6
        refine ⟨_, ?_, okB_app (by unfold okB; decide) y2, by rw [h4]; exact this.1, this.2⟩
        rw [h10, eL, List.length_append, y1]
        show _ = tl s + (4 + pl (φ (o j1)) + 2)
        omega
      · rw [Nat.zero_add] at h5 h6 h7
        obtain ⟨L, y1, y2, y3, y4⟩ := stm_under (i18 := nI ns) (i37 := i37) (sz := sz) (nn := nn) (l2 := l2) (c0 := c0) (c1 := c1) (c2 := c2) (m8 := m8) (m9 := m9) (m10 := m10) (s15 := s15) (s16 := s16) (s17 := s17) (m23 := m23) (m24 := m24) hN hnr h1 h2 (show s < 250 by omega) Hr h5 h6 h7
        exact ⟨L, by rw [h10, eL, y1], y2, by rw [h4]; exact y3, y4⟩
      · rw [Nat.zero_add] at h5 h6
        obtain ⟨L, y1, y2, y3, y4⟩ := stm_single (i18 := nI ns) (i37 := i37) (sz := sz) (nn := nn) (l2 := l2) (c0 := c0) (c1 := c1) (c2 := c2) (m8 := m8) (m9 := m9) (m10 := m10) (s15 := s15) (s16 := s16) (s17 := s17) (m23 := m23) (m24 := m24) hN hnr h1 (show s < 250 by omega) Hr h5 h6
        exact ⟨L, by rw [h10, eL, y1], y2, by rw [h4]; exact y3, y4⟩
    obtain ⟨L, k1, k2, k3, k4⟩ := key
    have eL : (L ++ [59, 10]).length = L.length + 2 := by rw [List.length_append]; rfl
    obtain ⟨i4', b3, e1⟩ := k3 (tl s) i4 p a3 (by omega)
    have ens : (nI ns).toNatClampNeg = ns := nI_cl (by omega)
    obtain ⟨j77, d74, d75, d76, e2⟩ := k4 o73 o77 p72 p74 p75 p76 i' (tl s) i77 ou a74 a75 a76 (by rw [ens]) (by rw [ens]; exact hsn) (by rw [ens]; omega) (by omega)
    have hro' := hro.wr (l := L ++ [59, 10]) (okB_app k2 (by unfold okB; decide)) (by omega)
    rw [← k1] at hro' e2
    rw [e2]
    have go := ih i i' (s + 1) i4' j77 (wr p (tl s) (L ++ [59, 10])) b3 (wr ou (tl s) (L ++ [59, 10])) d74 d75 d76 (by omega) (by omega) (by omega) hro'
    rw [f_P_printBook_12, if_neg (nI_ge hsn (by omega)), B_statement_eq hns hsn, Option.bind_some, e1, Option.bind_some]
    have f1 := cW_sign hN 59 (by decide) (by decide) (tl s + L.length) (wr p (tl s) L) (by show tl s + L.length + 1 ≤ 2670; omega)
    have f2 := cW_sign hN 10 (by decide) (by decide) (tl s + L.length + 1) (wr (wr p (tl s) L) (tl s + L.length) [59]) (by show tl s + L.length + 1 + 1 ≤ 2670; omega)
    show ∃ i4' i77' p' a3' ou' b74 b75 b76, ((f_P_putWord N (lN 59) (nI (tl s + L.length)) (wr p (tl s) L)).bind _) = _ ∧ _
    rw [f1, Option.bind_some]
    show ∃ i4' i77' p' a3' ou' b74 b75 b76, ((f_P_putWord N (lN 10) (nI (tl s + L.length + 1)) (wr (wr p (tl s) L) (tl s + L.length) [59])).bind _) = _ ∧ _
    rw [f2, Option.bind_some, nI_m]
    have ew : wr (wr (wr p (tl s) L) (tl s + L.length) [59]) (tl s + L.length + 1) [10] = wr p (tl s) (L ++ [59, 10]) := by rw [wr_app]; rfl
    show ∃ i4' i77' p' a3' ou' b74 b75 b76, f_P_printBook_12 N (nI nn) (nI nr) (nI ns) l2 l4 cs (nI sz) c0 c1 c2 o1 o4 p0 p3 i (nI (s + 1)) (nI (tl s + L.length + 1 + 1)) _ (wr (wr (wr p (tl s) L) (tl s + L.length) [59]) (tl s + L.length + 1) [10]) _ = _ ∧ _
    rw [ew, show tl s + L.length + 1 + 1 = tl (s + 1) by omega]
    exact go
theorem print_eq {N sz nn nr na no ns : Nat} {o φ wt pl tl : Nat → Nat} {l2 l4 : Nat → Int64} {k1 i4 k73 i77 : Int32} {c0 c1 c2 c3 cs m8 m9 m10 m11 m13 s15 s16 s17 m23 m24 m26 m27 p a3 ou a74 a75 a76 : Nat → Int32} (hN : 100000 ≤ N) (hz : sz ≤ 200) (hnn : nn ≤ 5) (hnr : nr ≤ 3) (hns : ns ≤ 246) (HC : CNd sz nn nr na c0 c1 c2 c3) (HR : RNd 0 no sz o φ m8 m9 m10 m11 m13 c0 c1 c2 c3) (HT : ∀ c, c < sz → TrE c0 c1 c2 wt pl (fun a => (m24 a).toNatClampNeg) (fun a => (m27 a).toNatClampNeg) c) (Hn : NmW 0 0 nn l2 m23 m24) (Hr : NmW 0 0 nr l4 m26 m27) (HS : StS 0 0 ns no nr o φ wt pl (fun a => (m27 a).toNatClampNeg) tl cs s15 s16 s17) (h0 : tl 0 = 0) (htl : tl ns ≤ 2670) (hmono : ∀ s, s ≤ ns → tl s ≤ tl ns) : ∃ (i4' i77' : Int32) (p' a3' ou' b74 b75 b76 : Nat → Int32), f_X_print N 1 (nI nn) (nI nr) (nI ns) l2 l4 cs (nI sz) c0 c1 c2 k1 i4 p a3 = some (nI (tl ns), nI (tl ns), i4', p', a3', true) ∧ f_M_print N (nI ns) 1 k73 i77 wordsM m8 m9 m10 s15 s16 s17 m23 m24 m26 m27 ou a74 a75 a76 = some (nI (tl ns), nI (tl ns), i77', ou', b74, b75, b76) ∧ ROut (tl ns) p' ou' := by
  obtain ⟨i4', i77', p', a3', ou', b74, b75, b76, e1, e2, e3⟩ := pb_loop (i37 := 1) (o73 := k73) (o77 := i77) (o1 := k1) (o4 := i4) (p72 := ou) (p74 := a74) (p75 := a75) (p76 := a76) (p0 := p) (p3 := a3) hN hz hnn hnr hns HC HR HT Hn Hr HS htl hmono ns N N 0 i4 i77 p a3 ou a74 a75 a76 (by omega) (by omega) (by omega) (by rw [h0]; exact ⟨by omega, fun j hj => absurd hj (by omega)⟩)
  rw [h0] at e1 e2
  refine ⟨i4', i77', p', a3', ou', b74, b75, b76, ?_, ?_, e3⟩
  · unfold f_X_print f_P_printBook
    rw [if_neg i1z, show (0 : Int32) = nI 0 from rfl, e1, Option.bind_some]
  · unfold f_M_print
    rw [if_neg i1z, show (0 : Int32) = nI 0 from rfl, e2]
