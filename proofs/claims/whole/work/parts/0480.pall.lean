/-! every concept is printed alike, by both -/
theorem dec_if {P : Prop} {d : Decidable P} : (if decide P = true then 2 else 0) = (if P then 2 else 0) := by
  by_cases h : P
  · rw [if_pos h, if_pos (decide_eq_true h)]
  · rw [if_neg h, if_neg (by rw [decide_eq_false h]; decide)]
theorem pn_all {N sz nn nr na no : Nat} {o φ wt pl : Nat → Nat} {l2 l4 : Nat → Int64} {c0 c1 c2 c3 m8 m9 m10 m11 m13 m23 m24 m26 m27 : Nat → Int32} (hN : 100000 ≤ N) (hz : sz ≤ 200) (hnn : nn ≤ 5) (hnr : nr ≤ 3) (HC : CNd sz nn nr na c0 c1 c2 c3) (HR : RNd 0 no sz o φ m8 m9 m10 m11 m13 c0 c1 c2 c3) (HT : ∀ c, c < sz → TrE c0 c1 c2 wt pl (fun a => (m24 a).toNatClampNeg) (fun a => (m27 a).toNatClampNeg) c) (Hn : NmW 0 0 nn l2 m23 m24) (Hr : NmW 0 0 nr l4 m26 m27) : ∀ c, c < sz → ∃ l : List Nat, l.length = pl c ∧ okB l ∧ PrC N (nI nn) (nI nr) l2 l4 sz c0 c1 c2 c (wt c) l ∧ ∀ j, j < no → φ (o j) = c → PrM N m8 m9 m10 m23 m24 m26 m27 (o j) (kd c0 c) (wt c) l := by
  have HW := ct_all hN hz hnn hnr HC HT Hn Hr
  intro c
  induction c using Nat.strongRecOn with
  | ind c ih =>
    intro hc
    obtain ⟨K, hK, e0, -, h1, h2, hk0, hk45, hk12, hk3⟩ := HC c hc
    have hk := kd_of hK e0
    have T := HT c hc
    unfold TrE at T
    rw [hk] at T ⊢
    have cases8 : K = 0 ∨ K = 1 ∨ K = 2 ∨ K = 3 ∨ K = 4 ∨ K = 5 ∨ K = 6 ∨ K = 7 := by omega
    -- the model's node of c
    have md : ∀ j, j < no → φ (o j) = c → o j < 400 ∧ m8 (o j) = nI K ∧ (K = 0 → m9 (o j) = c1 c) ∧ (K = 4 ∨ K = 5 → m9 (o j) = c2 c) ∧ (3 ≤ K → ∃ i, i < no ∧ m10 (o j) = nI (o i) ∧ (if K < 6 then c1 else c2) c = nI (φ (o i))) ∧ (6 ≤ K → ∃ i, i < no ∧ m9 (o j) = nI (o i) ∧ c1 c = nI (φ (o i))) := by
      intro j hj e
      obtain ⟨o1, o2, o3, K', hK', r8, r0, r9, r94, r11, r10, r96⟩ := HR j hj
      rw [e] at r0 r9 r94 r10 r96
      have eK : K' = K := (nI_eq (by omega) (by omega)).mp (r0.symm.trans e0)
      subst eK
      rw [Nat.zero_add] at r8 r9 r94 r10 r96
      refine ⟨by omega, r8, r9, r94, fun q => ?_, fun q => ?_⟩
      · obtain ⟨i, i1, i2, i3⟩ := r10 q
        rw [Nat.zero_add] at i2
        exact ⟨i, by omega, i2, i3⟩
      · obtain ⟨i, i1, i2, i3⟩ := r96 q
        rw [Nat.zero_add] at i2
        exact ⟨i, by omega, i2, i3⟩
    have nI_in : ∀ {i x : Nat}, i < no → x < 200 → nI x = nI (φ (o i)) → φ (o i) = x := by
      intro i x hi hx e
      have := (HR i hi).2.2.1
      exact ((nI_eq (by omega) (by omega)).mp e).symm
    have hkd6 : K < 6 → ¬ 6 ≤ kd c0 c := fun q => by rw [hk]; omega
    rcases cases8 with e | e | e | e | e | e | e | e <;> subst e
    · obtain ⟨⟨a, ha, e1⟩, -⟩ := hk0 rfl
      have t := T.1 rfl
      rw [e1, nI_cl (by omega)] at t
      obtain ⟨w, w1, w2, w3, w4⟩ := cW_row hN Hn ha
      obtain ⟨n, n1, n8, f1, f2, f3⟩ := Hn a ha
      rw [Nat.zero_add] at w2 w3 w4 f1 f2
      rw [Nat.zero_add] at w2 w3 w4
      refine ⟨_, by rw [w3, t.2], w4, ?_, fun j hj ej => ?_⟩
      · rw [t.1]
        refine lf_fin (by omega) (hkd6 (by omega)) (fun k q p a3 hk' => ?_)
        unfold f_P_printNode
        rw [C_sortOf_eq hz hc, C_leftOf_eq hz hc, C_rightOf_eq hz hc]
        simp only [Option.bind_some]
        rw [e0, if_pos (by decide), e1, B_name_eq hnn ha, Option.bind_some, w1, w2 k p hk', Option.bind_some]
      · obtain ⟨d1, d2, d3, -, -, -⟩ := md j hj ej
        rw [t.1]
        refine PrM_of d1 (by decide) d2 (k_leaf (fun k0 q0 b72 b74 b75 b76 k q ou a74 a75 a76 hk' => ?_))
        rw [f1, nI_cl (by omega), lsb_len] at hk' ⊢
        unfold f_M_putOne_50
        rw [if_pos (by decide), if_neg (nI_g d1 (by decide)), nI_cl (by omega), d3 rfl, e1, M_name_eq hN (by omega) n8 f1 f2 (by omega), Option.bind_some]
    · have t := T.2.1 rfl
      refine ⟨[116, 111, 112], by rw [t.2]; rfl, by unfold okB; decide, ?_, fun j hj ej => ?_⟩
      · rw [t.1]
        refine lf_fin (by omega) (hkd6 (by omega)) (fun k q p a3 hk' => ?_)
        unfold f_P_printNode
        rw [C_sortOf_eq hz hc, C_leftOf_eq hz hc, C_rightOf_eq hz hc]
        simp only [Option.bind_some]
        rw [e0, if_neg (show ¬ nI 1 = (0 : Int32) by decide), if_pos (show nI 1 = (1 : Int32) by decide), show (7630704 : Int64) = lN 7630704 from rfl, cW_top hN k p hk', Option.bind_some]
      · obtain ⟨d1, d2, d3, -, -, -⟩ := md j hj ej
        rw [t.1]
        refine PrM_of d1 (by decide) d2 (k_leaf (fun k0 q0 b72 b74 b75 b76 k q ou a74 a75 a76 hk' => ?_))
        have hk2 : k + [116, 111, 112].length ≤ 2670 := hk'
        unfold f_M_putOne_50
        rw [if_neg (show ¬ nI 1 = (0 : Int32) by decide), if_pos (show nI 1 = (1 : Int32) by decide)]
        unfold f_M_putOne_77
        rw [if_pos (show nI 1 = (1 : Int32) by decide)]
        unfold f_M_putOne_90
        rw [show (8 : Int32) = nI 8 from rfl, mW_8 hN k ou (by omega), Option.bind_some]
    · have t := T.2.2.1 rfl
      refine ⟨[98, 111, 116, 116, 111, 109], by rw [t.2]; rfl, by unfold okB; decide, ?_, fun j hj ej => ?_⟩
      · rw [t.1]
        refine lf_fin (by omega) (hkd6 (by omega)) (fun k q p a3 hk' => ?_)
        unfold f_P_printNode
        rw [C_sortOf_eq hz hc, C_leftOf_eq hz hc, C_rightOf_eq hz hc]
        simp only [Option.bind_some]
        rw [e0, if_neg (show ¬ nI 2 = (0 : Int32) by decide), if_neg (show ¬ nI 2 = (1 : Int32) by decide), if_pos (show nI 2 = (2 : Int32) by decide), show (108230834679661 : Int64) = lN 108230834679661 from rfl, cW_bottom hN k p hk', Option.bind_some]
      · obtain ⟨d1, d2, d3, -, -, -⟩ := md j hj ej
        rw [t.1]
        refine PrM_of d1 (by decide) d2 (k_leaf (fun k0 q0 b72 b74 b75 b76 k q ou a74 a75 a76 hk' => ?_))
        have hk2 : k + [98, 111, 116, 116, 111, 109].length ≤ 2670 := hk'
        unfold f_M_putOne_50
        rw [if_neg (show ¬ nI 2 = (0 : Int32) by decide), if_neg (show ¬ nI 2 = (1 : Int32) by decide), if_pos (show nI 2 = (2 : Int32) by decide)]
        unfold f_M_putOne_77
        rw [if_neg (show ¬ nI 2 = (1 : Int32) by decide)]
        unfold f_M_putOne_90
        rw [show (9 : Int32) = nI 9 from rfl, mW_9 hN k ou (by omega), Option.bind_some]
    · obtain ⟨x, hx, e1⟩ := h1 (by omega)
      have t := T.2.2.2.1 rfl
      obtain ⟨Kx, hKx, ex, -⟩ := HC x (by omega)
      have hkx := kd_of hKx ex
      have Wx := HW x (by omega)
      rw [hkx] at Wx
      obtain ⟨lx, g1, g2, g3, g4⟩ := ih x hx (by omega)
      rw [hkx] at g4
      rw [e1, nI_cl (by omega)] at t
      unfold plx at t
      rw [hkx] at t
      refine ⟨([110, 111, 116] ++ [32]) ++ (brk (decide (rkn Kx < 3)) lx), ?_, okB_app (by unfold okB; decide) (brk_ok g2), ?_, fun j hj ej => ?_⟩
      · rw [List.length_append, brk_len, g1, t.2, dec_if]; rfl
      · rw [t.1]
        exact un_fin (by omega) (hkd6 (by omega)) Wx.1 (c_un3 hN hz hc (by omega) e0 e1 hKx ex) (PrP_of hN (by
          by_cases q : rkn Kx < 3
          · exact Or.inl (Wx.2 (rk_hi Kx hKx q))
          · exact Or.inr (decide_eq_false q)) (fun q => by rw [hkx]; exact rk_hi Kx hKx (of_decide_eq_true q)) g3)
      · obtain ⟨d1, d2, -, -, d5, -⟩ := md j hj ej
        obtain ⟨i, i1, i2, i3⟩ := d5 (by omega)
        rw [if_pos (by decide), e1] at i3
        have ei := nI_in i1 (by omega) i3
        rw [t.1]
        refine PrM_of d1 (by decide) d2 (k_un Wx.1 (fun k0 q0 b72 b74 b75 b76 k q ou a74 a75 a76 hk' hq' => ?_) (g4 i i1 ei))
        unfold f_M_putOne_50
        rw [if_neg (by decide), if_neg (by decide), if_neg (by decide), if_neg (by decide), if_pos (by decide), show (5 : Int32) = nI 5 from rfl]
        exact m_124 (K := 3) (mW_5 hN) d1 i2 hq' hk' (Or.inl ⟨rfl, rfl⟩) hN
    · obtain ⟨x, hx, e1⟩ := h1 (by omega)
      have t := T.2.2.2.2.1 rfl
      obtain ⟨Kx, hKx, ex, -⟩ := HC x (by omega)
      have hkx := kd_of hKx ex
      have Wx := HW x (by omega)
      rw [hkx] at Wx
      obtain ⟨lx, g1, g2, g3, g4⟩ := ih x hx (by omega)
      rw [hkx] at g4
      obtain ⟨r, hr, e2⟩ := hk45 (by omega)
      rw [e1, e2, nI_cl (by omega), nI_cl (by omega)] at t
      unfold plx at t
      rw [hkx] at t
      obtain ⟨w, w1, w2, w3, w4⟩ := cW_row hN Hr hr
      obtain ⟨n, n1, n8, f1, f2, f3⟩ := Hr r hr
      rw [Nat.zero_add] at w2 w3 w4 f1 f2
      rw [Nat.zero_add] at w2 w3 w4
      refine ⟨(([115, 111, 109, 101] ++ [32]) ++ (lsb m26 (8 * r) (m27 r).toNatClampNeg ++ [32])) ++ (brk (decide (rkn Kx < 3)) lx), ?_, okB_app (okB_app (by unfold okB; decide) (okB_app w4 (by unfold okB; decide))) (brk_ok g2), ?_, fun j hj ej => ?_⟩
      · rw [List.length_append, brk_len, List.length_append, List.length_append, List.length_append, w3, g1, t.2, dec_if]
        show 5 + ((m27 r).toNatClampNeg + 1) + _ = 6 + (m27 r).toNatClampNeg + _
        omega
      · rw [t.1]
        refine un_fin (by omega) (hkd6 (by omega)) Wx.1 (fun k q p a3 hk' hq' => ?_) (PrP_of hN (by
          by_cases q : rkn Kx < 3
          · exact Or.inl (Wx.2 (rk_hi Kx hKx q))
          · exact Or.inr (decide_eq_false q)) (fun q => by rw [hkx]; exact rk_hi Kx hKx (of_decide_eq_true q)) g3)
        have := c_un221 (i3 := nI nn) (l2 := l2) (c1 := c1) (c2 := c2) hN hz hnr (show x < sz by omega) hr hKx ex (cW_some hN) w1 w2 k q p a3 hk' hq'
        unfold f_P_printNode
        rw [C_sortOf_eq hz hc, C_leftOf_eq hz hc, C_rightOf_eq hz hc]
        simp only [Option.bind_some]
        rw [e0, if_neg (show ¬ nI 4 = (0 : Int32) by decide), if_neg (show ¬ nI 4 = (1 : Int32) by decide), if_neg (show ¬ nI 4 = (2 : Int32) by decide), if_neg (show ¬ nI 4 = (3 : Int32) by decide), if_pos (show nI 4 = (4 : Int32) by decide), e1, e2]
        rw [if_pos (show nI 4 = (4 : Int32) by decide)]
        exact this
      · obtain ⟨d1, d2, -, d4, d5, -⟩ := md j hj ej
        obtain ⟨i, i1, i2, i3⟩ := d5 (by omega)
        rw [if_pos (by decide), e1] at i3
        have ei := nI_in i1 (by omega) i3
        rw [t.1]
        refine PrM_of d1 (by decide) d2 (k_un Wx.1 (fun k0 q0 b72 b74 b75 b76 k q ou a74 a75 a76 hk' hq' => ?_) (g4 i i1 ei))
        unfold f_M_putOne_50
        rw [if_neg (show ¬ nI 4 = (0 : Int32) by decide), if_neg (show ¬ nI 4 = (1 : Int32) by decide), if_neg (show ¬ nI 4 = (2 : Int32) by decide), if_neg (show ¬ (6 : Int32) ≤ nI 4 by decide), if_neg (show ¬ nI 4 = (3 : Int32) by decide), if_pos (show nI 4 = (4 : Int32) by decide), show (6 : Int32) = nI 6 from rfl]
        exact m_124 (K := 4) (mW_6 hN) d1 i2 hq' hk' (Or.inr ⟨by decide, r, n, by omega, n8, by rw [d4 (by omega), e2], f1, f2, by rw [f1, nI_cl (by omega)]⟩) hN
    · obtain ⟨x, hx, e1⟩ := h1 (by omega)
      have t := T.2.2.2.2.2.1 rfl
      obtain ⟨Kx, hKx, ex, -⟩ := HC x (by omega)
      have hkx := kd_of hKx ex
      have Wx := HW x (by omega)
      rw [hkx] at Wx
      obtain ⟨lx, g1, g2, g3, g4⟩ := ih x hx (by omega)
      rw [hkx] at g4
      obtain ⟨r, hr, e2⟩ := hk45 (by omega)
      rw [e1, e2, nI_cl (by omega), nI_cl (by omega)] at t
      unfold plx at t
      rw [hkx] at t
      obtain ⟨w, w1, w2, w3, w4⟩ := cW_row hN Hr hr
      obtain ⟨n, n1, n8, f1, f2, f3⟩ := Hr r hr
      rw [Nat.zero_add] at w2 w3 w4 f1 f2
      rw [Nat.zero_add] at w2 w3 w4
      refine ⟨(([101, 118, 101, 114, 121] ++ [32]) ++ (lsb m26 (8 * r) (m27 r).toNatClampNeg ++ [32])) ++ (brk (decide (rkn Kx < 3)) lx), ?_, okB_app (okB_app (by unfold okB; decide) (okB_app w4 (by unfold okB; decide))) (brk_ok g2), ?_, fun j hj ej => ?_⟩
      · rw [List.length_append, brk_len, List.length_append, List.length_append, List.length_append, w3, g1, t.2, dec_if]
        show 6 + ((m27 r).toNatClampNeg + 1) + _ = 7 + (m27 r).toNatClampNeg + _
        omega
      · rw [t.1]
        refine un_fin (by omega) (hkd6 (by omega)) Wx.1 (fun k q p a3 hk' hq' => ?_) (PrP_of hN (by
          by_cases q : rkn Kx < 3
          · exact Or.inl (Wx.2 (rk_hi Kx hKx q))
          · exact Or.inr (decide_eq_false q)) (fun q => by rw [hkx]; exact rk_hi Kx hKx (of_decide_eq_true q)) g3)
        have := c_un221 (i3 := nI nn) (l2 := l2) (c1 := c1) (c2 := c2) hN hz hnr (show x < sz by omega) hr hKx ex (cW_every hN) w1 w2 k q p a3 hk' hq'
        unfold f_P_printNode
        rw [C_sortOf_eq hz hc, C_leftOf_eq hz hc, C_rightOf_eq hz hc]
        simp only [Option.bind_some]
        rw [e0, if_neg (show ¬ nI 5 = (0 : Int32) by decide), if_neg (show ¬ nI 5 = (1 : Int32) by decide), if_neg (show ¬ nI 5 = (2 : Int32) by decide), if_neg (show ¬ nI 5 = (3 : Int32) by decide), if_neg (show ¬ nI 5 = (4 : Int32) by decide), if_pos (show nI 5 = (5 : Int32) by decide), e1, e2]
        rw [if_neg (show ¬ nI 5 = (4 : Int32) by decide)]
        exact this
      · obtain ⟨d1, d2, -, d4, d5, -⟩ := md j hj ej
        obtain ⟨i, i1, i2, i3⟩ := d5 (by omega)
        rw [if_pos (by decide), e1] at i3
        have ei := nI_in i1 (by omega) i3
        rw [t.1]
        refine PrM_of d1 (by decide) d2 (k_un Wx.1 (fun k0 q0 b72 b74 b75 b76 k q ou a74 a75 a76 hk' hq' => ?_) (g4 i i1 ei))
        unfold f_M_putOne_50
        rw [if_neg (show ¬ nI 5 = (0 : Int32) by decide), if_neg (show ¬ nI 5 = (1 : Int32) by decide), if_neg (show ¬ nI 5 = (2 : Int32) by decide), if_neg (show ¬ (6 : Int32) ≤ nI 5 by decide), if_neg (show ¬ nI 5 = (3 : Int32) by decide), if_neg (show ¬ nI 5 = (4 : Int32) by decide), show (7 : Int32) = nI 7 from rfl]
        exact m_124 (K := 5) (mW_7 hN) d1 i2 hq' hk' (Or.inr ⟨by decide, r, n, by omega, n8, by rw [d4 (by omega), e2], f1, f2, by rw [f1, nI_cl (by omega)]⟩) hN
    · obtain ⟨x, hx, e1⟩ := h1 (by omega)
      obtain ⟨y, hy, e2⟩ := h2 (by omega)
      have t := T.2.2.2.2.2.2.1 rfl
      rw [e1, e2, nI_cl (by omega), nI_cl (by omega)] at t
      obtain ⟨Kx, hKx, ex, -⟩ := HC x (by omega)
      have hkx := kd_of hKx ex
      have Wx := HW x (by omega)
      rw [hkx] at Wx
      obtain ⟨lx, g1, g2, g3, g4⟩ := ih x hx (by omega)
      rw [hkx] at g4
      obtain ⟨Ky, hKy, ey, -⟩ := HC y (by omega)
      have hky := kd_of hKy ey
      have Wy := HW y (by omega)
      rw [hky] at Wy
      obtain ⟨ly, k1, k2, k3, k4⟩ := ih y hy (by omega)
      rw [hky] at k4
      unfold plx at t
      rw [hkx, hky] at t
      refine ⟨brk (decide (rkn Kx < 2)) lx ++ (([32] ++ ([97, 110, 100] ++ [32])) ++ brk (decide (rkn Ky < 2 + 1)) ly), ?_, okB_app (brk_ok g2) (okB_app (by unfold okB; decide) (brk_ok k2)), ?_, fun j hj ej => ?_⟩
      · rw [List.length_append, List.length_append, brk_len, brk_len, g1, k1, t.2, dec_if, dec_if]
        rw [show (if rkn Ky < 2 + 1 then 2 else 0) = (if rkn Ky < 3 then 2 else 0) from rfl]
        show _ + (5 + _) = _
        omega
      · rw [t.1]
        refine bin_fin (jc := -3) (by omega) Wx.1 Wy.1 (fun q => Wx.2 (rk_hi Kx hKx (by have := of_decide_eq_true q; omega))) (fun q => Wy.2 (rk_hi Ky hKy (by have := of_decide_eq_true q; omega))) (fun o1 o4 p0 p3 i s k q p a3 hq' hs' hk' ha' => pc_and hN hq' hs' hk' ha') (c_and hz hc (by omega) (by omega) e0 e1 e2 hKx ex hKy ey) (PrP_of hN ?_ (fun q => by rw [hkx]; exact rk_hi Kx hKx (by have := of_decide_eq_true q; omega)) g3) (PrP_of hN ?_ (fun q => by rw [hky]; exact rk_hi Ky hKy (by have := of_decide_eq_true q; omega)) k3)
        · by_cases q : rkn Kx < 2
          · exact Or.inl (Wx.2 (rk_hi Kx hKx (by omega)))
          · exact Or.inr (decide_eq_false q)
        · by_cases q : rkn Ky < 2 + 1
          · exact Or.inl (Wy.2 (rk_hi Ky hKy (by omega)))
          · exact Or.inr (decide_eq_false q)
      · obtain ⟨d1, d2, -, -, d5, d6⟩ := md j hj ej
        obtain ⟨i, i1, i2, i3⟩ := d5 (by omega)
        rw [if_neg (by decide), e2] at i3
        have ei := nI_in i1 (by omega) i3
        obtain ⟨i', u1, u2, u3⟩ := d6 (by omega)
        rw [e1] at u3
        have eu := nI_in u1 (by omega) u3
        rw [t.1]
        refine PrM_of d1 (by decide) d2 (k_bin Wx.1 Wy.1 (by decide) (by decide) (mW_4 hN) (fun k0 q0 b72 b74 b75 b76 k q ou a74 a75 a76 hq' => ?_) (g4 i' u1 eu) (k4 i i1 ei))
        unfold f_M_putOne_50
        rw [if_neg (show ¬ nI 6 = (0 : Int32) by decide), if_neg (show ¬ nI 6 = (1 : Int32) by decide), if_neg (show ¬ nI 6 = (2 : Int32) by decide), if_pos (show (6 : Int32) ≤ nI 6 by decide), if_neg (nI_g d1 (by decide)), nI_cl (show o j < 2147483648 by omega), i2, M_later_eq (by omega), Option.bind_some]
        show ((f_M_later (1 : Int32) (32 : Int32) (0 : Int32) (nI (q + 1)) (upd a74 q 0) (upd a75 q (nI (o i))) (upd a76 q (nI (rkn 6) + 1))).bind _) = _
        rw [M_later_eq (by omega), Option.bind_some, if_pos (show nI 6 = (6 : Int32) by decide)]
        unfold f_M_putOne_205
        show ((f_M_later (2 : Int32) (4 : Int32) (0 : Int32) (nI (q + 1 + 1)) _ _ _).bind _) = _
        rw [M_later_eq (by omega), Option.bind_some]
        show ((f_M_later (1 : Int32) (32 : Int32) (0 : Int32) (nI (q + 1 + 1 + 1)) _ _ _).bind _) = _
        rw [M_later_eq (by omega), Option.bind_some, if_neg (nI_g d1 (by decide)), nI_cl (show o j < 2147483648 by omega), u2]
        show ((f_M_later (0 : Int32) (nI (o i')) (nI (rkn 6)) (nI (q + 1 + 1 + 1 + 1)) _ _ _).bind _) = _
        rw [M_later_eq (by omega), Option.bind_some]
        rfl
    · obtain ⟨x, hx, e1⟩ := h1 (by omega)
      obtain ⟨y, hy, e2⟩ := h2 (by omega)
      have t := T.2.2.2.2.2.2.2 rfl
      rw [e1, e2, nI_cl (by omega), nI_cl (by omega)] at t
      obtain ⟨Kx, hKx, ex, -⟩ := HC x (by omega)
      have hkx := kd_of hKx ex
      have Wx := HW x (by omega)
      rw [hkx] at Wx
      obtain ⟨lx, g1, g2, g3, g4⟩ := ih x hx (by omega)
      rw [hkx] at g4
      obtain ⟨Ky, hKy, ey, -⟩ := HC y (by omega)
      have hky := kd_of hKy ey
      have Wy := HW y (by omega)
      rw [hky] at Wy
      obtain ⟨ly, k1, k2, k3, k4⟩ := ih y hy (by omega)
      rw [hky] at k4
      unfold plx at t
      rw [hkx, hky] at t
      refine ⟨brk (decide (rkn Kx < 1)) lx ++ (([32] ++ ([111, 114] ++ [32])) ++ brk (decide (rkn Ky < 1 + 1)) ly), ?_, okB_app (brk_ok g2) (okB_app (by unfold okB; decide) (brk_ok k2)), ?_, fun j hj ej => ?_⟩
      · rw [List.length_append, List.length_append, brk_len, brk_len, g1, k1, t.2, dec_if, dec_if]
        rw [show (if rkn Ky < 1 + 1 then 2 else 0) = (if rkn Ky < 2 then 2 else 0) from rfl]
        show _ + (4 + _) = _
        omega
      · rw [t.1]
        refine bin_fin (jc := -4) (by omega) Wx.1 Wy.1 (fun q => Wx.2 (rk_hi Kx hKx (by have := of_decide_eq_true q; omega))) (fun q => Wy.2 (rk_hi Ky hKy (by have := of_decide_eq_true q; omega))) (fun o1 o4 p0 p3 i s k q p a3 hq' hs' hk' ha' => pc_or hN hq' hs' hk' ha') (c_or hz hc (by omega) (by omega) e0 e1 e2 hKx ex hKy ey) (PrP_of hN ?_ (fun q => by rw [hkx]; exact rk_hi Kx hKx (by have := of_decide_eq_true q; omega)) g3) (PrP_of hN ?_ (fun q => by rw [hky]; exact rk_hi Ky hKy (by have := of_decide_eq_true q; omega)) k3)
        · by_cases q : rkn Kx < 1
          · exact Or.inl (Wx.2 (rk_hi Kx hKx (by omega)))
          · exact Or.inr (decide_eq_false q)
        · by_cases q : rkn Ky < 1 + 1
          · exact Or.inl (Wy.2 (rk_hi Ky hKy (by omega)))
          · exact Or.inr (decide_eq_false q)
      · obtain ⟨d1, d2, -, -, d5, d6⟩ := md j hj ej
        obtain ⟨i, i1, i2, i3⟩ := d5 (by omega)
        rw [if_neg (by decide), e2] at i3
        have ei := nI_in i1 (by omega) i3
        obtain ⟨i', u1, u2, u3⟩ := d6 (by omega)
        rw [e1] at u3
        have eu := nI_in u1 (by omega) u3
        rw [t.1]
        refine PrM_of d1 (by decide) d2 (k_bin Wx.1 Wy.1 (by decide) (by decide) (mW_3 hN) (fun k0 q0 b72 b74 b75 b76 k q ou a74 a75 a76 hq' => ?_) (g4 i' u1 eu) (k4 i i1 ei))
        unfold f_M_putOne_50
        rw [if_neg (show ¬ nI 7 = (0 : Int32) by decide), if_neg (show ¬ nI 7 = (1 : Int32) by decide), if_neg (show ¬ nI 7 = (2 : Int32) by decide), if_pos (show (6 : Int32) ≤ nI 7 by decide), if_neg (nI_g d1 (by decide)), nI_cl (show o j < 2147483648 by omega), i2, M_later_eq (by omega), Option.bind_some]
        show ((f_M_later (1 : Int32) (32 : Int32) (0 : Int32) (nI (q + 1)) (upd a74 q 0) (upd a75 q (nI (o i))) (upd a76 q (nI (rkn 7) + 1))).bind _) = _
        rw [M_later_eq (by omega), Option.bind_some, if_neg (show ¬ nI 7 = (6 : Int32) by decide)]
        unfold f_M_putOne_205
        show ((f_M_later (2 : Int32) (3 : Int32) (0 : Int32) (nI (q + 1 + 1)) _ _ _).bind _) = _
        rw [M_later_eq (by omega), Option.bind_some]
        show ((f_M_later (1 : Int32) (32 : Int32) (0 : Int32) (nI (q + 1 + 1 + 1)) _ _ _).bind _) = _
        rw [M_later_eq (by omega), Option.bind_some, if_neg (nI_g d1 (by decide)), nI_cl (show o j < 2147483648 by omega), u2]
        show ((f_M_later (0 : Int32) (nI (o i')) (nI (rkn 7)) (nI (q + 1 + 1 + 1 + 1)) _ _ _).bind _) = _
        rw [M_later_eq (by omega), Option.bind_some]
        rfl
