/-! a node printed by both -/
theorem k_leaf {N m K : Nat} {m8 m9 m10 m23 m24 m26 m27 : Nat → Int32} {T : List Nat} (hp : ∀ (k0 q0 : Int32) (b72 b74 b75 b76 : Nat → Int32) (k q : Nat) (ou a74 a75 a76 : Nat → Int32), k + T.length ≤ 2670 → f_M_putOne_50 N k0 q0 wordsM m8 m9 m10 m23 m24 m26 m27 b72 b74 b75 b76 (nI m) (nI K) (nI (rkn K)) (nI k) (nI q) ou a74 a75 a76 = some (nI (k + T.length), nI q, wr ou k T, a74, a75, a76)) : PrK N m8 m9 m10 m23 m24 m26 m27 m K 1 T := by
  refine ⟨0, by omega, fun o73 o77 k0 q0 p72 p74 p75 p76 b72 b74 b75 b76 i k q ou a74 a75 a76 hq hk => ⟨a74, a75, a76, ?_, fun x _ => ⟨rfl, rfl, rfl⟩⟩⟩
  rw [hp k0 q0 b72 b74 b75 b76 k q ou a74 a75 a76 hk, Option.bind_some]
  rfl
theorem k_un {N m K x Kx Wx : Nat} {m8 m9 m10 m23 m24 m26 m27 : Nat → Int32} {T lx : List Nat} (hWx : 1 ≤ Wx) (hp : ∀ (k0 q0 : Int32) (b72 b74 b75 b76 : Nat → Int32) (k q : Nat) (ou a74 a75 a76 : Nat → Int32), k + T.length ≤ 2670 → q < 2000 → f_M_putOne_50 N k0 q0 wordsM m8 m9 m10 m23 m24 m26 m27 b72 b74 b75 b76 (nI m) (nI K) (nI (rkn K)) (nI k) (nI q) ou a74 a75 a76 = some (nI (k + T.length), nI (q + 1), wr ou k T, upd a74 q 0, upd a75 q (nI x), upd a76 q (nI 3))) (h : PrM N m8 m9 m10 m23 m24 m26 m27 x Kx Wx lx) : PrK N m8 m9 m10 m23 m24 m26 m27 m K (1 + Wx) (T ++ brk (decide (rkn Kx < 3)) lx) := by
  obtain ⟨st, s1, s2⟩ := h 3 (by decide) (by decide)
  refine ⟨st, by omega, fun o73 o77 k0 q0 p72 p74 p75 p76 b72 b74 b75 b76 i k q ou a74 a75 a76 hq hk => ?_⟩
  rw [List.length_append] at hk
  rw [hp k0 q0 b72 b74 b75 b76 k q ou a74 a75 a76 (by omega) (by omega), Option.bind_some]
  obtain ⟨x74, x75, x76, e1, e2⟩ := s2 o73 o77 p72 p74 p75 p76 i (k + T.length) q (wr ou k T) (upd a74 q 0) (upd a75 q (nI x)) (upd a76 q (nI 3)) up_s up_s up_s (by omega) (by omega)
  refine ⟨x74, x75, x76, ?_, fun y hy => ?_⟩
  · show f_M_putConcept_12 N o73 o77 wordsM m8 m9 m10 m23 m24 m26 m27 p72 p74 p75 p76 (i + st) (nI (k + T.length)) (nI (q + 1)) (wr ou k T) (upd a74 q 0) (upd a75 q (nI x)) (upd a76 q (nI 3)) = _
    rw [e1, List.length_append, wr_app, Nat.add_assoc]
  · have := e2 y hy
    rw [up_n (by omega), up_n (by omega), up_n (by omega)] at this
    exact this
/-- five entries put on the model's stack -/
def up5 (f : Nat → Int32) (q : Nat) (v0 v1 v2 v3 v4 : Int32) : Nat → Int32 := upd (upd (upd (upd (upd f q v0) (q + 1) v1) (q + 2) v2) (q + 3) v3) (q + 4) v4
theorem up5_at {f : Nat → Int32} {q : Nat} {v0 v1 v2 v3 v4 : Int32} : up5 f q v0 v1 v2 v3 v4 q = v0 ∧ up5 f q v0 v1 v2 v3 v4 (q + 1) = v1 ∧ up5 f q v0 v1 v2 v3 v4 (q + 2) = v2 ∧ up5 f q v0 v1 v2 v3 v4 (q + 3) = v3 ∧ up5 f q v0 v1 v2 v3 v4 (q + 4) = v4 ∧ ∀ x, x < q → up5 f q v0 v1 v2 v3 v4 x = f x := by
  unfold up5
  refine ⟨?_, ?_, ?_, ?_, up_s, fun x hx => ?_⟩
  · rw [up_n (by omega), up_n (by omega), up_n (by omega), up_n (by omega), up_s]
  · rw [up_n (by omega), up_n (by omega), up_n (by omega), up_s]
  · rw [up_n (by omega), up_n (by omega), up_s]
  · rw [up_n (by omega), up_s]
  · rw [up_n (by omega), up_n (by omega), up_n (by omega), up_n (by omega), up_n (by omega)]
theorem k_bin {N m K x y Kx Ky Wx Wy r w : Nat} {m8 m9 m10 m23 m24 m26 m27 : Nat → Int32} {lw lx ly : List Nat} (hWx : 1 ≤ Wx) (hWy : 1 ≤ Wy) (hr1 : 1 ≤ r) (hr2 : r ≤ 2) (hmw : mW N w lw) (hp : ∀ (k0 q0 : Int32) (b72 b74 b75 b76 : Nat → Int32) (k q : Nat) (ou a74 a75 a76 : Nat → Int32), q + 5 ≤ 2000 → f_M_putOne_50 N k0 q0 wordsM m8 m9 m10 m23 m24 m26 m27 b72 b74 b75 b76 (nI m) (nI K) (nI (rkn K)) (nI k) (nI q) ou a74 a75 a76 = some (nI k, nI (q + 5), ou, up5 a74 q 0 1 2 1 0, up5 a75 q (nI y) 32 (nI w) 32 (nI x), up5 a76 q (nI (r + 1)) 0 0 0 (nI r))) (hx : PrM N m8 m9 m10 m23 m24 m26 m27 x Kx Wx lx) (hy : PrM N m8 m9 m10 m23 m24 m26 m27 y Ky Wy ly) : PrK N m8 m9 m10 m23 m24 m26 m27 m K (1 + Wx + Wy) (brk (decide (rkn Kx < r)) lx ++ (([32] ++ (lw ++ [32])) ++ brk (decide (rkn Ky < r + 1)) ly)) := by
  obtain ⟨sx, x1, x2⟩ := hx r hr1 (by omega)
  obtain ⟨sy, y1, y2⟩ := hy (r + 1) (by omega) (by omega)
  refine ⟨sx + 3 + sy, by omega, fun o73 o77 k0 q0 p72 p74 p75 p76 b72 b74 b75 b76 i k q ou a74 a75 a76 hq hk => ?_⟩
  rw [List.length_append, List.length_append, List.length_append, List.length_append] at hk
  have hk' : k + ((brk (decide (rkn Kx < r)) lx).length + (1 + (lw.length + 1) + (brk (decide (rkn Ky < r + 1)) ly).length)) ≤ 2670 := hk
  rw [hp k0 q0 b72 b74 b75 b76 k q ou a74 a75 a76 (by omega), Option.bind_some]
  have u74 := up5_at (f := a74) (q := q) (v0 := 0) (v1 := 1) (v2 := 2) (v3 := 1) (v4 := 0)
  have u75 := up5_at (f := a75) (q := q) (v0 := nI y) (v1 := 32) (v2 := nI w) (v3 := 32) (v4 := nI x)
  have u76 := up5_at (f := a76) (q := q) (v0 := nI (r + 1)) (v1 := 0) (v2 := 0) (v3 := 0) (v4 := nI r)
  obtain ⟨d74, d75, d76, e1, e2⟩ := x2 o73 o77 p72 p74 p75 p76 (i + sy + 3) k (q + 4) ou _ _ _ u74.2.2.2.2.1 u75.2.2.2.2.1 u76.2.2.2.2.1 (by omega) (by omega)
  have g3 := e2 (q + 3) (by omega)
  have g2 := e2 (q + 2) (by omega)
  have g1 := e2 (q + 1) (by omega)
  have g0 := e2 q (by omega)
  obtain ⟨h74, h75, h76, f1, f2⟩ := y2 o73 o77 p72 p74 p75 p76 i (k + (brk (decide (rkn Kx < r)) lx).length + 1 + lw.length + 1) q (wr (wr (wr (wr ou k (brk (decide (rkn Kx < r)) lx)) (k + (brk (decide (rkn Kx < r)) lx).length) [32]) (k + (brk (decide (rkn Kx < r)) lx).length + 1) lw) (k + (brk (decide (rkn Kx < r)) lx).length + 1 + lw.length) [32]) d74 d75 d76 (g0.1.trans u74.1) (g0.2.1.trans u75.1) (g0.2.2.trans u76.1) (by omega) (by omega)
  refine ⟨h74, h75, h76, ?_, fun z hz => ?_⟩
  · show f_M_putConcept_12 N o73 o77 wordsM m8 m9 m10 m23 m24 m26 m27 p72 p74 p75 p76 (i + (sx + 3 + sy)) (nI k) (nI (q + 4 + 1)) ou _ _ _ = _
    rw [show i + (sx + 3 + sy) = i + sy + 3 + sx by omega, e1]
    rw [show i + sy + 3 = (i + sy + 2) + 1 by omega, show q + 4 = q + 3 + 1 by omega, pm_sign (b := 32) (by omega) (by omega) (by decide) (g3.1.trans u74.2.2.2.1) (g3.2.1.trans u75.2.2.2.1)]
    rw [show i + sy + 2 = (i + sy + 1) + 1 by omega, show q + 3 = q + 2 + 1 by omega, pm_word hmw (by omega) (by omega) (g2.1.trans u74.2.2.1) (g2.2.1.trans u75.2.2.1)]
    rw [show q + 2 = q + 1 + 1 by omega, pm_sign (b := 32) (by omega) (by omega) (by decide) (g1.1.trans u74.2.1) (g1.2.1.trans u75.2.1)]
    rw [f1, wr_app, wr_app, wr_app, wr_app, List.length_append, List.length_append, List.length_append, List.length_append]
    have l1 : [32].length = 1 := rfl
    rw [l1, show k + (brk (decide (rkn Kx < r)) lx).length + 1 + lw.length + 1 + (brk (decide (rkn Ky < r + 1)) ly).length = k + ((brk (decide (rkn Kx < r)) lx).length + (1 + (lw.length + 1) + (brk (decide (rkn Ky < r + 1)) ly).length)) by omega, show k + (brk (decide (rkn Kx < r)) lx).length + (1 + (lw.length + 1)) = k + (brk (decide (rkn Kx < r)) lx).length + 1 + lw.length + 1 by omega]
  · have a := e2 z (by omega)
    have b := f2 z hz
    exact ⟨b.1.trans (a.1.trans (u74.2.2.2.2.2 z hz)), b.2.1.trans (a.2.1.trans (u75.2.2.2.2.2 z hz)), b.2.2.trans (a.2.2.trans (u76.2.2.2.2.2 z hz))⟩
theorem m_124 {N m K k q w x : Nat} {lw T : List Nat} {k0 q0 v3 : Int32} {m8 m9 m10 m23 m24 m26 m27 b72 b74 b75 b76 ou a74 a75 a76 : Nat → Int32} (hmw : mW N w lw) (hm : m < 400) (e10 : m10 m = nI x) (hq : q < 2000) (hk : k + T.length ≤ 2670) (h : (v3 = 3 ∧ T = lw ++ [32]) ∨ (¬ v3 = 3 ∧ ∃ (r n : Nat), r < 6 ∧ n ≤ 8 ∧ m9 m = nI r ∧ m27 r = nI n ∧ okR m26 (8 * r) n ∧ T = (lw ++ [32]) ++ (lsb m26 (8 * r) n ++ [32])) ) (hN : 100000 ≤ N) : f_M_putOne_124 N k0 q0 wordsM m8 m9 m10 m23 m24 m26 m27 b72 b74 b75 b76 (nI m) v3 (nI w) (nI k) (nI q) ou a74 a75 a76 = some (nI (k + T.length), nI (q + 1), wr ou k T, upd a74 q 0, upd a75 q (nI x), upd a76 q (nI 3)) := by
  have h154 : ∀ (k1 : Nat) (u : Nat → Int32), f_M_putOne_154 N k0 q0 wordsM m8 m9 m10 m23 m24 m26 m27 b72 b74 b75 b76 (nI m) (nI k1) (nI q) u a74 a75 a76 = some (nI k1, nI (q + 1), u, upd a74 q 0, upd a75 q (nI x), upd a76 q (nI 3)) := by
    intro k1 u
    unfold f_M_putOne_154
    rw [if_neg (nI_g hm (by decide)), nI_cl (show m < 2147483648 by omega), e10, M_later_eq hq, Option.bind_some]
    rfl
  unfold f_M_putOne_124
  rcases h with ⟨h, hT⟩ | ⟨h, r, n, hr, hn, e9, e27, hok, hT⟩
  · rw [hT, List.length_append] at hk
    have hk' : k + (lw.length + 1) ≤ 2670 := hk
    rw [hmw k ou (by omega), Option.bind_some]
    show ((f_M_put (32 : Int32) (nI (k + lw.length)) (wr ou k lw)).bind _) = _
    rw [show (32 : Int32) = nI 32 from rfl, M_put_eq (by omega) (by decide), Option.bind_some, if_pos h, h154, hT, List.length_append, wr_app]
    rfl
  · rw [hT, List.length_append, List.length_append, List.length_append, lsb_len] at hk
    have hk' : k + (lw.length + 1 + (n + 1)) ≤ 2670 := hk
    rw [hmw k ou (by omega), Option.bind_some]
    show ((f_M_put (32 : Int32) (nI (k + lw.length)) (wr ou k lw)).bind _) = _
    rw [show (32 : Int32) = nI 32 from rfl, M_put_eq (by omega) (by decide), Option.bind_some, if_neg h, if_neg (nI_g hm (by decide)), nI_cl (show m < 2147483648 by omega), e9]
    show ((f_M_putRole N (nI r) (nI (k + lw.length + 1)) m26 m27 (upd (wr ou k lw) (k + lw.length) (nI 32))).bind _) = _
    rw [M_role_eq hN hr hn e27 hok (by omega), Option.bind_some]
    show ((f_M_put (nI 32) (nI (k + lw.length + 1 + n)) _).bind _) = _
    rw [M_put_eq (by omega) (by decide), Option.bind_some, h154, hT, wr_app, wr_app, wr_app, List.length_append, List.length_append, List.length_append, lsb_len]
    rw [show k + (lw.length + [32].length + (n + [32].length)) = k + lw.length + 1 + n + 1 by show k + (lw.length + 1 + (n + 1)) = _; omega, show k + (lw.length + [32].length) = k + lw.length + 1 by show k + (lw.length + 1) = _; omega]
    rfl
