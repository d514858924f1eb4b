/-! a concept printed by the class -/
def kd (c0 : Nat → Int32) (c : Nat) : Nat := (c0 c).toNatClampNeg
def rkn (K : Nat) : Nat := if K = 7 then 1 else if K = 6 then 2 else 3
def brk (b : Bool) (l : List Nat) : List Nat := if b = true then 40 :: (l ++ [41]) else l
def plx (c0 : Nat → Int32) (pl : Nat → Nat) (least c : Nat) : Nat := pl c + (if rkn (kd c0 c) < least then 2 else 0)
/-- words of names, of roles, of both; where the model's rows begin -/
def NmW (hK hL nn : Nat) (lw : Nat → Int64) (m23 m24 : Nat → Int32) : Prop := ∀ a, a < nn → ∃ n : Nat, 1 ≤ n ∧ n ≤ 8 ∧ m24 (hK + a) = nI n ∧ okR m23 (hL + 8 * a) n ∧ lw a = lN (pkb m23 (hL + 8 * a) n)
/-- a node's size as a tree, and the length of its text -/
def TrE (c0 c1 c2 : Nat → Int32) (wt pl nl rl : Nat → Nat) (c : Nat) : Prop := (kd c0 c = 0 → wt c = 1 ∧ pl c = nl (c1 c).toNatClampNeg) ∧ (kd c0 c = 1 → wt c = 1 ∧ pl c = 3) ∧ (kd c0 c = 2 → wt c = 1 ∧ pl c = 6) ∧ (kd c0 c = 3 → wt c = 1 + wt (c1 c).toNatClampNeg ∧ pl c = 4 + plx c0 pl 3 (c1 c).toNatClampNeg) ∧ (kd c0 c = 4 → wt c = 1 + wt (c1 c).toNatClampNeg ∧ pl c = 6 + rl (c2 c).toNatClampNeg + plx c0 pl 3 (c1 c).toNatClampNeg) ∧ (kd c0 c = 5 → wt c = 1 + wt (c1 c).toNatClampNeg ∧ pl c = 7 + rl (c2 c).toNatClampNeg + plx c0 pl 3 (c1 c).toNatClampNeg) ∧ (kd c0 c = 6 → wt c = 1 + wt (c1 c).toNatClampNeg + wt (c2 c).toNatClampNeg ∧ pl c = plx c0 pl 2 (c1 c).toNatClampNeg + 5 + plx c0 pl 3 (c2 c).toNatClampNeg) ∧ (kd c0 c = 7 → wt c = 1 + wt (c1 c).toNatClampNeg + wt (c2 c).toNatClampNeg ∧ pl c = plx c0 pl 1 (c1 c).toNatClampNeg + 4 + plx c0 pl 2 (c2 c).toNatClampNeg)
theorem brk_len (b : Bool) (l : List Nat) : (brk b l).length = l.length + (if b = true then 2 else 0) := by
  unfold brk
  cases b
  · rfl
  · rw [if_pos rfl, if_pos rfl]
    show (l ++ [41]).length + 1 = _
    rw [List.length_append]; rfl
theorem brk_ok {b : Bool} {l : List Nat} (h : okB l) : okB (brk b l) := by
  unfold brk
  cases b
  · exact h
  · rw [if_pos rfl]
    intro x hx
    rcases List.mem_cons.mp hx with e | e
    · rw [e]; decide
    · rcases List.mem_append.mp e with e | e
      · exact h x e
      · rw [List.mem_singleton] at e; rw [e]; decide
theorem P_await_eq {q : Nat} {v : Int32} {a3 : Nat → Int32} (hq : q < 500) : f_P_await v (nI q) a3 = some (nI (q + 1), upd a3 q v) := by
  unfold f_P_await
  rw [if_neg (nI_pos (by omega)), if_neg (show ¬ (500 : Int32) ≤ nI q from nI_ge hq (by decide)), if_neg (nI_g hq (by decide)), nI_cl (by omega), nI_m]
/-- a part that waits, in brackets or not -/
def itm (b : Bool) (c : Nat) (a3 : Nat → Int32) (q : Nat) : Prop := if b = true then a3 q = -2 ∧ a3 (q + 1) = nI c ∧ a3 (q + 2) = -1 else a3 q = nI c
def iln (b : Bool) : Nat := if b = true then 3 else 1
theorem itm_same {b : Bool} {c q : Nat} {a a' : Nat → Int32} (h : itm b c a q) (e : ∀ j, j < q + iln b → a' j = a j) : itm b c a' q := by
  unfold itm iln at *
  cases b
  · rw [if_neg (by decide)] at *
    rw [e q (by omega)]; exact h
  · rw [if_pos rfl] at *
    rw [e q (by omega), e (q + 1) (by omega), e (q + 2) (by omega)]; exact h
theorem P_part_eq {q c : Nat} {b : Bool} {a3 : Nat → Int32} (hq : q + 3 ≤ 500) : ∃ a3' : Nat → Int32, f_P_awaitPart (nI c) (if b = true then 1 else 0) (nI q) a3 = some (nI (q + iln b), a3') ∧ itm b c a3' q ∧ ∀ j, j < q → a3' j = a3 j := by
  unfold f_P_awaitPart f_P_awaitPart_10 itm iln
  cases b
  · rw [if_neg (show ¬ false = true by decide), if_pos rfl, P_await_eq (by omega), Option.bind_some, if_pos rfl, if_neg (by decide)]
    exact ⟨_, rfl, up_s, fun j hj => up_n (by omega)⟩
  · rw [if_pos rfl, if_neg i1z, P_await_eq (by omega), Option.bind_some]
    show ∃ a3', ((f_P_await (nI c) (nI (q + 1)) (upd a3 q (-2))).bind _) = _ ∧ _
    rw [P_await_eq (by omega), Option.bind_some, if_neg i1z]
    show ∃ a3', ((f_P_await (-1 : Int32) (nI (q + 1 + 1)) (upd (upd a3 q (-2)) (q + 1) (nI c))).bind _) = _ ∧ _
    rw [P_await_eq (by omega), Option.bind_some, if_pos rfl]
    refine ⟨upd (upd (upd a3 q (-2)) (q + 1) (nI c)) (q + 2) (-1), rfl, ?_, fun j hj => ?_⟩
    · rw [if_pos rfl]
      refine ⟨?_, ?_, up_s⟩
      · rw [up_n (by omega), up_n (by omega), up_s]
      · rw [up_n (by omega), up_s]
    · rw [up_n (by omega), up_n (by omega), up_n (by omega)]
/-- the class's steps that print what waits at place q, a node c that has the text l -/
def PrC (N : Nat) (i3 i5 : Int32) (l2 l4 : Nat → Int64) (sz : Nat) (c0 c1 c2 : Nat → Int32) (c W : Nat) (l : List Nat) : Prop := ∃ st : Nat, st + (if 6 ≤ kd c0 c then 2 else 0) ≤ 4 * W ∧ ∀ (o1 o4 : Int32) (p0 p3 : Nat → Int32) (i s k q : Nat) (p a3 : Nat → Int32), a3 q = nI c → q + 2 * W ≤ 500 → s + st ≤ 800 → k + l.length ≤ 2670 → ∃ a3' : Nat → Int32, f_P_printConcept_12 N i3 i5 l2 l4 (nI sz) c0 c1 c2 o1 o4 p0 p3 (i + st) (nI s) (nI k) (nI (q + 1)) p a3 = f_P_printConcept_12 N i3 i5 l2 l4 (nI sz) c0 c1 c2 o1 o4 p0 p3 i (nI (s + st)) (nI (k + l.length)) (nI q) (wr p k l) a3' ∧ ∀ j, j < q → a3' j = a3 j
theorem pc_node {N sz i s k q c : Nat} {i3 i5 o1 o4 : Int32} {l2 l4 : Nat → Int64} {c0 c1 c2 p0 p3 p a3 : Nat → Int32} (hq : q < 500) (hs : s < 800) (hc : c < 200) (h : a3 q = nI c) : f_P_printConcept_12 N i3 i5 l2 l4 (nI sz) c0 c1 c2 o1 o4 p0 p3 (i + 1) (nI s) (nI k) (nI (q + 1)) p a3 = (f_P_printNode N (nI c) i3 i5 l2 l4 (nI sz) c0 c1 c2 (nI k) (nI q) p a3).bind fun q118 => (f_P_printConcept_12 N i3 i5 l2 l4 (nI sz) c0 c1 c2 o1 o4 p0 p3 i (nI (s + 1)) q118.1 q118.2.1 q118.2.2.1 q118.2.2.2) := by
  have ne : ∀ v : Int32, v < 0 → ¬ nI c = v := fun v hv e => absurd (e ▸ hv) (nI_pos (by omega))
  rw [f_P_printConcept_12, if_neg (show ¬ (800 : Int32) ≤ nI s from nI_ge hs (by decide)), if_neg (nI_nle (show 0 < q + 1 by omega) (by omega)), nI_pred, if_neg (nI_g hq (by decide)), nI_cl (by omega), h, if_neg (ne _ (by decide)), if_neg (ne _ (by decide)), if_neg (ne _ (by decide)), if_neg (ne _ (by decide)), nI_m]
theorem pc_open {N sz i s k q : Nat} {i3 i5 o1 o4 : Int32} {l2 l4 : Nat → Int64} {c0 c1 c2 p0 p3 p a3 : Nat → Int32} (hN : 100000 ≤ N) (hq : q < 500) (hs : s < 800) (hk : k + 1 ≤ 2670) (h : a3 q = -1) : f_P_printConcept_12 N i3 i5 l2 l4 (nI sz) c0 c1 c2 o1 o4 p0 p3 (i + 1) (nI s) (nI k) (nI (q + 1)) p a3 = f_P_printConcept_12 N i3 i5 l2 l4 (nI sz) c0 c1 c2 o1 o4 p0 p3 i (nI (s + 1)) (nI (k + 1)) (nI q) (wr p k [40]) a3 := by
  rw [f_P_printConcept_12, if_neg (show ¬ (800 : Int32) ≤ nI s from nI_ge hs (by decide)), if_neg (nI_nle (show 0 < q + 1 by omega) (by omega)), nI_pred, if_neg (nI_g hq (by decide)), nI_cl (by omega), h, if_neg (by decide), if_neg (by decide), if_neg (by decide), if_pos rfl, nI_m, show (40 : Int64) = lN 40 from rfl, cW_sign hN 40 (by decide) (by decide) k p hk, Option.bind_some]
  rfl
theorem pc_close {N sz i s k q : Nat} {i3 i5 o1 o4 : Int32} {l2 l4 : Nat → Int64} {c0 c1 c2 p0 p3 p a3 : Nat → Int32} (hN : 100000 ≤ N) (hq : q < 500) (hs : s < 800) (hk : k + 1 ≤ 2670) (h : a3 q = -2) : f_P_printConcept_12 N i3 i5 l2 l4 (nI sz) c0 c1 c2 o1 o4 p0 p3 (i + 1) (nI s) (nI k) (nI (q + 1)) p a3 = f_P_printConcept_12 N i3 i5 l2 l4 (nI sz) c0 c1 c2 o1 o4 p0 p3 i (nI (s + 1)) (nI (k + 1)) (nI q) (wr p k [41]) a3 := by
  rw [f_P_printConcept_12, if_neg (show ¬ (800 : Int32) ≤ nI s from nI_ge hs (by decide)), if_neg (nI_nle (show 0 < q + 1 by omega) (by omega)), nI_pred, if_neg (nI_g hq (by decide)), nI_cl (by omega), h, if_neg (by decide), if_neg (by decide), if_pos rfl, nI_m, show (41 : Int64) = lN 41 from rfl, cW_sign hN 41 (by decide) (by decide) k p hk, Option.bind_some]
  rfl
theorem pc_and {N sz i s k q : Nat} {i3 i5 o1 o4 : Int32} {l2 l4 : Nat → Int64} {c0 c1 c2 p0 p3 p a3 : Nat → Int32} (hN : 100000 ≤ N) (hq : q < 500) (hs : s < 800) (hk : k + 5 ≤ 2670) (h : a3 q = -3) : f_P_printConcept_12 N i3 i5 l2 l4 (nI sz) c0 c1 c2 o1 o4 p0 p3 (i + 1) (nI s) (nI k) (nI (q + 1)) p a3 = f_P_printConcept_12 N i3 i5 l2 l4 (nI sz) c0 c1 c2 o1 o4 p0 p3 i (nI (s + 1)) (nI (k + 5)) (nI q) (wr p k [32, 97, 110, 100, 32]) a3 := by
  rw [f_P_printConcept_12, if_neg (show ¬ (800 : Int32) ≤ nI s from nI_ge hs (by decide)), if_neg (nI_nle (show 0 < q + 1 by omega) (by omega)), nI_pred, if_neg (nI_g hq (by decide)), nI_cl (by omega), h, if_neg (by decide), if_pos rfl, nI_m, show (6385252 : Int64) = lN 6385252 from rfl, cJ_of hN (cW_and hN) (by show k + 5 ≤ 2670; exact hk), Option.bind_some]
  rfl
theorem pc_or {N sz i s k q : Nat} {i3 i5 o1 o4 : Int32} {l2 l4 : Nat → Int64} {c0 c1 c2 p0 p3 p a3 : Nat → Int32} (hN : 100000 ≤ N) (hq : q < 500) (hs : s < 800) (hk : k + 4 ≤ 2670) (h : a3 q = -4) : f_P_printConcept_12 N i3 i5 l2 l4 (nI sz) c0 c1 c2 o1 o4 p0 p3 (i + 1) (nI s) (nI k) (nI (q + 1)) p a3 = f_P_printConcept_12 N i3 i5 l2 l4 (nI sz) c0 c1 c2 o1 o4 p0 p3 i (nI (s + 1)) (nI (k + 4)) (nI q) (wr p k [32, 111, 114, 32]) a3 := by
  rw [f_P_printConcept_12, if_neg (show ¬ (800 : Int32) ≤ nI s from nI_ge hs (by decide)), if_neg (nI_nle (show 0 < q + 1 by omega) (by omega)), nI_pred, if_neg (nI_g hq (by decide)), nI_cl (by omega), h, if_pos rfl, nI_m, show (28530 : Int64) = lN 28530 from rfl, cJ_of hN (cW_or hN) (by show k + 4 ≤ 2670; exact hk), Option.bind_some]
  rfl
/-- a part that waits, run -/
def PrP (N : Nat) (i3 i5 : Int32) (l2 l4 : Nat → Int64) (sz : Nat) (c0 c1 c2 : Nat → Int32) (c W : Nat) (b : Bool) (l : List Nat) : Prop := ∃ st : Nat, st ≤ 4 * W ∧ ∀ (o1 o4 : Int32) (p0 p3 : Nat → Int32) (i s k q : Nat) (p a3 : Nat → Int32), itm b c a3 q → q + 2 * W + (if b = true then 1 else 0) ≤ 500 → s + st ≤ 800 → k + (brk b l).length ≤ 2670 → ∃ a3' : Nat → Int32, f_P_printConcept_12 N i3 i5 l2 l4 (nI sz) c0 c1 c2 o1 o4 p0 p3 (i + st) (nI s) (nI k) (nI (q + iln b)) p a3 = f_P_printConcept_12 N i3 i5 l2 l4 (nI sz) c0 c1 c2 o1 o4 p0 p3 i (nI (s + st)) (nI (k + (brk b l).length)) (nI q) (wr p k (brk b l)) a3' ∧ ∀ j, j < q → a3' j = a3 j
theorem PrP_of {N sz c W : Nat} {i3 i5 : Int32} {l2 l4 : Nat → Int64} {c0 c1 c2 : Nat → Int32} {b : Bool} {l : List Nat} (hN : 100000 ≤ N) (hW : 3 ≤ W ∨ b = false) (hb : b = true → 6 ≤ kd c0 c) (h : PrC N i3 i5 l2 l4 sz c0 c1 c2 c W l) : PrP N i3 i5 l2 l4 sz c0 c1 c2 c W b l := by
  obtain ⟨st, s1, s2⟩ := h
  cases b with
  | false =>
    refine ⟨st, by omega, fun o1 o4 p0 p3 i s k q p a3 hi hq hs hk => ?_⟩
    have hi' : a3 q = nI c := hi
    exact s2 o1 o4 p0 p3 i s k q p a3 hi' (by simpa using hq) hs hk
  | true =>
    rw [if_pos (hb rfl)] at s1
    refine ⟨st + 2, s1, fun o1 o4 p0 p3 i s k q p a3 hi hq hs hk => ?_⟩
    have hi' : a3 q = -2 ∧ a3 (q + 1) = nI c ∧ a3 (q + 2) = -1 := hi
    have hq' : q + 2 * W + 1 ≤ 500 := hq
    have hW' : 3 ≤ W := hW.elim id (fun z => by cases z)
    rw [brk_len] at hk
    have hk' : k + (l.length + 2) ≤ 2670 := hk
    obtain ⟨a3', e1, e2⟩ := s2 o1 o4 p0 p3 (i + 1) (s + 1) (k + 1) (q + 1) (wr p k [40]) a3 hi'.2.1 (by omega) (by omega) (by omega)
    refine ⟨a3', ?_, fun j hj => e2 j (by omega)⟩
    show f_P_printConcept_12 N i3 i5 l2 l4 (nI sz) c0 c1 c2 o1 o4 p0 p3 (i + (st + 2)) (nI s) (nI k) (nI (q + 2 + 1)) p a3 = _
    rw [show i + (st + 2) = (i + 1 + st) + 1 by omega, pc_open hN (by omega) (by omega) (by omega) hi'.2.2]
    rw [show q + 2 = q + 1 + 1 by omega, e1]
    rw [pc_close hN (by omega) (by omega) (by omega) (by rw [e2 q (by omega)]; exact hi'.1)]
    have el : brk true l = [40] ++ (l ++ [41]) := rfl
    rw [brk_len, el, wr_app, wr_app, show s + 1 + st + 1 = s + (st + 2) by omega, show k + 1 + l.length + 1 = k + (l.length + if true = true then 2 else 0) by show _ = k + (l.length + 2); omega]
    rfl
