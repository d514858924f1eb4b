/-! the tape and the out: feed, cut, place, out, back -/
def isB (v : Int32) : Prop := vp_nar .byte v = v ∧ fits .byte (.int v) = true
theorem isB_of (r : Int32) : isB (vp_nar .byte r.toInt8.toInt32) := by
  rw [pk_vb]; exact ⟨pk_vb r, pk_fb r⟩
/-- the tape of both: n bytes, alike -/
def RTape (n : Nat) (tx t0 : Nat → Int32) : Prop := n ≤ 2000 ∧ ∀ j, j < n → tx j = t0 j ∧ isB (tx j)
/-- the out of both: k bytes, alike -/
def ROut (k : Nat) (p0 o0 : Nat → Int32) : Prop := k ≤ 2670 ∧ ∀ j, j < k → p0 j = o0 j ∧ isB (p0 j)
theorem nI_m (n : Nat) : nI n + 1 = nI (n + 1) := nI_1 n
theorem nI_cl {n : Nat} (h : n < 2147483648) : (nI n).toNatClampNeg = n := nI_clamp h
theorem nI_g {n M : Nat} (h : n < M) (hM : M < 2147483648) : ¬ (nI n < 0 ∨ M ≤ (nI n).toNatClampNeg) := nI_in h hM
def by4 (a k : Int32) : Int32 := vp_nar .byte (((a >>> (k &&& 31))).toInt8.toInt32)
theorem X_f1 {N i : Nat} {i1 a v2 : Int32} {t tx : Nat → Int32} {n : Nat} (hv : ¬ v2 < 0) (hn : n < 2000) : f_X_feedOne_3 N i1 t a (i + 1) v2 (nI n) tx = f_X_feedOne_3 N i1 t a i (v2 + (-8 : Int32)) (nI (n + 1)) (upd tx n (by4 a v2)) := by
  rw [f_X_feedOne_3, if_neg hv, if_neg (nI_pos (n := n) (by omega)), if_neg (show ¬ (2000 : Int32) ≤ nI n from nI_ge hn (by decide)), if_neg (nI_g hn (by decide)), nI_cl (by omega), nI_m]
  rfl
theorem X_f4 {N : Nat} {a : Int32} {tx : Nat → Int32} {n : Nat} (hN : 100000 ≤ N) (hn : n + 4 ≤ 2000) : f_X_feedOne N a (nI n) tx = some (nI (n + 4), upd (upd (upd (upd tx n (by4 a 24)) (n + 1) (by4 a 16)) (n + 2) (by4 a 8)) (n + 3) (by4 a 0)) := by
  obtain ⟨M, rfl⟩ : ∃ M, N = M + 5 := ⟨N - 5, by omega⟩
  unfold f_X_feedOne
  rw [X_f1 (by decide) (by omega), X_f1 (by decide) (by omega), X_f1 (by decide) (by omega), X_f1 (by decide) (by omega), f_X_feedOne_3, if_pos (by decide)]
  rfl
theorem M_f1 {N i : Nat} {i1 a v2 : Int32} {t tx : Nat → Int32} {n : Nat} (hv : ¬ v2 < 0) (hn : n < 2000) : f_M_four_2 N i1 t a (i + 1) v2 (nI n) tx = f_M_four_2 N i1 t a i (v2 + (-1 : Int32)) (nI (n + 1)) (upd tx n (by4 a ((8 : Int32) * v2))) := by
  rw [f_M_four_2, if_neg hv, if_neg (nI_g hn (by decide)), nI_cl (by omega), nI_m]
  rfl
theorem M_f4 {N : Nat} {a : Int32} {tx : Nat → Int32} {n : Nat} (hN : 100000 ≤ N) (hn : n + 4 ≤ 2000) : f_M_four N a (nI n) tx = some (nI (n + 4), upd (upd (upd (upd tx n (by4 a 24)) (n + 1) (by4 a 16)) (n + 2) (by4 a 8)) (n + 3) (by4 a 0)) := by
  obtain ⟨M, rfl⟩ : ∃ M, N = M + 5 := ⟨N - 5, by omega⟩
  unfold f_M_four
  rw [M_f1 (by decide) (by omega), M_f1 (by decide) (by omega), M_f1 (by decide) (by omega), M_f1 (by decide) (by omega), f_M_four_2, if_pos (by decide)]
  rfl
theorem RTape.put {n : Nat} {tx t0 : Nat → Int32} (h : RTape n tx t0) (hn : n < 2000) (a k : Int32) : RTape (n + 1) (upd tx n (by4 a k)) (upd t0 n (by4 a k)) := by
  refine ⟨by omega, fun j hj => ?_⟩
  unfold upd
  by_cases e : j = n
  · rw [if_pos e, if_pos e]; exact ⟨rfl, isB_of _⟩
  · rw [if_neg e, if_neg e]; exact h.2 j (by omega)
theorem RTape.put4 {n : Nat} {tx t0 : Nat → Int32} (h : RTape n tx t0) (hn : n + 4 ≤ 2000) (a : Int32) : RTape (n + 4) (upd (upd (upd (upd tx n (by4 a 24)) (n + 1) (by4 a 16)) (n + 2) (by4 a 8)) (n + 3) (by4 a 0)) (upd (upd (upd (upd t0 n (by4 a 24)) (n + 1) (by4 a 16)) (n + 2) (by4 a 8)) (n + 3) (by4 a 0)) :=
  (((h.put (by omega) a 24).put (by omega) a 16).put (by omega) a 8).put (by omega) a 0
theorem feed_eq {N n : Nat} {tx t0 : Nat → Int32} (a1 a2 a3 a4 a5 : Int32) (hN : 100000 ≤ N) (h : RTape n tx t0) : ∃ (r : Int32) (n' : Nat) (tx' t0' : Nat → Int32), f_X_feed N a1 a2 a3 a4 a5 (nI n) tx = some (r, nI n', tx') ∧ f_M_feed N a1 a2 a3 a4 a5 (nI n) t0 = some (r, nI n', t0') ∧ RTape n' tx' t0' := by
  unfold f_X_feed f_M_feed
  have hle := h.1
  by_cases hn : n ≤ 1980
  · rw [if_pos (show nI n ≤ (1980 : Int32) from nI_le hn (by decide)), if_pos (show nI n + (20 : Int32) ≤ (2000 : Int32) from (nI_add n 20) ▸ nI_le (show n + 20 ≤ 2000 by omega) (by decide))]
    simp only [X_f4 hN (show n + 4 ≤ 2000 by omega), X_f4 hN (show n + 4 + 4 ≤ 2000 by omega), X_f4 hN (show n + 4 + 4 + 4 ≤ 2000 by omega), X_f4 hN (show n + 4 + 4 + 4 + 4 ≤ 2000 by omega), X_f4 hN (show n + 4 + 4 + 4 + 4 + 4 ≤ 2000 by omega), Option.bind_some, M_f4 hN (show n + 4 ≤ 2000 by omega), M_f4 hN (show n + 4 + 4 ≤ 2000 by omega), M_f4 hN (show n + 4 + 4 + 4 ≤ 2000 by omega), M_f4 hN (show n + 4 + 4 + 4 + 4 ≤ 2000 by omega), M_f4 hN (show n + 4 + 4 + 4 + 4 + 4 ≤ 2000 by omega)]
    exact ⟨_, _, _, _, rfl, rfl, ((((h.put4 (by omega) a1).put4 (by omega) a2).put4 (by omega) a3).put4 (by omega) a4).put4 (by omega) a5⟩
  · rw [if_neg (show ¬ nI n ≤ (1980 : Int32) from nI_ge (show 1980 < n by omega) (by omega)), if_neg (show ¬ nI n + (20 : Int32) ≤ (2000 : Int32) from (nI_add n 20) ▸ nI_ge (show 2000 < n + 20 by omega) (by omega))]
    exact ⟨_, _, _, _, rfl, rfl, h⟩
theorem fa_wide (a b : Int32) : a.toInt64 < b.toInt64 ↔ a < b := by rw [Int64.lt_iff_toInt_lt, Int32.lt_iff_toInt_lt, Int32.toInt_toInt64, Int32.toInt_toInt64]
theorem fa_no {a b : Int32} (h : a < b) (z : b ≤ a) : False := by
  rw [Int32.lt_iff_toInt_lt] at h
  rw [Int32.le_iff_toInt_le] at z
  omega
theorem fa_yes {a b : Int32} (h : ¬ a < b) : b ≤ a := by
  rw [Int32.lt_iff_toInt_lt] at h
  rw [Int32.le_iff_toInt_le]
  omega
/-- 'in' of the model, over ints -/
theorem M_in_eq (v lo hi : Int32) : f_M_in v.toInt64 lo.toInt64 hi.toInt64 = some (if lo ≤ v ∧ v ≤ hi then 1 else 0) := by
  unfold f_M_in
  by_cases h1 : v < lo
  · rw [if_pos ((fa_wide v lo).mpr h1), if_neg (fun z => fa_no h1 z.1)]
  · rw [if_neg (fun z => h1 ((fa_wide v lo).mp z))]
    by_cases h2 : hi < v
    · rw [if_pos ((fa_wide hi v).mpr h2), if_neg (fun z => fa_no h2 z.2)]
    · rw [if_neg (fun z => h2 ((fa_wide hi v).mp z)), if_pos ⟨fa_yes h1, fa_yes h2⟩]
theorem cut_eq {n : Nat} {tx t0 : Nat → Int32} (a : Int32) (h : RTape n tx t0) : ∃ (r : Int32) (n' : Nat), f_X_cut a (nI n) = some (r, nI n') ∧ f_M_cut a (nI n) = some (r, nI n') ∧ RTape n' tx t0 := by
  unfold f_X_cut f_M_cut
  have e0 : ((0 : Int64)) = (0 : Int32).toInt64 := rfl
  rw [e0, M_in_eq]
  have hle := h.1
  by_cases h1 : a < 0
  · rw [if_pos h1, if_neg (fun z => fa_no h1 z.1)]
    exact ⟨_, n, rfl, rfl, h⟩
  · rw [if_neg h1]
    obtain ⟨j, hj, rfl⟩ := nI_of h1
    by_cases h2 : nI j ≤ nI n
    · rw [if_pos h2, if_pos ⟨fa_yes h1, h2⟩]
      have h3 : j ≤ n := (nI_leI (by omega) (by omega)).mp h2
      exact ⟨_, j, rfl, rfl, by omega, fun i hi => h.2 i (by omega)⟩
    · rw [if_neg h2, if_neg (fun z => h2 z.2)]
      exact ⟨_, n, rfl, rfl, h⟩
theorem in_last {k : Nat} (hk : k ≤ 1000000) (a : Int32) : ((0 : Int32) ≤ a ∧ a ≤ nI k - 1) ↔ ∃ j : Nat, j < k ∧ a = nI j := by
  constructor
  · rintro ⟨h1, h2⟩
    obtain ⟨j, hj, rfl⟩ := nI_of (x := a) (fun z => fa_no z h1)
    cases k with
    | zero =>
      exfalso
      have h3 : (nI j).toInt ≤ (nI 0 - 1).toInt := Int32.le_iff_toInt_le.mp h2
      rw [nI_toInt hj] at h3
      have h4 : (nI 0 - 1).toInt = -1 := by decide
      omega
    | succ k =>
      rw [nI_pred] at h2
      exact ⟨j, by have := (nI_leI hj (by omega)).mp h2; omega, rfl⟩
  · rintro ⟨j, hj, rfl⟩
    refine ⟨fa_yes (nI_pos (by omega)), ?_⟩
    cases k with
    | zero => omega
    | succ k => rw [nI_pred]; exact nI_le (by omega) (by omega)
theorem M_in_last {k : Nat} (hk : k ≤ 1000000) (a : Int32) : f_M_in a.toInt64 ((0 : Int64)) ((nI k - (1 : Int32)).toInt64) = some (if ∃ j : Nat, j < k ∧ a = nI j then 1 else 0) := by
  have e0 : ((0 : Int64)) = (0 : Int32).toInt64 := rfl
  rw [e0, M_in_eq]
  by_cases h : ∃ j : Nat, j < k ∧ a = nI j
  · rw [if_pos h, if_pos ((in_last hk a).mpr h)]
  · rw [if_neg h, if_neg (fun z => h ((in_last hk a).mp z))]
theorem X_in {k : Nat} (hk : k ≤ 1000000) (a : Int32) : (¬ a < 0 ∧ ¬ nI k ≤ a) ↔ ∃ j : Nat, j < k ∧ a = nI j := by
  constructor
  · rintro ⟨h1, h2⟩
    obtain ⟨j, hj, rfl⟩ := nI_of h1
    exact ⟨j, by rcases Nat.lt_or_ge j k with q | q; exact q; exact absurd (nI_le q hj) h2, rfl⟩
  · rintro ⟨j, hj, rfl⟩
    exact ⟨nI_pos (by omega), nI_ge hj (by omega)⟩
theorem out_eq {k : Nat} {p0 o0 : Nat → Int32} (a : Int32) (h : ROut k p0 o0) : ∃ r : Int32, f_X_out a (nI k) p0 = some r ∧ f_M_out a (nI k) o0 = some r := by
  unfold f_X_out f_M_out
  have hk := h.1
  rw [M_in_last (by omega)]
  by_cases hj : ∃ j : Nat, j < k ∧ a = nI j
  · have h2 := (X_in (by omega) a).mpr hj
    rw [if_neg h2.1, if_neg h2.2, if_pos hj]
    obtain ⟨j, hlt, rfl⟩ := hj
    simp only [Option.bind_some]
    rw [if_neg (nI_g (show j < 2670 by omega) (by decide)), if_neg (show ¬ (1 : Int32) = 0 by decide), if_neg (nI_g (show j < 16000 by omega) (by decide)), nI_cl (by omega)]
    exact ⟨_, rfl, by rw [(h.2 j hlt).1]⟩
  · rw [if_neg hj]
    simp only [Option.bind_some, if_pos]
    refine ⟨-1, ?_, rfl⟩
    by_cases h1 : a < 0
    · rw [if_pos h1]
    · by_cases h2 : nI k ≤ a
      · rw [if_neg h1, if_pos h2]
      · exact absurd ((X_in (by omega) a).mp ⟨h1, h2⟩) hj
theorem M_bk {N : Nat} {o t9 : Nat → Int32} {i1 i73 : Int32} {m : Nat} (hm : m ≤ 2000) : ∀ (d n i : Nat) (t : Nat → Int32), i + d = m → d < n → ∃ t' : Nat → Int32, f_M_back_23 N i1 i73 t9 o (nI m) n (nI i) t = some (nI m, nI m, t') ∧ ∀ j, (j < i → t' j = t j) ∧ (i ≤ j → j < m → t' j = vp_nar .byte (o j)) := by
  intro d
  induction d with
  | zero =>
    intro n i t hi hn
    obtain ⟨n, rfl⟩ : ∃ k, n = k + 1 := ⟨n - 1, by omega⟩
    rw [f_M_back_23, if_pos (nI_le (show m ≤ i by omega) (by omega))]
    exact ⟨t, rfl, fun j => ⟨fun _ => rfl, fun h1 h2 => by omega⟩⟩
  | succ d ih =>
    intro n i t hi hn
    obtain ⟨n, rfl⟩ : ∃ k, n = k + 1 := ⟨n - 1, by omega⟩
    rw [f_M_back_23, if_neg (nI_ge (show i < m by omega) (by omega)), if_neg (nI_g (show i < 16000 by omega) (by decide)), if_neg (nI_g (show i < 2000 by omega) (by decide)), nI_cl (by omega), nI_m]
    obtain ⟨t', e, h⟩ := ih n (i + 1) (upd t i (vp_nar .byte (o i))) (by omega) (by omega)
    refine ⟨t', e, fun j => ⟨fun h1 => ?_, fun h1 h2 => ?_⟩⟩
    · rw [(h j).1 (by omega)]; unfold upd; rw [if_neg (by omega)]
    · by_cases e2 : j = i
      · rw [(h j).1 (by omega), e2]; unfold upd; rw [if_pos rfl]
      · exact (h j).2 (by omega) h2
theorem back_eq {N k n : Nat} {p0 o0 tx t0 : Nat → Int32} (hN : 100000 ≤ N) (h : ROut k p0 o0) : ∃ (r : Int32) (n' : Nat) (tx' t0' : Nat → Int32), f_X_back (nI n) tx (nI k) p0 = some (r, nI n', tx') ∧ f_M_back N (nI n) (nI k) t0 o0 = some (r, nI n', t0') ∧ RTape n' tx' t0' := by
  unfold f_X_back f_M_back
  have hk := h.1
  obtain ⟨m, hm, em⟩ : ∃ m : Nat, m = min k 2000 ∧ (if (2000 : Int32) < nI k then (2000 : Int32) else nI k) = nI m := by
    refine ⟨_, rfl, ?_⟩
    by_cases h1 : 2000 < k
    · rw [if_pos (show (2000 : Int32) < nI k from nI_lt h1 (by omega)), Nat.min_eq_right (by omega)]; rfl
    · rw [if_neg (show ¬ (2000 : Int32) < nI k from nI_nlt (show k ≤ 2000 by omega) (by decide)), Nat.min_eq_left (by omega)]
  have hm2 : m ≤ 2000 := by omega
  have z0 : ((0 : Int32)).toNatClampNeg = 0 := by decide
  simp only [em, z0, Nat.zero_add, nI_cl (show m < 2147483648 by omega)]
  rw [if_neg (show ¬ (nI m < 0 ∨ 2670 < m ∨ 2000 < m) from fun z => by
    rcases z with z | z | z
    · exact nI_pos (by omega) z
    · omega
    · omega), if_pos (fun i hi => (h.2 i (by omega)).2.2)]
  have hM : ∃ t' : Nat → Int32, (if (2000 : Int32) ≤ nI k then f_M_back_23 N (nI n) (nI k) t0 o0 ((2000 : Int32)) N ((0 : Int32)) t0 else f_M_back_23 N (nI n) (nI k) t0 o0 (nI k) N ((0 : Int32)) t0) = some (nI m, nI m, t') ∧ ∀ j, j < m → t' j = vp_nar .byte (o0 j) := by
    obtain ⟨t', e, h1⟩ := M_bk (N := N) (o := o0) (t9 := t0) (i1 := nI n) (i73 := nI k) hm2 m N 0 t0 (by omega) (by omega)
    refine ⟨t', ?_, fun j hj => (h1 j).2 (by omega) hj⟩
    by_cases h2 : 2000 ≤ k
    · rw [if_pos (show (2000 : Int32) ≤ nI k from nI_le h2 (by omega))]
      have : m = 2000 := by omega
      subst this
      exact e
    · rw [if_neg (show ¬ (2000 : Int32) ≤ nI k from nI_ge (show k < 2000 by omega) (by decide))]
      have : m = k := by omega
      subst this
      exact e
  obtain ⟨t', e1, e2⟩ := hM
  refine ⟨nI m, m, _, t', rfl, e1, hm2, fun j hj => ?_⟩
  have hb := h.2 j (by omega)
  unfold va_cpy
  rw [if_pos ⟨Nat.zero_le _, by omega⟩, Nat.zero_add, Nat.sub_zero, e2 j hj, ← hb.1]
  exact ⟨hb.2.1.symm, hb.2⟩
