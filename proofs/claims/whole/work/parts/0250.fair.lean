/-! which types are fair, of both -/
theorem mbitG {t x : Nat} (ht : t < 1073741824) (hx : x < 30) : ((nI t >>> (nI x &&& 31)) &&& (1 : Int32)) = nI (t / 2 ^ x % 2) := by
  have hsx : ∀ x, x < 30 → ((nI x &&& 31).toBitVec.smod 32).toNat = x := by decide
  rw [pk_shrN (k := x) (by omega) _ (hsx x hx)]
  have h1 : t / 2 ^ x < 2 ^ 32 := Nat.lt_of_le_of_lt (Nat.div_le_self _ _) (by omega)
  exact pk_andN h1 1 (by decide)
theorem mbitG1 {t x : Nat} (ht : t < 1073741824) (hx : x < 30) : (((nI t >>> (nI x &&& 31)) &&& (1 : Int32)) = 1 ↔ t.testBit x = true) ∧ (((nI t >>> (nI x &&& 31)) &&& (1 : Int32)) = 0 ↔ t.testBit x = false) := by
  rw [mbitG ht hx, Nat.testBit_eq_decide_div_mod_eq]
  have h2 : t / 2 ^ x % 2 < 2 := Nat.mod_lt _ (by decide)
  rw [show (1 : Int32) = nI 1 from rfl, show (0 : Int32) = nI 0 from rfl, nI_eq (by omega) (by decide), nI_eq (by omega) (by decide)]
  constructor
  · simp
  · simp
/-- two nodes' truths, of both -/
def TM (n : Nat) (tr : Nat → Int64) (is : Nat → Int32) (c m : Nat) : Prop := ∀ t, t < 2 ^ n → isZ (is (512 * m + t)) ∧ (tb tr (c * 8) t = true ↔ is (512 * m + t) = 1)
/-- the rules, of both -/
def RRu (n rc : Nat) (cr mr s15 s16 s17 is : Nat → Int32) (tr : Nat → Int64) : Prop := rc ≤ 12 ∧ ∀ k, k < rc → ∃ so c1 c2 m1 m2 sy : Nat, so < 2 ∧ c1 < 200 ∧ c2 < 200 ∧ m1 < 200 ∧ m2 < 200 ∧ sy < 500 ∧ cr k = nI (so + 256 * c1 + 65536 * c2) ∧ mr k = nI sy ∧ s15 sy = nI so ∧ s16 sy = nI m1 ∧ s17 sy = nI m2 ∧ TM n tr is c1 m1 ∧ TM n tr is c2 m2
/-- a rule holds at a type -/
def Hol (mr s15 s16 s17 is : Nat → Int32) (k t : Nat) : Prop := if s15 (mr k).toNatClampNeg = 0 then (is (512 * (s16 (mr k).toNatClampNeg).toNatClampNeg + t) = 1 → is (512 * (s17 (mr k).toNatClampNeg).toNatClampNeg + t) = 1) else is (512 * (s16 (mr k).toNatClampNeg).toNatClampNeg + t) = is (512 * (s17 (mr k).toNatClampNeg).toNatClampNeg + t)
theorem if_loop {N n rc t w : Nat} {cr mr s15 s16 s17 is : Nat → Int32} {tr : Nat → Int64} (hn : n ≤ 9) (H : RRu n rc cr mr s15 s16 s17 is tr) (ht : t < 2 ^ n) (hw : w < 4096) : ∀ (d i k : Nat) (v : Int32), k + d = rc → d < i → isZ v → ∃ r : Int32, f_M_isFair_5 N (nI rc) s15 s16 s17 mr is (nI t) (nI w) i v (nI k) = some r ∧ isZ r ∧ (r = 1 ↔ v = 1 ∧ ∀ k', k ≤ k' → k' < rc → w.testBit k' = false → Hol mr s15 s16 s17 is k' t) := by
  obtain ⟨hrc, H⟩ := H
  have h9 := pw9_le n (by omega)
  intro d
  induction d with
  | zero =>
    intro i k v hk hi hv
    obtain ⟨i, rfl⟩ : ∃ k, i = k + 1 := ⟨i - 1, by omega⟩
    rw [f_M_isFair_5, if_pos (nI_le (show rc ≤ k by omega) (by omega)), if_pos (isZ_n hv)]
    exact ⟨v, rfl, hv, ⟨fun e => ⟨e, fun k' h1 h2 => by omega⟩, fun e => e.1⟩⟩
  | succ d ih =>
    intro i k v hk hi hv
    obtain ⟨i, rfl⟩ : ∃ k, i = k + 1 := ⟨i - 1, by omega⟩
    have hkr : k < rc := by omega
    have hb := mbitG1 (t := w) (x := k) (by omega) (by omega)
    have ext : (w.testBit k = false → Hol mr s15 s16 s17 is k t) → ((∀ k', k + 1 ≤ k' → k' < rc → w.testBit k' = false → Hol mr s15 s16 s17 is k' t) ↔ (∀ k', k ≤ k' → k' < rc → w.testBit k' = false → Hol mr s15 s16 s17 is k' t)) := fun hx => ⟨fun G k' h1 h2 => by
      by_cases e : k' = k
      · subst e; exact hx
      · exact G k' (by omega) h2, fun G k' h1 h2 => G k' (by omega) h2⟩
    rw [f_M_isFair_5, if_neg (nI_ge hkr (by omega)), nI_m]
    by_cases h1 : w.testBit k = false
    · rw [if_pos (hb.2.mpr h1)]
      obtain ⟨so, c1, c2, m1, m2, sy, a1, a2, a3, a4, a5, a6, a7, a8, a9, a10, a11, a12, a13⟩ := H k hkr
      have e1 : ((512 : Int32) * nI m1) + nI t = nI (512 * m1 + t) := by
        rw [show (512 : Int32) = nI 512 from rfl, pk_mul, nI_add]
      have e2 : ((512 : Int32) * nI m2) + nI t = nI (512 * m2 + t) := by
        rw [show (512 : Int32) = nI 512 from rfl, pk_mul, nI_add]
      rw [if_neg (nI_g (show k < 24 by omega) (by decide)), nI_cl (show k < 2147483648 by omega), a8, if_neg (nI_g a6 (by decide)), nI_cl (show sy < 2147483648 by omega), a10, a11, e1, e2, if_neg (nI_g (show 512 * m1 + t < 102400 by omega) (by decide)), if_neg (nI_g (show 512 * m2 + t < 102400 by omega) (by decide)), nI_cl (show 512 * m1 + t < 2147483648 by omega), nI_cl (show 512 * m2 + t < 2147483648 by omega)]
      have hH : Hol mr s15 s16 s17 is k t ↔ (if s15 sy = 0 then (is (512 * m1 + t) = 1 → is (512 * m2 + t) = 1) else is (512 * m1 + t) = is (512 * m2 + t)) := by
        unfold Hol
        rw [a8, nI_cl (show sy < 2147483648 by omega), a10, a11, nI_cl (show m1 < 2147483648 by omega), nI_cl (show m2 < 2147483648 by omega)]
      have z1 := (a12 t ht).1
      have z2 := (a13 t ht).1
      rcases hv with hv | hv
      · rw [if_pos hv]
        obtain ⟨r, g1, g2, g3⟩ := ih i (k + 1) 0 (by omega) (by omega) (Or.inl rfl)
        refine ⟨r, g1, g2, g3.trans ⟨fun e => absurd e.1 (by decide), fun e => ?_⟩⟩
        rw [hv] at e; exact absurd e.1 (by decide)
      · rw [hv, if_neg i1z]
        obtain ⟨r0, g1, g2, g3⟩ := ih i (k + 1) 0 (by omega) (by omega) (Or.inl rfl)
        obtain ⟨r1, f1, f2, f3⟩ := ih i (k + 1) 1 (by omega) (by omega) (Or.inr rfl)
        -- holds: go on with 1; not: with 0
        have yes : Hol mr s15 s16 s17 is k t → ∃ r : Int32, f_M_isFair_5 N (nI rc) s15 s16 s17 mr is (nI t) (nI w) i 1 (nI (k + 1)) = some r ∧ isZ r ∧ (r = 1 ↔ (1 : Int32) = 1 ∧ ∀ k', k ≤ k' → k' < rc → w.testBit k' = false → Hol mr s15 s16 s17 is k' t) := fun h => ⟨r1, f1, f2, by rw [f3, ext (fun _ => h)]⟩
        have no : ¬ Hol mr s15 s16 s17 is k t → ∃ r : Int32, f_M_isFair_5 N (nI rc) s15 s16 s17 mr is (nI t) (nI w) i 0 (nI (k + 1)) = some r ∧ isZ r ∧ (r = 1 ↔ (1 : Int32) = 1 ∧ ∀ k', k ≤ k' → k' < rc → w.testBit k' = false → Hol mr s15 s16 s17 is k' t) := fun h => ⟨r0, g1, g2, by
          rw [g3]
          exact ⟨fun e => absurd e.1 (by decide), fun e => absurd (e.2 k (Nat.le_refl _) hkr h1) h⟩⟩
        by_cases hso : s15 sy = 0
        · rw [if_pos hso]
          rw [if_pos hso] at hH
          rcases z1 with q1 | q1
          · rw [if_pos q1]
            exact yes (hH.mpr (fun e => by rw [q1] at e; exact absurd e (by decide)))
          · rw [q1, if_neg i1z]
            rcases z2 with q2 | q2
            · rw [if_pos q2]
              exact no (fun h => by have := hH.mp h q1; rw [q2] at this; exact absurd this (by decide))
            · rw [q2, if_neg i1z]
              exact yes (hH.mpr (fun _ => q2))
        · rw [if_neg hso]
          rw [if_neg hso] at hH
          by_cases q : is (512 * m1 + t) = is (512 * m2 + t)
          · rw [if_pos q]; exact yes (hH.mpr q)
          · rw [if_neg q]; exact no (fun h => q (hH.mp h))
    · rw [if_neg (fun q => h1 (hb.2.mp q))]
      obtain ⟨r, g1, g2, g3⟩ := ih i (k + 1) v (by omega) (by omega) hv
      exact ⟨r, g1, g2, by rw [g3, ext (fun q => absurd q h1)]⟩
/-- the model's pass over all types: which are fair -/
theorem sf_loop {N n nr rc w : Nat} {cr mr s15 s16 s17 is m29 ax m59 m60 m61 m62 m63 : Nat → Int32} {tr : Nat → Int64} {i64 i65 mf : Int32} (hN : 100000 ≤ N) (hn : n ≤ 9) (H : RRu n rc cr mr s15 s16 s17 is tr) (hw : w < 4096) : ∀ (d i t : Nat) (rk sd : Nat → Int32), t + d = 2 ^ n → d < i → (∀ s, s < t → isZ (sd s) ∧ (sd s = 1 ↔ ∀ k, k < rc → w.testBit k = false → Hol mr s15 s16 s17 is k s)) → (¬ mf = 0 → ∀ s, s < t → rk s = if sd s = 0 then 0 else -1) → ∃ rk' sd' : Nat → Int32, f_M_sift_5 N (nI rc) (nI nr) (nI n) i64 i65 s15 s16 s17 mr m29 is ax m59 m60 m61 m62 m63 (nI w) mf i (nI (cnt sd t)) (nI t) rk sd = f_M_sift_84 N (nI rc) (nI nr) (nI n) i64 i65 s15 s16 s17 mr m29 is ax m59 m60 m61 m62 m63 mf (nI (cnt sd' (2 ^ n))) N (0 : Int32) (1 : Int32) rk' sd' m63 ∧ (∀ s, s < 2 ^ n → isZ (sd' s) ∧ (sd' s = 1 ↔ ∀ k, k < rc → w.testBit k = false → Hol mr s15 s16 s17 is k s)) ∧ (¬ mf = 0 → ∀ s, s < 2 ^ n → rk' s = if sd' s = 0 then 0 else -1) ∧ (mf = 0 → rk' = rk) := by
  have h9 := pw9_le n (by omega)
  intro d
  induction d with
  | zero =>
    intro i t rk sd ht hi hs hr
    obtain ⟨i, rfl⟩ : ∃ k, i = k + 1 := ⟨i - 1, by omega⟩
    have et : t = 2 ^ n := by omega
    rw [f_M_sift_5, M_types_eq hn, Option.bind_some, if_pos (nI_le (show 2 ^ n ≤ t by omega) (by omega)), et]
    exact ⟨rk, sd, rfl, fun s h => hs s (by omega), fun q s h => hr q s (by omega), fun _ => rfl⟩
  | succ d ih =>
    intro i t rk sd ht hi hs hr
    obtain ⟨i, rfl⟩ : ∃ k, i = k + 1 := ⟨i - 1, by omega⟩
    have htn : t < 2 ^ n := by omega
    obtain ⟨r, r1, r2, r3⟩ := if_loop (N := N) (t := t) (w := w) hn H htn hw rc N 0 1 (by omega) (by have := H.1; omega) (Or.inr rfl)
    have r1' : f_M_isFair N (nI t) (nI w) (nI rc) s15 s16 s17 mr is = some r := r1
    rw [f_M_sift_5, M_types_eq hn, Option.bind_some, if_neg (nI_ge htn (by omega)), r1', Option.bind_some, if_neg (nI_g (show t < 512 by omega) (by decide)), nI_cl (by omega), isZ_n r2, pk_us]
    have hP : r = 1 ↔ ∀ k, k < rc → w.testBit k = false → Hol mr s15 s16 s17 is k t := r3.trans ⟨fun e k h => e.2 k (Nat.zero_le _) h, fun e => ⟨rfl, fun k _ h => e k h⟩⟩
    have hsd : ∀ s, s < t + 1 → isZ (upd sd t r s) ∧ (upd sd t r s = 1 ↔ ∀ k, k < rc → w.testBit k = false → Hol mr s15 s16 s17 is k s) := by
      intro s h
      unfold upd
      by_cases e : s = t
      · rw [if_pos e, e]; exact ⟨r2, hP⟩
      · rw [if_neg e]; exact hs s (by omega)
    have hcs : cnt (upd sd t r) (t + 1) = cnt sd t + (if r = 1 then 1 else 0) := by
      show cnt (upd sd t r) t + (if upd sd t r t = 1 then 1 else 0) = _
      rw [pk_us, cnt_same (a := upd sd t r) (b := sd) (fun s h => by unfold upd; rw [if_neg (by omega)])]
    have go : ∀ x : Int32, x = (if r = 0 then (0 : Int32) else 1) → ∃ rk' sd' : Nat → Int32, f_M_sift_44 N (nI rc) (nI nr) (nI n) i64 i65 s15 s16 s17 mr m29 is ax m59 m60 m61 m62 m63 (f_M_sift_5 N (nI rc) (nI nr) (nI n) i64 i65 s15 s16 s17 mr m29 is ax m59 m60 m61 m62 m63 (nI w) mf i) (nI w) mf (nI t) (nI (cnt sd t)) x rk (upd sd t r) = f_M_sift_84 N (nI rc) (nI nr) (nI n) i64 i65 s15 s16 s17 mr m29 is ax m59 m60 m61 m62 m63 mf (nI (cnt sd' (2 ^ n))) N (0 : Int32) (1 : Int32) rk' sd' m63 ∧ (∀ s, s < 2 ^ n → isZ (sd' s) ∧ (sd' s = 1 ↔ ∀ k, k < rc → w.testBit k = false → Hol mr s15 s16 s17 is k s)) ∧ (¬ mf = 0 → ∀ s, s < 2 ^ n → rk' s = if sd' s = 0 then 0 else -1) ∧ (mf = 0 → rk' = rk) := by
      intro x hx
      have hadd : nI (cnt sd t) + x = nI (cnt (upd sd t r) (t + 1)) := by
        rw [hcs, hx]
        rcases r2 with q | q
        · rw [if_pos q, if_neg (by rw [q]; decide)]; exact nI_add _ 0
        · rw [if_neg (by rw [q]; decide), if_pos q]; exact nI_add _ 1
      unfold f_M_sift_44
      rw [hadd, nI_m]
      by_cases hmf : mf = 0
      · rw [if_pos hmf]
        exact ih i (t + 1) rk (upd sd t r) (by omega) (by omega) hsd (fun q => absurd hmf q)
      · rw [if_neg hmf, if_neg (nI_g (show t < 512 by omega) (by decide)), nI_cl (by omega), pk_us]
        have fin : ∀ y : Int32, y = (if r = 0 then (0 : Int32) else -1) → ∃ rk' sd' : Nat → Int32, f_M_sift_71 N (nI rc) (nI nr) (nI n) i64 i65 s15 s16 s17 mr m29 is ax m59 m60 m61 m62 m63 (f_M_sift_5 N (nI rc) (nI nr) (nI n) i64 i65 s15 s16 s17 mr m29 is ax m59 m60 m61 m62 m63 (nI w) mf i) (nI w) mf (nI (cnt (upd sd t r) (t + 1))) (nI t) (nI t) y rk (upd sd t r) = f_M_sift_84 N (nI rc) (nI nr) (nI n) i64 i65 s15 s16 s17 mr m29 is ax m59 m60 m61 m62 m63 mf (nI (cnt sd' (2 ^ n))) N (0 : Int32) (1 : Int32) rk' sd' m63 ∧ (∀ s, s < 2 ^ n → isZ (sd' s) ∧ (sd' s = 1 ↔ ∀ k, k < rc → w.testBit k = false → Hol mr s15 s16 s17 is k s)) ∧ (¬ mf = 0 → ∀ s, s < 2 ^ n → rk' s = if sd' s = 0 then 0 else -1) ∧ (mf = 0 → rk' = rk) := by
          intro y hy
          unfold f_M_sift_71
          rw [if_neg (nI_g (show t < 512 by omega) (by decide)), nI_cl (by omega), nI_m]
          obtain ⟨rk', sd', b1, b2, b3, b4⟩ := ih i (t + 1) (upd rk t y) (upd sd t r) (by omega) (by omega) hsd (fun q s h => by
            unfold upd
            by_cases e : s = t
            · rw [if_pos e, if_pos e, hy]
            · rw [if_neg e, if_neg e]; exact hr q s (by omega))
          exact ⟨rk', sd', b1, b2, b3, fun q => absurd q hmf⟩
        by_cases hr0 : r = 0
        · rw [if_pos hr0]; exact fin 0 (by rw [if_pos hr0])
        · rw [if_neg hr0]; exact fin (-1) (by rw [if_neg hr0])
    by_cases hr0 : r = 0
    · rw [if_pos hr0]; exact go 0 (by rw [if_pos hr0])
    · rw [if_neg hr0]; exact go 1 (by rw [if_neg hr0])
