/-! has and put; a type is met as its role atoms are; counts of standing types -/
theorem nI_gc {n M : Nat} (h : n < M) (hM : M < 2147483648) : ¬ (nI n < 0 ∨ M ≤ n) := fun z => by
  rcases z with z | z
  · exact nI_pos (by omega) z
  · omega
theorem K_has_eq {f : Nat → Int64} {t : Nat} (ht : t < 512) : f_K_has 8 (nI t) f = some (if tb f 0 t = true then 1 else 0) := by
  unfold f_K_has
  rw [shr6 (by omega), if_neg (nI_pos (by omega)), if_neg (show ¬ Int32.ofNat 8 ≤ nI (t / 64) from nI_ge (show t / 64 < 8 by omega) (by decide)), if_neg (nI_g (show t / 64 < 8 by omega) (by decide)), nI_cl (by omega)]
  unfold tb
  rw [Nat.zero_add]
  by_cases h : (f (t / 64)).toBitVec.getLsbD (t % 64) = true
  · rw [if_pos h, if_pos ((bt_test _ (by omega)).mpr h)]
  · rw [if_neg h, if_neg (fun z => h ((bt_test _ (by omega)).mp z))]
theorem shl_bit {t j : Nat} (ht : t < 2147483648) (hj : j < 64) : ((1 : Int64) <<< ((nI t).toInt64 &&& 63)).toBitVec.getLsbD j = decide (j = t % 64) := by
  rw [nI_l ht, lN63, Int64.toBitVec_shiftLeft]
  show (1#64 <<< ((BitVec.ofNat 64 (t % 64)).smod 64#64)).getLsbD j = _
  rw [BitVec.shiftLeft_eq', sm64 _ (Nat.mod_lt _ (by decide)), BitVec.getLsbD_shiftLeft, BitVec.getLsbD_one]
  by_cases e : j = t % 64
  · subst e; simp [hj]
  · rcases Nat.lt_or_ge j (t % 64) with q | q
    · simp [q, e]
    · have : ¬ (j - t % 64 = 0) := by omega
      simp [e, this]
theorem lor_bit (a b : Int64) (j : Nat) : (a ||| b).toBitVec.getLsbD j = (a.toBitVec.getLsbD j || b.toBitVec.getLsbD j) := by
  show (a.toBitVec ||| b.toBitVec).getLsbD j = _
  rw [BitVec.getLsbD_or]
theorem K_put_eq {f : Nat → Int64} {t : Nat} (v : Int32) (ht : t < 512) : ∃ f' : Nat → Int64, f_K_put 8 (nI t) v f = some f' ∧ ∀ s, s < 512 → tb f' 0 s = if s = t then decide (¬ v = 0) else tb f 0 s := by
  unfold f_K_put
  have g : ¬ (nI (t / 64) < 0 ∨ 8 ≤ (nI (t / 64)).toNatClampNeg) := nI_g (show t / 64 < 8 by omega) (by decide)
  rw [shr6 (by omega), if_neg (nI_pos (by omega)), if_neg (show ¬ Int32.ofNat 8 ≤ nI (t / 64) from nI_ge (show t / 64 < 8 by omega) (by decide)), if_neg g, if_neg g, nI_cl (by omega)]
  unfold f_K_put_45
  rw [if_neg g, if_neg g, nI_cl (by omega)]
  have fin : ∀ x : Int64, (∀ j, j < 64 → x.toBitVec.getLsbD j = if j = t % 64 then decide (¬ v = 0) else (f (t / 64)).toBitVec.getLsbD j) → ∀ s, s < 512 → tb (vp_updL f (t / 64) x) 0 s = if s = t then decide (¬ v = 0) else tb f 0 s := by
    intro x hx s hs
    unfold tb
    rw [Nat.zero_add]
    unfold vp_updL
    by_cases e : s / 64 = t / 64
    · rw [if_pos e, hx _ (Nat.mod_lt _ (by decide)), e]
      by_cases e2 : s % 64 = t % 64
      · rw [if_pos e2, if_pos (show s = t by omega)]
      · rw [if_neg e2, if_neg (show ¬ s = t by omega)]
    · rw [if_neg e, if_neg (show ¬ s = t by intro z; subst z; exact e rfl)]
  by_cases hv : v = 0
  · rw [if_pos hv]
    refine ⟨_, rfl, fin _ (fun j hj => ?_)⟩
    rw [land_bit, xnot_bit _ hj, shl_bit (by omega) hj]
    by_cases e : j = t % 64
    · simp [e, hv]
    · simp [e]
  · rw [if_neg hv]
    refine ⟨_, rfl, fin _ (fun j hj => ?_)⟩
    rw [lor_bit, shl_bit (by omega) hj]
    by_cases e : j = t % 64
    · simp [e, hv]
    · simp [e]
/-- the roles' atoms as a set -/
def RRa (n RA : Nat) (c5 k6 : Nat → Int32) : Prop := RA < 2 ^ n ∧ (∀ k, k < n → (RA.testBit k = true ↔ ¬ c5 k = -1)) ∧ ∀ r, r < 3 → ∀ F, F < 512 → k6 r = nI F → ∀ k, F.testBit k = true → RA.testBit k = true
theorem no_iff {N n T R F W : Nat} {ax g row : Nat → Int32} (hN : 100000 ≤ N) (hn : n ≤ 9) (hR : R < 3) (hg : g R = nI F) (hF : F < 512) (hT : T < 512) (hW : W < 512) (hA : ∀ u, u < 2 ^ n → ∃ A : Nat, A < 512 ∧ ax u = nI A) : No N n g ax row T R W ↔ ∀ s, s < 2 ^ n → ¬ (¬ row s = 0 ∧ ∃ A : Nat, A < 512 ∧ ax s = nI A ∧ (A &&& F) &&& (511 ^^^ T) = 0 ∧ A &&& W = W) := by
  have h9 := pw9_le n (by omega)
  unfold No f_M_leastTo_stood
  obtain ⟨r, e1, e2⟩ := lt_loop_stood (N := N) (n := n) (T := T) (R := R) (F := F) (W := W) (ax := ax) (g := g) (row := row) hn hR hg hF hT hW hA (2 ^ n) N 0 (by omega) (by omega) (fun s h => absurd h (by omega))
  rw [show (0 : Int32) = nI 0 from rfl, e1]
  have ng := e2.neg (by omega)
  exact ⟨fun h => ng.1.mp (Option.some.inj h), fun h => by rw [ng.1.mpr h]⟩
theorem and_ra {F t RA : Nat} (h : ∀ k, F.testBit k = true → RA.testBit k = true) : F &&& (t &&& RA) = F &&& t := by
  apply Nat.eq_of_testBit_eq
  intro j
  rw [Nat.testBit_and, Nat.testBit_and, Nat.testBit_and]
  cases hF : F.testBit j
  · rfl
  · rw [h j hF]; simp
theorem andn_ra {A F t RA : Nat} (hA : A < 512) (h : ∀ k, F.testBit k = true → RA.testBit k = true) : (A &&& F) &&& (511 ^^^ (t &&& RA)) = (A &&& F) &&& (511 ^^^ t) := by
  apply Nat.eq_of_testBit_eq
  intro j
  rw [andn_bit (Nat.lt_of_le_of_lt Nat.and_le_left hA), andn_bit (Nat.lt_of_le_of_lt Nat.and_le_left hA), Nat.testBit_and, Nat.testBit_and]
  cases hF : F.testBit j
  · simp
  · rw [h j hF]; simp
theorem ow_of {n nr S : Nat} {c5 k5 k6 m60 m59 m29 ax : Nat → Int32} {pt : Nat → Int64} (H : RKd n nr S c5 k5 k6 m60 m59 m29 pt ax) : Ow n c5 k5 m60 (fun r => (k5 r).toNatClampNeg) := by
  obtain ⟨hn, hnr, hS, hp, hf, ho, hcs, h29⟩ := id H
  have h9 := pw9_le n (by omega)
  intro r hr
  obtain ⟨O, q1, q2, q3, q4⟩ := ho r hr
  have e : (k5 r).toNatClampNeg = O := by rw [q2, nI_cl (by omega)]
  show (k5 r).toNatClampNeg < _ ∧ k5 r = nI (k5 r).toNatClampNeg ∧ m60 r = nI (k5 r).toNatClampNeg ∧ ∀ k, k < n → ((k5 r).toNatClampNeg.testBit k = true ↔ _)
  rw [e]
  exact ⟨q1, q2, q3, q4⟩
theorem met_ra {N n nr S t RA : Nat} {c5 k5 k6 m60 m59 m29 ax sd : Nat → Int32} {pt : Nat → Int64} {own : Nat → Nat} (hN : 100000 ≤ N) (H : RKd n nr S c5 k5 k6 m60 m59 m29 pt ax) (hra : RRa n RA c5 k6) (hw : Ow n c5 k5 m60 own) (ht : t < 2 ^ n) : MetX N n nr S c5 m59 ax sd own (t &&& RA) 0 ↔ MetX N n nr S c5 m59 ax sd own t 0 := by
  obtain ⟨hn, hnr, hS, hp, hf, ho, hcs, h29⟩ := id H
  obtain ⟨r1, r2, r3⟩ := hra
  have h9 := pw9_le n (by omega)
  have hta : t &&& RA < 512 := Nat.lt_of_le_of_lt Nat.and_le_left (by omega)
  have key : ∀ j, j < n → ∀ R, R < nr → c5 j = nI R → (((t &&& RA).testBit j = true ↔ t.testBit j = true) ∧ (No N n m59 ax sd (t &&& RA) R (if S.testBit R = true then own R &&& (t &&& RA) else 2 ^ j) ↔ No N n m59 ax sd t R (if S.testBit R = true then own R &&& t else 2 ^ j))) := by
    intro j hj R hR hc
    have hRA : RA.testBit j = true := (r2 j hj).mpr (by rw [hc]; exact nI_neg1 (by omega))
    refine ⟨by rw [Nat.testBit_and, hRA]; simp, ?_⟩
    obtain ⟨o1, o2, o3, o4⟩ := hw R (by omega)
    obtain ⟨F, f1, f2, f3⟩ := hf R (by omega)
    have hFr := r3 R (by omega) F (by omega) f2
    have hOr : ∀ k, (own R).testBit k = true → RA.testBit k = true := fun k hk => (r2 k (bit_lt o1 hk)).mpr (by rw [(o4 k (bit_lt o1 hk)).mp hk]; exact nI_neg1 (by omega))
    rw [and_ra hOr]
    have hW : (if S.testBit R = true then own R &&& t else 2 ^ j) < 512 := by
      by_cases h : S.testBit R = true
      · rw [if_pos h]; exact Nat.lt_of_le_of_lt Nat.and_le_right (by omega)
      · rw [if_neg h]; exact Nat.lt_of_lt_of_le (Nat.pow_lt_pow_right (by decide) hj) h9
    have hA : ∀ u, u < 2 ^ n → ∃ A : Nat, A < 512 ∧ ax u = nI A := fun u hu => by obtain ⟨A, a1, a2, -⟩ := hp u hu; exact ⟨A, by omega, a2⟩
    rw [no_iff hN hn (by omega) f3 (by omega) hta hW hA, no_iff hN hn (by omega) f3 (by omega) (by omega) hW hA]
    constructor
    · intro h s hs z
      refine h s hs ⟨z.1, ?_⟩
      obtain ⟨A, a1, a2, a3, a4⟩ := z.2
      exact ⟨A, a1, a2, by rw [andn_ra a1 hFr]; exact a3, a4⟩
    · intro h s hs z
      refine h s hs ⟨z.1, ?_⟩
      obtain ⟨A, a1, a2, a3, a4⟩ := z.2
      exact ⟨A, a1, a2, by rw [andn_ra a1 hFr] at a3; exact a3, a4⟩
  constructor
  · intro h j h1 h2 h3 R hR hc
    have k := key j h2 R hR hc
    exact fun z => h j h1 h2 (k.1.mpr h3) R hR hc (k.2.mpr z)
  · intro h j h1 h2 h3 R hR hc
    have k := key j h2 R hR hc
    exact fun z => h j h1 h2 (k.1.mp h3) R hR hc (k.2.mp z)
theorem met_ba {N n nr S t RA : Nat} {c5 k5 k6 m60 m59 m29 ax sd : Nat → Int32} {pt row : Nat → Int64} (hN : 100000 ≤ N) (H : RKd n nr S c5 k5 k6 m60 m59 m29 pt ax) (hra : RRa n RA c5 k6) (hs : RSt n row sd) (ht : t < 2 ^ n) : ∃ r : Int32, f_K_isMet N (nI (t &&& RA)) (nI S) (nI n) c5 pt row k5 k6 = some r ∧ f_M_isMet_stood N (nI t) (nI nr) (nI n) m29 ax m59 m60 sd = some r ∧ isZ r := by
  obtain ⟨hn, hnr, hS, hp, hf, ho, hcs, h29⟩ := id H
  have hw := ow_of H
  have hta : t &&& RA < 2 ^ n := Nat.lt_of_le_of_lt Nat.and_le_left ht
  obtain ⟨r, e1, e2, e3⟩ := xm_loop hN H hw hs ht n N 0 (by omega) (by omega)
  obtain ⟨r', g1, g2, g3⟩ := xm_loop hN H hw hs hta n N 0 (by omega) (by omega)
  obtain ⟨r'', f1, f2, f3⟩ := met_eq hN H hs ht
  have e : r = r' := isZ_eq e2 g2 e3 g3 (met_ra hN H hra hw ht).symm
  have e' : some r'' = some r := f1.symm.trans e1
  rw [Option.some.inj e', e] at f2
  exact ⟨r', g1, f2, g2⟩
/-- how many of the first B are 1 -/
def cnt (sd : Nat → Int32) : Nat → Nat
  | 0 => 0
  | B + 1 => cnt sd B + (if sd B = 1 then 1 else 0)
theorem cnt_le (sd : Nat → Int32) : ∀ B, cnt sd B ≤ B
  | 0 => Nat.le_refl _
  | B + 1 => by
    have := cnt_le sd B
    unfold cnt
    by_cases h : sd B = 1
    · rw [if_pos h]; omega
    · rw [if_neg h]; omega
theorem cnt_mono {a b : Nat → Int32} : ∀ {B}, (∀ s, s < B → a s = 1 → b s = 1) → cnt a B ≤ cnt b B
  | 0, _ => Nat.le_refl _
  | B + 1, h => by
    have := cnt_mono (B := B) (fun s hs => h s (by omega))
    unfold cnt
    by_cases h1 : a B = 1
    · rw [if_pos h1, if_pos (h B (by omega) h1)]; omega
    · rw [if_neg h1]; omega
theorem cnt_lt {a b : Nat → Int32} : ∀ {B}, (∀ s, s < B → a s = 1 → b s = 1) → (∃ s, s < B ∧ b s = 1 ∧ ¬ a s = 1) → cnt a B < cnt b B
  | 0, _, h => by obtain ⟨s, h1, -⟩ := h; omega
  | B + 1, h, hx => by
    have hm := cnt_mono (a := a) (b := b) (B := B) (fun s hs => h s (by omega))
    obtain ⟨s, h1, h2, h3⟩ := hx
    unfold cnt
    by_cases e : s = B
    · subst e
      rw [if_neg h3, if_pos h2]; omega
    · have := cnt_lt (a := a) (b := b) (B := B) (fun s hs => h s (by omega)) ⟨s, by omega, h2, h3⟩
      by_cases h1 : a B = 1
      · rw [if_pos h1, if_pos (h B (by omega) h1)]; omega
      · rw [if_neg h1]; omega
theorem cnt_zero {a : Nat → Int32} {B : Nat} (h : cnt a B = 0) : ∀ s, s < B → ¬ a s = 1 := by
  intro s hs h1
  have := cnt_lt (a := fun _ => 0) (b := a) (B := B) (fun s _ h => absurd h (by decide)) ⟨s, hs, h1, by decide⟩
  omega
theorem cnt_same {a b : Nat → Int32} {B : Nat} (h : ∀ s, s < B → a s = b s) : cnt a B = cnt b B :=
  Nat.le_antisymm (cnt_mono (fun s hs h1 => by rw [← h s hs]; exact h1)) (cnt_mono (fun s hs h1 => by rw [h s hs]; exact h1))
