/-! rows of bytes: written, packed -/
/-- f with the bytes of l from place k on -/
def wr (f : Nat → Int32) (k : Nat) : List Nat → Nat → Int32
  | [] => f
  | b :: l => wr (upd f k (nI b)) (k + 1) l
theorem wr_snoc {b : Nat} : ∀ {l : List Nat} {f : Nat → Int32} {k : Nat}, wr f k (l ++ [b]) = upd (wr f k l) (k + l.length) (nI b)
  | [], f, k => rfl
  | c :: l, f, k => by
    show wr (upd f k (nI c)) (k + 1) (l ++ [b]) = upd (wr (upd f k (nI c)) (k + 1) l) (k + (l.length + 1)) (nI b)
    rw [wr_snoc, show k + 1 + l.length = k + (l.length + 1) by omega]
theorem wr_app {l' : List Nat} : ∀ {l : List Nat} {f : Nat → Int32} {k : Nat}, wr f k (l ++ l') = wr (wr f k l) (k + l.length) l'
  | [], f, k => rfl
  | c :: l, f, k => by
    show wr (upd f k (nI c)) (k + 1) (l ++ l') = wr (wr (upd f k (nI c)) (k + 1) l) (k + (l.length + 1)) l'
    rw [wr_app, show k + 1 + l.length = k + (l.length + 1) by omega]
/-- bytes that are letters or signs -/
def okB (l : List Nat) : Prop := ∀ b, b ∈ l → 1 ≤ b ∧ b < 128
theorem okB_app {l l' : List Nat} (h : okB l) (h' : okB l') : okB (l ++ l') := fun b hb => (List.mem_append.mp hb).elim (h b) (h' b)
theorem isB_nI : ∀ b, b < 128 → isB (nI b) := by
  intro b hb
  have e : ∀ b, b < 128 → vp_nar .byte (nI b).toInt8.toInt32 = nI b := by decide +kernel
  have := isB_of (nI b)
  rw [e b hb] at this
  exact this
theorem ROut.wr {l : List Nat} : ∀ {k : Nat} {p o : Nat → Int32}, ROut k p o → okB l → k + l.length ≤ 2670 → ROut (k + l.length) (wr p k l) (wr o k l) := by
  induction l with
  | nil => intro k p o h _ _; exact h
  | cons b l ih =>
    intro k p o h hb hk
    have hk' : k + (l.length + 1) ≤ 2670 := hk
    have h1 : ROut (k + 1) (upd p k (nI b)) (upd o k (nI b)) := ⟨by omega, fun j hj => by
      by_cases e : j = k
      · rw [e, up_s, up_s]; exact ⟨rfl, isB_nI b (hb b (List.mem_cons_self ..)).2⟩
      · rw [up_n e, up_n e]; exact h.2 j (by omega)⟩
    have := ih h1 (fun c hc => hb c (List.mem_cons_of_mem _ hc)) (by omega)
    rw [show k + 1 + l.length = k + (b :: l).length by show _ = k + (l.length + 1); omega] at this
    exact this
/-- the j-th byte of a number; its bytes below the j-th, highest first, zeros aside -/
def dg (w j : Nat) : Nat := w / 256 ^ j % 256
def lst (w : Nat) : Nat → List Nat
  | 0 => []
  | j + 1 => if dg w j = 0 then lst w j else dg w j :: lst w j
theorem dg_lt (w j : Nat) : dg w j < 256 := Nat.mod_lt _ (by decide)
theorem dg_s {x b j : Nat} (hb : b < 256) : dg (x * 256 + b) (j + 1) = dg x j := by
  unfold dg
  rw [Nat.pow_succ, Nat.mul_comm (256 ^ j), ← Nat.div_div_eq_div_mul, show (x * 256 + b) / 256 = x by omega]
theorem dg_0 {x b : Nat} (hb : b < 256) : dg (x * 256 + b) 0 = b := by
  unfold dg
  rw [Nat.pow_zero, Nat.div_one]; omega
theorem lst_snoc {x b : Nat} (hb : b < 256) : ∀ j, lst (x * 256 + b) (j + 1) = lst x j ++ (if b = 0 then [] else [b])
  | 0 => by
    show (if dg (x * 256 + b) 0 = 0 then [] else dg (x * 256 + b) 0 :: []) = [] ++ _
    rw [dg_0 hb]; rfl
  | j + 1 => by
    show (if dg (x * 256 + b) (j + 1) = 0 then lst (x * 256 + b) (j + 1) else dg (x * 256 + b) (j + 1) :: lst (x * 256 + b) (j + 1)) = (if dg x j = 0 then lst x j else dg x j :: lst x j) ++ _
    rw [dg_s hb, lst_snoc hb j]
    by_cases h : dg x j = 0
    · rw [if_pos h, if_pos h]
    · rw [if_neg h, if_neg h]; rfl
theorem lst_hi {x n : Nat} (hx : x < 256 ^ n) : ∀ d, lst x (n + d) = lst x n
  | 0 => rfl
  | d + 1 => by
    show (if dg x (n + d) = 0 then lst x (n + d) else _) = _
    have : dg x (n + d) = 0 := by
      unfold dg
      rw [Nat.div_eq_of_lt (Nat.lt_of_lt_of_le hx (Nat.pow_le_pow_right (by decide) (Nat.le_add_right n d)))]
    rw [if_pos this, lst_hi hx d]
/-- n bytes of f from place a on: packed; as a list -/
def pkb (f : Nat → Int32) (a : Nat) : Nat → Nat
  | 0 => 0
  | n + 1 => pkb f a n * 256 + (f (a + n)).toNatClampNeg
def lsb (f : Nat → Int32) (a : Nat) : Nat → List Nat
  | 0 => []
  | n + 1 => lsb f a n ++ [(f (a + n)).toNatClampNeg]
/-- they are letters -/
def okR (f : Nat → Int32) (a n : Nat) : Prop := ∀ i, i < n → ∃ b : Nat, 1 ≤ b ∧ b < 128 ∧ f (a + i) = nI b
theorem okR.cl {f : Nat → Int32} {a n i : Nat} (h : okR f a n) (hi : i < n) : 1 ≤ (f (a + i)).toNatClampNeg ∧ (f (a + i)).toNatClampNeg < 128 ∧ f (a + i) = nI (f (a + i)).toNatClampNeg := by
  obtain ⟨b, h1, h2, h3⟩ := h i hi
  rw [h3, nI_cl (by omega)]
  exact ⟨h1, h2, rfl⟩
theorem lsb_len (f : Nat → Int32) (a : Nat) : ∀ n, (lsb f a n).length = n
  | 0 => rfl
  | n + 1 => by
    show (lsb f a n ++ [_]).length = n + 1
    rw [List.length_append, lsb_len f a n]; rfl
theorem lsb_ok {f : Nat → Int32} {a : Nat} : ∀ {n}, okR f a n → okB (lsb f a n)
  | 0, _ => fun b hb => absurd hb (by simp [lsb])
  | n + 1, h => by
    refine okB_app (lsb_ok (fun i hi => h i (by omega))) (fun b hb => ?_)
    rw [List.mem_singleton] at hb
    rw [hb]
    exact ⟨(h.cl (show n < n + 1 by omega)).1, (h.cl (show n < n + 1 by omega)).2.1⟩
theorem pkb_lt {f : Nat → Int32} {a : Nat} : ∀ {n}, okR f a n → pkb f a n < 256 ^ n
  | 0, _ => by show (0 : Nat) < 1; decide
  | n + 1, h => by
    have h1 := pkb_lt (n := n) (fun i hi => h i (by omega))
    have h2 := (h.cl (show n < n + 1 by omega)).2.1
    show pkb f a n * 256 + (f (a + n)).toNatClampNeg < 256 ^ (n + 1)
    rw [Nat.pow_succ]; omega
theorem lst_pkb {f : Nat → Int32} {a : Nat} : ∀ {n}, okR f a n → lst (pkb f a n) n = lsb f a n
  | 0, _ => rfl
  | n + 1, h => by
    have h2 := h.cl (show n < n + 1 by omega)
    show lst (pkb f a n * 256 + (f (a + n)).toNatClampNeg) (n + 1) = lsb f a n ++ [(f (a + n)).toNatClampNeg]
    rw [lst_snoc (by omega), lst_pkb (n := n) (fun i hi => h i (by omega)), if_neg (by omega)]
theorem lst_pk8 {f : Nat → Int32} {a n : Nat} (h : okR f a n) (hn : n ≤ 8) : lst (pkb f a n) 8 = lsb f a n := by
  have := lst_hi (pkb_lt h) (8 - n)
  rw [show n + (8 - n) = 8 by omega] at this
  rw [this, lst_pkb h]
/-- packed alike: alike -/
theorem lsb_s (f : Nat → Int32) (a n : Nat) : lsb f a (n + 1) = lsb f a n ++ [(f (a + n)).toNatClampNeg] := rfl
theorem lsb_inj1 {f g : Nat → Int32} {a b : Nat} : ∀ {n}, lsb f a n = lsb g b n → ∀ i, i < n → (f (a + i)).toNatClampNeg = (g (b + i)).toNatClampNeg := by
  intro n
  induction n with
  | zero => intro _ i hi; omega
  | succ n ih =>
    intro h i hi
    rw [lsb_s, lsb_s] at h
    have h2 := List.append_inj' h (by rw [List.length_singleton, List.length_singleton])
    by_cases e : i = n
    · subst e
      exact List.singleton_inj.mp h2.2
    · exact ih h2.1 i (by omega)
theorem lsb_inj {f g : Nat → Int32} {a b n m : Nat} (hf : okR f a n) (hg : okR g b m) (h : lsb f a n = lsb g b m) : n = m ∧ ∀ i, i < n → f (a + i) = g (b + i) := by
  have hl := congrArg List.length h
  rw [lsb_len, lsb_len] at hl
  subst hl
  refine ⟨rfl, fun i hi => ?_⟩
  have e := lsb_inj1 h i hi
  have e1 := (hf.cl hi).2.2
  have e2 := (hg.cl hi).2.2
  exact e1.trans ((congrArg nI e).trans e2.symm)
theorem pkb_inj {f g : Nat → Int32} {a b n m : Nat} (hf : okR f a n) (hg : okR g b m) (hn : n ≤ 8) (hm : m ≤ 8) : pkb f a n = pkb g b m ↔ (n = m ∧ ∀ i, i < n → f (a + i) = g (b + i)) := by
  constructor
  · intro h
    have : lst (pkb f a n) 8 = lst (pkb g b m) 8 := by rw [h]
    rw [lst_pk8 hf hn, lst_pk8 hg hm] at this
    exact lsb_inj hf hg this
  · rintro ⟨rfl, h⟩
    clear hn hm
    induction n with
    | zero => rfl
    | succ n ih =>
      show pkb f a n * 256 + _ = pkb g b n * 256 + _
      rw [ih (by intro i hi; first | exact hf i (by omega) | exact hg i (by omega) | exact h i (by omega)) (by intro i hi; first | exact hf i (by omega) | exact hg i (by omega) | exact h i (by omega)) (by intro i hi; first | exact hf i (by omega) | exact hg i (by omega) | exact h i (by omega)), h n (by omega)]
/-! the class's words, written -/
theorem shr_k : ∀ j, j < 8 → ((nI (8 * j)).toInt64 &&& 63) = lN (8 * j) := by decide +kernel
theorem lN_shrA {w m : Nat} (hw : w < 2 ^ 63) (hm : m < 64) : lN w >>> lN m = lN (w / 2 ^ m) := by
  apply Int64.toBitVec_inj.mp
  rw [shr_bv _ hm]
  show (BitVec.ofNat 64 w).sshiftRight m = BitVec.ofNat 64 (w / 2 ^ m)
  have hmsb : (BitVec.ofNat 64 w).msb = false := by
    rw [BitVec.msb_eq_decide, BitVec.toNat_ofNat, Nat.mod_eq_of_lt (by omega)]
    simp; omega
  rw [BitVec.sshiftRight_eq_of_msb_false hmsb]
  apply BitVec.eq_of_toNat_eq
  rw [BitVec.toNat_ushiftRight, BitVec.toNat_ofNat, BitVec.toNat_ofNat, Nat.shiftRight_eq_div_pow, Nat.mod_eq_of_lt (show w < 2 ^ 64 by omega), Nat.mod_eq_of_lt (Nat.lt_of_le_of_lt (Nat.div_le_self _ _) (show w < 2 ^ 64 by omega))]
theorem lN_and255 (w : Nat) : lN w &&& (255 : Int64) = lN (w % 256) := by
  rw [show (255 : Int64) = lN 255 from rfl, lN_and, show (255 : Nat) = 2 ^ 8 - 1 from rfl, Nat.and_two_pow_sub_one_eq_mod]
theorem dg_word {w j : Nat} (hw : w < 2 ^ 63) (hj : j < 8) : (lN w >>> ((nI (8 * j)).toInt64 &&& 63)) &&& (255 : Int64) = lN (dg w j) := by
  rw [shr_k j hj, lN_shrA hw (by omega), lN_and255]
  unfold dg
  rw [show (256 : Nat) = 2 ^ 8 from rfl, ← Nat.pow_mul]
theorem byte_lN : ∀ b, b < 128 → vp_nar .byte ((lN b).toInt32).toInt8.toInt32 = nI b := by decide +kernel
theorem pw_loop {N w : Nat} {i1 : Int32} {a0 : Nat → Int32} (hw : w < 2 ^ 63) (hd : ∀ j, j < 8 → dg w j < 128) : ∀ (j i k : Nat) (p : Nat → Int32), j ≤ 8 → j < i → k + (lst w j).length ≤ 2670 → f_P_putWord_3 N i1 a0 (lN w) i (nI (8 * j) + (-8 : Int32)) (nI k) p = some (nI (k + (lst w j).length), wr p k (lst w j)) := by
  intro j
  induction j with
  | zero =>
    intro i k p _ hi _
    obtain ⟨i, rfl⟩ : ∃ k, i = k + 1 := ⟨i - 1, by omega⟩
    rw [f_P_putWord_3, if_pos (by decide)]
    rfl
  | succ j ih =>
    intro i k p hj hi hk
    obtain ⟨i, rfl⟩ : ∃ k, i = k + 1 := ⟨i - 1, by omega⟩
    have e8 : nI (8 * (j + 1)) + (-8 : Int32) = nI (8 * j) := by
      have : ∀ j, j < 8 → nI (8 * (j + 1)) + (-8 : Int32) = nI (8 * j) := by decide +kernel
      exact this j (by omega)
    rw [f_P_putWord_3, e8, if_neg (nI_pos (by omega)), dg_word hw (by omega)]
    have hdj := hd j (by omega)
    by_cases h : dg w j = 0
    · have el : lst w (j + 1) = lst w j := by show (if dg w j = 0 then lst w j else _) = _; rw [if_pos h]
      rw [h, if_pos (show lN 0 = (0 : Int64) from rfl), el]
      rw [el] at hk
      exact ih i k p (by omega) (by omega) hk
    · have el : lst w (j + 1) = dg w j :: lst w j := by show (if dg w j = 0 then lst w j else _) = _; rw [if_neg h]
      rw [el] at hk ⊢
      have hk' : k + ((lst w j).length + 1) ≤ 2670 := hk
      rw [if_neg (show ¬ lN (dg w j) = (0 : Int64) from fun z => h ((pk_lEQ (a := dg w j) (b := 0) (by omega) (by omega)).mp z)), if_neg (show ¬ (2670 : Int32) ≤ nI k from nI_ge (show k < 2670 by omega) (by decide)), if_neg (nI_g (show k < 2670 by omega) (by decide)), nI_cl (by omega), byte_lN _ hdj, nI_m, ih i (k + 1) _ (by omega) (by omega) (by omega)]
      rw [show k + 1 + (lst w j).length = k + (dg w j :: lst w j).length by show _ = k + ((lst w j).length + 1); omega]
      rfl
theorem pw_eq {N w k : Nat} {p : Nat → Int32} {l : List Nat} (hN : 100000 ≤ N) (hw : w < 2 ^ 63) (hd : ∀ j, j < 8 → dg w j < 128) (hl : lst w 8 = l) (hk : k + l.length ≤ 2670) : f_P_putWord N (lN w) (nI k) p = some (nI (k + l.length), wr p k l) := by
  unfold f_P_putWord
  have := pw_loop (N := N) (i1 := nI k) (a0 := p) hw hd 8 N k p (by omega) (by omega) (by rw [hl]; exact hk)
  rw [hl] at this
  exact this
theorem pkb_dg {f : Nat → Int32} {a : Nat} : ∀ {n}, okR f a n → ∀ j, dg (pkb f a n) j < 128
  | 0, _ => fun j => by
    unfold dg pkb
    rw [Nat.zero_div]; decide
  | n + 1, h => fun j => by
    have h2 := (h.cl (show n < n + 1 by omega)).2.1
    show dg (pkb f a n * 256 + (f (a + n)).toNatClampNeg) j < 128
    cases j with
    | zero => rw [dg_0 (by omega)]; exact h2
    | succ j => rw [dg_s (by omega)]; exact pkb_dg (n := n) (fun i hi => h i (by omega)) j
theorem pkb_63 {f : Nat → Int32} {a n : Nat} (h : okR f a n) (hn : n ≤ 8) : pkb f a n < 2 ^ 63 := by
  have h1 := pkb_lt h
  by_cases e : n = 8
  · have h7 := pkb_dg h 7
    unfold dg at h7
    rw [e] at h1 h7 ⊢
    omega
  · have : 256 ^ n ≤ 256 ^ 7 := Nat.pow_le_pow_right (by decide) (by omega)
    omega
theorem pw_row {N k a n : Nat} {f p : Nat → Int32} (hN : 100000 ≤ N) (h : okR f a n) (hn : n ≤ 8) (hk : k + n ≤ 2670) : f_P_putWord N (lN (pkb f a n)) (nI k) p = some (nI (k + n), wr p k (lsb f a n)) := by
  have := pw_eq (p := p) hN (pkb_63 h hn) (fun j _ => pkb_dg h j) (lst_pk8 h hn) (by rw [lsb_len]; exact hk)
  rw [lsb_len] at this
  exact this
