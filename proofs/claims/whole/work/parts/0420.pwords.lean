/-! the kept words, written by both -/
def cW (N w : Nat) (l : List Nat) : Prop := ∀ (k : Nat) (p : Nat → Int32), k + l.length ≤ 2670 → f_P_putWord N (lN w) (nI k) p = some (nI (k + l.length), wr p k l)
theorem cW_of {N w : Nat} {l : List Nat} (hN : 100000 ≤ N) (hw : w < 2 ^ 63) (hd : ∀ j, j < 8 → dg w j < 128) (hl : lst w 8 = l) : cW N w l := fun k p hk => pw_eq hN hw hd hl hk
theorem cW_top {N : Nat} (hN : 100000 ≤ N) : cW N 7630704 [116, 111, 112] := cW_of hN (by decide) (by decide +kernel) (by decide +kernel)
theorem cW_bottom {N : Nat} (hN : 100000 ≤ N) : cW N 108230834679661 [98, 111, 116, 116, 111, 109] := cW_of hN (by decide) (by decide +kernel) (by decide +kernel)
theorem cW_not {N : Nat} (hN : 100000 ≤ N) : cW N 7237492 [110, 111, 116] := cW_of hN (by decide) (by decide +kernel) (by decide +kernel)
theorem cW_some {N : Nat} (hN : 100000 ≤ N) : cW N 1936682341 [115, 111, 109, 101] := cW_of hN (by decide) (by decide +kernel) (by decide +kernel)
theorem cW_every {N : Nat} (hN : 100000 ≤ N) : cW N 435778056825 [101, 118, 101, 114, 121] := cW_of hN (by decide) (by decide +kernel) (by decide +kernel)
theorem cW_and {N : Nat} (hN : 100000 ≤ N) : cW N 6385252 [97, 110, 100] := cW_of hN (by decide) (by decide +kernel) (by decide +kernel)
theorem cW_or {N : Nat} (hN : 100000 ≤ N) : cW N 28530 [111, 114] := cW_of hN (by decide) (by decide +kernel) (by decide +kernel)
theorem cW_ask {N : Nat} (hN : 100000 ≤ N) : cW N 6386539 [97, 115, 107] := cW_of hN (by decide) (by decide +kernel) (by decide +kernel)
theorem cW_under {N : Nat} (hN : 100000 ≤ N) : cW N 504363246962 [117, 110, 100, 101, 114] := cW_of hN (by decide) (by decide +kernel) (by decide +kernel)
theorem cW_single {N : Nat} (hN : 100000 ≤ N) : cW N 126896661032037 [115, 105, 110, 103, 108, 101] := cW_of hN (by decide) (by decide +kernel) (by decide +kernel)
theorem cW_sign {N : Nat} (hN : 100000 ≤ N) : ∀ c, c < 128 → c ≠ 0 → cW N c [c] := by
  intro c hc h0
  have e : ∀ c, c < 128 → c ≠ 0 → (∀ j, j < 8 → dg c j < 128) ∧ lst c 8 = [c] := by decide +kernel
  exact cW_of hN (by omega) (e c hc h0).1 (e c hc h0).2
theorem cB_of {N w : Nat} {l : List Nat} (hN : 100000 ≤ N) (h : cW N w l) {k : Nat} {p : Nat → Int32} (hk : k + (l ++ [32]).length ≤ 2670) : f_P_putBehind N (lN w) (nI k) p = some (nI (k + (l ++ [32]).length), wr p k (l ++ [32])) := by
  have hk2 : k + (l.length + 1) ≤ 2670 := by rw [List.length_append] at hk; exact hk
  unfold f_P_putBehind
  rw [h k p (by omega), Option.bind_some]
  have := cW_sign hN 32 (by decide) (by decide) (k + l.length) (wr p k l) (by show k + l.length + 1 ≤ 2670; omega)
  rw [show (32 : Int64) = lN 32 from rfl, this, Option.bind_some, wr_app, List.length_append, Nat.add_assoc]
theorem cJ_of {N w : Nat} {l : List Nat} (hN : 100000 ≤ N) (h : cW N w l) {k : Nat} {p : Nat → Int32} (hk : k + ([32] ++ (l ++ [32])).length ≤ 2670) : f_P_putJoint N (lN w) (nI k) p = some (nI (k + ([32] ++ (l ++ [32])).length), wr p k ([32] ++ (l ++ [32]))) := by
  have hk2 : k + (1 + (l ++ [32]).length) ≤ 2670 := by rw [List.length_append] at hk; exact hk
  unfold f_P_putJoint
  have := cW_sign hN 32 (by decide) (by decide) k p (by show k + 1 ≤ 2670; omega)
  rw [show (32 : Int64) = lN 32 from rfl, this, Option.bind_some]
  show (f_P_putBehind N (lN w) (nI (k + 1)) (wr p k [32])).bind _ = _
  rw [cB_of hN h (by omega), Option.bind_some, wr_app (l := [32]) (l' := l ++ [32]), List.length_append (as := [32]), ← Nat.add_assoc]
  rfl
/-! the model's -/
theorem byte8 : ∀ b, b < 128 → vp_nar .byte (nI b).toInt8.toInt32 = nI b := by decide +kernel
theorem M_put_eq {k b : Nat} {o : Nat → Int32} (hk : k < 16000) (hb : b < 128) : f_M_put (nI b) (nI k) o = some (nI (k + 1), upd o k (nI b)) := by
  unfold f_M_put
  rw [if_neg (nI_g hk (by decide)), nI_cl (by omega), nI_m, byte8 b hb]
/-- the row of kept words -/
def wdl : List Nat := [97, 115, 107, 32, 117, 110, 100, 101, 114, 32, 115, 105, 110, 103, 108, 101, 32, 111, 114, 32, 97, 110, 100, 32, 110, 111, 116, 32, 115, 111, 109, 101, 32, 101, 118, 101, 114, 121, 32, 116, 111, 112, 32, 98, 111, 116, 116, 111, 109, 32]
theorem wdM : ∀ i, i < 50 → wordsM i = nI (wdl.getD i 0) := by decide +kernel
theorem wdl_lt : ∀ i, i < 50 → wdl.getD i 0 < 128 := by decide +kernel
theorem mw_w {N : Nat} {i73 : Int32} {o9 : Nat → Int32} : ∀ (l : List Nat) (a i k : Nat) (o : Nat → Int32), a + l.length < 50 → l.length < i → k + l.length < 16000 → (∀ j, j < l.length → wdl.getD (a + j) 0 = l.getD j 0 ∧ l.getD j 0 ≠ 32) → wdl.getD (a + l.length) 0 = 32 → f_M_putWord_33 N i73 wordsM o9 i (nI a) (nI k) o = some (nI (k + l.length), wr o k l) := by
  intro l
  induction l with
  | nil =>
    intro a i k o ha hi hk h1 h2
    obtain ⟨i, rfl⟩ : ∃ k, i = k + 1 := ⟨i - 1, by have : i > 0 := hi; omega⟩
    have ha' : a < 50 := ha
    have h2' : wdl.getD a 0 = 32 := h2
    rw [f_M_putWord_33, if_neg (nI_g ha' (by decide)), nI_cl (by omega), wdM a ha', h2', if_pos (by decide)]
    rfl
  | cons b l ih =>
    intro a i k o ha hi hk h1 h2
    obtain ⟨i, rfl⟩ : ∃ k, i = k + 1 := ⟨i - 1, by have : i > 0 := Nat.lt_of_le_of_lt (Nat.zero_le _) hi; omega⟩
    have ha' : a + (l.length + 1) < 50 := ha
    have hi' : l.length + 1 < i + 1 := hi
    have hk' : k + (l.length + 1) < 16000 := hk
    have h0 := h1 0 (Nat.zero_lt_succ _)
    have e0 : wdl.getD a 0 = b := h0.1
    have n0 : b ≠ 32 := h0.2
    have lt := wdl_lt a (by omega)
    rw [e0] at lt
    rw [f_M_putWord_33, if_neg (nI_g (show a < 50 by omega) (by decide)), nI_cl (by omega), wdM a (by omega), e0, if_neg (show ¬ nI b = (32 : Int32) from fun z => n0 ((nI_eq (a := b) (b := 32) (by omega) (by omega)).mp z)), M_put_eq (by omega) lt, Option.bind_some, nI_m]
    have := ih (a + 1) i (k + 1) (upd o k (nI b)) (by omega) (by omega) (by omega) (fun j hj => by
      have := h1 (j + 1) (Nat.succ_lt_succ hj)
      rw [show a + 1 + j = a + (j + 1) by omega]
      exact this) (by rw [show a + 1 + l.length = a + (l.length + 1) by omega]; exact h2)
    rw [this]
    rw [show k + 1 + l.length = k + (b :: l).length by show _ = k + (l.length + 1); omega]
    rfl
theorem mw_ne {N i a c : Nat} {i73 : Int32} {o9 : Nat → Int32} (ha : a < 50) (hc : c < 10) (h : wdl.getD a 0 ≠ 32) : f_M_putWord_4 N i73 wordsM o9 (i + 1) (nI a) (nI (c + 1)) = f_M_putWord_4 N i73 wordsM o9 i (nI (a + 1)) (nI (c + 1)) := by
  have lt := wdl_lt a ha
  have e : nI (c + 1) - (0 : Int32) = nI (c + 1) := pk_sub (a := c + 1) (b := 0) (by omega)
  rw [f_M_putWord_4, if_neg (nI_nle (show 0 < c + 1 by omega) (by omega)), if_neg (nI_g ha (by decide)), nI_cl (by omega), wdM a ha, if_neg (show ¬ nI (wdl.getD a 0) = (32 : Int32) from fun z => h ((nI_eq (b := 32) (by omega) (by omega)).mp z)), nI_m, e]
theorem mw_sp {N i a c : Nat} {i73 : Int32} {o9 : Nat → Int32} (ha : a < 50) (hc : c < 10) (h : wdl.getD a 0 = 32) : f_M_putWord_4 N i73 wordsM o9 (i + 1) (nI a) (nI (c + 1)) = f_M_putWord_4 N i73 wordsM o9 i (nI (a + 1)) (nI c) := by
  rw [f_M_putWord_4, if_neg (nI_nle (show 0 < c + 1 by omega) (by omega)), if_neg (nI_g ha (by decide)), nI_cl (by omega), wdM a ha, h, if_pos (show nI 32 = (32 : Int32) from rfl), nI_m, nI_pred]
theorem mw_0 {N i a : Nat} {i73 : Int32} {o9 : Nat → Int32} : f_M_putWord_4 N i73 wordsM o9 (i + 1) (nI a) (nI 0) = f_M_putWord_33 N i73 wordsM o9 N (nI a) i73 o9 := by
  rw [f_M_putWord_4, if_pos (by decide)]
/-- what the model writes for a kept word -/
def mW (N i : Nat) (l : List Nat) : Prop := ∀ (k : Nat) (o : Nat → Int32), k + l.length < 16000 → f_M_putWord N (nI i) (nI k) wordsM o = some (nI (k + l.length), wr o k l)
theorem mW_0 {N : Nat} (hN : 100000 ≤ N) : mW N 0 [97, 115, 107] := by
  intro k o hk
  obtain ⟨M, rfl⟩ : ∃ M, N = M + 1 := ⟨N - 1, by omega⟩
  unfold f_M_putWord
  rw [show (0 : Int32) = nI 0 from rfl, mw_0]
  exact mw_w [97, 115, 107] 0 _ k o (by decide) (by show 3 < _; omega) hk (by decide) (by decide)
theorem mW_1 {N : Nat} (hN : 100000 ≤ N) : mW N 1 [117, 110, 100, 101, 114] := by
  intro k o hk
  obtain ⟨M, rfl⟩ : ∃ M, N = M + 5 := ⟨N - 5, by omega⟩
  unfold f_M_putWord
  rw [show (0 : Int32) = nI 0 from rfl, mw_ne (a := 0) (c := 0) (by decide) (by decide) (by decide), mw_ne (a := 1) (c := 0) (by decide) (by decide) (by decide), mw_ne (a := 2) (c := 0) (by decide) (by decide) (by decide), mw_sp (a := 3) (c := 0) (by decide) (by decide) (by decide), mw_0]
  exact mw_w [117, 110, 100, 101, 114] 4 _ k o (by decide) (by show 5 < _; omega) hk (by decide) (by decide)
theorem mW_2 {N : Nat} (hN : 100000 ≤ N) : mW N 2 [115, 105, 110, 103, 108, 101] := by
  intro k o hk
  obtain ⟨M, rfl⟩ : ∃ M, N = M + 11 := ⟨N - 11, by omega⟩
  unfold f_M_putWord
  rw [show (0 : Int32) = nI 0 from rfl, mw_ne (a := 0) (c := 1) (by decide) (by decide) (by decide), mw_ne (a := 1) (c := 1) (by decide) (by decide) (by decide), mw_ne (a := 2) (c := 1) (by decide) (by decide) (by decide), mw_sp (a := 3) (c := 1) (by decide) (by decide) (by decide), mw_ne (a := 4) (c := 0) (by decide) (by decide) (by decide), mw_ne (a := 5) (c := 0) (by decide) (by decide) (by decide), mw_ne (a := 6) (c := 0) (by decide) (by decide) (by decide), mw_ne (a := 7) (c := 0) (by decide) (by decide) (by decide), mw_ne (a := 8) (c := 0) (by decide) (by decide) (by decide), mw_sp (a := 9) (c := 0) (by decide) (by decide) (by decide), mw_0]
  exact mw_w [115, 105, 110, 103, 108, 101] 10 _ k o (by decide) (by show 6 < _; omega) hk (by decide) (by decide)
theorem mW_3 {N : Nat} (hN : 100000 ≤ N) : mW N 3 [111, 114] := by
  intro k o hk
  obtain ⟨M, rfl⟩ : ∃ M, N = M + 18 := ⟨N - 18, by omega⟩
  unfold f_M_putWord
  rw [show (0 : Int32) = nI 0 from rfl, mw_ne (a := 0) (c := 2) (by decide) (by decide) (by decide), mw_ne (a := 1) (c := 2) (by decide) (by decide) (by decide), mw_ne (a := 2) (c := 2) (by decide) (by decide) (by decide), mw_sp (a := 3) (c := 2) (by decide) (by decide) (by decide), mw_ne (a := 4) (c := 1) (by decide) (by decide) (by decide), mw_ne (a := 5) (c := 1) (by decide) (by decide) (by decide), mw_ne (a := 6) (c := 1) (by decide) (by decide) (by decide), mw_ne (a := 7) (c := 1) (by decide) (by decide) (by decide), mw_ne (a := 8) (c := 1) (by decide) (by decide) (by decide), mw_sp (a := 9) (c := 1) (by decide) (by decide) (by decide), mw_ne (a := 10) (c := 0) (by decide) (by decide) (by decide), mw_ne (a := 11) (c := 0) (by decide) (by decide) (by decide), mw_ne (a := 12) (c := 0) (by decide) (by decide) (by decide), mw_ne (a := 13) (c := 0) (by decide) (by decide) (by decide), mw_ne (a := 14) (c := 0) (by decide) (by decide) (by decide), mw_ne (a := 15) (c := 0) (by decide) (by decide) (by decide), mw_sp (a := 16) (c := 0) (by decide) (by decide) (by decide), mw_0]
  exact mw_w [111, 114] 17 _ k o (by decide) (by show 2 < _; omega) hk (by decide) (by decide)
theorem mW_4 {N : Nat} (hN : 100000 ≤ N) : mW N 4 [97, 110, 100] := by
  intro k o hk
  obtain ⟨M, rfl⟩ : ∃ M, N = M + 21 := ⟨N - 21, by omega⟩
  unfold f_M_putWord
  rw [show (0 : Int32) = nI 0 from rfl, mw_ne (a := 0) (c := 3) (by decide) (by decide) (by decide), mw_ne (a := 1) (c := 3) (by decide) (by decide) (by decide), mw_ne (a := 2) (c := 3) (by decide) (by decide) (by decide), mw_sp (a := 3) (c := 3) (by decide) (by decide) (by decide), mw_ne (a := 4) (c := 2) (by decide) (by decide) (by decide), mw_ne (a := 5) (c := 2) (by decide) (by decide) (by decide), mw_ne (a := 6) (c := 2) (by decide) (by decide) (by decide), mw_ne (a := 7) (c := 2) (by decide) (by decide) (by decide), mw_ne (a := 8) (c := 2) (by decide) (by decide) (by decide), mw_sp (a := 9) (c := 2) (by decide) (by decide) (by decide), mw_ne (a := 10) (c := 1) (by decide) (by decide) (by decide), mw_ne (a := 11) (c := 1) (by decide) (by decide) (by decide), mw_ne (a := 12) (c := 1) (by decide) (by decide) (by decide), mw_ne (a := 13) (c := 1) (by decide) (by decide) (by decide), mw_ne (a := 14) (c := 1) (by decide) (by decide) (by decide), mw_ne (a := 15) (c := 1) (by decide) (by decide) (by decide), mw_sp (a := 16) (c := 1) (by decide) (by decide) (by decide), mw_ne (a := 17) (c := 0) (by decide) (by decide) (by decide), mw_ne (a := 18) (c := 0) (by decide) (by decide) (by decide), mw_sp (a := 19) (c := 0) (by decide) (by decide) (by decide), mw_0]
  exact mw_w [97, 110, 100] 20 _ k o (by decide) (by show 3 < _; omega) hk (by decide) (by decide)
theorem mW_5 {N : Nat} (hN : 100000 ≤ N) : mW N 5 [110, 111, 116] := by
  intro k o hk
  obtain ⟨M, rfl⟩ : ∃ M, N = M + 25 := ⟨N - 25, by omega⟩
  unfold f_M_putWord
  rw [show (0 : Int32) = nI 0 from rfl, mw_ne (a := 0) (c := 4) (by decide) (by decide) (by decide), mw_ne (a := 1) (c := 4) (by decide) (by decide) (by decide), mw_ne (a := 2) (c := 4) (by decide) (by decide) (by decide), mw_sp (a := 3) (c := 4) (by decide) (by decide) (by decide), mw_ne (a := 4) (c := 3) (by decide) (by decide) (by decide), mw_ne (a := 5) (c := 3) (by decide) (by decide) (by decide), mw_ne (a := 6) (c := 3) (by decide) (by decide) (by decide), mw_ne (a := 7) (c := 3) (by decide) (by decide) (by decide), mw_ne (a := 8) (c := 3) (by decide) (by decide) (by decide), mw_sp (a := 9) (c := 3) (by decide) (by decide) (by decide), mw_ne (a := 10) (c := 2) (by decide) (by decide) (by decide), mw_ne (a := 11) (c := 2) (by decide) (by decide) (by decide), mw_ne (a := 12) (c := 2) (by decide) (by decide) (by decide), mw_ne (a := 13) (c := 2) (by decide) (by decide) (by decide), mw_ne (a := 14) (c := 2) (by decide) (by decide) (by decide), mw_ne (a := 15) (c := 2) (by decide) (by decide) (by decide), mw_sp (a := 16) (c := 2) (by decide) (by decide) (by decide), mw_ne (a := 17) (c := 1) (by decide) (by decide) (by decide), mw_ne (a := 18) (c := 1) (by decide) (by decide) (by decide), mw_sp (a := 19) (c := 1) (by decide) (by decide) (by decide), mw_ne (a := 20) (c := 0) (by decide) (by decide) (by decide), mw_ne (a := 21) (c := 0) (by decide) (by decide) (by decide), mw_ne (a := 22) (c := 0) (by decide) (by decide) (by decide), mw_sp (a := 23) (c := 0) (by decide) (by decide) (by decide), mw_0]
  exact mw_w [110, 111, 116] 24 _ k o (by decide) (by show 3 < _; omega) hk (by decide) (by decide)
theorem mW_6 {N : Nat} (hN : 100000 ≤ N) : mW N 6 [115, 111, 109, 101] := by
  intro k o hk
  obtain ⟨M, rfl⟩ : ∃ M, N = M + 29 := ⟨N - 29, by omega⟩
  unfold f_M_putWord
  rw [show (0 : Int32) = nI 0 from rfl, mw_ne (a := 0) (c := 5) (by decide) (by decide) (by decide), mw_ne (a := 1) (c := 5) (by decide) (by decide) (by decide), mw_ne (a := 2) (c := 5) (by decide) (by decide) (by decide), mw_sp (a := 3) (c := 5) (by decide) (by decide) (by decide), mw_ne (a := 4) (c := 4) (by decide) (by decide) (by decide), mw_ne (a := 5) (c := 4) (by decide) (by decide) (by decide), mw_ne (a := 6) (c := 4) (by decide) (by decide) (by decide), mw_ne (a := 7) (c := 4) (by decide) (by decide) (by decide), mw_ne (a := 8) (c := 4) (by decide) (by decide) (by decide), mw_sp (a := 9) (c := 4) (by decide) (by decide) (by decide), mw_ne (a := 10) (c := 3) (by decide) (by decide) (by decide), mw_ne (a := 11) (c := 3) (by decide) (by decide) (by decide), mw_ne (a := 12) (c := 3) (by decide) (by decide) (by decide), mw_ne (a := 13) (c := 3) (by decide) (by decide) (by decide), mw_ne (a := 14) (c := 3) (by decide) (by decide) (by decide), mw_ne (a := 15) (c := 3) (by decide) (by decide) (by decide), mw_sp (a := 16) (c := 3) (by decide) (by decide) (by decide), mw_ne (a := 17) (c := 2) (by decide) (by decide) (by decide), mw_ne (a := 18) (c := 2) (by decide) (by decide) (by decide), mw_sp (a := 19) (c := 2) (by decide) (by decide) (by decide), mw_ne (a := 20) (c := 1) (by decide) (by decide) (by decide), mw_ne (a := 21) (c := 1) (by decide) (by decide) (by decide), mw_ne (a := 22) (c := 1) (by decide) (by decide) (by decide), mw_sp (a := 23) (c := 1) (by decide) (by decide) (by decide), mw_ne (a := 24) (c := 0) (by decide) (by decide) (by decide), mw_ne (a := 25) (c := 0) (by decide) (by decide) (by decide), mw_ne (a := 26) (c := 0) (by decide) (by decide) (by decide), mw_sp (a := 27) (c := 0) (by decide) (by decide) (by decide), mw_0]
  exact mw_w [115, 111, 109, 101] 28 _ k o (by decide) (by show 4 < _; omega) hk (by decide) (by decide)
theorem mW_7 {N : Nat} (hN : 100000 ≤ N) : mW N 7 [101, 118, 101, 114, 121] := by
  intro k o hk
  obtain ⟨M, rfl⟩ : ∃ M, N = M + 34 := ⟨N - 34, by omega⟩
  unfold f_M_putWord
  rw [show (0 : Int32) = nI 0 from rfl, mw_ne (a := 0) (c := 6) (by decide) (by decide) (by decide), mw_ne (a := 1) (c := 6) (by decide) (by decide) (by decide), mw_ne (a := 2) (c := 6) (by decide) (by decide) (by decide), mw_sp (a := 3) (c := 6) (by decide) (by decide) (by decide), mw_ne (a := 4) (c := 5) (by decide) (by decide) (by decide), mw_ne (a := 5) (c := 5) (by decide) (by decide) (by decide), mw_ne (a := 6) (c := 5) (by decide) (by decide) (by decide), mw_ne (a := 7) (c := 5) (by decide) (by decide) (by decide), mw_ne (a := 8) (c := 5) (by decide) (by decide) (by decide), mw_sp (a := 9) (c := 5) (by decide) (by decide) (by decide), mw_ne (a := 10) (c := 4) (by decide) (by decide) (by decide), mw_ne (a := 11) (c := 4) (by decide) (by decide) (by decide), mw_ne (a := 12) (c := 4) (by decide) (by decide) (by decide), mw_ne (a := 13) (c := 4) (by decide) (by decide) (by decide), mw_ne (a := 14) (c := 4) (by decide) (by decide) (by decide), mw_ne (a := 15) (c := 4) (by decide) (by decide) (by decide), mw_sp (a := 16) (c := 4) (by decide) (by decide) (by decide), mw_ne (a := 17) (c := 3) (by decide) (by decide) (by decide), mw_ne (a := 18) (c := 3) (by decide) (by decide) (by decide), mw_sp (a := 19) (c := 3) (by decide) (by decide) (by decide), mw_ne (a := 20) (c := 2) (by decide) (by decide) (by decide), mw_ne (a := 21) (c := 2) (by decide) (by decide) (by decide), mw_ne (a := 22) (c := 2) (by decide) (by decide) (by decide), mw_sp (a := 23) (c := 2) (by decide) (by decide) (by decide), mw_ne (a := 24) (c := 1) (by decide) (by decide) (by decide), mw_ne (a := 25) (c := 1) (by decide) (by decide) (by decide), mw_ne (a := 26) (c := 1) (by decide) (by decide) (by decide), mw_sp (a := 27) (c := 1) (by decide) (by decide) (by decide), mw_ne (a := 28) (c := 0) (by decide) (by decide) (by decide), mw_ne (a := 29) (c := 0) (by decide) (by decide) (by decide), mw_ne (a := 30) (c := 0) (by decide) (by decide) (by decide), mw_ne (a := 31) (c := 0) (by decide) (by decide) (by decide), mw_sp (a := 32) (c := 0) (by decide) (by decide) (by decide), mw_0]
  exact mw_w [101, 118, 101, 114, 121] 33 _ k o (by decide) (by show 5 < _; omega) hk (by decide) (by decide)
theorem mW_8 {N : Nat} (hN : 100000 ≤ N) : mW N 8 [116, 111, 112] := by
  intro k o hk
  obtain ⟨M, rfl⟩ : ∃ M, N = M + 40 := ⟨N - 40, by omega⟩
  unfold f_M_putWord
  rw [show (0 : Int32) = nI 0 from rfl, mw_ne (a := 0) (c := 7) (by decide) (by decide) (by decide), mw_ne (a := 1) (c := 7) (by decide) (by decide) (by decide), mw_ne (a := 2) (c := 7) (by decide) (by decide) (by decide), mw_sp (a := 3) (c := 7) (by decide) (by decide) (by decide), mw_ne (a := 4) (c := 6) (by decide) (by decide) (by decide), mw_ne (a := 5) (c := 6) (by decide) (by decide) (by decide), mw_ne (a := 6) (c := 6) (by decide) (by decide) (by decide), mw_ne (a := 7) (c := 6) (by decide) (by decide) (by decide), mw_ne (a := 8) (c := 6) (by decide) (by decide) (by decide), mw_sp (a := 9) (c := 6) (by decide) (by decide) (by decide), mw_ne (a := 10) (c := 5) (by decide) (by decide) (by decide), mw_ne (a := 11) (c := 5) (by decide) (by decide) (by decide), mw_ne (a := 12) (c := 5) (by decide) (by decide) (by decide), mw_ne (a := 13) (c := 5) (by decide) (by decide) (by decide), mw_ne (a := 14) (c := 5) (by decide) (by decide) (by decide), mw_ne (a := 15) (c := 5) (by decide) (by decide) (by decide), mw_sp (a := 16) (c := 5) (by decide) (by decide) (by decide), mw_ne (a := 17) (c := 4) (by decide) (by decide) (by decide), mw_ne (a := 18) (c := 4) (by decide) (by decide) (by decide), mw_sp (a := 19) (c := 4) (by decide) (by decide) (by decide), mw_ne (a := 20) (c := 3) (by decide) (by decide) (by decide), mw_ne (a := 21) (c := 3) (by decide) (by decide) (by decide), mw_ne (a := 22) (c := 3) (by decide) (by decide) (by decide), mw_sp (a := 23) (c := 3) (by decide) (by decide) (by decide), mw_ne (a := 24) (c := 2) (by decide) (by decide) (by decide), mw_ne (a := 25) (c := 2) (by decide) (by decide) (by decide), mw_ne (a := 26) (c := 2) (by decide) (by decide) (by decide), mw_sp (a := 27) (c := 2) (by decide) (by decide) (by decide), mw_ne (a := 28) (c := 1) (by decide) (by decide) (by decide), mw_ne (a := 29) (c := 1) (by decide) (by decide) (by decide), mw_ne (a := 30) (c := 1) (by decide) (by decide) (by decide), mw_ne (a := 31) (c := 1) (by decide) (by decide) (by decide), mw_sp (a := 32) (c := 1) (by decide) (by decide) (by decide), mw_ne (a := 33) (c := 0) (by decide) (by decide) (by decide), mw_ne (a := 34) (c := 0) (by decide) (by decide) (by decide), mw_ne (a := 35) (c := 0) (by decide) (by decide) (by decide), mw_ne (a := 36) (c := 0) (by decide) (by decide) (by decide), mw_ne (a := 37) (c := 0) (by decide) (by decide) (by decide), mw_sp (a := 38) (c := 0) (by decide) (by decide) (by decide), mw_0]
  exact mw_w [116, 111, 112] 39 _ k o (by decide) (by show 3 < _; omega) hk (by decide) (by decide)
theorem mW_9 {N : Nat} (hN : 100000 ≤ N) : mW N 9 [98, 111, 116, 116, 111, 109] := by
  intro k o hk
  obtain ⟨M, rfl⟩ : ∃ M, N = M + 44 := ⟨N - 44, by omega⟩
  unfold f_M_putWord
  rw [show (0 : Int32) = nI 0 from rfl, mw_ne (a := 0) (c := 8) (by decide) (by decide) (by decide), mw_ne (a := 1) (c := 8) (by decide) (by decide) (by decide), mw_ne (a := 2) (c := 8) (by decide) (by decide) (by decide), mw_sp (a := 3) (c := 8) (by decide) (by decide) (by decide), mw_ne (a := 4) (c := 7) (by decide) (by decide) (by decide), mw_ne (a := 5) (c := 7) (by decide) (by decide) (by decide), mw_ne (a := 6) (c := 7) (by decide) (by decide) (by decide), mw_ne (a := 7) (c := 7) (by decide) (by decide) (by decide), mw_ne (a := 8) (c := 7) (by decide) (by decide) (by decide), mw_sp (a := 9) (c := 7) (by decide) (by decide) (by decide), mw_ne (a := 10) (c := 6) (by decide) (by decide) (by decide), mw_ne (a := 11) (c := 6) (by decide) (by decide) (by decide), mw_ne (a := 12) (c := 6) (by decide) (by decide) (by decide), mw_ne (a := 13) (c := 6) (by decide) (by decide) (by decide), mw_ne (a := 14) (c := 6) (by decide) (by decide) (by decide), mw_ne (a := 15) (c := 6) (by decide) (by decide) (by decide), mw_sp (a := 16) (c := 6) (by decide) (by decide) (by decide), mw_ne (a := 17) (c := 5) (by decide) (by decide) (by decide), mw_ne (a := 18) (c := 5) (by decide) (by decide) (by decide), mw_sp (a := 19) (c := 5) (by decide) (by decide) (by decide), mw_ne (a := 20) (c := 4) (by decide) (by decide) (by decide), mw_ne (a := 21) (c := 4) (by decide) (by decide) (by decide), mw_ne (a := 22) (c := 4) (by decide) (by decide) (by decide), mw_sp (a := 23) (c := 4) (by decide) (by decide) (by decide), mw_ne (a := 24) (c := 3) (by decide) (by decide) (by decide), mw_ne (a := 25) (c := 3) (by decide) (by decide) (by decide), mw_ne (a := 26) (c := 3) (by decide) (by decide) (by decide), mw_sp (a := 27) (c := 3) (by decide) (by decide) (by decide), mw_ne (a := 28) (c := 2) (by decide) (by decide) (by decide), mw_ne (a := 29) (c := 2) (by decide) (by decide) (by decide), mw_ne (a := 30) (c := 2) (by decide) (by decide) (by decide), mw_ne (a := 31) (c := 2) (by decide) (by decide) (by decide), mw_sp (a := 32) (c := 2) (by decide) (by decide) (by decide), mw_ne (a := 33) (c := 1) (by decide) (by decide) (by decide), mw_ne (a := 34) (c := 1) (by decide) (by decide) (by decide), mw_ne (a := 35) (c := 1) (by decide) (by decide) (by decide), mw_ne (a := 36) (c := 1) (by decide) (by decide) (by decide), mw_ne (a := 37) (c := 1) (by decide) (by decide) (by decide), mw_sp (a := 38) (c := 1) (by decide) (by decide) (by decide), mw_ne (a := 39) (c := 0) (by decide) (by decide) (by decide), mw_ne (a := 40) (c := 0) (by decide) (by decide) (by decide), mw_ne (a := 41) (c := 0) (by decide) (by decide) (by decide), mw_sp (a := 42) (c := 0) (by decide) (by decide) (by decide), mw_0]
  exact mw_w [98, 111, 116, 116, 111, 109] 43 _ k o (by decide) (by show 6 < _; omega) hk (by decide) (by decide)
