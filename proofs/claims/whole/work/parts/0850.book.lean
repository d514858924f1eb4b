/-! what the class's book takes down -/
theorem st_pack {a b r : Nat} (ha : a < 256) (hb : b < 256) (hr : r < 256) : (nI a ||| (nI b <<< ((8 : Int32) &&& 31))) ||| (nI r <<< ((16 : Int32) &&& 31)) = nI (a + 256 * b + 65536 * r) := by
  have e8 : ((8 : Int32) &&& (31 : Int32)) = 8 := by decide
  have e16 : ((16 : Int32) &&& (31 : Int32)) = 16 := by decide
  apply Int32.toBitVec_inj.mp
  show (nI a ||| (nI b <<< ((8 : Int32) &&& 31)) ||| (nI r <<< ((16 : Int32) &&& 31))).toBitVec = BitVec.ofNat 32 (a + 256 * b + 65536 * r)
  rw [e8, e16, Int32.toBitVec_or, Int32.toBitVec_or, Int32.toBitVec_shiftLeft, Int32.toBitVec_shiftLeft, nI_bv, nI_bv, nI_bv]
  have s8 : ((8 : Int32).toBitVec.smod 32) = 8#32 := by decide
  have s16 : ((16 : Int32).toBitVec.smod 32) = 16#32 := by decide
  rw [s8, s16]
  apply BitVec.eq_of_toNat_eq
  rw [BitVec.toNat_or, BitVec.toNat_or]
  show ((BitVec.ofNat 32 a).toNat ||| (BitVec.ofNat 32 b <<< (8 : Nat)).toNat) ||| (BitVec.ofNat 32 r <<< (16 : Nat)).toNat = _
  rw [BitVec.toNat_shiftLeft, BitVec.toNat_shiftLeft, BitVec.toNat_ofNat, BitVec.toNat_ofNat, BitVec.toNat_ofNat, BitVec.toNat_ofNat, Nat.mod_eq_of_lt (show a < 2 ^ 32 by omega), Nat.mod_eq_of_lt (show b < 2 ^ 32 by omega), Nat.mod_eq_of_lt (show r < 2 ^ 32 by omega), Nat.shiftLeft_eq, Nat.shiftLeft_eq, Nat.mod_eq_of_lt (show b * 2 ^ 8 < 2 ^ 32 by omega), Nat.mod_eq_of_lt (show r * 2 ^ 16 < 2 ^ 32 by omega), Nat.mod_eq_of_lt (show a + 256 * b + 65536 * r < 2 ^ 32 by omega)]
  have h1 := Nat.two_pow_add_eq_or_of_lt (i := 8) (b := a) (by omega) b
  have h2 := Nat.two_pow_add_eq_or_of_lt (i := 16) (b := a + 256 * b) (by omega) r
  rw [Nat.mul_comm b, Nat.mul_comm r, Nat.or_comm a, ← h1, Nat.or_comm, show 2 ^ 8 * b + a = a + 256 * b by omega, ← h2]
  omega
theorem adS_eq {a b r ns : Nat} {b6 : Nat → Int32} (ha : a < 256) (hb : b < 256) (hr : r < 256) (hs : ns < 246) : f_B_addStatement (nI a) (nI b) (nI r) (nI ns) b6 = some (nI (a + 256 * b + 65536 * r), nI (ns + 1), upd b6 ns (nI (a + 256 * b + 65536 * r))) := by
  unfold f_B_addStatement
  rw [if_neg (show ¬ (246 : Int32) ≤ nI ns from nI_ge (a := ns) (b := 246) hs (by decide)), if_neg (nI_g hs (by decide)), nI_cl (by omega), st_pack ha hb hr, nI_m]
/-- an edge more -/
theorem clo_chk : ∀ G, G < 512 → ∀ a, a < 3 → ∀ b, b < 3 → (!acy G || decide (a = b) || clo G b a || (acy (G ||| 2 ^ (3 * a + b)) && (List.range 3).all fun r => decide (rowG (G ||| 2 ^ (3 * a + b)) r = (if decide (r = a) || clo G r a then rowG G r ||| (2 ^ b ||| rowG G b) else rowG G r)))) = true := by decide +kernel
theorem clo_add (G : Nat) (hG : G < 512) (hac : acy G = true) (a : Nat) (ha : a < 3) (b : Nat) (hb : b < 3) (hab : a ≠ b) (hba : clo G b a = false) : acy (G ||| 2 ^ (3 * a + b)) = true ∧ ∀ r, r < 3 → rowG (G ||| 2 ^ (3 * a + b)) r = (if r = a ∨ clo G r a = true then rowG G r ||| (2 ^ b ||| rowG G b) else rowG G r) := by
  have h := clo_chk G hG a ha b hb
  rw [hac, hba, decide_eq_false hab] at h
  simp only [Bool.not_true, Bool.false_or] at h
  rw [Bool.and_eq_true] at h
  refine ⟨h.1, fun r hr => ?_⟩
  have h2 := List.all_eq_true.mp h.2 r (List.mem_range.mpr hr)
  rw [decide_eq_true_eq] at h2
  rw [h2]
  by_cases e : r = a
  · simp [e]
  · simp [e]
theorem ao_loop {N G a : Nat} {v3 : Nat} {o7 o14 x7 x14 : Int32} {o6 o12 x6 b12 : Nat → Int32} (ha : a < 3) (H : UnC G b12) : ∀ (d i j : Nat) (x : Nat → Int32), j + d = 3 → d < i → (∀ r, r < 3 → x r = if r < j ∧ (r = a ∨ clo G r a = true) then nI (rowG G r ||| v3) else b12 r) → ∃ x', f_B_addOrder_37 N o7 o14 o6 o12 (nI a) (nI v3) x7 x14 x6 i (nI j) x = some (x7, x14, x6, x') ∧ ∀ r, r < 3 → x' r = if r = a ∨ clo G r a = true then nI (rowG G r ||| v3) else b12 r := by
  intro d
  induction d with
  | zero =>
    intro i j x hj hi hx
    obtain ⟨i, rfl⟩ : ∃ k, i = k + 1 := ⟨i - 1, by omega⟩
    rw [f_B_addOrder_37, if_pos (show (3 : Int32) ≤ nI j from nI_le (a := 3) (by omega) (by omega))]
    refine ⟨x, rfl, fun r hr => ?_⟩
    rw [hx r hr]
    by_cases e : r = a ∨ clo G r a = true
    · rw [if_pos e, if_pos ⟨by omega, e⟩]
    · rw [if_neg e, if_neg (fun z => e z.2)]
  | succ d ih =>
    intro i j x hj hi hx
    obtain ⟨i, rfl⟩ : ∃ k, i = k + 1 := ⟨i - 1, by omega⟩
    have hj3 : j < 3 := by omega
    have xj : x j = nI (rowG G j) := by
      rw [hx j hj3, if_neg (fun z => by omega)]
      exact H j hj3
    have put : f_B_addOrder_59 N o7 o14 o6 o12 (f_B_addOrder_37 N o7 o14 o6 o12 (nI a) (nI v3) x7 x14 x6 i) (nI a) (nI v3) (nI j) x7 x14 x6 x = f_B_addOrder_37 N o7 o14 o6 o12 (nI a) (nI v3) x7 x14 x6 i (nI (j + 1)) (upd x j (nI (rowG G j ||| v3))) := by
      unfold f_B_addOrder_59
      rw [if_neg (nI_g hj3 (by decide)), nI_cl (by omega), xj, nI_or, nI_m]
    rw [f_B_addOrder_37, if_neg (show ¬ (3 : Int32) ≤ nI j from nI_ge (a := j) (b := 3) hj3 (by decide))]
    have hyes : (j = a ∨ clo G j a = true) → ∃ x', f_B_addOrder_37 N o7 o14 o6 o12 (nI a) (nI v3) x7 x14 x6 i (nI (j + 1)) (upd x j (nI (rowG G j ||| v3))) = some (x7, x14, x6, x') ∧ ∀ r, r < 3 → x' r = if r = a ∨ clo G r a = true then nI (rowG G r ||| v3) else b12 r := fun hh => by
      refine ih i (j + 1) _ (by omega) (by omega) (fun r hr => ?_)
      by_cases e : r = j
      · rw [e, up_s, if_pos ⟨by omega, hh⟩]
      · rw [up_n e, hx r hr]
        by_cases e' : r < j ∧ (r = a ∨ clo G r a = true)
        · rw [if_pos e', if_pos ⟨by omega, e'.2⟩]
        · rw [if_neg e', if_neg (fun z => e' ⟨by omega, z.2⟩)]
    by_cases e : j = a
    · rw [if_pos (by rw [e]), put]
      exact hyes (Or.inl e)
    · rw [if_neg (fun z => e ((nI_eq (by omega) (by omega)).mp z))]
      have ur : f_B_isRoleUnder (nI j) (nI a) x = some (b2i (clo G j a)) := by
        unfold f_B_isRoleUnder f_B_rolesAbove
        rw [if_neg (show ¬ nI j < 0 from nI_pos (by omega)), if_neg (show ¬ (3 : Int32) ≤ nI j from nI_ge (a := j) (b := 3) hj3 (by decide)), if_neg (nI_g hj3 (by decide)), Option.bind_some, nI_cl (by omega), xj, bit_of (rowG_lt G j) ha, rowG_bit ha]
      rw [ur, Option.bind_some]
      by_cases c : clo G j a = true
      · rw [c, if_neg (show ¬ b2i true = 0 by decide), put]
        exact hyes (Or.inr c)
      · rw [if_pos (show b2i (clo G j a) = 0 by cases h : clo G j a; rfl; exact absurd h c), nI_m]
        refine ih i (j + 1) x (by omega) (by omega) (fun r hr => ?_)
        rw [hx r hr]
        by_cases e' : r < j ∧ (r = a ∨ clo G r a = true)
        · rw [if_pos e', if_pos ⟨by omega, e'.2⟩]
        · rw [if_neg e', if_neg (fun z => by
            by_cases q : r = j
            · rw [q] at z
              rcases z.2 with z | z
              · exact e z
              · exact c z
            · exact e' ⟨by omega, z.2⟩)]
theorem aO_eq {N G a b ns Od : Nat} {b6 b12 : Nat → Int32} (hN : 100000 ≤ N) (hG : G < 512) (hac : acy G = true) (ha : a < 3) (hb : b < 3) (hab : a ≠ b) (hba : clo G b a = false) (hs : ns < 246) (H : UnC G b12) : ∃ x', f_B_addOrder N (nI a) (nI b) (nI ns) (nI Od) b6 b12 = some (nI (ns + 1), nI (Od ||| (2 ^ a ||| 2 ^ b)), upd b6 ns (nI (3 + 256 * a + 65536 * b)), x') ∧ UnC (G ||| 2 ^ (3 * a + b)) x' ∧ acy (G ||| 2 ^ (3 * a + b)) = true ∧ G ||| 2 ^ (3 * a + b) < 512 := by
  obtain ⟨c1, c2⟩ := clo_add G hG hac a ha b hb hab hba
  obtain ⟨x', l1, l2⟩ := ao_loop (N := N) (v3 := 2 ^ b ||| rowG G b) (o7 := nI ns) (o14 := nI Od) (x7 := nI (ns + 1)) (x14 := nI (Od ||| (2 ^ a ||| 2 ^ b))) (o6 := b6) (o12 := b12) (x6 := upd b6 ns (nI (3 + 256 * a + 65536 * b))) ha H 3 N 0 b12 (by omega) (by omega) (fun r hr => by rw [if_neg (fun z => by omega)])
  refine ⟨x', ?_, fun r hr => ?_, c1, ?_⟩
  · unfold f_B_addOrder f_B_rolesAbove
    rw [show (3 : Int32) = nI 3 from rfl, adS_eq (by decide) (by omega) (by omega) hs, Option.bind_some, if_neg (show ¬ nI b < 0 from nI_pos (by omega)), if_neg (show ¬ nI 3 ≤ nI b from nI_ge hb (by decide)), if_neg (nI_g hb (by decide)), Option.bind_some, nI_cl (by omega), H b hb, pw9 a (by omega), pw9 b (by omega), nI_or, nI_or, nI_or]
    exact l1
  · rw [l2 r hr, c2 r hr]
    by_cases e : r = a ∨ clo G r a = true
    · rw [if_pos e, if_pos e]
    · rw [if_neg e, if_neg e]; exact H r hr
  · have : 2 ^ (3 * a + b) < 2 ^ 9 := Nat.pow_lt_pow_right (by decide) (by omega)
    exact Nat.or_lt_two_pow (n := 9) hG this
