/-! shifted rows -/
theorem lN_shr {x : Nat} (hx : x < 2 ^ 64) : ∀ k : Int32, ∀ m : Nat, ((k.toInt64.toUInt64 &&& Int64.toUInt64 63).toBitVec % 64).toNat = m → (((lN x).toUInt64 >>> (k.toInt64.toUInt64 &&& Int64.toUInt64 63)).toInt64) = lN (x / 2 ^ m) := by
  intro k m hm
  apply Int64.toBitVec_inj.mp
  show ((lN x).toUInt64 >>> (k.toInt64.toUInt64 &&& Int64.toUInt64 63)).toBitVec = BitVec.ofNat 64 (x / 2 ^ m)
  rw [UInt64.toBitVec_shiftRight]
  apply BitVec.eq_of_toNat_eq
  rw [BitVec.ushiftRight_eq', BitVec.toNat_ushiftRight, hm]
  show (BitVec.ofNat 64 x).toNat >>> m = _
  rw [BitVec.toNat_ofNat, BitVec.toNat_ofNat, Nat.shiftRight_eq_div_pow, Nat.mod_eq_of_lt hx, Nat.mod_eq_of_lt (Nat.lt_of_le_of_lt (Nat.div_le_self _ _) hx)]
theorem lN_and (a b : Nat) : lN a &&& lN b = lN (a &&& b) := by
  apply Int64.toBitVec_inj.mp
  show BitVec.ofNat 64 a &&& BitVec.ofNat 64 b = BitVec.ofNat 64 (a &&& b)
  apply BitVec.eq_of_getLsbD_eq
  intro i hi
  rw [BitVec.getLsbD_and, BitVec.getLsbD_ofNat, BitVec.getLsbD_ofNat, BitVec.getLsbD_ofNat, Nat.testBit_and]
  simp [hi]
theorem cb_le (p : Nat → Bool) : ∀ B, cb p B ≤ B
  | 0 => Nat.le_refl _
  | B + 1 => by
    have := cb_le p B
    unfold cb
    by_cases h : p B = true
    · rw [if_pos h]; omega
    · rw [if_neg h]; omega
theorem cb_same {p q : Nat → Bool} : ∀ {B}, (∀ s, s < B → p s = q s) → cb p B = cb q B
  | 0, _ => rfl
  | B + 1, h => by
    unfold cb
    rw [cb_same (B := B) (fun s hs => h s (by omega)), h B (by omega)]
theorem cb_add (p : Nat → Bool) (a : Nat) : ∀ b, cb p (a + b) = cb p a + cb (fun j => p (a + j)) b
  | 0 => rfl
  | b + 1 => by
    show cb p (a + b) + (if p (a + b) = true then 1 else 0) = cb p a + (cb (fun j => p (a + j)) b + (if p (a + b) = true then 1 else 0))
    rw [cb_add p a b]; omega
def pc8 (b : Nat) : Nat := cb (fun j => b.testBit j) 8
theorem pc_by {x i : Nat} : pc8 (x / 2 ^ (8 * i) % 256) = cb (fun j => x.testBit (8 * i + j)) 8 := by
  unfold pc8
  apply cb_same
  intro s hs
  rw [show (256 : Nat) = 2 ^ 8 from rfl, Nat.testBit_mod_two_pow, Nat.testBit_div_two_pow]
  simp [hs, Nat.add_comm]
theorem pc_sum (x : Nat) : cb (fun j => x.testBit j) 64 = pc8 (x % 256) + pc8 (x / 256 % 256) + pc8 (x / 65536 % 256) + pc8 (x / 16777216 % 256) + pc8 (x / 4294967296 % 256) + pc8 (x / 1099511627776 % 256) + pc8 (x / 281474976710656 % 256) + pc8 (x / 72057594037927936 % 256) := by
  have e0 : pc8 (x % 256) = cb (fun j => x.testBit (0 + j)) 8 := by
    have := pc_by (x := x) (i := 0)
    rw [show 2 ^ (8 * 0) = 1 from rfl, Nat.div_one] at this
    exact this
  have e1 : pc8 (x / 256 % 256) = cb (fun j => x.testBit (8 + j)) 8 := pc_by (i := 1)
  have e2 : pc8 (x / 65536 % 256) = cb (fun j => x.testBit (16 + j)) 8 := pc_by (i := 2)
  have e3 : pc8 (x / 16777216 % 256) = cb (fun j => x.testBit (24 + j)) 8 := pc_by (i := 3)
  have e4 : pc8 (x / 4294967296 % 256) = cb (fun j => x.testBit (32 + j)) 8 := pc_by (i := 4)
  have e5 : pc8 (x / 1099511627776 % 256) = cb (fun j => x.testBit (40 + j)) 8 := pc_by (i := 5)
  have e6 : pc8 (x / 281474976710656 % 256) = cb (fun j => x.testBit (48 + j)) 8 := pc_by (i := 6)
  have e7 : pc8 (x / 72057594037927936 % 256) = cb (fun j => x.testBit (56 + j)) 8 := pc_by (i := 7)
  have s7 := cb_add (fun j => x.testBit j) 56 8
  have s6 := cb_add (fun j => x.testBit j) 48 8
  have s5 := cb_add (fun j => x.testBit j) 40 8
  have s4 := cb_add (fun j => x.testBit j) 32 8
  have s3 := cb_add (fun j => x.testBit j) 24 8
  have s2 := cb_add (fun j => x.testBit j) 16 8
  have s1 := cb_add (fun j => x.testBit j) 8 8
  have s0 := cb_add (fun j => x.testBit j) 0 8
  have z : cb (fun j => x.testBit j) 0 = 0 := rfl
  simp only [Nat.reduceAdd] at s7 s6 s5 s4 s3 s2 s1 s0
  omega
theorem nI_and127 (n : Nat) : nI n &&& (127 : Int32) = nI (n % 128) := by
  rw [pk_and _ (m := 127) 7 (by decide)]
  have e : (nI n).toBitVec.toNat = n % 2 ^ 32 := by
    show (BitVec.ofNat 32 n).toNat = _
    rw [BitVec.toNat_ofNat]
  rw [e]
  have : n % 2 ^ 32 % 2 ^ 7 = n % 128 := by omega
  rw [this]
theorem mk_row (m : Nat) {l : List Nat} (h : l.length = 8) : vl (l.map (fun _ => m)) = vl (List.replicate 8 m) := by
  rw [List.map_const', h]
theorem mk85 : vl (List.replicate 8 85) = 6148914691236517205 := by decide +kernel
theorem mk51 : vl (List.replicate 8 51) = 3689348814741910323 := by decide +kernel
theorem mk15 : vl (List.replicate 8 15) = 1085102592571150095 := by decide +kernel
