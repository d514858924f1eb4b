/-! how many bits of a long are set -/
def vl : List Nat → Nat
  | [] => 0
  | b :: r => b + 256 * vl r
def cb (p : Nat → Bool) : Nat → Nat
  | 0 => 0
  | B + 1 => cb p B + (if p B = true then 1 else 0)
theorem and256 {b m v u : Nat} (hb : b < 256) (hm : m < 256) : (b + 256 * v) &&& (m + 256 * u) = (b &&& m) + 256 * (v &&& u) := by
  have h1 := Nat.and_div_two_pow (a := b + 256 * v) (b := m + 256 * u) (n := 8)
  have h2 := Nat.and_mod_two_pow (a := b + 256 * v) (b := m + 256 * u) (n := 8)
  rw [show (b + 256 * v) / 2 ^ 8 = v by omega, show (m + 256 * u) / 2 ^ 8 = u by omega] at h1
  rw [show (b + 256 * v) % 2 ^ 8 = b by omega, show (m + 256 * u) % 2 ^ 8 = m by omega] at h2
  omega
theorem dg1 : ∀ b, b < 256 → ∀ q, q < 2 → (b / 2 + 128 * q) &&& 85 = (b / 2) &&& 85 := by decide +kernel
theorem dg2 : ∀ b, b < 256 → ∀ q, q < 4 → (b / 4 + 64 * q) &&& 51 = (b / 4) &&& 51 := by decide +kernel
theorem dg3 : ∀ b, b < 256 → b / 16 ≤ 4 → b % 16 ≤ 4 → ∀ q, q < 5 → b + b / 16 + 16 * q < 256 ∧ (b + b / 16 + 16 * q) &&& 15 = (b + b / 16) &&& 15 := by decide +kernel
theorem dgA : ∀ b, b < 256 → (b / 2) &&& 85 ≤ b := by decide +kernel
def t1 (b : Nat) : Nat := b - ((b / 2) &&& 85)
def t2 (b : Nat) : Nat := (b &&& 51) + ((b / 4) &&& 51)
def t3 (b : Nat) : Nat := (b + b / 16) &&& 15
theorem dgB : ∀ b, b < 256 → t2 (t1 b) / 16 ≤ 4 ∧ t2 (t1 b) % 16 ≤ 4 ∧ t2 (t1 b) < 256 ∧ t1 b < 256 ∧ t3 (t2 (t1 b)) = cb (fun j => b.testBit j) 8 := by decide +kernel
theorem vs1 : ∀ l : List Nat, (∀ b, b ∈ l → b < 256) → (vl l / 2) &&& vl (l.map (fun _ => 85)) = vl (l.map (fun b => (b / 2) &&& 85))
  | [], _ => by simp [vl]
  | b :: r, h => by
    have ih := vs1 r (fun x hx => h x (List.mem_cons_of_mem _ hx))
    have hb := h b (List.mem_cons_self ..)
    show ((b + 256 * vl r) / 2) &&& (85 + 256 * vl (r.map (fun _ => 85))) = ((b / 2) &&& 85) + 256 * vl (r.map (fun b => (b / 2) &&& 85))
    rw [show (b + 256 * vl r) / 2 = (b / 2 + 128 * (vl r % 2)) + 256 * (vl r / 2) by omega, and256 (by omega) (by decide), dg1 b hb _ (Nat.mod_lt _ (by decide)), ih]
theorem vs1b : ∀ l : List Nat, (∀ b, b ∈ l → b < 256) → vl l = vl (l.map t1) + vl (l.map (fun b => (b / 2) &&& 85))
  | [], _ => rfl
  | b :: r, h => by
    have ih := vs1b r (fun x hx => h x (List.mem_cons_of_mem _ hx))
    have hb := dgA b (h b (List.mem_cons_self ..))
    show b + 256 * vl r = (t1 b + 256 * vl (r.map t1)) + (((b / 2) &&& 85) + 256 * vl (r.map (fun b => (b / 2) &&& 85)))
    unfold t1
    have : vl r = vl (r.map (fun b => b - ((b / 2) &&& 85))) + vl (r.map (fun b => (b / 2) &&& 85)) := ih
    omega
theorem vs2 : ∀ l : List Nat, (∀ b, b ∈ l → b < 256) → (vl l &&& vl (l.map (fun _ => 51))) + ((vl l / 4) &&& vl (l.map (fun _ => 51))) = vl (l.map t2)
  | [], _ => by simp [vl]
  | b :: r, h => by
    have ih := vs2 r (fun x hx => h x (List.mem_cons_of_mem _ hx))
    have hb := h b (List.mem_cons_self ..)
    show ((b + 256 * vl r) &&& (51 + 256 * vl (r.map (fun _ => 51)))) + (((b + 256 * vl r) / 4) &&& (51 + 256 * vl (r.map (fun _ => 51)))) = t2 b + 256 * vl (r.map t2)
    rw [show (b + 256 * vl r) / 4 = (b / 4 + 64 * (vl r % 4)) + 256 * (vl r / 4) by omega, and256 (by omega) (by decide), and256 (by omega) (by decide), dg2 b hb _ (Nat.mod_lt _ (by decide)), ← ih]
    unfold t2
    omega
theorem vl16 : ∀ l : List Nat, (∀ b, b ∈ l → b % 16 ≤ 4) → vl l % 16 < 5
  | [], _ => by simp [vl]
  | b :: r, h => by
    have hb := h b (List.mem_cons_self ..)
    show (b + 256 * vl r) % 16 < 5
    omega
theorem vs3 : ∀ l : List Nat, (∀ b, b ∈ l → b < 256 ∧ b / 16 ≤ 4 ∧ b % 16 ≤ 4) → (vl l + vl l / 16) &&& vl (l.map (fun _ => 15)) = vl (l.map t3)
  | [], _ => by simp [vl]
  | b :: r, h => by
    have ih := vs3 r (fun x hx => h x (List.mem_cons_of_mem _ hx))
    obtain ⟨h1, h2, h3⟩ := h b (List.mem_cons_self ..)
    have hq := vl16 r (fun x hx => (h x (List.mem_cons_of_mem _ hx)).2.2)
    obtain ⟨g1, g2⟩ := dg3 b h1 h2 h3 _ hq
    show ((b + 256 * vl r) + (b + 256 * vl r) / 16) &&& (15 + 256 * vl (r.map (fun _ => 15))) = t3 b + 256 * vl (r.map t3)
    rw [show (b + 256 * vl r) + (b + 256 * vl r) / 16 = (b + b / 16 + 16 * (vl r % 16)) + 256 * (vl r + vl r / 16) by omega, and256 g1 (by decide), g2, ih]
    rfl
def bys (x : Nat) : List Nat := [x % 256, x / 256 % 256, x / 65536 % 256, x / 16777216 % 256, x / 4294967296 % 256, x / 1099511627776 % 256, x / 281474976710656 % 256, x / 72057594037927936 % 256]
theorem vl_bys {x : Nat} (hx : x < 2 ^ 64) : vl (bys x) = x := by
  unfold bys
  simp only [vl]
  omega
theorem bys_lt (x : Nat) : ∀ b, b ∈ bys x → b < 256 := by
  intro b hb
  unfold bys at hb
  simp only [List.mem_cons, List.not_mem_nil, or_false] at hb
  rcases hb with h | h | h | h | h | h | h | h <;> (rw [h]; exact Nat.mod_lt _ (by decide))
theorem lN_shr {x : Nat} (hx : x < 2 ^ 64) : ∀ k : Int32, ∀ m : Nat, ((k.toInt64.toUInt64 &&& Int64.toUInt64 63).toBitVec % 64).toNat = m → (((lN x).toUInt64 >>> (k.toInt64.toUInt64 &&& Int64.toUInt64 63)).toInt64) = lN (x / 2 ^ m) := by
  intro k m hm
  apply Int64.toBitVec_inj.mp
  show ((lN x).toUInt64 >>> (k.toInt64.toUInt64 &&& Int64.toUInt64 63)).toBitVec = BitVec.ofNat 64 (x / 2 ^ m)
  rw [UInt64.toBitVec_shiftRight]
  apply BitVec.eq_of_toNat_eq
  rw [BitVec.ushiftRight_eq', BitVec.toNat_ushiftRight, hm]
  show (BitVec.ofNat 64 x).toNat >>> m = _
  rw [BitVec.toNat_ofNat, BitVec.toNat_ofNat, Nat.shiftRight_eq_div_pow, Nat.mod_eq_of_lt hx, Nat.mod_eq_of_lt (Nat.lt_of_le_of_lt (Nat.div_le_self _ _) hx)]
theorem lN_and (a b : Nat) : lN a &&& lN b = lN (a &&& b) := by
  apply Int64.toBitVec_inj.mp
  show BitVec.ofNat 64 a &&& BitVec.ofNat 64 b = BitVec.ofNat 64 (a &&& b)
  apply BitVec.eq_of_getLsbD_eq
  intro i hi
  rw [BitVec.getLsbD_and, BitVec.getLsbD_ofNat, BitVec.getLsbD_ofNat, BitVec.getLsbD_ofNat, Nat.testBit_and]
  simp [hi]
theorem cb_le (p : Nat → Bool) : ∀ B, cb p B ≤ B
  | 0 => Nat.le_refl _
  | B + 1 => by
    have := cb_le p B
    unfold cb
    by_cases h : p B = true
    · rw [if_pos h]; omega
    · rw [if_neg h]; omega
theorem cb_same {p q : Nat → Bool} : ∀ {B}, (∀ s, s < B → p s = q s) → cb p B = cb q B
  | 0, _ => rfl
  | B + 1, h => by
    unfold cb
    rw [cb_same (B := B) (fun s hs => h s (by omega)), h B (by omega)]
theorem cb_add (p : Nat → Bool) (a : Nat) : ∀ b, cb p (a + b) = cb p a + cb (fun j => p (a + j)) b
  | 0 => rfl
  | b + 1 => by
    show cb p (a + b) + (if p (a + b) = true then 1 else 0) = cb p a + (cb (fun j => p (a + j)) b + (if p (a + b) = true then 1 else 0))
    rw [cb_add p a b]; omega
def pc8 (b : Nat) : Nat := cb (fun j => b.testBit j) 8
theorem pc_by {x i : Nat} : pc8 (x / 2 ^ (8 * i) % 256) = cb (fun j => x.testBit (8 * i + j)) 8 := by
  unfold pc8
  apply cb_same
  intro s hs
  rw [show (256 : Nat) = 2 ^ 8 from rfl, Nat.testBit_mod_two_pow, Nat.testBit_div_two_pow]
  simp [hs, Nat.add_comm]
theorem pc_sum (x : Nat) : cb (fun j => x.testBit j) 64 = pc8 (x % 256) + pc8 (x / 256 % 256) + pc8 (x / 65536 % 256) + pc8 (x / 16777216 % 256) + pc8 (x / 4294967296 % 256) + pc8 (x / 1099511627776 % 256) + pc8 (x / 281474976710656 % 256) + pc8 (x / 72057594037927936 % 256) := by
  have e0 : pc8 (x % 256) = cb (fun j => x.testBit (0 + j)) 8 := by
    have := pc_by (x := x) (i := 0)
    rw [show 2 ^ (8 * 0) = 1 from rfl, Nat.div_one] at this
    exact this
  have e1 : pc8 (x / 256 % 256) = cb (fun j => x.testBit (8 + j)) 8 := pc_by (i := 1)
  have e2 : pc8 (x / 65536 % 256) = cb (fun j => x.testBit (16 + j)) 8 := pc_by (i := 2)
  have e3 : pc8 (x / 16777216 % 256) = cb (fun j => x.testBit (24 + j)) 8 := pc_by (i := 3)
  have e4 : pc8 (x / 4294967296 % 256) = cb (fun j => x.testBit (32 + j)) 8 := pc_by (i := 4)
  have e5 : pc8 (x / 1099511627776 % 256) = cb (fun j => x.testBit (40 + j)) 8 := pc_by (i := 5)
  have e6 : pc8 (x / 281474976710656 % 256) = cb (fun j => x.testBit (48 + j)) 8 := pc_by (i := 6)
  have e7 : pc8 (x / 72057594037927936 % 256) = cb (fun j => x.testBit (56 + j)) 8 := pc_by (i := 7)
  have s7 := cb_add (fun j => x.testBit j) 56 8
  have s6 := cb_add (fun j => x.testBit j) 48 8
  have s5 := cb_add (fun j => x.testBit j) 40 8
  have s4 := cb_add (fun j => x.testBit j) 32 8
  have s3 := cb_add (fun j => x.testBit j) 24 8
  have s2 := cb_add (fun j => x.testBit j) 16 8
  have s1 := cb_add (fun j => x.testBit j) 8 8
  have s0 := cb_add (fun j => x.testBit j) 0 8
  have z : cb (fun j => x.testBit j) 0 = 0 := rfl
  simp only [Nat.reduceAdd] at s7 s6 s5 s4 s3 s2 s1 s0
  omega
theorem nI_and127 (n : Nat) : nI n &&& (127 : Int32) = nI (n % 128) := by
  rw [pk_and _ (m := 127) 7 (by decide)]
  have e : (nI n).toBitVec.toNat = n % 2 ^ 32 := by
    show (BitVec.ofNat 32 n).toNat = _
    rw [BitVec.toNat_ofNat]
  rw [e]
  have : n % 2 ^ 32 % 2 ^ 7 = n % 128 := by omega
  rw [this]
theorem mk_row (m : Nat) {l : List Nat} (h : l.length = 8) : vl (l.map (fun _ => m)) = vl (List.replicate 8 m) := by
  rw [List.map_const', h]
theorem mk85 : vl (List.replicate 8 85) = 6148914691236517205 := by decide +kernel
theorem mk51 : vl (List.replicate 8 51) = 3689348814741910323 := by decide +kernel
theorem mk15 : vl (List.replicate 8 15) = 1085102592571150095 := by decide +kernel
theorem fold8 {g0 g1 g2 g3 g4 g5 g6 g7 : Nat} (s0 : g0 ≤ 8) (s1 : g1 ≤ 8) (s2 : g2 ≤ 8) (s3 : g3 ≤ 8) (s4 : g4 ≤ 8) (s5 : g5 ≤ 8) (s6 : g6 ≤ 8) (s7 : g7 ≤ 8) : f_J_bitCount_34 (lN (g0 + 256 * (g1 + 256 * (g2 + 256 * (g3 + 256 * (g4 + 256 * (g5 + 256 * (g6 + 256 * g7)))))))) = some (nI (g0 + g1 + g2 + g3 + g4 + g5 + g6 + g7)) := by
  have h1 : (g0 + 256 * (g1 + 256 * (g2 + 256 * (g3 + 256 * (g4 + 256 * (g5 + 256 * (g6 + 256 * g7))))))) / 2 ^ 8 = g1 + 256 * (g2 + 256 * (g3 + 256 * (g4 + 256 * (g5 + 256 * (g6 + 256 * g7))))) := by omega
  have y1 : (g0 + 256 * (g1 + 256 * (g2 + 256 * (g3 + 256 * (g4 + 256 * (g5 + 256 * (g6 + 256 * g7))))))) + (g1 + 256 * (g2 + 256 * (g3 + 256 * (g4 + 256 * (g5 + 256 * (g6 + 256 * g7)))))) = (g0 + g1) + 256 * (g1 + g2) + 65536 * ((g2 + g3) + 256 * ((g3 + g4) + 256 * ((g4 + g5) + 256 * ((g5 + g6) + 256 * ((g6 + g7) + 256 * g7))))) := by omega
  have h2 : ((g0 + g1) + 256 * (g1 + g2) + 65536 * ((g2 + g3) + 256 * ((g3 + g4) + 256 * ((g4 + g5) + 256 * ((g5 + g6) + 256 * ((g6 + g7) + 256 * g7)))))) / 2 ^ 16 = (g2 + g3) + 256 * ((g3 + g4) + 256 * ((g4 + g5) + 256 * ((g5 + g6) + 256 * ((g6 + g7) + 256 * g7)))) := by
    generalize (g2 + g3) + 256 * ((g3 + g4) + 256 * ((g4 + g5) + 256 * ((g5 + g6) + 256 * ((g6 + g7) + 256 * g7)))) = Z
    omega
  have y2 : ((g0 + g1) + 256 * (g1 + g2) + 65536 * ((g2 + g3) + 256 * ((g3 + g4) + 256 * ((g4 + g5) + 256 * ((g5 + g6) + 256 * ((g6 + g7) + 256 * g7)))))) + ((g2 + g3) + 256 * ((g3 + g4) + 256 * ((g4 + g5) + 256 * ((g5 + g6) + 256 * ((g6 + g7) + 256 * g7))))) = (g0 + g1 + g2 + g3) + 256 * (g1 + g2 + g3 + g4) + 65536 * (g2 + g3 + g4 + g5) + 16777216 * (g3 + g4 + g5 + g6) + 4294967296 * ((g4 + g5 + g6 + g7) + 256 * (g5 + g6 + g7 + 256 * (g6 + g7 + 256 * g7))) := by omega
  have h3 : ((g0 + g1 + g2 + g3) + 256 * (g1 + g2 + g3 + g4) + 65536 * (g2 + g3 + g4 + g5) + 16777216 * (g3 + g4 + g5 + g6) + 4294967296 * ((g4 + g5 + g6 + g7) + 256 * (g5 + g6 + g7 + 256 * (g6 + g7 + 256 * g7)))) / 2 ^ 32 = (g4 + g5 + g6 + g7) + 256 * (g5 + g6 + g7 + 256 * (g6 + g7 + 256 * g7)) := by
    have : (g0 + g1 + g2 + g3) + 256 * (g1 + g2 + g3 + g4) + 65536 * (g2 + g3 + g4 + g5) + 16777216 * (g3 + g4 + g5 + g6) < 4294967296 := by omega
    generalize (g0 + g1 + g2 + g3) + 256 * (g1 + g2 + g3 + g4) + 65536 * (g2 + g3 + g4 + g5) + 16777216 * (g3 + g4 + g5 + g6) = Y at *
    generalize (g4 + g5 + g6 + g7) + 256 * (g5 + g6 + g7 + 256 * (g6 + g7 + 256 * g7)) = Z
    omega
  unfold f_J_bitCount_34
  rw [lN_shr (by omega) 8 8 (by decide), lN_add, h1, y1]
  unfold f_J_bitCount_41
  rw [lN_shr (by omega) 16 16 (by decide), lN_add, h2, y2]
  unfold f_J_bitCount_48
  rw [lN_shr (by omega) 32 32 (by decide), lN_add, h3]
  unfold f_J_bitCount_55
  rw [lN_i, nI_and127]
  have : ((g0 + g1 + g2 + g3) + 256 * (g1 + g2 + g3 + g4) + 65536 * (g2 + g3 + g4 + g5) + 16777216 * (g3 + g4 + g5 + g6) + 4294967296 * ((g4 + g5 + g6 + g7) + 256 * (g5 + g6 + g7 + 256 * (g6 + g7 + 256 * g7))) + ((g4 + g5 + g6 + g7) + 256 * (g5 + g6 + g7 + 256 * (g6 + g7 + 256 * g7)))) % 128 = g0 + g1 + g2 + g3 + g4 + g5 + g6 + g7 := by omega
  rw [this]
theorem bitCount_eq {x : Nat} (hx : x < 2 ^ 64) : f_J_bitCount (lN x) = some (nI (cb (fun j => x.testBit j) 64)) := by
  have hl := bys_lt x
  have e0 := vl_bys hx
  have k1 := vs1 (bys x) hl
  have k1b := vs1b (bys x) hl
  have hl1 : ∀ b, b ∈ (bys x).map t1 → b < 256 := by
    intro b hb
    obtain ⟨a, ha, rfl⟩ := List.mem_map.mp hb
    exact (dgB a (hl a ha)).2.2.2.1
  have k2 := vs2 ((bys x).map t1) hl1
  have hl2 : ∀ b, b ∈ ((bys x).map t1).map t2 → b < 256 ∧ b / 16 ≤ 4 ∧ b % 16 ≤ 4 := by
    intro b hb
    obtain ⟨c, hc, rfl⟩ := List.mem_map.mp hb
    obtain ⟨a, ha, rfl⟩ := List.mem_map.mp hc
    have := dgB a (hl a ha)
    exact ⟨this.2.2.1, this.1, this.2.1⟩
  have k3 := vs3 (((bys x).map t1).map t2) hl2
  have m1 : vl ((bys x).map (fun _ => 85)) = 6148914691236517205 := by rw [mk_row 85 rfl, mk85]
  have m2 : vl (((bys x).map t1).map (fun _ => 51)) = 3689348814741910323 := by rw [mk_row 51 rfl, mk51]
  have m3 : vl ((((bys x).map t1).map t2).map (fun _ => 15)) = 1085102592571150095 := by rw [mk_row 15 rfl, mk15]
  rw [m1, e0] at k1
  rw [e0] at k1b
  rw [m2] at k2
  rw [m3] at k3
  have hv : ∀ l : List Nat, (∀ b, b ∈ l → b < 256) → vl l < 2 ^ (8 * l.length) := by
    intro l
    induction l with
    | nil => intro _; decide
    | cons b r ih =>
      intro h
      have h1 := h b (List.mem_cons_self ..)
      have h2 := ih (fun y hy => h y (List.mem_cons_of_mem _ hy))
      show b + 256 * vl r < 2 ^ (8 * (r.length + 1))
      rw [Nat.mul_add, Nat.pow_add]
      omega
  have b1 : vl ((bys x).map t1) < 2 ^ 64 := hv _ hl1
  have b2 : vl (((bys x).map t1).map t2) < 2 ^ 64 := hv _ (fun b hb => (hl2 b hb).1)
  -- the last: eight small bytes
  have l3 : vl ((((bys x).map t1).map t2).map t3) = pc8 (x % 256) + 256 * (pc8 (x / 256 % 256) + 256 * (pc8 (x / 65536 % 256) + 256 * (pc8 (x / 16777216 % 256) + 256 * (pc8 (x / 4294967296 % 256) + 256 * (pc8 (x / 1099511627776 % 256) + 256 * (pc8 (x / 281474976710656 % 256) + 256 * (pc8 (x / 72057594037927936 % 256)))))))) := by
    have q : ∀ b, b < 256 → t3 (t2 (t1 b)) = pc8 b := fun b hb => (dgB b hb).2.2.2.2
    unfold bys
    simp only [List.map_cons, List.map_nil, vl, Nat.mul_zero, Nat.add_zero]
    rw [q _ (Nat.mod_lt _ (by decide)), q _ (Nat.mod_lt _ (by decide)), q _ (Nat.mod_lt _ (by decide)), q _ (Nat.mod_lt _ (by decide)), q _ (Nat.mod_lt _ (by decide)), q _ (Nat.mod_lt _ (by decide)), q _ (Nat.mod_lt _ (by decide)), q _ (Nat.mod_lt _ (by decide))]
  have small : ∀ b, pc8 b ≤ 8 := fun b => cb_le _ 8
  unfold f_J_bitCount
  rw [lN_shr hx 1 1 (by decide), show (6148914691236517205 : Int64) = lN 6148914691236517205 from rfl, lN_and, k1, show lN x = lN (vl ((bys x).map t1) + vl ((bys x).map (fun b => (b / 2) &&& 85))) by rw [← k1b], lN_sub (Nat.le_add_left _ _), Nat.add_sub_cancel]
  unfold f_J_bitCount_10
  rw [lN_shr b1 2 2 (by decide), show (3689348814741910323 : Int64) = lN 3689348814741910323 from rfl, lN_and, lN_and, lN_add, show (2 ^ 2 : Nat) = 4 from rfl, k2]
  unfold f_J_bitCount_24
  rw [lN_shr b2 4 4 (by decide), show (1085102592571150095 : Int64) = lN 1085102592571150095 from rfl, lN_add, lN_and, show (2 ^ 4 : Nat) = 16 from rfl, k3, l3, pc_sum x]
  exact fold8 (small _) (small _) (small _) (small _) (small _) (small _) (small _) (small _)
theorem bitCount_w (w : Int64) : f_J_bitCount w = some (nI (cb (fun j => w.toBitVec.getLsbD j) 64)) := by
  have e : w = lN w.toBitVec.toNat := by
    apply Int64.toBitVec_inj.mp
    show w.toBitVec = BitVec.ofNat 64 w.toBitVec.toNat
    rw [BitVec.ofNat_toNat, BitVec.setWidth_eq]
  have h := bitCount_eq (x := w.toBitVec.toNat) w.toBitVec.isLt
  rw [← e] at h
  exact h
