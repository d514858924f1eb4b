/-! bits of a long -/
theorem bitCount_eq {x : Nat} (hx : x < 2 ^ 64) : f_J_bitCount (lN x) = some (nI (cb (fun j => x.testBit j) 64)) := by
  have hl := bys_lt x
  have e0 := vl_bys hx
  have k1 := vs1 (bys x) hl
  have k1b := vs1b (bys x) hl
  have hl1 : ∀ b, b ∈ (bys x).map t1 → b < 256 := by
    intro b hb
    obtain ⟨a, ha, rfl⟩ := List.mem_map.mp hb
    exact (dgB a (hl a ha)).2.2.2.1
  have k2 := vs2 ((bys x).map t1) hl1
  have hl2 : ∀ b, b ∈ ((bys x).map t1).map t2 → b < 256 ∧ b / 16 ≤ 4 ∧ b % 16 ≤ 4 := by
    intro b hb
    obtain ⟨c, hc, rfl⟩ := List.mem_map.mp hb
    obtain ⟨a, ha, rfl⟩ := List.mem_map.mp hc
    have := dgB a (hl a ha)
    exact ⟨this.2.2.1, this.1, this.2.1⟩
  have k3 := vs3 (((bys x).map t1).map t2) hl2
  have m1 : vl ((bys x).map (fun _ => 85)) = 6148914691236517205 := by rw [mk_row 85 rfl, mk85]
  have m2 : vl (((bys x).map t1).map (fun _ => 51)) = 3689348814741910323 := by rw [mk_row 51 rfl, mk51]
  have m3 : vl ((((bys x).map t1).map t2).map (fun _ => 15)) = 1085102592571150095 := by rw [mk_row 15 rfl, mk15]
  rw [m1, e0] at k1
  rw [e0] at k1b
  rw [m2] at k2
  rw [m3] at k3
  have hv : ∀ l : List Nat, (∀ b, b ∈ l → b < 256) → vl l < 2 ^ (8 * l.length) := by
    intro l
    induction l with
    | nil => intro _; decide
    | cons b r ih =>
      intro h
      have h1 := h b (List.mem_cons_self ..)
      have h2 := ih (fun y hy => h y (List.mem_cons_of_mem _ hy))
      show b + 256 * vl r < 2 ^ (8 * (r.length + 1))
      rw [Nat.mul_add, Nat.pow_add]
      omega
  have b1 : vl ((bys x).map t1) < 2 ^ 64 := hv _ hl1
  have b2 : vl (((bys x).map t1).map t2) < 2 ^ 64 := hv _ (fun b hb => (hl2 b hb).1)
  -- the last: eight small bytes
  have l3 : vl ((((bys x).map t1).map t2).map t3) = pc8 (x % 256) + 256 * (pc8 (x / 256 % 256) + 256 * (pc8 (x / 65536 % 256) + 256 * (pc8 (x / 16777216 % 256) + 256 * (pc8 (x / 4294967296 % 256) + 256 * (pc8 (x / 1099511627776 % 256) + 256 * (pc8 (x / 281474976710656 % 256) + 256 * (pc8 (x / 72057594037927936 % 256)))))))) := by
    have q : ∀ b, b < 256 → t3 (t2 (t1 b)) = pc8 b := fun b hb => (dgB b hb).2.2.2.2
    unfold bys
    simp only [List.map_cons, List.map_nil, vl, Nat.mul_zero, Nat.add_zero]
    rw [q _ (Nat.mod_lt _ (by decide)), q _ (Nat.mod_lt _ (by decide)), q _ (Nat.mod_lt _ (by decide)), q _ (Nat.mod_lt _ (by decide)), q _ (Nat.mod_lt _ (by decide)), q _ (Nat.mod_lt _ (by decide)), q _ (Nat.mod_lt _ (by decide)), q _ (Nat.mod_lt _ (by decide))]
  have small : ∀ b, pc8 b ≤ 8 := fun b => cb_le _ 8
  unfold f_J_bitCount
  rw [lN_shr hx 1 1 sh1, show (6148914691236517205 : Int64) = lN 6148914691236517205 from rfl, lN_and, k1, show lN x = lN (vl ((bys x).map t1) + vl ((bys x).map (fun b => (b / 2) &&& 85))) by rw [← k1b], lN_sub (Nat.le_add_left _ _), Nat.add_sub_cancel]
  unfold f_J_bitCount_10
  rw [lN_shr b1 2 2 sh2, show (3689348814741910323 : Int64) = lN 3689348814741910323 from rfl, lN_and, lN_and, lN_add, show (2 ^ 2 : Nat) = 4 from rfl, k2]
  unfold f_J_bitCount_24
  rw [lN_shr b2 4 4 sh4, show (1085102592571150095 : Int64) = lN 1085102592571150095 from rfl, lN_add, lN_and, show (2 ^ 4 : Nat) = 16 from rfl, k3, l3, pc_sum x]
  exact fold8 (small _) (small _) (small _) (small _) (small _) (small _) (small _) (small _)
theorem bitCount_w (w : Int64) : f_J_bitCount w = some (nI (cb (fun j => w.toBitVec.getLsbD j) 64)) := by
  have e : w = lN w.toBitVec.toNat := by
    apply Int64.toBitVec_inj.mp
    show w.toBitVec = BitVec.ofNat 64 w.toBitVec.toNat
    rw [BitVec.ofNat_toNat, BitVec.setWidth_eq]
  have h := bitCount_eq (x := w.toBitVec.toNat) w.toBitVec.isLt
  rw [← e] at h
  exact h
