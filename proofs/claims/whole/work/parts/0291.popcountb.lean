/-! eight bytes of a number -/
def bys (x : Nat) : List Nat := [x % 256, x / 256 % 256, x / 65536 % 256, x / 16777216 % 256, x / 4294967296 % 256, x / 1099511627776 % 256, x / 281474976710656 % 256, x / 72057594037927936 % 256]
theorem vl_bys {x : Nat} (hx : x < 2 ^ 64) : vl (bys x) = x := by
  unfold bys
  have e2 : x / 65536 = x / 256 / 256 := by rw [Nat.div_div_eq_div_mul]
  have e3 : x / 16777216 = x / 256 / 256 / 256 := by rw [Nat.div_div_eq_div_mul, Nat.div_div_eq_div_mul]
  have e4 : x / 4294967296 = x / 256 / 256 / 256 / 256 := by rw [Nat.div_div_eq_div_mul, Nat.div_div_eq_div_mul, Nat.div_div_eq_div_mul]
  have e5 : x / 1099511627776 = x / 256 / 256 / 256 / 256 / 256 := by rw [Nat.div_div_eq_div_mul, Nat.div_div_eq_div_mul, Nat.div_div_eq_div_mul, Nat.div_div_eq_div_mul]
  have e6 : x / 281474976710656 = x / 256 / 256 / 256 / 256 / 256 / 256 := by rw [Nat.div_div_eq_div_mul, Nat.div_div_eq_div_mul, Nat.div_div_eq_div_mul, Nat.div_div_eq_div_mul, Nat.div_div_eq_div_mul]
  have e7 : x / 72057594037927936 = x / 256 / 256 / 256 / 256 / 256 / 256 / 256 := by rw [Nat.div_div_eq_div_mul, Nat.div_div_eq_div_mul, Nat.div_div_eq_div_mul, Nat.div_div_eq_div_mul, Nat.div_div_eq_div_mul, Nat.div_div_eq_div_mul]
  have b7 : x / 72057594037927936 < 256 := Nat.div_lt_of_lt_mul (by have e : (72057594037927936 * 256 : Nat) = 2 ^ 64 := by decide
                                                                    rw [e]; exact hx)
  rw [e7] at b7
  rw [e2, e3, e4, e5, e6, e7]
  have d0 := Nat.div_add_mod x 256
  generalize x / 256 = y1 at *
  have d1 := Nat.div_add_mod y1 256
  generalize y1 / 256 = y2 at *
  have d2 := Nat.div_add_mod y2 256
  generalize y2 / 256 = y3 at *
  have d3 := Nat.div_add_mod y3 256
  generalize y3 / 256 = y4 at *
  have d4 := Nat.div_add_mod y4 256
  generalize y4 / 256 = y5 at *
  have d5 := Nat.div_add_mod y5 256
  generalize y5 / 256 = y6 at *
  have d6 := Nat.div_add_mod y6 256
  generalize y6 / 256 = y7 at *
  rw [Nat.mod_eq_of_lt b7]
  show x % 256 + 256 * (y1 % 256 + 256 * (y2 % 256 + 256 * (y3 % 256 + 256 * (y4 % 256 + 256 * (y5 % 256 + 256 * (y6 % 256 + 256 * (y7 + 256 * 0))))))) = x
  rw [Nat.mul_zero, Nat.add_zero, Nat.add_comm (y6 % 256), d6, Nat.add_comm (y5 % 256), d5, Nat.add_comm (y4 % 256), d4, Nat.add_comm (y3 % 256), d3, Nat.add_comm (y2 % 256), d2, Nat.add_comm (y1 % 256), d1, Nat.add_comm (x % 256), d0]
theorem bys_lt (x : Nat) : ∀ b, b ∈ bys x → b < 256 := by
  intro b hb
  unfold bys at hb
  simp only [List.mem_cons, List.not_mem_nil, or_false] at hb
  rcases hb with h | h | h | h | h | h | h | h <;> (rw [h]; exact Nat.mod_lt _ (by decide))
