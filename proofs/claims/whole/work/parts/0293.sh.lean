/-! shifts by fixed numbers -/
theorem sh8 : (((8 : Int32).toInt64.toUInt64 &&& Int64.toUInt64 63).toBitVec % 64).toNat = 8 := by decide +kernel
theorem sh16 : (((16 : Int32).toInt64.toUInt64 &&& Int64.toUInt64 63).toBitVec % 64).toNat = 16 := by decide +kernel
theorem sh32 : (((32 : Int32).toInt64.toUInt64 &&& Int64.toUInt64 63).toBitVec % 64).toNat = 32 := by decide +kernel
theorem sh1 : (((1 : Int32).toInt64.toUInt64 &&& Int64.toUInt64 63).toBitVec % 64).toNat = 1 := by decide +kernel
theorem sh2 : (((2 : Int32).toInt64.toUInt64 &&& Int64.toUInt64 63).toBitVec % 64).toNat = 2 := by decide +kernel
theorem sh4 : (((4 : Int32).toInt64.toUInt64 &&& Int64.toUInt64 63).toBitVec % 64).toNat = 4 := by decide +kernel
theorem p8 {a r : Nat} (h : a < 256) : (a + 256 * r) / 2 ^ 8 = r := by omega
theorem p16 {a b r : Nat} (h : a < 256) (h' : b < 256) : (a + 256 * (b + 256 * r)) / 2 ^ 16 = r := by omega
theorem p32 {a b c d r : Nat} (h : a < 256) (h2 : b < 256) (h3 : c < 256) (h4 : d < 256) : (a + 256 * (b + 256 * (c + 256 * (d + 256 * r)))) / 2 ^ 32 = r := by omega
theorem ad1 {a b r s : Nat} : (a + 256 * r) + (b + 256 * s) = (a + b) + 256 * (r + s) := by omega
theorem md1 {a r : Nat} (h : a < 128) : (a + 256 * r) % 128 = a := by omega
