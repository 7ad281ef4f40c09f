/-! numbers: words as integers -/
theorem lt32 {a b : Int32} : a < b ↔ a.toInt < b.toInt := Int32.lt_iff_toInt_lt
theorem le32 {a b : Int32} : a ≤ b ↔ a.toInt ≤ b.toInt := Int32.le_iff_toInt_le
theorem eq32 {a b : Int32} : a = b ↔ a.toInt = b.toInt := Int32.toInt_inj.symm
theorem lt64 {a b : Int64} : a < b ↔ a.toInt < b.toInt := Int64.lt_iff_toInt_lt
theorem le64 {a b : Int64} : a ≤ b ↔ a.toInt ≤ b.toInt := Int64.le_iff_toInt_le
theorem eq64 {a b : Int64} : a = b ↔ a.toInt = b.toInt := Int64.toInt_inj.symm
theorem bm32 {n : Int} (h1 : -2147483648 ≤ n) (h2 : n < 2147483648) : n.bmod (2 ^ 32) = n := Int.bmod_eq_of_le (by omega) (by omega)
theorem bm64 {n : Int} (h1 : -9223372036854775808 ≤ n) (h2 : n < 9223372036854775808) : n.bmod (2 ^ 64) = n := Int.bmod_eq_of_le (by omega) (by omega)
theorem add32 {a b : Int32} (h1 : -2147483648 ≤ a.toInt + b.toInt) (h2 : a.toInt + b.toInt < 2147483648) : (a + b).toInt = a.toInt + b.toInt := (Int32.toInt_add a b).trans (bm32 h1 h2)
theorem sub32 {a b : Int32} (h1 : -2147483648 ≤ a.toInt - b.toInt) (h2 : a.toInt - b.toInt < 2147483648) : (a - b).toInt = a.toInt - b.toInt := (Int32.toInt_sub a b).trans (bm32 h1 h2)
theorem mul32 {a b : Int32} (h1 : -2147483648 ≤ a.toInt * b.toInt) (h2 : a.toInt * b.toInt < 2147483648) : (a * b).toInt = a.toInt * b.toInt := (Int32.toInt_mul a b).trans (bm32 h1 h2)
theorem add64 {a b : Int64} (h1 : -9223372036854775808 ≤ a.toInt + b.toInt) (h2 : a.toInt + b.toInt < 9223372036854775808) : (a + b).toInt = a.toInt + b.toInt := (Int64.toInt_add a b).trans (bm64 h1 h2)
theorem sub64 {a b : Int64} (h1 : -9223372036854775808 ≤ a.toInt - b.toInt) (h2 : a.toInt - b.toInt < 9223372036854775808) : (a - b).toInt = a.toInt - b.toInt := (Int64.toInt_sub a b).trans (bm64 h1 h2)
theorem mul64 {a b : Int64} (h1 : -9223372036854775808 ≤ a.toInt * b.toInt) (h2 : a.toInt * b.toInt < 9223372036854775808) : (a * b).toInt = a.toInt * b.toInt := (Int64.toInt_mul a b).trans (bm64 h1 h2)
theorem tl {a : Int32} : a.toInt64.toInt = a.toInt := Int32.toInt_toInt64 a
theorem ti {a : Int64} (h1 : -2147483648 ≤ a.toInt) (h2 : a.toInt < 2147483648) : a.toInt32.toInt = a.toInt := (Int64.toInt_toInt32 a).trans (bm32 h1 h2)
theorem tn {a : Int32} : a.toNatClampNeg = a.toInt.toNat := rfl
theorem dle {a b : Int} (ha : 0 ≤ a) (hb : 0 < b) : 0 ≤ a / b ∧ a / b ≤ a := ⟨Int.ediv_nonneg ha (by omega), Int.ediv_le_self _ ha⟩
theorem div32 {a b : Int32} (ha : 0 ≤ a.toInt) (hb : 0 < b.toInt) : (a / b).toInt = a.toInt / b.toInt := by
  have h := dle ha hb
  have := Int32.toInt_lt a
  rw [Int32.toInt_div, Int.tdiv_eq_ediv_of_nonneg ha, bm32 (by omega) (by omega)]
theorem div64 {a b : Int64} (ha : 0 ≤ a.toInt) (hb : 0 < b.toInt) : (a / b).toInt = a.toInt / b.toInt := by
  have h := dle ha hb
  have := Int64.toInt_lt a
  rw [Int64.toInt_div, Int.tdiv_eq_ediv_of_nonneg ha, bm64 (by omega) (by omega)]
theorem rem32 {a b : Int32} (ha : 0 ≤ a.toInt) (hb : 0 < b.toInt) : (rm32 a b).toInt = a.toInt % b.toInt := by
  have h := dle ha hb
  have h1 := Int32.toInt_lt a
  have e := Int.emod_add_mul_ediv a.toInt b.toInt
  have e0 := Int.emod_nonneg a.toInt (b := b.toInt) (by omega)
  have e1 : a.toInt / b.toInt * b.toInt = a.toInt - a.toInt % b.toInt := by rw [Int.mul_comm]; omega
  have e2 : a.toInt % b.toInt ≤ a.toInt := by
    have : 0 ≤ a.toInt / b.toInt * b.toInt := Int.mul_nonneg h.1 (by omega)
    omega
  unfold rm32
  have d := div32 ha hb
  have m : (a / b * b).toInt = a.toInt - a.toInt % b.toInt := by rw [mul32 (by rw [d, e1]; omega) (by rw [d, e1]; omega), d, e1]
  rw [sub32 (by omega) (by omega), m]; omega
theorem rem64 {a b : Int64} (ha : 0 ≤ a.toInt) (hb : 0 < b.toInt) : (rm64 a b).toInt = a.toInt % b.toInt := by
  have h := dle ha hb
  have h1 := Int64.toInt_lt a
  have e := Int.emod_add_mul_ediv a.toInt b.toInt
  have e0 := Int.emod_nonneg a.toInt (b := b.toInt) (by omega)
  have e1 : a.toInt / b.toInt * b.toInt = a.toInt - a.toInt % b.toInt := by rw [Int.mul_comm]; omega
  have e2 : a.toInt % b.toInt ≤ a.toInt := by
    have : 0 ≤ a.toInt / b.toInt * b.toInt := Int.mul_nonneg h.1 (by omega)
    omega
  unfold rm64
  have d := div64 ha hb
  have m : (a / b * b).toInt = a.toInt - a.toInt % b.toInt := by rw [mul64 (by rw [d, e1]; omega) (by rw [d, e1]; omega), d, e1]
  rw [sub64 (by omega) (by omega), m]; omega
theorem vin_t {i : Int32} {n : Nat} (h0 : 0 ≤ i.toInt) (h1 : i.toInt < n) : vin i n = true := by simp [vin, h0, h1]
theorem nz_t {i : Int64} (h : i.toInt ≠ 0) : nz64 i = true := by
  have : ¬ i = 0 := fun e => h (by rw [e]; rfl)
  simp [nz64, this]
theorem nz32_t {i : Int32} (h : i.toInt ≠ 0) : nz32 i = true := by
  have : ¬ i = 0 := fun e => h (by rw [e]; rfl)
  simp [nz32, this]
theorem grd_t {α : Type} {b : Bool} {k : Option α} (h : b = true) : grd b k = k := by rw [h]; rfl
theorem grd_v {α : Type} {i : Int32} {n : Nat} {k : Option α} (h0 : 0 ≤ i.toInt) (h1 : i.toInt < n) : grd (vin i n) k = k := grd_t (vin_t h0 h1)
theorem grd_n {α : Type} {i : Int64} {k : Option α} (h : i.toInt ≠ 0) : grd (nz64 i) k = k := grd_t (nz_t h)
theorem grd_m {α : Type} {i : Int32} {k : Option α} (h : i.toInt ≠ 0) : grd (nz32 i) k = k := grd_t (nz32_t h)
theorem obnd_some {α β : Type} {x : α} {k : α → Option β} : obnd (some x) k = k x := rfl
theorem min32 {a b : Int32} : (mn32 a b).toInt = min a.toInt b.toInt := by
  unfold mn32; split <;> rename_i h <;> rw [lt32] at h <;> omega
theorem min64 {a b : Int64} : (mn64 a b).toInt = min a.toInt b.toInt := by
  unfold mn64; split <;> rename_i h <;> rw [lt64] at h <;> omega
theorem max64 {a b : Int64} : (mx64 a b).toInt = max a.toInt b.toInt := by
  unfold mx64; split <;> rename_i h <;> rw [lt64] at h <;> omega
