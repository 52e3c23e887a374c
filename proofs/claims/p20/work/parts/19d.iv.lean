/-! numbers -/
theorem aw (x : Int32) : -2147483648 ≤ x.toInt ∧ x.toInt ≤ 2147483647 := ⟨x.le_toInt, by have := x.toInt_lt; omega⟩
theorem awL (x : Int64) : -9223372036854775808 ≤ x.toInt ∧ x.toInt ≤ 9223372036854775807 := ⟨x.le_toInt, by have := x.toInt_lt; omega⟩
theorem abm {z : Int} (h1 : -2147483648 ≤ z) (h2 : z ≤ 2147483647) : z.bmod (2 ^ 32) = z := Int.bmod_eq_of_le_mul_two (by omega) (by omega)
theorem abmL {z : Int} (h1 : -9223372036854775808 ≤ z) (h2 : z ≤ 9223372036854775807) : z.bmod (2 ^ 64) = z := Int.bmod_eq_of_le_mul_two (by omega) (by omega)
theorem ai_nat {y : Int32} (h : 0 ≤ y.toInt) : y.toInt = y.toBitVec.toNat ∧ y.toBitVec.toNat < 2147483648 := by
  have e : y.toInt = if 2 * y.toBitVec.toNat < 2 ^ 32 then (y.toBitVec.toNat : Int) else (y.toBitVec.toNat : Int) - (2 ^ 32 : Nat) := BitVec.toInt_eq_toNat_cond y.toBitVec
  have hl := y.toBitVec.isLt
  split at e <;> omega
theorem ai_natL {y : Int64} (h : 0 ≤ y.toInt) : y.toInt = y.toBitVec.toNat ∧ y.toBitVec.toNat < 9223372036854775808 := by
  have e : y.toInt = if 2 * y.toBitVec.toNat < 2 ^ 64 then (y.toBitVec.toNat : Int) else (y.toBitVec.toNat : Int) - (2 ^ 64 : Nat) := BitVec.toInt_eq_toNat_cond y.toBitVec
  have hl := y.toBitVec.isLt
  split at e <;> omega
theorem ai_of {z : Int32} {n : Nat} (h : z.toBitVec.toNat = n) (hn : n < 2147483648) : z.toInt = n := by
  have e : z.toInt = if 2 * z.toBitVec.toNat < 2 ^ 32 then (z.toBitVec.toNat : Int) else (z.toBitVec.toNat : Int) - (2 ^ 32 : Nat) := BitVec.toInt_eq_toNat_cond z.toBitVec
  rw [if_pos (by omega)] at e
  omega
theorem ai_ofL {z : Int64} {n : Nat} (h : z.toBitVec.toNat = n) (hn : n < 9223372036854775808) : z.toInt = n := by
  have e : z.toInt = if 2 * z.toBitVec.toNat < 2 ^ 64 then (z.toBitVec.toNat : Int) else (z.toBitVec.toNat : Int) - (2 ^ 64 : Nat) := BitVec.toInt_eq_toNat_cond z.toBitVec
  rw [if_pos (by omega)] at e
  omega
theorem ai_andr {x y : Int32} (h : 0 ≤ y.toInt) : 0 ≤ (x &&& y).toInt ∧ (x &&& y).toInt ≤ y.toInt := by
  have hy := ai_nat h
  have e : (x &&& y).toBitVec.toNat = x.toBitVec.toNat &&& y.toBitVec.toNat := rfl
  have hle : x.toBitVec.toNat &&& y.toBitVec.toNat ≤ y.toBitVec.toNat := Nat.and_le_right
  have := ai_of e (by omega)
  omega
theorem ai_andl {x y : Int32} (h : 0 ≤ x.toInt) : 0 ≤ (x &&& y).toInt ∧ (x &&& y).toInt ≤ x.toInt := by
  have hy := ai_nat h
  have e : (x &&& y).toBitVec.toNat = x.toBitVec.toNat &&& y.toBitVec.toNat := rfl
  have hle : x.toBitVec.toNat &&& y.toBitVec.toNat ≤ x.toBitVec.toNat := Nat.and_le_left
  have := ai_of e (by omega)
  omega
theorem ai_andrL {x y : Int64} (h : 0 ≤ y.toInt) : 0 ≤ (x &&& y).toInt ∧ (x &&& y).toInt ≤ y.toInt := by
  have hy := ai_natL h
  have e : (x &&& y).toBitVec.toNat = x.toBitVec.toNat &&& y.toBitVec.toNat := rfl
  have hle : x.toBitVec.toNat &&& y.toBitVec.toNat ≤ y.toBitVec.toNat := Nat.and_le_right
  have := ai_ofL e (by omega)
  omega
theorem ai_andlL {x y : Int64} (h : 0 ≤ x.toInt) : 0 ≤ (x &&& y).toInt ∧ (x &&& y).toInt ≤ x.toInt := by
  have hy := ai_natL h
  have e : (x &&& y).toBitVec.toNat = x.toBitVec.toNat &&& y.toBitVec.toNat := rfl
  have hle : x.toBitVec.toNat &&& y.toBitVec.toNat ≤ x.toBitVec.toNat := Nat.and_le_left
  have := ai_ofL e (by omega)
  omega
theorem ai_shr {x y : Int32} (h : 0 ≤ x.toInt) : 0 ≤ (x >>> y).toInt ∧ (x >>> y).toInt ≤ x.toInt := by
  have e : (x >>> y).toInt = x.toInt >>> (y.toBitVec.smod 32).toNat := BitVec.toInt_sshiftRight'
  rw [e, Int.shiftRight_eq_div_pow]
  generalize (y.toBitVec.smod 32).toNat = k
  have hp : (0 : Int) < ((2 ^ k : Nat) : Int) := Int.natCast_pos.mpr (Nat.two_pow_pos k)
  exact ⟨Int.ediv_nonneg h (Int.le_of_lt hp), Int.ediv_le_self _ h⟩
theorem ai_ne0 {y : Int32} (h : y.toInt ≠ 0) : y ≠ 0 := fun z => h (by rw [z]; rfl)
theorem ai_ne0L {y : Int64} (h : y.toInt ≠ 0) : y ≠ 0 := fun z => h (by rw [z]; rfl)
theorem ai_div {x y : Int32} (hy : 1 ≤ y.toInt) : (x / y).toInt = x.toInt.tdiv y.toInt := Int32.toInt_div_of_ne_right x y (fun z => by rw [z] at hy; exact absurd hy (by decide))
theorem ai_divL {x y : Int64} (hy : 1 ≤ y.toInt) : (x / y).toInt = x.toInt.tdiv y.toInt := Int64.toInt_div_of_ne_right x y (fun z => by rw [z] at hy; exact absurd hy (by decide))
theorem ai_rem {x y : Int32} (hy : 1 ≤ y.toInt) : (x - x / y * y).toInt = x.toInt.tmod y.toInt := by
  rw [Int32.toInt_sub, Int32.toInt_mul, ai_div hy]
  have h1 := Int.tdiv_mul_add_tmod x.toInt y.toInt
  have h2 := Int.tmod_lt_of_pos x.toInt (b := y.toInt) (by omega)
  have h3 := Int.lt_tmod_of_pos x.toInt (b := y.toInt) (by omega)
  have h4 := aw x
  have h5 := aw y
  generalize x.toInt.tdiv y.toInt * y.toInt = p at h1 ⊢
  generalize x.toInt.tmod y.toInt = q at *
  rw [Int.sub_bmod_bmod]
  rw [abm] <;> omega
theorem ai_remL {x y : Int64} (hy : 1 ≤ y.toInt) : (x - x / y * y).toInt = x.toInt.tmod y.toInt := by
  rw [Int64.toInt_sub, Int64.toInt_mul, ai_divL hy]
  have h1 := Int.tdiv_mul_add_tmod x.toInt y.toInt
  have h2 := Int.tmod_lt_of_pos x.toInt (b := y.toInt) (by omega)
  have h3 := Int.lt_tmod_of_pos x.toInt (b := y.toInt) (by omega)
  have h4 := awL x
  have h5 := awL y
  generalize x.toInt.tdiv y.toInt * y.toInt = p at h1 ⊢
  generalize x.toInt.tmod y.toInt = q at *
  rw [Int.sub_bmod_bmod]
  rw [abmL] <;> omega
theorem ai_modle {a b : Int} (ha : 0 ≤ a) (hb : 1 ≤ b) : a.tmod b ≤ a := by
  have h1 := Int.tdiv_mul_add_tmod a b
  have h2 := Int.tdiv_nonneg ha (by omega : 0 ≤ b)
  have h3 := Int.mul_nonneg h2 (by omega : 0 ≤ b)
  omega
theorem ai_i2b (x : Int32) : -128 ≤ x.toInt8.toInt32.toInt ∧ x.toInt8.toInt32.toInt ≤ 127 := by
  have e : x.toInt8.toInt32.toInt = x.toInt8.toInt := Int8.toInt_toInt32 _
  rw [e]
  exact ⟨x.toInt8.le_toInt, by have := x.toInt8.toInt_lt; omega⟩
theorem ai_or {x y : Int32} {m : Nat} (hx : 0 ≤ x.toInt) (hy : 0 ≤ y.toInt) (hx2 : x.toInt ≤ m) (hy2 : y.toInt ≤ m) : 0 ≤ (x ||| y).toInt ∧ (x ||| y).toInt ≤ ((2 ^ (Nat.log2 m + 1) - 1 : Nat) : Int) := by
  have h1 := ai_nat hx
  have h2 := ai_nat hy
  have e : (x ||| y).toBitVec.toNat = x.toBitVec.toNat ||| y.toBitVec.toNat := rfl
  have b1 : x.toBitVec.toNat ||| y.toBitVec.toNat < 2 ^ 31 := Nat.or_lt_two_pow (by omega) (by omega)
  have l : m < 2 ^ (Nat.log2 m + 1) := Nat.lt_log2_self
  have b2 : x.toBitVec.toNat ||| y.toBitVec.toNat < 2 ^ (Nat.log2 m + 1) := Nat.or_lt_two_pow (by omega) (by omega)
  have h3 := ai_of e (by omega)
  omega
