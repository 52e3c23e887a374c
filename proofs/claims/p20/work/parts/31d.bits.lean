/-- bit n of a word -/
def tb (x : Int32) (n : Nat) : Bool := x.toBitVec.getLsbD n
theorem tb_ext {x y : Int32} (h : ∀ n, n < 32 → tb x n = tb y n) : x = y := Int32.toBitVec_inj.mp (BitVec.eq_of_getLsbD_eq fun n hn => h n hn)
theorem tb_or (x y : Int32) (n : Nat) : tb (x ||| y) n = (tb x n || tb y n) := by
  unfold tb
  rw [Int32.toBitVec_or, BitVec.getLsbD_or]
theorem tb_and (x y : Int32) (n : Nat) : tb (x &&& y) n = (tb x n && tb y n) := by
  unfold tb
  rw [Int32.toBitVec_and, BitVec.getLsbD_and]
theorem tb_xor (x y : Int32) (n : Nat) : tb (x ^^^ y) n = (tb x n ^^ tb y n) := by
  unfold tb
  rw [Int32.toBitVec_xor, BitVec.getLsbD_xor]
theorem tb_m1 {n : Nat} (h : n < 32) : tb (-1) n = true := by
  unfold tb
  rw [show (-1 : Int32).toBitVec = BitVec.allOnes 32 from by decide, BitVec.getLsbD_allOnes, decide_eq_true h]
theorem tb_0 (n : Nat) : tb 0 n = false := by
  unfold tb
  rw [show (0 : Int32).toBitVec = 0#32 from rfl, BitVec.getLsbD_zero]
theorem tb_not {x : Int32} {n : Nat} (h : n < 32) : tb (x ^^^ (-1)) n = !(tb x n) := by rw [tb_xor, tb_m1 h, Bool.xor_true]
/-- small shifts -/
theorem k_small {k : Int32} {n : Nat} (hk : k.toInt = n) (hn : n < 31) : k = Int32.ofNat n := by
  apply Int32.toInt_inj.mp
  rw [hk, Int32.toInt_ofNat_of_lt (by omega)]
theorem sh_table : ∀ n, n < 31 → ((Int32.ofNat n &&& 31).toBitVec.smod 32).toNat = n := by decide
theorem tb_shr {x k : Int32} {n : Nat} (hk : k.toInt = n) (hn : n < 31) : (x >>> (k &&& 31)) &&& 1 = (if tb x n then 1 else 0) := by
  apply Int32.toBitVec_inj.mp
  rw [k_small hk hn, Int32.toBitVec_and, Int32.toBitVec_shiftRight, BitVec.sshiftRight_eq', sh_table n hn]
  refine BitVec.eq_of_getLsbD_eq fun i hi => ?_
  rw [BitVec.getLsbD_and, BitVec.getLsbD_sshiftRight]
  have e1 : ∀ b : Bool, ((if b then (1 : Int32) else 0).toBitVec.getLsbD i) = (b && decide (i = 0)) := by
    intro b
    cases b
    · rw [Bool.false_and]
      show (0#32).getLsbD i = false
      rw [BitVec.getLsbD_zero]
    · rw [Bool.true_and]
      show (1#32).getLsbD i = decide (i = 0)
      rw [BitVec.getLsbD_one]
      simp
  have e2 : (1 : Int32).toBitVec.getLsbD i = decide (i = 0) := by
    have := e1 true
    rwa [Bool.true_and] at this
  rw [e1, e2]
  unfold tb
  by_cases h : i = 0
  · subst h
    rw [show decide ((0 : Nat) = 0) = true from rfl, Bool.and_true, Bool.and_true, if_pos (by omega)]
    simp
  · rw [decide_eq_false h, Bool.and_false, Bool.and_false]
theorem tb_shl {k : Int32} {n : Nat} (hk : k.toInt = n) (hn : n < 31) (i : Nat) : tb (1 <<< (k &&& 31)) i = decide (i = n) := by
  unfold tb
  rw [k_small hk hn, Int32.toBitVec_shiftLeft, BitVec.shiftLeft_eq', sh_table n hn, BitVec.getLsbD_shiftLeft]
  rw [show (1 : Int32).toBitVec = 1#32 from rfl, BitVec.getLsbD_one]
  by_cases h : i = n
  · subst h
    simp
    omega
  · rw [decide_eq_false h]
    by_cases h1 : i < n
    · simp [h1]
    · have : i - n ≠ 0 := by omega
      simp [this]
theorem tb_nz {x : Int32} : x ≠ 0 ↔ ∃ n, n < 32 ∧ tb x n = true := by
  constructor
  · intro h
    apply Classical.byContradiction
    intro g
    apply h
    apply tb_ext
    intro n hn
    rw [tb_0]
    cases hb : tb x n with
    | false => rfl
    | true => exact absurd ⟨n, hn, hb⟩ g
  · rintro ⟨n, -, h⟩ rfl
    rw [tb_0] at h
    cases h
theorem bo_1 (b : Bool) : ((if b then (1 : Int32) else 0).toInt = 1 ↔ b = true) ∧ ((if b then (1 : Int32) else 0).toInt = 0 ↔ b = false) := by
  cases b <;> decide
