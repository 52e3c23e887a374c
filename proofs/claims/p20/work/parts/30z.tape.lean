theorem nb8 (x : Int32) : x.toInt8.toInt32 &&& 255 = x &&& 255 := by
  refine Int32.toBitVec_inj.mp ?_
  show (x.toBitVec.signExtend 8).signExtend 32 &&& 255#32 = x.toBitVec &&& 255#32
  refine BitVec.eq_of_getLsbD_eq fun i hi => ?_
  rw [BitVec.getLsbD_and, BitVec.getLsbD_and]
  by_cases h : i < 8
  · rw [BitVec.getLsbD_signExtend, if_pos h, BitVec.getLsbD_signExtend, if_pos hi, decide_eq_true hi, decide_eq_true h, Bool.true_and, Bool.true_and]
  · have e : (255#32).getLsbD i = false := by
      show Nat.testBit 255 i = false
      exact Nat.testBit_lt_two_pow (Nat.lt_of_lt_of_le (show 255 < 2 ^ 8 by decide) (Nat.pow_le_pow_right (by decide) (by omega)))
    rw [e, Bool.and_false, Bool.and_false]
theorem nb16 (x : Int32) : vp_nar .byte x.toInt8.toInt32 &&& 255 = x &&& 255 := by
  show x.toInt8.toInt32.toInt8.toInt32 &&& 255 = x &&& 255
  rw [nb8, nb8]
/-- the bytes of a word -/
def b4 (a : Int32) (i : Nat) : Int32 := match i with
  | 0 => (a >>> (24 &&& 31)) &&& 255
  | 1 => (a >>> (16 &&& 31)) &&& 255
  | 2 => (a >>> (8 &&& 31)) &&& 255
  | _ => (a >>> (0 &&& 31)) &&& 255
section TB
variable {L : Nat} {xs : Nat → Int32} {d : Nat} {I : Nat → Nat → Int32} {J : Nat → Nat → Int64} {R : Nat → Nat → Nat} {a1 a2 a3 a4 a5 : Int32}
theorem af_b (hG : aGd R) (a : Int32) {N : Nat} (h0 : (I 1 1).toInt = N) (h1 : N ≤ 896) : ∃ I' : Nat → Nat → Int32, xEv L xs d 15 0 [.ref 1, .int a, xmk] [] (124, I, J, R) none (124, I', J, R) ∧ (I' 1 1).toInt = ((N + 4 : Nat) : Int) ∧ (∀ q, q < N → I' 2 q = I 2 q) ∧ ∀ i, i < 4 → I' 2 (N + i) = b4 a i := by
  obtain ⟨e1, e2, e3, e4⟩ := i_add4 (x := I 1 1) (by omega) (by omega)
  have t0 := clamp_s (i := I 1 1) (by omega)
  have t1 := clamp_s (i := I 1 1 + 1) (by omega)
  have t2 := clamp_s (i := I 1 1 + 1 + 1) (by omega)
  have t3 := clamp_s (i := I 1 1 + 1 + 1 + 1) (by omega)
  have k0 : (I 1 1).toNatClampNeg = N := by omega
  have k1 : (I 1 1 + 1).toNatClampNeg = N + 1 := by omega
  have k2 : (I 1 1 + 1 + 1).toNatClampNeg = N + 2 := by omega
  have k3 : (I 1 1 + 1 + 1 + 1).toNatClampNeg = N + 3 := by omega
  refine ⟨_, sg_af hG (by omega) (by omega) (by omega) (by omega) (by omega) (by omega) (by omega) (by omega) (by omega) (by omega) (by omega) (by omega) (by omega) (by omega) (by omega) (by omega), ?_, ?_, ?_⟩
  · show (I 1 1 + 1 + 1 + 1 + 1).toInt = _
    omega
  · intro q hq
    rw [uI_c _ _ _ (by decide), uI_n _ _ (by omega), uI_c _ _ _ (by decide), uI_n _ _ (by omega), uI_c _ _ _ (by decide), uI_n _ _ (by omega), uI_c _ _ _ (by decide), uI_n _ _ (by omega)]
  · intro i hi
    rw [k0, k1, k2, k3]
    have hi4 : i = 0 ∨ i = 1 ∨ i = 2 ∨ i = 3 := by omega
    rcases hi4 with rfl | rfl | rfl | rfl
    · rw [Nat.add_zero N, uI_c _ _ _ (by decide), uI_n _ _ (by omega), uI_c _ _ _ (by decide), uI_n _ _ (by omega), uI_c _ _ _ (by decide), uI_n _ _ (by omega), uI_c _ _ _ (by decide), uI_s]; rfl
    · rw [uI_c _ _ _ (by decide), uI_n _ _ (by omega), uI_c _ _ _ (by decide), uI_n _ _ (by omega), uI_c _ _ _ (by decide), uI_s]; rfl
    · rw [uI_c _ _ _ (by decide), uI_n _ _ (by omega), uI_c _ _ _ (by decide), uI_s]; rfl
    · rw [uI_c _ _ _ (by decide), uI_s]; rfl
theorem fb_0 (hG : aGd R) (w7 w8 : Value) {N : Nat} (h0 : (I 86 1).toInt = N) (h1 : N ≤ 896) : ∃ (I' : Nat → Nat → Int32), (∃ w7' w8', ∀ v h', xEv L xs d 145 19 [.ref 86, .int a1, .int a2, .int a3, .int a4, .int a5, .int 1, w7', w8'] [] (124, I', J, R) v h' → xEv L xs d 145 19 [.ref 86, .int a1, .int a2, .int a3, .int a4, .int a5, .int 0, w7, w8] [] (124, I, J, R) v h') ∧ (I' 86 1).toInt = ((N + 4 : Nat) : Int) ∧ (∀ q, q < N → I' 87 q = I 87 q) ∧ ∀ i, i < 4 → I' 87 (N + i) &&& 255 = b4 a1 i := by
  obtain ⟨e1, e2, e3, e4⟩ := i_add4 (x := I 86 1) (by omega) (by omega)
  have t0 := clamp_s (i := I 86 1) (by omega)
  have t1 := clamp_s (i := I 86 1 + 1) (by omega)
  have t2 := clamp_s (i := I 86 1 + 1 + 1) (by omega)
  have t3 := clamp_s (i := I 86 1 + 1 + 1 + 1) (by omega)
  have k0 : (I 86 1).toNatClampNeg = N := by omega
  have k1 : (I 86 1 + 1).toNatClampNeg = N + 1 := by omega
  have k2 : (I 86 1 + 1 + 1).toNatClampNeg = N + 2 := by omega
  have k3 : (I 86 1 + 1 + 1 + 1).toNatClampNeg = N + 3 := by omega
  refine ⟨_, ⟨_, _, fun v h' hk => sg_fk0 hG (by omega) (by omega) (by omega) (by omega) (by omega) (by omega) (by omega) (by omega) hk⟩, ?_, ?_, ?_⟩
  · show (I 86 1 + 1 + 1 + 1 + 1).toInt = _
    omega
  · intro q hq
    rw [uI_c _ _ _ (by decide), uI_n _ _ (by omega), uI_c _ _ _ (by decide), uI_n _ _ (by omega), uI_c _ _ _ (by decide), uI_n _ _ (by omega), uI_c _ _ _ (by decide), uI_n _ _ (by omega)]
  · intro i hi
    rw [k0, k1, k2, k3]
    have hi4 : i = 0 ∨ i = 1 ∨ i = 2 ∨ i = 3 := by omega
    rcases hi4 with rfl | rfl | rfl | rfl
    · rw [Nat.add_zero N, uI_c _ _ _ (by decide), uI_n _ _ (by omega), uI_c _ _ _ (by decide), uI_n _ _ (by omega), uI_c _ _ _ (by decide), uI_n _ _ (by omega), uI_c _ _ _ (by decide), uI_s]; exact nb16 _
    · rw [uI_c _ _ _ (by decide), uI_n _ _ (by omega), uI_c _ _ _ (by decide), uI_n _ _ (by omega), uI_c _ _ _ (by decide), uI_s]; exact nb16 _
    · rw [uI_c _ _ _ (by decide), uI_n _ _ (by omega), uI_c _ _ _ (by decide), uI_s]; exact nb16 _
    · rw [uI_c _ _ _ (by decide), uI_s]; exact nb16 _
theorem fb_1 (hG : aGd R) (w7 w8 : Value) {N : Nat} (h0 : (I 86 1).toInt = N) (h1 : N ≤ 896) : ∃ (I' : Nat → Nat → Int32), (∃ w7' w8', ∀ v h', xEv L xs d 145 19 [.ref 86, .int a1, .int a2, .int a3, .int a4, .int a5, .int 2, w7', w8'] [] (124, I', J, R) v h' → xEv L xs d 145 19 [.ref 86, .int a1, .int a2, .int a3, .int a4, .int a5, .int 1, w7, w8] [] (124, I, J, R) v h') ∧ (I' 86 1).toInt = ((N + 4 : Nat) : Int) ∧ (∀ q, q < N → I' 87 q = I 87 q) ∧ ∀ i, i < 4 → I' 87 (N + i) &&& 255 = b4 a2 i := by
  obtain ⟨e1, e2, e3, e4⟩ := i_add4 (x := I 86 1) (by omega) (by omega)
  have t0 := clamp_s (i := I 86 1) (by omega)
  have t1 := clamp_s (i := I 86 1 + 1) (by omega)
  have t2 := clamp_s (i := I 86 1 + 1 + 1) (by omega)
  have t3 := clamp_s (i := I 86 1 + 1 + 1 + 1) (by omega)
  have k0 : (I 86 1).toNatClampNeg = N := by omega
  have k1 : (I 86 1 + 1).toNatClampNeg = N + 1 := by omega
  have k2 : (I 86 1 + 1 + 1).toNatClampNeg = N + 2 := by omega
  have k3 : (I 86 1 + 1 + 1 + 1).toNatClampNeg = N + 3 := by omega
  refine ⟨_, ⟨_, _, fun v h' hk => sg_fk1 hG (by omega) (by omega) (by omega) (by omega) (by omega) (by omega) (by omega) (by omega) hk⟩, ?_, ?_, ?_⟩
  · show (I 86 1 + 1 + 1 + 1 + 1).toInt = _
    omega
  · intro q hq
    rw [uI_c _ _ _ (by decide), uI_n _ _ (by omega), uI_c _ _ _ (by decide), uI_n _ _ (by omega), uI_c _ _ _ (by decide), uI_n _ _ (by omega), uI_c _ _ _ (by decide), uI_n _ _ (by omega)]
  · intro i hi
    rw [k0, k1, k2, k3]
    have hi4 : i = 0 ∨ i = 1 ∨ i = 2 ∨ i = 3 := by omega
    rcases hi4 with rfl | rfl | rfl | rfl
    · rw [Nat.add_zero N, uI_c _ _ _ (by decide), uI_n _ _ (by omega), uI_c _ _ _ (by decide), uI_n _ _ (by omega), uI_c _ _ _ (by decide), uI_n _ _ (by omega), uI_c _ _ _ (by decide), uI_s]; exact nb16 _
    · rw [uI_c _ _ _ (by decide), uI_n _ _ (by omega), uI_c _ _ _ (by decide), uI_n _ _ (by omega), uI_c _ _ _ (by decide), uI_s]; exact nb16 _
    · rw [uI_c _ _ _ (by decide), uI_n _ _ (by omega), uI_c _ _ _ (by decide), uI_s]; exact nb16 _
    · rw [uI_c _ _ _ (by decide), uI_s]; exact nb16 _
theorem fb_2 (hG : aGd R) (w7 w8 : Value) {N : Nat} (h0 : (I 86 1).toInt = N) (h1 : N ≤ 896) : ∃ (I' : Nat → Nat → Int32), (∃ w7' w8', ∀ v h', xEv L xs d 145 19 [.ref 86, .int a1, .int a2, .int a3, .int a4, .int a5, .int 3, w7', w8'] [] (124, I', J, R) v h' → xEv L xs d 145 19 [.ref 86, .int a1, .int a2, .int a3, .int a4, .int a5, .int 2, w7, w8] [] (124, I, J, R) v h') ∧ (I' 86 1).toInt = ((N + 4 : Nat) : Int) ∧ (∀ q, q < N → I' 87 q = I 87 q) ∧ ∀ i, i < 4 → I' 87 (N + i) &&& 255 = b4 a3 i := by
  obtain ⟨e1, e2, e3, e4⟩ := i_add4 (x := I 86 1) (by omega) (by omega)
  have t0 := clamp_s (i := I 86 1) (by omega)
  have t1 := clamp_s (i := I 86 1 + 1) (by omega)
  have t2 := clamp_s (i := I 86 1 + 1 + 1) (by omega)
  have t3 := clamp_s (i := I 86 1 + 1 + 1 + 1) (by omega)
  have k0 : (I 86 1).toNatClampNeg = N := by omega
  have k1 : (I 86 1 + 1).toNatClampNeg = N + 1 := by omega
  have k2 : (I 86 1 + 1 + 1).toNatClampNeg = N + 2 := by omega
  have k3 : (I 86 1 + 1 + 1 + 1).toNatClampNeg = N + 3 := by omega
  refine ⟨_, ⟨_, _, fun v h' hk => sg_fk2 hG (by omega) (by omega) (by omega) (by omega) (by omega) (by omega) (by omega) (by omega) hk⟩, ?_, ?_, ?_⟩
  · show (I 86 1 + 1 + 1 + 1 + 1).toInt = _
    omega
  · intro q hq
    rw [uI_c _ _ _ (by decide), uI_n _ _ (by omega), uI_c _ _ _ (by decide), uI_n _ _ (by omega), uI_c _ _ _ (by decide), uI_n _ _ (by omega), uI_c _ _ _ (by decide), uI_n _ _ (by omega)]
  · intro i hi
    rw [k0, k1, k2, k3]
    have hi4 : i = 0 ∨ i = 1 ∨ i = 2 ∨ i = 3 := by omega
    rcases hi4 with rfl | rfl | rfl | rfl
    · rw [Nat.add_zero N, uI_c _ _ _ (by decide), uI_n _ _ (by omega), uI_c _ _ _ (by decide), uI_n _ _ (by omega), uI_c _ _ _ (by decide), uI_n _ _ (by omega), uI_c _ _ _ (by decide), uI_s]; exact nb16 _
    · rw [uI_c _ _ _ (by decide), uI_n _ _ (by omega), uI_c _ _ _ (by decide), uI_n _ _ (by omega), uI_c _ _ _ (by decide), uI_s]; exact nb16 _
    · rw [uI_c _ _ _ (by decide), uI_n _ _ (by omega), uI_c _ _ _ (by decide), uI_s]; exact nb16 _
    · rw [uI_c _ _ _ (by decide), uI_s]; exact nb16 _
theorem fb_3 (hG : aGd R) (w7 w8 : Value) {N : Nat} (h0 : (I 86 1).toInt = N) (h1 : N ≤ 896) : ∃ (I' : Nat → Nat → Int32), (∃ w7' w8', ∀ v h', xEv L xs d 145 19 [.ref 86, .int a1, .int a2, .int a3, .int a4, .int a5, .int 4, w7', w8'] [] (124, I', J, R) v h' → xEv L xs d 145 19 [.ref 86, .int a1, .int a2, .int a3, .int a4, .int a5, .int 3, w7, w8] [] (124, I, J, R) v h') ∧ (I' 86 1).toInt = ((N + 4 : Nat) : Int) ∧ (∀ q, q < N → I' 87 q = I 87 q) ∧ ∀ i, i < 4 → I' 87 (N + i) &&& 255 = b4 a4 i := by
  obtain ⟨e1, e2, e3, e4⟩ := i_add4 (x := I 86 1) (by omega) (by omega)
  have t0 := clamp_s (i := I 86 1) (by omega)
  have t1 := clamp_s (i := I 86 1 + 1) (by omega)
  have t2 := clamp_s (i := I 86 1 + 1 + 1) (by omega)
  have t3 := clamp_s (i := I 86 1 + 1 + 1 + 1) (by omega)
  have k0 : (I 86 1).toNatClampNeg = N := by omega
  have k1 : (I 86 1 + 1).toNatClampNeg = N + 1 := by omega
  have k2 : (I 86 1 + 1 + 1).toNatClampNeg = N + 2 := by omega
  have k3 : (I 86 1 + 1 + 1 + 1).toNatClampNeg = N + 3 := by omega
  refine ⟨_, ⟨_, _, fun v h' hk => sg_fk3 hG (by omega) (by omega) (by omega) (by omega) (by omega) (by omega) (by omega) (by omega) hk⟩, ?_, ?_, ?_⟩
  · show (I 86 1 + 1 + 1 + 1 + 1).toInt = _
    omega
  · intro q hq
    rw [uI_c _ _ _ (by decide), uI_n _ _ (by omega), uI_c _ _ _ (by decide), uI_n _ _ (by omega), uI_c _ _ _ (by decide), uI_n _ _ (by omega), uI_c _ _ _ (by decide), uI_n _ _ (by omega)]
  · intro i hi
    rw [k0, k1, k2, k3]
    have hi4 : i = 0 ∨ i = 1 ∨ i = 2 ∨ i = 3 := by omega
    rcases hi4 with rfl | rfl | rfl | rfl
    · rw [Nat.add_zero N, uI_c _ _ _ (by decide), uI_n _ _ (by omega), uI_c _ _ _ (by decide), uI_n _ _ (by omega), uI_c _ _ _ (by decide), uI_n _ _ (by omega), uI_c _ _ _ (by decide), uI_s]; exact nb16 _
    · rw [uI_c _ _ _ (by decide), uI_n _ _ (by omega), uI_c _ _ _ (by decide), uI_n _ _ (by omega), uI_c _ _ _ (by decide), uI_s]; exact nb16 _
    · rw [uI_c _ _ _ (by decide), uI_n _ _ (by omega), uI_c _ _ _ (by decide), uI_s]; exact nb16 _
    · rw [uI_c _ _ _ (by decide), uI_s]; exact nb16 _
theorem fb_4 (hG : aGd R) (w7 w8 : Value) {N : Nat} (h0 : (I 86 1).toInt = N) (h1 : N ≤ 896) : ∃ (I' : Nat → Nat → Int32), (∃ w7' w8', ∀ v h', xEv L xs d 145 19 [.ref 86, .int a1, .int a2, .int a3, .int a4, .int a5, .int 5, w7', w8'] [] (124, I', J, R) v h' → xEv L xs d 145 19 [.ref 86, .int a1, .int a2, .int a3, .int a4, .int a5, .int 4, w7, w8] [] (124, I, J, R) v h') ∧ (I' 86 1).toInt = ((N + 4 : Nat) : Int) ∧ (∀ q, q < N → I' 87 q = I 87 q) ∧ ∀ i, i < 4 → I' 87 (N + i) &&& 255 = b4 a5 i := by
  obtain ⟨e1, e2, e3, e4⟩ := i_add4 (x := I 86 1) (by omega) (by omega)
  have t0 := clamp_s (i := I 86 1) (by omega)
  have t1 := clamp_s (i := I 86 1 + 1) (by omega)
  have t2 := clamp_s (i := I 86 1 + 1 + 1) (by omega)
  have t3 := clamp_s (i := I 86 1 + 1 + 1 + 1) (by omega)
  have k0 : (I 86 1).toNatClampNeg = N := by omega
  have k1 : (I 86 1 + 1).toNatClampNeg = N + 1 := by omega
  have k2 : (I 86 1 + 1 + 1).toNatClampNeg = N + 2 := by omega
  have k3 : (I 86 1 + 1 + 1 + 1).toNatClampNeg = N + 3 := by omega
  refine ⟨_, ⟨_, _, fun v h' hk => sg_fk4 hG (by omega) (by omega) (by omega) (by omega) (by omega) (by omega) (by omega) (by omega) hk⟩, ?_, ?_, ?_⟩
  · show (I 86 1 + 1 + 1 + 1 + 1).toInt = _
    omega
  · intro q hq
    rw [uI_c _ _ _ (by decide), uI_n _ _ (by omega), uI_c _ _ _ (by decide), uI_n _ _ (by omega), uI_c _ _ _ (by decide), uI_n _ _ (by omega), uI_c _ _ _ (by decide), uI_n _ _ (by omega)]
  · intro i hi
    rw [k0, k1, k2, k3]
    have hi4 : i = 0 ∨ i = 1 ∨ i = 2 ∨ i = 3 := by omega
    rcases hi4 with rfl | rfl | rfl | rfl
    · rw [Nat.add_zero N, uI_c _ _ _ (by decide), uI_n _ _ (by omega), uI_c _ _ _ (by decide), uI_n _ _ (by omega), uI_c _ _ _ (by decide), uI_n _ _ (by omega), uI_c _ _ _ (by decide), uI_s]; exact nb16 _
    · rw [uI_c _ _ _ (by decide), uI_n _ _ (by omega), uI_c _ _ _ (by decide), uI_n _ _ (by omega), uI_c _ _ _ (by decide), uI_s]; exact nb16 _
    · rw [uI_c _ _ _ (by decide), uI_n _ _ (by omega), uI_c _ _ _ (by decide), uI_s]; exact nb16 _
    · rw [uI_c _ _ _ (by decide), uI_s]; exact nb16 _
theorem fx_b (hG : aGd R) {N : Nat} (h0 : (I 1 1).toInt = N) (h1 : N ≤ 880) : ∃ I' : Nat → Nat → Int32, xEv L xs (d + 1) 14 0 [.ref 0, .int a1, .int a2, .int a3, .int a4, .int a5] [] (124, I, J, R) (some (.int (I' 1 1))) (124, I', J, R) ∧ (I' 1 1).toInt = ((N + 20 : Nat) : Int) ∧ (∀ q, q < N → I' 2 q = I 2 q) ∧ ∀ i, i < 4 → I' 2 (N + i) = b4 a1 i ∧ I' 2 (N + 4 + i) = b4 a2 i ∧ I' 2 (N + 8 + i) = b4 a3 i ∧ I' 2 (N + 12 + i) = b4 a4 i ∧ I' 2 (N + 16 + i) = b4 a5 i := by
  obtain ⟨I1, c1, e1, g1, b1⟩ := af_b (L := L) (xs := xs) (d := d) (I := I) (J := J) hG a1 (N := N) (by omega) (by omega)
  obtain ⟨I2, c2, e2, g2, b2⟩ := af_b (L := L) (xs := xs) (d := d) (I := I1) (J := J) hG a2 (N := N + 4) (by omega) (by omega)
  obtain ⟨I3, c3, e3, g3, b3⟩ := af_b (L := L) (xs := xs) (d := d) (I := I2) (J := J) hG a3 (N := N + 8) (by omega) (by omega)
  obtain ⟨I4, c4, e4, g4, b4'⟩ := af_b (L := L) (xs := xs) (d := d) (I := I3) (J := J) hG a4 (N := N + 12) (by omega) (by omega)
  obtain ⟨I5, c5, e5, g5, b5⟩ := af_b (L := L) (xs := xs) (d := d) (I := I4) (J := J) hG a5 (N := N + 16) (by omega) (by omega)
  refine ⟨I5, sg_fx1 hG (by omega) c1 c2 c3 c4 c5, by omega, fun q hq => by rw [g5 q (by omega), g4 q (by omega), g3 q (by omega), g2 q (by omega), g1 q (by omega)], fun i hi => ⟨?_, ?_, ?_, ?_, ?_⟩⟩
  · rw [g5 _ (by omega), g4 _ (by omega), g3 _ (by omega), g2 _ (by omega)]; exact b1 i hi
  · rw [g5 _ (by omega), g4 _ (by omega), g3 _ (by omega)]; exact b2 i hi
  · rw [g5 _ (by omega), g4 _ (by omega)]; exact b3 i hi
  · rw [g5 _ (by omega)]; exact b4' i hi
  · exact b5 i hi
theorem fm_b (hG : aGd R) {N : Nat} (h0 : (I 86 1).toInt = N) (h1 : N ≤ 880) : ∃ I' : Nat → Nat → Int32, xEv L xs d 145 0 [.ref 86, .int a1, .int a2, .int a3, .int a4, .int a5, xmk, xmk, xmk] [] (124, I, J, R) (some (.int (I' 86 1))) (124, I', J, R) ∧ (I' 86 1).toInt = ((N + 20 : Nat) : Int) ∧ (∀ q, q < N → I' 87 q = I 87 q) ∧ ∀ i, i < 4 → I' 87 (N + i) &&& 255 = b4 a1 i ∧ I' 87 (N + 4 + i) &&& 255 = b4 a2 i ∧ I' 87 (N + 8 + i) &&& 255 = b4 a3 i ∧ I' 87 (N + 12 + i) &&& 255 = b4 a4 i ∧ I' 87 (N + 16 + i) &&& 255 = b4 a5 i := by
  have e20 : (I 86 1 + 20).toInt = (I 86 1).toInt + 20 := i_add (by rw [show (20 : Int32).toInt = 20 from by decide]; omega) (by rw [show (20 : Int32).toInt = 20 from by decide]; omega)
  obtain ⟨I1, ⟨w1, u1, c1⟩, e1, g1, b1⟩ := fb_0 (L := L) (xs := xs) (d := d) (I := I) (J := J) (a1 := a1) (a2 := a2) (a3 := a3) (a4 := a4) (a5 := a5) hG xmk xmk (N := N) (by omega) (by omega)
  obtain ⟨I2, ⟨w2, u2, c2⟩, e2, g2, b2⟩ := fb_1 (L := L) (xs := xs) (d := d) (I := I1) (J := J) (a1 := a1) (a2 := a2) (a3 := a3) (a4 := a4) (a5 := a5) hG w1 u1 (N := N + 4) (by omega) (by omega)
  obtain ⟨I3, ⟨w3, u3, c3⟩, e3, g3, b3⟩ := fb_2 (L := L) (xs := xs) (d := d) (I := I2) (J := J) (a1 := a1) (a2 := a2) (a3 := a3) (a4 := a4) (a5 := a5) hG w2 u2 (N := N + 8) (by omega) (by omega)
  obtain ⟨I4, ⟨w4, u4, c4⟩, e4, g4, b4'⟩ := fb_3 (L := L) (xs := xs) (d := d) (I := I3) (J := J) (a1 := a1) (a2 := a2) (a3 := a3) (a4 := a4) (a5 := a5) hG w3 u3 (N := N + 12) (by omega) (by omega)
  obtain ⟨I5, ⟨w5, u5, c5⟩, e5, g5, b5⟩ := fb_4 (L := L) (xs := xs) (d := d) (I := I4) (J := J) (a1 := a1) (a2 := a2) (a3 := a3) (a4 := a4) (a5 := a5) hG w4 u4 (N := N + 16) (by omega) (by omega)
  refine ⟨I5, sg_fm1 hG (by omega) (c1 _ _ (c2 _ _ (c3 _ _ (c4 _ _ (c5 _ _ (sg_fme hG)))))), by omega, fun q hq => by rw [g5 q (by omega), g4 q (by omega), g3 q (by omega), g2 q (by omega), g1 q (by omega)], fun i hi => ⟨?_, ?_, ?_, ?_, ?_⟩⟩
  · rw [g5 _ (by omega), g4 _ (by omega), g3 _ (by omega), g2 _ (by omega)]; exact b1 i hi
  · rw [g5 _ (by omega), g4 _ (by omega), g3 _ (by omega)]; exact b2 i hi
  · rw [g5 _ (by omega), g4 _ (by omega)]; exact b3 i hi
  · rw [g5 _ (by omega)]; exact b4' i hi
  · exact b5 i hi
end TB
