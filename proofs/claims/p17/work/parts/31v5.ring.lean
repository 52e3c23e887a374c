
theorem zt_one {L : Nat} {xs : Nat → Int32} {d : Nat} {I : Nat → Nat → Int32} {J : Nat → Nat → Int64} {R : Nat → Nat → Nat} (hG : aGd R) {b : Int32} {V : Int} {c : Nat} (hc : c < 400) (b0 : 1 ≤ b.toInt) (b1 : b.toInt < 1000) (hV : zrC V c I J) :
    ∃ I' J', xEv L xs d 104 0 [.ref 55, .int b, xmk, xmk, xmk, xmk, xmk] [] (124, I, J, R) none (124, I', J', R) ∧ (∀ c q, c ≠ 55 → I' c q = I c q) ∧ zrC (b.toInt * V) (c + 1) I' J' := by
  obtain ⟨u, u1, u2, u3, u4, u5, u6, u7, u8⟩ := hV
  have t3 : (I 55 2 + 3).toInt = (3 * (c + 1) : Nat) := by rw [i_add (by rw [show (3 : Int32).toInt = 3 from by decide]; omega) (by rw [show (3 : Int32).toInt = 3 from by decide]; omega), show (3 : Int32).toInt = 3 from by decide]; omega
  have hp := tn_pos (15 * u)
  have hp3 := tn_pos (3 * c)
  have n1 : (uI I 55 2 (I 55 2 + 3)) 55 1 = I 55 1 := uI_n _ _ (by omega)
  have bV := Int.mul_le_mul (show b.toInt ≤ 1000 by omega) u8 (show 0 ≤ V by omega) (by decide)
  have bV1 := Int.mul_le_mul_of_nonneg_right b0 (show 0 ≤ V by omega)
  rw [Int.one_mul] at bV1
  have e3 : tn (3 * (c + 1)) = 1000 * tn (3 * c) := by rw [tn_s, tn_3, Int.mul_comm]
  obtain ⟨i', cy', w5', J', y1, y2, y3, y4, y5, y6, y7⟩ := zt_run (L := L) (xs := xs) (d := d) (I := uI I 55 2 (I 55 2 + 3)) hG (b := b) (un := u + 1) (by rw [n1]; exact u1) (by omega) (by omega) (by omega) (fun q => (J 56 q).toInt) (u + 1) 0 0 0 xmk J (by omega) (by decide) (by decide) (by decide) u4 (fun _ _ => rfl) (by
    simp only [sT_0]
    rw [show (0 : Int64).toInt = 0 from by decide, Int.zero_mul, Int.mul_zero, Int.add_zero])
  rw [u6] at y7
  have z0 : (0 : Int64).toInt = 0 := by decide
  have s0 := sT_b (e := 15) (f := fun q => (J' 56 q).toInt) (u + 1) (fun i hi => by
    have := y5 i (by omega)
    rw [tn_15]
    exact this)
  obtain ⟨I2, hI2⟩ : ∃ I2, uI I 55 2 (I 55 2 + 3) = I2 := ⟨_, rfl⟩
  have a1 : (I2 55 1).toInt = (u + 1 : Nat) := by rw [← hI2, n1]; exact u1
  have a2 : (I2 55 2).toInt = (3 * (c + 1) : Nat) := by rw [← hI2, uI_s]; exact t3
  have a3 : ∀ c q, c ≠ 55 → I2 c q = I c q := fun c q hc => by rw [← hI2, uI_c _ _ _ hc]
  rw [hI2] at y1
  have st : ∀ (v : Option Value) (h' : xH), xEv L xs d 104 23 [.ref 55, .int b, .long 0, xmk, .int 0, xmk, xmk] [] (124, I2, J, R) v h' → xEv L xs d 104 0 [.ref 55, .int b, xmk, xmk, xmk, xmk, xmk] [] (124, I, J, R) v h' := fun v h' z => zt_s hG (by omega) (by rw [hI2]; exact z)
  by_cases hc0 : cy'.toInt = 0
  · have g := mt (lg_gt (x := cy') (y := 0)).mp (by omega)
    refine ⟨I2, J', st _ _ (y1 _ _ (zt_e hG (by omega) (by omega))), a3, u, a1, u2, a2, y5, fun q h1 h2 => by rw [y6 q h1]; exact u5 q h1 h2, ?_, by omega, by rw [e3]; exact bV⟩
    rw [hc0, Int.zero_mul, Int.add_zero] at y7
    exact y7
  · have g := (lg_gt (x := cy') (y := 0)).mpr (by omega)
    have z1 := Int.mul_le_mul_of_nonneg_right (show (1 : Int) ≤ cy'.toInt by omega) (Int.le_of_lt (tn_pos (15 * (u + 1))))
    rw [Int.one_mul] at z1
    have z2 : 15 * (u + 1) ≤ 3 * (c + 1) := tn_le (by rw [e3]; omega)
    have ec := clamp_s (i := I2 55 1) (by omega)
    have eu : (I2 55 1).toNatClampNeg = u + 1 := by omega
    refine ⟨uI I2 55 1 (I2 55 1 + 1), uL J' 56 (u + 1) cy', st _ _ (y1 _ _ ?_), fun c q hc => by rw [uI_c _ _ _ hc]; exact a3 c q hc, u + 1, ?_, by omega, by rw [uI_n _ _ (by omega)]; exact a2, fun q hq => ?_, fun q h1 h2 => ?_, ?_, by omega, by rw [e3]; exact bV⟩
    · have z := zt_c (L := L) (xs := xs) (d := d) (I := I2) (J := J') (b := b) (i := i') (cy := cy') (w5 := w5') hG (by omega) (by omega) (by omega) (by omega) (by omega)
      rw [eu] at z
      exact z
    · rw [uI_s, i_add1 (by omega)]
      omega
    · by_cases e : q = u + 1
      · rw [e, uL_s]
        omega
      · rw [uL_n _ _ (fun z => e z.2)]
        exact y5 q hq
    · rw [uL_n _ _ (by omega), y6 q (by omega)]
      exact u5 q (by omega) h2
    · have e1 : sT 15 (fun q => ((uL J' 56 (u + 1) cy') 56 q).toInt) (u + 1) = sT 15 (fun q => (J' 56 q).toInt) (u + 1) := sT_c _ (fun q hq => by
        show ((uL J' 56 (u + 1) cy') 56 q).toInt = _
        rw [uL_n _ _ (by omega)])
      rw [sT_s, e1]
      show _ + ((uL J' 56 (u + 1) cy') 56 (u + 1)).toInt * _ = _
      rw [uL_s]
      exact y7

