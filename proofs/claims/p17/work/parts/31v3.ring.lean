
/-- what the reference makes of the product -/
theorem zr_end {L : Nat} {xs : Nat → Int32} {d : Nat} {I : Nat → Nat → Int32} {J : Nat → Nat → Int64} {R : Nat → Nat → Nat} (hG : aGd R) {a k : Int32} {V : Int} {dN : Nat} (ha : a.toInt = dN) (hd : dN ≤ 400) (hk : k.toInt = dN) (hV : zrR V dN I) (hV0 : dN = 0 → V = 1) :
    ∃ r : Int32, xEv L xs (d + 1) 212 59 [.ref 86, .int a, .int 1, .int k] [] (124, I, J, R) (some (.int r)) (124, I, J, R) ∧ r.toInt = V * 1000000 / tn (3 * dN) := by
  obtain ⟨v1, v2, v3, v4⟩ := hV
  by_cases d2 : dN < 2
  · by_cases d0 : dN = 0
    · refine ⟨_, zr_d0 hG (by omega) (by omega) (by omega), ?_⟩
      rw [hV0 d0, d0, show tn (3 * 0) = 1 from tn_0, Int.ediv_one, Int.one_mul]
      exact k32_6
    · have d1 : dN = 1 := by omega
      subst d1
      refine ⟨_, zr_d1 hG (by omega) (by omega) (by omega), ?_⟩
      have w0 := v1 0 (by omega)
      have w1 := v1 1 (by omega)
      have eV : V = (I 116 0).toInt + (I 116 1).toInt * 1000 := by
        rw [← v3, show 1 + 1 = 2 from rfl, sT_2, tn_3]
      have t3 : tn (3 * 1) = 1000 := tn_3
      rw [t3] at v4 ⊢
      obtain ⟨p0, hp0⟩ : ∃ p, (I 116 0) * 1000 = p := ⟨_, rfl⟩
      obtain ⟨p1, hp1⟩ : ∃ p, (I 116 1) * 1000000 = p := ⟨_, rfl⟩
      have m1 : p0.toInt = (I 116 0).toInt * 1000 := by rw [← hp0, i_mul (by rw [k32_3]; omega) (by rw [k32_3]; omega), k32_3]
      have m2 : p1.toInt = (I 116 1).toInt * 1000000 := by rw [← hp1, i_mul (by rw [k32_6]; omega) (by rw [k32_6]; omega), k32_6]
      rw [hp0, hp1]
      rw [i_add (by omega) (by omega), m1, m2]
      omega
  · obtain ⟨e, rfl⟩ : ∃ e, dN = e + 2 := ⟨dN - 2, by omega⟩
    have ec := clamp_s (i := a) (by omega)
    have ea : a.toNatClampNeg = e + 2 := by omega
    have s1 : (a - 1).toInt = (e + 1 : Nat) := by rw [i_sub (by rw [show (1 : Int32).toInt = 1 from by decide]; omega) (by rw [show (1 : Int32).toInt = 1 from by decide]; omega), show (1 : Int32).toInt = 1 from by decide]; omega
    have s2 : (a - 2).toInt = (e : Nat) := by rw [i_sub (by rw [show (2 : Int32).toInt = 2 from by decide]; omega) (by rw [show (2 : Int32).toInt = 2 from by decide]; omega), show (2 : Int32).toInt = 2 from by decide]; omega
    have ec1 := clamp_s (i := a - 1) (by omega)
    have ea1 : (a - 1).toNatClampNeg = e + 1 := by omega
    have ec2 := clamp_s (i := a - 2) (by omega)
    have ea2 : (a - 2).toNatClampNeg = e := by omega
    refine ⟨_, zr_d2 hG (by omega) (by omega) (by omega) (by omega) (by omega) (by omega) (by omega) (by omega), ?_⟩
    rw [ea, ea1, ea2]
    have w0 := v1 e (by omega)
    have w1 := v1 (e + 1) (by omega)
    have w2 := v1 (e + 2) (by omega)
    have sp := sT_p (e := 3) (f := fun q => (I 116 q).toInt) e 3
    have s3 : sT 3 (fun i => (I 116 (e + i)).toInt) 3 = (I 116 e).toInt + (I 116 (e + 1)).toInt * 1000 + (I 116 (e + 2)).toInt * 1000000 := by
      rw [sT_3, tn_3, show tn (3 * 2) = 1000000 from tn_6, Nat.add_zero]
    rw [s3] at sp
    have v3' : sT 3 (fun q => (I 116 q).toInt) (e + 3) = V := v3
    rw [v3'] at sp
    have lo := sT_b (e := 3) (f := fun q => (I 116 q).toInt) e (fun i hi => by
      have := v1 i (by omega)
      rw [tn_3]
      exact this)
    have e3 : tn (3 * (e + 2)) = tn (3 * e) * 1000000 := by rw [Nat.mul_add, tn_add, show 3 * 2 = 6 from rfl, tn_6]
    have hp := tn_pos (3 * e)
    have key : V * 1000000 / tn (3 * (e + 2)) = (I 116 e).toInt + (I 116 (e + 1)).toInt * 1000 + (I 116 (e + 2)).toInt * 1000000 := by
      rw [e3, Int.mul_ediv_mul_of_pos_left _ _ (by decide), sp, Int.add_mul_ediv_left _ _ (tn_ne _), Int.ediv_eq_zero_of_lt lo.1 lo.2, Int.zero_add]
    have up : V * 1000000 / tn (3 * (e + 2)) ≤ 1000000 := by
      refine Int.ediv_le_of_le_mul (tn_pos _) ?_
      rw [Int.mul_comm]
      exact Int.mul_le_mul_of_nonneg_left v4 (by decide)
    rw [key] at up ⊢
    obtain ⟨p0, hp0⟩ : ∃ p, (I 116 (e + 1)) * 1000 = p := ⟨_, rfl⟩
    obtain ⟨p1, hp1⟩ : ∃ p, (I 116 (e + 2)) * 1000000 = p := ⟨_, rfl⟩
    have m1 : p0.toInt = (I 116 (e + 1)).toInt * 1000 := by rw [← hp0, i_mul (by rw [k32_3]; omega) (by rw [k32_3]; omega), k32_3]
    have m2 : p1.toInt = (I 116 (e + 2)).toInt * 1000000 := by rw [← hp1, i_mul (by rw [k32_6]; omega) (by rw [k32_6]; omega), k32_6]
    have m3 : (p1 + p0).toInt = (I 116 (e + 2)).toInt * 1000000 + (I 116 (e + 1)).toInt * 1000 := by rw [i_add (by omega) (by omega), m1, m2]
    rw [hp0, hp1]
    rw [i_add (by omega) (by omega), m3]
    omega

