
theorem zm_run {L : Nat} {xs : Nat → Int32} {d : Nat} {I : Nat → Nat → Int32} {J : Nat → Nat → Int64} {R : Nat → Nat → Nat} (hG : aGd R) {V : Int} {c : Nat} (hc : c ≤ 400) (hV : zrC V c I J) : ∃ r : Int32, xEv L xs (d + 1) 105 0 [.ref 55, xmk, xmk, xmk] [] (124, I, J, R) (some (.int r)) (124, I, J, R) ∧ r.toInt = V * 1000000 / tn (3 * c) := by
  obtain ⟨u, u1, u2, u3, u4, u5, u6, u7, u8⟩ := hV
  have hp := tn_pos (15 * u)
  have hu := tn_le (show tn (15 * u) ≤ tn (3 * c) by omega)
  have up : V * 1000000 / tn (3 * c) ≤ 1000000 := by
    refine Int.ediv_le_of_le_mul (tn_pos _) ?_
    rw [Int.mul_comm]
    exact Int.mul_le_mul_of_nonneg_left u8 (by decide)
  by_cases h6 : c ≤ 2
  · have u0 : u = 0 := by omega
    subst u0
    have eV : V = (J 56 0).toInt := by
      rw [← u6]
      rw [show 0 + 1 = 1 from rfl, sT_1]
    have e6 : (6 : Int32).toInt = 6 := by decide
    have en : (6 - I 55 2).toInt = (6 - 3 * c : Nat) := by rw [i_sub (by rw [e6]; omega) (by rw [e6]; omega), e6]; omega
    obtain ⟨tp, t1, t2⟩ := ze_run (L := L) (xs := xs) (d := d) (I := I) (J := J) hG en (by omega) (6 - 3 * c) 0 0 1 (by omega) (by decide) (by rw [tn_0]; decide)
    have cl := zl_y (L := L) (xs := xs) (d := d) (I := I) (J := J) (i := 0) hG (by decide) (by decide) (by decide) (by decide)
    rw [show (0 : Int32).toNatClampNeg = 0 from by decide] at cl
    refine ⟨_, zm_0 hG (by omega) cl (ze_s hG t1), ?_⟩
    have e7 : (1000000 : Int) = tn (6 - 3 * c) * tn (3 * c) := by
      rw [← tn_add, show 6 - 3 * c + 3 * c = 6 from by omega, tn_6]
    have key : V * 1000000 / tn (3 * c) = V * tn (6 - 3 * c) := by rw [e7, ← Int.mul_assoc, Int.mul_ediv_cancel _ (tn_ne _)]
    rw [key] at up ⊢
    have nn := Int.mul_nonneg (show 0 ≤ V by omega) (Int.le_of_lt (tn_pos (6 - 3 * c)))
    have em : (J 56 0 * tp).toInt = V * tn (6 - 3 * c) := by rw [l_mul (by rw [← eV, t2]; omega) (by rw [← eV, t2]; omega), ← eV, t2]
    rw [l2i_t (by omega) (by omega), em]
  · have e6 : (6 : Int32).toInt = 6 := by decide
    have e15 : (15 : Int32).toInt = 15 := by decide
    have en : (I 55 2 - 6).toInt = (3 * c - 6 : Nat) := by rw [i_sub (by rw [e6]; omega) (by rw [e6]; omega), e6]; omega
    obtain ⟨sh, hsh⟩ : ∃ sh, I 55 2 - 6 = sh := ⟨_, rfl⟩
    rw [hsh] at en
    have d1 := i_div (x := sh) (y := 15) (by omega) (by omega)
    have d2 := i_rem (x := sh) (y := 15) (by omega) (by omega)
    rw [e15] at d1 d2
    obtain ⟨i, hi⟩ : ∃ i : Nat, i = (3 * c - 6) / 15 := ⟨_, rfl⟩
    obtain ⟨cut, hcut⟩ : ∃ cut : Nat, cut = (3 * c - 6) % 15 := ⟨_, rfl⟩
    obtain ⟨sc, hsc⟩ : ∃ sc, sh - sh / 15 * 15 = sc := ⟨_, rfl⟩
    obtain ⟨si, hsi⟩ : ∃ si, sh / 15 = si := ⟨_, rfl⟩
    rw [hsc] at d2
    rw [hsi] at d1
    have f1 : si.toInt = (i : Nat) := by omega
    have f2 : sc.toInt = (cut : Nat) := by omega
    have f3 : 3 * c = 15 * i + cut + 6 := by omega
    have f4 : cut < 15 := by omega
    have f5 : i ≤ 79 := by omega
    clear d1 d2
    have f6 : (si + 1).toInt = (i + 1 : Nat) := by rw [i_add1 (by omega)]; omega
    have f7 : (15 - sc).toInt = (15 - cut : Nat) := by rw [i_sub (by rw [e15]; omega) (by rw [e15]; omega), e15]; omega
    have ec1 := clamp_s (i := si) (by omega)
    have ei1 : si.toNatClampNeg = i := by omega
    have ec2 := clamp_s (i := si + 1) (by omega)
    have ei2 : (si + 1).toNatClampNeg = i + 1 := by omega
    obtain ⟨x0, x1⟩ := u4 i (by omega)
    obtain ⟨y0, y1⟩ := u4 (i + 1) (by omega)
    obtain ⟨wd, w1, w2⟩ := zw_run (L := L) (xs := xs) (d := d) (I := I) (J := J) hG (l := J 56 i) x0 f2 cut 0 0 (J 56 i) (by omega) (by decide) (by rw [tn_0, Int.ediv_one])
    obtain ⟨tp, t1, t2⟩ := ze_run (L := L) (xs := xs) (d := d) (I := I) (J := J) hG f7 (by omega) (15 - cut) 0 0 1 (by omega) (by decide) (by rw [tn_0]; decide)
    have ca := zl_y (L := L) (xs := xs) (d := d) (I := I) (J := J) (i := si) hG (by omega) (by omega) (by omega) (by omega)
    have cb := zl_y (L := L) (xs := xs) (d := d) (I := I) (J := J) (i := si + 1) hG (by omega) (by omega) (by omega) (by omega)
    rw [ei1] at ca
    rw [ei2] at cb
    have run := zm_1 (L := L) (xs := xs) (d := d) (I := I) (J := J) (la := J 56 i) (wd := wd) (lb := J 56 (i + 1)) (tp := tp) hG (by omega) (by rw [hsh, hsi]; exact ca) (by rw [hsh, hsc]; exact zw_s hG w1) (by rw [hsh, hsi]; exact cb) (by rw [hsh, hsc]; exact ze_s hG t1)
    refine ⟨_, run, ?_⟩
    have hu1 : u ≤ i + 1 := by omega
    have eS : sT 15 (fun q => (J 56 q).toInt) (i + 2) = V := by
      rw [← u6]
      have z := sT_z (e := 15) (f := fun q => (J 56 q).toInt) (u + 1) (i + 1 - u) (fun q h1 h2 => u5 q h1 (by omega))
      rw [show u + 1 + (i + 1 - u) = i + 2 from by omega] at z
      exact z
    have sp := sT_p (e := 15) (f := fun q => (J 56 q).toInt) i 2
    have s2 : sT 15 (fun q => (J 56 (i + q)).toInt) 2 = (J 56 i).toInt + (J 56 (i + 1)).toInt * tn 15 := by
      rw [sT_2, Nat.add_zero]
    rw [s2, eS] at sp
    have lo := sT_b (e := 15) (f := fun q => (J 56 q).toInt) i (fun q hq => by
      have := u4 q (by omega)
      rw [tn_15]
      exact this)
    have e3 : tn (3 * c) = tn (15 * i) * tn cut * 1000000 := by rw [f3, tn_add, tn_add, tn_6]
    have e15' : tn 15 = tn (15 - cut) * tn cut := by rw [← tn_add]; congr 1; omega
    have key : V * 1000000 / tn (3 * c) = (J 56 i).toInt / tn cut + (J 56 (i + 1)).toInt * tn (15 - cut) := by
      rw [e3, Int.mul_ediv_mul_of_pos_left _ _ (by decide), ← Int.ediv_ediv_of_nonneg (Int.le_of_lt (tn_pos _)), sp, Int.add_mul_ediv_left _ _ (tn_ne _), Int.ediv_eq_zero_of_lt lo.1 lo.2, Int.zero_add, e15', ← Int.mul_assoc, Int.add_mul_ediv_right _ _ (tn_ne _)]
    rw [key] at up ⊢
    have n1 := Int.ediv_nonneg x0 (Int.le_of_lt (tn_pos cut))
    have n2 := Int.mul_nonneg y0 (Int.le_of_lt (tn_pos (15 - cut)))
    have em : (J 56 (i + 1) * tp).toInt = (J 56 (i + 1)).toInt * tn (15 - cut) := by rw [l_mul (by rw [t2]; omega) (by rw [t2]; omega), t2]
    have ea : (wd + J 56 (i + 1) * tp).toInt = (J 56 i).toInt / tn cut + (J 56 (i + 1)).toInt * tn (15 - cut) := by rw [l_add (by rw [w2, em]; omega) (by rw [w2, em]; omega), w2, em]
    rw [l2i_t (by omega) (by omega), ea]
theorem md_s {n : Nat} (hn : 1 ≤ n) (k : Nat) : (k + 1) % n = if k % n + 1 < n then k % n + 1 else 0 := by
  have h1 := Nat.div_add_mod k n
  have h2 := Nat.mod_lt k hn
  by_cases h : k % n + 1 < n
  · rw [if_pos h]
    have e : k + 1 = n * (k / n) + (k % n + 1) := by omega
    rw [e, Nat.mul_add_mod, Nat.mod_eq_of_lt h]
  · rw [if_neg h]
    have e : k + 1 = n * (k / n) + n := by omega
    rw [e, Nat.mul_add_mod, Nat.mod_self]
