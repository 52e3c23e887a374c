theorem zr_loop {L : Nat} {xs : Nat → Int32} {d : Nat} {J : Nat → Nat → Int64} {R : Nat → Nat → Nat} (hG : aGd R) {a : Int32} {n dN : Nat} (ha : a.toInt = dN) (hd : dN ≤ 400) (hn : 1 ≤ n) (hn9 : n ≤ 900) {row : Nat → Int32} {die : Nat → Int32} {f : Nat → Int} (hrow : ∀ q, q < n → 0 ≤ (row q).toInt ∧ (row q).toInt < 7) (hdie : ∀ q, q < 7 → 0 ≤ (die q).toInt ∧ (die q).toInt ≤ 500) (hf : ∀ j, j < dN → f j = 1000 - (die (row (j % n)).toNatClampNeg).toInt) : ∀ (g kN : Nat) (k : Int32) (I : Nat → Nat → Int32), kN + g = dN → k.toInt = kN → (I 86 48).toInt = n → (∀ q, q < n → I 115 q = row q) → (∀ q, q < 7 → I 91 q = die q) → zrR (rgS f kN) kN I →
    ∃ (r : Int32) (I' : Nat → Nat → Int32), xEv L xs (d + 1) 212 59 [.ref 86, .int a, .int 1, .int k] [] (124, I, J, R) (some (.int r)) (124, I', J, R) ∧ r.toInt = rgS f dN * 1000000 / tn (3 * dN) := by
  intro g
  induction g with
  | zero =>
    intro kN k I hk ek h48 hr hdi hV
    have e : kN = dN := by omega
    subst e
    obtain ⟨r, x1, x2⟩ := zr_end (L := L) (xs := xs) (d := d) (J := J) hG ha hd ek hV (fun h => by rw [h]; rfl)
    exact ⟨r, I, x1, x2⟩
  | succ g ih =>
    intro kN k I hk ek h48 hr hdi hV
    have hk' : (k + 1).toInt = (kN + 1 : Nat) := by rw [i_add1 (by omega)]; omega
    have hk2 : (k + 2).toInt = (kN + 2 : Nat) := by rw [i_add (by rw [show (2 : Int32).toInt = 2 from by decide]; omega) (by rw [show (2 : Int32).toInt = 2 from by decide]; omega), show (2 : Int32).toInt = 2 from by decide]; omega
    have em := i_rem (x := k) (y := I 86 48) (by omega) (by omega)
    rw [ek, h48] at em
    have hmod : kN % n < n := Nat.mod_lt _ (by omega)
    have em' : (k - k / I 86 48 * I 86 48).toInt = ((kN % n : Nat) : Int) := by rw [em]; exact (Int.natCast_emod _ _).symm
    have ec := clamp_s (i := k - k / I 86 48 * I 86 48) (by omega)
    have ei : (k - k / I 86 48 * I 86 48).toNatClampNeg = kN % n := by omega
    have hrw := hr (kN % n) hmod
    obtain ⟨r0, r1⟩ := hrow (kN % n) hmod
    have ec2 := clamp_s (i := row (kN % n)) r0
    obtain ⟨u0, u1⟩ := hdie (row (kN % n)).toNatClampNeg (by omega)
    have hdd := hdi (row (kN % n)).toNatClampNeg (by omega)
    have e1000 : (1000 : Int32).toInt = 1000 := by decide
    have ef : (1000 - die (row (kN % n)).toNatClampNeg).toInt = f kN := by rw [i_sub (by rw [e1000]; omega) (by rw [e1000]; omega), e1000, hf kN (by omega)]
    have hfk := hf kN (by omega)
    obtain ⟨I1, x1, x2, x3⟩ := zy_one (L := L) (xs := xs) (d := d) (J := J) hG (bb := 1000 - die (row (kN % n)).toNatClampNeg) (m := k + 2) (by omega) hk2 (by omega) (by omega) hV
    rw [ef] at x3
    obtain ⟨r, I', y1, y2⟩ := ih (kN + 1) (k + 1) I1 (by omega) hk' (by rw [x2 _ _ (by decide)]; exact h48) (fun q hq => by rw [x2 _ _ (by decide)]; exact hr q hq) (fun q hq => by rw [x2 _ _ (by decide)]; exact hdi q hq) x3
    refine ⟨r, I', zr_l hG (by omega) (ai_ne0 (by omega)) (by omega) (by omega) (by rw [ei, hrw]; exact r0) (by rw [ei, hrw]; omega) (by rw [ei, hrw, hdd]; exact x1) y1, y2⟩
