theorem l_add {x y : Int64} (h1 : -9223372036854775808 ≤ x.toInt + y.toInt) (h2 : x.toInt + y.toInt ≤ 9223372036854775807) : (x + y).toInt = x.toInt + y.toInt := by
  rw [Int64.toInt_add]
  exact abmL h1 h2
theorem l_sub {x y : Int64} (h1 : -9223372036854775808 ≤ x.toInt - y.toInt) (h2 : x.toInt - y.toInt ≤ 9223372036854775807) : (x - y).toInt = x.toInt - y.toInt := by
  rw [Int64.toInt_sub]
  exact abmL h1 h2
theorem l_mul {x y : Int64} (h1 : -9223372036854775808 ≤ x.toInt * y.toInt) (h2 : x.toInt * y.toInt ≤ 9223372036854775807) : (x * y).toInt = x.toInt * y.toInt := by
  rw [Int64.toInt_mul]
  exact abmL h1 h2
theorem i_mul {x y : Int32} (h1 : -2147483648 ≤ x.toInt * y.toInt) (h2 : x.toInt * y.toInt ≤ 2147483647) : (x * y).toInt = x.toInt * y.toInt := by
  rw [Int32.toInt_mul]
  exact abm h1 h2
/-- letters -/
def isLt (b : Nat → Int32) (st m : Nat) : Prop := ∀ i, i < m → 97 ≤ (b (st + i)).toInt ∧ (b (st + i)).toInt ≤ 122
def cN (B : Int) (b : Nat → Int32) (st : Nat) : Nat → Int
  | 0 => 0
  | m + 1 => B * cN B b st m + ((b (st + m)).toInt - 96)
theorem cN_b27 {b : Nat → Int32} {st : Nat} : ∀ m, isLt b st m → 0 ≤ cN 27 b st m ∧ cN 27 b st m < (27 : Int) ^ m
  | 0, _ => ⟨Int.le_refl _, by show (0 : Int) < (27 : Int) ^ 0; decide⟩
  | m + 1, h => by
    have ih := cN_b27 m (fun i hi => h i (by omega))
    have hm := h m (by omega)
    have e : cN 27 b st (m + 1) = 27 * cN 27 b st m + ((b (st + m)).toInt - 96) := rfl
    have e2 : (27 : Int) ^ (m + 1) = (27 : Int) ^ m * 27 := Int.pow_succ _ _
    rw [e, e2]
    omega
theorem cN_827 {b : Nat → Int32} {st m : Nat} (hm : m ≤ 8) (h : isLt b st m) : 0 ≤ cN 27 b st m ∧ cN 27 b st m < 1099511627776 := by
  have h1 := cN_b27 m h
  have h2 : ∀ m : Nat, m ≤ 8 → (27 : Int) ^ m ≤ 1099511627776 := by decide
  have := h2 m hm
  omega
theorem cN_i27 {b b' : Nat → Int32} {st st' : Nat} : ∀ m m', isLt b st m → isLt b' st' m' → cN 27 b st m = cN 27 b' st' m' → m = m' ∧ ∀ i, i < m → (b (st + i)).toInt = (b' (st' + i)).toInt
  | 0, 0, _, _, _ => ⟨rfl, fun i hi => by omega⟩
  | 0, m' + 1, _, h', he => by
    have h1 := cN_b27 m' (fun i hi => h' i (by omega))
    have h2 := h' m' (by omega)
    have e : cN 27 b' st' (m' + 1) = 27 * cN 27 b' st' m' + ((b' (st' + m')).toInt - 96) := rfl
    rw [e] at he
    have e0 : cN 27 b st 0 = 0 := rfl
    rw [e0] at he
    omega
  | m + 1, 0, h, _, he => by
    have h1 := cN_b27 m (fun i hi => h i (by omega))
    have h2 := h m (by omega)
    have e : cN 27 b st (m + 1) = 27 * cN 27 b st m + ((b (st + m)).toInt - 96) := rfl
    rw [e] at he
    have e0 : cN 27 b' st' 0 = 0 := rfl
    rw [e0] at he
    omega
  | m + 1, m' + 1, h, h', he => by
    have h1 := h m (by omega)
    have h2 := h' m' (by omega)
    have e : cN 27 b st (m + 1) = 27 * cN 27 b st m + ((b (st + m)).toInt - 96) := rfl
    have e' : cN 27 b' st' (m' + 1) = 27 * cN 27 b' st' m' + ((b' (st' + m')).toInt - 96) := rfl
    rw [e, e'] at he
    have hd : (b (st + m)).toInt = (b' (st' + m')).toInt := by omega
    obtain ⟨g1, g2⟩ := cN_i27 m m' (fun i hi => h i (by omega)) (fun i hi => h' i (by omega)) (by omega)
    subst g1
    refine ⟨rfl, fun i hi => ?_⟩
    by_cases z : i = m
    · rw [z]; exact hd
    · exact g2 i (by omega)
theorem cN_e27 {b b' : Nat → Int32} {st st' : Nat} : ∀ m, (∀ i, i < m → (b (st + i)).toInt = (b' (st' + i)).toInt) → cN 27 b st m = cN 27 b' st' m
  | 0, _ => rfl
  | m + 1, h => by
    show 27 * cN 27 b st m + ((b (st + m)).toInt - 96) = 27 * cN 27 b' st' m + ((b' (st' + m)).toInt - 96)
    rw [cN_e27 m (fun i hi => h i (by omega)), h m (by omega)]
theorem cN_b32 {b : Nat → Int32} {st : Nat} : ∀ m, isLt b st m → 0 ≤ cN 32 b st m ∧ cN 32 b st m < (32 : Int) ^ m
  | 0, _ => ⟨Int.le_refl _, by show (0 : Int) < (32 : Int) ^ 0; decide⟩
  | m + 1, h => by
    have ih := cN_b32 m (fun i hi => h i (by omega))
    have hm := h m (by omega)
    have e : cN 32 b st (m + 1) = 32 * cN 32 b st m + ((b (st + m)).toInt - 96) := rfl
    have e2 : (32 : Int) ^ (m + 1) = (32 : Int) ^ m * 32 := Int.pow_succ _ _
    rw [e, e2]
    omega
theorem cN_832 {b : Nat → Int32} {st m : Nat} (hm : m ≤ 8) (h : isLt b st m) : 0 ≤ cN 32 b st m ∧ cN 32 b st m < 1099511627776 := by
  have h1 := cN_b32 m h
  have h2 : ∀ m : Nat, m ≤ 8 → (32 : Int) ^ m ≤ 1099511627776 := by decide
  have := h2 m hm
  omega
theorem cN_i32 {b b' : Nat → Int32} {st st' : Nat} : ∀ m m', isLt b st m → isLt b' st' m' → cN 32 b st m = cN 32 b' st' m' → m = m' ∧ ∀ i, i < m → (b (st + i)).toInt = (b' (st' + i)).toInt
  | 0, 0, _, _, _ => ⟨rfl, fun i hi => by omega⟩
  | 0, m' + 1, _, h', he => by
    have h1 := cN_b32 m' (fun i hi => h' i (by omega))
    have h2 := h' m' (by omega)
    have e : cN 32 b' st' (m' + 1) = 32 * cN 32 b' st' m' + ((b' (st' + m')).toInt - 96) := rfl
    rw [e] at he
    have e0 : cN 32 b st 0 = 0 := rfl
    rw [e0] at he
    omega
  | m + 1, 0, h, _, he => by
    have h1 := cN_b32 m (fun i hi => h i (by omega))
    have h2 := h m (by omega)
    have e : cN 32 b st (m + 1) = 32 * cN 32 b st m + ((b (st + m)).toInt - 96) := rfl
    rw [e] at he
    have e0 : cN 32 b' st' 0 = 0 := rfl
    rw [e0] at he
    omega
  | m + 1, m' + 1, h, h', he => by
    have h1 := h m (by omega)
    have h2 := h' m' (by omega)
    have e : cN 32 b st (m + 1) = 32 * cN 32 b st m + ((b (st + m)).toInt - 96) := rfl
    have e' : cN 32 b' st' (m' + 1) = 32 * cN 32 b' st' m' + ((b' (st' + m')).toInt - 96) := rfl
    rw [e, e'] at he
    have hd : (b (st + m)).toInt = (b' (st' + m')).toInt := by omega
    obtain ⟨g1, g2⟩ := cN_i32 m m' (fun i hi => h i (by omega)) (fun i hi => h' i (by omega)) (by omega)
    subst g1
    refine ⟨rfl, fun i hi => ?_⟩
    by_cases z : i = m
    · rw [z]; exact hd
    · exact g2 i (by omega)
theorem cN_e32 {b b' : Nat → Int32} {st st' : Nat} : ∀ m, (∀ i, i < m → (b (st + i)).toInt = (b' (st' + i)).toInt) → cN 32 b st m = cN 32 b' st' m
  | 0, _ => rfl
  | m + 1, h => by
    show 32 * cN 32 b st m + ((b (st + m)).toInt - 96) = 32 * cN 32 b' st' m + ((b' (st' + m)).toInt - 96)
    rw [cN_e32 m (fun i hi => h i (by omega)), h m (by omega)]
theorem v27 {b : Nat → Int32} {st : Nat} : ∀ m, m ≤ 8 → isLt b st m → (vF b st m).toInt = cN 27 b st m
  | 0, _, _ => rfl
  | m + 1, hm, h => by
    have ih := v27 m (by omega) (fun i hi => h i (by omega))
    have hb := cN_827 (b := b) (st := st) (m := m) (by omega) (fun i hi => h i (by omega))
    have hl := h m (by omega)
    show (wsg (vF b st m) (b (st + m))).toInt = 27 * cN 27 b st m + ((b (st + m)).toInt - 96)
    unfold wsg
    rw [if_pos hl.1]
    have e1 : (vF b st m * 27).toInt = cN 27 b st m * 27 := by
      rw [l_mul (by rw [ih, show (27 : Int64).toInt = 27 from by decide]; omega) (by rw [ih, show (27 : Int64).toInt = 27 from by decide]; omega), ih]
      rfl
    have e2 : (vF b st m * 27 + (b (st + m)).toInt64).toInt = cN 27 b st m * 27 + (b (st + m)).toInt := by
      rw [l_add (by rw [e1, i2l_t]; omega) (by rw [e1, i2l_t]; omega), e1, i2l_t]
    have e3 : (vF b st m * 27 + (b (st + m)).toInt64 - 97).toInt = cN 27 b st m * 27 + (b (st + m)).toInt - 97 := by
      rw [l_sub (by rw [e2, show (97 : Int64).toInt = 97 from by decide]; omega) (by rw [e2, show (97 : Int64).toInt = 97 from by decide]; omega), e2]
      rfl
    rw [l_add (by rw [e3, show (1 : Int64).toInt = 1 from by decide]; omega) (by rw [e3, show (1 : Int64).toInt = 1 from by decide]; omega), e3, show (1 : Int64).toInt = 1 from by decide]
    omega
theorem w32 {b : Nat → Int32} {st : Nat} : ∀ m, m ≤ 8 → isLt b st m → (wF b st m).toInt = cN 32 b st m
  | 0, _, _ => rfl
  | m + 1, hm, h => by
    have ih := w32 m (by omega) (fun i hi => h i (by omega))
    have hb := cN_832 (b := b) (st := st) (m := m) (by omega) (fun i hi => h i (by omega))
    have hl := h m (by omega)
    show (if m < 8 then 32 * wF b st m + (b (st + m)).toInt64 - 97 + 1 else wF b st m).toInt = 32 * cN 32 b st m + ((b (st + m)).toInt - 96)
    rw [if_pos (by omega)]
    have e1 : (32 * wF b st m).toInt = 32 * cN 32 b st m := by
      rw [l_mul (by rw [ih, show (32 : Int64).toInt = 32 from by decide]; omega) (by rw [ih, show (32 : Int64).toInt = 32 from by decide]; omega), ih]
      rfl
    have e2 : (32 * wF b st m + (b (st + m)).toInt64).toInt = 32 * cN 32 b st m + (b (st + m)).toInt := by
      rw [l_add (by rw [e1, i2l_t]; omega) (by rw [e1, i2l_t]; omega), e1, i2l_t]
    have e3 : (32 * wF b st m + (b (st + m)).toInt64 - 97).toInt = 32 * cN 32 b st m + (b (st + m)).toInt - 97 := by
      rw [l_sub (by rw [e2, show (97 : Int64).toInt = 97 from by decide]; omega) (by rw [e2, show (97 : Int64).toInt = 97 from by decide]; omega), e2]
      rfl
    rw [l_add (by rw [e3, show (1 : Int64).toInt = 1 from by decide]; omega) (by rw [e3, show (1 : Int64).toInt = 1 from by decide]; omega), e3, show (1 : Int64).toInt = 1 from by decide]
    omega
/-- two words are one for the class just when they are for the reference -/
theorem word_eq {b b' : Nat → Int32} {st st' m m' : Nat} (hm : m ≤ 8) (hm' : m' ≤ 8) (h : isLt b st m) (h' : isLt b' st' m') : vF b st m = vF b' st' m' ↔ wF b st m = wF b' st' m' := by
  constructor
  · intro e
    have e1 : cN 27 b st m = cN 27 b' st' m' := by rw [← v27 m hm h, ← v27 m' hm' h', e]
    obtain ⟨g1, g2⟩ := cN_i27 m m' h h' e1
    subst g1
    exact Int64.toInt_inj.mp (by rw [w32 m hm h, w32 m hm' h', cN_e32 m g2])
  · intro e
    have e1 : cN 32 b st m = cN 32 b' st' m' := by rw [← w32 m hm h, ← w32 m' hm' h', e]
    obtain ⟨g1, g2⟩ := cN_i32 m m' h h' e1
    subst g1
    exact Int64.toInt_inj.mp (by rw [v27 m hm h, v27 m hm' h', cN_e27 m g2])
/-- a number of at most three figures -/
theorem num_eq {b : Nat → Int32} {st m : Nat} (hm1 : 1 ≤ m) (hm : m ≤ 3) (h : ∀ i, i < m → 48 ≤ (b (st + i)).toInt ∧ (b (st + i)).toInt ≤ 57) : (vF b st m).toInt = (nF b st m).toInt ∧ 0 ≤ (nF b st m).toInt ∧ (nF b st m).toInt ≤ 999 := by
  have step : ∀ (v : Int64) (c : Int32), 48 ≤ c.toInt → c.toInt ≤ 57 → 0 ≤ v.toInt → v.toInt ≤ 99 → (wsg v c).toInt = v.toInt * 10 + c.toInt - 48 := by
    intro v c h1 h2 h3 h4
    unfold wsg
    rw [if_neg (by omega)]
    have e1 : (v * 10).toInt = v.toInt * 10 := by
      rw [l_mul (by rw [show (10 : Int64).toInt = 10 from by decide]; omega) (by rw [show (10 : Int64).toInt = 10 from by decide]; omega)]
      rfl
    have e2 : (v * 10 + c.toInt64).toInt = v.toInt * 10 + c.toInt := by
      rw [l_add (by rw [e1, i2l_t]; omega) (by rw [e1, i2l_t]; omega), e1, i2l_t]
    rw [l_sub (by rw [e2, show (48 : Int64).toInt = 48 from by decide]; omega) (by rw [e2, show (48 : Int64).toInt = 48 from by decide]; omega), e2]
    rfl
  have stepn : ∀ (v c : Int32), 48 ≤ c.toInt → c.toInt ≤ 57 → 0 ≤ v.toInt → v.toInt ≤ 99 → (10 * v + c - 48).toInt = v.toInt * 10 + c.toInt - 48 := by
    intro v c h1 h2 h3 h4
    have e1 : (10 * v).toInt = v.toInt * 10 := by
      rw [i_mul (by rw [show (10 : Int32).toInt = 10 from by decide]; omega) (by rw [show (10 : Int32).toInt = 10 from by decide]; omega), show (10 : Int32).toInt = 10 from by decide]
      omega
    have e2 : (10 * v + c).toInt = v.toInt * 10 + c.toInt := by
      rw [i_add (by rw [e1]; omega) (by rw [e1]; omega), e1]
    rw [i_sub (by rw [e2, show (48 : Int32).toInt = 48 from by decide]; omega) (by rw [e2, show (48 : Int32).toInt = 48 from by decide]; omega), e2]
    rfl
  have h0 := h 0 (by omega)
  have a1 : (vF b st 1).toInt = (b st).toInt - 48 := by
    show (wsg 0 (b (st + 0))).toInt = _
    rw [step 0 (b (st + 0)) h0.1 h0.2 (by decide) (by decide)]
    show 0 * 10 + (b st).toInt - 48 = _
    omega
  have b1 : (nF b st 1).toInt = (b st).toInt - 48 := by
    show (b st - 48).toInt = _
    rw [i_sub (by rw [show (48 : Int32).toInt = 48 from by decide]; have := aw (b st); have h0' : 48 ≤ (b st).toInt := h0.1; omega) (by rw [show (48 : Int32).toInt = 48 from by decide]; have := aw (b st); omega)]
    rfl
  have h0' : 48 ≤ (b st).toInt ∧ (b st).toInt ≤ 57 := h0
  have hc : m = 1 ∨ m = 2 ∨ m = 3 := by omega
  rcases hc with rfl | rfl | rfl
  · exact ⟨by omega, by omega, by omega⟩
  · have h1 := h 1 (by omega)
    have a2 : (vF b st 2).toInt = (vF b st 1).toInt * 10 + (b (st + 1)).toInt - 48 := step (vF b st 1) (b (st + 1)) h1.1 h1.2 (by rw [a1]; omega) (by rw [a1]; omega)
    have b2 : (nF b st 2).toInt = (nF b st 1).toInt * 10 + (b (st + 1)).toInt - 48 := by
      show (if 0 + 1 < 3 then 10 * nF b st 1 + b (st + 1) - 48 else nF b st 1).toInt = _
      rw [if_pos (by decide)]
      exact stepn _ _ h1.1 h1.2 (by omega) (by omega)
    exact ⟨by omega, by omega, by omega⟩
  · have h1 := h 1 (by omega)
    have h2 := h 2 (by omega)
    have a2 : (vF b st 2).toInt = (vF b st 1).toInt * 10 + (b (st + 1)).toInt - 48 := step (vF b st 1) (b (st + 1)) h1.1 h1.2 (by rw [a1]; omega) (by rw [a1]; omega)
    have b2 : (nF b st 2).toInt = (nF b st 1).toInt * 10 + (b (st + 1)).toInt - 48 := by
      show (if 0 + 1 < 3 then 10 * nF b st 1 + b (st + 1) - 48 else nF b st 1).toInt = _
      rw [if_pos (by decide)]
      exact stepn _ _ h1.1 h1.2 (by omega) (by omega)
    have a3 : (vF b st 3).toInt = (vF b st 2).toInt * 10 + (b (st + 2)).toInt - 48 := step (vF b st 2) (b (st + 2)) h2.1 h2.2 (by rw [a2, a1]; omega) (by rw [a2, a1]; omega)
    have b3 : (nF b st 3).toInt = (nF b st 2).toInt * 10 + (b (st + 2)).toInt - 48 := by
      show (if 1 + 1 < 3 then 10 * nF b st 2 + b (st + 2) - 48 else nF b st 2).toInt = _
      rw [if_pos (by decide)]
      exact stepn _ _ h2.1 h2.2 (by omega) (by omega)
    exact ⟨by omega, by omega, by omega⟩
/-! words that are known, for the class -/
def kb (j : Nat) : Nat → Int32 := fun i => Int32.ofInt (kwc j i)
theorem kb_lt : ∀ j, j < 6 → ∀ i, i < kwl j → 97 ≤ (kb j (0 + i)).toInt ∧ (kb j (0 + i)).toInt ≤ 122 ∧ (kb j (0 + i)).toInt = kwc j i := by decide +kernel
theorem kwl_le : ∀ j, j < 6 → kwl j ≤ 8 := by decide +kernel
theorem kw_iff {b : Nat → Int32} {st m j : Nat} (hj : j < 6) (hm : m ≤ 8) (h : isLt b st m) : vF b st m = vF (kb j) 0 (kwl j) ↔ isKw b st m j := by
  have hk : isLt (kb j) 0 (kwl j) := fun i hi => ⟨(kb_lt j hj i hi).1, (kb_lt j hj i hi).2.1⟩
  have hl := kwl_le j hj
  constructor
  · intro e
    have e1 : cN 27 b st m = cN 27 (kb j) 0 (kwl j) := by rw [← v27 m hm h, ← v27 _ hl hk, e]
    obtain ⟨g1, g2⟩ := cN_i27 m _ h hk e1
    exact ⟨g1, fun i hi => by rw [g2 i (by omega), (kb_lt j hj i hi).2.2]⟩
  · rintro ⟨g1, g2⟩
    subst g1
    exact Int64.toInt_inj.mp (by rw [v27 _ hm h, v27 _ hl hk]; exact cN_e27 _ (fun i hi => by rw [g2 i hi, (kb_lt j hj i hi).2.2]))
set_option maxRecDepth 20000 in
theorem iw_0_0 {L : Nat} {xs : Nat → Int32} {d : Nat} {I : Nat → Nat → Int32} {J : Nat → Nat → Int64} {R : Nat → Nat → Nat} (hG : aGd R) (h4 : 4 ≤ d + 1) (c1 : xEv L xs d 24 0 [.long 0, xmk, .int 112] [] (124, I, J, R) (some (.long (wsg 0 112))) (124, I, J, R)) (c2 : xEv L xs d 24 0 [.long (wsg 0 112), xmk, .int 101] [] (124, I, J, R) (some (.long (wsg (wsg 0 112) 101))) (124, I, J, R)) (c3 : xEv L xs d 24 0 [.long (wsg (wsg 0 112) 101), xmk, .int 114] [] (124, I, J, R) (some (.long (wsg (wsg (wsg 0 112) 101) 114))) (124, I, J, R)) (c4 : xEv L xs d 24 0 [.long (wsg (wsg (wsg 0 112) 101) 114), xmk, .int 115] [] (124, I, J, R) (some (.long (wsg (wsg (wsg (wsg 0 112) 101) 114) 115))) (124, I, J, R)) (c5 : xEv L xs d 24 0 [.long (wsg (wsg (wsg (wsg 0 112) 101) 114) 115), xmk, .int 111] [] (124, I, J, R) (some (.long (wsg (wsg (wsg (wsg (wsg 0 112) 101) 114) 115) 111))) (124, I, J, R)) (c6 : xEv L xs d 24 0 [.long (wsg (wsg (wsg (wsg (wsg 0 112) 101) 114) 115) 111), xmk, .int 110] [] (124, I, J, R) (some (.long (wsg (wsg (wsg (wsg (wsg (wsg 0 112) 101) 114) 115) 111) 110))) (124, I, J, R)) (b1 : (I 1 3).toInt ≠ 1) : xEv L xs (d + 1) 25 0 [.ref 1, .retAddr 2, xmk, xmk, xmk] [] (124, I, J, R) (some (.int 0)) (124, I, J, R) := by
  refine ev_go 6 (pc1 := 8) (lv1 := [.ref 1, .retAddr 2, .long 0, xmk, .int 0]) (st1 := [.retAddr 2, .int 0]) (h1 := (124, I, J, R)) rfl ?_
  refine ev_902 (k := 0) h4 rfl rfl (by decide) (by decide) (x := 6) rfl ?_
  refine ev_go 4 (pc1 := 18) (lv1 := [.ref 1, .retAddr 2, .long 0, xmk, .int 0]) (st1 := [.int 0, .retAddr 2, .long 0]) (h1 := (124, I, J, R)) rfl ?_
  refine ev_903 (k := 0) h4 rfl rfl (by decide) (by decide) (by decide) (by decide) (x := 112) rfl ?_
  refine ev_call (v1 := (some (.long (wsg 0 112)))) (h1 := (124, I, J, R)) rfl rfl c1 ?_
  refine ev_go 5 (pc1 := 8) (lv1 := [.ref 1, .retAddr 2, .long (wsg 0 112), xmk, .int 1]) (st1 := [.retAddr 2, .int 1]) (h1 := (124, I, J, R)) rfl ?_
  refine ev_902 (k := 0) h4 rfl rfl (by decide) (by decide) (x := 6) rfl ?_
  refine ev_go 4 (pc1 := 18) (lv1 := [.ref 1, .retAddr 2, .long (wsg 0 112), xmk, .int 1]) (st1 := [.int 1, .retAddr 2, .long (wsg 0 112)]) (h1 := (124, I, J, R)) rfl ?_
  refine ev_903 (k := 0) h4 rfl rfl (by decide) (by decide) (by decide) (by decide) (x := 101) rfl ?_
  refine ev_call (v1 := (some (.long (wsg (wsg 0 112) 101)))) (h1 := (124, I, J, R)) rfl rfl c2 ?_
  refine ev_go 5 (pc1 := 8) (lv1 := [.ref 1, .retAddr 2, .long (wsg (wsg 0 112) 101), xmk, .int 2]) (st1 := [.retAddr 2, .int 2]) (h1 := (124, I, J, R)) rfl ?_
  refine ev_902 (k := 0) h4 rfl rfl (by decide) (by decide) (x := 6) rfl ?_
  refine ev_go 4 (pc1 := 18) (lv1 := [.ref 1, .retAddr 2, .long (wsg (wsg 0 112) 101), xmk, .int 2]) (st1 := [.int 2, .retAddr 2, .long (wsg (wsg 0 112) 101)]) (h1 := (124, I, J, R)) rfl ?_
  refine ev_903 (k := 0) h4 rfl rfl (by decide) (by decide) (by decide) (by decide) (x := 114) rfl ?_
  refine ev_call (v1 := (some (.long (wsg (wsg (wsg 0 112) 101) 114)))) (h1 := (124, I, J, R)) rfl rfl c3 ?_
  refine ev_go 5 (pc1 := 8) (lv1 := [.ref 1, .retAddr 2, .long (wsg (wsg (wsg 0 112) 101) 114), xmk, .int 3]) (st1 := [.retAddr 2, .int 3]) (h1 := (124, I, J, R)) rfl ?_
  refine ev_902 (k := 0) h4 rfl rfl (by decide) (by decide) (x := 6) rfl ?_
  refine ev_go 4 (pc1 := 18) (lv1 := [.ref 1, .retAddr 2, .long (wsg (wsg (wsg 0 112) 101) 114), xmk, .int 3]) (st1 := [.int 3, .retAddr 2, .long (wsg (wsg (wsg 0 112) 101) 114)]) (h1 := (124, I, J, R)) rfl ?_
  refine ev_903 (k := 0) h4 rfl rfl (by decide) (by decide) (by decide) (by decide) (x := 115) rfl ?_
  refine ev_call (v1 := (some (.long (wsg (wsg (wsg (wsg 0 112) 101) 114) 115)))) (h1 := (124, I, J, R)) rfl rfl c4 ?_
  refine ev_go 5 (pc1 := 8) (lv1 := [.ref 1, .retAddr 2, .long (wsg (wsg (wsg (wsg 0 112) 101) 114) 115), xmk, .int 4]) (st1 := [.retAddr 2, .int 4]) (h1 := (124, I, J, R)) rfl ?_
  refine ev_902 (k := 0) h4 rfl rfl (by decide) (by decide) (x := 6) rfl ?_
  refine ev_go 4 (pc1 := 18) (lv1 := [.ref 1, .retAddr 2, .long (wsg (wsg (wsg (wsg 0 112) 101) 114) 115), xmk, .int 4]) (st1 := [.int 4, .retAddr 2, .long (wsg (wsg (wsg (wsg 0 112) 101) 114) 115)]) (h1 := (124, I, J, R)) rfl ?_
  refine ev_903 (k := 0) h4 rfl rfl (by decide) (by decide) (by decide) (by decide) (x := 111) rfl ?_
  refine ev_call (v1 := (some (.long (wsg (wsg (wsg (wsg (wsg 0 112) 101) 114) 115) 111)))) (h1 := (124, I, J, R)) rfl rfl c5 ?_
  refine ev_go 5 (pc1 := 8) (lv1 := [.ref 1, .retAddr 2, .long (wsg (wsg (wsg (wsg (wsg 0 112) 101) 114) 115) 111), xmk, .int 5]) (st1 := [.retAddr 2, .int 5]) (h1 := (124, I, J, R)) rfl ?_
  refine ev_902 (k := 0) h4 rfl rfl (by decide) (by decide) (x := 6) rfl ?_
  refine ev_go 4 (pc1 := 18) (lv1 := [.ref 1, .retAddr 2, .long (wsg (wsg (wsg (wsg (wsg 0 112) 101) 114) 115) 111), xmk, .int 5]) (st1 := [.int 5, .retAddr 2, .long (wsg (wsg (wsg (wsg (wsg 0 112) 101) 114) 115) 111)]) (h1 := (124, I, J, R)) rfl ?_
  refine ev_903 (k := 0) h4 rfl rfl (by decide) (by decide) (by decide) (by decide) (x := 110) rfl ?_
  refine ev_call (v1 := (some (.long (wsg (wsg (wsg (wsg (wsg (wsg 0 112) 101) 114) 115) 111) 110)))) (h1 := (124, I, J, R)) rfl rfl c6 ?_
  refine ev_go 5 (pc1 := 8) (lv1 := [.ref 1, .retAddr 2, .long (wsg (wsg (wsg (wsg (wsg (wsg 0 112) 101) 114) 115) 111) 110), xmk, .int 6]) (st1 := [.retAddr 2, .int 6]) (h1 := (124, I, J, R)) rfl ?_
  refine ev_902 (k := 0) h4 rfl rfl (by decide) (by decide) (x := 6) rfl ?_
  refine ev_go 4 (pc1 := 36) (lv1 := [.ref 1, .retAddr 2, .long (wsg (wsg (wsg (wsg (wsg (wsg 0 112) 101) 114) 115) 111) 110), xmk, .int 6]) (st1 := [.int 1, .int (I 1 3)]) (h1 := (124, I, J, R)) rfl ?_
  refine ev_br (b1 := true) rfl rfl (xcd_ne (x := (I 1 3)) (y := 1) (by rw [show ((1 : Int32)).toInt = 1 from by decide]; first | exact b1 | omega)) ?_
  refine ev_go 1 (pc1 := 53) (lv1 := [.ref 1, .retAddr 2, .long (wsg (wsg (wsg (wsg (wsg (wsg 0 112) 101) 114) 115) 111) 110), xmk, .int 6]) (st1 := [.int 0]) (h1 := (124, I, J, R)) rfl ?_
  exact ev_ret rfl rfl
set_option maxRecDepth 20000 in
theorem iw_1_0 {L : Nat} {xs : Nat → Int32} {d : Nat} {I : Nat → Nat → Int32} {J : Nat → Nat → Int64} {R : Nat → Nat → Nat} (hG : aGd R) (h4 : 4 ≤ d + 1) (c1 : xEv L xs d 24 0 [.long 0, xmk, .int 112] [] (124, I, J, R) (some (.long (wsg 0 112))) (124, I, J, R)) (c2 : xEv L xs d 24 0 [.long (wsg 0 112), xmk, .int 101] [] (124, I, J, R) (some (.long (wsg (wsg 0 112) 101))) (124, I, J, R)) (c3 : xEv L xs d 24 0 [.long (wsg (wsg 0 112) 101), xmk, .int 114] [] (124, I, J, R) (some (.long (wsg (wsg (wsg 0 112) 101) 114))) (124, I, J, R)) (c4 : xEv L xs d 24 0 [.long (wsg (wsg (wsg 0 112) 101) 114), xmk, .int 115] [] (124, I, J, R) (some (.long (wsg (wsg (wsg (wsg 0 112) 101) 114) 115))) (124, I, J, R)) (c5 : xEv L xs d 24 0 [.long (wsg (wsg (wsg (wsg 0 112) 101) 114) 115), xmk, .int 111] [] (124, I, J, R) (some (.long (wsg (wsg (wsg (wsg (wsg 0 112) 101) 114) 115) 111))) (124, I, J, R)) (c6 : xEv L xs d 24 0 [.long (wsg (wsg (wsg (wsg (wsg 0 112) 101) 114) 115) 111), xmk, .int 110] [] (124, I, J, R) (some (.long (wsg (wsg (wsg (wsg (wsg (wsg 0 112) 101) 114) 115) 111) 110))) (124, I, J, R)) (b1 : (I 1 3).toInt = 1) (b2 : (lg_cmp (J 1 5) (wsg (wsg (wsg (wsg (wsg (wsg 0 112) 101) 114) 115) 111) 110)).toInt ≠ 0) : xEv L xs (d + 1) 25 0 [.ref 1, .retAddr 2, xmk, xmk, xmk] [] (124, I, J, R) (some (.int 0)) (124, I, J, R) := by
  refine ev_go 6 (pc1 := 8) (lv1 := [.ref 1, .retAddr 2, .long 0, xmk, .int 0]) (st1 := [.retAddr 2, .int 0]) (h1 := (124, I, J, R)) rfl ?_
  refine ev_902 (k := 0) h4 rfl rfl (by decide) (by decide) (x := 6) rfl ?_
  refine ev_go 4 (pc1 := 18) (lv1 := [.ref 1, .retAddr 2, .long 0, xmk, .int 0]) (st1 := [.int 0, .retAddr 2, .long 0]) (h1 := (124, I, J, R)) rfl ?_
  refine ev_903 (k := 0) h4 rfl rfl (by decide) (by decide) (by decide) (by decide) (x := 112) rfl ?_
  refine ev_call (v1 := (some (.long (wsg 0 112)))) (h1 := (124, I, J, R)) rfl rfl c1 ?_
  refine ev_go 5 (pc1 := 8) (lv1 := [.ref 1, .retAddr 2, .long (wsg 0 112), xmk, .int 1]) (st1 := [.retAddr 2, .int 1]) (h1 := (124, I, J, R)) rfl ?_
  refine ev_902 (k := 0) h4 rfl rfl (by decide) (by decide) (x := 6) rfl ?_
  refine ev_go 4 (pc1 := 18) (lv1 := [.ref 1, .retAddr 2, .long (wsg 0 112), xmk, .int 1]) (st1 := [.int 1, .retAddr 2, .long (wsg 0 112)]) (h1 := (124, I, J, R)) rfl ?_
  refine ev_903 (k := 0) h4 rfl rfl (by decide) (by decide) (by decide) (by decide) (x := 101) rfl ?_
  refine ev_call (v1 := (some (.long (wsg (wsg 0 112) 101)))) (h1 := (124, I, J, R)) rfl rfl c2 ?_
  refine ev_go 5 (pc1 := 8) (lv1 := [.ref 1, .retAddr 2, .long (wsg (wsg 0 112) 101), xmk, .int 2]) (st1 := [.retAddr 2, .int 2]) (h1 := (124, I, J, R)) rfl ?_
  refine ev_902 (k := 0) h4 rfl rfl (by decide) (by decide) (x := 6) rfl ?_
  refine ev_go 4 (pc1 := 18) (lv1 := [.ref 1, .retAddr 2, .long (wsg (wsg 0 112) 101), xmk, .int 2]) (st1 := [.int 2, .retAddr 2, .long (wsg (wsg 0 112) 101)]) (h1 := (124, I, J, R)) rfl ?_
  refine ev_903 (k := 0) h4 rfl rfl (by decide) (by decide) (by decide) (by decide) (x := 114) rfl ?_
  refine ev_call (v1 := (some (.long (wsg (wsg (wsg 0 112) 101) 114)))) (h1 := (124, I, J, R)) rfl rfl c3 ?_
  refine ev_go 5 (pc1 := 8) (lv1 := [.ref 1, .retAddr 2, .long (wsg (wsg (wsg 0 112) 101) 114), xmk, .int 3]) (st1 := [.retAddr 2, .int 3]) (h1 := (124, I, J, R)) rfl ?_
  refine ev_902 (k := 0) h4 rfl rfl (by decide) (by decide) (x := 6) rfl ?_
  refine ev_go 4 (pc1 := 18) (lv1 := [.ref 1, .retAddr 2, .long (wsg (wsg (wsg 0 112) 101) 114), xmk, .int 3]) (st1 := [.int 3, .retAddr 2, .long (wsg (wsg (wsg 0 112) 101) 114)]) (h1 := (124, I, J, R)) rfl ?_
  refine ev_903 (k := 0) h4 rfl rfl (by decide) (by decide) (by decide) (by decide) (x := 115) rfl ?_
  refine ev_call (v1 := (some (.long (wsg (wsg (wsg (wsg 0 112) 101) 114) 115)))) (h1 := (124, I, J, R)) rfl rfl c4 ?_
  refine ev_go 5 (pc1 := 8) (lv1 := [.ref 1, .retAddr 2, .long (wsg (wsg (wsg (wsg 0 112) 101) 114) 115), xmk, .int 4]) (st1 := [.retAddr 2, .int 4]) (h1 := (124, I, J, R)) rfl ?_
  refine ev_902 (k := 0) h4 rfl rfl (by decide) (by decide) (x := 6) rfl ?_
  refine ev_go 4 (pc1 := 18) (lv1 := [.ref 1, .retAddr 2, .long (wsg (wsg (wsg (wsg 0 112) 101) 114) 115), xmk, .int 4]) (st1 := [.int 4, .retAddr 2, .long (wsg (wsg (wsg (wsg 0 112) 101) 114) 115)]) (h1 := (124, I, J, R)) rfl ?_
  refine ev_903 (k := 0) h4 rfl rfl (by decide) (by decide) (by decide) (by decide) (x := 111) rfl ?_
  refine ev_call (v1 := (some (.long (wsg (wsg (wsg (wsg (wsg 0 112) 101) 114) 115) 111)))) (h1 := (124, I, J, R)) rfl rfl c5 ?_
  refine ev_go 5 (pc1 := 8) (lv1 := [.ref 1, .retAddr 2, .long (wsg (wsg (wsg (wsg (wsg 0 112) 101) 114) 115) 111), xmk, .int 5]) (st1 := [.retAddr 2, .int 5]) (h1 := (124, I, J, R)) rfl ?_
  refine ev_902 (k := 0) h4 rfl rfl (by decide) (by decide) (x := 6) rfl ?_
  refine ev_go 4 (pc1 := 18) (lv1 := [.ref 1, .retAddr 2, .long (wsg (wsg (wsg (wsg (wsg 0 112) 101) 114) 115) 111), xmk, .int 5]) (st1 := [.int 5, .retAddr 2, .long (wsg (wsg (wsg (wsg (wsg 0 112) 101) 114) 115) 111)]) (h1 := (124, I, J, R)) rfl ?_
  refine ev_903 (k := 0) h4 rfl rfl (by decide) (by decide) (by decide) (by decide) (x := 110) rfl ?_
  refine ev_call (v1 := (some (.long (wsg (wsg (wsg (wsg (wsg (wsg 0 112) 101) 114) 115) 111) 110)))) (h1 := (124, I, J, R)) rfl rfl c6 ?_
  refine ev_go 5 (pc1 := 8) (lv1 := [.ref 1, .retAddr 2, .long (wsg (wsg (wsg (wsg (wsg (wsg 0 112) 101) 114) 115) 111) 110), xmk, .int 6]) (st1 := [.retAddr 2, .int 6]) (h1 := (124, I, J, R)) rfl ?_
  refine ev_902 (k := 0) h4 rfl rfl (by decide) (by decide) (x := 6) rfl ?_
  refine ev_go 4 (pc1 := 36) (lv1 := [.ref 1, .retAddr 2, .long (wsg (wsg (wsg (wsg (wsg (wsg 0 112) 101) 114) 115) 111) 110), xmk, .int 6]) (st1 := [.int 1, .int (I 1 3)]) (h1 := (124, I, J, R)) rfl ?_
  refine ev_br (b1 := false) rfl rfl (xcd_nne (x := (I 1 3)) (y := 1) (by rw [show ((1 : Int32)).toInt = 1 from by decide]; first | exact b1 | omega)) ?_
  refine ev_go 4 (pc1 := 45) (lv1 := [.ref 1, .retAddr 2, .long (wsg (wsg (wsg (wsg (wsg (wsg 0 112) 101) 114) 115) 111) 110), xmk, .int 6]) (st1 := [.int (lg_cmp (J 1 5) (wsg (wsg (wsg (wsg (wsg (wsg 0 112) 101) 114) 115) 111) 110))]) (h1 := (124, I, J, R)) rfl ?_
  refine ev_br (b1 := true) rfl rfl (xcd_ne (x := (lg_cmp (J 1 5) (wsg (wsg (wsg (wsg (wsg (wsg 0 112) 101) 114) 115) 111) 110))) (y := 0) (by rw [show ((0 : Int32)).toInt = 0 from by decide]; first | exact b2 | omega)) ?_
  refine ev_go 1 (pc1 := 53) (lv1 := [.ref 1, .retAddr 2, .long (wsg (wsg (wsg (wsg (wsg (wsg 0 112) 101) 114) 115) 111) 110), xmk, .int 6]) (st1 := [.int 0]) (h1 := (124, I, J, R)) rfl ?_
  exact ev_ret rfl rfl
set_option maxRecDepth 20000 in
theorem iw_2_0 {L : Nat} {xs : Nat → Int32} {d : Nat} {I : Nat → Nat → Int32} {J : Nat → Nat → Int64} {R : Nat → Nat → Nat} (hG : aGd R) (h4 : 4 ≤ d + 1) (c1 : xEv L xs d 24 0 [.long 0, xmk, .int 112] [] (124, I, J, R) (some (.long (wsg 0 112))) (124, I, J, R)) (c2 : xEv L xs d 24 0 [.long (wsg 0 112), xmk, .int 101] [] (124, I, J, R) (some (.long (wsg (wsg 0 112) 101))) (124, I, J, R)) (c3 : xEv L xs d 24 0 [.long (wsg (wsg 0 112) 101), xmk, .int 114] [] (124, I, J, R) (some (.long (wsg (wsg (wsg 0 112) 101) 114))) (124, I, J, R)) (c4 : xEv L xs d 24 0 [.long (wsg (wsg (wsg 0 112) 101) 114), xmk, .int 115] [] (124, I, J, R) (some (.long (wsg (wsg (wsg (wsg 0 112) 101) 114) 115))) (124, I, J, R)) (c5 : xEv L xs d 24 0 [.long (wsg (wsg (wsg (wsg 0 112) 101) 114) 115), xmk, .int 111] [] (124, I, J, R) (some (.long (wsg (wsg (wsg (wsg (wsg 0 112) 101) 114) 115) 111))) (124, I, J, R)) (c6 : xEv L xs d 24 0 [.long (wsg (wsg (wsg (wsg (wsg 0 112) 101) 114) 115) 111), xmk, .int 110] [] (124, I, J, R) (some (.long (wsg (wsg (wsg (wsg (wsg (wsg 0 112) 101) 114) 115) 111) 110))) (124, I, J, R)) (b1 : (I 1 3).toInt = 1) (b2 : (lg_cmp (J 1 5) (wsg (wsg (wsg (wsg (wsg (wsg 0 112) 101) 114) 115) 111) 110)).toInt = 0) : xEv L xs (d + 1) 25 0 [.ref 1, .retAddr 2, xmk, xmk, xmk] [] (124, I, J, R) (some (.int 1)) (124, I, J, R) := by
  refine ev_go 6 (pc1 := 8) (lv1 := [.ref 1, .retAddr 2, .long 0, xmk, .int 0]) (st1 := [.retAddr 2, .int 0]) (h1 := (124, I, J, R)) rfl ?_
  refine ev_902 (k := 0) h4 rfl rfl (by decide) (by decide) (x := 6) rfl ?_
  refine ev_go 4 (pc1 := 18) (lv1 := [.ref 1, .retAddr 2, .long 0, xmk, .int 0]) (st1 := [.int 0, .retAddr 2, .long 0]) (h1 := (124, I, J, R)) rfl ?_
  refine ev_903 (k := 0) h4 rfl rfl (by decide) (by decide) (by decide) (by decide) (x := 112) rfl ?_
  refine ev_call (v1 := (some (.long (wsg 0 112)))) (h1 := (124, I, J, R)) rfl rfl c1 ?_
  refine ev_go 5 (pc1 := 8) (lv1 := [.ref 1, .retAddr 2, .long (wsg 0 112), xmk, .int 1]) (st1 := [.retAddr 2, .int 1]) (h1 := (124, I, J, R)) rfl ?_
  refine ev_902 (k := 0) h4 rfl rfl (by decide) (by decide) (x := 6) rfl ?_
  refine ev_go 4 (pc1 := 18) (lv1 := [.ref 1, .retAddr 2, .long (wsg 0 112), xmk, .int 1]) (st1 := [.int 1, .retAddr 2, .long (wsg 0 112)]) (h1 := (124, I, J, R)) rfl ?_
  refine ev_903 (k := 0) h4 rfl rfl (by decide) (by decide) (by decide) (by decide) (x := 101) rfl ?_
  refine ev_call (v1 := (some (.long (wsg (wsg 0 112) 101)))) (h1 := (124, I, J, R)) rfl rfl c2 ?_
  refine ev_go 5 (pc1 := 8) (lv1 := [.ref 1, .retAddr 2, .long (wsg (wsg 0 112) 101), xmk, .int 2]) (st1 := [.retAddr 2, .int 2]) (h1 := (124, I, J, R)) rfl ?_
  refine ev_902 (k := 0) h4 rfl rfl (by decide) (by decide) (x := 6) rfl ?_
  refine ev_go 4 (pc1 := 18) (lv1 := [.ref 1, .retAddr 2, .long (wsg (wsg 0 112) 101), xmk, .int 2]) (st1 := [.int 2, .retAddr 2, .long (wsg (wsg 0 112) 101)]) (h1 := (124, I, J, R)) rfl ?_
  refine ev_903 (k := 0) h4 rfl rfl (by decide) (by decide) (by decide) (by decide) (x := 114) rfl ?_
  refine ev_call (v1 := (some (.long (wsg (wsg (wsg 0 112) 101) 114)))) (h1 := (124, I, J, R)) rfl rfl c3 ?_
  refine ev_go 5 (pc1 := 8) (lv1 := [.ref 1, .retAddr 2, .long (wsg (wsg (wsg 0 112) 101) 114), xmk, .int 3]) (st1 := [.retAddr 2, .int 3]) (h1 := (124, I, J, R)) rfl ?_
  refine ev_902 (k := 0) h4 rfl rfl (by decide) (by decide) (x := 6) rfl ?_
  refine ev_go 4 (pc1 := 18) (lv1 := [.ref 1, .retAddr 2, .long (wsg (wsg (wsg 0 112) 101) 114), xmk, .int 3]) (st1 := [.int 3, .retAddr 2, .long (wsg (wsg (wsg 0 112) 101) 114)]) (h1 := (124, I, J, R)) rfl ?_
  refine ev_903 (k := 0) h4 rfl rfl (by decide) (by decide) (by decide) (by decide) (x := 115) rfl ?_
  refine ev_call (v1 := (some (.long (wsg (wsg (wsg (wsg 0 112) 101) 114) 115)))) (h1 := (124, I, J, R)) rfl rfl c4 ?_
  refine ev_go 5 (pc1 := 8) (lv1 := [.ref 1, .retAddr 2, .long (wsg (wsg (wsg (wsg 0 112) 101) 114) 115), xmk, .int 4]) (st1 := [.retAddr 2, .int 4]) (h1 := (124, I, J, R)) rfl ?_
  refine ev_902 (k := 0) h4 rfl rfl (by decide) (by decide) (x := 6) rfl ?_
  refine ev_go 4 (pc1 := 18) (lv1 := [.ref 1, .retAddr 2, .long (wsg (wsg (wsg (wsg 0 112) 101) 114) 115), xmk, .int 4]) (st1 := [.int 4, .retAddr 2, .long (wsg (wsg (wsg (wsg 0 112) 101) 114) 115)]) (h1 := (124, I, J, R)) rfl ?_
  refine ev_903 (k := 0) h4 rfl rfl (by decide) (by decide) (by decide) (by decide) (x := 111) rfl ?_
  refine ev_call (v1 := (some (.long (wsg (wsg (wsg (wsg (wsg 0 112) 101) 114) 115) 111)))) (h1 := (124, I, J, R)) rfl rfl c5 ?_
  refine ev_go 5 (pc1 := 8) (lv1 := [.ref 1, .retAddr 2, .long (wsg (wsg (wsg (wsg (wsg 0 112) 101) 114) 115) 111), xmk, .int 5]) (st1 := [.retAddr 2, .int 5]) (h1 := (124, I, J, R)) rfl ?_
  refine ev_902 (k := 0) h4 rfl rfl (by decide) (by decide) (x := 6) rfl ?_
  refine ev_go 4 (pc1 := 18) (lv1 := [.ref 1, .retAddr 2, .long (wsg (wsg (wsg (wsg (wsg 0 112) 101) 114) 115) 111), xmk, .int 5]) (st1 := [.int 5, .retAddr 2, .long (wsg (wsg (wsg (wsg (wsg 0 112) 101) 114) 115) 111)]) (h1 := (124, I, J, R)) rfl ?_
  refine ev_903 (k := 0) h4 rfl rfl (by decide) (by decide) (by decide) (by decide) (x := 110) rfl ?_
  refine ev_call (v1 := (some (.long (wsg (wsg (wsg (wsg (wsg (wsg 0 112) 101) 114) 115) 111) 110)))) (h1 := (124, I, J, R)) rfl rfl c6 ?_
  refine ev_go 5 (pc1 := 8) (lv1 := [.ref 1, .retAddr 2, .long (wsg (wsg (wsg (wsg (wsg (wsg 0 112) 101) 114) 115) 111) 110), xmk, .int 6]) (st1 := [.retAddr 2, .int 6]) (h1 := (124, I, J, R)) rfl ?_
  refine ev_902 (k := 0) h4 rfl rfl (by decide) (by decide) (x := 6) rfl ?_
  refine ev_go 4 (pc1 := 36) (lv1 := [.ref 1, .retAddr 2, .long (wsg (wsg (wsg (wsg (wsg (wsg 0 112) 101) 114) 115) 111) 110), xmk, .int 6]) (st1 := [.int 1, .int (I 1 3)]) (h1 := (124, I, J, R)) rfl ?_
  refine ev_br (b1 := false) rfl rfl (xcd_nne (x := (I 1 3)) (y := 1) (by rw [show ((1 : Int32)).toInt = 1 from by decide]; first | exact b1 | omega)) ?_
  refine ev_go 4 (pc1 := 45) (lv1 := [.ref 1, .retAddr 2, .long (wsg (wsg (wsg (wsg (wsg (wsg 0 112) 101) 114) 115) 111) 110), xmk, .int 6]) (st1 := [.int (lg_cmp (J 1 5) (wsg (wsg (wsg (wsg (wsg (wsg 0 112) 101) 114) 115) 111) 110))]) (h1 := (124, I, J, R)) rfl ?_
  refine ev_br (b1 := false) rfl rfl (xcd_nne (x := (lg_cmp (J 1 5) (wsg (wsg (wsg (wsg (wsg (wsg 0 112) 101) 114) 115) 111) 110))) (y := 0) (by rw [show ((0 : Int32)).toInt = 0 from by decide]; first | exact b2 | omega)) ?_
  refine ev_go 2 (pc1 := 53) (lv1 := [.ref 1, .retAddr 2, .long (wsg (wsg (wsg (wsg (wsg (wsg 0 112) 101) 114) 115) 111) 110), xmk, .int 6]) (st1 := [.int 1]) (h1 := (124, I, J, R)) rfl ?_
  exact ev_ret rfl rfl
theorem iw_c0 : (wsg (wsg (wsg (wsg (wsg (wsg 0 112) 101) 114) 115) 111) 110) = vF (kb 0) 0 (kwl 0) := by decide +kernel
theorem iw_run_0 {L : Nat} {xs : Nat → Int32} {d : Nat} {I : Nat → Nat → Int32} {J : Nat → Nat → Int64} {R : Nat → Nat → Nat} (hG : aGd R) (h4 : 4 ≤ d + 1) : ((I 1 3).toInt = 1 ∧ J 1 5 = vF (kb 0) 0 (kwl 0) ∧ xEv L xs (d + 1) 25 0 [.ref 1, .retAddr 2, xmk, xmk, xmk] [] (124, I, J, R) (some (.int 1)) (124, I, J, R)) ∨ (¬ ((I 1 3).toInt = 1 ∧ J 1 5 = vF (kb 0) 0 (kwl 0)) ∧ xEv L xs (d + 1) 25 0 [.ref 1, .retAddr 2, xmk, xmk, xmk] [] (124, I, J, R) (some (.int 0)) (124, I, J, R)) := by
  rw [← iw_c0]
  by_cases h1 : (I 1 3).toInt = 1
  · by_cases h2 : J 1 5 = (wsg (wsg (wsg (wsg (wsg (wsg 0 112) 101) 114) 115) 111) 110)
    · exact Or.inl ⟨h1, h2, iw_2_0 hG h4 (wx_run hG _ _) (wx_run hG _ _) (wx_run hG _ _) (wx_run hG _ _) (wx_run hG _ _) (wx_run hG _ _) h1 (by rw [h2]; unfold lg_cmp; rw [if_neg (by intro z; have := Int64.lt_iff_toInt_lt.mp z; omega), if_pos rfl]; rfl)⟩
    · refine Or.inr ⟨fun z => h2 z.2, iw_1_0 hG h4 (wx_run hG _ _) (wx_run hG _ _) (wx_run hG _ _) (wx_run hG _ _) (wx_run hG _ _) (wx_run hG _ _) h1 ?_⟩
      unfold lg_cmp
      by_cases g : J 1 5 > (wsg (wsg (wsg (wsg (wsg (wsg 0 112) 101) 114) 115) 111) 110)
      · rw [if_pos g]; decide
      · rw [if_neg g, if_neg h2]; decide
  · exact Or.inr ⟨fun z => h1 z.1, iw_0_0 hG h4 (wx_run hG _ _) (wx_run hG _ _) (wx_run hG _ _) (wx_run hG _ _) (wx_run hG _ _) (wx_run hG _ _) h1⟩
set_option maxRecDepth 20000 in
theorem iw_0_1 {L : Nat} {xs : Nat → Int32} {d : Nat} {I : Nat → Nat → Int32} {J : Nat → Nat → Int64} {R : Nat → Nat → Nat} (hG : aGd R) (h4 : 4 ≤ d + 1) (c1 : xEv L xs d 24 0 [.long 0, xmk, .int 109] [] (124, I, J, R) (some (.long (wsg 0 109))) (124, I, J, R)) (c2 : xEv L xs d 24 0 [.long (wsg 0 109), xmk, .int 101] [] (124, I, J, R) (some (.long (wsg (wsg 0 109) 101))) (124, I, J, R)) (c3 : xEv L xs d 24 0 [.long (wsg (wsg 0 109) 101), xmk, .int 101] [] (124, I, J, R) (some (.long (wsg (wsg (wsg 0 109) 101) 101))) (124, I, J, R)) (c4 : xEv L xs d 24 0 [.long (wsg (wsg (wsg 0 109) 101) 101), xmk, .int 116] [] (124, I, J, R) (some (.long (wsg (wsg (wsg (wsg 0 109) 101) 101) 116))) (124, I, J, R)) (b1 : (I 1 3).toInt ≠ 1) : xEv L xs (d + 1) 25 0 [.ref 1, .retAddr 4, xmk, xmk, xmk] [] (124, I, J, R) (some (.int 0)) (124, I, J, R) := by
  refine ev_go 6 (pc1 := 8) (lv1 := [.ref 1, .retAddr 4, .long 0, xmk, .int 0]) (st1 := [.retAddr 4, .int 0]) (h1 := (124, I, J, R)) rfl ?_
  refine ev_902 (k := 2) h4 rfl rfl (by decide) (by decide) (x := 4) rfl ?_
  refine ev_go 4 (pc1 := 18) (lv1 := [.ref 1, .retAddr 4, .long 0, xmk, .int 0]) (st1 := [.int 0, .retAddr 4, .long 0]) (h1 := (124, I, J, R)) rfl ?_
  refine ev_903 (k := 2) h4 rfl rfl (by decide) (by decide) (by decide) (by decide) (x := 109) rfl ?_
  refine ev_call (v1 := (some (.long (wsg 0 109)))) (h1 := (124, I, J, R)) rfl rfl c1 ?_
  refine ev_go 5 (pc1 := 8) (lv1 := [.ref 1, .retAddr 4, .long (wsg 0 109), xmk, .int 1]) (st1 := [.retAddr 4, .int 1]) (h1 := (124, I, J, R)) rfl ?_
  refine ev_902 (k := 2) h4 rfl rfl (by decide) (by decide) (x := 4) rfl ?_
  refine ev_go 4 (pc1 := 18) (lv1 := [.ref 1, .retAddr 4, .long (wsg 0 109), xmk, .int 1]) (st1 := [.int 1, .retAddr 4, .long (wsg 0 109)]) (h1 := (124, I, J, R)) rfl ?_
  refine ev_903 (k := 2) h4 rfl rfl (by decide) (by decide) (by decide) (by decide) (x := 101) rfl ?_
  refine ev_call (v1 := (some (.long (wsg (wsg 0 109) 101)))) (h1 := (124, I, J, R)) rfl rfl c2 ?_
  refine ev_go 5 (pc1 := 8) (lv1 := [.ref 1, .retAddr 4, .long (wsg (wsg 0 109) 101), xmk, .int 2]) (st1 := [.retAddr 4, .int 2]) (h1 := (124, I, J, R)) rfl ?_
  refine ev_902 (k := 2) h4 rfl rfl (by decide) (by decide) (x := 4) rfl ?_
  refine ev_go 4 (pc1 := 18) (lv1 := [.ref 1, .retAddr 4, .long (wsg (wsg 0 109) 101), xmk, .int 2]) (st1 := [.int 2, .retAddr 4, .long (wsg (wsg 0 109) 101)]) (h1 := (124, I, J, R)) rfl ?_
  refine ev_903 (k := 2) h4 rfl rfl (by decide) (by decide) (by decide) (by decide) (x := 101) rfl ?_
  refine ev_call (v1 := (some (.long (wsg (wsg (wsg 0 109) 101) 101)))) (h1 := (124, I, J, R)) rfl rfl c3 ?_
  refine ev_go 5 (pc1 := 8) (lv1 := [.ref 1, .retAddr 4, .long (wsg (wsg (wsg 0 109) 101) 101), xmk, .int 3]) (st1 := [.retAddr 4, .int 3]) (h1 := (124, I, J, R)) rfl ?_
  refine ev_902 (k := 2) h4 rfl rfl (by decide) (by decide) (x := 4) rfl ?_
  refine ev_go 4 (pc1 := 18) (lv1 := [.ref 1, .retAddr 4, .long (wsg (wsg (wsg 0 109) 101) 101), xmk, .int 3]) (st1 := [.int 3, .retAddr 4, .long (wsg (wsg (wsg 0 109) 101) 101)]) (h1 := (124, I, J, R)) rfl ?_
  refine ev_903 (k := 2) h4 rfl rfl (by decide) (by decide) (by decide) (by decide) (x := 116) rfl ?_
  refine ev_call (v1 := (some (.long (wsg (wsg (wsg (wsg 0 109) 101) 101) 116)))) (h1 := (124, I, J, R)) rfl rfl c4 ?_
  refine ev_go 5 (pc1 := 8) (lv1 := [.ref 1, .retAddr 4, .long (wsg (wsg (wsg (wsg 0 109) 101) 101) 116), xmk, .int 4]) (st1 := [.retAddr 4, .int 4]) (h1 := (124, I, J, R)) rfl ?_
  refine ev_902 (k := 2) h4 rfl rfl (by decide) (by decide) (x := 4) rfl ?_
  refine ev_go 4 (pc1 := 36) (lv1 := [.ref 1, .retAddr 4, .long (wsg (wsg (wsg (wsg 0 109) 101) 101) 116), xmk, .int 4]) (st1 := [.int 1, .int (I 1 3)]) (h1 := (124, I, J, R)) rfl ?_
  refine ev_br (b1 := true) rfl rfl (xcd_ne (x := (I 1 3)) (y := 1) (by rw [show ((1 : Int32)).toInt = 1 from by decide]; first | exact b1 | omega)) ?_
  refine ev_go 1 (pc1 := 53) (lv1 := [.ref 1, .retAddr 4, .long (wsg (wsg (wsg (wsg 0 109) 101) 101) 116), xmk, .int 4]) (st1 := [.int 0]) (h1 := (124, I, J, R)) rfl ?_
  exact ev_ret rfl rfl
set_option maxRecDepth 20000 in
theorem iw_1_1 {L : Nat} {xs : Nat → Int32} {d : Nat} {I : Nat → Nat → Int32} {J : Nat → Nat → Int64} {R : Nat → Nat → Nat} (hG : aGd R) (h4 : 4 ≤ d + 1) (c1 : xEv L xs d 24 0 [.long 0, xmk, .int 109] [] (124, I, J, R) (some (.long (wsg 0 109))) (124, I, J, R)) (c2 : xEv L xs d 24 0 [.long (wsg 0 109), xmk, .int 101] [] (124, I, J, R) (some (.long (wsg (wsg 0 109) 101))) (124, I, J, R)) (c3 : xEv L xs d 24 0 [.long (wsg (wsg 0 109) 101), xmk, .int 101] [] (124, I, J, R) (some (.long (wsg (wsg (wsg 0 109) 101) 101))) (124, I, J, R)) (c4 : xEv L xs d 24 0 [.long (wsg (wsg (wsg 0 109) 101) 101), xmk, .int 116] [] (124, I, J, R) (some (.long (wsg (wsg (wsg (wsg 0 109) 101) 101) 116))) (124, I, J, R)) (b1 : (I 1 3).toInt = 1) (b2 : (lg_cmp (J 1 5) (wsg (wsg (wsg (wsg 0 109) 101) 101) 116)).toInt ≠ 0) : xEv L xs (d + 1) 25 0 [.ref 1, .retAddr 4, xmk, xmk, xmk] [] (124, I, J, R) (some (.int 0)) (124, I, J, R) := by
  refine ev_go 6 (pc1 := 8) (lv1 := [.ref 1, .retAddr 4, .long 0, xmk, .int 0]) (st1 := [.retAddr 4, .int 0]) (h1 := (124, I, J, R)) rfl ?_
  refine ev_902 (k := 2) h4 rfl rfl (by decide) (by decide) (x := 4) rfl ?_
  refine ev_go 4 (pc1 := 18) (lv1 := [.ref 1, .retAddr 4, .long 0, xmk, .int 0]) (st1 := [.int 0, .retAddr 4, .long 0]) (h1 := (124, I, J, R)) rfl ?_
  refine ev_903 (k := 2) h4 rfl rfl (by decide) (by decide) (by decide) (by decide) (x := 109) rfl ?_
  refine ev_call (v1 := (some (.long (wsg 0 109)))) (h1 := (124, I, J, R)) rfl rfl c1 ?_
  refine ev_go 5 (pc1 := 8) (lv1 := [.ref 1, .retAddr 4, .long (wsg 0 109), xmk, .int 1]) (st1 := [.retAddr 4, .int 1]) (h1 := (124, I, J, R)) rfl ?_
  refine ev_902 (k := 2) h4 rfl rfl (by decide) (by decide) (x := 4) rfl ?_
  refine ev_go 4 (pc1 := 18) (lv1 := [.ref 1, .retAddr 4, .long (wsg 0 109), xmk, .int 1]) (st1 := [.int 1, .retAddr 4, .long (wsg 0 109)]) (h1 := (124, I, J, R)) rfl ?_
  refine ev_903 (k := 2) h4 rfl rfl (by decide) (by decide) (by decide) (by decide) (x := 101) rfl ?_
  refine ev_call (v1 := (some (.long (wsg (wsg 0 109) 101)))) (h1 := (124, I, J, R)) rfl rfl c2 ?_
  refine ev_go 5 (pc1 := 8) (lv1 := [.ref 1, .retAddr 4, .long (wsg (wsg 0 109) 101), xmk, .int 2]) (st1 := [.retAddr 4, .int 2]) (h1 := (124, I, J, R)) rfl ?_
  refine ev_902 (k := 2) h4 rfl rfl (by decide) (by decide) (x := 4) rfl ?_
  refine ev_go 4 (pc1 := 18) (lv1 := [.ref 1, .retAddr 4, .long (wsg (wsg 0 109) 101), xmk, .int 2]) (st1 := [.int 2, .retAddr 4, .long (wsg (wsg 0 109) 101)]) (h1 := (124, I, J, R)) rfl ?_
  refine ev_903 (k := 2) h4 rfl rfl (by decide) (by decide) (by decide) (by decide) (x := 101) rfl ?_
  refine ev_call (v1 := (some (.long (wsg (wsg (wsg 0 109) 101) 101)))) (h1 := (124, I, J, R)) rfl rfl c3 ?_
  refine ev_go 5 (pc1 := 8) (lv1 := [.ref 1, .retAddr 4, .long (wsg (wsg (wsg 0 109) 101) 101), xmk, .int 3]) (st1 := [.retAddr 4, .int 3]) (h1 := (124, I, J, R)) rfl ?_
  refine ev_902 (k := 2) h4 rfl rfl (by decide) (by decide) (x := 4) rfl ?_
  refine ev_go 4 (pc1 := 18) (lv1 := [.ref 1, .retAddr 4, .long (wsg (wsg (wsg 0 109) 101) 101), xmk, .int 3]) (st1 := [.int 3, .retAddr 4, .long (wsg (wsg (wsg 0 109) 101) 101)]) (h1 := (124, I, J, R)) rfl ?_
  refine ev_903 (k := 2) h4 rfl rfl (by decide) (by decide) (by decide) (by decide) (x := 116) rfl ?_
  refine ev_call (v1 := (some (.long (wsg (wsg (wsg (wsg 0 109) 101) 101) 116)))) (h1 := (124, I, J, R)) rfl rfl c4 ?_
  refine ev_go 5 (pc1 := 8) (lv1 := [.ref 1, .retAddr 4, .long (wsg (wsg (wsg (wsg 0 109) 101) 101) 116), xmk, .int 4]) (st1 := [.retAddr 4, .int 4]) (h1 := (124, I, J, R)) rfl ?_
  refine ev_902 (k := 2) h4 rfl rfl (by decide) (by decide) (x := 4) rfl ?_
  refine ev_go 4 (pc1 := 36) (lv1 := [.ref 1, .retAddr 4, .long (wsg (wsg (wsg (wsg 0 109) 101) 101) 116), xmk, .int 4]) (st1 := [.int 1, .int (I 1 3)]) (h1 := (124, I, J, R)) rfl ?_
  refine ev_br (b1 := false) rfl rfl (xcd_nne (x := (I 1 3)) (y := 1) (by rw [show ((1 : Int32)).toInt = 1 from by decide]; first | exact b1 | omega)) ?_
  refine ev_go 4 (pc1 := 45) (lv1 := [.ref 1, .retAddr 4, .long (wsg (wsg (wsg (wsg 0 109) 101) 101) 116), xmk, .int 4]) (st1 := [.int (lg_cmp (J 1 5) (wsg (wsg (wsg (wsg 0 109) 101) 101) 116))]) (h1 := (124, I, J, R)) rfl ?_
  refine ev_br (b1 := true) rfl rfl (xcd_ne (x := (lg_cmp (J 1 5) (wsg (wsg (wsg (wsg 0 109) 101) 101) 116))) (y := 0) (by rw [show ((0 : Int32)).toInt = 0 from by decide]; first | exact b2 | omega)) ?_
  refine ev_go 1 (pc1 := 53) (lv1 := [.ref 1, .retAddr 4, .long (wsg (wsg (wsg (wsg 0 109) 101) 101) 116), xmk, .int 4]) (st1 := [.int 0]) (h1 := (124, I, J, R)) rfl ?_
  exact ev_ret rfl rfl
set_option maxRecDepth 20000 in
theorem iw_2_1 {L : Nat} {xs : Nat → Int32} {d : Nat} {I : Nat → Nat → Int32} {J : Nat → Nat → Int64} {R : Nat → Nat → Nat} (hG : aGd R) (h4 : 4 ≤ d + 1) (c1 : xEv L xs d 24 0 [.long 0, xmk, .int 109] [] (124, I, J, R) (some (.long (wsg 0 109))) (124, I, J, R)) (c2 : xEv L xs d 24 0 [.long (wsg 0 109), xmk, .int 101] [] (124, I, J, R) (some (.long (wsg (wsg 0 109) 101))) (124, I, J, R)) (c3 : xEv L xs d 24 0 [.long (wsg (wsg 0 109) 101), xmk, .int 101] [] (124, I, J, R) (some (.long (wsg (wsg (wsg 0 109) 101) 101))) (124, I, J, R)) (c4 : xEv L xs d 24 0 [.long (wsg (wsg (wsg 0 109) 101) 101), xmk, .int 116] [] (124, I, J, R) (some (.long (wsg (wsg (wsg (wsg 0 109) 101) 101) 116))) (124, I, J, R)) (b1 : (I 1 3).toInt = 1) (b2 : (lg_cmp (J 1 5) (wsg (wsg (wsg (wsg 0 109) 101) 101) 116)).toInt = 0) : xEv L xs (d + 1) 25 0 [.ref 1, .retAddr 4, xmk, xmk, xmk] [] (124, I, J, R) (some (.int 1)) (124, I, J, R) := by
  refine ev_go 6 (pc1 := 8) (lv1 := [.ref 1, .retAddr 4, .long 0, xmk, .int 0]) (st1 := [.retAddr 4, .int 0]) (h1 := (124, I, J, R)) rfl ?_
  refine ev_902 (k := 2) h4 rfl rfl (by decide) (by decide) (x := 4) rfl ?_
  refine ev_go 4 (pc1 := 18) (lv1 := [.ref 1, .retAddr 4, .long 0, xmk, .int 0]) (st1 := [.int 0, .retAddr 4, .long 0]) (h1 := (124, I, J, R)) rfl ?_
  refine ev_903 (k := 2) h4 rfl rfl (by decide) (by decide) (by decide) (by decide) (x := 109) rfl ?_
  refine ev_call (v1 := (some (.long (wsg 0 109)))) (h1 := (124, I, J, R)) rfl rfl c1 ?_
  refine ev_go 5 (pc1 := 8) (lv1 := [.ref 1, .retAddr 4, .long (wsg 0 109), xmk, .int 1]) (st1 := [.retAddr 4, .int 1]) (h1 := (124, I, J, R)) rfl ?_
  refine ev_902 (k := 2) h4 rfl rfl (by decide) (by decide) (x := 4) rfl ?_
  refine ev_go 4 (pc1 := 18) (lv1 := [.ref 1, .retAddr 4, .long (wsg 0 109), xmk, .int 1]) (st1 := [.int 1, .retAddr 4, .long (wsg 0 109)]) (h1 := (124, I, J, R)) rfl ?_
  refine ev_903 (k := 2) h4 rfl rfl (by decide) (by decide) (by decide) (by decide) (x := 101) rfl ?_
  refine ev_call (v1 := (some (.long (wsg (wsg 0 109) 101)))) (h1 := (124, I, J, R)) rfl rfl c2 ?_
  refine ev_go 5 (pc1 := 8) (lv1 := [.ref 1, .retAddr 4, .long (wsg (wsg 0 109) 101), xmk, .int 2]) (st1 := [.retAddr 4, .int 2]) (h1 := (124, I, J, R)) rfl ?_
  refine ev_902 (k := 2) h4 rfl rfl (by decide) (by decide) (x := 4) rfl ?_
  refine ev_go 4 (pc1 := 18) (lv1 := [.ref 1, .retAddr 4, .long (wsg (wsg 0 109) 101), xmk, .int 2]) (st1 := [.int 2, .retAddr 4, .long (wsg (wsg 0 109) 101)]) (h1 := (124, I, J, R)) rfl ?_
  refine ev_903 (k := 2) h4 rfl rfl (by decide) (by decide) (by decide) (by decide) (x := 101) rfl ?_
  refine ev_call (v1 := (some (.long (wsg (wsg (wsg 0 109) 101) 101)))) (h1 := (124, I, J, R)) rfl rfl c3 ?_
  refine ev_go 5 (pc1 := 8) (lv1 := [.ref 1, .retAddr 4, .long (wsg (wsg (wsg 0 109) 101) 101), xmk, .int 3]) (st1 := [.retAddr 4, .int 3]) (h1 := (124, I, J, R)) rfl ?_
  refine ev_902 (k := 2) h4 rfl rfl (by decide) (by decide) (x := 4) rfl ?_
  refine ev_go 4 (pc1 := 18) (lv1 := [.ref 1, .retAddr 4, .long (wsg (wsg (wsg 0 109) 101) 101), xmk, .int 3]) (st1 := [.int 3, .retAddr 4, .long (wsg (wsg (wsg 0 109) 101) 101)]) (h1 := (124, I, J, R)) rfl ?_
  refine ev_903 (k := 2) h4 rfl rfl (by decide) (by decide) (by decide) (by decide) (x := 116) rfl ?_
  refine ev_call (v1 := (some (.long (wsg (wsg (wsg (wsg 0 109) 101) 101) 116)))) (h1 := (124, I, J, R)) rfl rfl c4 ?_
  refine ev_go 5 (pc1 := 8) (lv1 := [.ref 1, .retAddr 4, .long (wsg (wsg (wsg (wsg 0 109) 101) 101) 116), xmk, .int 4]) (st1 := [.retAddr 4, .int 4]) (h1 := (124, I, J, R)) rfl ?_
  refine ev_902 (k := 2) h4 rfl rfl (by decide) (by decide) (x := 4) rfl ?_
  refine ev_go 4 (pc1 := 36) (lv1 := [.ref 1, .retAddr 4, .long (wsg (wsg (wsg (wsg 0 109) 101) 101) 116), xmk, .int 4]) (st1 := [.int 1, .int (I 1 3)]) (h1 := (124, I, J, R)) rfl ?_
  refine ev_br (b1 := false) rfl rfl (xcd_nne (x := (I 1 3)) (y := 1) (by rw [show ((1 : Int32)).toInt = 1 from by decide]; first | exact b1 | omega)) ?_
  refine ev_go 4 (pc1 := 45) (lv1 := [.ref 1, .retAddr 4, .long (wsg (wsg (wsg (wsg 0 109) 101) 101) 116), xmk, .int 4]) (st1 := [.int (lg_cmp (J 1 5) (wsg (wsg (wsg (wsg 0 109) 101) 101) 116))]) (h1 := (124, I, J, R)) rfl ?_
  refine ev_br (b1 := false) rfl rfl (xcd_nne (x := (lg_cmp (J 1 5) (wsg (wsg (wsg (wsg 0 109) 101) 101) 116))) (y := 0) (by rw [show ((0 : Int32)).toInt = 0 from by decide]; first | exact b2 | omega)) ?_
  refine ev_go 2 (pc1 := 53) (lv1 := [.ref 1, .retAddr 4, .long (wsg (wsg (wsg (wsg 0 109) 101) 101) 116), xmk, .int 4]) (st1 := [.int 1]) (h1 := (124, I, J, R)) rfl ?_
  exact ev_ret rfl rfl
theorem iw_c1 : (wsg (wsg (wsg (wsg 0 109) 101) 101) 116) = vF (kb 1) 0 (kwl 1) := by decide +kernel
theorem iw_run_1 {L : Nat} {xs : Nat → Int32} {d : Nat} {I : Nat → Nat → Int32} {J : Nat → Nat → Int64} {R : Nat → Nat → Nat} (hG : aGd R) (h4 : 4 ≤ d + 1) : ((I 1 3).toInt = 1 ∧ J 1 5 = vF (kb 1) 0 (kwl 1) ∧ xEv L xs (d + 1) 25 0 [.ref 1, .retAddr 4, xmk, xmk, xmk] [] (124, I, J, R) (some (.int 1)) (124, I, J, R)) ∨ (¬ ((I 1 3).toInt = 1 ∧ J 1 5 = vF (kb 1) 0 (kwl 1)) ∧ xEv L xs (d + 1) 25 0 [.ref 1, .retAddr 4, xmk, xmk, xmk] [] (124, I, J, R) (some (.int 0)) (124, I, J, R)) := by
  rw [← iw_c1]
  by_cases h1 : (I 1 3).toInt = 1
  · by_cases h2 : J 1 5 = (wsg (wsg (wsg (wsg 0 109) 101) 101) 116)
    · exact Or.inl ⟨h1, h2, iw_2_1 hG h4 (wx_run hG _ _) (wx_run hG _ _) (wx_run hG _ _) (wx_run hG _ _) h1 (by rw [h2]; unfold lg_cmp; rw [if_neg (by intro z; have := Int64.lt_iff_toInt_lt.mp z; omega), if_pos rfl]; rfl)⟩
    · refine Or.inr ⟨fun z => h2 z.2, iw_1_1 hG h4 (wx_run hG _ _) (wx_run hG _ _) (wx_run hG _ _) (wx_run hG _ _) h1 ?_⟩
      unfold lg_cmp
      by_cases g : J 1 5 > (wsg (wsg (wsg (wsg 0 109) 101) 101) 116)
      · rw [if_pos g]; decide
      · rw [if_neg g, if_neg h2]; decide
  · exact Or.inr ⟨fun z => h1 z.1, iw_0_1 hG h4 (wx_run hG _ _) (wx_run hG _ _) (wx_run hG _ _) (wx_run hG _ _) h1⟩
set_option maxRecDepth 20000 in
theorem iw_0_2 {L : Nat} {xs : Nat → Int32} {d : Nat} {I : Nat → Nat → Int32} {J : Nat → Nat → Int64} {R : Nat → Nat → Nat} (hG : aGd R) (h4 : 4 ≤ d + 1) (c1 : xEv L xs d 24 0 [.long 0, xmk, .int 110] [] (124, I, J, R) (some (.long (wsg 0 110))) (124, I, J, R)) (c2 : xEv L xs d 24 0 [.long (wsg 0 110), xmk, .int 101] [] (124, I, J, R) (some (.long (wsg (wsg 0 110) 101))) (124, I, J, R)) (c3 : xEv L xs d 24 0 [.long (wsg (wsg 0 110) 101), xmk, .int 119] [] (124, I, J, R) (some (.long (wsg (wsg (wsg 0 110) 101) 119))) (124, I, J, R)) (c4 : xEv L xs d 24 0 [.long (wsg (wsg (wsg 0 110) 101) 119), xmk, .int 115] [] (124, I, J, R) (some (.long (wsg (wsg (wsg (wsg 0 110) 101) 119) 115))) (124, I, J, R)) (b1 : (I 1 3).toInt ≠ 1) : xEv L xs (d + 1) 25 0 [.ref 1, .retAddr 6, xmk, xmk, xmk] [] (124, I, J, R) (some (.int 0)) (124, I, J, R) := by
  refine ev_go 6 (pc1 := 8) (lv1 := [.ref 1, .retAddr 6, .long 0, xmk, .int 0]) (st1 := [.retAddr 6, .int 0]) (h1 := (124, I, J, R)) rfl ?_
  refine ev_902 (k := 4) h4 rfl rfl (by decide) (by decide) (x := 4) rfl ?_
  refine ev_go 4 (pc1 := 18) (lv1 := [.ref 1, .retAddr 6, .long 0, xmk, .int 0]) (st1 := [.int 0, .retAddr 6, .long 0]) (h1 := (124, I, J, R)) rfl ?_
  refine ev_903 (k := 4) h4 rfl rfl (by decide) (by decide) (by decide) (by decide) (x := 110) rfl ?_
  refine ev_call (v1 := (some (.long (wsg 0 110)))) (h1 := (124, I, J, R)) rfl rfl c1 ?_
  refine ev_go 5 (pc1 := 8) (lv1 := [.ref 1, .retAddr 6, .long (wsg 0 110), xmk, .int 1]) (st1 := [.retAddr 6, .int 1]) (h1 := (124, I, J, R)) rfl ?_
  refine ev_902 (k := 4) h4 rfl rfl (by decide) (by decide) (x := 4) rfl ?_
  refine ev_go 4 (pc1 := 18) (lv1 := [.ref 1, .retAddr 6, .long (wsg 0 110), xmk, .int 1]) (st1 := [.int 1, .retAddr 6, .long (wsg 0 110)]) (h1 := (124, I, J, R)) rfl ?_
  refine ev_903 (k := 4) h4 rfl rfl (by decide) (by decide) (by decide) (by decide) (x := 101) rfl ?_
  refine ev_call (v1 := (some (.long (wsg (wsg 0 110) 101)))) (h1 := (124, I, J, R)) rfl rfl c2 ?_
  refine ev_go 5 (pc1 := 8) (lv1 := [.ref 1, .retAddr 6, .long (wsg (wsg 0 110) 101), xmk, .int 2]) (st1 := [.retAddr 6, .int 2]) (h1 := (124, I, J, R)) rfl ?_
  refine ev_902 (k := 4) h4 rfl rfl (by decide) (by decide) (x := 4) rfl ?_
  refine ev_go 4 (pc1 := 18) (lv1 := [.ref 1, .retAddr 6, .long (wsg (wsg 0 110) 101), xmk, .int 2]) (st1 := [.int 2, .retAddr 6, .long (wsg (wsg 0 110) 101)]) (h1 := (124, I, J, R)) rfl ?_
  refine ev_903 (k := 4) h4 rfl rfl (by decide) (by decide) (by decide) (by decide) (x := 119) rfl ?_
  refine ev_call (v1 := (some (.long (wsg (wsg (wsg 0 110) 101) 119)))) (h1 := (124, I, J, R)) rfl rfl c3 ?_
  refine ev_go 5 (pc1 := 8) (lv1 := [.ref 1, .retAddr 6, .long (wsg (wsg (wsg 0 110) 101) 119), xmk, .int 3]) (st1 := [.retAddr 6, .int 3]) (h1 := (124, I, J, R)) rfl ?_
  refine ev_902 (k := 4) h4 rfl rfl (by decide) (by decide) (x := 4) rfl ?_
  refine ev_go 4 (pc1 := 18) (lv1 := [.ref 1, .retAddr 6, .long (wsg (wsg (wsg 0 110) 101) 119), xmk, .int 3]) (st1 := [.int 3, .retAddr 6, .long (wsg (wsg (wsg 0 110) 101) 119)]) (h1 := (124, I, J, R)) rfl ?_
  refine ev_903 (k := 4) h4 rfl rfl (by decide) (by decide) (by decide) (by decide) (x := 115) rfl ?_
  refine ev_call (v1 := (some (.long (wsg (wsg (wsg (wsg 0 110) 101) 119) 115)))) (h1 := (124, I, J, R)) rfl rfl c4 ?_
  refine ev_go 5 (pc1 := 8) (lv1 := [.ref 1, .retAddr 6, .long (wsg (wsg (wsg (wsg 0 110) 101) 119) 115), xmk, .int 4]) (st1 := [.retAddr 6, .int 4]) (h1 := (124, I, J, R)) rfl ?_
  refine ev_902 (k := 4) h4 rfl rfl (by decide) (by decide) (x := 4) rfl ?_
  refine ev_go 4 (pc1 := 36) (lv1 := [.ref 1, .retAddr 6, .long (wsg (wsg (wsg (wsg 0 110) 101) 119) 115), xmk, .int 4]) (st1 := [.int 1, .int (I 1 3)]) (h1 := (124, I, J, R)) rfl ?_
  refine ev_br (b1 := true) rfl rfl (xcd_ne (x := (I 1 3)) (y := 1) (by rw [show ((1 : Int32)).toInt = 1 from by decide]; first | exact b1 | omega)) ?_
  refine ev_go 1 (pc1 := 53) (lv1 := [.ref 1, .retAddr 6, .long (wsg (wsg (wsg (wsg 0 110) 101) 119) 115), xmk, .int 4]) (st1 := [.int 0]) (h1 := (124, I, J, R)) rfl ?_
  exact ev_ret rfl rfl
set_option maxRecDepth 20000 in
theorem iw_1_2 {L : Nat} {xs : Nat → Int32} {d : Nat} {I : Nat → Nat → Int32} {J : Nat → Nat → Int64} {R : Nat → Nat → Nat} (hG : aGd R) (h4 : 4 ≤ d + 1) (c1 : xEv L xs d 24 0 [.long 0, xmk, .int 110] [] (124, I, J, R) (some (.long (wsg 0 110))) (124, I, J, R)) (c2 : xEv L xs d 24 0 [.long (wsg 0 110), xmk, .int 101] [] (124, I, J, R) (some (.long (wsg (wsg 0 110) 101))) (124, I, J, R)) (c3 : xEv L xs d 24 0 [.long (wsg (wsg 0 110) 101), xmk, .int 119] [] (124, I, J, R) (some (.long (wsg (wsg (wsg 0 110) 101) 119))) (124, I, J, R)) (c4 : xEv L xs d 24 0 [.long (wsg (wsg (wsg 0 110) 101) 119), xmk, .int 115] [] (124, I, J, R) (some (.long (wsg (wsg (wsg (wsg 0 110) 101) 119) 115))) (124, I, J, R)) (b1 : (I 1 3).toInt = 1) (b2 : (lg_cmp (J 1 5) (wsg (wsg (wsg (wsg 0 110) 101) 119) 115)).toInt ≠ 0) : xEv L xs (d + 1) 25 0 [.ref 1, .retAddr 6, xmk, xmk, xmk] [] (124, I, J, R) (some (.int 0)) (124, I, J, R) := by
  refine ev_go 6 (pc1 := 8) (lv1 := [.ref 1, .retAddr 6, .long 0, xmk, .int 0]) (st1 := [.retAddr 6, .int 0]) (h1 := (124, I, J, R)) rfl ?_
  refine ev_902 (k := 4) h4 rfl rfl (by decide) (by decide) (x := 4) rfl ?_
  refine ev_go 4 (pc1 := 18) (lv1 := [.ref 1, .retAddr 6, .long 0, xmk, .int 0]) (st1 := [.int 0, .retAddr 6, .long 0]) (h1 := (124, I, J, R)) rfl ?_
  refine ev_903 (k := 4) h4 rfl rfl (by decide) (by decide) (by decide) (by decide) (x := 110) rfl ?_
  refine ev_call (v1 := (some (.long (wsg 0 110)))) (h1 := (124, I, J, R)) rfl rfl c1 ?_
  refine ev_go 5 (pc1 := 8) (lv1 := [.ref 1, .retAddr 6, .long (wsg 0 110), xmk, .int 1]) (st1 := [.retAddr 6, .int 1]) (h1 := (124, I, J, R)) rfl ?_
  refine ev_902 (k := 4) h4 rfl rfl (by decide) (by decide) (x := 4) rfl ?_
  refine ev_go 4 (pc1 := 18) (lv1 := [.ref 1, .retAddr 6, .long (wsg 0 110), xmk, .int 1]) (st1 := [.int 1, .retAddr 6, .long (wsg 0 110)]) (h1 := (124, I, J, R)) rfl ?_
  refine ev_903 (k := 4) h4 rfl rfl (by decide) (by decide) (by decide) (by decide) (x := 101) rfl ?_
  refine ev_call (v1 := (some (.long (wsg (wsg 0 110) 101)))) (h1 := (124, I, J, R)) rfl rfl c2 ?_
  refine ev_go 5 (pc1 := 8) (lv1 := [.ref 1, .retAddr 6, .long (wsg (wsg 0 110) 101), xmk, .int 2]) (st1 := [.retAddr 6, .int 2]) (h1 := (124, I, J, R)) rfl ?_
  refine ev_902 (k := 4) h4 rfl rfl (by decide) (by decide) (x := 4) rfl ?_
  refine ev_go 4 (pc1 := 18) (lv1 := [.ref 1, .retAddr 6, .long (wsg (wsg 0 110) 101), xmk, .int 2]) (st1 := [.int 2, .retAddr 6, .long (wsg (wsg 0 110) 101)]) (h1 := (124, I, J, R)) rfl ?_
  refine ev_903 (k := 4) h4 rfl rfl (by decide) (by decide) (by decide) (by decide) (x := 119) rfl ?_
  refine ev_call (v1 := (some (.long (wsg (wsg (wsg 0 110) 101) 119)))) (h1 := (124, I, J, R)) rfl rfl c3 ?_
  refine ev_go 5 (pc1 := 8) (lv1 := [.ref 1, .retAddr 6, .long (wsg (wsg (wsg 0 110) 101) 119), xmk, .int 3]) (st1 := [.retAddr 6, .int 3]) (h1 := (124, I, J, R)) rfl ?_
  refine ev_902 (k := 4) h4 rfl rfl (by decide) (by decide) (x := 4) rfl ?_
  refine ev_go 4 (pc1 := 18) (lv1 := [.ref 1, .retAddr 6, .long (wsg (wsg (wsg 0 110) 101) 119), xmk, .int 3]) (st1 := [.int 3, .retAddr 6, .long (wsg (wsg (wsg 0 110) 101) 119)]) (h1 := (124, I, J, R)) rfl ?_
  refine ev_903 (k := 4) h4 rfl rfl (by decide) (by decide) (by decide) (by decide) (x := 115) rfl ?_
  refine ev_call (v1 := (some (.long (wsg (wsg (wsg (wsg 0 110) 101) 119) 115)))) (h1 := (124, I, J, R)) rfl rfl c4 ?_
  refine ev_go 5 (pc1 := 8) (lv1 := [.ref 1, .retAddr 6, .long (wsg (wsg (wsg (wsg 0 110) 101) 119) 115), xmk, .int 4]) (st1 := [.retAddr 6, .int 4]) (h1 := (124, I, J, R)) rfl ?_
  refine ev_902 (k := 4) h4 rfl rfl (by decide) (by decide) (x := 4) rfl ?_
  refine ev_go 4 (pc1 := 36) (lv1 := [.ref 1, .retAddr 6, .long (wsg (wsg (wsg (wsg 0 110) 101) 119) 115), xmk, .int 4]) (st1 := [.int 1, .int (I 1 3)]) (h1 := (124, I, J, R)) rfl ?_
  refine ev_br (b1 := false) rfl rfl (xcd_nne (x := (I 1 3)) (y := 1) (by rw [show ((1 : Int32)).toInt = 1 from by decide]; first | exact b1 | omega)) ?_
  refine ev_go 4 (pc1 := 45) (lv1 := [.ref 1, .retAddr 6, .long (wsg (wsg (wsg (wsg 0 110) 101) 119) 115), xmk, .int 4]) (st1 := [.int (lg_cmp (J 1 5) (wsg (wsg (wsg (wsg 0 110) 101) 119) 115))]) (h1 := (124, I, J, R)) rfl ?_
  refine ev_br (b1 := true) rfl rfl (xcd_ne (x := (lg_cmp (J 1 5) (wsg (wsg (wsg (wsg 0 110) 101) 119) 115))) (y := 0) (by rw [show ((0 : Int32)).toInt = 0 from by decide]; first | exact b2 | omega)) ?_
  refine ev_go 1 (pc1 := 53) (lv1 := [.ref 1, .retAddr 6, .long (wsg (wsg (wsg (wsg 0 110) 101) 119) 115), xmk, .int 4]) (st1 := [.int 0]) (h1 := (124, I, J, R)) rfl ?_
  exact ev_ret rfl rfl
set_option maxRecDepth 20000 in
theorem iw_2_2 {L : Nat} {xs : Nat → Int32} {d : Nat} {I : Nat → Nat → Int32} {J : Nat → Nat → Int64} {R : Nat → Nat → Nat} (hG : aGd R) (h4 : 4 ≤ d + 1) (c1 : xEv L xs d 24 0 [.long 0, xmk, .int 110] [] (124, I, J, R) (some (.long (wsg 0 110))) (124, I, J, R)) (c2 : xEv L xs d 24 0 [.long (wsg 0 110), xmk, .int 101] [] (124, I, J, R) (some (.long (wsg (wsg 0 110) 101))) (124, I, J, R)) (c3 : xEv L xs d 24 0 [.long (wsg (wsg 0 110) 101), xmk, .int 119] [] (124, I, J, R) (some (.long (wsg (wsg (wsg 0 110) 101) 119))) (124, I, J, R)) (c4 : xEv L xs d 24 0 [.long (wsg (wsg (wsg 0 110) 101) 119), xmk, .int 115] [] (124, I, J, R) (some (.long (wsg (wsg (wsg (wsg 0 110) 101) 119) 115))) (124, I, J, R)) (b1 : (I 1 3).toInt = 1) (b2 : (lg_cmp (J 1 5) (wsg (wsg (wsg (wsg 0 110) 101) 119) 115)).toInt = 0) : xEv L xs (d + 1) 25 0 [.ref 1, .retAddr 6, xmk, xmk, xmk] [] (124, I, J, R) (some (.int 1)) (124, I, J, R) := by
  refine ev_go 6 (pc1 := 8) (lv1 := [.ref 1, .retAddr 6, .long 0, xmk, .int 0]) (st1 := [.retAddr 6, .int 0]) (h1 := (124, I, J, R)) rfl ?_
  refine ev_902 (k := 4) h4 rfl rfl (by decide) (by decide) (x := 4) rfl ?_
  refine ev_go 4 (pc1 := 18) (lv1 := [.ref 1, .retAddr 6, .long 0, xmk, .int 0]) (st1 := [.int 0, .retAddr 6, .long 0]) (h1 := (124, I, J, R)) rfl ?_
  refine ev_903 (k := 4) h4 rfl rfl (by decide) (by decide) (by decide) (by decide) (x := 110) rfl ?_
  refine ev_call (v1 := (some (.long (wsg 0 110)))) (h1 := (124, I, J, R)) rfl rfl c1 ?_
  refine ev_go 5 (pc1 := 8) (lv1 := [.ref 1, .retAddr 6, .long (wsg 0 110), xmk, .int 1]) (st1 := [.retAddr 6, .int 1]) (h1 := (124, I, J, R)) rfl ?_
  refine ev_902 (k := 4) h4 rfl rfl (by decide) (by decide) (x := 4) rfl ?_
  refine ev_go 4 (pc1 := 18) (lv1 := [.ref 1, .retAddr 6, .long (wsg 0 110), xmk, .int 1]) (st1 := [.int 1, .retAddr 6, .long (wsg 0 110)]) (h1 := (124, I, J, R)) rfl ?_
  refine ev_903 (k := 4) h4 rfl rfl (by decide) (by decide) (by decide) (by decide) (x := 101) rfl ?_
  refine ev_call (v1 := (some (.long (wsg (wsg 0 110) 101)))) (h1 := (124, I, J, R)) rfl rfl c2 ?_
  refine ev_go 5 (pc1 := 8) (lv1 := [.ref 1, .retAddr 6, .long (wsg (wsg 0 110) 101), xmk, .int 2]) (st1 := [.retAddr 6, .int 2]) (h1 := (124, I, J, R)) rfl ?_
  refine ev_902 (k := 4) h4 rfl rfl (by decide) (by decide) (x := 4) rfl ?_
  refine ev_go 4 (pc1 := 18) (lv1 := [.ref 1, .retAddr 6, .long (wsg (wsg 0 110) 101), xmk, .int 2]) (st1 := [.int 2, .retAddr 6, .long (wsg (wsg 0 110) 101)]) (h1 := (124, I, J, R)) rfl ?_
  refine ev_903 (k := 4) h4 rfl rfl (by decide) (by decide) (by decide) (by decide) (x := 119) rfl ?_
  refine ev_call (v1 := (some (.long (wsg (wsg (wsg 0 110) 101) 119)))) (h1 := (124, I, J, R)) rfl rfl c3 ?_
  refine ev_go 5 (pc1 := 8) (lv1 := [.ref 1, .retAddr 6, .long (wsg (wsg (wsg 0 110) 101) 119), xmk, .int 3]) (st1 := [.retAddr 6, .int 3]) (h1 := (124, I, J, R)) rfl ?_
  refine ev_902 (k := 4) h4 rfl rfl (by decide) (by decide) (x := 4) rfl ?_
  refine ev_go 4 (pc1 := 18) (lv1 := [.ref 1, .retAddr 6, .long (wsg (wsg (wsg 0 110) 101) 119), xmk, .int 3]) (st1 := [.int 3, .retAddr 6, .long (wsg (wsg (wsg 0 110) 101) 119)]) (h1 := (124, I, J, R)) rfl ?_
  refine ev_903 (k := 4) h4 rfl rfl (by decide) (by decide) (by decide) (by decide) (x := 115) rfl ?_
  refine ev_call (v1 := (some (.long (wsg (wsg (wsg (wsg 0 110) 101) 119) 115)))) (h1 := (124, I, J, R)) rfl rfl c4 ?_
  refine ev_go 5 (pc1 := 8) (lv1 := [.ref 1, .retAddr 6, .long (wsg (wsg (wsg (wsg 0 110) 101) 119) 115), xmk, .int 4]) (st1 := [.retAddr 6, .int 4]) (h1 := (124, I, J, R)) rfl ?_
  refine ev_902 (k := 4) h4 rfl rfl (by decide) (by decide) (x := 4) rfl ?_
  refine ev_go 4 (pc1 := 36) (lv1 := [.ref 1, .retAddr 6, .long (wsg (wsg (wsg (wsg 0 110) 101) 119) 115), xmk, .int 4]) (st1 := [.int 1, .int (I 1 3)]) (h1 := (124, I, J, R)) rfl ?_
  refine ev_br (b1 := false) rfl rfl (xcd_nne (x := (I 1 3)) (y := 1) (by rw [show ((1 : Int32)).toInt = 1 from by decide]; first | exact b1 | omega)) ?_
  refine ev_go 4 (pc1 := 45) (lv1 := [.ref 1, .retAddr 6, .long (wsg (wsg (wsg (wsg 0 110) 101) 119) 115), xmk, .int 4]) (st1 := [.int (lg_cmp (J 1 5) (wsg (wsg (wsg (wsg 0 110) 101) 119) 115))]) (h1 := (124, I, J, R)) rfl ?_
  refine ev_br (b1 := false) rfl rfl (xcd_nne (x := (lg_cmp (J 1 5) (wsg (wsg (wsg (wsg 0 110) 101) 119) 115))) (y := 0) (by rw [show ((0 : Int32)).toInt = 0 from by decide]; first | exact b2 | omega)) ?_
  refine ev_go 2 (pc1 := 53) (lv1 := [.ref 1, .retAddr 6, .long (wsg (wsg (wsg (wsg 0 110) 101) 119) 115), xmk, .int 4]) (st1 := [.int 1]) (h1 := (124, I, J, R)) rfl ?_
  exact ev_ret rfl rfl
theorem iw_c2 : (wsg (wsg (wsg (wsg 0 110) 101) 119) 115) = vF (kb 2) 0 (kwl 2) := by decide +kernel
theorem iw_run_2 {L : Nat} {xs : Nat → Int32} {d : Nat} {I : Nat → Nat → Int32} {J : Nat → Nat → Int64} {R : Nat → Nat → Nat} (hG : aGd R) (h4 : 4 ≤ d + 1) : ((I 1 3).toInt = 1 ∧ J 1 5 = vF (kb 2) 0 (kwl 2) ∧ xEv L xs (d + 1) 25 0 [.ref 1, .retAddr 6, xmk, xmk, xmk] [] (124, I, J, R) (some (.int 1)) (124, I, J, R)) ∨ (¬ ((I 1 3).toInt = 1 ∧ J 1 5 = vF (kb 2) 0 (kwl 2)) ∧ xEv L xs (d + 1) 25 0 [.ref 1, .retAddr 6, xmk, xmk, xmk] [] (124, I, J, R) (some (.int 0)) (124, I, J, R)) := by
  rw [← iw_c2]
  by_cases h1 : (I 1 3).toInt = 1
  · by_cases h2 : J 1 5 = (wsg (wsg (wsg (wsg 0 110) 101) 119) 115)
    · exact Or.inl ⟨h1, h2, iw_2_2 hG h4 (wx_run hG _ _) (wx_run hG _ _) (wx_run hG _ _) (wx_run hG _ _) h1 (by rw [h2]; unfold lg_cmp; rw [if_neg (by intro z; have := Int64.lt_iff_toInt_lt.mp z; omega), if_pos rfl]; rfl)⟩
    · refine Or.inr ⟨fun z => h2 z.2, iw_1_2 hG h4 (wx_run hG _ _) (wx_run hG _ _) (wx_run hG _ _) (wx_run hG _ _) h1 ?_⟩
      unfold lg_cmp
      by_cases g : J 1 5 > (wsg (wsg (wsg (wsg 0 110) 101) 119) 115)
      · rw [if_pos g]; decide
      · rw [if_neg g, if_neg h2]; decide
  · exact Or.inr ⟨fun z => h1 z.1, iw_0_2 hG h4 (wx_run hG _ _) (wx_run hG _ _) (wx_run hG _ _) (wx_run hG _ _) h1⟩
set_option maxRecDepth 20000 in
theorem iw_0_3 {L : Nat} {xs : Nat → Int32} {d : Nat} {I : Nat → Nat → Int32} {J : Nat → Nat → Int64} {R : Nat → Nat → Nat} (hG : aGd R) (h4 : 4 ≤ d + 1) (c1 : xEv L xs d 24 0 [.long 0, xmk, .int 98] [] (124, I, J, R) (some (.long (wsg 0 98))) (124, I, J, R)) (c2 : xEv L xs d 24 0 [.long (wsg 0 98), xmk, .int 97] [] (124, I, J, R) (some (.long (wsg (wsg 0 98) 97))) (124, I, J, R)) (c3 : xEv L xs d 24 0 [.long (wsg (wsg 0 98) 97), xmk, .int 114] [] (124, I, J, R) (some (.long (wsg (wsg (wsg 0 98) 97) 114))) (124, I, J, R)) (b1 : (I 1 3).toInt ≠ 1) : xEv L xs (d + 1) 25 0 [.ref 1, .retAddr 7, xmk, xmk, xmk] [] (124, I, J, R) (some (.int 0)) (124, I, J, R) := by
  refine ev_go 6 (pc1 := 8) (lv1 := [.ref 1, .retAddr 7, .long 0, xmk, .int 0]) (st1 := [.retAddr 7, .int 0]) (h1 := (124, I, J, R)) rfl ?_
  refine ev_902 (k := 5) h4 rfl rfl (by decide) (by decide) (x := 3) rfl ?_
  refine ev_go 4 (pc1 := 18) (lv1 := [.ref 1, .retAddr 7, .long 0, xmk, .int 0]) (st1 := [.int 0, .retAddr 7, .long 0]) (h1 := (124, I, J, R)) rfl ?_
  refine ev_903 (k := 5) h4 rfl rfl (by decide) (by decide) (by decide) (by decide) (x := 98) rfl ?_
  refine ev_call (v1 := (some (.long (wsg 0 98)))) (h1 := (124, I, J, R)) rfl rfl c1 ?_
  refine ev_go 5 (pc1 := 8) (lv1 := [.ref 1, .retAddr 7, .long (wsg 0 98), xmk, .int 1]) (st1 := [.retAddr 7, .int 1]) (h1 := (124, I, J, R)) rfl ?_
  refine ev_902 (k := 5) h4 rfl rfl (by decide) (by decide) (x := 3) rfl ?_
  refine ev_go 4 (pc1 := 18) (lv1 := [.ref 1, .retAddr 7, .long (wsg 0 98), xmk, .int 1]) (st1 := [.int 1, .retAddr 7, .long (wsg 0 98)]) (h1 := (124, I, J, R)) rfl ?_
  refine ev_903 (k := 5) h4 rfl rfl (by decide) (by decide) (by decide) (by decide) (x := 97) rfl ?_
  refine ev_call (v1 := (some (.long (wsg (wsg 0 98) 97)))) (h1 := (124, I, J, R)) rfl rfl c2 ?_
  refine ev_go 5 (pc1 := 8) (lv1 := [.ref 1, .retAddr 7, .long (wsg (wsg 0 98) 97), xmk, .int 2]) (st1 := [.retAddr 7, .int 2]) (h1 := (124, I, J, R)) rfl ?_
  refine ev_902 (k := 5) h4 rfl rfl (by decide) (by decide) (x := 3) rfl ?_
  refine ev_go 4 (pc1 := 18) (lv1 := [.ref 1, .retAddr 7, .long (wsg (wsg 0 98) 97), xmk, .int 2]) (st1 := [.int 2, .retAddr 7, .long (wsg (wsg 0 98) 97)]) (h1 := (124, I, J, R)) rfl ?_
  refine ev_903 (k := 5) h4 rfl rfl (by decide) (by decide) (by decide) (by decide) (x := 114) rfl ?_
  refine ev_call (v1 := (some (.long (wsg (wsg (wsg 0 98) 97) 114)))) (h1 := (124, I, J, R)) rfl rfl c3 ?_
  refine ev_go 5 (pc1 := 8) (lv1 := [.ref 1, .retAddr 7, .long (wsg (wsg (wsg 0 98) 97) 114), xmk, .int 3]) (st1 := [.retAddr 7, .int 3]) (h1 := (124, I, J, R)) rfl ?_
  refine ev_902 (k := 5) h4 rfl rfl (by decide) (by decide) (x := 3) rfl ?_
  refine ev_go 4 (pc1 := 36) (lv1 := [.ref 1, .retAddr 7, .long (wsg (wsg (wsg 0 98) 97) 114), xmk, .int 3]) (st1 := [.int 1, .int (I 1 3)]) (h1 := (124, I, J, R)) rfl ?_
  refine ev_br (b1 := true) rfl rfl (xcd_ne (x := (I 1 3)) (y := 1) (by rw [show ((1 : Int32)).toInt = 1 from by decide]; first | exact b1 | omega)) ?_
  refine ev_go 1 (pc1 := 53) (lv1 := [.ref 1, .retAddr 7, .long (wsg (wsg (wsg 0 98) 97) 114), xmk, .int 3]) (st1 := [.int 0]) (h1 := (124, I, J, R)) rfl ?_
  exact ev_ret rfl rfl
set_option maxRecDepth 20000 in
theorem iw_1_3 {L : Nat} {xs : Nat → Int32} {d : Nat} {I : Nat → Nat → Int32} {J : Nat → Nat → Int64} {R : Nat → Nat → Nat} (hG : aGd R) (h4 : 4 ≤ d + 1) (c1 : xEv L xs d 24 0 [.long 0, xmk, .int 98] [] (124, I, J, R) (some (.long (wsg 0 98))) (124, I, J, R)) (c2 : xEv L xs d 24 0 [.long (wsg 0 98), xmk, .int 97] [] (124, I, J, R) (some (.long (wsg (wsg 0 98) 97))) (124, I, J, R)) (c3 : xEv L xs d 24 0 [.long (wsg (wsg 0 98) 97), xmk, .int 114] [] (124, I, J, R) (some (.long (wsg (wsg (wsg 0 98) 97) 114))) (124, I, J, R)) (b1 : (I 1 3).toInt = 1) (b2 : (lg_cmp (J 1 5) (wsg (wsg (wsg 0 98) 97) 114)).toInt ≠ 0) : xEv L xs (d + 1) 25 0 [.ref 1, .retAddr 7, xmk, xmk, xmk] [] (124, I, J, R) (some (.int 0)) (124, I, J, R) := by
  refine ev_go 6 (pc1 := 8) (lv1 := [.ref 1, .retAddr 7, .long 0, xmk, .int 0]) (st1 := [.retAddr 7, .int 0]) (h1 := (124, I, J, R)) rfl ?_
  refine ev_902 (k := 5) h4 rfl rfl (by decide) (by decide) (x := 3) rfl ?_
  refine ev_go 4 (pc1 := 18) (lv1 := [.ref 1, .retAddr 7, .long 0, xmk, .int 0]) (st1 := [.int 0, .retAddr 7, .long 0]) (h1 := (124, I, J, R)) rfl ?_
  refine ev_903 (k := 5) h4 rfl rfl (by decide) (by decide) (by decide) (by decide) (x := 98) rfl ?_
  refine ev_call (v1 := (some (.long (wsg 0 98)))) (h1 := (124, I, J, R)) rfl rfl c1 ?_
  refine ev_go 5 (pc1 := 8) (lv1 := [.ref 1, .retAddr 7, .long (wsg 0 98), xmk, .int 1]) (st1 := [.retAddr 7, .int 1]) (h1 := (124, I, J, R)) rfl ?_
  refine ev_902 (k := 5) h4 rfl rfl (by decide) (by decide) (x := 3) rfl ?_
  refine ev_go 4 (pc1 := 18) (lv1 := [.ref 1, .retAddr 7, .long (wsg 0 98), xmk, .int 1]) (st1 := [.int 1, .retAddr 7, .long (wsg 0 98)]) (h1 := (124, I, J, R)) rfl ?_
  refine ev_903 (k := 5) h4 rfl rfl (by decide) (by decide) (by decide) (by decide) (x := 97) rfl ?_
  refine ev_call (v1 := (some (.long (wsg (wsg 0 98) 97)))) (h1 := (124, I, J, R)) rfl rfl c2 ?_
  refine ev_go 5 (pc1 := 8) (lv1 := [.ref 1, .retAddr 7, .long (wsg (wsg 0 98) 97), xmk, .int 2]) (st1 := [.retAddr 7, .int 2]) (h1 := (124, I, J, R)) rfl ?_
  refine ev_902 (k := 5) h4 rfl rfl (by decide) (by decide) (x := 3) rfl ?_
  refine ev_go 4 (pc1 := 18) (lv1 := [.ref 1, .retAddr 7, .long (wsg (wsg 0 98) 97), xmk, .int 2]) (st1 := [.int 2, .retAddr 7, .long (wsg (wsg 0 98) 97)]) (h1 := (124, I, J, R)) rfl ?_
  refine ev_903 (k := 5) h4 rfl rfl (by decide) (by decide) (by decide) (by decide) (x := 114) rfl ?_
  refine ev_call (v1 := (some (.long (wsg (wsg (wsg 0 98) 97) 114)))) (h1 := (124, I, J, R)) rfl rfl c3 ?_
  refine ev_go 5 (pc1 := 8) (lv1 := [.ref 1, .retAddr 7, .long (wsg (wsg (wsg 0 98) 97) 114), xmk, .int 3]) (st1 := [.retAddr 7, .int 3]) (h1 := (124, I, J, R)) rfl ?_
  refine ev_902 (k := 5) h4 rfl rfl (by decide) (by decide) (x := 3) rfl ?_
  refine ev_go 4 (pc1 := 36) (lv1 := [.ref 1, .retAddr 7, .long (wsg (wsg (wsg 0 98) 97) 114), xmk, .int 3]) (st1 := [.int 1, .int (I 1 3)]) (h1 := (124, I, J, R)) rfl ?_
  refine ev_br (b1 := false) rfl rfl (xcd_nne (x := (I 1 3)) (y := 1) (by rw [show ((1 : Int32)).toInt = 1 from by decide]; first | exact b1 | omega)) ?_
  refine ev_go 4 (pc1 := 45) (lv1 := [.ref 1, .retAddr 7, .long (wsg (wsg (wsg 0 98) 97) 114), xmk, .int 3]) (st1 := [.int (lg_cmp (J 1 5) (wsg (wsg (wsg 0 98) 97) 114))]) (h1 := (124, I, J, R)) rfl ?_
  refine ev_br (b1 := true) rfl rfl (xcd_ne (x := (lg_cmp (J 1 5) (wsg (wsg (wsg 0 98) 97) 114))) (y := 0) (by rw [show ((0 : Int32)).toInt = 0 from by decide]; first | exact b2 | omega)) ?_
  refine ev_go 1 (pc1 := 53) (lv1 := [.ref 1, .retAddr 7, .long (wsg (wsg (wsg 0 98) 97) 114), xmk, .int 3]) (st1 := [.int 0]) (h1 := (124, I, J, R)) rfl ?_
  exact ev_ret rfl rfl
set_option maxRecDepth 20000 in
theorem iw_2_3 {L : Nat} {xs : Nat → Int32} {d : Nat} {I : Nat → Nat → Int32} {J : Nat → Nat → Int64} {R : Nat → Nat → Nat} (hG : aGd R) (h4 : 4 ≤ d + 1) (c1 : xEv L xs d 24 0 [.long 0, xmk, .int 98] [] (124, I, J, R) (some (.long (wsg 0 98))) (124, I, J, R)) (c2 : xEv L xs d 24 0 [.long (wsg 0 98), xmk, .int 97] [] (124, I, J, R) (some (.long (wsg (wsg 0 98) 97))) (124, I, J, R)) (c3 : xEv L xs d 24 0 [.long (wsg (wsg 0 98) 97), xmk, .int 114] [] (124, I, J, R) (some (.long (wsg (wsg (wsg 0 98) 97) 114))) (124, I, J, R)) (b1 : (I 1 3).toInt = 1) (b2 : (lg_cmp (J 1 5) (wsg (wsg (wsg 0 98) 97) 114)).toInt = 0) : xEv L xs (d + 1) 25 0 [.ref 1, .retAddr 7, xmk, xmk, xmk] [] (124, I, J, R) (some (.int 1)) (124, I, J, R) := by
  refine ev_go 6 (pc1 := 8) (lv1 := [.ref 1, .retAddr 7, .long 0, xmk, .int 0]) (st1 := [.retAddr 7, .int 0]) (h1 := (124, I, J, R)) rfl ?_
  refine ev_902 (k := 5) h4 rfl rfl (by decide) (by decide) (x := 3) rfl ?_
  refine ev_go 4 (pc1 := 18) (lv1 := [.ref 1, .retAddr 7, .long 0, xmk, .int 0]) (st1 := [.int 0, .retAddr 7, .long 0]) (h1 := (124, I, J, R)) rfl ?_
  refine ev_903 (k := 5) h4 rfl rfl (by decide) (by decide) (by decide) (by decide) (x := 98) rfl ?_
  refine ev_call (v1 := (some (.long (wsg 0 98)))) (h1 := (124, I, J, R)) rfl rfl c1 ?_
  refine ev_go 5 (pc1 := 8) (lv1 := [.ref 1, .retAddr 7, .long (wsg 0 98), xmk, .int 1]) (st1 := [.retAddr 7, .int 1]) (h1 := (124, I, J, R)) rfl ?_
  refine ev_902 (k := 5) h4 rfl rfl (by decide) (by decide) (x := 3) rfl ?_
  refine ev_go 4 (pc1 := 18) (lv1 := [.ref 1, .retAddr 7, .long (wsg 0 98), xmk, .int 1]) (st1 := [.int 1, .retAddr 7, .long (wsg 0 98)]) (h1 := (124, I, J, R)) rfl ?_
  refine ev_903 (k := 5) h4 rfl rfl (by decide) (by decide) (by decide) (by decide) (x := 97) rfl ?_
  refine ev_call (v1 := (some (.long (wsg (wsg 0 98) 97)))) (h1 := (124, I, J, R)) rfl rfl c2 ?_
  refine ev_go 5 (pc1 := 8) (lv1 := [.ref 1, .retAddr 7, .long (wsg (wsg 0 98) 97), xmk, .int 2]) (st1 := [.retAddr 7, .int 2]) (h1 := (124, I, J, R)) rfl ?_
  refine ev_902 (k := 5) h4 rfl rfl (by decide) (by decide) (x := 3) rfl ?_
  refine ev_go 4 (pc1 := 18) (lv1 := [.ref 1, .retAddr 7, .long (wsg (wsg 0 98) 97), xmk, .int 2]) (st1 := [.int 2, .retAddr 7, .long (wsg (wsg 0 98) 97)]) (h1 := (124, I, J, R)) rfl ?_
  refine ev_903 (k := 5) h4 rfl rfl (by decide) (by decide) (by decide) (by decide) (x := 114) rfl ?_
  refine ev_call (v1 := (some (.long (wsg (wsg (wsg 0 98) 97) 114)))) (h1 := (124, I, J, R)) rfl rfl c3 ?_
  refine ev_go 5 (pc1 := 8) (lv1 := [.ref 1, .retAddr 7, .long (wsg (wsg (wsg 0 98) 97) 114), xmk, .int 3]) (st1 := [.retAddr 7, .int 3]) (h1 := (124, I, J, R)) rfl ?_
  refine ev_902 (k := 5) h4 rfl rfl (by decide) (by decide) (x := 3) rfl ?_
  refine ev_go 4 (pc1 := 36) (lv1 := [.ref 1, .retAddr 7, .long (wsg (wsg (wsg 0 98) 97) 114), xmk, .int 3]) (st1 := [.int 1, .int (I 1 3)]) (h1 := (124, I, J, R)) rfl ?_
  refine ev_br (b1 := false) rfl rfl (xcd_nne (x := (I 1 3)) (y := 1) (by rw [show ((1 : Int32)).toInt = 1 from by decide]; first | exact b1 | omega)) ?_
  refine ev_go 4 (pc1 := 45) (lv1 := [.ref 1, .retAddr 7, .long (wsg (wsg (wsg 0 98) 97) 114), xmk, .int 3]) (st1 := [.int (lg_cmp (J 1 5) (wsg (wsg (wsg 0 98) 97) 114))]) (h1 := (124, I, J, R)) rfl ?_
  refine ev_br (b1 := false) rfl rfl (xcd_nne (x := (lg_cmp (J 1 5) (wsg (wsg (wsg 0 98) 97) 114))) (y := 0) (by rw [show ((0 : Int32)).toInt = 0 from by decide]; first | exact b2 | omega)) ?_
  refine ev_go 2 (pc1 := 53) (lv1 := [.ref 1, .retAddr 7, .long (wsg (wsg (wsg 0 98) 97) 114), xmk, .int 3]) (st1 := [.int 1]) (h1 := (124, I, J, R)) rfl ?_
  exact ev_ret rfl rfl
theorem iw_c3 : (wsg (wsg (wsg 0 98) 97) 114) = vF (kb 3) 0 (kwl 3) := by decide +kernel
theorem iw_run_3 {L : Nat} {xs : Nat → Int32} {d : Nat} {I : Nat → Nat → Int32} {J : Nat → Nat → Int64} {R : Nat → Nat → Nat} (hG : aGd R) (h4 : 4 ≤ d + 1) : ((I 1 3).toInt = 1 ∧ J 1 5 = vF (kb 3) 0 (kwl 3) ∧ xEv L xs (d + 1) 25 0 [.ref 1, .retAddr 7, xmk, xmk, xmk] [] (124, I, J, R) (some (.int 1)) (124, I, J, R)) ∨ (¬ ((I 1 3).toInt = 1 ∧ J 1 5 = vF (kb 3) 0 (kwl 3)) ∧ xEv L xs (d + 1) 25 0 [.ref 1, .retAddr 7, xmk, xmk, xmk] [] (124, I, J, R) (some (.int 0)) (124, I, J, R)) := by
  rw [← iw_c3]
  by_cases h1 : (I 1 3).toInt = 1
  · by_cases h2 : J 1 5 = (wsg (wsg (wsg 0 98) 97) 114)
    · exact Or.inl ⟨h1, h2, iw_2_3 hG h4 (wx_run hG _ _) (wx_run hG _ _) (wx_run hG _ _) h1 (by rw [h2]; unfold lg_cmp; rw [if_neg (by intro z; have := Int64.lt_iff_toInt_lt.mp z; omega), if_pos rfl]; rfl)⟩
    · refine Or.inr ⟨fun z => h2 z.2, iw_1_3 hG h4 (wx_run hG _ _) (wx_run hG _ _) (wx_run hG _ _) h1 ?_⟩
      unfold lg_cmp
      by_cases g : J 1 5 > (wsg (wsg (wsg 0 98) 97) 114)
      · rw [if_pos g]; decide
      · rw [if_neg g, if_neg h2]; decide
  · exact Or.inr ⟨fun z => h1 z.1, iw_0_3 hG h4 (wx_run hG _ _) (wx_run hG _ _) (wx_run hG _ _) h1⟩
set_option maxRecDepth 20000 in
theorem iw_0_4 {L : Nat} {xs : Nat → Int32} {d : Nat} {I : Nat → Nat → Int32} {J : Nat → Nat → Int64} {R : Nat → Nat → Nat} (hG : aGd R) (h4 : 4 ≤ d + 1) (c1 : xEv L xs d 24 0 [.long 0, xmk, .int 100] [] (124, I, J, R) (some (.long (wsg 0 100))) (124, I, J, R)) (c2 : xEv L xs d 24 0 [.long (wsg 0 100), xmk, .int 105] [] (124, I, J, R) (some (.long (wsg (wsg 0 100) 105))) (124, I, J, R)) (c3 : xEv L xs d 24 0 [.long (wsg (wsg 0 100) 105), xmk, .int 101] [] (124, I, J, R) (some (.long (wsg (wsg (wsg 0 100) 105) 101))) (124, I, J, R)) (c4 : xEv L xs d 24 0 [.long (wsg (wsg (wsg 0 100) 105) 101), xmk, .int 115] [] (124, I, J, R) (some (.long (wsg (wsg (wsg (wsg 0 100) 105) 101) 115))) (124, I, J, R)) (b1 : (I 1 3).toInt ≠ 1) : xEv L xs (d + 1) 25 0 [.ref 1, .retAddr 3, xmk, xmk, xmk] [] (124, I, J, R) (some (.int 0)) (124, I, J, R) := by
  refine ev_go 6 (pc1 := 8) (lv1 := [.ref 1, .retAddr 3, .long 0, xmk, .int 0]) (st1 := [.retAddr 3, .int 0]) (h1 := (124, I, J, R)) rfl ?_
  refine ev_902 (k := 1) h4 rfl rfl (by decide) (by decide) (x := 4) rfl ?_
  refine ev_go 4 (pc1 := 18) (lv1 := [.ref 1, .retAddr 3, .long 0, xmk, .int 0]) (st1 := [.int 0, .retAddr 3, .long 0]) (h1 := (124, I, J, R)) rfl ?_
  refine ev_903 (k := 1) h4 rfl rfl (by decide) (by decide) (by decide) (by decide) (x := 100) rfl ?_
  refine ev_call (v1 := (some (.long (wsg 0 100)))) (h1 := (124, I, J, R)) rfl rfl c1 ?_
  refine ev_go 5 (pc1 := 8) (lv1 := [.ref 1, .retAddr 3, .long (wsg 0 100), xmk, .int 1]) (st1 := [.retAddr 3, .int 1]) (h1 := (124, I, J, R)) rfl ?_
  refine ev_902 (k := 1) h4 rfl rfl (by decide) (by decide) (x := 4) rfl ?_
  refine ev_go 4 (pc1 := 18) (lv1 := [.ref 1, .retAddr 3, .long (wsg 0 100), xmk, .int 1]) (st1 := [.int 1, .retAddr 3, .long (wsg 0 100)]) (h1 := (124, I, J, R)) rfl ?_
  refine ev_903 (k := 1) h4 rfl rfl (by decide) (by decide) (by decide) (by decide) (x := 105) rfl ?_
  refine ev_call (v1 := (some (.long (wsg (wsg 0 100) 105)))) (h1 := (124, I, J, R)) rfl rfl c2 ?_
  refine ev_go 5 (pc1 := 8) (lv1 := [.ref 1, .retAddr 3, .long (wsg (wsg 0 100) 105), xmk, .int 2]) (st1 := [.retAddr 3, .int 2]) (h1 := (124, I, J, R)) rfl ?_
  refine ev_902 (k := 1) h4 rfl rfl (by decide) (by decide) (x := 4) rfl ?_
  refine ev_go 4 (pc1 := 18) (lv1 := [.ref 1, .retAddr 3, .long (wsg (wsg 0 100) 105), xmk, .int 2]) (st1 := [.int 2, .retAddr 3, .long (wsg (wsg 0 100) 105)]) (h1 := (124, I, J, R)) rfl ?_
  refine ev_903 (k := 1) h4 rfl rfl (by decide) (by decide) (by decide) (by decide) (x := 101) rfl ?_
  refine ev_call (v1 := (some (.long (wsg (wsg (wsg 0 100) 105) 101)))) (h1 := (124, I, J, R)) rfl rfl c3 ?_
  refine ev_go 5 (pc1 := 8) (lv1 := [.ref 1, .retAddr 3, .long (wsg (wsg (wsg 0 100) 105) 101), xmk, .int 3]) (st1 := [.retAddr 3, .int 3]) (h1 := (124, I, J, R)) rfl ?_
  refine ev_902 (k := 1) h4 rfl rfl (by decide) (by decide) (x := 4) rfl ?_
  refine ev_go 4 (pc1 := 18) (lv1 := [.ref 1, .retAddr 3, .long (wsg (wsg (wsg 0 100) 105) 101), xmk, .int 3]) (st1 := [.int 3, .retAddr 3, .long (wsg (wsg (wsg 0 100) 105) 101)]) (h1 := (124, I, J, R)) rfl ?_
  refine ev_903 (k := 1) h4 rfl rfl (by decide) (by decide) (by decide) (by decide) (x := 115) rfl ?_
  refine ev_call (v1 := (some (.long (wsg (wsg (wsg (wsg 0 100) 105) 101) 115)))) (h1 := (124, I, J, R)) rfl rfl c4 ?_
  refine ev_go 5 (pc1 := 8) (lv1 := [.ref 1, .retAddr 3, .long (wsg (wsg (wsg (wsg 0 100) 105) 101) 115), xmk, .int 4]) (st1 := [.retAddr 3, .int 4]) (h1 := (124, I, J, R)) rfl ?_
  refine ev_902 (k := 1) h4 rfl rfl (by decide) (by decide) (x := 4) rfl ?_
  refine ev_go 4 (pc1 := 36) (lv1 := [.ref 1, .retAddr 3, .long (wsg (wsg (wsg (wsg 0 100) 105) 101) 115), xmk, .int 4]) (st1 := [.int 1, .int (I 1 3)]) (h1 := (124, I, J, R)) rfl ?_
  refine ev_br (b1 := true) rfl rfl (xcd_ne (x := (I 1 3)) (y := 1) (by rw [show ((1 : Int32)).toInt = 1 from by decide]; first | exact b1 | omega)) ?_
  refine ev_go 1 (pc1 := 53) (lv1 := [.ref 1, .retAddr 3, .long (wsg (wsg (wsg (wsg 0 100) 105) 101) 115), xmk, .int 4]) (st1 := [.int 0]) (h1 := (124, I, J, R)) rfl ?_
  exact ev_ret rfl rfl
set_option maxRecDepth 20000 in
theorem iw_1_4 {L : Nat} {xs : Nat → Int32} {d : Nat} {I : Nat → Nat → Int32} {J : Nat → Nat → Int64} {R : Nat → Nat → Nat} (hG : aGd R) (h4 : 4 ≤ d + 1) (c1 : xEv L xs d 24 0 [.long 0, xmk, .int 100] [] (124, I, J, R) (some (.long (wsg 0 100))) (124, I, J, R)) (c2 : xEv L xs d 24 0 [.long (wsg 0 100), xmk, .int 105] [] (124, I, J, R) (some (.long (wsg (wsg 0 100) 105))) (124, I, J, R)) (c3 : xEv L xs d 24 0 [.long (wsg (wsg 0 100) 105), xmk, .int 101] [] (124, I, J, R) (some (.long (wsg (wsg (wsg 0 100) 105) 101))) (124, I, J, R)) (c4 : xEv L xs d 24 0 [.long (wsg (wsg (wsg 0 100) 105) 101), xmk, .int 115] [] (124, I, J, R) (some (.long (wsg (wsg (wsg (wsg 0 100) 105) 101) 115))) (124, I, J, R)) (b1 : (I 1 3).toInt = 1) (b2 : (lg_cmp (J 1 5) (wsg (wsg (wsg (wsg 0 100) 105) 101) 115)).toInt ≠ 0) : xEv L xs (d + 1) 25 0 [.ref 1, .retAddr 3, xmk, xmk, xmk] [] (124, I, J, R) (some (.int 0)) (124, I, J, R) := by
  refine ev_go 6 (pc1 := 8) (lv1 := [.ref 1, .retAddr 3, .long 0, xmk, .int 0]) (st1 := [.retAddr 3, .int 0]) (h1 := (124, I, J, R)) rfl ?_
  refine ev_902 (k := 1) h4 rfl rfl (by decide) (by decide) (x := 4) rfl ?_
  refine ev_go 4 (pc1 := 18) (lv1 := [.ref 1, .retAddr 3, .long 0, xmk, .int 0]) (st1 := [.int 0, .retAddr 3, .long 0]) (h1 := (124, I, J, R)) rfl ?_
  refine ev_903 (k := 1) h4 rfl rfl (by decide) (by decide) (by decide) (by decide) (x := 100) rfl ?_
  refine ev_call (v1 := (some (.long (wsg 0 100)))) (h1 := (124, I, J, R)) rfl rfl c1 ?_
  refine ev_go 5 (pc1 := 8) (lv1 := [.ref 1, .retAddr 3, .long (wsg 0 100), xmk, .int 1]) (st1 := [.retAddr 3, .int 1]) (h1 := (124, I, J, R)) rfl ?_
  refine ev_902 (k := 1) h4 rfl rfl (by decide) (by decide) (x := 4) rfl ?_
  refine ev_go 4 (pc1 := 18) (lv1 := [.ref 1, .retAddr 3, .long (wsg 0 100), xmk, .int 1]) (st1 := [.int 1, .retAddr 3, .long (wsg 0 100)]) (h1 := (124, I, J, R)) rfl ?_
  refine ev_903 (k := 1) h4 rfl rfl (by decide) (by decide) (by decide) (by decide) (x := 105) rfl ?_
  refine ev_call (v1 := (some (.long (wsg (wsg 0 100) 105)))) (h1 := (124, I, J, R)) rfl rfl c2 ?_
  refine ev_go 5 (pc1 := 8) (lv1 := [.ref 1, .retAddr 3, .long (wsg (wsg 0 100) 105), xmk, .int 2]) (st1 := [.retAddr 3, .int 2]) (h1 := (124, I, J, R)) rfl ?_
  refine ev_902 (k := 1) h4 rfl rfl (by decide) (by decide) (x := 4) rfl ?_
  refine ev_go 4 (pc1 := 18) (lv1 := [.ref 1, .retAddr 3, .long (wsg (wsg 0 100) 105), xmk, .int 2]) (st1 := [.int 2, .retAddr 3, .long (wsg (wsg 0 100) 105)]) (h1 := (124, I, J, R)) rfl ?_
  refine ev_903 (k := 1) h4 rfl rfl (by decide) (by decide) (by decide) (by decide) (x := 101) rfl ?_
  refine ev_call (v1 := (some (.long (wsg (wsg (wsg 0 100) 105) 101)))) (h1 := (124, I, J, R)) rfl rfl c3 ?_
  refine ev_go 5 (pc1 := 8) (lv1 := [.ref 1, .retAddr 3, .long (wsg (wsg (wsg 0 100) 105) 101), xmk, .int 3]) (st1 := [.retAddr 3, .int 3]) (h1 := (124, I, J, R)) rfl ?_
  refine ev_902 (k := 1) h4 rfl rfl (by decide) (by decide) (x := 4) rfl ?_
  refine ev_go 4 (pc1 := 18) (lv1 := [.ref 1, .retAddr 3, .long (wsg (wsg (wsg 0 100) 105) 101), xmk, .int 3]) (st1 := [.int 3, .retAddr 3, .long (wsg (wsg (wsg 0 100) 105) 101)]) (h1 := (124, I, J, R)) rfl ?_
  refine ev_903 (k := 1) h4 rfl rfl (by decide) (by decide) (by decide) (by decide) (x := 115) rfl ?_
  refine ev_call (v1 := (some (.long (wsg (wsg (wsg (wsg 0 100) 105) 101) 115)))) (h1 := (124, I, J, R)) rfl rfl c4 ?_
  refine ev_go 5 (pc1 := 8) (lv1 := [.ref 1, .retAddr 3, .long (wsg (wsg (wsg (wsg 0 100) 105) 101) 115), xmk, .int 4]) (st1 := [.retAddr 3, .int 4]) (h1 := (124, I, J, R)) rfl ?_
  refine ev_902 (k := 1) h4 rfl rfl (by decide) (by decide) (x := 4) rfl ?_
  refine ev_go 4 (pc1 := 36) (lv1 := [.ref 1, .retAddr 3, .long (wsg (wsg (wsg (wsg 0 100) 105) 101) 115), xmk, .int 4]) (st1 := [.int 1, .int (I 1 3)]) (h1 := (124, I, J, R)) rfl ?_
  refine ev_br (b1 := false) rfl rfl (xcd_nne (x := (I 1 3)) (y := 1) (by rw [show ((1 : Int32)).toInt = 1 from by decide]; first | exact b1 | omega)) ?_
  refine ev_go 4 (pc1 := 45) (lv1 := [.ref 1, .retAddr 3, .long (wsg (wsg (wsg (wsg 0 100) 105) 101) 115), xmk, .int 4]) (st1 := [.int (lg_cmp (J 1 5) (wsg (wsg (wsg (wsg 0 100) 105) 101) 115))]) (h1 := (124, I, J, R)) rfl ?_
  refine ev_br (b1 := true) rfl rfl (xcd_ne (x := (lg_cmp (J 1 5) (wsg (wsg (wsg (wsg 0 100) 105) 101) 115))) (y := 0) (by rw [show ((0 : Int32)).toInt = 0 from by decide]; first | exact b2 | omega)) ?_
  refine ev_go 1 (pc1 := 53) (lv1 := [.ref 1, .retAddr 3, .long (wsg (wsg (wsg (wsg 0 100) 105) 101) 115), xmk, .int 4]) (st1 := [.int 0]) (h1 := (124, I, J, R)) rfl ?_
  exact ev_ret rfl rfl
set_option maxRecDepth 20000 in
theorem iw_2_4 {L : Nat} {xs : Nat → Int32} {d : Nat} {I : Nat → Nat → Int32} {J : Nat → Nat → Int64} {R : Nat → Nat → Nat} (hG : aGd R) (h4 : 4 ≤ d + 1) (c1 : xEv L xs d 24 0 [.long 0, xmk, .int 100] [] (124, I, J, R) (some (.long (wsg 0 100))) (124, I, J, R)) (c2 : xEv L xs d 24 0 [.long (wsg 0 100), xmk, .int 105] [] (124, I, J, R) (some (.long (wsg (wsg 0 100) 105))) (124, I, J, R)) (c3 : xEv L xs d 24 0 [.long (wsg (wsg 0 100) 105), xmk, .int 101] [] (124, I, J, R) (some (.long (wsg (wsg (wsg 0 100) 105) 101))) (124, I, J, R)) (c4 : xEv L xs d 24 0 [.long (wsg (wsg (wsg 0 100) 105) 101), xmk, .int 115] [] (124, I, J, R) (some (.long (wsg (wsg (wsg (wsg 0 100) 105) 101) 115))) (124, I, J, R)) (b1 : (I 1 3).toInt = 1) (b2 : (lg_cmp (J 1 5) (wsg (wsg (wsg (wsg 0 100) 105) 101) 115)).toInt = 0) : xEv L xs (d + 1) 25 0 [.ref 1, .retAddr 3, xmk, xmk, xmk] [] (124, I, J, R) (some (.int 1)) (124, I, J, R) := by
  refine ev_go 6 (pc1 := 8) (lv1 := [.ref 1, .retAddr 3, .long 0, xmk, .int 0]) (st1 := [.retAddr 3, .int 0]) (h1 := (124, I, J, R)) rfl ?_
  refine ev_902 (k := 1) h4 rfl rfl (by decide) (by decide) (x := 4) rfl ?_
  refine ev_go 4 (pc1 := 18) (lv1 := [.ref 1, .retAddr 3, .long 0, xmk, .int 0]) (st1 := [.int 0, .retAddr 3, .long 0]) (h1 := (124, I, J, R)) rfl ?_
  refine ev_903 (k := 1) h4 rfl rfl (by decide) (by decide) (by decide) (by decide) (x := 100) rfl ?_
  refine ev_call (v1 := (some (.long (wsg 0 100)))) (h1 := (124, I, J, R)) rfl rfl c1 ?_
  refine ev_go 5 (pc1 := 8) (lv1 := [.ref 1, .retAddr 3, .long (wsg 0 100), xmk, .int 1]) (st1 := [.retAddr 3, .int 1]) (h1 := (124, I, J, R)) rfl ?_
  refine ev_902 (k := 1) h4 rfl rfl (by decide) (by decide) (x := 4) rfl ?_
  refine ev_go 4 (pc1 := 18) (lv1 := [.ref 1, .retAddr 3, .long (wsg 0 100), xmk, .int 1]) (st1 := [.int 1, .retAddr 3, .long (wsg 0 100)]) (h1 := (124, I, J, R)) rfl ?_
  refine ev_903 (k := 1) h4 rfl rfl (by decide) (by decide) (by decide) (by decide) (x := 105) rfl ?_
  refine ev_call (v1 := (some (.long (wsg (wsg 0 100) 105)))) (h1 := (124, I, J, R)) rfl rfl c2 ?_
  refine ev_go 5 (pc1 := 8) (lv1 := [.ref 1, .retAddr 3, .long (wsg (wsg 0 100) 105), xmk, .int 2]) (st1 := [.retAddr 3, .int 2]) (h1 := (124, I, J, R)) rfl ?_
  refine ev_902 (k := 1) h4 rfl rfl (by decide) (by decide) (x := 4) rfl ?_
  refine ev_go 4 (pc1 := 18) (lv1 := [.ref 1, .retAddr 3, .long (wsg (wsg 0 100) 105), xmk, .int 2]) (st1 := [.int 2, .retAddr 3, .long (wsg (wsg 0 100) 105)]) (h1 := (124, I, J, R)) rfl ?_
  refine ev_903 (k := 1) h4 rfl rfl (by decide) (by decide) (by decide) (by decide) (x := 101) rfl ?_
  refine ev_call (v1 := (some (.long (wsg (wsg (wsg 0 100) 105) 101)))) (h1 := (124, I, J, R)) rfl rfl c3 ?_
  refine ev_go 5 (pc1 := 8) (lv1 := [.ref 1, .retAddr 3, .long (wsg (wsg (wsg 0 100) 105) 101), xmk, .int 3]) (st1 := [.retAddr 3, .int 3]) (h1 := (124, I, J, R)) rfl ?_
  refine ev_902 (k := 1) h4 rfl rfl (by decide) (by decide) (x := 4) rfl ?_
  refine ev_go 4 (pc1 := 18) (lv1 := [.ref 1, .retAddr 3, .long (wsg (wsg (wsg 0 100) 105) 101), xmk, .int 3]) (st1 := [.int 3, .retAddr 3, .long (wsg (wsg (wsg 0 100) 105) 101)]) (h1 := (124, I, J, R)) rfl ?_
  refine ev_903 (k := 1) h4 rfl rfl (by decide) (by decide) (by decide) (by decide) (x := 115) rfl ?_
  refine ev_call (v1 := (some (.long (wsg (wsg (wsg (wsg 0 100) 105) 101) 115)))) (h1 := (124, I, J, R)) rfl rfl c4 ?_
  refine ev_go 5 (pc1 := 8) (lv1 := [.ref 1, .retAddr 3, .long (wsg (wsg (wsg (wsg 0 100) 105) 101) 115), xmk, .int 4]) (st1 := [.retAddr 3, .int 4]) (h1 := (124, I, J, R)) rfl ?_
  refine ev_902 (k := 1) h4 rfl rfl (by decide) (by decide) (x := 4) rfl ?_
  refine ev_go 4 (pc1 := 36) (lv1 := [.ref 1, .retAddr 3, .long (wsg (wsg (wsg (wsg 0 100) 105) 101) 115), xmk, .int 4]) (st1 := [.int 1, .int (I 1 3)]) (h1 := (124, I, J, R)) rfl ?_
  refine ev_br (b1 := false) rfl rfl (xcd_nne (x := (I 1 3)) (y := 1) (by rw [show ((1 : Int32)).toInt = 1 from by decide]; first | exact b1 | omega)) ?_
  refine ev_go 4 (pc1 := 45) (lv1 := [.ref 1, .retAddr 3, .long (wsg (wsg (wsg (wsg 0 100) 105) 101) 115), xmk, .int 4]) (st1 := [.int (lg_cmp (J 1 5) (wsg (wsg (wsg (wsg 0 100) 105) 101) 115))]) (h1 := (124, I, J, R)) rfl ?_
  refine ev_br (b1 := false) rfl rfl (xcd_nne (x := (lg_cmp (J 1 5) (wsg (wsg (wsg (wsg 0 100) 105) 101) 115))) (y := 0) (by rw [show ((0 : Int32)).toInt = 0 from by decide]; first | exact b2 | omega)) ?_
  refine ev_go 2 (pc1 := 53) (lv1 := [.ref 1, .retAddr 3, .long (wsg (wsg (wsg (wsg 0 100) 105) 101) 115), xmk, .int 4]) (st1 := [.int 1]) (h1 := (124, I, J, R)) rfl ?_
  exact ev_ret rfl rfl
theorem iw_c4 : (wsg (wsg (wsg (wsg 0 100) 105) 101) 115) = vF (kb 4) 0 (kwl 4) := by decide +kernel
theorem iw_run_4 {L : Nat} {xs : Nat → Int32} {d : Nat} {I : Nat → Nat → Int32} {J : Nat → Nat → Int64} {R : Nat → Nat → Nat} (hG : aGd R) (h4 : 4 ≤ d + 1) : ((I 1 3).toInt = 1 ∧ J 1 5 = vF (kb 4) 0 (kwl 4) ∧ xEv L xs (d + 1) 25 0 [.ref 1, .retAddr 3, xmk, xmk, xmk] [] (124, I, J, R) (some (.int 1)) (124, I, J, R)) ∨ (¬ ((I 1 3).toInt = 1 ∧ J 1 5 = vF (kb 4) 0 (kwl 4)) ∧ xEv L xs (d + 1) 25 0 [.ref 1, .retAddr 3, xmk, xmk, xmk] [] (124, I, J, R) (some (.int 0)) (124, I, J, R)) := by
  rw [← iw_c4]
  by_cases h1 : (I 1 3).toInt = 1
  · by_cases h2 : J 1 5 = (wsg (wsg (wsg (wsg 0 100) 105) 101) 115)
    · exact Or.inl ⟨h1, h2, iw_2_4 hG h4 (wx_run hG _ _) (wx_run hG _ _) (wx_run hG _ _) (wx_run hG _ _) h1 (by rw [h2]; unfold lg_cmp; rw [if_neg (by intro z; have := Int64.lt_iff_toInt_lt.mp z; omega), if_pos rfl]; rfl)⟩
    · refine Or.inr ⟨fun z => h2 z.2, iw_1_4 hG h4 (wx_run hG _ _) (wx_run hG _ _) (wx_run hG _ _) (wx_run hG _ _) h1 ?_⟩
      unfold lg_cmp
      by_cases g : J 1 5 > (wsg (wsg (wsg (wsg 0 100) 105) 101) 115)
      · rw [if_pos g]; decide
      · rw [if_neg g, if_neg h2]; decide
  · exact Or.inr ⟨fun z => h1 z.1, iw_0_4 hG h4 (wx_run hG _ _) (wx_run hG _ _) (wx_run hG _ _) (wx_run hG _ _) h1⟩
set_option maxRecDepth 20000 in
theorem iw_0_5 {L : Nat} {xs : Nat → Int32} {d : Nat} {I : Nat → Nat → Int32} {J : Nat → Nat → Int64} {R : Nat → Nat → Nat} (hG : aGd R) (h4 : 4 ≤ d + 1) (c1 : xEv L xs d 24 0 [.long 0, xmk, .int 99] [] (124, I, J, R) (some (.long (wsg 0 99))) (124, I, J, R)) (c2 : xEv L xs d 24 0 [.long (wsg 0 99), xmk, .int 104] [] (124, I, J, R) (some (.long (wsg (wsg 0 99) 104))) (124, I, J, R)) (c3 : xEv L xs d 24 0 [.long (wsg (wsg 0 99) 104), xmk, .int 97] [] (124, I, J, R) (some (.long (wsg (wsg (wsg 0 99) 104) 97))) (124, I, J, R)) (c4 : xEv L xs d 24 0 [.long (wsg (wsg (wsg 0 99) 104) 97), xmk, .int 110] [] (124, I, J, R) (some (.long (wsg (wsg (wsg (wsg 0 99) 104) 97) 110))) (124, I, J, R)) (c5 : xEv L xs d 24 0 [.long (wsg (wsg (wsg (wsg 0 99) 104) 97) 110), xmk, .int 99] [] (124, I, J, R) (some (.long (wsg (wsg (wsg (wsg (wsg 0 99) 104) 97) 110) 99))) (124, I, J, R)) (c6 : xEv L xs d 24 0 [.long (wsg (wsg (wsg (wsg (wsg 0 99) 104) 97) 110) 99), xmk, .int 101] [] (124, I, J, R) (some (.long (wsg (wsg (wsg (wsg (wsg (wsg 0 99) 104) 97) 110) 99) 101))) (124, I, J, R)) (b1 : (I 1 3).toInt ≠ 1) : xEv L xs (d + 1) 25 0 [.ref 1, .retAddr 5, xmk, xmk, xmk] [] (124, I, J, R) (some (.int 0)) (124, I, J, R) := by
  refine ev_go 6 (pc1 := 8) (lv1 := [.ref 1, .retAddr 5, .long 0, xmk, .int 0]) (st1 := [.retAddr 5, .int 0]) (h1 := (124, I, J, R)) rfl ?_
  refine ev_902 (k := 3) h4 rfl rfl (by decide) (by decide) (x := 6) rfl ?_
  refine ev_go 4 (pc1 := 18) (lv1 := [.ref 1, .retAddr 5, .long 0, xmk, .int 0]) (st1 := [.int 0, .retAddr 5, .long 0]) (h1 := (124, I, J, R)) rfl ?_
  refine ev_903 (k := 3) h4 rfl rfl (by decide) (by decide) (by decide) (by decide) (x := 99) rfl ?_
  refine ev_call (v1 := (some (.long (wsg 0 99)))) (h1 := (124, I, J, R)) rfl rfl c1 ?_
  refine ev_go 5 (pc1 := 8) (lv1 := [.ref 1, .retAddr 5, .long (wsg 0 99), xmk, .int 1]) (st1 := [.retAddr 5, .int 1]) (h1 := (124, I, J, R)) rfl ?_
  refine ev_902 (k := 3) h4 rfl rfl (by decide) (by decide) (x := 6) rfl ?_
  refine ev_go 4 (pc1 := 18) (lv1 := [.ref 1, .retAddr 5, .long (wsg 0 99), xmk, .int 1]) (st1 := [.int 1, .retAddr 5, .long (wsg 0 99)]) (h1 := (124, I, J, R)) rfl ?_
  refine ev_903 (k := 3) h4 rfl rfl (by decide) (by decide) (by decide) (by decide) (x := 104) rfl ?_
  refine ev_call (v1 := (some (.long (wsg (wsg 0 99) 104)))) (h1 := (124, I, J, R)) rfl rfl c2 ?_
  refine ev_go 5 (pc1 := 8) (lv1 := [.ref 1, .retAddr 5, .long (wsg (wsg 0 99) 104), xmk, .int 2]) (st1 := [.retAddr 5, .int 2]) (h1 := (124, I, J, R)) rfl ?_
  refine ev_902 (k := 3) h4 rfl rfl (by decide) (by decide) (x := 6) rfl ?_
  refine ev_go 4 (pc1 := 18) (lv1 := [.ref 1, .retAddr 5, .long (wsg (wsg 0 99) 104), xmk, .int 2]) (st1 := [.int 2, .retAddr 5, .long (wsg (wsg 0 99) 104)]) (h1 := (124, I, J, R)) rfl ?_
  refine ev_903 (k := 3) h4 rfl rfl (by decide) (by decide) (by decide) (by decide) (x := 97) rfl ?_
  refine ev_call (v1 := (some (.long (wsg (wsg (wsg 0 99) 104) 97)))) (h1 := (124, I, J, R)) rfl rfl c3 ?_
  refine ev_go 5 (pc1 := 8) (lv1 := [.ref 1, .retAddr 5, .long (wsg (wsg (wsg 0 99) 104) 97), xmk, .int 3]) (st1 := [.retAddr 5, .int 3]) (h1 := (124, I, J, R)) rfl ?_
  refine ev_902 (k := 3) h4 rfl rfl (by decide) (by decide) (x := 6) rfl ?_
  refine ev_go 4 (pc1 := 18) (lv1 := [.ref 1, .retAddr 5, .long (wsg (wsg (wsg 0 99) 104) 97), xmk, .int 3]) (st1 := [.int 3, .retAddr 5, .long (wsg (wsg (wsg 0 99) 104) 97)]) (h1 := (124, I, J, R)) rfl ?_
  refine ev_903 (k := 3) h4 rfl rfl (by decide) (by decide) (by decide) (by decide) (x := 110) rfl ?_
  refine ev_call (v1 := (some (.long (wsg (wsg (wsg (wsg 0 99) 104) 97) 110)))) (h1 := (124, I, J, R)) rfl rfl c4 ?_
  refine ev_go 5 (pc1 := 8) (lv1 := [.ref 1, .retAddr 5, .long (wsg (wsg (wsg (wsg 0 99) 104) 97) 110), xmk, .int 4]) (st1 := [.retAddr 5, .int 4]) (h1 := (124, I, J, R)) rfl ?_
  refine ev_902 (k := 3) h4 rfl rfl (by decide) (by decide) (x := 6) rfl ?_
  refine ev_go 4 (pc1 := 18) (lv1 := [.ref 1, .retAddr 5, .long (wsg (wsg (wsg (wsg 0 99) 104) 97) 110), xmk, .int 4]) (st1 := [.int 4, .retAddr 5, .long (wsg (wsg (wsg (wsg 0 99) 104) 97) 110)]) (h1 := (124, I, J, R)) rfl ?_
  refine ev_903 (k := 3) h4 rfl rfl (by decide) (by decide) (by decide) (by decide) (x := 99) rfl ?_
  refine ev_call (v1 := (some (.long (wsg (wsg (wsg (wsg (wsg 0 99) 104) 97) 110) 99)))) (h1 := (124, I, J, R)) rfl rfl c5 ?_
  refine ev_go 5 (pc1 := 8) (lv1 := [.ref 1, .retAddr 5, .long (wsg (wsg (wsg (wsg (wsg 0 99) 104) 97) 110) 99), xmk, .int 5]) (st1 := [.retAddr 5, .int 5]) (h1 := (124, I, J, R)) rfl ?_
  refine ev_902 (k := 3) h4 rfl rfl (by decide) (by decide) (x := 6) rfl ?_
  refine ev_go 4 (pc1 := 18) (lv1 := [.ref 1, .retAddr 5, .long (wsg (wsg (wsg (wsg (wsg 0 99) 104) 97) 110) 99), xmk, .int 5]) (st1 := [.int 5, .retAddr 5, .long (wsg (wsg (wsg (wsg (wsg 0 99) 104) 97) 110) 99)]) (h1 := (124, I, J, R)) rfl ?_
  refine ev_903 (k := 3) h4 rfl rfl (by decide) (by decide) (by decide) (by decide) (x := 101) rfl ?_
  refine ev_call (v1 := (some (.long (wsg (wsg (wsg (wsg (wsg (wsg 0 99) 104) 97) 110) 99) 101)))) (h1 := (124, I, J, R)) rfl rfl c6 ?_
  refine ev_go 5 (pc1 := 8) (lv1 := [.ref 1, .retAddr 5, .long (wsg (wsg (wsg (wsg (wsg (wsg 0 99) 104) 97) 110) 99) 101), xmk, .int 6]) (st1 := [.retAddr 5, .int 6]) (h1 := (124, I, J, R)) rfl ?_
  refine ev_902 (k := 3) h4 rfl rfl (by decide) (by decide) (x := 6) rfl ?_
  refine ev_go 4 (pc1 := 36) (lv1 := [.ref 1, .retAddr 5, .long (wsg (wsg (wsg (wsg (wsg (wsg 0 99) 104) 97) 110) 99) 101), xmk, .int 6]) (st1 := [.int 1, .int (I 1 3)]) (h1 := (124, I, J, R)) rfl ?_
  refine ev_br (b1 := true) rfl rfl (xcd_ne (x := (I 1 3)) (y := 1) (by rw [show ((1 : Int32)).toInt = 1 from by decide]; first | exact b1 | omega)) ?_
  refine ev_go 1 (pc1 := 53) (lv1 := [.ref 1, .retAddr 5, .long (wsg (wsg (wsg (wsg (wsg (wsg 0 99) 104) 97) 110) 99) 101), xmk, .int 6]) (st1 := [.int 0]) (h1 := (124, I, J, R)) rfl ?_
  exact ev_ret rfl rfl
set_option maxRecDepth 20000 in
theorem iw_1_5 {L : Nat} {xs : Nat → Int32} {d : Nat} {I : Nat → Nat → Int32} {J : Nat → Nat → Int64} {R : Nat → Nat → Nat} (hG : aGd R) (h4 : 4 ≤ d + 1) (c1 : xEv L xs d 24 0 [.long 0, xmk, .int 99] [] (124, I, J, R) (some (.long (wsg 0 99))) (124, I, J, R)) (c2 : xEv L xs d 24 0 [.long (wsg 0 99), xmk, .int 104] [] (124, I, J, R) (some (.long (wsg (wsg 0 99) 104))) (124, I, J, R)) (c3 : xEv L xs d 24 0 [.long (wsg (wsg 0 99) 104), xmk, .int 97] [] (124, I, J, R) (some (.long (wsg (wsg (wsg 0 99) 104) 97))) (124, I, J, R)) (c4 : xEv L xs d 24 0 [.long (wsg (wsg (wsg 0 99) 104) 97), xmk, .int 110] [] (124, I, J, R) (some (.long (wsg (wsg (wsg (wsg 0 99) 104) 97) 110))) (124, I, J, R)) (c5 : xEv L xs d 24 0 [.long (wsg (wsg (wsg (wsg 0 99) 104) 97) 110), xmk, .int 99] [] (124, I, J, R) (some (.long (wsg (wsg (wsg (wsg (wsg 0 99) 104) 97) 110) 99))) (124, I, J, R)) (c6 : xEv L xs d 24 0 [.long (wsg (wsg (wsg (wsg (wsg 0 99) 104) 97) 110) 99), xmk, .int 101] [] (124, I, J, R) (some (.long (wsg (wsg (wsg (wsg (wsg (wsg 0 99) 104) 97) 110) 99) 101))) (124, I, J, R)) (b1 : (I 1 3).toInt = 1) (b2 : (lg_cmp (J 1 5) (wsg (wsg (wsg (wsg (wsg (wsg 0 99) 104) 97) 110) 99) 101)).toInt ≠ 0) : xEv L xs (d + 1) 25 0 [.ref 1, .retAddr 5, xmk, xmk, xmk] [] (124, I, J, R) (some (.int 0)) (124, I, J, R) := by
  refine ev_go 6 (pc1 := 8) (lv1 := [.ref 1, .retAddr 5, .long 0, xmk, .int 0]) (st1 := [.retAddr 5, .int 0]) (h1 := (124, I, J, R)) rfl ?_
  refine ev_902 (k := 3) h4 rfl rfl (by decide) (by decide) (x := 6) rfl ?_
  refine ev_go 4 (pc1 := 18) (lv1 := [.ref 1, .retAddr 5, .long 0, xmk, .int 0]) (st1 := [.int 0, .retAddr 5, .long 0]) (h1 := (124, I, J, R)) rfl ?_
  refine ev_903 (k := 3) h4 rfl rfl (by decide) (by decide) (by decide) (by decide) (x := 99) rfl ?_
  refine ev_call (v1 := (some (.long (wsg 0 99)))) (h1 := (124, I, J, R)) rfl rfl c1 ?_
  refine ev_go 5 (pc1 := 8) (lv1 := [.ref 1, .retAddr 5, .long (wsg 0 99), xmk, .int 1]) (st1 := [.retAddr 5, .int 1]) (h1 := (124, I, J, R)) rfl ?_
  refine ev_902 (k := 3) h4 rfl rfl (by decide) (by decide) (x := 6) rfl ?_
  refine ev_go 4 (pc1 := 18) (lv1 := [.ref 1, .retAddr 5, .long (wsg 0 99), xmk, .int 1]) (st1 := [.int 1, .retAddr 5, .long (wsg 0 99)]) (h1 := (124, I, J, R)) rfl ?_
  refine ev_903 (k := 3) h4 rfl rfl (by decide) (by decide) (by decide) (by decide) (x := 104) rfl ?_
  refine ev_call (v1 := (some (.long (wsg (wsg 0 99) 104)))) (h1 := (124, I, J, R)) rfl rfl c2 ?_
  refine ev_go 5 (pc1 := 8) (lv1 := [.ref 1, .retAddr 5, .long (wsg (wsg 0 99) 104), xmk, .int 2]) (st1 := [.retAddr 5, .int 2]) (h1 := (124, I, J, R)) rfl ?_
  refine ev_902 (k := 3) h4 rfl rfl (by decide) (by decide) (x := 6) rfl ?_
  refine ev_go 4 (pc1 := 18) (lv1 := [.ref 1, .retAddr 5, .long (wsg (wsg 0 99) 104), xmk, .int 2]) (st1 := [.int 2, .retAddr 5, .long (wsg (wsg 0 99) 104)]) (h1 := (124, I, J, R)) rfl ?_
  refine ev_903 (k := 3) h4 rfl rfl (by decide) (by decide) (by decide) (by decide) (x := 97) rfl ?_
  refine ev_call (v1 := (some (.long (wsg (wsg (wsg 0 99) 104) 97)))) (h1 := (124, I, J, R)) rfl rfl c3 ?_
  refine ev_go 5 (pc1 := 8) (lv1 := [.ref 1, .retAddr 5, .long (wsg (wsg (wsg 0 99) 104) 97), xmk, .int 3]) (st1 := [.retAddr 5, .int 3]) (h1 := (124, I, J, R)) rfl ?_
  refine ev_902 (k := 3) h4 rfl rfl (by decide) (by decide) (x := 6) rfl ?_
  refine ev_go 4 (pc1 := 18) (lv1 := [.ref 1, .retAddr 5, .long (wsg (wsg (wsg 0 99) 104) 97), xmk, .int 3]) (st1 := [.int 3, .retAddr 5, .long (wsg (wsg (wsg 0 99) 104) 97)]) (h1 := (124, I, J, R)) rfl ?_
  refine ev_903 (k := 3) h4 rfl rfl (by decide) (by decide) (by decide) (by decide) (x := 110) rfl ?_
  refine ev_call (v1 := (some (.long (wsg (wsg (wsg (wsg 0 99) 104) 97) 110)))) (h1 := (124, I, J, R)) rfl rfl c4 ?_
  refine ev_go 5 (pc1 := 8) (lv1 := [.ref 1, .retAddr 5, .long (wsg (wsg (wsg (wsg 0 99) 104) 97) 110), xmk, .int 4]) (st1 := [.retAddr 5, .int 4]) (h1 := (124, I, J, R)) rfl ?_
  refine ev_902 (k := 3) h4 rfl rfl (by decide) (by decide) (x := 6) rfl ?_
  refine ev_go 4 (pc1 := 18) (lv1 := [.ref 1, .retAddr 5, .long (wsg (wsg (wsg (wsg 0 99) 104) 97) 110), xmk, .int 4]) (st1 := [.int 4, .retAddr 5, .long (wsg (wsg (wsg (wsg 0 99) 104) 97) 110)]) (h1 := (124, I, J, R)) rfl ?_
  refine ev_903 (k := 3) h4 rfl rfl (by decide) (by decide) (by decide) (by decide) (x := 99) rfl ?_
  refine ev_call (v1 := (some (.long (wsg (wsg (wsg (wsg (wsg 0 99) 104) 97) 110) 99)))) (h1 := (124, I, J, R)) rfl rfl c5 ?_
  refine ev_go 5 (pc1 := 8) (lv1 := [.ref 1, .retAddr 5, .long (wsg (wsg (wsg (wsg (wsg 0 99) 104) 97) 110) 99), xmk, .int 5]) (st1 := [.retAddr 5, .int 5]) (h1 := (124, I, J, R)) rfl ?_
  refine ev_902 (k := 3) h4 rfl rfl (by decide) (by decide) (x := 6) rfl ?_
  refine ev_go 4 (pc1 := 18) (lv1 := [.ref 1, .retAddr 5, .long (wsg (wsg (wsg (wsg (wsg 0 99) 104) 97) 110) 99), xmk, .int 5]) (st1 := [.int 5, .retAddr 5, .long (wsg (wsg (wsg (wsg (wsg 0 99) 104) 97) 110) 99)]) (h1 := (124, I, J, R)) rfl ?_
  refine ev_903 (k := 3) h4 rfl rfl (by decide) (by decide) (by decide) (by decide) (x := 101) rfl ?_
  refine ev_call (v1 := (some (.long (wsg (wsg (wsg (wsg (wsg (wsg 0 99) 104) 97) 110) 99) 101)))) (h1 := (124, I, J, R)) rfl rfl c6 ?_
  refine ev_go 5 (pc1 := 8) (lv1 := [.ref 1, .retAddr 5, .long (wsg (wsg (wsg (wsg (wsg (wsg 0 99) 104) 97) 110) 99) 101), xmk, .int 6]) (st1 := [.retAddr 5, .int 6]) (h1 := (124, I, J, R)) rfl ?_
  refine ev_902 (k := 3) h4 rfl rfl (by decide) (by decide) (x := 6) rfl ?_
  refine ev_go 4 (pc1 := 36) (lv1 := [.ref 1, .retAddr 5, .long (wsg (wsg (wsg (wsg (wsg (wsg 0 99) 104) 97) 110) 99) 101), xmk, .int 6]) (st1 := [.int 1, .int (I 1 3)]) (h1 := (124, I, J, R)) rfl ?_
  refine ev_br (b1 := false) rfl rfl (xcd_nne (x := (I 1 3)) (y := 1) (by rw [show ((1 : Int32)).toInt = 1 from by decide]; first | exact b1 | omega)) ?_
  refine ev_go 4 (pc1 := 45) (lv1 := [.ref 1, .retAddr 5, .long (wsg (wsg (wsg (wsg (wsg (wsg 0 99) 104) 97) 110) 99) 101), xmk, .int 6]) (st1 := [.int (lg_cmp (J 1 5) (wsg (wsg (wsg (wsg (wsg (wsg 0 99) 104) 97) 110) 99) 101))]) (h1 := (124, I, J, R)) rfl ?_
  refine ev_br (b1 := true) rfl rfl (xcd_ne (x := (lg_cmp (J 1 5) (wsg (wsg (wsg (wsg (wsg (wsg 0 99) 104) 97) 110) 99) 101))) (y := 0) (by rw [show ((0 : Int32)).toInt = 0 from by decide]; first | exact b2 | omega)) ?_
  refine ev_go 1 (pc1 := 53) (lv1 := [.ref 1, .retAddr 5, .long (wsg (wsg (wsg (wsg (wsg (wsg 0 99) 104) 97) 110) 99) 101), xmk, .int 6]) (st1 := [.int 0]) (h1 := (124, I, J, R)) rfl ?_
  exact ev_ret rfl rfl
set_option maxRecDepth 20000 in
theorem iw_2_5 {L : Nat} {xs : Nat → Int32} {d : Nat} {I : Nat → Nat → Int32} {J : Nat → Nat → Int64} {R : Nat → Nat → Nat} (hG : aGd R) (h4 : 4 ≤ d + 1) (c1 : xEv L xs d 24 0 [.long 0, xmk, .int 99] [] (124, I, J, R) (some (.long (wsg 0 99))) (124, I, J, R)) (c2 : xEv L xs d 24 0 [.long (wsg 0 99), xmk, .int 104] [] (124, I, J, R) (some (.long (wsg (wsg 0 99) 104))) (124, I, J, R)) (c3 : xEv L xs d 24 0 [.long (wsg (wsg 0 99) 104), xmk, .int 97] [] (124, I, J, R) (some (.long (wsg (wsg (wsg 0 99) 104) 97))) (124, I, J, R)) (c4 : xEv L xs d 24 0 [.long (wsg (wsg (wsg 0 99) 104) 97), xmk, .int 110] [] (124, I, J, R) (some (.long (wsg (wsg (wsg (wsg 0 99) 104) 97) 110))) (124, I, J, R)) (c5 : xEv L xs d 24 0 [.long (wsg (wsg (wsg (wsg 0 99) 104) 97) 110), xmk, .int 99] [] (124, I, J, R) (some (.long (wsg (wsg (wsg (wsg (wsg 0 99) 104) 97) 110) 99))) (124, I, J, R)) (c6 : xEv L xs d 24 0 [.long (wsg (wsg (wsg (wsg (wsg 0 99) 104) 97) 110) 99), xmk, .int 101] [] (124, I, J, R) (some (.long (wsg (wsg (wsg (wsg (wsg (wsg 0 99) 104) 97) 110) 99) 101))) (124, I, J, R)) (b1 : (I 1 3).toInt = 1) (b2 : (lg_cmp (J 1 5) (wsg (wsg (wsg (wsg (wsg (wsg 0 99) 104) 97) 110) 99) 101)).toInt = 0) : xEv L xs (d + 1) 25 0 [.ref 1, .retAddr 5, xmk, xmk, xmk] [] (124, I, J, R) (some (.int 1)) (124, I, J, R) := by
  refine ev_go 6 (pc1 := 8) (lv1 := [.ref 1, .retAddr 5, .long 0, xmk, .int 0]) (st1 := [.retAddr 5, .int 0]) (h1 := (124, I, J, R)) rfl ?_
  refine ev_902 (k := 3) h4 rfl rfl (by decide) (by decide) (x := 6) rfl ?_
  refine ev_go 4 (pc1 := 18) (lv1 := [.ref 1, .retAddr 5, .long 0, xmk, .int 0]) (st1 := [.int 0, .retAddr 5, .long 0]) (h1 := (124, I, J, R)) rfl ?_
  refine ev_903 (k := 3) h4 rfl rfl (by decide) (by decide) (by decide) (by decide) (x := 99) rfl ?_
  refine ev_call (v1 := (some (.long (wsg 0 99)))) (h1 := (124, I, J, R)) rfl rfl c1 ?_
  refine ev_go 5 (pc1 := 8) (lv1 := [.ref 1, .retAddr 5, .long (wsg 0 99), xmk, .int 1]) (st1 := [.retAddr 5, .int 1]) (h1 := (124, I, J, R)) rfl ?_
  refine ev_902 (k := 3) h4 rfl rfl (by decide) (by decide) (x := 6) rfl ?_
  refine ev_go 4 (pc1 := 18) (lv1 := [.ref 1, .retAddr 5, .long (wsg 0 99), xmk, .int 1]) (st1 := [.int 1, .retAddr 5, .long (wsg 0 99)]) (h1 := (124, I, J, R)) rfl ?_
  refine ev_903 (k := 3) h4 rfl rfl (by decide) (by decide) (by decide) (by decide) (x := 104) rfl ?_
  refine ev_call (v1 := (some (.long (wsg (wsg 0 99) 104)))) (h1 := (124, I, J, R)) rfl rfl c2 ?_
  refine ev_go 5 (pc1 := 8) (lv1 := [.ref 1, .retAddr 5, .long (wsg (wsg 0 99) 104), xmk, .int 2]) (st1 := [.retAddr 5, .int 2]) (h1 := (124, I, J, R)) rfl ?_
  refine ev_902 (k := 3) h4 rfl rfl (by decide) (by decide) (x := 6) rfl ?_
  refine ev_go 4 (pc1 := 18) (lv1 := [.ref 1, .retAddr 5, .long (wsg (wsg 0 99) 104), xmk, .int 2]) (st1 := [.int 2, .retAddr 5, .long (wsg (wsg 0 99) 104)]) (h1 := (124, I, J, R)) rfl ?_
  refine ev_903 (k := 3) h4 rfl rfl (by decide) (by decide) (by decide) (by decide) (x := 97) rfl ?_
  refine ev_call (v1 := (some (.long (wsg (wsg (wsg 0 99) 104) 97)))) (h1 := (124, I, J, R)) rfl rfl c3 ?_
  refine ev_go 5 (pc1 := 8) (lv1 := [.ref 1, .retAddr 5, .long (wsg (wsg (wsg 0 99) 104) 97), xmk, .int 3]) (st1 := [.retAddr 5, .int 3]) (h1 := (124, I, J, R)) rfl ?_
  refine ev_902 (k := 3) h4 rfl rfl (by decide) (by decide) (x := 6) rfl ?_
  refine ev_go 4 (pc1 := 18) (lv1 := [.ref 1, .retAddr 5, .long (wsg (wsg (wsg 0 99) 104) 97), xmk, .int 3]) (st1 := [.int 3, .retAddr 5, .long (wsg (wsg (wsg 0 99) 104) 97)]) (h1 := (124, I, J, R)) rfl ?_
  refine ev_903 (k := 3) h4 rfl rfl (by decide) (by decide) (by decide) (by decide) (x := 110) rfl ?_
  refine ev_call (v1 := (some (.long (wsg (wsg (wsg (wsg 0 99) 104) 97) 110)))) (h1 := (124, I, J, R)) rfl rfl c4 ?_
  refine ev_go 5 (pc1 := 8) (lv1 := [.ref 1, .retAddr 5, .long (wsg (wsg (wsg (wsg 0 99) 104) 97) 110), xmk, .int 4]) (st1 := [.retAddr 5, .int 4]) (h1 := (124, I, J, R)) rfl ?_
  refine ev_902 (k := 3) h4 rfl rfl (by decide) (by decide) (x := 6) rfl ?_
  refine ev_go 4 (pc1 := 18) (lv1 := [.ref 1, .retAddr 5, .long (wsg (wsg (wsg (wsg 0 99) 104) 97) 110), xmk, .int 4]) (st1 := [.int 4, .retAddr 5, .long (wsg (wsg (wsg (wsg 0 99) 104) 97) 110)]) (h1 := (124, I, J, R)) rfl ?_
  refine ev_903 (k := 3) h4 rfl rfl (by decide) (by decide) (by decide) (by decide) (x := 99) rfl ?_
  refine ev_call (v1 := (some (.long (wsg (wsg (wsg (wsg (wsg 0 99) 104) 97) 110) 99)))) (h1 := (124, I, J, R)) rfl rfl c5 ?_
  refine ev_go 5 (pc1 := 8) (lv1 := [.ref 1, .retAddr 5, .long (wsg (wsg (wsg (wsg (wsg 0 99) 104) 97) 110) 99), xmk, .int 5]) (st1 := [.retAddr 5, .int 5]) (h1 := (124, I, J, R)) rfl ?_
  refine ev_902 (k := 3) h4 rfl rfl (by decide) (by decide) (x := 6) rfl ?_
  refine ev_go 4 (pc1 := 18) (lv1 := [.ref 1, .retAddr 5, .long (wsg (wsg (wsg (wsg (wsg 0 99) 104) 97) 110) 99), xmk, .int 5]) (st1 := [.int 5, .retAddr 5, .long (wsg (wsg (wsg (wsg (wsg 0 99) 104) 97) 110) 99)]) (h1 := (124, I, J, R)) rfl ?_
  refine ev_903 (k := 3) h4 rfl rfl (by decide) (by decide) (by decide) (by decide) (x := 101) rfl ?_
  refine ev_call (v1 := (some (.long (wsg (wsg (wsg (wsg (wsg (wsg 0 99) 104) 97) 110) 99) 101)))) (h1 := (124, I, J, R)) rfl rfl c6 ?_
  refine ev_go 5 (pc1 := 8) (lv1 := [.ref 1, .retAddr 5, .long (wsg (wsg (wsg (wsg (wsg (wsg 0 99) 104) 97) 110) 99) 101), xmk, .int 6]) (st1 := [.retAddr 5, .int 6]) (h1 := (124, I, J, R)) rfl ?_
  refine ev_902 (k := 3) h4 rfl rfl (by decide) (by decide) (x := 6) rfl ?_
  refine ev_go 4 (pc1 := 36) (lv1 := [.ref 1, .retAddr 5, .long (wsg (wsg (wsg (wsg (wsg (wsg 0 99) 104) 97) 110) 99) 101), xmk, .int 6]) (st1 := [.int 1, .int (I 1 3)]) (h1 := (124, I, J, R)) rfl ?_
  refine ev_br (b1 := false) rfl rfl (xcd_nne (x := (I 1 3)) (y := 1) (by rw [show ((1 : Int32)).toInt = 1 from by decide]; first | exact b1 | omega)) ?_
  refine ev_go 4 (pc1 := 45) (lv1 := [.ref 1, .retAddr 5, .long (wsg (wsg (wsg (wsg (wsg (wsg 0 99) 104) 97) 110) 99) 101), xmk, .int 6]) (st1 := [.int (lg_cmp (J 1 5) (wsg (wsg (wsg (wsg (wsg (wsg 0 99) 104) 97) 110) 99) 101))]) (h1 := (124, I, J, R)) rfl ?_
  refine ev_br (b1 := false) rfl rfl (xcd_nne (x := (lg_cmp (J 1 5) (wsg (wsg (wsg (wsg (wsg (wsg 0 99) 104) 97) 110) 99) 101))) (y := 0) (by rw [show ((0 : Int32)).toInt = 0 from by decide]; first | exact b2 | omega)) ?_
  refine ev_go 2 (pc1 := 53) (lv1 := [.ref 1, .retAddr 5, .long (wsg (wsg (wsg (wsg (wsg (wsg 0 99) 104) 97) 110) 99) 101), xmk, .int 6]) (st1 := [.int 1]) (h1 := (124, I, J, R)) rfl ?_
  exact ev_ret rfl rfl
theorem iw_c5 : (wsg (wsg (wsg (wsg (wsg (wsg 0 99) 104) 97) 110) 99) 101) = vF (kb 5) 0 (kwl 5) := by decide +kernel
theorem iw_run_5 {L : Nat} {xs : Nat → Int32} {d : Nat} {I : Nat → Nat → Int32} {J : Nat → Nat → Int64} {R : Nat → Nat → Nat} (hG : aGd R) (h4 : 4 ≤ d + 1) : ((I 1 3).toInt = 1 ∧ J 1 5 = vF (kb 5) 0 (kwl 5) ∧ xEv L xs (d + 1) 25 0 [.ref 1, .retAddr 5, xmk, xmk, xmk] [] (124, I, J, R) (some (.int 1)) (124, I, J, R)) ∨ (¬ ((I 1 3).toInt = 1 ∧ J 1 5 = vF (kb 5) 0 (kwl 5)) ∧ xEv L xs (d + 1) 25 0 [.ref 1, .retAddr 5, xmk, xmk, xmk] [] (124, I, J, R) (some (.int 0)) (124, I, J, R)) := by
  rw [← iw_c5]
  by_cases h1 : (I 1 3).toInt = 1
  · by_cases h2 : J 1 5 = (wsg (wsg (wsg (wsg (wsg (wsg 0 99) 104) 97) 110) 99) 101)
    · exact Or.inl ⟨h1, h2, iw_2_5 hG h4 (wx_run hG _ _) (wx_run hG _ _) (wx_run hG _ _) (wx_run hG _ _) (wx_run hG _ _) (wx_run hG _ _) h1 (by rw [h2]; unfold lg_cmp; rw [if_neg (by intro z; have := Int64.lt_iff_toInt_lt.mp z; omega), if_pos rfl]; rfl)⟩
    · refine Or.inr ⟨fun z => h2 z.2, iw_1_5 hG h4 (wx_run hG _ _) (wx_run hG _ _) (wx_run hG _ _) (wx_run hG _ _) (wx_run hG _ _) (wx_run hG _ _) h1 ?_⟩
      unfold lg_cmp
      by_cases g : J 1 5 > (wsg (wsg (wsg (wsg (wsg (wsg 0 99) 104) 97) 110) 99) 101)
      · rw [if_pos g]; decide
      · rw [if_neg g, if_neg h2]; decide
  · exact Or.inr ⟨fun z => h1 z.1, iw_0_5 hG h4 (wx_run hG _ _) (wx_run hG _ _) (wx_run hG _ _) (wx_run hG _ _) (wx_run hG _ _) (wx_run hG _ _) h1⟩
