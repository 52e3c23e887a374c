
theorem ze_run {L : Nat} {xs : Nat → Int32} {d : Nat} {I : Nat → Nat → Int32} {J : Nat → Nat → Int64} {R : Nat → Nat → Nat} (hG : aGd R) {n : Int32} {nN : Nat} (hn : n.toInt = nN) (h18 : nN ≤ 18) : ∀ (f kN : Nat) (k : Int32) (x : Int64), kN + f = nN → k.toInt = kN → x.toInt = tn kN → ∃ y : Int64, xEv L xs d 107 4 [.int n, .long x, xmk, .int k] [] (124, I, J, R) (some (.long y)) (124, I, J, R) ∧ y.toInt = tn nN := by
  intro f
  induction f with
  | zero =>
    intro kN k x hk ek ex
    have e : kN = nN := by omega
    subst e
    exact ⟨x, ze_e hG (by omega), ex⟩
  | succ f ih =>
    intro kN k x hk ek ex
    have hk' : (k + 1).toInt = (kN + 1 : Nat) := by rw [i_add1 (by omega)]; omega
    have e10 : (10 : Int64).toInt = 10 := by decide
    have hp := tn_pos kN
    have h1 := tn_1 kN
    have h2 := tn_mono (show kN + 1 ≤ 18 by omega)
    have h3 := tn_18
    have em : (x * 10).toInt = tn (kN + 1) := by rw [l_mul (by rw [e10]; omega) (by rw [e10]; omega), e10, ex, h1]
    obtain ⟨y, y1, y2⟩ := ih (kN + 1) (k + 1) (x * 10) (by omega) hk' em
    exact ⟨y, ze_l hG (by omega) y1, y2⟩
theorem zw_run {L : Nat} {xs : Nat → Int32} {d : Nat} {I : Nat → Nat → Int32} {J : Nat → Nat → Int64} {R : Nat → Nat → Nat} (hG : aGd R) {l : Int64} (hl : 0 ≤ l.toInt) {n : Int32} {nN : Nat} (hn : n.toInt = nN) : ∀ (f kN : Nat) (k : Int32) (x : Int64), kN + f = nN → k.toInt = kN → x.toInt = l.toInt / tn kN → ∃ y : Int64, xEv L xs d 108 5 [.long l, xmk, .int n, .long x, xmk, .int k] [] (124, I, J, R) (some (.long y)) (124, I, J, R) ∧ y.toInt = l.toInt / tn nN := by
  intro f
  induction f with
  | zero =>
    intro kN k x hk ek ex
    have e : kN = nN := by omega
    subst e
    exact ⟨x, zw_e hG (by omega), ex⟩
  | succ f ih =>
    intro kN k x hk ek ex
    have hnn := aw n
    have hk' : (k + 1).toInt = (kN + 1 : Nat) := by rw [i_add1 (by omega)]; omega
    have e10 : (10 : Int64).toInt = 10 := by decide
    have hx0 : 0 ≤ x.toInt := by rw [ex]; exact Int.ediv_nonneg hl (Int.le_of_lt (tn_pos _))
    have em : (x / 10).toInt = l.toInt / tn (kN + 1) := by
      rw [l_div hx0 (by rw [e10]; decide), e10, ex, Int.ediv_ediv_of_nonneg (Int.le_of_lt (tn_pos _)), tn_1]
    obtain ⟨y, y1, y2⟩ := ih (kN + 1) (k + 1) (x / 10) (by omega) hk' em
    exact ⟨y, zw_l hG (by omega) y1, y2⟩

