theorem to_3 {L : Nat} {xs : Nat → Int32} {d : Nat} {J : Nat → Nat → Int64} {R : Nat → Nat → Nat} (hG : aGd R) {I0 : Nat → Nat → Int32} {M : Nat} (hM : (I0 3 15).toInt = M) (hM2 : M ≤ 16) (f : Nat → Int) (hf : f = fun k => (I0 9 k).toInt) : ∀ (q : Nat) (u : Int32) (U : Nat) (I : Nat → Nat → Int32) (w : Value), 96 - U = q → u.toInt = U → U ≤ 96 → tX_3 I0 (tOut f M U) I → ∃ (I' : Nat → Nat → Int32) (w' : Value), tX_3 I0 (tOut f M 96) I' ∧ ∀ vv h', xEv L xs (d + 2) 43 80 [.ref 3, .int 0, w'] [] (124, I', J, R) vv h' → xEv L xs (d + 2) 43 2 [.ref 3, .int u, w] [] (124, I, J, R) vv h' := by
  intro q
  induction q with
  | zero =>
    intro u U I w h1 h2 h3 hI
    have e : U = 96 := by omega
    subst e
    exact ⟨I, w, hI, fun vv h' hk => lt_a_3 hG (by omega) hk⟩
  | succ q ih =>
    intro u U I w h1 h2 h3 hI
    have ei := i_add1 (x := u) (by omega)
    obtain ⟨I1, w1, a1, a2⟩ := tl_3 (L := L) (xs := xs) (d := d) (J := J) (R := R) hG hM hM2 f hf h2 (by omega) _ 0 0 I rfl rfl (Nat.zero_le _) (by show tX_3 I0 (tOut f M U ++ []) I; rw [List.append_nil]; exact hI)
    obtain ⟨I2, w2, b1, b2⟩ := ih (u + 1) (U + 1) I1 w1 (by omega) (by omega) (by omega) a1
    exact ⟨I2, w2, b1, fun vv h' hk => lt_b_3 hG (by omega) (a2 vv h' (b2 vv h' hk))⟩
theorem to_23 {L : Nat} {xs : Nat → Int32} {d : Nat} {J : Nat → Nat → Int64} {R : Nat → Nat → Nat} (hG : aGd R) {I0 : Nat → Nat → Int32} {M : Nat} (hM : (I0 23 15).toInt = M) (hM2 : M ≤ 16) (f : Nat → Int) (hf : f = fun k => (I0 29 k).toInt) : ∀ (q : Nat) (u : Int32) (U : Nat) (I : Nat → Nat → Int32) (w : Value), 96 - U = q → u.toInt = U → U ≤ 96 → tX_23 I0 (tOut f M U) I → ∃ (I' : Nat → Nat → Int32) (w' : Value), tX_23 I0 (tOut f M 96) I' ∧ ∀ vv h', xEv L xs (d + 2) 43 80 [.ref 23, .int 0, w'] [] (124, I', J, R) vv h' → xEv L xs (d + 2) 43 2 [.ref 23, .int u, w] [] (124, I, J, R) vv h' := by
  intro q
  induction q with
  | zero =>
    intro u U I w h1 h2 h3 hI
    have e : U = 96 := by omega
    subst e
    exact ⟨I, w, hI, fun vv h' hk => lt_a_23 hG (by omega) hk⟩
  | succ q ih =>
    intro u U I w h1 h2 h3 hI
    have ei := i_add1 (x := u) (by omega)
    obtain ⟨I1, w1, a1, a2⟩ := tl_23 (L := L) (xs := xs) (d := d) (J := J) (R := R) hG hM hM2 f hf h2 (by omega) _ 0 0 I rfl rfl (Nat.zero_le _) (by show tX_23 I0 (tOut f M U ++ []) I; rw [List.append_nil]; exact hI)
    obtain ⟨I2, w2, b1, b2⟩ := ih (u + 1) (U + 1) I1 w1 (by omega) (by omega) (by omega) a1
    exact ⟨I2, w2, b1, fun vv h' hk => lt_b_23 hG (by omega) (a2 vv h' (b2 vv h' hk))⟩
