theorem gox_3 (hk : aOK 111) {L : Nat} {xs : Nat → Int32} {d : Nat} (hd : 6 ≤ d) {n : Int32} (hn : n.toInt ≤ 64) : ∀ (m : Nat) (i : Int32) (I : Nat → Nat → Int32) (J : Nat → Nat → Int64) (R : Nat → Nat → Nat), (n.toInt - i.toInt).toNat = m → 0 ≤ i.toInt → i.toInt ≤ n.toInt → aGood (124, I, J, R) → R 0 8 = 4 → (I 66 5).toInt + (n.toInt - i.toInt) ≤ (I 17 5).toInt → ∃ (I' : Nat → Nat → Int32) (J' : Nat → Nat → Int64) (R' : Nat → Nat → Nat), xEv L xs (d + 1) 122 59 [.ref 0, .int n, .int i] [] (124, I, J, R) (some (.int (I' 66 5))) (124, I', J', R') ∧ (I' 66 5).toInt = (I 66 5).toInt + (n.toInt - i.toInt) ∧ I' 66 4 = I 66 4 := by
  intro m
  induction m with
  | zero =>
    intro i I J R hm hi0 hi1 hg hR hb
    exact ⟨_, _, _, sg_goR (gd_of hg) (by omega), by omega, rfl⟩
  | succ m ih =>
    intro i I J R hm hi0 hi1 hg hR hb
    have hz := good_int hg 17 5 rfl
    have hz2 : (aRng 17 5) = (0, 64) := rfl
    rw [hz2] at hz
    have hy := good_int hg 66 5 rfl
    have hy2 : (aRng 66 5) = (0, 64) := rfl
    rw [hy2] at hy
    dsimp only at hz hy
    obtain ⟨v1, ⟨n1, I1, J1, R1⟩, he, hg1, hf1, cs, hcs, hc⟩ := hk L xs d [.ref 63, .ref 3] (124, I, J, R) hd hg ⟨g0_r (by decide), g0_r (by decide), rfl⟩ (fok1 (c := 66) (k := 5) rfl (by show (0 : Int) ≤ (I 66 5).toInt; omega) (by show (I 66 5).toInt ≤ 63; omega))
    have e1 : n1 = 124 := hg1.1
    subst e1
    have hcs2 := List.mem_singleton.mp hcs
    subst hcs2
    obtain ⟨q1, -, q3, q4⟩ := hc
    have q1' : v1 = none := q1
    subst q1'
    have u := (q4 ((66, 5), 1, true) List.mem_cons_self).2 rfl
    have u2 : (I1 66 5).toInt = (I 66 5).toInt + 1 := u
    have e2 : I1 17 5 = I 17 5 := fr_int hf1 17 5 rfl
    have e3 : R1 0 8 = R 0 8 := fr_ref hf1 0 8 rfl
    have e4 : I1 66 4 = I 66 4 := fr_int hf1 66 4 rfl
    have ei := i_add1 (x := i) (by omega)
    obtain ⟨I', J', R', x1, x2, x3⟩ := ih (i + 1) I1 J1 R1 (by omega) (by omega) (by omega) hg1 (e3.trans hR) (by rw [e2]; omega)
    exact ⟨I', J', R', sg_goL_3 (gd_of hg) (by omega) hR he (gd_of hg1) x1, by omega, x3.trans e4⟩
theorem gox_23 (hk : aOK 111) {L : Nat} {xs : Nat → Int32} {d : Nat} (hd : 6 ≤ d) {n : Int32} (hn : n.toInt ≤ 64) : ∀ (m : Nat) (i : Int32) (I : Nat → Nat → Int32) (J : Nat → Nat → Int64) (R : Nat → Nat → Nat), (n.toInt - i.toInt).toNat = m → 0 ≤ i.toInt → i.toInt ≤ n.toInt → aGood (124, I, J, R) → R 0 8 = 24 → (I 66 5).toInt + (n.toInt - i.toInt) ≤ (I 37 5).toInt → ∃ (I' : Nat → Nat → Int32) (J' : Nat → Nat → Int64) (R' : Nat → Nat → Nat), xEv L xs (d + 1) 122 59 [.ref 0, .int n, .int i] [] (124, I, J, R) (some (.int (I' 66 5))) (124, I', J', R') ∧ (I' 66 5).toInt = (I 66 5).toInt + (n.toInt - i.toInt) ∧ I' 66 4 = I 66 4 := by
  intro m
  induction m with
  | zero =>
    intro i I J R hm hi0 hi1 hg hR hb
    exact ⟨_, _, _, sg_goR (gd_of hg) (by omega), by omega, rfl⟩
  | succ m ih =>
    intro i I J R hm hi0 hi1 hg hR hb
    have hz := good_int hg 37 5 rfl
    have hz2 : (aRng 37 5) = (0, 64) := rfl
    rw [hz2] at hz
    have hy := good_int hg 66 5 rfl
    have hy2 : (aRng 66 5) = (0, 64) := rfl
    rw [hy2] at hy
    dsimp only at hz hy
    obtain ⟨v1, ⟨n1, I1, J1, R1⟩, he, hg1, hf1, cs, hcs, hc⟩ := hk L xs d [.ref 63, .ref 23] (124, I, J, R) hd hg ⟨g0_r (by decide), g0_r (by decide), rfl⟩ (fok1 (c := 66) (k := 5) rfl (by show (0 : Int) ≤ (I 66 5).toInt; omega) (by show (I 66 5).toInt ≤ 63; omega))
    have e1 : n1 = 124 := hg1.1
    subst e1
    have hcs2 := List.mem_singleton.mp hcs
    subst hcs2
    obtain ⟨q1, -, q3, q4⟩ := hc
    have q1' : v1 = none := q1
    subst q1'
    have u := (q4 ((66, 5), 1, true) List.mem_cons_self).2 rfl
    have u2 : (I1 66 5).toInt = (I 66 5).toInt + 1 := u
    have e2 : I1 37 5 = I 37 5 := fr_int hf1 37 5 rfl
    have e3 : R1 0 8 = R 0 8 := fr_ref hf1 0 8 rfl
    have e4 : I1 66 4 = I 66 4 := fr_int hf1 66 4 rfl
    have ei := i_add1 (x := i) (by omega)
    obtain ⟨I', J', R', x1, x2, x3⟩ := ih (i + 1) I1 J1 R1 (by omega) (by omega) (by omega) hg1 (e3.trans hR) (by rw [e2]; omega)
    exact ⟨I', J', R', sg_goL_23 (gd_of hg) (by omega) hR he (gd_of hg1) x1, by omega, x3.trans e4⟩
theorem gmx (hA : aOK 51) (hB : aOK 60) {L : Nat} {xs : Nat → Int32} {d : Nat} (hd : 4 ≤ d) {n : Int32} (hn : n.toInt ≤ 64) : ∀ (m : Nat) (i : Int32) (I : Nat → Nat → Int32) (J : Nat → Nat → Int64) (R : Nat → Nat → Nat), (n.toInt - i.toInt).toNat = m → 0 ≤ i.toInt → i.toInt ≤ n.toInt → aGood (124, I, J, R) → (I 121 1).toInt + (n.toInt - i.toInt) ≤ (I 86 26).toInt → ∃ (I' : Nat → Nat → Int32) (J' : Nat → Nat → Int64) (R' : Nat → Nat → Nat), xEv L xs (d + 1) 223 45 [.ref 86, .int n, .int i] [] (124, I, J, R) (some (.int (I' 121 1))) (124, I', J', R') ∧ (I' 121 1).toInt = (I 121 1).toInt + (n.toInt - i.toInt) ∧ I' 121 0 = I 121 0 := by
  intro m
  induction m with
  | zero =>
    intro i I J R hm hi0 hi1 hg hb
    exact ⟨_, _, _, sg_mgR (gd_of hg) (by omega), by omega, rfl⟩
  | succ m ih =>
    intro i I J R hm hi0 hi1 hg hb
    have hz := good_int hg 86 26 rfl
    have hz2 : (aRng 86 26) = (0, 64) := rfl
    rw [hz2] at hz
    have hy := good_int hg 121 1 rfl
    have hy2 : (aRng 121 1) = (0, 64) := rfl
    rw [hy2] at hy
    dsimp only at hz hy
    have ei := i_add1 (x := i) (by omega)
    have key : ∃ I1 J1 R1, xEv L xs d 224 0 [.ref 86, xmk, xmk, xmk, xmk, xmk, xmk] [] (124, I, J, R) none (124, I1, J1, R1) ∧ aGood (124, I1, J1, R1) ∧ (I1 121 1).toInt = (I 121 1).toInt + 1 ∧ I1 86 26 = I 86 26 ∧ I1 121 0 = I 121 0 := by
      by_cases h63 : (I 121 1).toInt = 63
      · obtain ⟨v1, ⟨n1, I1, J1, R1⟩, he, hg1, hf1, cs, hcs, hc⟩ := hB L xs d [.ref 86] (124, I, J, R) hd hg ⟨g0_r (by decide), rfl⟩ (by
          intro q hq
          rcases List.mem_cons.mp hq with e | hq
          · rw [e]; exact fok1 (h := (124, I, J, R)) (c := 86) (k := 26) (lo := 64) (hi := 64) rfl (by show (64 : Int) ≤ (I 86 26).toInt; omega) (by show (I 86 26).toInt ≤ 64; omega) _ List.mem_cons_self
          · rw [List.mem_singleton.mp hq]; exact fok1 (h := (124, I, J, R)) (c := 121) (k := 1) (lo := 63) (hi := 63) rfl (by show (63 : Int) ≤ (I 121 1).toInt; omega) (by show (I 121 1).toInt ≤ 63; omega) _ List.mem_cons_self)
        have e1 : n1 = 124 := hg1.1
        subst e1
        have hcs2 := List.mem_singleton.mp hcs
        subst hcs2
        obtain ⟨q1, -, q3, q4⟩ := hc
        have q1' : v1 = none := q1
        subst q1'
        exact ⟨I1, J1, R1, he, hg1, (q4 ((121, 1), 1, true) List.mem_cons_self).2 rfl, fr_int hf1 86 26 rfl, fr_int hf1 121 0 rfl⟩
      · obtain ⟨v1, ⟨n1, I1, J1, R1⟩, he, hg1, hf1, cs, hcs, hc⟩ := hA L xs d [.ref 86] (124, I, J, R) hd hg ⟨g0_r (by decide), rfl⟩ (fok1 (c := 121) (k := 1) rfl (by show (0 : Int) ≤ (I 121 1).toInt; omega) (by show (I 121 1).toInt ≤ 62; omega))
        have e1 : n1 = 124 := hg1.1
        subst e1
        have hcs2 := List.mem_singleton.mp hcs
        subst hcs2
        obtain ⟨q1, -, q3, q4⟩ := hc
        have q1' : v1 = none := q1
        subst q1'
        exact ⟨I1, J1, R1, he, hg1, (q4 ((121, 1), 1, true) List.mem_cons_self).2 rfl, fr_int hf1 86 26 rfl, fr_int hf1 121 0 rfl⟩
    obtain ⟨I1, J1, R1, he, hg1, u, e2, e0⟩ := key
    obtain ⟨I', J', R', x1, x2, x3⟩ := ih (i + 1) I1 J1 R1 (by omega) (by omega) (by omega) hg1 (by rw [e2]; omega)
    exact ⟨I', J', R', sg_mgL (gd_of hg) (by omega) he (gd_of hg1) x1, by omega, x3.trans e0⟩
