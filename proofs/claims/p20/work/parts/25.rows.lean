theorem mdn {m c k n : Nat} (h1 : aPid c k = n) (h2 : Nat.testBit m n = false) : aisMod m (Sum.inr (c, k)) = false := by show Nat.testBit m (aPid c k) = false; rw [h1]; exact h2
theorem fr0 {h h1 : xH} (hf : aFr 0 h h1) (e : h1.1 = h.1) : h1 = h := by
  obtain ⟨n, I, J, R⟩ := h
  obtain ⟨n1, I1, J1, R1⟩ := h1
  have z : ∀ c k, aisMod 0 (Sum.inr (c, k)) = false := fun c k => Nat.zero_testBit _
  have a1 : I1 = I := funext fun c => funext fun k => (hf c k (z c k)).1
  have a2 : J1 = J := funext fun c => funext fun k => (hf c k (z c k)).2.1
  have a3 : R1 = R := funext fun c => funext fun k => (hf c k (z c k)).2.2
  have a4 : n1 = n := e
  rw [a1, a2, a3, a4]
set_option maxRecDepth 20000 in
theorem fa_run {L : Nat} {xs : Nat → Int32} {d : Nat} {I : Nat → Nat → Int32} {J : Nat → Nat → Int64} {R : Nat → Nat → Nat} {k : Int32} (hG : aGd R)  : xEv L xs d 157 0 [.ref 86, .int k] [] (124, I, J, R) (some (.int 0)) (124, (uI (uI I 86 8 k) 86 9 (I 86 5)), J, R) := by
  refine ev_go 8 (pc1 := 14) (lv1 := [.ref 86, .int k]) (st1 := [.int 0]) (h1 := (124, (uI (uI I 86 8 k) 86 9 (I 86 5)), J, R)) rfl ?_
  exact ev_ret rfl rfl
set_option maxRecDepth 20000 in
theorem rn_a {L : Nat} {xs : Nat → Int32} {d : Nat} {I : Nat → Nat → Int32} {J : Nat → Nat → Int64} {R : Nat → Nat → Nat} {lo hi : Int32} (hG : aGd R) (b1 : (I 86 3).toInt ≠ 2) (c1 : xEv L xs d 157 0 [.ref 86, .int 1] [] (124, I, J, R) (some (.int 0)) (124, (uI (uI I 86 8 1) 86 9 (I 86 5)), J, R)) : xEv L xs (d + 1) 159 0 [.ref 86, .int lo, .int hi] [] (124, I, J, R) (some (.int 0)) (124, (uI (uI I 86 8 1) 86 9 (I 86 5)), J, R) := by
  refine ev_go 3 (pc1 := 5) (lv1 := [.ref 86, .int lo, .int hi]) (st1 := [.int 2, .int (I 86 3)]) (h1 := (124, I, J, R)) rfl ?_
  refine ev_br (b1 := false) rfl rfl (xcd_neq (x := (I 86 3)) (y := 2) (by rw [show ((2 : Int32)).toInt = 2 from by decide]; first | exact b1 | omega)) ?_
  refine ev_go 2 (pc1 := 10) (lv1 := [.ref 86, .int lo, .int hi]) (st1 := [.int 1, .ref 86]) (h1 := (124, I, J, R)) rfl ?_
  refine ev_call (v1 := (some (.int 0))) (h1 := (124, (uI (uI I 86 8 1) 86 9 (I 86 5)), J, R)) rfl rfl c1 ?_
  exact ev_ret rfl rfl
set_option maxRecDepth 20000 in
theorem rn_b {L : Nat} {xs : Nat → Int32} {d : Nat} {I : Nat → Nat → Int32} {J : Nat → Nat → Int64} {R : Nat → Nat → Nat} {lo hi : Int32} (hG : aGd R) (b1 : (I 86 3).toInt = 2) (c1 : xEv L xs d 160 0 [.int (I 86 7), .int lo, .int hi] [] (124, I, J, R) (some (.int 0)) (124, I, J, R)) (c2 : xEv L xs d 157 0 [.ref 86, .int 2] [] (124, I, J, R) (some (.int 0)) (124, (uI (uI I 86 8 2) 86 9 (I 86 5)), J, R)) : xEv L xs (d + 1) 159 0 [.ref 86, .int lo, .int hi] [] (124, I, J, R) (some (.int 0)) (124, (uI (uI I 86 8 2) 86 9 (I 86 5)), J, R) := by
  refine ev_go 3 (pc1 := 5) (lv1 := [.ref 86, .int lo, .int hi]) (st1 := [.int 2, .int (I 86 3)]) (h1 := (124, I, J, R)) rfl ?_
  refine ev_br (b1 := true) rfl rfl (xcd_eq (x := (I 86 3)) (y := 2) (by rw [show ((2 : Int32)).toInt = 2 from by decide]; first | exact b1 | omega)) ?_
  refine ev_go 4 (pc1 := 20) (lv1 := [.ref 86, .int lo, .int hi]) (st1 := [.int hi, .int lo, .int (I 86 7)]) (h1 := (124, I, J, R)) rfl ?_
  refine ev_call (v1 := (some (.int 0))) (h1 := (124, I, J, R)) rfl rfl c1 ?_
  refine ev_go 3 (pc1 := 28) (lv1 := [.ref 86, .int lo, .int hi]) (st1 := [.int 2, .ref 86]) (h1 := (124, I, J, R)) rfl ?_
  refine ev_call (v1 := (some (.int 0))) (h1 := (124, (uI (uI I 86 8 2) 86 9 (I 86 5)), J, R)) rfl rfl c2 ?_
  exact ev_ret rfl rfl
set_option maxRecDepth 20000 in
theorem rn_c {L : Nat} {xs : Nat → Int32} {d : Nat} {I : Nat → Nat → Int32} {J : Nat → Nat → Int64} {R : Nat → Nat → Nat} {I1 : Nat → Nat → Int32} {J1 : Nat → Nat → Int64} {R1 : Nat → Nat → Nat} {lo hi : Int32} (hG : aGd R) (b1 : (I 86 3).toInt = 2) (c1 : xEv L xs d 160 0 [.int (I 86 7), .int lo, .int hi] [] (124, I, J, R) (some (.int 1)) (124, I, J, R)) (c2 : xEv L xs d 150 0 [.ref 86, xmk, xmk, xmk] [] (124, (uI I 86 11 (I 86 7)), J, R) none (124, I1, J1, R1)) (hG2 : aGd R1) : xEv L xs (d + 1) 159 0 [.ref 86, .int lo, .int hi] [] (124, I, J, R) (some (.int 1)) (124, I1, J1, R1) := by
  refine ev_go 3 (pc1 := 5) (lv1 := [.ref 86, .int lo, .int hi]) (st1 := [.int 2, .int (I 86 3)]) (h1 := (124, I, J, R)) rfl ?_
  refine ev_br (b1 := true) rfl rfl (xcd_eq (x := (I 86 3)) (y := 2) (by rw [show ((2 : Int32)).toInt = 2 from by decide]; first | exact b1 | omega)) ?_
  refine ev_go 4 (pc1 := 20) (lv1 := [.ref 86, .int lo, .int hi]) (st1 := [.int hi, .int lo, .int (I 86 7)]) (h1 := (124, I, J, R)) rfl ?_
  refine ev_call (v1 := (some (.int 1))) (h1 := (124, I, J, R)) rfl rfl c1 ?_
  refine ev_go 6 (pc1 := 41) (lv1 := [.ref 86, .int lo, .int hi]) (st1 := [.ref 86]) (h1 := (124, (uI I 86 11 (I 86 7)), J, R)) rfl ?_
  refine ev_call (v1 := none) (h1 := (124, I1, J1, R1)) rfl rfl c2 ?_
  refine ev_go 1 (pc1 := 45) (lv1 := [.ref 86, .int lo, .int hi]) (st1 := [.int 1]) (h1 := (124, I1, J1, R1)) rfl ?_
  exact ev_ret rfl rfl
/-- scan: what it does to sort and end -/
theorem sc_run (hk : aOK 20) {L : Nat} {xs : Nat → Int32} {d : Nat} (hd : 5 ≤ d) {I : Nat → Nat → Int32} {J : Nat → Nat → Int64} {R : Nat → Nat → Nat} (hg : aGood (124, I, J, R)) : ∃ I1 J1 R1, xEv L xs d 150 0 [.ref 86, xmk, xmk, xmk] [] (124, I, J, R) none (124, I1, J1, R1) ∧ aGood (124, I1, J1, R1) ∧ aFr (aMod 20) (124, I, J, R) (124, I1, J1, R1) ∧ (I 86 6).toInt ≤ (I1 86 6).toInt ∧ ((I1 86 3).toInt = 2 ∨ (I1 86 3).toInt = 3 → (I 86 6).toInt + 1 ≤ (I1 86 6).toInt) := by
  obtain ⟨v1, ⟨n1, I1, J1, R1⟩, he, hg1, hf1, cs, hcs, hc⟩ := hk L xs d [.ref 86] (124, I, J, R) hd hg ⟨g0_r (by decide), rfl⟩ fok0
  have e1 : n1 = 124 := hg1.1
  subst e1
  have fin : ∀ (z e : Int), cs = (none, [], [(86, 3, z, z)], [((86, 6), e, false)]) → 0 ≤ e → ((z = 2 ∨ z = 3) → e = 1) → ∃ I1 J1 R1, xEv L xs d 150 0 [.ref 86, xmk, xmk, xmk] [] (124, I, J, R) none (124, I1, J1, R1) ∧ aGood (124, I1, J1, R1) ∧ aFr (aMod 20) (124, I, J, R) (124, I1, J1, R1) ∧ (I 86 6).toInt ≤ (I1 86 6).toInt ∧ ((I1 86 3).toInt = 2 ∨ (I1 86 3).toInt = 3 → (I 86 6).toInt + 1 ≤ (I1 86 6).toInt) := by
    intro z e ec h0 h1
    subst ec
    obtain ⟨q1, -, q3, q4⟩ := hc
    have q1' : v1 = none := q1
    subst q1'
    have u : (I 86 6).toInt + e ≤ (I1 86 6).toInt := (q4 ((86, 6), e, false) List.mem_cons_self).1
    have w : z ≤ (I1 86 3).toInt ∧ (I1 86 3).toInt ≤ z := fok_at q3 (c := 86) (k := 3) List.mem_cons_self rfl
    refine ⟨I1, J1, R1, he, hg1, hf1, by omega, fun hz => ?_⟩
    have := h1 (by omega)
    omega
  rcases List.mem_cons.mp hcs with e | hcs
  · exact fin 0 0 e (by decide) (by omega)
  rcases List.mem_cons.mp hcs with e | hcs
  · exact fin 1 0 e (by decide) (by omega)
  rcases List.mem_cons.mp hcs with e | hcs
  · exact fin 2 1 e (by decide) (by omega)
  rcases List.mem_cons.mp hcs with e | hcs
  · exact fin 3 1 e (by decide) (by omega)
  rcases List.mem_cons.mp hcs with e | hcs
  · exact fin 4 0 e (by decide) (by omega)
  · cases hcs
/-- readNumber: what it does to sort, end, got -/
theorem rn_run (hk : aOK 20) {L : Nat} {xs : Nat → Int32} {d : Nat} (hd : 6 ≤ d) {I : Nat → Nat → Int32} {J : Nat → Nat → Int64} {R : Nat → Nat → Nat} (hg : aGood (124, I, J, R)) (lo hi : Int32) : ∃ I1 J1 R1, aGood (124, I1, J1, R1) ∧ aFr (aMod 25) (124, I, J, R) (124, I1, J1, R1) ∧ (xEv L xs d 159 0 [.ref 86, .int lo, .int hi] [] (124, I, J, R) (some (.int 0)) (124, I1, J1, R1) ∨ (xEv L xs d 159 0 [.ref 86, .int lo, .int hi] [] (124, I, J, R) (some (.int 1)) (124, I1, J1, R1) ∧ (I 86 3).toInt = 2 ∧ lo.toInt ≤ (I1 86 11).toInt ∧ (I1 86 11).toInt ≤ hi.toInt ∧ (I 86 6).toInt ≤ (I1 86 6).toInt ∧ ((I1 86 3).toInt = 2 ∨ (I1 86 3).toInt = 3 → (I 86 6).toInt + 1 ≤ (I1 86 6).toInt))) := by
  obtain ⟨d, rfl⟩ : ∃ e, d = e + 1 := ⟨d - 1, by omega⟩
  have hG := gd_of hg
  have gf : ∀ k : Int32, aGood (124, uI (uI I 86 8 k) 86 9 (I 86 5), J, R) := fun k => gd_I (gd_I hg (aw _).1 (aw _).2) (aw _).1 (aw _).2
  have rf : ∀ k : Int32, aFr (aMod 25) (124, I, J, R) (124, uI (uI I 86 8 k) 86 9 (I 86 5), J, R) := fun k => fr_uI (fr_uI (aFr_refl _ _) rfl) rfl
  by_cases h2 : (I 86 3).toInt = 2
  · rcases in_run (L := L) (xs := xs) (d := d) (I := I) (J := J) hG (I 86 7) lo hi with ⟨c1, h3, h4⟩ | c1
    · have g1 : aGood (124, uI I 86 11 (I 86 7), J, R) := gd_I hg (aw _).1 (aw _).2
      obtain ⟨I1, J1, R1, he, hg1, hf1, u1, u2⟩ := sc_run hk (L := L) (xs := xs) (d := d) (by omega) g1
      have e11 : I1 86 11 = I 86 7 := fr_int hf1 86 11 rfl
      refine ⟨I1, J1, R1, hg1, aFr_trans (h1 := (124, uI I 86 11 (I 86 7), J, R)) rfl (fr_uI (aFr_refl _ _) rfl) hf1, Or.inr ⟨rn_c hG h2 c1 he (gd_of hg1), h2, by rw [e11]; exact h3, by rw [e11]; exact h4, u1, u2⟩⟩
    · exact ⟨_, _, _, gf 2, rf 2, Or.inl (rn_b hG h2 c1 (fa_run hG))⟩
  · exact ⟨_, _, _, gf 1, rf 1, Or.inl (rn_a hG h2 (fa_run hG))⟩
set_option maxRecDepth 20000 in
theorem rr_e {L : Nat} {xs : Nat → Int32} {d : Nat} {I : Nat → Nat → Int32} {J : Nat → Nat → Int64} {R : Nat → Nat → Nat} {most : Int32} (hG : aGd R) (b1 : (I 86 3).toInt = 4) : xEv L xs d 174 9 [.ref 86, .int most] [] (124, I, J, R) (some (.int 1)) (124, I, J, R) := by
  refine ev_go 3 (pc1 := 14) (lv1 := [.ref 86, .int most]) (st1 := [.int 4, .int (I 86 3)]) (h1 := (124, I, J, R)) rfl ?_
  refine ev_br (b1 := true) rfl rfl (xcd_eq (x := (I 86 3)) (y := 4) (by rw [show ((4 : Int32)).toInt = 4 from by decide]; first | exact b1 | omega)) ?_
  refine ev_go 1 (pc1 := 94) (lv1 := [.ref 86, .int most]) (st1 := [.int 1]) (h1 := (124, I, J, R)) rfl ?_
  exact ev_ret rfl rfl
set_option maxRecDepth 20000 in
theorem rr_1 {L : Nat} {xs : Nat → Int32} {d : Nat} {I : Nat → Nat → Int32} {J : Nat → Nat → Int64} {R : Nat → Nat → Nat} {I1 : Nat → Nat → Int32} {J1 : Nat → Nat → Int64} {R1 : Nat → Nat → Nat} {most : Int32} (hG : aGd R) (b1 : (I 86 3).toInt ≠ 4) (c1 : xEv L xs d 159 0 [.ref 86, .int 0, .int 63] [] (124, I, J, R) (some (.int 0)) (124, I1, J1, R1)) (hG1 : aGd R1) : xEv L xs (d + 1) 174 9 [.ref 86, .int most] [] (124, I, J, R) (some (.int 0)) (124, I1, J1, R1) := by
  refine ev_go 3 (pc1 := 14) (lv1 := [.ref 86, .int most]) (st1 := [.int 4, .int (I 86 3)]) (h1 := (124, I, J, R)) rfl ?_
  refine ev_br (b1 := false) rfl rfl (xcd_neq (x := (I 86 3)) (y := 4) (by rw [show ((4 : Int32)).toInt = 4 from by decide]; first | exact b1 | omega)) ?_
  refine ev_go 3 (pc1 := 21) (lv1 := [.ref 86, .int most]) (st1 := [.int 63, .int 0, .ref 86]) (h1 := (124, I, J, R)) rfl ?_
  refine ev_call (v1 := (some (.int 0))) (h1 := (124, I1, J1, R1)) rfl rfl c1 ?_
  refine ev_go 2 (pc1 := 28) (lv1 := [.ref 86, .int most]) (st1 := [.int 0]) (h1 := (124, I1, J1, R1)) rfl ?_
  exact ev_ret rfl rfl
set_option maxRecDepth 20000 in
theorem rr_2 {L : Nat} {xs : Nat → Int32} {d : Nat} {I : Nat → Nat → Int32} {J : Nat → Nat → Int64} {R : Nat → Nat → Nat} {I1 : Nat → Nat → Int32} {J1 : Nat → Nat → Int64} {R1 : Nat → Nat → Nat} {I2 : Nat → Nat → Int32} {J2 : Nat → Nat → Int64} {R2 : Nat → Nat → Nat} {most : Int32} (hG : aGd R) (b1 : (I 86 3).toInt ≠ 4) (c1 : xEv L xs d 159 0 [.ref 86, .int 0, .int 63] [] (124, I, J, R) (some (.int 1)) (124, I1, J1, R1)) (hG1 : aGd R1) (n1 : 0 ≤ (I1 86 30).toInt) (m1 : (I1 86 30).toInt < 300) (c2 : xEv L xs d 159 0 [.ref 86, .int 0, .int most] [] (124, (uI I1 104 (I1 86 30).toNatClampNeg (I1 86 11)), J1, R1) (some (.int 0)) (124, I2, J2, R2)) (hG2 : aGd R2) : xEv L xs (d + 1) 174 9 [.ref 86, .int most] [] (124, I, J, R) (some (.int 0)) (124, I2, J2, R2) := by
  refine ev_go 3 (pc1 := 14) (lv1 := [.ref 86, .int most]) (st1 := [.int 4, .int (I 86 3)]) (h1 := (124, I, J, R)) rfl ?_
  refine ev_br (b1 := false) rfl rfl (xcd_neq (x := (I 86 3)) (y := 4) (by rw [show ((4 : Int32)).toInt = 4 from by decide]; first | exact b1 | omega)) ?_
  refine ev_go 3 (pc1 := 21) (lv1 := [.ref 86, .int most]) (st1 := [.int 63, .int 0, .ref 86]) (h1 := (124, I, J, R)) rfl ?_
  refine ev_call (v1 := (some (.int 1))) (h1 := (124, I1, J1, R1)) rfl rfl c1 ?_
  refine ev_go 2 (pc1 := 30) (lv1 := [.ref 86, .int most]) (st1 := [.ref 86]) (h1 := (124, I1, J1, R1)) rfl ?_
  refine ev_gf (c := 86) (t := 104) (X := R1 86 31) rfl rfl (fun _ => rfl) rfl (hG1 86 31 104 rfl rfl) ?_
  refine ev_go 4 (pc1 := 41) (lv1 := [.ref 86, .int most]) (st1 := [.int (I1 86 11), .int (I1 86 30), .ref 104]) (h1 := (124, I1, J1, R1)) rfl ?_
  refine ev_ist (n := 300) rfl rfl (fun _ => rfl) n1 m1 ?_
  refine ev_go 3 (pc1 := 45) (lv1 := [.ref 86, .int most]) (st1 := [.int most, .int 0, .ref 86]) (h1 := (124, (uI I1 104 (I1 86 30).toNatClampNeg (I1 86 11)), J1, R1)) rfl ?_
  refine ev_call (v1 := (some (.int 0))) (h1 := (124, I2, J2, R2)) rfl rfl c2 ?_
  refine ev_go 2 (pc1 := 52) (lv1 := [.ref 86, .int most]) (st1 := [.int 0]) (h1 := (124, I2, J2, R2)) rfl ?_
  exact ev_ret rfl rfl
set_option maxRecDepth 20000 in
theorem rr_3 {L : Nat} {xs : Nat → Int32} {d : Nat} {I : Nat → Nat → Int32} {J : Nat → Nat → Int64} {R : Nat → Nat → Nat} {I1 : Nat → Nat → Int32} {J1 : Nat → Nat → Int64} {R1 : Nat → Nat → Nat} {I2 : Nat → Nat → Int32} {J2 : Nat → Nat → Int64} {R2 : Nat → Nat → Nat} {most : Int32} (hG : aGd R) (b1 : (I 86 3).toInt ≠ 4) (c1 : xEv L xs d 159 0 [.ref 86, .int 0, .int 63] [] (124, I, J, R) (some (.int 1)) (124, I1, J1, R1)) (hG1 : aGd R1) (n1 : 0 ≤ (I1 86 30).toInt) (m1 : (I1 86 30).toInt < 300) (c2 : xEv L xs d 159 0 [.ref 86, .int 0, .int most] [] (124, (uI I1 104 (I1 86 30).toNatClampNeg (I1 86 11)), J1, R1) (some (.int 1)) (124, I2, J2, R2)) (hG2 : aGd R2) (n2 : 0 ≤ (I2 86 30).toInt) (m2 : (I2 86 30).toInt < 300) (b2 : (I2 86 3).toInt ≠ 3) : xEv L xs (d + 1) 174 9 [.ref 86, .int most] [] (124, I, J, R) (some (.int 0)) (124, (uI I2 105 (I2 86 30).toNatClampNeg (I2 86 11)), J2, R2) := by
  refine ev_go 3 (pc1 := 14) (lv1 := [.ref 86, .int most]) (st1 := [.int 4, .int (I 86 3)]) (h1 := (124, I, J, R)) rfl ?_
  refine ev_br (b1 := false) rfl rfl (xcd_neq (x := (I 86 3)) (y := 4) (by rw [show ((4 : Int32)).toInt = 4 from by decide]; first | exact b1 | omega)) ?_
  refine ev_go 3 (pc1 := 21) (lv1 := [.ref 86, .int most]) (st1 := [.int 63, .int 0, .ref 86]) (h1 := (124, I, J, R)) rfl ?_
  refine ev_call (v1 := (some (.int 1))) (h1 := (124, I1, J1, R1)) rfl rfl c1 ?_
  refine ev_go 2 (pc1 := 30) (lv1 := [.ref 86, .int most]) (st1 := [.ref 86]) (h1 := (124, I1, J1, R1)) rfl ?_
  refine ev_gf (c := 86) (t := 104) (X := R1 86 31) rfl rfl (fun _ => rfl) rfl (hG1 86 31 104 rfl rfl) ?_
  refine ev_go 4 (pc1 := 41) (lv1 := [.ref 86, .int most]) (st1 := [.int (I1 86 11), .int (I1 86 30), .ref 104]) (h1 := (124, I1, J1, R1)) rfl ?_
  refine ev_ist (n := 300) rfl rfl (fun _ => rfl) n1 m1 ?_
  refine ev_go 3 (pc1 := 45) (lv1 := [.ref 86, .int most]) (st1 := [.int most, .int 0, .ref 86]) (h1 := (124, (uI I1 104 (I1 86 30).toNatClampNeg (I1 86 11)), J1, R1)) rfl ?_
  refine ev_call (v1 := (some (.int 1))) (h1 := (124, I2, J2, R2)) rfl rfl c2 ?_
  refine ev_go 2 (pc1 := 54) (lv1 := [.ref 86, .int most]) (st1 := [.ref 86]) (h1 := (124, I2, J2, R2)) rfl ?_
  refine ev_gf (c := 86) (t := 105) (X := R2 86 32) rfl rfl (fun _ => rfl) rfl (hG2 86 32 105 rfl rfl) ?_
  refine ev_go 4 (pc1 := 65) (lv1 := [.ref 86, .int most]) (st1 := [.int (I2 86 11), .int (I2 86 30), .ref 105]) (h1 := (124, I2, J2, R2)) rfl ?_
  refine ev_ist (n := 300) rfl rfl (fun _ => rfl) n2 m2 ?_
  refine ev_go 3 (pc1 := 71) (lv1 := [.ref 86, .int most]) (st1 := [.int 3, .int (I2 86 3)]) (h1 := (124, (uI I2 105 (I2 86 30).toNatClampNeg (I2 86 11)), J2, R2)) rfl ?_
  refine ev_br (b1 := false) rfl rfl (xcd_neq (x := (I2 86 3)) (y := 3) (by rw [show ((3 : Int32)).toInt = 3 from by decide]; first | exact b2 | omega)) ?_
  refine ev_go 1 (pc1 := 75) (lv1 := [.ref 86, .int most]) (st1 := [.int 0]) (h1 := (124, (uI I2 105 (I2 86 30).toNatClampNeg (I2 86 11)), J2, R2)) rfl ?_
  exact ev_ret rfl rfl
set_option maxRecDepth 20000 in
theorem rr_4 {L : Nat} {xs : Nat → Int32} {d : Nat} {I : Nat → Nat → Int32} {J : Nat → Nat → Int64} {R : Nat → Nat → Nat} {I1 : Nat → Nat → Int32} {J1 : Nat → Nat → Int64} {R1 : Nat → Nat → Nat} {I2 : Nat → Nat → Int32} {J2 : Nat → Nat → Int64} {R2 : Nat → Nat → Nat} {I3 : Nat → Nat → Int32} {J3 : Nat → Nat → Int64} {R3 : Nat → Nat → Nat} {most : Int32} (hG : aGd R) (b1 : (I 86 3).toInt ≠ 4) (c1 : xEv L xs d 159 0 [.ref 86, .int 0, .int 63] [] (124, I, J, R) (some (.int 1)) (124, I1, J1, R1)) (hG1 : aGd R1) (n1 : 0 ≤ (I1 86 30).toInt) (m1 : (I1 86 30).toInt < 300) (c2 : xEv L xs d 159 0 [.ref 86, .int 0, .int most] [] (124, (uI I1 104 (I1 86 30).toNatClampNeg (I1 86 11)), J1, R1) (some (.int 1)) (124, I2, J2, R2)) (hG2 : aGd R2) (n2 : 0 ≤ (I2 86 30).toInt) (m2 : (I2 86 30).toInt < 300) (b2 : (I2 86 3).toInt = 3) (c3 : xEv L xs d 150 0 [.ref 86, xmk, xmk, xmk] [] (124, (uI I2 105 (I2 86 30).toNatClampNeg (I2 86 11)), J2, R2) none (124, I3, J3, R3)) (hG3 : aGd R3) {v : Option Value} {h' : xH} (hk : xEv L xs (d + 1) 174 9 [.ref 86, .int most] [] (124, (uI I3 86 30 ((I3 86 30) + 1)), J3, R3) v h') : xEv L xs (d + 1) 174 9 [.ref 86, .int most] [] (124, I, J, R) v h' := by
  refine ev_go 3 (pc1 := 14) (lv1 := [.ref 86, .int most]) (st1 := [.int 4, .int (I 86 3)]) (h1 := (124, I, J, R)) rfl ?_
  refine ev_br (b1 := false) rfl rfl (xcd_neq (x := (I 86 3)) (y := 4) (by rw [show ((4 : Int32)).toInt = 4 from by decide]; first | exact b1 | omega)) ?_
  refine ev_go 3 (pc1 := 21) (lv1 := [.ref 86, .int most]) (st1 := [.int 63, .int 0, .ref 86]) (h1 := (124, I, J, R)) rfl ?_
  refine ev_call (v1 := (some (.int 1))) (h1 := (124, I1, J1, R1)) rfl rfl c1 ?_
  refine ev_go 2 (pc1 := 30) (lv1 := [.ref 86, .int most]) (st1 := [.ref 86]) (h1 := (124, I1, J1, R1)) rfl ?_
  refine ev_gf (c := 86) (t := 104) (X := R1 86 31) rfl rfl (fun _ => rfl) rfl (hG1 86 31 104 rfl rfl) ?_
  refine ev_go 4 (pc1 := 41) (lv1 := [.ref 86, .int most]) (st1 := [.int (I1 86 11), .int (I1 86 30), .ref 104]) (h1 := (124, I1, J1, R1)) rfl ?_
  refine ev_ist (n := 300) rfl rfl (fun _ => rfl) n1 m1 ?_
  refine ev_go 3 (pc1 := 45) (lv1 := [.ref 86, .int most]) (st1 := [.int most, .int 0, .ref 86]) (h1 := (124, (uI I1 104 (I1 86 30).toNatClampNeg (I1 86 11)), J1, R1)) rfl ?_
  refine ev_call (v1 := (some (.int 1))) (h1 := (124, I2, J2, R2)) rfl rfl c2 ?_
  refine ev_go 2 (pc1 := 54) (lv1 := [.ref 86, .int most]) (st1 := [.ref 86]) (h1 := (124, I2, J2, R2)) rfl ?_
  refine ev_gf (c := 86) (t := 105) (X := R2 86 32) rfl rfl (fun _ => rfl) rfl (hG2 86 32 105 rfl rfl) ?_
  refine ev_go 4 (pc1 := 65) (lv1 := [.ref 86, .int most]) (st1 := [.int (I2 86 11), .int (I2 86 30), .ref 105]) (h1 := (124, I2, J2, R2)) rfl ?_
  refine ev_ist (n := 300) rfl rfl (fun _ => rfl) n2 m2 ?_
  refine ev_go 3 (pc1 := 71) (lv1 := [.ref 86, .int most]) (st1 := [.int 3, .int (I2 86 3)]) (h1 := (124, (uI I2 105 (I2 86 30).toNatClampNeg (I2 86 11)), J2, R2)) rfl ?_
  refine ev_br (b1 := true) rfl rfl (xcd_eq (x := (I2 86 3)) (y := 3) (by rw [show ((3 : Int32)).toInt = 3 from by decide]; first | exact b2 | omega)) ?_
  refine ev_go 1 (pc1 := 77) (lv1 := [.ref 86, .int most]) (st1 := [.ref 86]) (h1 := (124, (uI I2 105 (I2 86 30).toNatClampNeg (I2 86 11)), J2, R2)) rfl ?_
  refine ev_call (v1 := none) (h1 := (124, I3, J3, R3)) rfl rfl c3 ?_
  refine ev_go 7 (pc1 := 9) (lv1 := [.ref 86, .int most]) (st1 := []) (h1 := (124, (uI I3 86 30 ((I3 86 30) + 1)), J3, R3)) rfl ?_
  exact hk
set_option maxRecDepth 20000 in
theorem tt_run {L : Nat} {xs : Nat → Int32} {d : Nat} {I : Nat → Nat → Int32} {J : Nat → Nat → Int64} {R : Nat → Nat → Nat} {I1 : Nat → Nat → Int32} {J1 : Nat → Nat → Int64} {R1 : Nat → Nat → Nat} (hG : aGd R) (c1 : xEv L xs d 150 0 [.ref 86, xmk, xmk, xmk] [] (124, (uI (uI (uI I 86 2 (I 86 1)) 86 1 0) 86 6 0), J, R) none (124, I1, J1, R1)) (hG1 : aGd R1) : xEv L xs (d + 1) 149 0 [.ref 86] [] (124, I, J, R) none (124, I1, J1, R1) := by
  refine ev_go 11 (pc1 := 19) (lv1 := [.ref 86]) (st1 := [.ref 86]) (h1 := (124, (uI (uI (uI I 86 2 (I 86 1)) 86 1 0) 86 6 0), J, R)) rfl ?_
  refine ev_call (v1 := none) (h1 := (124, I1, J1, R1)) rfl rfl c1 ?_
  exact ev_ret rfl rfl
set_option maxRecDepth 20000 in
theorem rr_0 {L : Nat} {xs : Nat → Int32} {d : Nat} {I : Nat → Nat → Int32} {J : Nat → Nat → Int64} {R : Nat → Nat → Nat} {I1 : Nat → Nat → Int32} {J1 : Nat → Nat → Int64} {R1 : Nat → Nat → Nat} {most : Int32} (hG : aGd R) (c1 : xEv L xs d 149 0 [.ref 86] [] (124, I, J, R) none (124, I1, J1, R1)) (hG1 : aGd R1) {v : Option Value} {h' : xH} (hk : xEv L xs (d + 1) 174 9 [.ref 86, .int most] [] (124, (uI I1 86 30 0), J1, R1) v h') : xEv L xs (d + 1) 174 0 [.ref 86, .int most] [] (124, I, J, R) v h' := by
  refine ev_go 1 (pc1 := 1) (lv1 := [.ref 86, .int most]) (st1 := [.ref 86]) (h1 := (124, I, J, R)) rfl ?_
  refine ev_call (v1 := none) (h1 := (124, I1, J1, R1)) rfl rfl c1 ?_
  refine ev_go 3 (pc1 := 9) (lv1 := [.ref 86, .int most]) (st1 := []) (h1 := (124, (uI I1 86 30 0), J1, R1)) rfl ?_
  exact hk
def rrInv (h0 : xH) (most : Int32) (I : Nat → Nat → Int32) (J : Nat → Nat → Int64) (R : Nat → Nat → Nat) : Prop := aGood (124, I, J, R) ∧ aFr (aMod 381) h0 (124, I, J, R) ∧ (I 86 1).toInt = 0 ∧ (∀ k : Nat, (k : Int) < (I 86 30).toInt → 0 ≤ (I 105 k).toInt ∧ (I 105 k).toInt ≤ most.toInt)
theorem rrL (hk : aOK 20) {L : Nat} {xs : Nat → Int32} {d : Nat} (hd : 6 ≤ d) {h0 : xH} {most : Int32} : ∀ (q : Nat) (I : Nat → Nat → Int32) (J : Nat → Nat → Int64) (R : Nat → Nat → Nat), (301 - (I 86 30).toInt).toNat = q → rrInv h0 most I J R → ((I 86 3).toInt = 2 → 3 * (I 86 30).toInt + 1 ≤ (I 86 6).toInt) → ∃ (v : Int32) (I' : Nat → Nat → Int32) (J' : Nat → Nat → Int64) (R' : Nat → Nat → Nat), xEv L xs (d + 1) 174 9 [.ref 86, .int most] [] (124, I, J, R) (some (.int v)) (124, I', J', R') ∧ aGood (124, I', J', R') ∧ aFr (aMod 381) h0 (124, I', J', R') ∧ (I' 86 1).toInt = 0 ∧ (v = 0 ∨ (v = 1 ∧ ∀ k : Nat, (k : Int) < (I' 86 30).toInt → 0 ≤ (I' 105 k).toInt ∧ (I' 105 k).toInt ≤ most.toInt)) := by
  intro q
  induction q with
  | zero =>
    intro I J R hq hI hs
    have hy := good_int hI.1 86 30 rfl
    have hy2 : (aRng 86 30) = (0, 300) := rfl
    rw [hy2] at hy
    dsimp only at hy
    omega
  | succ q ih =>
    intro I J R hq hI hs
    obtain ⟨hg, hf, ht, hc⟩ := hI
    have hG := gd_of hg
    have hy := good_int hg 86 30 rfl
    have hy2 : (aRng 86 30) = (0, 300) := rfl
    rw [hy2] at hy
    dsimp only at hy
    by_cases h4 : (I 86 3).toInt = 4
    · exact ⟨_, _, _, _, rr_e hG h4, hg, hf, ht, Or.inr ⟨rfl, hc⟩⟩
    obtain ⟨I1, J1, R1, hg1, hf1, c1 | ⟨c1, s2, -, -, u1, u2⟩⟩ := rn_run hk (L := L) (xs := xs) hd hg 0 63
    · have e1 : I1 86 1 = I 86 1 := fr_int hf1 86 1 rfl
      exact ⟨_, _, _, _, rr_1 hG h4 c1 (gd_of hg1), hg1, aFr_trans rfl hf hf1, by rw [e1]; exact ht, Or.inl rfl⟩
    have hs1 := hs s2
    have e30 : I1 86 30 = I 86 30 := fr_int hf1 86 30 rfl
    have hE1 := good_int hg1 86 6 rfl
    have hE2 : (aRng 86 6) = (0, 900) := rfl
    rw [hE2] at hE1
    dsimp only at hE1
    have x0 : 0 ≤ (I1 86 30).toInt := by rw [e30]; omega
    have x1 : (I1 86 30).toInt < 300 := by rw [e30]; omega
    have ga : aGood (124, uI I1 104 (I1 86 30).toNatClampNeg (I1 86 11), J1, R1) := gd_I hg1 (aw _).1 (aw _).2
    have fa : aFr (aMod 381) h0 (124, uI I1 104 (I1 86 30).toNatClampNeg (I1 86 11), J1, R1) := fr_uI (aFr_trans rfl hf hf1) (md (n := 287) rfl rfl)
    obtain ⟨I2, J2, R2, hg2, hf2, c2 | ⟨c2, s3, g3, g4, u3, u4⟩⟩ := rn_run hk (L := L) (xs := xs) hd ga 0 most
    · have e1 : I2 86 1 = I 86 1 := (fr_int hf2 86 1 rfl).trans (fr_int hf1 86 1 rfl)
      exact ⟨_, _, _, _, rr_2 hG h4 c1 (gd_of hg1) x0 x1 c2 (gd_of hg2), hg2, aFr_trans rfl fa hf2, by rw [e1]; exact ht, Or.inl rfl⟩
    have s3' : (I1 86 3).toInt = 2 := s3
    have u5 := u2 (Or.inl s3')
    have u3' : (I1 86 6).toInt ≤ (I2 86 6).toInt := u3
    have u4' : (I2 86 3).toInt = 2 ∨ (I2 86 3).toInt = 3 → (I1 86 6).toInt + 1 ≤ (I2 86 6).toInt := u4
    have e30b : I2 86 30 = I 86 30 := (fr_int hf2 86 30 rfl).trans e30
    have y0 : 0 ≤ (I2 86 30).toInt := by rw [e30b]; omega
    have y1 : (I2 86 30).toInt < 300 := by rw [e30b]; omega
    have gb : aGood (124, uI I2 105 (I2 86 30).toNatClampNeg (I2 86 11), J2, R2) := gd_I hg2 (aw _).1 (aw _).2
    have fb : aFr (aMod 381) h0 (124, uI I2 105 (I2 86 30).toNatClampNeg (I2 86 11), J2, R2) := fr_uI (aFr_trans rfl fa hf2) (md (n := 288) rfl rfl)
    have e1b : I2 86 1 = I 86 1 := (fr_int hf2 86 1 rfl).trans (fr_int hf1 86 1 rfl)
    by_cases h5 : (I2 86 3).toInt = 3
    · have u6 := u4' (Or.inr h5)
      obtain ⟨I3, J3, R3, he3, hg3, hf3, u7, u8⟩ := sc_run hk (L := L) (xs := xs) (d := d) (by omega) gb
      have u7' : (I2 86 6).toInt ≤ (I3 86 6).toInt := u7
      have u8' : (I3 86 3).toInt = 2 ∨ (I3 86 3).toInt = 3 → (I2 86 6).toInt + 1 ≤ (I3 86 6).toInt := u8
      have e30c : I3 86 30 = I 86 30 := (fr_int hf3 86 30 rfl).trans e30b
      have e1c : I3 86 1 = I 86 1 := (fr_int hf3 86 1 rfl).trans e1b
      have ea : (I3 86 30 + 1).toInt = (I 86 30).toInt + 1 := by rw [e30c]; exact i_add1 (by omega)
      have ecl := clamp_s (i := I2 86 30) y0
      obtain ⟨v, I', J', R', z1, z2⟩ := ih (uI I3 86 30 (I3 86 30 + 1)) J3 R3 (by show (301 - (I3 86 30 + 1).toInt).toNat = q; omega) ⟨gd_I hg3 (by show (0 : Int) ≤ (I3 86 30 + 1).toInt; omega) (by show (I3 86 30 + 1).toInt ≤ 300; omega), fr_uI (aFr_trans rfl fb hf3) rfl, (by show (I3 86 1).toInt = 0; rw [e1c]; exact ht), (by
        intro k hkk
        have hkk' : (k : Int) < (I3 86 30 + 1).toInt := hkk
        show 0 ≤ (I3 105 k).toInt ∧ (I3 105 k).toInt ≤ most.toInt
        have f3 : I3 105 k = uI I2 105 (I2 86 30).toNatClampNeg (I2 86 11) 105 k := fr_int hf3 105 k (mdn (n := 288) rfl rfl)
        rw [f3]
        by_cases ek : k = (I2 86 30).toNatClampNeg
        · rw [ek, uI_s]
          exact ⟨g3, g4⟩
        · rw [uI_n _ _ (fun z => ek z.2)]
          have f2 : I2 105 k = I1 105 k := fr_int hf2 105 k (mdn (n := 288) rfl rfl)
          have f1 : I1 105 k = I 105 k := fr_int hf1 105 k (mdn (n := 288) rfl rfl)
          rw [f2, f1]
          rw [e30b] at ecl ek
          exact hc k (by omega))⟩ (by
        intro hz
        have hz' : (I3 86 3).toInt = 2 := hz
        have := u8' (Or.inl hz')
        show 3 * (I3 86 30 + 1).toInt + 1 ≤ (I3 86 6).toInt
        omega)
      exact ⟨v, I', J', R', rr_4 hG h4 c1 (gd_of hg1) x0 x1 c2 (gd_of hg2) y0 y1 h5 he3 (gd_of hg3) z1, z2⟩
    · exact ⟨_, _, _, _, rr_3 hG h4 c1 (gd_of hg1) x0 x1 c2 (gd_of hg2) y0 y1 h5, gb, fb, by show (I2 86 1).toInt = 0; rw [e1b]; exact ht, Or.inl rfl⟩
theorem rr_run (hk : aOK 20) {L : Nat} {xs : Nat → Int32} {d : Nat} (hd : 8 ≤ d) {I : Nat → Nat → Int32} {J : Nat → Nat → Int64} {R : Nat → Nat → Nat} (hg : aGood (124, I, J, R)) (most : Int32) : ∃ (v : Int32) (I' : Nat → Nat → Int32) (J' : Nat → Nat → Int64) (R' : Nat → Nat → Nat), xEv L xs d 174 0 [.ref 86, .int most] [] (124, I, J, R) (some (.int v)) (124, I', J', R') ∧ aGood (124, I', J', R') ∧ aFr (aMod 381) (124, I, J, R) (124, I', J', R') ∧ (I' 86 1).toInt = 0 ∧ (v = 0 ∨ (v = 1 ∧ ∀ k : Nat, (k : Int) < (I' 86 30).toInt → 0 ≤ (I' 105 k).toInt ∧ (I' 105 k).toInt ≤ most.toInt)) := by
  obtain ⟨d, rfl⟩ : ∃ e, d = e + 2 := ⟨d - 2, by omega⟩
  have hG := gd_of hg
  have hT := good_int hg 86 1 rfl
  have hT2 : (aRng 86 1) = (0, 900) := rfl
  rw [hT2] at hT
  dsimp only at hT
  have g1 : aGood (124, uI (uI (uI I 86 2 (I 86 1)) 86 1 0) 86 6 0, J, R) := gd_I (gd_I (gd_I hg (by show (0 : Int) ≤ (I 86 1).toInt; omega) (by show (I 86 1).toInt ≤ 900; omega)) (by decide) (by decide)) (by decide) (by decide)
  have f1 : aFr (aMod 381) (124, I, J, R) (124, uI (uI (uI I 86 2 (I 86 1)) 86 1 0) 86 6 0, J, R) := fr_uI (fr_uI (fr_uI (aFr_refl _ _) rfl) rfl) rfl
  obtain ⟨I1, J1, R1, he, hg1, hf1, u1, u2⟩ := sc_run hk (L := L) (xs := xs) (d := d) (by omega) g1
  have ct := tt_run hG he (gd_of hg1)
  have u2' : (I1 86 3).toInt = 2 ∨ (I1 86 3).toInt = 3 → 0 + 1 ≤ (I1 86 6).toInt := u2
  have e1 : I1 86 1 = 0 := fr_int hf1 86 1 rfl
  obtain ⟨v, I', J', R', z1, z2⟩ := rrL hk (L := L) (xs := xs) (d := d + 1) (by omega) (h0 := (124, I, J, R)) (most := most) _ (uI I1 86 30 0) J1 R1 rfl ⟨gd_I hg1 (by decide) (by decide), fr_uI (aFr_trans rfl f1 hf1) rfl, (by show (I1 86 1).toInt = 0; rw [e1]; rfl), (by
    intro k hkk
    have hkk' : (k : Int) < 0 := hkk
    omega)⟩ (by
    intro hz
    have hz' : (I1 86 3).toInt = 2 := hz
    have := u2' (Or.inl hz')
    show 3 * (0 : Int) + 1 ≤ (I1 86 6).toInt
    omega)
  exact ⟨v, I', J', R', rr_0 hG ct (gd_of hg1) z1, z2⟩
theorem okh_381 (hkn : ∀ n, n < 381 → aOK n) : aOK 381 := by
  intro L xs d vs h hd hg hA hF
  obtain ⟨n0, I, J, R⟩ := h
  have e1 : n0 = 124 := hg.1
  subst e1
  obtain ⟨n, rfl, -, -⟩ := args_RI (c := 86) hA
  obtain ⟨v, I', J', R', z1, z2, z3, z4, z5⟩ := rr_run (hkn 20 (by decide)) (L := L) (xs := xs) (d := d) hd hg n
  refine ⟨_, _, z1, ?_⟩
  have ft : aFok (124, I', J', R') [(86, 1, 0, 0)] := fok1 rfl (by show (0 : Int) ≤ (I' 86 1).toInt; omega) (by show (I' 86 1).toInt ≤ 0; omega)
  rcases z5 with rfl | ⟨rfl, -⟩
  · exact post1 (cs := (some (Sum.inr (Sum.inl (0, 0, none))), [], [(86, 1, 0, 0)], [])) List.mem_cons_self z2 z3 (cok_i (by decide) (by decide) ft)
  · exact post1 (cs := (some (Sum.inr (Sum.inl (1, 1, none))), [], [(86, 1, 0, 0)], [])) (List.mem_cons_of_mem _ List.mem_cons_self) z2 z3 (cok_i (by decide) (by decide) ft)
