set_option maxRecDepth 20000 in
theorem rb_a {L : Nat} {xs : Nat → Int32} {d : Nat} {I : Nat → Nat → Int32} {J : Nat → Nat → Int64} {R : Nat → Nat → Nat} {B : Int32} (hG : aGd R) (b1 : (I 1 3).toInt ≠ 2) : xEv L xs d 55 0 [.ref 1, .int B, xmk] [] (124, I, J, R) (some (.int (-1))) (124, I, J, R) := by
  refine ev_go 3 (pc1 := 5) (lv1 := [.ref 1, .int B, xmk]) (st1 := [.int 2, .int (I 1 3)]) (h1 := (124, I, J, R)) rfl ?_
  refine ev_br (b1 := true) rfl rfl (xcd_ne (x := (I 1 3)) (y := 2) (by rw [show ((2 : Int32)).toInt = 2 from by decide]; first | exact b1 | omega)) ?_
  refine ev_go 1 (pc1 := 19) (lv1 := [.ref 1, .int B, xmk]) (st1 := [.int (-1)]) (h1 := (124, I, J, R)) rfl ?_
  exact ev_ret rfl rfl
set_option maxRecDepth 20000 in
theorem rb_b {L : Nat} {xs : Nat → Int32} {d : Nat} {I : Nat → Nat → Int32} {J : Nat → Nat → Int64} {R : Nat → Nat → Nat} {B : Int32} (hG : aGd R) (b1 : (I 1 3).toInt = 2) (b2 : (lg_cmp (J 1 5) B.toInt64).toInt ≥ 0) : xEv L xs d 55 0 [.ref 1, .int B, xmk] [] (124, I, J, R) (some (.int (-1))) (124, I, J, R) := by
  refine ev_go 3 (pc1 := 5) (lv1 := [.ref 1, .int B, xmk]) (st1 := [.int 2, .int (I 1 3)]) (h1 := (124, I, J, R)) rfl ?_
  refine ev_br (b1 := false) rfl rfl (xcd_nne (x := (I 1 3)) (y := 2) (by rw [show ((2 : Int32)).toInt = 2 from by decide]; first | exact b1 | omega)) ?_
  refine ev_go 5 (pc1 := 15) (lv1 := [.ref 1, .int B, xmk]) (st1 := [.int (lg_cmp (J 1 5) B.toInt64)]) (h1 := (124, I, J, R)) rfl ?_
  refine ev_br (b1 := false) rfl rfl (xcd_nlt (x := (lg_cmp (J 1 5) B.toInt64)) (y := 0) (by rw [show ((0 : Int32)).toInt = 0 from by decide]; first | exact b2 | omega)) ?_
  refine ev_go 1 (pc1 := 19) (lv1 := [.ref 1, .int B, xmk]) (st1 := [.int (-1)]) (h1 := (124, I, J, R)) rfl ?_
  exact ev_ret rfl rfl
set_option maxRecDepth 20000 in
theorem rb_c {L : Nat} {xs : Nat → Int32} {d : Nat} {I : Nat → Nat → Int32} {J : Nat → Nat → Int64} {R : Nat → Nat → Nat} {I1 : Nat → Nat → Int32} {J1 : Nat → Nat → Int64} {B : Int32} (hG : aGd R) (b1 : (I 1 3).toInt = 2) (b2 : (lg_cmp (J 1 5) B.toInt64).toInt < 0) (c1 : xEv L xs d 21 0 [.ref 1] [] (124, I, J, R) none (124, I1, J1, R)) : xEv L xs (d + 1) 55 0 [.ref 1, .int B, xmk] [] (124, I, J, R) (some (.int (J 1 5).toInt32)) (124, I1, J1, R) := by
  refine ev_go 3 (pc1 := 5) (lv1 := [.ref 1, .int B, xmk]) (st1 := [.int 2, .int (I 1 3)]) (h1 := (124, I, J, R)) rfl ?_
  refine ev_br (b1 := false) rfl rfl (xcd_nne (x := (I 1 3)) (y := 2) (by rw [show ((2 : Int32)).toInt = 2 from by decide]; first | exact b1 | omega)) ?_
  refine ev_go 5 (pc1 := 15) (lv1 := [.ref 1, .int B, xmk]) (st1 := [.int (lg_cmp (J 1 5) B.toInt64)]) (h1 := (124, I, J, R)) rfl ?_
  refine ev_br (b1 := true) rfl rfl (xcd_lt (x := (lg_cmp (J 1 5) B.toInt64)) (y := 0) (by rw [show ((0 : Int32)).toInt = 0 from by decide]; first | exact b2 | omega)) ?_
  refine ev_go 5 (pc1 := 27) (lv1 := [.ref 1, .int B, .int (J 1 5).toInt32]) (st1 := [.ref 1]) (h1 := (124, I, J, R)) rfl ?_
  refine ev_call (v1 := none) (h1 := (124, I1, J1, R)) rfl rfl c1 ?_
  refine ev_go 1 (pc1 := 31) (lv1 := [.ref 1, .int B, .int (J 1 5).toInt32]) (st1 := [.int (J 1 5).toInt32]) (h1 := (124, I1, J1, R)) rfl ?_
  exact ev_ret rfl rfl
theorem cTok_e {b : Nat → Int32} {n st k e : Nat} {I I' : Nat → Nat → Int32} {J : Nat → Nat → Int64} (h : cTok b n I J st k e) (hI : ∀ c q, c = 1 ∨ c = 2 → I' c q = I c q) : cTok b n I' J st k e := by
  obtain ⟨a1, a2, a3, a4, a5, a6, a7, a8⟩ := h
  refine ⟨by rw [hI 1 1 (Or.inl rfl)]; exact a1, by rw [hI 1 2 (Or.inl rfl)]; exact a2, by rw [hI 1 3 (Or.inl rfl)]; exact a3, by rw [hI 1 4 (Or.inl rfl)]; exact a4, a5, ?_, a7, a8⟩
  rw [← a6]
  funext q
  unfold bX
  rw [hI 2 q (Or.inr rfl)]
theorem rTok_e {b : Nat → Int32} {n st k e : Nat} {I I' : Nat → Nat → Int32} {J : Nat → Nat → Int64} (h : rTok b n I J st k e) (hI : ∀ c q, (c = 86 ∧ q < 8) ∨ c = 87 → I' c q = I c q) : rTok b n I' J st k e := by
  obtain ⟨a1, a2, a3, a4, a5, a6, a7, a8, a9, a10⟩ := h
  refine ⟨by rw [hI 86 2 (by omega)]; exact a1, by rw [hI 86 6 (by omega)]; exact a2, by rw [hI 86 3 (by omega)]; exact a3, by rw [hI 86 5 (by omega)]; exact a4, a5, by rw [hI 86 7 (by omega)]; exact a6, by rw [hI 86 4 (by omega)]; exact a7, ?_, a9, a10⟩
  rw [← a8]
  funext q
  unfold bM
  rw [hI 87 q (by omega)]
/-- the class's next token -/
theorem adt {L : Nat} {xs : Nat → Int32} {d : Nat} {R : Nat → Nat → Nat} {b : Nat → Int32} {n st k e : Nat} {I : Nat → Nat → Int32} {J : Nat → Nat → Int64} (hG : aGd R) (hn9 : n ≤ 900) (ct : cTok b n I J st k e) : ∃ (st' k' e' : Nat) (I' : Nat → Nat → Int32) (J' : Nat → Nat → Int64), xEv L xs (d + 1) 21 0 [.ref 1] [] (124, I, J, R) none (124, I', J', R) ∧ isTok b e st' k' e' ∧ cTok b n I' J' st' k' e' ∧ alT I I' J J' := by
  obtain ⟨a1, a2, a3, a4, a5, a6, a7, a8⟩ := ct
  obtain ⟨st', k', e', I', J', x1, x2, x3, x4, x5, x6, x7, x8, x9, x10⟩ := ad_run (L := L) (xs := xs) (d := d) (R := R) hG hn9 (J := J) a1 a2 a7
  rw [a6] at x2 x9
  refine ⟨st', k', e', I', J', x1, x2, ⟨by rw [x10.1 1 1 (by omega)]; exact a1, x6, x7, x8, x9, ?_, x4, x5⟩, x10⟩
  rw [← a6]
  funext q
  unfold bX
  rw [x10.1 2 q (by omega)]
/-- a number below a bound, the class alone -/
theorem rbc {L : Nat} {xs : Nat → Int32} {d : Nat} {R : Nat → Nat → Nat} {b : Nat → Int32} {n p st k e : Nat} {I : Nat → Nat → Int32} {J : Nat → Nat → Int64} (hG : aGd R) (hn9 : n ≤ 900) (tk : isTok b p st k e) (ct : cTok b n I J st k e) (B : Int32) :
    (¬ (cKd k (e - st) = 2 ∧ (nF b st (e - st)).toInt < B.toInt) ∧ xEv L xs (d + 2) 55 0 [.ref 1, .int B, xmk] [] (124, I, J, R) (some (.int (-1))) (124, I, J, R)) ∨
    ((cKd k (e - st) = 2 ∧ 0 ≤ (nF b st (e - st)).toInt ∧ (nF b st (e - st)).toInt < B.toInt) ∧ ∃ (st' k' e' : Nat) (I' : Nat → Nat → Int32) (J' : Nat → Nat → Int64), xEv L xs (d + 2) 55 0 [.ref 1, .int B, xmk] [] (124, I, J, R) (some (.int (nF b st (e - st)))) (124, I', J', R) ∧ isTok b e st' k' e' ∧ cTok b n I' J' st' k' e' ∧ alT I I' J J') := by
  have a3 := ct.2.2.1
  by_cases hk : cKd k (e - st) = 2
  · obtain ⟨u1, u2⟩ := ck_2.mp hk
    have hv : J 1 5 = vF b st (e - st) := ct.2.2.2.2.1 (Or.inr u1)
    subst u1
    obtain ⟨u3, u4⟩ := tok_n tk
    obtain ⟨n1, n2, n3⟩ := num_eq u3 u2 u4
    have hvn : (J 1 5).toInt = (nF b st (e - st)).toInt := by rw [hv]; exact n1
    by_cases hb : (nF b st (e - st)).toInt < B.toInt
    · right
      obtain ⟨st', k', e', I', J', x1, x2, x3, x4⟩ := adt (L := L) (xs := xs) (d := d) (R := R) hG hn9 ct
      have c := rb_c (L := L) (xs := xs) (B := B) hG (by omega) (lg_lt.mpr (by rw [i2l_t, hvn]; exact hb)) x1
      rw [l2i_n hvn] at c
      exact ⟨⟨hk, n2, hb⟩, st', k', e', I', J', c, x2, x3, x4⟩
    · exact Or.inl ⟨fun z => hb z.2, rb_b hG (by omega) (by have := mt (lg_lt (x := J 1 5) (y := B.toInt64)).mp (by rw [i2l_t, hvn]; omega); omega)⟩
  · exact Or.inl ⟨fun z => hk z.1, rb_a hG (by omega)⟩
/-- and in both -/
theorem rbl {L : Nat} {xs : Nat → Int32} {d d' : Nat} {R Rr : Nat → Nat → Nat} {b : Nat → Int32} {n p st k e : Nat} {Ic Ir : Nat → Nat → Int32} {Jc Jr : Nat → Nat → Int64} (hG : aGd R) (hGr : aGd Rr) (h4 : 4 ≤ d' + 1) (hn9 : n ≤ 900) (tk : isTok b p st k e) (ct : cTok b n Ic Jc st k e) (rt : rTok b n Ir Jr st k e) {B hi : Int32} (hB : B.toInt = hi.toInt + 1) :
    (xEv L xs (d + 2) 55 0 [.ref 1, .int B, xmk] [] (124, Ic, Jc, R) (some (.int (-1))) (124, Ic, Jc, R) ∧ ¬ (cKd k (e - st) = 2 ∧ (nF b st (e - st)).toInt < B.toInt) ∧ ∃ Ir' : Nat → Nat → Int32, xEv L xs (d' + 3) 159 0 [.ref 86, .int 0, .int hi] [] (124, Ir, Jr, Rr) (some (.int 0)) (124, Ir', Jr, Rr) ∧ alM Ir Ir' Jr Jr) ∨
    (∃ (y : Int32) (st' k' e' : Nat) (Ic' Ir' : Nat → Nat → Int32) (Jc' Jr' : Nat → Nat → Int64), xEv L xs (d + 2) 55 0 [.ref 1, .int B, xmk] [] (124, Ic, Jc, R) (some (.int y)) (124, Ic', Jc', R) ∧ xEv L xs (d' + 3) 159 0 [.ref 86, .int 0, .int hi] [] (124, Ir, Jr, Rr) (some (.int 1)) (124, Ir', Jr', Rr) ∧ k = 2 ∧ 0 ≤ y.toInt ∧ y.toInt < B.toInt ∧ isTok b e st' k' e' ∧ cTok b n Ic' Jc' st' k' e' ∧ rTok b n Ir' Jr' st' k' e' ∧ Ir' 86 11 = y ∧ alT Ic Ic' Jc Jc' ∧ alM Ir Ir' Jr Jr') := by
  have dn := mn_run (L := L) (xs := xs) (d := d') (R := Rr) (b := b) (n := n) (I := Ir) (J := Jr) hGr h4 hn9 tk rt 0 hi
  have hkr : cKd k (e - st) = 2 ↔ rSo k (e - st) = 2 := by rw [ck_2, rs_2]
  rw [show (0 : Int32).toInt = 0 from by decide] at dn
  rcases rbc (L := L) (xs := xs) (d := d) (R := R) hG hn9 tk ct B with ⟨h1, h2⟩ | ⟨⟨h1, h2, h3⟩, st', k', e', I', J', x1, x2, x3, x4⟩
  · left
    refine ⟨h2, h1, ?_⟩
    rcases dn with ⟨w1, w2, w3, -⟩ | ⟨I', w1, w2, -⟩
    · exact absurd ⟨hkr.mpr w1, by omega⟩ h1
    · exact ⟨I', w1, w2⟩
  · right
    rcases dn with ⟨w1, w2, w3, st3, k3, e3, Ir3, Jr3, d3, tk3, rt3, w4, w5, w6, ar3⟩ | ⟨I', -, -, -, ⟨w3, -⟩ | ⟨-, w4, -⟩⟩
    · obtain ⟨g1, g2, g3⟩ := isTok_u x2 tk3
      subst g1
      subst g2
      subst g3
      exact ⟨_, st', k', e', I', Ir3, J', Jr3, x1, d3, (ck_2.mp h1).1, h2, h3, x2, x3, rt3, w4, x4, ar3⟩
    · exact absurd (hkr.mp h1) w3
    · exact absurd ⟨h2, by omega⟩ w4
set_option maxRecDepth 20000 in
theorem rd_e {L : Nat} {xs : Nat → Int32} {d : Nat} {I : Nat → Nat → Int32} {J : Nat → Nat → Int64} {R : Nat → Nat → Nat} {i : Int32} {w3 w4 : Value} (hG : aGd R) (b1 : i.toInt ≥ 225) (b2 : (I 1 3).toInt = 0) : xEv L xs d 54 11 [.ref 44, .ref 1, .int i, w3, w4] [] (124, I, J, R) (some (.int 1)) (124, I, J, R) := by
  refine ev_go 2 (pc1 := 15) (lv1 := [.ref 44, .ref 1, .int i, w3, w4]) (st1 := [.int 225, .int i]) (h1 := (124, I, J, R)) rfl ?_
  refine ev_br (b1 := true) rfl rfl (xcd_ge (x := i) (y := 225) (by rw [show ((225 : Int32)).toInt = 225 from by decide]; first | exact b1 | omega)) ?_
  refine ev_go 2 (pc1 := 100) (lv1 := [.ref 44, .ref 1, .int i, w3, w4]) (st1 := [.int (I 1 3)]) (h1 := (124, I, J, R)) rfl ?_
  refine ev_br (b1 := false) rfl rfl (xcd_nne (x := (I 1 3)) (y := 0) (by rw [show ((0 : Int32)).toInt = 0 from by decide]; first | exact b2 | omega)) ?_
  refine ev_go 2 (pc1 := 108) (lv1 := [.ref 44, .ref 1, .int i, w3, w4]) (st1 := [.int 1]) (h1 := (124, I, J, R)) rfl ?_
  exact ev_ret rfl rfl
set_option maxRecDepth 20000 in
theorem rd_f {L : Nat} {xs : Nat → Int32} {d : Nat} {I : Nat → Nat → Int32} {J : Nat → Nat → Int64} {R : Nat → Nat → Nat} {i : Int32} {w3 w4 : Value} (hG : aGd R) (b1 : i.toInt < 225) (b2 : (I 1 3).toInt = 0) (b3 : (I 1 3).toInt = 0) : xEv L xs d 54 11 [.ref 44, .ref 1, .int i, w3, w4] [] (124, I, J, R) (some (.int 1)) (124, I, J, R) := by
  refine ev_go 2 (pc1 := 15) (lv1 := [.ref 44, .ref 1, .int i, w3, w4]) (st1 := [.int 225, .int i]) (h1 := (124, I, J, R)) rfl ?_
  refine ev_br (b1 := false) rfl rfl (xcd_nge (x := i) (y := 225) (by rw [show ((225 : Int32)).toInt = 225 from by decide]; first | exact b1 | omega)) ?_
  refine ev_go 2 (pc1 := 22) (lv1 := [.ref 44, .ref 1, .int i, w3, w4]) (st1 := [.int (I 1 3)]) (h1 := (124, I, J, R)) rfl ?_
  refine ev_br (b1 := true) rfl rfl (xcd_eq (x := (I 1 3)) (y := 0) (by rw [show ((0 : Int32)).toInt = 0 from by decide]; first | exact b2 | omega)) ?_
  refine ev_go 2 (pc1 := 100) (lv1 := [.ref 44, .ref 1, .int i, w3, w4]) (st1 := [.int (I 1 3)]) (h1 := (124, I, J, R)) rfl ?_
  refine ev_br (b1 := false) rfl rfl (xcd_nne (x := (I 1 3)) (y := 0) (by rw [show ((0 : Int32)).toInt = 0 from by decide]; first | exact b3 | omega)) ?_
  refine ev_go 2 (pc1 := 108) (lv1 := [.ref 44, .ref 1, .int i, w3, w4]) (st1 := [.int 1]) (h1 := (124, I, J, R)) rfl ?_
  exact ev_ret rfl rfl
set_option maxRecDepth 20000 in
theorem rd_a {L : Nat} {xs : Nat → Int32} {d : Nat} {I : Nat → Nat → Int32} {J : Nat → Nat → Int64} {R : Nat → Nat → Nat} {I1 : Nat → Nat → Int32} {J1 : Nat → Nat → Int64} {I2 : Nat → Nat → Int32} {J2 : Nat → Nat → Int64} {i r1 r2 : Int32} {w3 w4 : Value} (hG : aGd R) (b1 : i.toInt < 225) (b2 : (I 1 3).toInt ≠ 0) (c1 : xEv L xs d 55 0 [.ref 1, .int 64, xmk] [] (124, I, J, R) (some (.int r1)) (124, I1, J1, R)) (c2 : xEv L xs d 55 0 [.ref 1, .int 4, xmk] [] (124, I1, J1, R) (some (.int r2)) (124, I2, J2, R)) (b3 : r1.toInt = -1) : xEv L xs (d + 1) 54 11 [.ref 44, .ref 1, .int i, w3, w4] [] (124, I, J, R) (some (.int 0)) (124, I2, J2, R) := by
  refine ev_go 2 (pc1 := 15) (lv1 := [.ref 44, .ref 1, .int i, w3, w4]) (st1 := [.int 225, .int i]) (h1 := (124, I, J, R)) rfl ?_
  refine ev_br (b1 := false) rfl rfl (xcd_nge (x := i) (y := 225) (by rw [show ((225 : Int32)).toInt = 225 from by decide]; first | exact b1 | omega)) ?_
  refine ev_go 2 (pc1 := 22) (lv1 := [.ref 44, .ref 1, .int i, w3, w4]) (st1 := [.int (I 1 3)]) (h1 := (124, I, J, R)) rfl ?_
  refine ev_br (b1 := false) rfl rfl (xcd_neq (x := (I 1 3)) (y := 0) (by rw [show ((0 : Int32)).toInt = 0 from by decide]; first | exact b2 | omega)) ?_
  refine ev_go 2 (pc1 := 28) (lv1 := [.ref 44, .ref 1, .int i, w3, w4]) (st1 := [.int 64, .ref 1]) (h1 := (124, I, J, R)) rfl ?_
  refine ev_call (v1 := (some (.int r1))) (h1 := (124, I1, J1, R)) rfl rfl c1 ?_
  refine ev_go 3 (pc1 := 34) (lv1 := [.ref 44, .ref 1, .int i, .int r1, w4]) (st1 := [.int 4, .ref 1]) (h1 := (124, I1, J1, R)) rfl ?_
  refine ev_call (v1 := (some (.int r2))) (h1 := (124, I2, J2, R)) rfl rfl c2 ?_
  refine ev_go 3 (pc1 := 41) (lv1 := [.ref 44, .ref 1, .int i, .int r1, .int r2]) (st1 := [.int (-1), .int r1]) (h1 := (124, I2, J2, R)) rfl ?_
  refine ev_br (b1 := true) rfl rfl (xcd_eq (x := r1) (y := (-1)) (by rw [show ((-1 : Int32)).toInt = -1 from by decide]; first | exact b3 | omega)) ?_
  refine ev_go 1 (pc1 := 59) (lv1 := [.ref 44, .ref 1, .int i, .int r1, .int r2]) (st1 := [.int 0]) (h1 := (124, I2, J2, R)) rfl ?_
  exact ev_ret rfl rfl
set_option maxRecDepth 20000 in
theorem rd_b {L : Nat} {xs : Nat → Int32} {d : Nat} {I : Nat → Nat → Int32} {J : Nat → Nat → Int64} {R : Nat → Nat → Nat} {I1 : Nat → Nat → Int32} {J1 : Nat → Nat → Int64} {I2 : Nat → Nat → Int32} {J2 : Nat → Nat → Int64} {i r1 r2 : Int32} {w3 w4 : Value} (hG : aGd R) (b1 : i.toInt < 225) (b2 : (I 1 3).toInt ≠ 0) (c1 : xEv L xs d 55 0 [.ref 1, .int 64, xmk] [] (124, I, J, R) (some (.int r1)) (124, I1, J1, R)) (c2 : xEv L xs d 55 0 [.ref 1, .int 4, xmk] [] (124, I1, J1, R) (some (.int r2)) (124, I2, J2, R)) (b3 : r1.toInt ≠ -1) (b4 : r2.toInt = -1) : xEv L xs (d + 1) 54 11 [.ref 44, .ref 1, .int i, w3, w4] [] (124, I, J, R) (some (.int 0)) (124, I2, J2, R) := by
  refine ev_go 2 (pc1 := 15) (lv1 := [.ref 44, .ref 1, .int i, w3, w4]) (st1 := [.int 225, .int i]) (h1 := (124, I, J, R)) rfl ?_
  refine ev_br (b1 := false) rfl rfl (xcd_nge (x := i) (y := 225) (by rw [show ((225 : Int32)).toInt = 225 from by decide]; first | exact b1 | omega)) ?_
  refine ev_go 2 (pc1 := 22) (lv1 := [.ref 44, .ref 1, .int i, w3, w4]) (st1 := [.int (I 1 3)]) (h1 := (124, I, J, R)) rfl ?_
  refine ev_br (b1 := false) rfl rfl (xcd_neq (x := (I 1 3)) (y := 0) (by rw [show ((0 : Int32)).toInt = 0 from by decide]; first | exact b2 | omega)) ?_
  refine ev_go 2 (pc1 := 28) (lv1 := [.ref 44, .ref 1, .int i, w3, w4]) (st1 := [.int 64, .ref 1]) (h1 := (124, I, J, R)) rfl ?_
  refine ev_call (v1 := (some (.int r1))) (h1 := (124, I1, J1, R)) rfl rfl c1 ?_
  refine ev_go 3 (pc1 := 34) (lv1 := [.ref 44, .ref 1, .int i, .int r1, w4]) (st1 := [.int 4, .ref 1]) (h1 := (124, I1, J1, R)) rfl ?_
  refine ev_call (v1 := (some (.int r2))) (h1 := (124, I2, J2, R)) rfl rfl c2 ?_
  refine ev_go 3 (pc1 := 41) (lv1 := [.ref 44, .ref 1, .int i, .int r1, .int r2]) (st1 := [.int (-1), .int r1]) (h1 := (124, I2, J2, R)) rfl ?_
  refine ev_br (b1 := false) rfl rfl (xcd_neq (x := r1) (y := (-1)) (by rw [show ((-1 : Int32)).toInt = -1 from by decide]; first | exact b3 | omega)) ?_
  refine ev_go 2 (pc1 := 47) (lv1 := [.ref 44, .ref 1, .int i, .int r1, .int r2]) (st1 := [.int (-1), .int r2]) (h1 := (124, I2, J2, R)) rfl ?_
  refine ev_br (b1 := true) rfl rfl (xcd_eq (x := r2) (y := (-1)) (by rw [show ((-1 : Int32)).toInt = -1 from by decide]; first | exact b4 | omega)) ?_
  refine ev_go 1 (pc1 := 59) (lv1 := [.ref 44, .ref 1, .int i, .int r1, .int r2]) (st1 := [.int 0]) (h1 := (124, I2, J2, R)) rfl ?_
  exact ev_ret rfl rfl
set_option maxRecDepth 20000 in
theorem rd_c {L : Nat} {xs : Nat → Int32} {d : Nat} {I : Nat → Nat → Int32} {J : Nat → Nat → Int64} {R : Nat → Nat → Nat} {I1 : Nat → Nat → Int32} {J1 : Nat → Nat → Int64} {I2 : Nat → Nat → Int32} {J2 : Nat → Nat → Int64} {i r1 r2 : Int32} {w3 w4 : Value} (hG : aGd R) (b1 : i.toInt < 225) (b2 : (I 1 3).toInt ≠ 0) (c1 : xEv L xs d 55 0 [.ref 1, .int 64, xmk] [] (124, I, J, R) (some (.int r1)) (124, I1, J1, R)) (c2 : xEv L xs d 55 0 [.ref 1, .int 4, xmk] [] (124, I1, J1, R) (some (.int r2)) (124, I2, J2, R)) (b3 : r1.toInt ≠ -1) (b4 : r2.toInt ≠ -1) (b5 : (I2 1 3).toInt ≠ 3) : xEv L xs (d + 1) 54 11 [.ref 44, .ref 1, .int i, w3, w4] [] (124, I, J, R) (some (.int 0)) (124, I2, J2, R) := by
  refine ev_go 2 (pc1 := 15) (lv1 := [.ref 44, .ref 1, .int i, w3, w4]) (st1 := [.int 225, .int i]) (h1 := (124, I, J, R)) rfl ?_
  refine ev_br (b1 := false) rfl rfl (xcd_nge (x := i) (y := 225) (by rw [show ((225 : Int32)).toInt = 225 from by decide]; first | exact b1 | omega)) ?_
  refine ev_go 2 (pc1 := 22) (lv1 := [.ref 44, .ref 1, .int i, w3, w4]) (st1 := [.int (I 1 3)]) (h1 := (124, I, J, R)) rfl ?_
  refine ev_br (b1 := false) rfl rfl (xcd_neq (x := (I 1 3)) (y := 0) (by rw [show ((0 : Int32)).toInt = 0 from by decide]; first | exact b2 | omega)) ?_
  refine ev_go 2 (pc1 := 28) (lv1 := [.ref 44, .ref 1, .int i, w3, w4]) (st1 := [.int 64, .ref 1]) (h1 := (124, I, J, R)) rfl ?_
  refine ev_call (v1 := (some (.int r1))) (h1 := (124, I1, J1, R)) rfl rfl c1 ?_
  refine ev_go 3 (pc1 := 34) (lv1 := [.ref 44, .ref 1, .int i, .int r1, w4]) (st1 := [.int 4, .ref 1]) (h1 := (124, I1, J1, R)) rfl ?_
  refine ev_call (v1 := (some (.int r2))) (h1 := (124, I2, J2, R)) rfl rfl c2 ?_
  refine ev_go 3 (pc1 := 41) (lv1 := [.ref 44, .ref 1, .int i, .int r1, .int r2]) (st1 := [.int (-1), .int r1]) (h1 := (124, I2, J2, R)) rfl ?_
  refine ev_br (b1 := false) rfl rfl (xcd_neq (x := r1) (y := (-1)) (by rw [show ((-1 : Int32)).toInt = -1 from by decide]; first | exact b3 | omega)) ?_
  refine ev_go 2 (pc1 := 47) (lv1 := [.ref 44, .ref 1, .int i, .int r1, .int r2]) (st1 := [.int (-1), .int r2]) (h1 := (124, I2, J2, R)) rfl ?_
  refine ev_br (b1 := false) rfl rfl (xcd_neq (x := r2) (y := (-1)) (by rw [show ((-1 : Int32)).toInt = -1 from by decide]; first | exact b4 | omega)) ?_
  refine ev_go 3 (pc1 := 55) (lv1 := [.ref 44, .ref 1, .int i, .int r1, .int r2]) (st1 := [.int 3, .int (I2 1 3)]) (h1 := (124, I2, J2, R)) rfl ?_
  refine ev_br (b1 := false) rfl rfl (xcd_neq (x := (I2 1 3)) (y := 3) (by rw [show ((3 : Int32)).toInt = 3 from by decide]; first | exact b5 | omega)) ?_
  refine ev_go 1 (pc1 := 59) (lv1 := [.ref 44, .ref 1, .int i, .int r1, .int r2]) (st1 := [.int 0]) (h1 := (124, I2, J2, R)) rfl ?_
  exact ev_ret rfl rfl
set_option maxRecDepth 20000 in
theorem rd_d {L : Nat} {xs : Nat → Int32} {d : Nat} {I : Nat → Nat → Int32} {J : Nat → Nat → Int64} {R : Nat → Nat → Nat} {I1 : Nat → Nat → Int32} {J1 : Nat → Nat → Int64} {I2 : Nat → Nat → Int32} {J2 : Nat → Nat → Int64} {I3 : Nat → Nat → Int32} {J3 : Nat → Nat → Int64} {i r1 r2 : Int32} {w3 w4 : Value} (hG : aGd R) (b1 : i.toInt < 225) (b2 : (I 1 3).toInt ≠ 0) (c1 : xEv L xs d 55 0 [.ref 1, .int 64, xmk] [] (124, I, J, R) (some (.int r1)) (124, I1, J1, R)) (c2 : xEv L xs d 55 0 [.ref 1, .int 4, xmk] [] (124, I1, J1, R) (some (.int r2)) (124, I2, J2, R)) (b3 : r1.toInt ≠ -1) (b4 : r2.toInt ≠ -1) (b5 : (I2 1 3).toInt = 3) (c3 : xEv L xs d 21 0 [.ref 1] [] (124, I2, J2, R) none (124, I3, J3, R)) (c4 : xEv L xs d 33 0 [.ref 45, .int i, .int r1] [] (124, I3, J3, R) none (124, (uI I3 45 i.toNatClampNeg r1), J3, R)) (c5 : xEv L xs d 33 0 [.ref 46, .int i, .int r2] [] (124, (uI I3 45 i.toNatClampNeg r1), J3, R) none (124, (uI (uI I3 45 i.toNatClampNeg r1) 46 i.toNatClampNeg r2), J3, R)) {v : Option Value} {h' : xH} (hk : xEv L xs (d + 1) 54 11 [.ref 44, .ref 1, .int (i + 1), .int r1, .int r2] [] (124, (uI (uI (uI I3 45 i.toNatClampNeg r1) 46 i.toNatClampNeg r2) 44 4 (i + 1)), J3, R) v h') : xEv L xs (d + 1) 54 11 [.ref 44, .ref 1, .int i, w3, w4] [] (124, I, J, R) v h' := by
  refine ev_go 2 (pc1 := 15) (lv1 := [.ref 44, .ref 1, .int i, w3, w4]) (st1 := [.int 225, .int i]) (h1 := (124, I, J, R)) rfl ?_
  refine ev_br (b1 := false) rfl rfl (xcd_nge (x := i) (y := 225) (by rw [show ((225 : Int32)).toInt = 225 from by decide]; first | exact b1 | omega)) ?_
  refine ev_go 2 (pc1 := 22) (lv1 := [.ref 44, .ref 1, .int i, w3, w4]) (st1 := [.int (I 1 3)]) (h1 := (124, I, J, R)) rfl ?_
  refine ev_br (b1 := false) rfl rfl (xcd_neq (x := (I 1 3)) (y := 0) (by rw [show ((0 : Int32)).toInt = 0 from by decide]; first | exact b2 | omega)) ?_
  refine ev_go 2 (pc1 := 28) (lv1 := [.ref 44, .ref 1, .int i, w3, w4]) (st1 := [.int 64, .ref 1]) (h1 := (124, I, J, R)) rfl ?_
  refine ev_call (v1 := (some (.int r1))) (h1 := (124, I1, J1, R)) rfl rfl c1 ?_
  refine ev_go 3 (pc1 := 34) (lv1 := [.ref 44, .ref 1, .int i, .int r1, w4]) (st1 := [.int 4, .ref 1]) (h1 := (124, I1, J1, R)) rfl ?_
  refine ev_call (v1 := (some (.int r2))) (h1 := (124, I2, J2, R)) rfl rfl c2 ?_
  refine ev_go 3 (pc1 := 41) (lv1 := [.ref 44, .ref 1, .int i, .int r1, .int r2]) (st1 := [.int (-1), .int r1]) (h1 := (124, I2, J2, R)) rfl ?_
  refine ev_br (b1 := false) rfl rfl (xcd_neq (x := r1) (y := (-1)) (by rw [show ((-1 : Int32)).toInt = -1 from by decide]; first | exact b3 | omega)) ?_
  refine ev_go 2 (pc1 := 47) (lv1 := [.ref 44, .ref 1, .int i, .int r1, .int r2]) (st1 := [.int (-1), .int r2]) (h1 := (124, I2, J2, R)) rfl ?_
  refine ev_br (b1 := false) rfl rfl (xcd_neq (x := r2) (y := (-1)) (by rw [show ((-1 : Int32)).toInt = -1 from by decide]; first | exact b4 | omega)) ?_
  refine ev_go 3 (pc1 := 55) (lv1 := [.ref 44, .ref 1, .int i, .int r1, .int r2]) (st1 := [.int 3, .int (I2 1 3)]) (h1 := (124, I2, J2, R)) rfl ?_
  refine ev_br (b1 := true) rfl rfl (xcd_eq (x := (I2 1 3)) (y := 3) (by rw [show ((3 : Int32)).toInt = 3 from by decide]; first | exact b5 | omega)) ?_
  refine ev_go 1 (pc1 := 61) (lv1 := [.ref 44, .ref 1, .int i, .int r1, .int r2]) (st1 := [.ref 1]) (h1 := (124, I2, J2, R)) rfl ?_
  refine ev_call (v1 := none) (h1 := (124, I3, J3, R)) rfl rfl c3 ?_
  refine ev_go 1 (pc1 := 65) (lv1 := [.ref 44, .ref 1, .int i, .int r1, .int r2]) (st1 := [.ref 44]) (h1 := (124, I3, J3, R)) rfl ?_
  refine ev_gf (c := 44) (t := 45) (X := R 44 0) rfl rfl (fun _ => rfl) rfl (hG 44 0 45 rfl rfl) ?_
  refine ev_go 2 (pc1 := 70) (lv1 := [.ref 44, .ref 1, .int i, .int r1, .int r2]) (st1 := [.int r1, .int i, .ref 45]) (h1 := (124, I3, J3, R)) rfl ?_
  refine ev_call (v1 := none) (h1 := (124, (uI I3 45 i.toNatClampNeg r1), J3, R)) rfl rfl c4 ?_
  refine ev_go 1 (pc1 := 74) (lv1 := [.ref 44, .ref 1, .int i, .int r1, .int r2]) (st1 := [.ref 44]) (h1 := (124, (uI I3 45 i.toNatClampNeg r1), J3, R)) rfl ?_
  refine ev_gf (c := 44) (t := 46) (X := R 44 1) rfl rfl (fun _ => rfl) rfl (hG 44 1 46 rfl rfl) ?_
  refine ev_go 2 (pc1 := 80) (lv1 := [.ref 44, .ref 1, .int i, .int r1, .int r2]) (st1 := [.int r2, .int i, .ref 46]) (h1 := (124, (uI I3 45 i.toNatClampNeg r1), J3, R)) rfl ?_
  refine ev_call (v1 := none) (h1 := (124, (uI (uI I3 45 i.toNatClampNeg r1) 46 i.toNatClampNeg r2), J3, R)) rfl rfl c5 ?_
  refine ev_go 7 (pc1 := 11) (lv1 := [.ref 44, .ref 1, .int (i + 1), .int r1, .int r2]) (st1 := []) (h1 := (124, (uI (uI (uI I3 45 i.toNatClampNeg r1) 46 i.toNatClampNeg r2) 44 4 (i + 1)), J3, R)) rfl ?_
  exact hk
set_option maxRecDepth 20000 in
theorem rd_s {L : Nat} {xs : Nat → Int32} {d : Nat} {I : Nat → Nat → Int32} {J : Nat → Nat → Int64} {R : Nat → Nat → Nat} {I1 : Nat → Nat → Int32} {J1 : Nat → Nat → Int64} (hG : aGd R) (c1 : xEv L xs d 20 0 [.ref 1] [] (124, (uI I 44 4 0), J, R) none (124, I1, J1, R)) {v : Option Value} {h' : xH} (hk : xEv L xs (d + 1) 54 11 [.ref 44, .ref 1, .int 0, xmk, xmk] [] (124, I1, J1, R) v h') : xEv L xs (d + 1) 54 0 [.ref 44, .ref 1, xmk, xmk, xmk] [] (124, I, J, R) v h' := by
  refine ev_go 4 (pc1 := 6) (lv1 := [.ref 44, .ref 1, xmk, xmk, xmk]) (st1 := [.ref 1]) (h1 := (124, (uI I 44 4 0), J, R)) rfl ?_
  refine ev_call (v1 := none) (h1 := (124, I1, J1, R)) rfl rfl c1 ?_
  refine ev_go 2 (pc1 := 11) (lv1 := [.ref 44, .ref 1, .int 0, xmk, xmk]) (st1 := []) (h1 := (124, I1, J1, R)) rfl ?_
  exact hk
set_option maxRecDepth 20000 in
theorem rs_s {L : Nat} {xs : Nat → Int32} {d : Nat} {I : Nat → Nat → Int32} {J : Nat → Nat → Int64} {R : Nat → Nat → Nat} {I1 : Nat → Nat → Int32} {J1 : Nat → Nat → Int64} (hG : aGd R) (c1 : xEv L xs d 21 0 [.ref 1] [] (124, (uI I 1 2 0), J, R) none (124, I1, J1, R)) : xEv L xs (d + 1) 20 0 [.ref 1] [] (124, I, J, R) none (124, I1, J1, R) := by
  refine ev_go 4 (pc1 := 6) (lv1 := [.ref 1]) (st1 := [.ref 1]) (h1 := (124, (uI I 1 2 0), J, R)) rfl ?_
  refine ev_call (v1 := none) (h1 := (124, I1, J1, R)) rfl rfl c1 ?_
  exact ev_ret rfl rfl
set_option maxRecDepth 20000 in
theorem rq_e {L : Nat} {xs : Nat → Int32} {d : Nat} {I : Nat → Nat → Int32} {J : Nat → Nat → Int64} {R : Nat → Nat → Nat} {mo : Int32} (hG : aGd R) (b1 : (I 86 3).toInt = 4) : xEv L xs d 174 9 [.ref 86, .int mo] [] (124, I, J, R) (some (.int 1)) (124, I, J, R) := by
  refine ev_go 3 (pc1 := 14) (lv1 := [.ref 86, .int mo]) (st1 := [.int 4, .int (I 86 3)]) (h1 := (124, I, J, R)) rfl ?_
  refine ev_br (b1 := true) rfl rfl (xcd_eq (x := (I 86 3)) (y := 4) (by rw [show ((4 : Int32)).toInt = 4 from by decide]; first | exact b1 | omega)) ?_
  refine ev_go 1 (pc1 := 94) (lv1 := [.ref 86, .int mo]) (st1 := [.int 1]) (h1 := (124, I, J, R)) rfl ?_
  exact ev_ret rfl rfl
set_option maxRecDepth 20000 in
theorem rq_a {L : Nat} {xs : Nat → Int32} {d : Nat} {I : Nat → Nat → Int32} {J : Nat → Nat → Int64} {R : Nat → Nat → Nat} {I1 : Nat → Nat → Int32} {J1 : Nat → Nat → Int64} {mo : Int32} (hG : aGd R) (b1 : (I 86 3).toInt ≠ 4) (c1 : xEv L xs d 159 0 [.ref 86, .int 0, .int 63] [] (124, I, J, R) (some (.int 0)) (124, I1, J1, R)) : xEv L xs (d + 1) 174 9 [.ref 86, .int mo] [] (124, I, J, R) (some (.int 0)) (124, I1, J1, R) := by
  refine ev_go 3 (pc1 := 14) (lv1 := [.ref 86, .int mo]) (st1 := [.int 4, .int (I 86 3)]) (h1 := (124, I, J, R)) rfl ?_
  refine ev_br (b1 := false) rfl rfl (xcd_neq (x := (I 86 3)) (y := 4) (by rw [show ((4 : Int32)).toInt = 4 from by decide]; first | exact b1 | omega)) ?_
  refine ev_go 3 (pc1 := 21) (lv1 := [.ref 86, .int mo]) (st1 := [.int 63, .int 0, .ref 86]) (h1 := (124, I, J, R)) rfl ?_
  refine ev_call (v1 := (some (.int 0))) (h1 := (124, I1, J1, R)) rfl rfl c1 ?_
  refine ev_go 2 (pc1 := 28) (lv1 := [.ref 86, .int mo]) (st1 := [.int 0]) (h1 := (124, I1, J1, R)) rfl ?_
  exact ev_ret rfl rfl
set_option maxRecDepth 20000 in
theorem rq_b {L : Nat} {xs : Nat → Int32} {d : Nat} {I : Nat → Nat → Int32} {J : Nat → Nat → Int64} {R : Nat → Nat → Nat} {I1 : Nat → Nat → Int32} {J1 : Nat → Nat → Int64} {I2 : Nat → Nat → Int32} {J2 : Nat → Nat → Int64} {mo : Int32} (hG : aGd R) (b1 : (I 86 3).toInt ≠ 4) (c1 : xEv L xs d 159 0 [.ref 86, .int 0, .int 63] [] (124, I, J, R) (some (.int 1)) (124, I1, J1, R)) (n1 : 0 ≤ (I1 86 30).toInt) (m1 : (I1 86 30).toInt < 300) (c2 : xEv L xs d 159 0 [.ref 86, .int 0, .int mo] [] (124, (uI I1 104 (I1 86 30).toNatClampNeg (I1 86 11)), J1, R) (some (.int 0)) (124, I2, J2, R)) : xEv L xs (d + 1) 174 9 [.ref 86, .int mo] [] (124, I, J, R) (some (.int 0)) (124, I2, J2, R) := by
  refine ev_go 3 (pc1 := 14) (lv1 := [.ref 86, .int mo]) (st1 := [.int 4, .int (I 86 3)]) (h1 := (124, I, J, R)) rfl ?_
  refine ev_br (b1 := false) rfl rfl (xcd_neq (x := (I 86 3)) (y := 4) (by rw [show ((4 : Int32)).toInt = 4 from by decide]; first | exact b1 | omega)) ?_
  refine ev_go 3 (pc1 := 21) (lv1 := [.ref 86, .int mo]) (st1 := [.int 63, .int 0, .ref 86]) (h1 := (124, I, J, R)) rfl ?_
  refine ev_call (v1 := (some (.int 1))) (h1 := (124, I1, J1, R)) rfl rfl c1 ?_
  refine ev_go 2 (pc1 := 30) (lv1 := [.ref 86, .int mo]) (st1 := [.ref 86]) (h1 := (124, I1, J1, R)) rfl ?_
  refine ev_gf (c := 86) (t := 104) (X := R 86 31) rfl rfl (fun _ => rfl) rfl (hG 86 31 104 rfl rfl) ?_
  refine ev_go 4 (pc1 := 41) (lv1 := [.ref 86, .int mo]) (st1 := [.int (I1 86 11), .int (I1 86 30), .ref 104]) (h1 := (124, I1, J1, R)) rfl ?_
  refine ev_ist (n := 300) rfl rfl (fun _ => rfl) n1 m1 ?_
  refine ev_go 3 (pc1 := 45) (lv1 := [.ref 86, .int mo]) (st1 := [.int mo, .int 0, .ref 86]) (h1 := (124, (uI I1 104 (I1 86 30).toNatClampNeg (I1 86 11)), J1, R)) rfl ?_
  refine ev_call (v1 := (some (.int 0))) (h1 := (124, I2, J2, R)) rfl rfl c2 ?_
  refine ev_go 2 (pc1 := 52) (lv1 := [.ref 86, .int mo]) (st1 := [.int 0]) (h1 := (124, I2, J2, R)) rfl ?_
  exact ev_ret rfl rfl
set_option maxRecDepth 20000 in
theorem rq_c {L : Nat} {xs : Nat → Int32} {d : Nat} {I : Nat → Nat → Int32} {J : Nat → Nat → Int64} {R : Nat → Nat → Nat} {I1 : Nat → Nat → Int32} {J1 : Nat → Nat → Int64} {I2 : Nat → Nat → Int32} {J2 : Nat → Nat → Int64} {mo : Int32} (hG : aGd R) (b1 : (I 86 3).toInt ≠ 4) (c1 : xEv L xs d 159 0 [.ref 86, .int 0, .int 63] [] (124, I, J, R) (some (.int 1)) (124, I1, J1, R)) (n1 : 0 ≤ (I1 86 30).toInt) (m1 : (I1 86 30).toInt < 300) (c2 : xEv L xs d 159 0 [.ref 86, .int 0, .int mo] [] (124, (uI I1 104 (I1 86 30).toNatClampNeg (I1 86 11)), J1, R) (some (.int 1)) (124, I2, J2, R)) (n2 : 0 ≤ (I2 86 30).toInt) (m2 : (I2 86 30).toInt < 300) (b2 : (I2 86 3).toInt ≠ 3) : xEv L xs (d + 1) 174 9 [.ref 86, .int mo] [] (124, I, J, R) (some (.int 0)) (124, (uI I2 105 (I2 86 30).toNatClampNeg (I2 86 11)), J2, R) := by
  refine ev_go 3 (pc1 := 14) (lv1 := [.ref 86, .int mo]) (st1 := [.int 4, .int (I 86 3)]) (h1 := (124, I, J, R)) rfl ?_
  refine ev_br (b1 := false) rfl rfl (xcd_neq (x := (I 86 3)) (y := 4) (by rw [show ((4 : Int32)).toInt = 4 from by decide]; first | exact b1 | omega)) ?_
  refine ev_go 3 (pc1 := 21) (lv1 := [.ref 86, .int mo]) (st1 := [.int 63, .int 0, .ref 86]) (h1 := (124, I, J, R)) rfl ?_
  refine ev_call (v1 := (some (.int 1))) (h1 := (124, I1, J1, R)) rfl rfl c1 ?_
  refine ev_go 2 (pc1 := 30) (lv1 := [.ref 86, .int mo]) (st1 := [.ref 86]) (h1 := (124, I1, J1, R)) rfl ?_
  refine ev_gf (c := 86) (t := 104) (X := R 86 31) rfl rfl (fun _ => rfl) rfl (hG 86 31 104 rfl rfl) ?_
  refine ev_go 4 (pc1 := 41) (lv1 := [.ref 86, .int mo]) (st1 := [.int (I1 86 11), .int (I1 86 30), .ref 104]) (h1 := (124, I1, J1, R)) rfl ?_
  refine ev_ist (n := 300) rfl rfl (fun _ => rfl) n1 m1 ?_
  refine ev_go 3 (pc1 := 45) (lv1 := [.ref 86, .int mo]) (st1 := [.int mo, .int 0, .ref 86]) (h1 := (124, (uI I1 104 (I1 86 30).toNatClampNeg (I1 86 11)), J1, R)) rfl ?_
  refine ev_call (v1 := (some (.int 1))) (h1 := (124, I2, J2, R)) rfl rfl c2 ?_
  refine ev_go 2 (pc1 := 54) (lv1 := [.ref 86, .int mo]) (st1 := [.ref 86]) (h1 := (124, I2, J2, R)) rfl ?_
  refine ev_gf (c := 86) (t := 105) (X := R 86 32) rfl rfl (fun _ => rfl) rfl (hG 86 32 105 rfl rfl) ?_
  refine ev_go 4 (pc1 := 65) (lv1 := [.ref 86, .int mo]) (st1 := [.int (I2 86 11), .int (I2 86 30), .ref 105]) (h1 := (124, I2, J2, R)) rfl ?_
  refine ev_ist (n := 300) rfl rfl (fun _ => rfl) n2 m2 ?_
  refine ev_go 3 (pc1 := 71) (lv1 := [.ref 86, .int mo]) (st1 := [.int 3, .int (I2 86 3)]) (h1 := (124, (uI I2 105 (I2 86 30).toNatClampNeg (I2 86 11)), J2, R)) rfl ?_
  refine ev_br (b1 := false) rfl rfl (xcd_neq (x := (I2 86 3)) (y := 3) (by rw [show ((3 : Int32)).toInt = 3 from by decide]; first | exact b2 | omega)) ?_
  refine ev_go 1 (pc1 := 75) (lv1 := [.ref 86, .int mo]) (st1 := [.int 0]) (h1 := (124, (uI I2 105 (I2 86 30).toNatClampNeg (I2 86 11)), J2, R)) rfl ?_
  exact ev_ret rfl rfl
set_option maxRecDepth 20000 in
theorem rq_d {L : Nat} {xs : Nat → Int32} {d : Nat} {I : Nat → Nat → Int32} {J : Nat → Nat → Int64} {R : Nat → Nat → Nat} {I1 : Nat → Nat → Int32} {J1 : Nat → Nat → Int64} {I2 : Nat → Nat → Int32} {J2 : Nat → Nat → Int64} {I3 : Nat → Nat → Int32} {J3 : Nat → Nat → Int64} {mo : Int32} (hG : aGd R) (b1 : (I 86 3).toInt ≠ 4) (c1 : xEv L xs d 159 0 [.ref 86, .int 0, .int 63] [] (124, I, J, R) (some (.int 1)) (124, I1, J1, R)) (n1 : 0 ≤ (I1 86 30).toInt) (m1 : (I1 86 30).toInt < 300) (c2 : xEv L xs d 159 0 [.ref 86, .int 0, .int mo] [] (124, (uI I1 104 (I1 86 30).toNatClampNeg (I1 86 11)), J1, R) (some (.int 1)) (124, I2, J2, R)) (n2 : 0 ≤ (I2 86 30).toInt) (m2 : (I2 86 30).toInt < 300) (b2 : (I2 86 3).toInt = 3) (c3 : xEv L xs d 150 0 [.ref 86, xmk, xmk, xmk] [] (124, (uI I2 105 (I2 86 30).toNatClampNeg (I2 86 11)), J2, R) none (124, I3, J3, R)) {v : Option Value} {h' : xH} (hk : xEv L xs (d + 1) 174 9 [.ref 86, .int mo] [] (124, (uI I3 86 30 ((I3 86 30) + 1)), J3, R) v h') : xEv L xs (d + 1) 174 9 [.ref 86, .int mo] [] (124, I, J, R) v h' := by
  refine ev_go 3 (pc1 := 14) (lv1 := [.ref 86, .int mo]) (st1 := [.int 4, .int (I 86 3)]) (h1 := (124, I, J, R)) rfl ?_
  refine ev_br (b1 := false) rfl rfl (xcd_neq (x := (I 86 3)) (y := 4) (by rw [show ((4 : Int32)).toInt = 4 from by decide]; first | exact b1 | omega)) ?_
  refine ev_go 3 (pc1 := 21) (lv1 := [.ref 86, .int mo]) (st1 := [.int 63, .int 0, .ref 86]) (h1 := (124, I, J, R)) rfl ?_
  refine ev_call (v1 := (some (.int 1))) (h1 := (124, I1, J1, R)) rfl rfl c1 ?_
  refine ev_go 2 (pc1 := 30) (lv1 := [.ref 86, .int mo]) (st1 := [.ref 86]) (h1 := (124, I1, J1, R)) rfl ?_
  refine ev_gf (c := 86) (t := 104) (X := R 86 31) rfl rfl (fun _ => rfl) rfl (hG 86 31 104 rfl rfl) ?_
  refine ev_go 4 (pc1 := 41) (lv1 := [.ref 86, .int mo]) (st1 := [.int (I1 86 11), .int (I1 86 30), .ref 104]) (h1 := (124, I1, J1, R)) rfl ?_
  refine ev_ist (n := 300) rfl rfl (fun _ => rfl) n1 m1 ?_
  refine ev_go 3 (pc1 := 45) (lv1 := [.ref 86, .int mo]) (st1 := [.int mo, .int 0, .ref 86]) (h1 := (124, (uI I1 104 (I1 86 30).toNatClampNeg (I1 86 11)), J1, R)) rfl ?_
  refine ev_call (v1 := (some (.int 1))) (h1 := (124, I2, J2, R)) rfl rfl c2 ?_
  refine ev_go 2 (pc1 := 54) (lv1 := [.ref 86, .int mo]) (st1 := [.ref 86]) (h1 := (124, I2, J2, R)) rfl ?_
  refine ev_gf (c := 86) (t := 105) (X := R 86 32) rfl rfl (fun _ => rfl) rfl (hG 86 32 105 rfl rfl) ?_
  refine ev_go 4 (pc1 := 65) (lv1 := [.ref 86, .int mo]) (st1 := [.int (I2 86 11), .int (I2 86 30), .ref 105]) (h1 := (124, I2, J2, R)) rfl ?_
  refine ev_ist (n := 300) rfl rfl (fun _ => rfl) n2 m2 ?_
  refine ev_go 3 (pc1 := 71) (lv1 := [.ref 86, .int mo]) (st1 := [.int 3, .int (I2 86 3)]) (h1 := (124, (uI I2 105 (I2 86 30).toNatClampNeg (I2 86 11)), J2, R)) rfl ?_
  refine ev_br (b1 := true) rfl rfl (xcd_eq (x := (I2 86 3)) (y := 3) (by rw [show ((3 : Int32)).toInt = 3 from by decide]; first | exact b2 | omega)) ?_
  refine ev_go 1 (pc1 := 77) (lv1 := [.ref 86, .int mo]) (st1 := [.ref 86]) (h1 := (124, (uI I2 105 (I2 86 30).toNatClampNeg (I2 86 11)), J2, R)) rfl ?_
  refine ev_call (v1 := none) (h1 := (124, I3, J3, R)) rfl rfl c3 ?_
  refine ev_go 7 (pc1 := 9) (lv1 := [.ref 86, .int mo]) (st1 := []) (h1 := (124, (uI I3 86 30 ((I3 86 30) + 1)), J3, R)) rfl ?_
  exact hk
set_option maxRecDepth 20000 in
theorem rq_s {L : Nat} {xs : Nat → Int32} {d : Nat} {I : Nat → Nat → Int32} {J : Nat → Nat → Int64} {R : Nat → Nat → Nat} {I1 : Nat → Nat → Int32} {J1 : Nat → Nat → Int64} {mo : Int32} (hG : aGd R) (c1 : xEv L xs d 149 0 [.ref 86] [] (124, I, J, R) none (124, I1, J1, R)) {v : Option Value} {h' : xH} (hk : xEv L xs (d + 1) 174 9 [.ref 86, .int mo] [] (124, (uI I1 86 30 0), J1, R) v h') : xEv L xs (d + 1) 174 0 [.ref 86, .int mo] [] (124, I, J, R) v h' := by
  refine ev_go 1 (pc1 := 1) (lv1 := [.ref 86, .int mo]) (st1 := [.ref 86]) (h1 := (124, I, J, R)) rfl ?_
  refine ev_call (v1 := none) (h1 := (124, I1, J1, R)) rfl rfl c1 ?_
  refine ev_go 3 (pc1 := 9) (lv1 := [.ref 86, .int mo]) (st1 := []) (h1 := (124, (uI I1 86 30 0), J1, R)) rfl ?_
  exact hk
set_option maxRecDepth 20000 in
theorem tt_s {L : Nat} {xs : Nat → Int32} {d : Nat} {I : Nat → Nat → Int32} {J : Nat → Nat → Int64} {R : Nat → Nat → Nat} {I1 : Nat → Nat → Int32} {J1 : Nat → Nat → Int64} (hG : aGd R) (c1 : xEv L xs d 150 0 [.ref 86, xmk, xmk, xmk] [] (124, (uI (uI (uI I 86 2 (I 86 1)) 86 1 0) 86 6 0), J, R) none (124, I1, J1, R)) : xEv L xs (d + 1) 149 0 [.ref 86] [] (124, I, J, R) none (124, I1, J1, R) := by
  refine ev_go 11 (pc1 := 19) (lv1 := [.ref 86]) (st1 := [.ref 86]) (h1 := (124, (uI (uI (uI I 86 2 (I 86 1)) 86 1 0) 86 6 0), J, R)) rfl ?_
  refine ev_call (v1 := none) (h1 := (124, I1, J1, R)) rfl rfl c1 ?_
  exact ev_ret rfl rfl
/-- the rows of both -/
def rwE (m : Nat) (Ic Ir : Nat → Nat → Int32) : Prop := ∀ q, q < m → Ic 45 q = Ir 104 q ∧ Ic 46 q = Ir 105 q ∧ 0 ≤ (Ir 104 q).toInt ∧ (Ir 104 q).toInt < 64 ∧ 0 ≤ (Ir 105 q).toInt ∧ (Ir 105 q).toInt < 4
/-- what reading rows leaves as it was -/
def rwC (I I' : Nat → Nat → Int32) : Prop := ∀ c q, ¬ (c = 1 ∧ (q = 2 ∨ q = 3 ∨ q = 4)) → ¬ (c = 44 ∧ q = 4) → c ≠ 45 → c ≠ 46 → I' c q = I c q
def rwR (I I' : Nat → Nat → Int32) : Prop := ∀ c q, ¬ (c = 86 ∧ (1 ≤ q ∧ q ≤ 11)) → ¬ (c = 86 ∧ q = 30) → c ≠ 104 → c ≠ 105 → I' c q = I c q
theorem rwC_t {I I' I2 : Nat → Nat → Int32} (h : rwC I I') (h' : rwC I' I2) : rwC I I2 := fun c q a1 a2 a3 a4 => (h' c q a1 a2 a3 a4).trans (h c q a1 a2 a3 a4)
theorem rwR_t {I I' I2 : Nat → Nat → Int32} (h : rwR I I') (h' : rwR I' I2) : rwR I I2 := fun c q a1 a2 a3 a4 => (h' c q a1 a2 a3 a4).trans (h c q a1 a2 a3 a4)
theorem rwC_a {I I' : Nat → Nat → Int32} {J J' : Nat → Nat → Int64} (h : alT I I' J J') : rwC I I' := fun c q a1 _ _ _ => h.1 c q a1
theorem rwR_a {I I' : Nat → Nat → Int32} {J J' : Nat → Nat → Int64} (h : alM I I' J J') : rwR I I' := fun c q a1 _ _ _ => h.1 c q (by omega)
theorem rwR_s {I I' : Nat → Nat → Int32} {J J' : Nat → Nat → Int64} (h : alS I I' J J') : rwR I I' := fun c q a1 _ _ _ => h.1 c q (by omega)
theorem rwl {L : Nat} {xs : Nat → Int32} {d d' : Nat} {R Rr : Nat → Nat → Nat} {b : Nat → Int32} {n : Nat} (hG : aGd R) (hGr : aGd Rr) (h4 : 4 ≤ d' + 1) (hn9 : n ≤ 900) {mo : Int32} (hmo : mo.toInt = 3) : ∀ (f i p st k e : Nat) (ii : Int32) (w3 w4 : Value) (Ic Ir : Nat → Nat → Int32) (Jc Jr : Nat → Nat → Int64), i + f = 225 → ii.toInt = i → 4 * i ≤ p → isTok b p st k e → cTok b n Ic Jc st k e → rTok b n Ir Jr st k e → (Ic 44 4).toInt = i → (Ir 86 30).toInt = i → rwE i Ic Ir →
    ∃ (r : Int32) (Ic' Ir' : Nat → Nat → Int32) (Jc' Jr' : Nat → Nat → Int64), xEv L xs (d + 3) 54 11 [.ref 44, .ref 1, .int ii, w3, w4] [] (124, Ic, Jc, R) (some (.int r)) (124, Ic', Jc', R) ∧ xEv L xs (d' + 4) 174 9 [.ref 86, .int mo] [] (124, Ir, Jr, Rr) (some (.int r)) (124, Ir', Jr', Rr) ∧ rwC Ic Ic' ∧ rwR Ir Ir' ∧ Ir' 86 1 = Ir 86 1 ∧ (r = 0 ∨ (r = 1 ∧ ∃ m : Nat, m ≤ 225 ∧ (Ic' 44 4).toInt = m ∧ (Ir' 86 30).toInt = m ∧ rwE m Ic' Ir')) := by
  intro f
  induction f with
  | zero =>
    intro i p st k e ii w3 w4 Ic Ir Jc Jr hi hii hp tk ct rt s1 s2 hE
    have hk : k = 0 := by
      have a6 := ct.2.2.2.2.2.1
      have a7 := ct.2.2.2.2.2.2
      have t1 := tk.1.1
      have e0 : st = n := by omega
      rw [tk.2.1, kd_0, ← a6, e0]
      show (if n < n then Ic 2 n else -1).toInt = -1
      rw [if_neg (by omega)]
      rfl
    refine ⟨1, Ic, Ir, Jc, Jr, rd_e hG (by omega) (by have := ct.2.2.1; rw [ck_0.mpr hk] at this; exact this), rq_e hGr (by have := rt.2.2.1; rw [rs_4.mpr hk] at this; exact this), fun _ _ _ _ _ _ => rfl, fun _ _ _ _ _ _ => rfl, rfl, Or.inr ⟨rfl, i, by omega, s1, s2, hE⟩⟩
  | succ f ih =>
    intro i p st k e ii w3 w4 Ic Ir Jc Jr hi hii hp tk ct rt s1 s2 hE
    have hc := ct.2.2.1
    have hr := rt.2.2.1
    by_cases hk : k = 0
    · rw [ck_0.mpr hk] at hc
      rw [rs_4.mpr hk] at hr
      exact ⟨1, Ic, Ir, Jc, Jr, rd_f hG (by omega) hc hc, rq_e hGr hr, fun _ _ _ _ _ _ => rfl, fun _ _ _ _ _ _ => rfl, rfl, Or.inr ⟨rfl, i, by omega, s1, s2, hE⟩⟩
    have hc' : (Ic 1 3).toInt ≠ 0 := fun z => hk (ck_0 (m := e - st) |>.mp (by omega))
    have hr' : (Ir 86 3).toInt ≠ 4 := fun z => hk (rs_4 (m := e - st) |>.mp (by omega))
    have em1 : (-1 : Int32).toInt = -1 := by decide
    have e64 : (64 : Int32).toInt = 64 := by decide
    have e63 : (63 : Int32).toInt = 63 := by decide
    have e4 : (4 : Int32).toInt = 4 := by decide
    have eci := clamp_s (i := ii) (by omega)
    have eki : ii.toNatClampNeg = i := by omega
    rcases rbl (L := L) (xs := xs) (d := d) (d' := d') (R := R) (Rr := Rr) hG hGr h4 hn9 tk ct rt (B := 64) (hi := 63) (by decide) with ⟨x1, x2, Ir1, y1, y2⟩ | ⟨t, st1, k1, e1, Ic1, Ir1, Jc1, Jr1, x1, y1, hk2, t0, t1, tk1, ct1, rt1, g1, al1, ar1⟩
    · rcases rbc (L := L) (xs := xs) (d := d) (R := R) hG hn9 tk ct 4 with ⟨z1, z2⟩ | ⟨⟨z1, z2, z3⟩, -⟩
      · exact ⟨0, Ic, Ir1, Jc, Jr, rd_a hG (by omega) hc' x1 z2 em1, rq_a hGr hr' y1, fun _ _ _ _ _ _ => rfl, rwR_a y2, y2.1 86 1 (by omega), Or.inl rfl⟩
      · exact absurd ⟨z1, by omega⟩ x2
    have tne : t.toInt ≠ -1 := by omega
    have hrow1 : (Ir1 86 30).toInt = i := by rw [ar1.1 86 30 (by omega)]; exact s2
    have ec1 := clamp_s (i := Ir1 86 30) (by omega)
    have ek1 : (Ir1 86 30).toNatClampNeg = i := by omega
    have rt1' : rTok b n (uI Ir1 104 (Ir1 86 30).toNatClampNeg (Ir1 86 11)) Jr1 st1 k1 e1 := rTok_e rt1 (fun c q h => uI_n _ _ (by omega))
    rcases rbl (L := L) (xs := xs) (d := d) (d' := d') (R := R) (Rr := Rr) hG hGr h4 hn9 tk1 ct1 rt1' (B := 4) (hi := mo) (by rw [hmo]; decide) with ⟨x2, -, Ir2, y2, ar2⟩ | ⟨u, st2, k2, e2, Ic2, Ir2, Jc2, Jr2, x2, y2, hk3, u0, u1, tk2, ct2, rt2, g2, al2, ar2⟩
    · refine ⟨0, Ic1, Ir2, Jc1, Jr1, rd_b hG (by omega) hc' x1 x2 tne em1, rq_b hGr hr' y1 (by omega) (by omega) y2, rwC_a al1, ?_, ?_, Or.inl rfl⟩
      · intro c q a1 a2 a3 a4
        rw [ar2.1 c q (by omega), uI_n _ _ (by omega), ar1.1 c q (by omega)]
      · rw [ar2.1 86 1 (by omega), uI_n _ _ (by omega), ar1.1 86 1 (by omega)]
    have une : u.toInt ≠ -1 := by omega
    have hrow2 : (Ir2 86 30).toInt = i := by rw [ar2.1 86 30 (by omega), uI_n _ _ (by omega)]; exact hrow1
    have ec2 := clamp_s (i := Ir2 86 30) (by omega)
    have ek2 : (Ir2 86 30).toNatClampNeg = i := by omega
    have rt2' : rTok b n (uI Ir2 105 (Ir2 86 30).toNatClampNeg (Ir2 86 11)) Jr2 st2 k2 e2 := rTok_e rt2 (fun c q h => uI_n _ _ (by omega))
    have hc2 := ct2.2.2.1
    have hr2 : ((uI Ir2 105 (Ir2 86 30).toNatClampNeg (Ir2 86 11)) 86 3).toInt = rSo k2 (e2 - st2) := rt2'.2.2.1
    have hr2' : (Ir2 86 3).toInt = rSo k2 (e2 - st2) := rt2.2.2.1
    by_cases hk4 : k2 = 3
    rotate_left
    · refine ⟨0, Ic2, _, Jc2, _, rd_c hG (by omega) hc' x1 x2 tne une (fun z => hk4 (ck_3 (m := e2 - st2) |>.mp (by omega))), rq_c hGr hr' y1 (by omega) (by omega) y2 (by omega) (by omega) (fun z => hk4 (rs_3 (m := e2 - st2) |>.mp (by omega))), rwC_t (rwC_a al1) (rwC_a al2), ?_, ?_, Or.inl rfl⟩
      · intro c q a1 a2 a3 a4
        rw [uI_n _ _ (by omega), ar2.1 c q (by omega), uI_n _ _ (by omega), ar1.1 c q (by omega)]
      · rw [uI_n _ _ (by omega), ar2.1 86 1 (by omega), uI_n _ _ (by omega), ar1.1 86 1 (by omega)]
    rw [ck_3.mpr hk4] at hc2
    rw [rs_3.mpr hk4] at hr2'
    obtain ⟨st3, k3, e3, Ic3, Jc3, x3, tk3, ct3, al3⟩ := adt (L := L) (xs := xs) (d := d + 1) (R := R) hG hn9 ct2
    obtain ⟨st4, k4, e4, Ir3, Jr3, y3, tk4, rt3, as3⟩ := sk_run (L := L) (xs := xs) (d := d' + 1) (R := Rr) (b := b) (n := n) (I := uI Ir2 105 (Ir2 86 30).toNatClampNeg (Ir2 86 11)) (J := Jr2) hGr (by omega) hn9 rt2'.1 rt2'.2.1 rt2'.2.2.2.2.2.2.2.2.1 rt2'.2.2.2.2.2.2.2.1
    obtain ⟨v1, v2, v3⟩ := isTok_u tk3 tk4
    subst v1
    subst v2
    subst v3
    have hrow3 : (Ir3 86 30).toInt = i := by rw [as3.1 86 30 (by omega), uI_n _ _ (by omega)]; exact hrow2
    have hcl : Ic3 44 4 = Ic 44 4 := by rw [al3.1 44 4 (by omega), al2.1 44 4 (by omega), al1.1 44 4 (by omega)]
    have hi1 : (ii + 1).toInt = (i + 1 : Nat) := by rw [i_add1 (by omega)]; omega
    have hp2 : 4 * (i + 1) ≤ e2 := by
      subst hk2
      subst hk3
      subst hk4
      obtain ⟨o1, -⟩ := tok_n tk
      obtain ⟨o2, -⟩ := tok_n tk1
      have o3 := tk.1.1
      have o4 := tk1.1.1
      have o5 := tk2.1.1
      have o6 := tk2.2.2.2.2 (Or.inl rfl)
      have o7 : st1 ≠ e := by
        intro z
        have o8 := (tk.2.2.1 (Or.inr rfl)).2.2
        have o9 := tk1.2.1
        rw [z] at o9
        exact o8 o9.symm
      omega
    have hE' : rwE (i + 1) (uI (uI (uI Ic3 45 ii.toNatClampNeg t) 46 ii.toNatClampNeg u) 44 4 (ii + 1)) (uI Ir3 86 30 (Ir3 86 30 + 1)) := by
      have f1 : ∀ q, (uI Ir3 86 30 (Ir3 86 30 + 1)) 104 q = (uI Ir1 104 i t) 104 q := by
        intro q
        rw [uI_n _ _ (by omega), as3.1 104 q (by omega), uI_n _ _ (by omega), ar2.1 104 q (by omega), ek1, g1]
      have f2 : ∀ q, (uI Ir3 86 30 (Ir3 86 30 + 1)) 105 q = (uI Ir2 105 i u) 105 q := by
        intro q
        rw [uI_n _ _ (by omega), as3.1 105 q (by omega), ek2, g2]
      intro q hq
      rw [f1, f2, uI_n _ _ (by omega), uI_n _ _ (by omega), uI_n (uI (uI Ic3 45 ii.toNatClampNeg t) 46 ii.toNatClampNeg u) _ (by omega), eki]
      by_cases hqi : q = i
      · subst hqi
        rw [uI_s, uI_s, uI_s, uI_s]
        exact ⟨rfl, rfl, t0, by omega, u0, by omega⟩
      · obtain ⟨m1, m2, m3⟩ := hE q (by omega)
        rw [uI_n _ _ (by omega), uI_n _ _ (by omega), uI_n _ _ (by omega), uI_n _ _ (by omega), ar1.1 104 q (by omega), uI_n Ir2 _ (by omega), ar2.1 105 q (by omega), uI_n _ _ (by omega), ar1.1 105 q (by omega), al3.1 45 q (by omega), al3.1 46 q (by omega), al2.1 45 q (by omega), al2.1 46 q (by omega), al1.1 45 q (by omega), al1.1 46 q (by omega)]
        exact ⟨m1, m2, m3⟩
    have hs2 : ((uI Ir3 86 30 (Ir3 86 30 + 1)) 86 30).toInt = (i + 1 : Nat) := by
      rw [uI_s, i_add1 (by omega)]
      omega
    obtain ⟨r, Ic', Ir', Jc', Jr', p1, p2, p3, p4, p5, p6⟩ := ih (i + 1) e2 st3 k3 e3 (ii + 1) (.int t) (.int u) (uI (uI (uI Ic3 45 ii.toNatClampNeg t) 46 ii.toNatClampNeg u) 44 4 (ii + 1)) (uI Ir3 86 30 (Ir3 86 30 + 1)) Jc3 Jr3 (by omega) hi1 hp2 tk3 (cTok_e ct3 (fun c q h => by rw [uI_n _ _ (by omega), uI_n _ _ (by omega), uI_n _ _ (by omega)])) (rTok_e rt3 (fun c q h => uI_n _ _ (by omega))) (by rw [uI_s]; exact hi1) hs2 hE'
    have c4 := put_in (L := L) (xs := xs) (d := d + 2) (I := Ic3) (J := Jc3) (R := R) (c := 45) (n := 225) (fun _ => rfl) (by decide) (i := ii) t (by omega) (by omega)
    have c5 := put_in (L := L) (xs := xs) (d := d + 2) (I := uI Ic3 45 ii.toNatClampNeg t) (J := Jc3) (R := R) (c := 46) (n := 225) (fun _ => rfl) (by decide) (i := ii) u (by omega) (by omega)
    refine ⟨r, Ic', Ir', Jc', Jr', rd_d hG (by omega) hc' x1 x2 tne une (by omega) x3 c4 c5 p1, rq_d hGr hr' y1 (by omega) (by omega) y2 (by omega) (by omega) (by omega) y3 p2, ?_, ?_, ?_, p6⟩
    · refine rwC_t (rwC_a al1) (rwC_t (rwC_a al2) (rwC_t (rwC_a al3) ?_))
      intro c q a1 a2 a3 a4
      rw [p3 c q a1 a2 a3 a4, uI_n _ _ (by omega), uI_n _ _ (by omega), uI_n _ _ (by omega)]
    · intro c q a1 a2 a3 a4
      rw [p4 c q a1 a2 a3 a4, uI_n _ _ (by omega), as3.1 c q (by omega), uI_n _ _ (by omega), ar2.1 c q (by omega), uI_n _ _ (by omega), ar1.1 c q (by omega)]
    · rw [p5, uI_n _ _ (by omega), as3.1 86 1 (by omega), uI_n _ _ (by omega), ar2.1 86 1 (by omega), uI_n _ _ (by omega), ar1.1 86 1 (by omega)]
/-- rows of both, from the tape -/
theorem rws {L : Nat} {xs : Nat → Int32} {d d' : Nat} {R Rr : Nat → Nat → Nat} {b : Nat → Int32} {n : Nat} (hG : aGd R) (hGr : aGd Rr) (h4 : 4 ≤ d' + 1) (hn9 : n ≤ 900) {mo : Int32} (hmo : mo.toInt = 3) {Ic Ir : Nat → Nat → Int32} {Jc Jr : Nat → Nat → Int64} (hn : (Ic 1 1).toInt = n) (hm : (Ir 86 1).toInt = n) (hb : bX Ic n = b) (hb' : bM Ir n = b) :
    ∃ (r : Int32) (Ic' Ir' : Nat → Nat → Int32) (Jc' Jr' : Nat → Nat → Int64), xEv L xs (d + 3) 54 0 [.ref 44, .ref 1, xmk, xmk, xmk] [] (124, Ic, Jc, R) (some (.int r)) (124, Ic', Jc', R) ∧ xEv L xs (d' + 5) 173 0 [.ref 86, .int mo, xmk] [] (124, Ir, Jr, Rr) (some (.int r)) (124, Ir', Jr', Rr) ∧ rwC Ic Ic' ∧ (∀ c q, ¬ (c = 86 ∧ (1 ≤ q ∧ q ≤ 7)) → ¬ (c = 86 ∧ (q = 10 ∨ q = 11 ∨ q = 30 ∨ q = 33 ∨ q = 34)) → c ≠ 104 → c ≠ 105 → Ir' c q = Ir c q) ∧ Ir' 86 1 = 0 ∧ (r = 0 ∨ (r = 1 ∧ ∃ m : Nat, m ≤ 225 ∧ (Ic' 44 4).toInt = m ∧ (Ir' 86 30).toInt = m ∧ rwE m Ic' Ir')) := by
  obtain ⟨st, k, e, Ic1, Jc1, x1, x2, x3, x4, x5, x6, x7, x8, x9, x10⟩ := ad_run (L := L) (xs := xs) (d := d) (R := R) hG hn9 (I := uI (uI Ic 44 4 0) 1 2 0) (J := Jc) (n := n) (p := 0) (by rw [uI_n _ _ (by omega), uI_n _ _ (by omega)]; exact hn) (by rw [uI_s]; decide) (by omega)
  have hb1 : bX (uI (uI Ic 44 4 0) 1 2 0) n = b := by
    rw [← hb]
    funext q
    unfold bX
    rw [uI_n _ _ (by omega), uI_n _ _ (by omega)]
  rw [hb1] at x2 x9
  obtain ⟨st', k', e', Ir1, Jr1, y1, y2, y3, y4⟩ := sk_run (L := L) (xs := xs) (d := d' + 0) (R := Rr) (b := b) (n := n) (I := uI (uI (uI (uI (uI Ir 86 33 (Ir 86 8)) 86 34 (Ir 86 9)) 86 2 (Ir 86 1)) 86 1 0) 86 6 0) (J := Jr) hGr (by omega) hn9 (p := 0) (by rw [uI_n _ _ (by omega), uI_n _ _ (by omega), uI_s]; exact hm) (by rw [uI_s]; decide) (by omega) (by
    rw [← hb']
    funext q
    unfold bM
    rw [uI_n _ _ (by omega), uI_n _ _ (by omega), uI_n _ _ (by omega), uI_n _ _ (by omega), uI_n _ _ (by omega)])
  obtain ⟨v1, v2, v3⟩ := isTok_u x2 y2
  subst v1
  subst v2
  subst v3
  have ct : cTok b n Ic1 Jc1 st k e := by
    refine ⟨by rw [x10.1 1 1 (by omega), uI_n _ _ (by omega), uI_n _ _ (by omega)]; exact hn, x6, x7, x8, x9, ?_, x4, x5⟩
    rw [← hb1]
    funext q
    unfold bX
    rw [x10.1 2 q (by omega)]
  obtain ⟨r, Ic', Ir', Jc', Jr', p1, p2, p3, p4, p5, p6⟩ := rwl (L := L) (xs := xs) (d := d) (d' := d') (R := R) (Rr := Rr) hG hGr h4 hn9 hmo 225 0 0 st k e 0 xmk xmk Ic1 (uI Ir1 86 30 0) Jc1 Jr1 (by omega) (by decide) (by omega) x2 ct (rTok_e y3 (fun c q h => uI_n _ _ (by omega))) (by rw [x10.1 44 4 (by omega), uI_n _ _ (by omega), uI_s]; decide) (by rw [uI_s]; decide) (fun q hq => absurd hq (by omega))
  have q33 : Ir' 86 33 = Ir 86 8 := by rw [p4 86 33 (by omega) (by omega) (by omega) (by omega), uI_n _ _ (by omega), y4.1 86 33 (by omega), uI_n _ _ (by omega), uI_n _ _ (by omega), uI_n _ _ (by omega), uI_n _ _ (by omega), uI_s]
  have q34 : Ir' 86 34 = Ir 86 9 := by rw [p4 86 34 (by omega) (by omega) (by omega) (by omega), uI_n _ _ (by omega), y4.1 86 34 (by omega), uI_n _ _ (by omega), uI_n _ _ (by omega), uI_n _ _ (by omega), uI_s]
  refine ⟨r, Ic', _, Jc', Jr', rd_s hG (rs_s hG x1) p1, ar_0 hGr (rq_s hGr (tt_s hGr y1) p2) hGr (by rcases p6 with h | ⟨h, -⟩; exact Or.inl h; exact Or.inr h), ?_, ?_, ?_, ?_⟩
  · intro c q a1 a2 a3 a4
    rw [p3 c q a1 a2 a3 a4, x10.1 c q a1, uI_n _ _ (by omega), uI_n _ _ (by omega)]
  · intro c q a1 a2 a3 a4
    by_cases h9 : c = 86 ∧ q = 9
    · obtain ⟨rfl, rfl⟩ := h9
      rw [uI_s]
      exact q34
    rw [uI_n _ _ (by omega)]
    by_cases h8 : c = 86 ∧ q = 8
    · obtain ⟨rfl, rfl⟩ := h8
      rw [uI_s]
      exact q33
    rw [uI_n _ _ (by omega), p4 c q (by omega) (by omega) a3 a4, uI_n _ _ (by omega), y4.1 c q (by omega), uI_n _ _ (by omega), uI_n _ _ (by omega), uI_n _ _ (by omega), uI_n _ _ (by omega), uI_n _ _ (by omega)]
  · rw [uI_n _ _ (by omega), uI_n _ _ (by omega), p5, uI_n _ _ (by omega), y4.1 86 1 (by omega), uI_n _ _ (by omega), uI_s]
  · rcases p6 with h | ⟨h, m, m1, m2, m3, m4⟩
    · exact Or.inl h
    · refine Or.inr ⟨h, m, m1, m2, by rw [uI_n _ _ (by omega), uI_n _ _ (by omega)]; exact m3, fun q hq => ?_⟩
      rw [uI_n _ _ (by omega), uI_n _ _ (by omega), uI_n _ _ (by omega), uI_n _ _ (by omega)]
      exact m4 q hq
