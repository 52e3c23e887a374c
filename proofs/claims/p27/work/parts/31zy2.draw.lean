set_option maxRecDepth 20000 in
theorem gdc10 {L : Nat} {xs : Nat → Int32} {d : Nat} {I : Nat → Nat → Int32} {J : Nat → Nat → Int64} {R : Nat → Nat → Nat} (hG : aGd R)  : xEv L xs d 124 0 [.ref 66, .int 10] [] (124, I, J, R) (some (.int (((((1103515245 * (J 66 7)) + 12345) &&& 2147483647) / 65536) - ((((1103515245 * (J 66 7)) + 12345) &&& 2147483647) / 65536) / (10 : Int32).toInt64 * (10 : Int32).toInt64).toInt32)) (124, I, (uL J 66 7 (((1103515245 * (J 66 7)) + 12345) &&& 2147483647)), R) := by
  refine ev_go 15 (pc1 := 31) (lv1 := [.ref 66, .int 10]) (st1 := [.long 65536, .long (((1103515245 * (J 66 7)) + 12345) &&& 2147483647)]) (h1 := (124, I, (uL J 66 7 (((1103515245 * (J 66 7)) + 12345) &&& 2147483647)), R)) rfl ?_
  refine ev_go 3 (pc1 := 34) (lv1 := [.ref 66, .int 10]) (st1 := [.long (10 : Int32).toInt64, .long ((((1103515245 * (J 66 7)) + 12345) &&& 2147483647) / 65536)]) (h1 := (124, I, (uL J 66 7 (((1103515245 * (J 66 7)) + 12345) &&& 2147483647)), R)) rfl ?_
  refine ev_go 3 (pc1 := 40) (lv1 := [.ref 66, .int 10]) (st1 := [.int (((((1103515245 * (J 66 7)) + 12345) &&& 2147483647) / 65536) - ((((1103515245 * (J 66 7)) + 12345) &&& 2147483647) / 65536) / (10 : Int32).toInt64 * (10 : Int32).toInt64).toInt32]) (h1 := (124, I, (uL J 66 7 (((1103515245 * (J 66 7)) + 12345) &&& 2147483647)), R)) rfl ?_
  exact ev_ret rfl rfl
set_option maxRecDepth 20000 in
theorem gdr10 {L : Nat} {xs : Nat → Int32} {d : Nat} {I : Nat → Nat → Int32} {J : Nat → Nat → Int64} {R : Nat → Nat → Nat} (hG : aGd R)  : xEv L xs d 225 0 [.ref 86, .int 10] [] (124, I, J, R) (some (.int (((((1103515245 * (J 122 0)) + 12345) - ((1103515245 * (J 122 0)) + 12345) / 2147483648 * 2147483648) / 65536) - ((((1103515245 * (J 122 0)) + 12345) - ((1103515245 * (J 122 0)) + 12345) / 2147483648 * 2147483648) / 65536) / (10 : Int32).toInt64 * (10 : Int32).toInt64).toInt32)) (124, I, (uL J 122 0 (((1103515245 * (J 122 0)) + 12345) - ((1103515245 * (J 122 0)) + 12345) / 2147483648 * 2147483648)), R) := by
  refine ev_go 1 (pc1 := 1) (lv1 := [.ref 86, .int 10]) (st1 := [.ref 86]) (h1 := (124, I, J, R)) rfl ?_
  refine ev_gf (c := 86) (t := 122) (X := R 86 57) rfl rfl (fun _ => rfl) rfl (hG 86 57 122 rfl rfl) ?_
  refine ev_go 3 (pc1 := 9) (lv1 := [.ref 86, .int 10]) (st1 := [.ref 86, .long 1103515245, .int 0, .ref 122]) (h1 := (124, I, J, R)) rfl ?_
  refine ev_gf (c := 86) (t := 122) (X := R 86 57) rfl rfl (fun _ => rfl) rfl (hG 86 57 122 rfl rfl) ?_
  refine ev_go 6 (pc1 := 22) (lv1 := [.ref 86, .int 10]) (st1 := [.long 2147483648, .long ((1103515245 * (J 122 0)) + 12345), .int 0, .ref 122]) (h1 := (124, I, J, R)) rfl ?_
  refine ev_go 3 (pc1 := 25) (lv1 := [.ref 86, .int 10]) (st1 := [.ref 86]) (h1 := (124, I, (uL J 122 0 (((1103515245 * (J 122 0)) + 12345) - ((1103515245 * (J 122 0)) + 12345) / 2147483648 * 2147483648)), R)) rfl ?_
  refine ev_gf (c := 86) (t := 122) (X := R 86 57) rfl rfl (fun _ => rfl) rfl (hG 86 57 122 rfl rfl) ?_
  refine ev_go 3 (pc1 := 33) (lv1 := [.ref 86, .int 10]) (st1 := [.long 65536, .long (((1103515245 * (J 122 0)) + 12345) - ((1103515245 * (J 122 0)) + 12345) / 2147483648 * 2147483648)]) (h1 := (124, I, (uL J 122 0 (((1103515245 * (J 122 0)) + 12345) - ((1103515245 * (J 122 0)) + 12345) / 2147483648 * 2147483648)), R)) rfl ?_
  refine ev_go 3 (pc1 := 36) (lv1 := [.ref 86, .int 10]) (st1 := [.long (10 : Int32).toInt64, .long ((((1103515245 * (J 122 0)) + 12345) - ((1103515245 * (J 122 0)) + 12345) / 2147483648 * 2147483648) / 65536)]) (h1 := (124, I, (uL J 122 0 (((1103515245 * (J 122 0)) + 12345) - ((1103515245 * (J 122 0)) + 12345) / 2147483648 * 2147483648)), R)) rfl ?_
  refine ev_go 2 (pc1 := 38) (lv1 := [.ref 86, .int 10]) (st1 := [.int (((((1103515245 * (J 122 0)) + 12345) - ((1103515245 * (J 122 0)) + 12345) / 2147483648 * 2147483648) / 65536) - ((((1103515245 * (J 122 0)) + 12345) - ((1103515245 * (J 122 0)) + 12345) / 2147483648 * 2147483648) / 65536) / (10 : Int32).toInt64 * (10 : Int32).toInt64).toInt32]) (h1 := (124, I, (uL J 122 0 (((1103515245 * (J 122 0)) + 12345) - ((1103515245 * (J 122 0)) + 12345) / 2147483648 * 2147483648)), R)) rfl ?_
  exact ev_ret rfl rfl
set_option maxRecDepth 20000 in
theorem gdc1000 {L : Nat} {xs : Nat → Int32} {d : Nat} {I : Nat → Nat → Int32} {J : Nat → Nat → Int64} {R : Nat → Nat → Nat} (hG : aGd R)  : xEv L xs d 124 0 [.ref 66, .int 1000] [] (124, I, J, R) (some (.int (((((1103515245 * (J 66 7)) + 12345) &&& 2147483647) / 65536) - ((((1103515245 * (J 66 7)) + 12345) &&& 2147483647) / 65536) / (1000 : Int32).toInt64 * (1000 : Int32).toInt64).toInt32)) (124, I, (uL J 66 7 (((1103515245 * (J 66 7)) + 12345) &&& 2147483647)), R) := by
  refine ev_go 15 (pc1 := 31) (lv1 := [.ref 66, .int 1000]) (st1 := [.long 65536, .long (((1103515245 * (J 66 7)) + 12345) &&& 2147483647)]) (h1 := (124, I, (uL J 66 7 (((1103515245 * (J 66 7)) + 12345) &&& 2147483647)), R)) rfl ?_
  refine ev_go 3 (pc1 := 34) (lv1 := [.ref 66, .int 1000]) (st1 := [.long (1000 : Int32).toInt64, .long ((((1103515245 * (J 66 7)) + 12345) &&& 2147483647) / 65536)]) (h1 := (124, I, (uL J 66 7 (((1103515245 * (J 66 7)) + 12345) &&& 2147483647)), R)) rfl ?_
  refine ev_go 3 (pc1 := 40) (lv1 := [.ref 66, .int 1000]) (st1 := [.int (((((1103515245 * (J 66 7)) + 12345) &&& 2147483647) / 65536) - ((((1103515245 * (J 66 7)) + 12345) &&& 2147483647) / 65536) / (1000 : Int32).toInt64 * (1000 : Int32).toInt64).toInt32]) (h1 := (124, I, (uL J 66 7 (((1103515245 * (J 66 7)) + 12345) &&& 2147483647)), R)) rfl ?_
  exact ev_ret rfl rfl
set_option maxRecDepth 20000 in
theorem gdr1000 {L : Nat} {xs : Nat → Int32} {d : Nat} {I : Nat → Nat → Int32} {J : Nat → Nat → Int64} {R : Nat → Nat → Nat} (hG : aGd R)  : xEv L xs d 225 0 [.ref 86, .int 1000] [] (124, I, J, R) (some (.int (((((1103515245 * (J 122 0)) + 12345) - ((1103515245 * (J 122 0)) + 12345) / 2147483648 * 2147483648) / 65536) - ((((1103515245 * (J 122 0)) + 12345) - ((1103515245 * (J 122 0)) + 12345) / 2147483648 * 2147483648) / 65536) / (1000 : Int32).toInt64 * (1000 : Int32).toInt64).toInt32)) (124, I, (uL J 122 0 (((1103515245 * (J 122 0)) + 12345) - ((1103515245 * (J 122 0)) + 12345) / 2147483648 * 2147483648)), R) := by
  refine ev_go 1 (pc1 := 1) (lv1 := [.ref 86, .int 1000]) (st1 := [.ref 86]) (h1 := (124, I, J, R)) rfl ?_
  refine ev_gf (c := 86) (t := 122) (X := R 86 57) rfl rfl (fun _ => rfl) rfl (hG 86 57 122 rfl rfl) ?_
  refine ev_go 3 (pc1 := 9) (lv1 := [.ref 86, .int 1000]) (st1 := [.ref 86, .long 1103515245, .int 0, .ref 122]) (h1 := (124, I, J, R)) rfl ?_
  refine ev_gf (c := 86) (t := 122) (X := R 86 57) rfl rfl (fun _ => rfl) rfl (hG 86 57 122 rfl rfl) ?_
  refine ev_go 6 (pc1 := 22) (lv1 := [.ref 86, .int 1000]) (st1 := [.long 2147483648, .long ((1103515245 * (J 122 0)) + 12345), .int 0, .ref 122]) (h1 := (124, I, J, R)) rfl ?_
  refine ev_go 3 (pc1 := 25) (lv1 := [.ref 86, .int 1000]) (st1 := [.ref 86]) (h1 := (124, I, (uL J 122 0 (((1103515245 * (J 122 0)) + 12345) - ((1103515245 * (J 122 0)) + 12345) / 2147483648 * 2147483648)), R)) rfl ?_
  refine ev_gf (c := 86) (t := 122) (X := R 86 57) rfl rfl (fun _ => rfl) rfl (hG 86 57 122 rfl rfl) ?_
  refine ev_go 3 (pc1 := 33) (lv1 := [.ref 86, .int 1000]) (st1 := [.long 65536, .long (((1103515245 * (J 122 0)) + 12345) - ((1103515245 * (J 122 0)) + 12345) / 2147483648 * 2147483648)]) (h1 := (124, I, (uL J 122 0 (((1103515245 * (J 122 0)) + 12345) - ((1103515245 * (J 122 0)) + 12345) / 2147483648 * 2147483648)), R)) rfl ?_
  refine ev_go 3 (pc1 := 36) (lv1 := [.ref 86, .int 1000]) (st1 := [.long (1000 : Int32).toInt64, .long ((((1103515245 * (J 122 0)) + 12345) - ((1103515245 * (J 122 0)) + 12345) / 2147483648 * 2147483648) / 65536)]) (h1 := (124, I, (uL J 122 0 (((1103515245 * (J 122 0)) + 12345) - ((1103515245 * (J 122 0)) + 12345) / 2147483648 * 2147483648)), R)) rfl ?_
  refine ev_go 2 (pc1 := 38) (lv1 := [.ref 86, .int 1000]) (st1 := [.int (((((1103515245 * (J 122 0)) + 12345) - ((1103515245 * (J 122 0)) + 12345) / 2147483648 * 2147483648) / 65536) - ((((1103515245 * (J 122 0)) + 12345) - ((1103515245 * (J 122 0)) + 12345) / 2147483648 * 2147483648) / 65536) / (1000 : Int32).toInt64 * (1000 : Int32).toInt64).toInt32]) (h1 := (124, I, (uL J 122 0 (((1103515245 * (J 122 0)) + 12345) - ((1103515245 * (J 122 0)) + 12345) / 2147483648 * 2147483648)), R)) rfl ?_
  exact ev_ret rfl rfl
theorem dw_and {x : Int64} (h : 0 ≤ x.toInt) : (x &&& 2147483647).toInt = x.toInt % 2147483648 := by
  obtain ⟨h1, h2⟩ := ai_natL h
  have e : (x &&& 2147483647).toBitVec.toNat = x.toBitVec.toNat &&& (2 ^ 31 - 1) := rfl
  rw [Nat.and_two_pow_sub_one_eq_mod] at e
  have := ai_ofL e (by omega)
  rw [this, h1]
  omega
theorem k64_31 : (2147483648 : Int64).toInt = 2147483648 := by decide +kernel
theorem k64_mul : (1103515245 : Int64).toInt = 1103515245 := by decide +kernel
theorem k64_inc : (12345 : Int64).toInt = 12345 := by decide +kernel
/-- the next seed, of both -/
theorem dw_eq {x : Int64} (h0 : 0 ≤ x.toInt) (h1 : x.toInt < 2147483648) : (((1103515245 * x) + 12345) &&& 2147483647) = (((1103515245 * x) + 12345) - ((1103515245 * x) + 12345) / 2147483648 * 2147483648) ∧ 0 ≤ (((1103515245 * x) + 12345) &&& 2147483647).toInt ∧ (((1103515245 * x) + 12345) &&& 2147483647).toInt < 2147483648 := by
  have em : (1103515245 * x).toInt = 1103515245 * x.toInt := by rw [l_mul (by rw [k64_mul]; omega) (by rw [k64_mul]; omega), k64_mul]
  obtain ⟨m, hm⟩ : ∃ m, 1103515245 * x = m := ⟨_, rfl⟩
  rw [hm] at em ⊢
  have ea : (m + 12345).toInt = m.toInt + 12345 := by rw [l_add (by rw [k64_inc]; omega) (by rw [k64_inc]; omega), k64_inc]
  obtain ⟨y, hy⟩ : ∃ y, m + 12345 = y := ⟨_, rfl⟩
  rw [hy] at ea ⊢
  have a1 := dw_and (x := y) (by omega)
  have a2 := l_rem (x := y) (y := 2147483648) (by omega) (by rw [k64_31]; decide)
  rw [k64_31] at a2
  exact ⟨Int64.toInt_inj.mp (by rw [a1, a2]), by omega, by omega⟩
theorem dw_10 {L : Nat} {xs : Nat → Int32} {d d' : Nat} {I Ir : Nat → Nat → Int32} {J Jr : Nat → Nat → Int64} {R Rr : Nat → Nat → Nat} (hG : aGd R) (hGr : aGd Rr) (h0 : 0 ≤ (J 66 7).toInt) (h1 : (J 66 7).toInt < 2147483648) (he : Jr 122 0 = J 66 7) : ∃ (r : Int32) (S : Int64), xEv L xs d 124 0 [.ref 66, .int 10] [] (124, I, J, R) (some (.int r)) (124, I, uL J 66 7 S, R) ∧ xEv L xs d' 225 0 [.ref 86, .int 10] [] (124, Ir, Jr, Rr) (some (.int r)) (124, Ir, uL Jr 122 0 S, Rr) ∧ 0 ≤ S.toInt ∧ S.toInt < 2147483648 := by
  have e := dw_eq h0 h1
  have x := gdc10 (L := L) (xs := xs) (d := d) (I := I) (J := J) hG
  have y := gdr10 (L := L) (xs := xs) (d := d') (I := Ir) (J := Jr) hGr
  rw [he, ← e.1] at y
  exact ⟨_, _, x, y, e.2.1, e.2.2⟩
theorem dw_1000 {L : Nat} {xs : Nat → Int32} {d d' : Nat} {I Ir : Nat → Nat → Int32} {J Jr : Nat → Nat → Int64} {R Rr : Nat → Nat → Nat} (hG : aGd R) (hGr : aGd Rr) (h0 : 0 ≤ (J 66 7).toInt) (h1 : (J 66 7).toInt < 2147483648) (he : Jr 122 0 = J 66 7) : ∃ (r : Int32) (S : Int64), xEv L xs d 124 0 [.ref 66, .int 1000] [] (124, I, J, R) (some (.int r)) (124, I, uL J 66 7 S, R) ∧ xEv L xs d' 225 0 [.ref 86, .int 1000] [] (124, Ir, Jr, Rr) (some (.int r)) (124, Ir, uL Jr 122 0 S, Rr) ∧ 0 ≤ S.toInt ∧ S.toInt < 2147483648 := by
  have e := dw_eq h0 h1
  have x := gdc1000 (L := L) (xs := xs) (d := d) (I := I) (J := J) hG
  have y := gdr1000 (L := L) (xs := xs) (d := d') (I := Ir) (J := Jr) hGr
  rw [he, ← e.1] at y
  exact ⟨_, _, x, y, e.2.1, e.2.2⟩
set_option maxRecDepth 20000 in
theorem gp_s {L : Nat} {xs : Nat → Int32} {d : Nat} {I : Nat → Nat → Int32} {J : Nat → Nat → Int64} {R : Nat → Nat → Nat} {q : Int32} (hG : aGd R)  {v : Option Value} {h' : xH} (hk : xEv L xs d 125 4 [.ref 66, .int q, .int 0, .int 0] [] (124, I, J, R) v h') : xEv L xs d 125 0 [.ref 66, .int q, xmk, xmk] [] (124, I, J, R) v h' := by
  refine ev_go 4 (pc1 := 4) (lv1 := [.ref 66, .int q, .int 0, .int 0]) (st1 := []) (h1 := (124, I, J, R)) rfl ?_
  exact hk
set_option maxRecDepth 20000 in
theorem gp_e {L : Nat} {xs : Nat → Int32} {d : Nat} {I : Nat → Nat → Int32} {J : Nat → Nat → Int64} {R : Nat → Nat → Nat} {q st i : Int32} (hG : aGd R) (b1 : i.toInt ≥ 4) : xEv L xs d 125 4 [.ref 66, .int q, .int st, .int i] [] (124, I, J, R) (some (.int st)) (124, I, J, R) := by
  refine ev_go 2 (pc1 := 6) (lv1 := [.ref 66, .int q, .int st, .int i]) (st1 := [.int 4, .int i]) (h1 := (124, I, J, R)) rfl ?_
  refine ev_br (b1 := true) rfl rfl (xcd_ge (x := i) (y := 4) (by rw [show ((4 : Int32)).toInt = 4 from by decide]; first | exact b1 | omega)) ?_
  refine ev_go 1 (pc1 := 34) (lv1 := [.ref 66, .int q, .int st, .int i]) (st1 := [.int st]) (h1 := (124, I, J, R)) rfl ?_
  exact ev_ret rfl rfl
set_option maxRecDepth 20000 in
theorem gp_y {L : Nat} {xs : Nat → Int32} {d : Nat} {I : Nat → Nat → Int32} {J : Nat → Nat → Int64} {R : Nat → Nat → Nat} {q st i w : Int32} (hG : aGd R) (b1 : i.toInt < 4) (c1 : xEv L xs d 39 0 [.ref 67, .int i] [] (124, I, J, R) (some (.int w)) (124, I, J, R)) (b2 : w.toInt = q.toInt) {v : Option Value} {h' : xH} (hk : xEv L xs (d + 1) 125 4 [.ref 66, .int q, .int (st ||| (1 <<< (i &&& 31))), .int (i + 1)] [] (124, I, J, R) v h') : xEv L xs (d + 1) 125 4 [.ref 66, .int q, .int st, .int i] [] (124, I, J, R) v h' := by
  refine ev_go 2 (pc1 := 6) (lv1 := [.ref 66, .int q, .int st, .int i]) (st1 := [.int 4, .int i]) (h1 := (124, I, J, R)) rfl ?_
  refine ev_br (b1 := false) rfl rfl (xcd_nge (x := i) (y := 4) (by rw [show ((4 : Int32)).toInt = 4 from by decide]; first | exact b1 | omega)) ?_
  refine ev_go 1 (pc1 := 10) (lv1 := [.ref 66, .int q, .int st, .int i]) (st1 := [.ref 66]) (h1 := (124, I, J, R)) rfl ?_
  refine ev_gf (c := 66) (t := 67) (X := R 66 0) rfl rfl (fun _ => rfl) rfl (hG 66 0 67 rfl rfl) ?_
  refine ev_go 1 (pc1 := 14) (lv1 := [.ref 66, .int q, .int st, .int i]) (st1 := [.int i, .ref 67]) (h1 := (124, I, J, R)) rfl ?_
  refine ev_call (v1 := (some (.int w))) (h1 := (124, I, J, R)) rfl rfl c1 ?_
  refine ev_go 1 (pc1 := 18) (lv1 := [.ref 66, .int q, .int st, .int i]) (st1 := [.int q, .int w]) (h1 := (124, I, J, R)) rfl ?_
  refine ev_br (b1 := false) rfl rfl (xcd_nne (x := w) (y := q) (by first | exact b2 | omega)) ?_
  refine ev_go 3 (pc1 := 24) (lv1 := [.ref 66, .int q, .int st, .int i]) (st1 := [.int i, .int 1, .int st]) (h1 := (124, I, J, R)) rfl ?_
  refine ev_go 5 (pc1 := 4) (lv1 := [.ref 66, .int q, .int (st ||| (1 <<< (i &&& 31))), .int (i + 1)]) (st1 := []) (h1 := (124, I, J, R)) rfl ?_
  exact hk
set_option maxRecDepth 20000 in
theorem gp_n {L : Nat} {xs : Nat → Int32} {d : Nat} {I : Nat → Nat → Int32} {J : Nat → Nat → Int64} {R : Nat → Nat → Nat} {q st i w : Int32} (hG : aGd R) (b1 : i.toInt < 4) (c1 : xEv L xs d 39 0 [.ref 67, .int i] [] (124, I, J, R) (some (.int w)) (124, I, J, R)) (b2 : w.toInt ≠ q.toInt) {v : Option Value} {h' : xH} (hk : xEv L xs (d + 1) 125 4 [.ref 66, .int q, .int st, .int (i + 1)] [] (124, I, J, R) v h') : xEv L xs (d + 1) 125 4 [.ref 66, .int q, .int st, .int i] [] (124, I, J, R) v h' := by
  refine ev_go 2 (pc1 := 6) (lv1 := [.ref 66, .int q, .int st, .int i]) (st1 := [.int 4, .int i]) (h1 := (124, I, J, R)) rfl ?_
  refine ev_br (b1 := false) rfl rfl (xcd_nge (x := i) (y := 4) (by rw [show ((4 : Int32)).toInt = 4 from by decide]; first | exact b1 | omega)) ?_
  refine ev_go 1 (pc1 := 10) (lv1 := [.ref 66, .int q, .int st, .int i]) (st1 := [.ref 66]) (h1 := (124, I, J, R)) rfl ?_
  refine ev_gf (c := 66) (t := 67) (X := R 66 0) rfl rfl (fun _ => rfl) rfl (hG 66 0 67 rfl rfl) ?_
  refine ev_go 1 (pc1 := 14) (lv1 := [.ref 66, .int q, .int st, .int i]) (st1 := [.int i, .ref 67]) (h1 := (124, I, J, R)) rfl ?_
  refine ev_call (v1 := (some (.int w))) (h1 := (124, I, J, R)) rfl rfl c1 ?_
  refine ev_go 1 (pc1 := 18) (lv1 := [.ref 66, .int q, .int st, .int i]) (st1 := [.int q, .int w]) (h1 := (124, I, J, R)) rfl ?_
  refine ev_br (b1 := true) rfl rfl (xcd_ne (x := w) (y := q) (by first | exact b2 | omega)) ?_
  refine ev_go 2 (pc1 := 4) (lv1 := [.ref 66, .int q, .int st, .int (i + 1)]) (st1 := []) (h1 := (124, I, J, R)) rfl ?_
  exact hk
set_option maxRecDepth 20000 in
theorem gh_s {L : Nat} {xs : Nat → Int32} {d : Nat} {I : Nat → Nat → Int32} {J : Nat → Nat → Int64} {R : Nat → Nat → Nat} {q : Int32} (hG : aGd R)  {v : Option Value} {h' : xH} (hk : xEv L xs d 226 4 [.ref 86, .int q, .int 0, .int 0] [] (124, I, J, R) v h') : xEv L xs d 226 0 [.ref 86, .int q, xmk, xmk] [] (124, I, J, R) v h' := by
  refine ev_go 4 (pc1 := 4) (lv1 := [.ref 86, .int q, .int 0, .int 0]) (st1 := []) (h1 := (124, I, J, R)) rfl ?_
  exact hk
set_option maxRecDepth 20000 in
theorem gh_e {L : Nat} {xs : Nat → Int32} {d : Nat} {I : Nat → Nat → Int32} {J : Nat → Nat → Int64} {R : Nat → Nat → Nat} {q st k : Int32} (hG : aGd R) (b1 : k.toInt ≥ (I 88 2).toInt) : xEv L xs d 226 4 [.ref 86, .int q, .int st, .int k] [] (124, I, J, R) (some (.int st)) (124, I, J, R) := by
  refine ev_go 2 (pc1 := 6) (lv1 := [.ref 86, .int q, .int st, .int k]) (st1 := [.ref 86, .int k]) (h1 := (124, I, J, R)) rfl ?_
  refine ev_gf (c := 86) (t := 88) (X := R 86 12) rfl rfl (fun _ => rfl) rfl (hG 86 12 88 rfl rfl) ?_
  refine ev_go 2 (pc1 := 11) (lv1 := [.ref 86, .int q, .int st, .int k]) (st1 := [.int (I 88 2), .int k]) (h1 := (124, I, J, R)) rfl ?_
  refine ev_br (b1 := true) rfl rfl (xcd_ge (x := k) (y := (I 88 2)) (by first | exact b1 | omega)) ?_
  refine ev_go 1 (pc1 := 44) (lv1 := [.ref 86, .int q, .int st, .int k]) (st1 := [.int st]) (h1 := (124, I, J, R)) rfl ?_
  exact ev_ret rfl rfl
set_option maxRecDepth 20000 in
theorem gh_y {L : Nat} {xs : Nat → Int32} {d : Nat} {I : Nat → Nat → Int32} {J : Nat → Nat → Int64} {R : Nat → Nat → Nat} {q st k : Int32} (hG : aGd R) (b1 : k.toInt < (I 88 2).toInt) (n1 : 0 ≤ (9 + k).toInt) (m1 : (9 + k).toInt < 100) (b2 : (I 121 (9 + k).toNatClampNeg).toInt = q.toInt) {v : Option Value} {h' : xH} (hk : xEv L xs d 226 4 [.ref 86, .int q, .int (st ||| (1 <<< (k &&& 31))), .int (k + 1)] [] (124, I, J, R) v h') : xEv L xs d 226 4 [.ref 86, .int q, .int st, .int k] [] (124, I, J, R) v h' := by
  refine ev_go 2 (pc1 := 6) (lv1 := [.ref 86, .int q, .int st, .int k]) (st1 := [.ref 86, .int k]) (h1 := (124, I, J, R)) rfl ?_
  refine ev_gf (c := 86) (t := 88) (X := R 86 12) rfl rfl (fun _ => rfl) rfl (hG 86 12 88 rfl rfl) ?_
  refine ev_go 2 (pc1 := 11) (lv1 := [.ref 86, .int q, .int st, .int k]) (st1 := [.int (I 88 2), .int k]) (h1 := (124, I, J, R)) rfl ?_
  refine ev_br (b1 := false) rfl rfl (xcd_nge (x := k) (y := (I 88 2)) (by first | exact b1 | omega)) ?_
  refine ev_go 2 (pc1 := 16) (lv1 := [.ref 86, .int q, .int st, .int k]) (st1 := [.ref 86, .int st]) (h1 := (124, I, J, R)) rfl ?_
  refine ev_gf (c := 86) (t := 121) (X := R 86 56) rfl rfl (fun _ => rfl) rfl (hG 86 56 121 rfl rfl) ?_
  refine ev_go 3 (pc1 := 23) (lv1 := [.ref 86, .int q, .int st, .int k]) (st1 := [.int (9 + k), .ref 121, .int st]) (h1 := (124, I, J, R)) rfl ?_
  refine ev_ild (n := 100) rfl rfl (fun _ => rfl) n1 m1 ?_
  refine ev_go 1 (pc1 := 25) (lv1 := [.ref 86, .int q, .int st, .int k]) (st1 := [.int q, .int (I 121 (9 + k).toNatClampNeg), .int st]) (h1 := (124, I, J, R)) rfl ?_
  refine ev_br (b1 := false) rfl rfl (xcd_nne (x := (I 121 (9 + k).toNatClampNeg)) (y := q) (by first | exact b2 | omega)) ?_
  refine ev_go 2 (pc1 := 30) (lv1 := [.ref 86, .int q, .int st, .int k]) (st1 := [.int k, .int 1, .int st]) (h1 := (124, I, J, R)) rfl ?_
  refine ev_go 6 (pc1 := 4) (lv1 := [.ref 86, .int q, .int (st ||| (1 <<< (k &&& 31))), .int (k + 1)]) (st1 := []) (h1 := (124, I, J, R)) rfl ?_
  exact hk
set_option maxRecDepth 20000 in
theorem gh_n {L : Nat} {xs : Nat → Int32} {d : Nat} {I : Nat → Nat → Int32} {J : Nat → Nat → Int64} {R : Nat → Nat → Nat} {q st k : Int32} (hG : aGd R) (b1 : k.toInt < (I 88 2).toInt) (n1 : 0 ≤ (9 + k).toInt) (m1 : (9 + k).toInt < 100) (b2 : (I 121 (9 + k).toNatClampNeg).toInt ≠ q.toInt) {v : Option Value} {h' : xH} (hk : xEv L xs d 226 4 [.ref 86, .int q, .int (st ||| 0), .int (k + 1)] [] (124, I, J, R) v h') : xEv L xs d 226 4 [.ref 86, .int q, .int st, .int k] [] (124, I, J, R) v h' := by
  refine ev_go 2 (pc1 := 6) (lv1 := [.ref 86, .int q, .int st, .int k]) (st1 := [.ref 86, .int k]) (h1 := (124, I, J, R)) rfl ?_
  refine ev_gf (c := 86) (t := 88) (X := R 86 12) rfl rfl (fun _ => rfl) rfl (hG 86 12 88 rfl rfl) ?_
  refine ev_go 2 (pc1 := 11) (lv1 := [.ref 86, .int q, .int st, .int k]) (st1 := [.int (I 88 2), .int k]) (h1 := (124, I, J, R)) rfl ?_
  refine ev_br (b1 := false) rfl rfl (xcd_nge (x := k) (y := (I 88 2)) (by first | exact b1 | omega)) ?_
  refine ev_go 2 (pc1 := 16) (lv1 := [.ref 86, .int q, .int st, .int k]) (st1 := [.ref 86, .int st]) (h1 := (124, I, J, R)) rfl ?_
  refine ev_gf (c := 86) (t := 121) (X := R 86 56) rfl rfl (fun _ => rfl) rfl (hG 86 56 121 rfl rfl) ?_
  refine ev_go 3 (pc1 := 23) (lv1 := [.ref 86, .int q, .int st, .int k]) (st1 := [.int (9 + k), .ref 121, .int st]) (h1 := (124, I, J, R)) rfl ?_
  refine ev_ild (n := 100) rfl rfl (fun _ => rfl) n1 m1 ?_
  refine ev_go 1 (pc1 := 25) (lv1 := [.ref 86, .int q, .int st, .int k]) (st1 := [.int q, .int (I 121 (9 + k).toNatClampNeg), .int st]) (h1 := (124, I, J, R)) rfl ?_
  refine ev_br (b1 := true) rfl rfl (xcd_ne (x := (I 121 (9 + k).toNatClampNeg)) (y := q) (by first | exact b2 | omega)) ?_
  refine ev_go 5 (pc1 := 4) (lv1 := [.ref 86, .int q, .int (st ||| 0), .int (k + 1)]) (st1 := []) (h1 := (124, I, J, R)) rfl ?_
  exact hk
set_option maxRecDepth 20000 in
theorem gn_s {L : Nat} {xs : Nat → Int32} {d : Nat} {I : Nat → Nat → Int32} {J : Nat → Nat → Int64} {R : Nat → Nat → Nat} {q : Int32} (hG : aGd R)  {v : Option Value} {h' : xH} (hk : xEv L xs d 228 4 [.ref 86, .int q, .int 0, .int 0] [] (124, I, J, R) v h') : xEv L xs d 228 0 [.ref 86, .int q, xmk, xmk] [] (124, I, J, R) v h' := by
  refine ev_go 4 (pc1 := 4) (lv1 := [.ref 86, .int q, .int 0, .int 0]) (st1 := []) (h1 := (124, I, J, R)) rfl ?_
  exact hk
set_option maxRecDepth 20000 in
theorem gn_e {L : Nat} {xs : Nat → Int32} {d : Nat} {I : Nat → Nat → Int32} {J : Nat → Nat → Int64} {R : Nat → Nat → Nat} {q st k : Int32} (hG : aGd R) (b1 : k.toInt ≥ (I 88 2).toInt) : xEv L xs d 228 4 [.ref 86, .int q, .int st, .int k] [] (124, I, J, R) (some (.int st)) (124, I, J, R) := by
  refine ev_go 2 (pc1 := 6) (lv1 := [.ref 86, .int q, .int st, .int k]) (st1 := [.ref 86, .int k]) (h1 := (124, I, J, R)) rfl ?_
  refine ev_gf (c := 86) (t := 88) (X := R 86 12) rfl rfl (fun _ => rfl) rfl (hG 86 12 88 rfl rfl) ?_
  refine ev_go 2 (pc1 := 11) (lv1 := [.ref 86, .int q, .int st, .int k]) (st1 := [.int (I 88 2), .int k]) (h1 := (124, I, J, R)) rfl ?_
  refine ev_br (b1 := true) rfl rfl (xcd_ge (x := k) (y := (I 88 2)) (by first | exact b1 | omega)) ?_
  refine ev_go 1 (pc1 := 42) (lv1 := [.ref 86, .int q, .int st, .int k]) (st1 := [.int st]) (h1 := (124, I, J, R)) rfl ?_
  exact ev_ret rfl rfl
set_option maxRecDepth 20000 in
theorem gn_y {L : Nat} {xs : Nat → Int32} {d : Nat} {I : Nat → Nat → Int32} {J : Nat → Nat → Int64} {R : Nat → Nat → Nat} {q st k : Int32} (hG : aGd R) (b1 : k.toInt < (I 88 2).toInt) (n1 : 0 ≤ (9 + k).toInt) (m1 : (9 + k).toInt < 100) (b2 : (I 121 (9 + k).toNatClampNeg).toInt = q.toInt) {v : Option Value} {h' : xH} (hk : xEv L xs d 228 4 [.ref 86, .int q, .int (st + 1), .int (k + 1)] [] (124, I, J, R) v h') : xEv L xs d 228 4 [.ref 86, .int q, .int st, .int k] [] (124, I, J, R) v h' := by
  refine ev_go 2 (pc1 := 6) (lv1 := [.ref 86, .int q, .int st, .int k]) (st1 := [.ref 86, .int k]) (h1 := (124, I, J, R)) rfl ?_
  refine ev_gf (c := 86) (t := 88) (X := R 86 12) rfl rfl (fun _ => rfl) rfl (hG 86 12 88 rfl rfl) ?_
  refine ev_go 2 (pc1 := 11) (lv1 := [.ref 86, .int q, .int st, .int k]) (st1 := [.int (I 88 2), .int k]) (h1 := (124, I, J, R)) rfl ?_
  refine ev_br (b1 := false) rfl rfl (xcd_nge (x := k) (y := (I 88 2)) (by first | exact b1 | omega)) ?_
  refine ev_go 2 (pc1 := 16) (lv1 := [.ref 86, .int q, .int st, .int k]) (st1 := [.ref 86, .int st]) (h1 := (124, I, J, R)) rfl ?_
  refine ev_gf (c := 86) (t := 121) (X := R 86 56) rfl rfl (fun _ => rfl) rfl (hG 86 56 121 rfl rfl) ?_
  refine ev_go 3 (pc1 := 23) (lv1 := [.ref 86, .int q, .int st, .int k]) (st1 := [.int (9 + k), .ref 121, .int st]) (h1 := (124, I, J, R)) rfl ?_
  refine ev_ild (n := 100) rfl rfl (fun _ => rfl) n1 m1 ?_
  refine ev_go 1 (pc1 := 25) (lv1 := [.ref 86, .int q, .int st, .int k]) (st1 := [.int q, .int (I 121 (9 + k).toNatClampNeg), .int st]) (h1 := (124, I, J, R)) rfl ?_
  refine ev_br (b1 := false) rfl rfl (xcd_nne (x := (I 121 (9 + k).toNatClampNeg)) (y := q) (by first | exact b2 | omega)) ?_
  refine ev_go 6 (pc1 := 4) (lv1 := [.ref 86, .int q, .int (st + 1), .int (k + 1)]) (st1 := []) (h1 := (124, I, J, R)) rfl ?_
  exact hk
set_option maxRecDepth 20000 in
theorem gn_n {L : Nat} {xs : Nat → Int32} {d : Nat} {I : Nat → Nat → Int32} {J : Nat → Nat → Int64} {R : Nat → Nat → Nat} {q st k : Int32} (hG : aGd R) (b1 : k.toInt < (I 88 2).toInt) (n1 : 0 ≤ (9 + k).toInt) (m1 : (9 + k).toInt < 100) (b2 : (I 121 (9 + k).toNatClampNeg).toInt ≠ q.toInt) {v : Option Value} {h' : xH} (hk : xEv L xs d 228 4 [.ref 86, .int q, .int (st + 0), .int (k + 1)] [] (124, I, J, R) v h') : xEv L xs d 228 4 [.ref 86, .int q, .int st, .int k] [] (124, I, J, R) v h' := by
  refine ev_go 2 (pc1 := 6) (lv1 := [.ref 86, .int q, .int st, .int k]) (st1 := [.ref 86, .int k]) (h1 := (124, I, J, R)) rfl ?_
  refine ev_gf (c := 86) (t := 88) (X := R 86 12) rfl rfl (fun _ => rfl) rfl (hG 86 12 88 rfl rfl) ?_
  refine ev_go 2 (pc1 := 11) (lv1 := [.ref 86, .int q, .int st, .int k]) (st1 := [.int (I 88 2), .int k]) (h1 := (124, I, J, R)) rfl ?_
  refine ev_br (b1 := false) rfl rfl (xcd_nge (x := k) (y := (I 88 2)) (by first | exact b1 | omega)) ?_
  refine ev_go 2 (pc1 := 16) (lv1 := [.ref 86, .int q, .int st, .int k]) (st1 := [.ref 86, .int st]) (h1 := (124, I, J, R)) rfl ?_
  refine ev_gf (c := 86) (t := 121) (X := R 86 56) rfl rfl (fun _ => rfl) rfl (hG 86 56 121 rfl rfl) ?_
  refine ev_go 3 (pc1 := 23) (lv1 := [.ref 86, .int q, .int st, .int k]) (st1 := [.int (9 + k), .ref 121, .int st]) (h1 := (124, I, J, R)) rfl ?_
  refine ev_ild (n := 100) rfl rfl (fun _ => rfl) n1 m1 ?_
  refine ev_go 1 (pc1 := 25) (lv1 := [.ref 86, .int q, .int st, .int k]) (st1 := [.int q, .int (I 121 (9 + k).toNatClampNeg), .int st]) (h1 := (124, I, J, R)) rfl ?_
  refine ev_br (b1 := true) rfl rfl (xcd_ne (x := (I 121 (9 + k).toNatClampNeg)) (y := q) (by first | exact b2 | omega)) ?_
  refine ev_go 5 (pc1 := 4) (lv1 := [.ref 86, .int q, .int (st + 0), .int (k + 1)]) (st1 := []) (h1 := (124, I, J, R)) rfl ?_
  exact hk
set_option maxRecDepth 20000 in
theorem gb0 {L : Nat} {xs : Nat → Int32} {d : Nat} {I : Nat → Nat → Int32} {J : Nat → Nat → Int64} {R : Nat → Nat → Nat} (hG : aGd R)  : xEv L xs d 90 0 [.int 0] [] (124, I, J, R) (some (.int 0)) (124, I, J, R) := by
  refine ev_go 3 (pc1 := 3) (lv1 := [.int 0]) (st1 := [.int 1, .int 0, .int 0]) (h1 := (124, I, J, R)) rfl ?_
  refine ev_go 10 (pc1 := 17) (lv1 := [.int 0]) (st1 := [.int 2, .int 0, .int 0]) (h1 := (124, I, J, R)) rfl ?_
  refine ev_go 8 (pc1 := 27) (lv1 := [.int 0]) (st1 := [.int 4, .int 0, .int 0]) (h1 := (124, I, J, R)) rfl ?_
  refine ev_go 8 (pc1 := 38) (lv1 := [.int 0]) (st1 := [.int 8, .int 0, .int 0]) (h1 := (124, I, J, R)) rfl ?_
  refine ev_go 6 (pc1 := 45) (lv1 := [.int 0]) (st1 := [.int 16, .int 0, .int 0]) (h1 := (124, I, J, R)) rfl ?_
  refine ev_go 6 (pc1 := 52) (lv1 := [.int 0]) (st1 := [.int 0]) (h1 := (124, I, J, R)) rfl ?_
  exact ev_ret rfl rfl
set_option maxRecDepth 20000 in
theorem gb1 {L : Nat} {xs : Nat → Int32} {d : Nat} {I : Nat → Nat → Int32} {J : Nat → Nat → Int64} {R : Nat → Nat → Nat} (hG : aGd R)  : xEv L xs d 90 0 [.int 1] [] (124, I, J, R) (some (.int 1)) (124, I, J, R) := by
  refine ev_go 3 (pc1 := 3) (lv1 := [.int 1]) (st1 := [.int 1, .int 1, .int 1]) (h1 := (124, I, J, R)) rfl ?_
  refine ev_go 10 (pc1 := 17) (lv1 := [.int 1]) (st1 := [.int 2, .int 1, .int 1]) (h1 := (124, I, J, R)) rfl ?_
  refine ev_go 8 (pc1 := 27) (lv1 := [.int 1]) (st1 := [.int 4, .int 1, .int 1]) (h1 := (124, I, J, R)) rfl ?_
  refine ev_go 8 (pc1 := 38) (lv1 := [.int 1]) (st1 := [.int 8, .int 1, .int 1]) (h1 := (124, I, J, R)) rfl ?_
  refine ev_go 6 (pc1 := 45) (lv1 := [.int 1]) (st1 := [.int 16, .int 1, .int 1]) (h1 := (124, I, J, R)) rfl ?_
  refine ev_go 6 (pc1 := 52) (lv1 := [.int 1]) (st1 := [.int 1]) (h1 := (124, I, J, R)) rfl ?_
  exact ev_ret rfl rfl
set_option maxRecDepth 20000 in
theorem gb2 {L : Nat} {xs : Nat → Int32} {d : Nat} {I : Nat → Nat → Int32} {J : Nat → Nat → Int64} {R : Nat → Nat → Nat} (hG : aGd R)  : xEv L xs d 90 0 [.int 2] [] (124, I, J, R) (some (.int 1)) (124, I, J, R) := by
  refine ev_go 3 (pc1 := 3) (lv1 := [.int 2]) (st1 := [.int 1, .int 2, .int 2]) (h1 := (124, I, J, R)) rfl ?_
  refine ev_go 10 (pc1 := 17) (lv1 := [.int 1]) (st1 := [.int 2, .int 1, .int 1]) (h1 := (124, I, J, R)) rfl ?_
  refine ev_go 8 (pc1 := 27) (lv1 := [.int 1]) (st1 := [.int 4, .int 1, .int 1]) (h1 := (124, I, J, R)) rfl ?_
  refine ev_go 8 (pc1 := 38) (lv1 := [.int 1]) (st1 := [.int 8, .int 1, .int 1]) (h1 := (124, I, J, R)) rfl ?_
  refine ev_go 6 (pc1 := 45) (lv1 := [.int 1]) (st1 := [.int 16, .int 1, .int 1]) (h1 := (124, I, J, R)) rfl ?_
  refine ev_go 6 (pc1 := 52) (lv1 := [.int 1]) (st1 := [.int 1]) (h1 := (124, I, J, R)) rfl ?_
  exact ev_ret rfl rfl
set_option maxRecDepth 20000 in
theorem gb3 {L : Nat} {xs : Nat → Int32} {d : Nat} {I : Nat → Nat → Int32} {J : Nat → Nat → Int64} {R : Nat → Nat → Nat} (hG : aGd R)  : xEv L xs d 90 0 [.int 3] [] (124, I, J, R) (some (.int 2)) (124, I, J, R) := by
  refine ev_go 3 (pc1 := 3) (lv1 := [.int 3]) (st1 := [.int 1, .int 3, .int 3]) (h1 := (124, I, J, R)) rfl ?_
  refine ev_go 10 (pc1 := 17) (lv1 := [.int 2]) (st1 := [.int 2, .int 2, .int 2]) (h1 := (124, I, J, R)) rfl ?_
  refine ev_go 8 (pc1 := 27) (lv1 := [.int 2]) (st1 := [.int 4, .int 2, .int 2]) (h1 := (124, I, J, R)) rfl ?_
  refine ev_go 8 (pc1 := 38) (lv1 := [.int 2]) (st1 := [.int 8, .int 2, .int 2]) (h1 := (124, I, J, R)) rfl ?_
  refine ev_go 6 (pc1 := 45) (lv1 := [.int 2]) (st1 := [.int 16, .int 2, .int 2]) (h1 := (124, I, J, R)) rfl ?_
  refine ev_go 6 (pc1 := 52) (lv1 := [.int 2]) (st1 := [.int 2]) (h1 := (124, I, J, R)) rfl ?_
  exact ev_ret rfl rfl
set_option maxRecDepth 20000 in
theorem gb4 {L : Nat} {xs : Nat → Int32} {d : Nat} {I : Nat → Nat → Int32} {J : Nat → Nat → Int64} {R : Nat → Nat → Nat} (hG : aGd R)  : xEv L xs d 90 0 [.int 4] [] (124, I, J, R) (some (.int 1)) (124, I, J, R) := by
  refine ev_go 3 (pc1 := 3) (lv1 := [.int 4]) (st1 := [.int 1, .int 4, .int 4]) (h1 := (124, I, J, R)) rfl ?_
  refine ev_go 10 (pc1 := 17) (lv1 := [.int 4]) (st1 := [.int 2, .int 4, .int 0]) (h1 := (124, I, J, R)) rfl ?_
  refine ev_go 8 (pc1 := 27) (lv1 := [.int 1]) (st1 := [.int 4, .int 1, .int 1]) (h1 := (124, I, J, R)) rfl ?_
  refine ev_go 8 (pc1 := 38) (lv1 := [.int 1]) (st1 := [.int 8, .int 1, .int 1]) (h1 := (124, I, J, R)) rfl ?_
  refine ev_go 6 (pc1 := 45) (lv1 := [.int 1]) (st1 := [.int 16, .int 1, .int 1]) (h1 := (124, I, J, R)) rfl ?_
  refine ev_go 6 (pc1 := 52) (lv1 := [.int 1]) (st1 := [.int 1]) (h1 := (124, I, J, R)) rfl ?_
  exact ev_ret rfl rfl
set_option maxRecDepth 20000 in
theorem gb5 {L : Nat} {xs : Nat → Int32} {d : Nat} {I : Nat → Nat → Int32} {J : Nat → Nat → Int64} {R : Nat → Nat → Nat} (hG : aGd R)  : xEv L xs d 90 0 [.int 5] [] (124, I, J, R) (some (.int 2)) (124, I, J, R) := by
  refine ev_go 3 (pc1 := 3) (lv1 := [.int 5]) (st1 := [.int 1, .int 5, .int 5]) (h1 := (124, I, J, R)) rfl ?_
  refine ev_go 10 (pc1 := 17) (lv1 := [.int 5]) (st1 := [.int 2, .int 5, .int 1]) (h1 := (124, I, J, R)) rfl ?_
  refine ev_go 8 (pc1 := 27) (lv1 := [.int 2]) (st1 := [.int 4, .int 2, .int 2]) (h1 := (124, I, J, R)) rfl ?_
  refine ev_go 8 (pc1 := 38) (lv1 := [.int 2]) (st1 := [.int 8, .int 2, .int 2]) (h1 := (124, I, J, R)) rfl ?_
  refine ev_go 6 (pc1 := 45) (lv1 := [.int 2]) (st1 := [.int 16, .int 2, .int 2]) (h1 := (124, I, J, R)) rfl ?_
  refine ev_go 6 (pc1 := 52) (lv1 := [.int 2]) (st1 := [.int 2]) (h1 := (124, I, J, R)) rfl ?_
  exact ev_ret rfl rfl
set_option maxRecDepth 20000 in
theorem gb6 {L : Nat} {xs : Nat → Int32} {d : Nat} {I : Nat → Nat → Int32} {J : Nat → Nat → Int64} {R : Nat → Nat → Nat} (hG : aGd R)  : xEv L xs d 90 0 [.int 6] [] (124, I, J, R) (some (.int 2)) (124, I, J, R) := by
  refine ev_go 3 (pc1 := 3) (lv1 := [.int 6]) (st1 := [.int 1, .int 6, .int 6]) (h1 := (124, I, J, R)) rfl ?_
  refine ev_go 10 (pc1 := 17) (lv1 := [.int 5]) (st1 := [.int 2, .int 5, .int 1]) (h1 := (124, I, J, R)) rfl ?_
  refine ev_go 8 (pc1 := 27) (lv1 := [.int 2]) (st1 := [.int 4, .int 2, .int 2]) (h1 := (124, I, J, R)) rfl ?_
  refine ev_go 8 (pc1 := 38) (lv1 := [.int 2]) (st1 := [.int 8, .int 2, .int 2]) (h1 := (124, I, J, R)) rfl ?_
  refine ev_go 6 (pc1 := 45) (lv1 := [.int 2]) (st1 := [.int 16, .int 2, .int 2]) (h1 := (124, I, J, R)) rfl ?_
  refine ev_go 6 (pc1 := 52) (lv1 := [.int 2]) (st1 := [.int 2]) (h1 := (124, I, J, R)) rfl ?_
  exact ev_ret rfl rfl
set_option maxRecDepth 20000 in
theorem gb7 {L : Nat} {xs : Nat → Int32} {d : Nat} {I : Nat → Nat → Int32} {J : Nat → Nat → Int64} {R : Nat → Nat → Nat} (hG : aGd R)  : xEv L xs d 90 0 [.int 7] [] (124, I, J, R) (some (.int 3)) (124, I, J, R) := by
  refine ev_go 3 (pc1 := 3) (lv1 := [.int 7]) (st1 := [.int 1, .int 7, .int 7]) (h1 := (124, I, J, R)) rfl ?_
  refine ev_go 10 (pc1 := 17) (lv1 := [.int 6]) (st1 := [.int 2, .int 6, .int 2]) (h1 := (124, I, J, R)) rfl ?_
  refine ev_go 8 (pc1 := 27) (lv1 := [.int 3]) (st1 := [.int 4, .int 3, .int 3]) (h1 := (124, I, J, R)) rfl ?_
  refine ev_go 8 (pc1 := 38) (lv1 := [.int 3]) (st1 := [.int 8, .int 3, .int 3]) (h1 := (124, I, J, R)) rfl ?_
  refine ev_go 6 (pc1 := 45) (lv1 := [.int 3]) (st1 := [.int 16, .int 3, .int 3]) (h1 := (124, I, J, R)) rfl ?_
  refine ev_go 6 (pc1 := 52) (lv1 := [.int 3]) (st1 := [.int 3]) (h1 := (124, I, J, R)) rfl ?_
  exact ev_ret rfl rfl
set_option maxRecDepth 20000 in
theorem gb8 {L : Nat} {xs : Nat → Int32} {d : Nat} {I : Nat → Nat → Int32} {J : Nat → Nat → Int64} {R : Nat → Nat → Nat} (hG : aGd R)  : xEv L xs d 90 0 [.int 8] [] (124, I, J, R) (some (.int 1)) (124, I, J, R) := by
  refine ev_go 3 (pc1 := 3) (lv1 := [.int 8]) (st1 := [.int 1, .int 8, .int 8]) (h1 := (124, I, J, R)) rfl ?_
  refine ev_go 10 (pc1 := 17) (lv1 := [.int 4]) (st1 := [.int 2, .int 4, .int 0]) (h1 := (124, I, J, R)) rfl ?_
  refine ev_go 8 (pc1 := 27) (lv1 := [.int 1]) (st1 := [.int 4, .int 1, .int 1]) (h1 := (124, I, J, R)) rfl ?_
  refine ev_go 8 (pc1 := 38) (lv1 := [.int 1]) (st1 := [.int 8, .int 1, .int 1]) (h1 := (124, I, J, R)) rfl ?_
  refine ev_go 6 (pc1 := 45) (lv1 := [.int 1]) (st1 := [.int 16, .int 1, .int 1]) (h1 := (124, I, J, R)) rfl ?_
  refine ev_go 6 (pc1 := 52) (lv1 := [.int 1]) (st1 := [.int 1]) (h1 := (124, I, J, R)) rfl ?_
  exact ev_ret rfl rfl
set_option maxRecDepth 20000 in
theorem gb9 {L : Nat} {xs : Nat → Int32} {d : Nat} {I : Nat → Nat → Int32} {J : Nat → Nat → Int64} {R : Nat → Nat → Nat} (hG : aGd R)  : xEv L xs d 90 0 [.int 9] [] (124, I, J, R) (some (.int 2)) (124, I, J, R) := by
  refine ev_go 3 (pc1 := 3) (lv1 := [.int 9]) (st1 := [.int 1, .int 9, .int 9]) (h1 := (124, I, J, R)) rfl ?_
  refine ev_go 10 (pc1 := 17) (lv1 := [.int 5]) (st1 := [.int 2, .int 5, .int 1]) (h1 := (124, I, J, R)) rfl ?_
  refine ev_go 8 (pc1 := 27) (lv1 := [.int 2]) (st1 := [.int 4, .int 2, .int 2]) (h1 := (124, I, J, R)) rfl ?_
  refine ev_go 8 (pc1 := 38) (lv1 := [.int 2]) (st1 := [.int 8, .int 2, .int 2]) (h1 := (124, I, J, R)) rfl ?_
  refine ev_go 6 (pc1 := 45) (lv1 := [.int 2]) (st1 := [.int 16, .int 2, .int 2]) (h1 := (124, I, J, R)) rfl ?_
  refine ev_go 6 (pc1 := 52) (lv1 := [.int 2]) (st1 := [.int 2]) (h1 := (124, I, J, R)) rfl ?_
  exact ev_ret rfl rfl
set_option maxRecDepth 20000 in
theorem gb10 {L : Nat} {xs : Nat → Int32} {d : Nat} {I : Nat → Nat → Int32} {J : Nat → Nat → Int64} {R : Nat → Nat → Nat} (hG : aGd R)  : xEv L xs d 90 0 [.int 10] [] (124, I, J, R) (some (.int 2)) (124, I, J, R) := by
  refine ev_go 3 (pc1 := 3) (lv1 := [.int 10]) (st1 := [.int 1, .int 10, .int 10]) (h1 := (124, I, J, R)) rfl ?_
  refine ev_go 10 (pc1 := 17) (lv1 := [.int 5]) (st1 := [.int 2, .int 5, .int 1]) (h1 := (124, I, J, R)) rfl ?_
  refine ev_go 8 (pc1 := 27) (lv1 := [.int 2]) (st1 := [.int 4, .int 2, .int 2]) (h1 := (124, I, J, R)) rfl ?_
  refine ev_go 8 (pc1 := 38) (lv1 := [.int 2]) (st1 := [.int 8, .int 2, .int 2]) (h1 := (124, I, J, R)) rfl ?_
  refine ev_go 6 (pc1 := 45) (lv1 := [.int 2]) (st1 := [.int 16, .int 2, .int 2]) (h1 := (124, I, J, R)) rfl ?_
  refine ev_go 6 (pc1 := 52) (lv1 := [.int 2]) (st1 := [.int 2]) (h1 := (124, I, J, R)) rfl ?_
  exact ev_ret rfl rfl
set_option maxRecDepth 20000 in
theorem gb11 {L : Nat} {xs : Nat → Int32} {d : Nat} {I : Nat → Nat → Int32} {J : Nat → Nat → Int64} {R : Nat → Nat → Nat} (hG : aGd R)  : xEv L xs d 90 0 [.int 11] [] (124, I, J, R) (some (.int 3)) (124, I, J, R) := by
  refine ev_go 3 (pc1 := 3) (lv1 := [.int 11]) (st1 := [.int 1, .int 11, .int 11]) (h1 := (124, I, J, R)) rfl ?_
  refine ev_go 10 (pc1 := 17) (lv1 := [.int 6]) (st1 := [.int 2, .int 6, .int 2]) (h1 := (124, I, J, R)) rfl ?_
  refine ev_go 8 (pc1 := 27) (lv1 := [.int 3]) (st1 := [.int 4, .int 3, .int 3]) (h1 := (124, I, J, R)) rfl ?_
  refine ev_go 8 (pc1 := 38) (lv1 := [.int 3]) (st1 := [.int 8, .int 3, .int 3]) (h1 := (124, I, J, R)) rfl ?_
  refine ev_go 6 (pc1 := 45) (lv1 := [.int 3]) (st1 := [.int 16, .int 3, .int 3]) (h1 := (124, I, J, R)) rfl ?_
  refine ev_go 6 (pc1 := 52) (lv1 := [.int 3]) (st1 := [.int 3]) (h1 := (124, I, J, R)) rfl ?_
  exact ev_ret rfl rfl
set_option maxRecDepth 20000 in
theorem gb12 {L : Nat} {xs : Nat → Int32} {d : Nat} {I : Nat → Nat → Int32} {J : Nat → Nat → Int64} {R : Nat → Nat → Nat} (hG : aGd R)  : xEv L xs d 90 0 [.int 12] [] (124, I, J, R) (some (.int 2)) (124, I, J, R) := by
  refine ev_go 3 (pc1 := 3) (lv1 := [.int 12]) (st1 := [.int 1, .int 12, .int 12]) (h1 := (124, I, J, R)) rfl ?_
  refine ev_go 10 (pc1 := 17) (lv1 := [.int 8]) (st1 := [.int 2, .int 8, .int 0]) (h1 := (124, I, J, R)) rfl ?_
  refine ev_go 8 (pc1 := 27) (lv1 := [.int 2]) (st1 := [.int 4, .int 2, .int 2]) (h1 := (124, I, J, R)) rfl ?_
  refine ev_go 8 (pc1 := 38) (lv1 := [.int 2]) (st1 := [.int 8, .int 2, .int 2]) (h1 := (124, I, J, R)) rfl ?_
  refine ev_go 6 (pc1 := 45) (lv1 := [.int 2]) (st1 := [.int 16, .int 2, .int 2]) (h1 := (124, I, J, R)) rfl ?_
  refine ev_go 6 (pc1 := 52) (lv1 := [.int 2]) (st1 := [.int 2]) (h1 := (124, I, J, R)) rfl ?_
  exact ev_ret rfl rfl
set_option maxRecDepth 20000 in
theorem gb13 {L : Nat} {xs : Nat → Int32} {d : Nat} {I : Nat → Nat → Int32} {J : Nat → Nat → Int64} {R : Nat → Nat → Nat} (hG : aGd R)  : xEv L xs d 90 0 [.int 13] [] (124, I, J, R) (some (.int 3)) (124, I, J, R) := by
  refine ev_go 3 (pc1 := 3) (lv1 := [.int 13]) (st1 := [.int 1, .int 13, .int 13]) (h1 := (124, I, J, R)) rfl ?_
  refine ev_go 10 (pc1 := 17) (lv1 := [.int 9]) (st1 := [.int 2, .int 9, .int 1]) (h1 := (124, I, J, R)) rfl ?_
  refine ev_go 8 (pc1 := 27) (lv1 := [.int 3]) (st1 := [.int 4, .int 3, .int 3]) (h1 := (124, I, J, R)) rfl ?_
  refine ev_go 8 (pc1 := 38) (lv1 := [.int 3]) (st1 := [.int 8, .int 3, .int 3]) (h1 := (124, I, J, R)) rfl ?_
  refine ev_go 6 (pc1 := 45) (lv1 := [.int 3]) (st1 := [.int 16, .int 3, .int 3]) (h1 := (124, I, J, R)) rfl ?_
  refine ev_go 6 (pc1 := 52) (lv1 := [.int 3]) (st1 := [.int 3]) (h1 := (124, I, J, R)) rfl ?_
  exact ev_ret rfl rfl
set_option maxRecDepth 20000 in
theorem gb14 {L : Nat} {xs : Nat → Int32} {d : Nat} {I : Nat → Nat → Int32} {J : Nat → Nat → Int64} {R : Nat → Nat → Nat} (hG : aGd R)  : xEv L xs d 90 0 [.int 14] [] (124, I, J, R) (some (.int 3)) (124, I, J, R) := by
  refine ev_go 3 (pc1 := 3) (lv1 := [.int 14]) (st1 := [.int 1, .int 14, .int 14]) (h1 := (124, I, J, R)) rfl ?_
  refine ev_go 10 (pc1 := 17) (lv1 := [.int 9]) (st1 := [.int 2, .int 9, .int 1]) (h1 := (124, I, J, R)) rfl ?_
  refine ev_go 8 (pc1 := 27) (lv1 := [.int 3]) (st1 := [.int 4, .int 3, .int 3]) (h1 := (124, I, J, R)) rfl ?_
  refine ev_go 8 (pc1 := 38) (lv1 := [.int 3]) (st1 := [.int 8, .int 3, .int 3]) (h1 := (124, I, J, R)) rfl ?_
  refine ev_go 6 (pc1 := 45) (lv1 := [.int 3]) (st1 := [.int 16, .int 3, .int 3]) (h1 := (124, I, J, R)) rfl ?_
  refine ev_go 6 (pc1 := 52) (lv1 := [.int 3]) (st1 := [.int 3]) (h1 := (124, I, J, R)) rfl ?_
  exact ev_ret rfl rfl
set_option maxRecDepth 20000 in
theorem gb15 {L : Nat} {xs : Nat → Int32} {d : Nat} {I : Nat → Nat → Int32} {J : Nat → Nat → Int64} {R : Nat → Nat → Nat} (hG : aGd R)  : xEv L xs d 90 0 [.int 15] [] (124, I, J, R) (some (.int 4)) (124, I, J, R) := by
  refine ev_go 3 (pc1 := 3) (lv1 := [.int 15]) (st1 := [.int 1, .int 15, .int 15]) (h1 := (124, I, J, R)) rfl ?_
  refine ev_go 10 (pc1 := 17) (lv1 := [.int 10]) (st1 := [.int 2, .int 10, .int 2]) (h1 := (124, I, J, R)) rfl ?_
  refine ev_go 8 (pc1 := 27) (lv1 := [.int 4]) (st1 := [.int 4, .int 4, .int 4]) (h1 := (124, I, J, R)) rfl ?_
  refine ev_go 8 (pc1 := 38) (lv1 := [.int 4]) (st1 := [.int 8, .int 4, .int 4]) (h1 := (124, I, J, R)) rfl ?_
  refine ev_go 6 (pc1 := 45) (lv1 := [.int 4]) (st1 := [.int 16, .int 4, .int 4]) (h1 := (124, I, J, R)) rfl ?_
  refine ev_go 6 (pc1 := 52) (lv1 := [.int 4]) (st1 := [.int 4]) (h1 := (124, I, J, R)) rfl ?_
  exact ev_ret rfl rfl
/-- the set of the pieces that f has with q, and how many -/
def pcF (f : Nat → Int32) (q : Int32) : Nat → Int32
  | 0 => 0
  | n + 1 => if f n = q then pcF f q n ||| (1 <<< (Int32.ofNat n &&& 31)) else pcF f q n
def pcN (f : Nat → Int32) (q : Int32) : Nat → Nat
  | 0 => 0
  | n + 1 => if f n = q then pcN f q n + 1 else pcN f q n
theorem pcF_s (f : Nat → Int32) (q : Int32) (n : Nat) : pcF f q (n + 1) = if f n = q then pcF f q n ||| (1 <<< (Int32.ofNat n &&& 31)) else pcF f q n := rfl
theorem pcN_s (f : Nat → Int32) (q : Int32) (n : Nat) : pcN f q (n + 1) = if f n = q then pcN f q n + 1 else pcN f q n := rfl
theorem pcF_c {f g : Nat → Int32} {q : Int32} : ∀ n, (∀ k, k < n → f k = g k) → pcF f q n = pcF g q n ∧ pcN f q n = pcN g q n := by
  intro n
  induction n with
  | zero => exact fun _ => ⟨rfl, rfl⟩
  | succ n ih =>
    intro h
    obtain ⟨i1, i2⟩ := ih (fun k hk => h k (by omega))
    rw [pcF_s, pcF_s, pcN_s, pcN_s, i1, i2, h n (by omega)]
    exact ⟨rfl, rfl⟩
theorem pcF_x {f : Nat → Int32} {q : Int32} (n : Nat) : ∀ k, (∀ i, n ≤ i → i < n + k → f i ≠ q) → pcF f q (n + k) = pcF f q n ∧ pcN f q (n + k) = pcN f q n := by
  intro k
  induction k with
  | zero => exact fun _ => ⟨rfl, rfl⟩
  | succ k ih =>
    intro h
    obtain ⟨i1, i2⟩ := ih (fun i h1 h2 => h i h1 (by omega))
    have hn := h (n + k) (by omega) (by omega)
    rw [← Nat.add_assoc, pcF_s, pcN_s, if_neg hn, if_neg hn]
    exact ⟨i1, i2⟩
theorem pcN_b {f : Nat → Int32} {q : Int32} : ∀ n, pcN f q n ≤ n := by
  intro n
  induction n with
  | zero => exact Nat.le_refl _
  | succ n ih =>
    rw [pcN_s]
    split <;> omega
def pcB (k : Nat) : Nat := k % 2 + k / 2 % 2 + k / 4 % 2 + k / 8 % 2
theorem pc_4 (f : Nat → Int32) (q : Int32) : ∃ k, k < 16 ∧ pcF f q 4 = Int32.ofNat k ∧ pcN f q 4 = pcB k := by
  have F4 : pcF f q 4 = if f 3 = q then pcF f q 3 ||| (1 <<< (Int32.ofNat 3 &&& 31)) else pcF f q 3 := rfl
  have F3 : pcF f q 3 = if f 2 = q then pcF f q 2 ||| (1 <<< (Int32.ofNat 2 &&& 31)) else pcF f q 2 := rfl
  have F2 : pcF f q 2 = if f 1 = q then pcF f q 1 ||| (1 <<< (Int32.ofNat 1 &&& 31)) else pcF f q 1 := rfl
  have F1 : pcF f q 1 = if f 0 = q then (0 : Int32) ||| (1 <<< (Int32.ofNat 0 &&& 31)) else 0 := rfl
  have N4 : pcN f q 4 = if f 3 = q then pcN f q 3 + 1 else pcN f q 3 := rfl
  have N3 : pcN f q 3 = if f 2 = q then pcN f q 2 + 1 else pcN f q 2 := rfl
  have N2 : pcN f q 2 = if f 1 = q then pcN f q 1 + 1 else pcN f q 1 := rfl
  have N1 : pcN f q 1 = if f 0 = q then 0 + 1 else 0 := rfl
  rw [F4, F3, F2, F1, N4, N3, N2, N1]
  by_cases h0 : f 0 = q
  · by_cases h1 : f 1 = q
    · by_cases h2 : f 2 = q
      · by_cases h3 : f 3 = q
        · rw [if_pos h0, if_pos h1, if_pos h2, if_pos h3, if_pos h0, if_pos h1, if_pos h2, if_pos h3]; exact ⟨15, by decide, by decide, by decide⟩
        · rw [if_pos h0, if_pos h1, if_pos h2, if_neg h3, if_pos h0, if_pos h1, if_pos h2, if_neg h3]; exact ⟨7, by decide, by decide, by decide⟩
      · by_cases h3 : f 3 = q
        · rw [if_pos h0, if_pos h1, if_neg h2, if_pos h3, if_pos h0, if_pos h1, if_neg h2, if_pos h3]; exact ⟨11, by decide, by decide, by decide⟩
        · rw [if_pos h0, if_pos h1, if_neg h2, if_neg h3, if_pos h0, if_pos h1, if_neg h2, if_neg h3]; exact ⟨3, by decide, by decide, by decide⟩
    · by_cases h2 : f 2 = q
      · by_cases h3 : f 3 = q
        · rw [if_pos h0, if_neg h1, if_pos h2, if_pos h3, if_pos h0, if_neg h1, if_pos h2, if_pos h3]; exact ⟨13, by decide, by decide, by decide⟩
        · rw [if_pos h0, if_neg h1, if_pos h2, if_neg h3, if_pos h0, if_neg h1, if_pos h2, if_neg h3]; exact ⟨5, by decide, by decide, by decide⟩
      · by_cases h3 : f 3 = q
        · rw [if_pos h0, if_neg h1, if_neg h2, if_pos h3, if_pos h0, if_neg h1, if_neg h2, if_pos h3]; exact ⟨9, by decide, by decide, by decide⟩
        · rw [if_pos h0, if_neg h1, if_neg h2, if_neg h3, if_pos h0, if_neg h1, if_neg h2, if_neg h3]; exact ⟨1, by decide, by decide, by decide⟩
  · by_cases h1 : f 1 = q
    · by_cases h2 : f 2 = q
      · by_cases h3 : f 3 = q
        · rw [if_neg h0, if_pos h1, if_pos h2, if_pos h3, if_neg h0, if_pos h1, if_pos h2, if_pos h3]; exact ⟨14, by decide, by decide, by decide⟩
        · rw [if_neg h0, if_pos h1, if_pos h2, if_neg h3, if_neg h0, if_pos h1, if_pos h2, if_neg h3]; exact ⟨6, by decide, by decide, by decide⟩
      · by_cases h3 : f 3 = q
        · rw [if_neg h0, if_pos h1, if_neg h2, if_pos h3, if_neg h0, if_pos h1, if_neg h2, if_pos h3]; exact ⟨10, by decide, by decide, by decide⟩
        · rw [if_neg h0, if_pos h1, if_neg h2, if_neg h3, if_neg h0, if_pos h1, if_neg h2, if_neg h3]; exact ⟨2, by decide, by decide, by decide⟩
    · by_cases h2 : f 2 = q
      · by_cases h3 : f 3 = q
        · rw [if_neg h0, if_neg h1, if_pos h2, if_pos h3, if_neg h0, if_neg h1, if_pos h2, if_pos h3]; exact ⟨12, by decide, by decide, by decide⟩
        · rw [if_neg h0, if_neg h1, if_pos h2, if_neg h3, if_neg h0, if_neg h1, if_pos h2, if_neg h3]; exact ⟨4, by decide, by decide, by decide⟩
      · by_cases h3 : f 3 = q
        · rw [if_neg h0, if_neg h1, if_neg h2, if_pos h3, if_neg h0, if_neg h1, if_neg h2, if_pos h3]; exact ⟨8, by decide, by decide, by decide⟩
        · rw [if_neg h0, if_neg h1, if_neg h2, if_neg h3, if_neg h0, if_neg h1, if_neg h2, if_neg h3]; exact ⟨0, by decide, by decide, by decide⟩
theorem gb_run {L : Nat} {xs : Nat → Int32} {d : Nat} {I : Nat → Nat → Int32} {J : Nat → Nat → Int64} {R : Nat → Nat → Nat} (hG : aGd R) (f : Nat → Int32) (q : Int32) : ∃ c : Int32, xEv L xs d 90 0 [.int (pcF f q 4)] [] (124, I, J, R) (some (.int c)) (124, I, J, R) ∧ c.toInt = pcN f q 4 := by
  obtain ⟨k, hk, e1, e2⟩ := pc_4 f q
  rw [e1, e2]
  match k, hk with
  | 0, _ => exact ⟨0, gb0 hG, by decide⟩
  | 1, _ => exact ⟨1, gb1 hG, by decide⟩
  | 2, _ => exact ⟨1, gb2 hG, by decide⟩
  | 3, _ => exact ⟨2, gb3 hG, by decide⟩
  | 4, _ => exact ⟨1, gb4 hG, by decide⟩
  | 5, _ => exact ⟨2, gb5 hG, by decide⟩
  | 6, _ => exact ⟨2, gb6 hG, by decide⟩
  | 7, _ => exact ⟨3, gb7 hG, by decide⟩
  | 8, _ => exact ⟨1, gb8 hG, by decide⟩
  | 9, _ => exact ⟨2, gb9 hG, by decide⟩
  | 10, _ => exact ⟨2, gb10 hG, by decide⟩
  | 11, _ => exact ⟨3, gb11 hG, by decide⟩
  | 12, _ => exact ⟨2, gb12 hG, by decide⟩
  | 13, _ => exact ⟨3, gb13 hG, by decide⟩
  | 14, _ => exact ⟨3, gb14 hG, by decide⟩
  | 15, _ => exact ⟨4, gb15 hG, by decide⟩
  | k + 16, h => omega
theorem ofn_i {i : Int32} {k : Nat} (h : i.toInt = k) (hk : k < 31) : i = Int32.ofNat k := k_small h hk
theorem gp_run {L : Nat} {xs : Nat → Int32} {d : Nat} {I : Nat → Nat → Int32} {J : Nat → Nat → Int64} {R : Nat → Nat → Nat} (hG : aGd R) (q : Int32) : xEv L xs (d + 1) 125 0 [.ref 66, .int q, xmk, xmk] [] (124, I, J, R) (some (.int (pcF (I 67) q 4))) (124, I, J, R) := by
  have lp : ∀ (f k : Nat) (i : Int32), k + f = 4 → i.toInt = k → xEv L xs (d + 1) 125 4 [.ref 66, .int q, .int (pcF (I 67) q k), .int i] [] (124, I, J, R) (some (.int (pcF (I 67) q 4))) (124, I, J, R) := by
    intro f
    induction f with
    | zero =>
      intro k i hk ei
      have e : k = 4 := by omega
      rw [e]
      exact gp_e hG (by omega)
    | succ f ih =>
      intro k i hk ei
      have ec := clamp_s (i := i) (by omega)
      have eki : i.toNatClampNeg = k := by omega
      have ei' : (i + 1).toInt = (k + 1 : Nat) := by rw [i_add1 (by omega)]; omega
      have h4 := at_run (L := L) (xs := xs) (d := d) (h := (124, I, J, R)) (c := 67) (n := 4) (fun _ => rfl) (by decide) i
      rw [if_pos ⟨by omega, by omega⟩, eki] at h4
      have z := ih (k + 1) (i + 1) (by omega) ei'
      rw [pcF_s] at z
      by_cases h : I 67 k = q
      · rw [if_pos h, ← ofn_i ei (by omega)] at z
        exact gp_y hG (by omega) h4 (by show (I 67 k).toInt = q.toInt; rw [h]) z
      · rw [if_neg h] at z
        exact gp_n hG (by omega) h4 (fun e => h (Int32.toInt_inj.mp e)) z
  exact gp_s hG (lp 4 0 0 (by omega) (by decide))
theorem gh_run {L : Nat} {xs : Nat → Int32} {d : Nat} {I : Nat → Nat → Int32} {J : Nat → Nat → Int64} {R : Nat → Nat → Nat} (hG : aGd R) {nn : Nat} (h88 : (I 88 2).toInt = nn) (n4 : nn ≤ 4) (q : Int32) : xEv L xs d 226 0 [.ref 86, .int q, xmk, xmk] [] (124, I, J, R) (some (.int (pcF (fun n => I 121 (9 + n)) q nn))) (124, I, J, R) := by
  have lp : ∀ (f k : Nat) (i : Int32), k + f = nn → i.toInt = k → xEv L xs d 226 4 [.ref 86, .int q, .int (pcF (fun n => I 121 (9 + n)) q k), .int i] [] (124, I, J, R) (some (.int (pcF (fun n => I 121 (9 + n)) q nn))) (124, I, J, R) := by
    intro f
    induction f with
    | zero =>
      intro k i hk ei
      have e : k = nn := by omega
      rw [e]
      exact gh_e hG (by omega)
    | succ f ih =>
      intro k i hk ei
      have ei' : (i + 1).toInt = (k + 1 : Nat) := by rw [i_add1 (by omega)]; omega
      have e9 : (9 + i).toInt = (9 + k : Nat) := by rw [i_add (by rw [show (9 : Int32).toInt = 9 from by decide]; omega) (by rw [show (9 : Int32).toInt = 9 from by decide]; omega), show (9 : Int32).toInt = 9 from by decide]; omega
      have ec := clamp_s (i := 9 + i) (by omega)
      have eki : (9 + i).toNatClampNeg = 9 + k := by omega
      have z := ih (k + 1) (i + 1) (by omega) ei'
      rw [pcF_s] at z
      by_cases h : I 121 (9 + k) = q
      · rw [if_pos h, ← ofn_i ei (by omega)] at z
        exact gh_y hG (by omega) (by omega) (by omega) (by rw [eki, h]) z
      · rw [if_neg h] at z
        exact gh_n hG (by omega) (by omega) (by omega) (by rw [eki]; exact fun e => h (Int32.toInt_inj.mp e)) (by rw [Int32.or_zero]; exact z)
  exact gh_s hG (lp nn 0 0 (by omega) (by decide))
theorem gn_run {L : Nat} {xs : Nat → Int32} {d : Nat} {I : Nat → Nat → Int32} {J : Nat → Nat → Int64} {R : Nat → Nat → Nat} (hG : aGd R) {nn : Nat} (h88 : (I 88 2).toInt = nn) (n4 : nn ≤ 4) (q : Int32) : ∃ c : Int32, xEv L xs d 228 0 [.ref 86, .int q, xmk, xmk] [] (124, I, J, R) (some (.int c)) (124, I, J, R) ∧ c.toInt = pcN (fun n => I 121 (9 + n)) q nn := by
  have lp : ∀ (f k : Nat) (i st : Int32), k + f = nn → i.toInt = k → st.toInt = pcN (fun n => I 121 (9 + n)) q k → ∃ c : Int32, xEv L xs d 228 4 [.ref 86, .int q, .int st, .int i] [] (124, I, J, R) (some (.int c)) (124, I, J, R) ∧ c.toInt = pcN (fun n => I 121 (9 + n)) q nn := by
    intro f
    induction f with
    | zero =>
      intro k i st hk ei es
      have e : k = nn := by omega
      rw [e] at es
      exact ⟨st, gn_e hG (by omega), es⟩
    | succ f ih =>
      intro k i st hk ei es
      have ei' : (i + 1).toInt = (k + 1 : Nat) := by rw [i_add1 (by omega)]; omega
      have e9 : (9 + i).toInt = (9 + k : Nat) := by rw [i_add (by rw [show (9 : Int32).toInt = 9 from by decide]; omega) (by rw [show (9 : Int32).toInt = 9 from by decide]; omega), show (9 : Int32).toInt = 9 from by decide]; omega
      have ec := clamp_s (i := 9 + i) (by omega)
      have eki : (9 + i).toNatClampNeg = 9 + k := by omega
      have pb := pcN_b (f := fun n => I 121 (9 + n)) (q := q) k
      have ps := pcN_s (fun n => I 121 (9 + n)) q k
      by_cases h : I 121 (9 + k) = q
      · rw [if_pos h] at ps
        obtain ⟨c, z1, z2⟩ := ih (k + 1) (i + 1) (st + 1) (by omega) ei' (by rw [i_add1 (by omega), es, ps]; omega)
        exact ⟨c, gn_y hG (by omega) (by omega) (by omega) (by rw [eki, h]) z1, z2⟩
      · rw [if_neg h] at ps
        obtain ⟨c, z1, z2⟩ := ih (k + 1) (i + 1) st (by omega) ei' (by rw [es, ps])
        exact ⟨c, gn_n hG (by omega) (by omega) (by omega) (by rw [eki]; exact fun e => h (Int32.toInt_inj.mp e)) (by rw [Int32.add_zero]; exact z1), z2⟩
  obtain ⟨c, z1, z2⟩ := lp nn 0 0 0 (by omega) (by decide) rfl
  exact ⟨c, gn_s hG z1, z2⟩
