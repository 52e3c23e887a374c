set_option maxRecDepth 20000 in
theorem mtD50_3 {L : Nat} {xs : Nat → Int32} {d : Nat} {I : Nat → Nat → Int32} {J : Nat → Nat → Int64} {R : Nat → Nat → Nat} {u1 u2 u3 u4 : Value} (hG : aGd R) (b1 : (I 43 2).toInt ≠ 0) : xEv L xs d 34 50 [.ref 43, u1, u2, u3, u4] [] (124, I, J, R) none (124, I, J, R) := by
  refine ev_go 2 (pc1 := 54) (lv1 := [.ref 43, u1, u2, u3, u4]) (st1 := [.int (I 43 2)]) (h1 := (124, I, J, R)) rfl ?_
  refine ev_br (b1 := true) rfl rfl (xcd_ne (x := (I 43 2)) (y := 0) (by rw [show ((0 : Int32)).toInt = 0 from by decide]; first | exact b1 | omega)) ?_
  exact ev_ret rfl rfl
set_option maxRecDepth 20000 in
theorem mtD37_3 {L : Nat} {xs : Nat → Int32} {d : Nat} {I : Nat → Nat → Int32} {J : Nat → Nat → Int64} {R : Nat → Nat → Nat} {a c y z : Int32} {u4 : Value} (hG : aGd R) (c1 : xEv L xs d 31 0 [.ref 43, .retAddr 5, .int 1, .int 10, .int 10, xmk] [] (124, I, J, R) (some (.int z)) (124, I, J, R)) {v : Option Value} {h' : xH} (hk : xEv L xs (d + 1) 34 50 [.ref 43, .int a, .int c, .int y, .int z] [] (124, I, J, R) v h') : xEv L xs (d + 1) 34 37 [.ref 43, .int a, .int c, .int y, u4] [] (124, I, J, R) v h' := by
  refine ev_go 5 (pc1 := 45) (lv1 := [.ref 43, .int a, .int c, .int y, u4]) (st1 := [.int 10, .int 10, .int 1, .retAddr 5, .ref 43]) (h1 := (124, I, J, R)) rfl ?_
  refine ev_call (v1 := (some (.int z))) (h1 := (124, I, J, R)) rfl rfl c1 ?_
  refine ev_go 1 (pc1 := 50) (lv1 := [.ref 43, .int a, .int c, .int y, .int z]) (st1 := []) (h1 := (124, I, J, R)) rfl ?_
  exact hk
set_option maxRecDepth 20000 in
theorem mtD29_3 {L : Nat} {xs : Nat → Int32} {d : Nat} {I : Nat → Nat → Int32} {J : Nat → Nat → Int64} {R : Nat → Nat → Nat} {a c y : Int32} {u3 u4 : Value} (hG : aGd R) (c1 : xEv L xs d 30 0 [.ref 43, .int 0, .int 23, xmk, xmk] [] (124, I, J, R) (some (.int y)) (124, I, J, R)) {v : Option Value} {h' : xH} (hk : xEv L xs (d + 1) 34 37 [.ref 43, .int a, .int c, .int y, u4] [] (124, I, J, R) v h') : xEv L xs (d + 1) 34 29 [.ref 43, .int a, .int c, u3, u4] [] (124, I, J, R) v h' := by
  refine ev_go 3 (pc1 := 33) (lv1 := [.ref 43, .int a, .int c, u3, u4]) (st1 := [.int 23, .int 0, .ref 43]) (h1 := (124, I, J, R)) rfl ?_
  refine ev_call (v1 := (some (.int y))) (h1 := (124, I, J, R)) rfl rfl c1 ?_
  refine ev_go 1 (pc1 := 37) (lv1 := [.ref 43, .int a, .int c, .int y, u4]) (st1 := []) (h1 := (124, I, J, R)) rfl ?_
  exact hk
set_option maxRecDepth 20000 in
theorem mtD23_3 {L : Nat} {xs : Nat → Int32} {d : Nat} {I : Nat → Nat → Int32} {J : Nat → Nat → Int64} {R : Nat → Nat → Nat} {a c : Int32} {u2 u3 u4 : Value} (hG : aGd R) (c1 : xEv L xs d 35 0 [.ref 43, .int a, xmk] [] (124, I, J, R) (some (.int c)) (124, I, J, R)) {v : Option Value} {h' : xH} (hk : xEv L xs (d + 1) 34 29 [.ref 43, .int a, .int c, u3, u4] [] (124, I, J, R) v h') : xEv L xs (d + 1) 34 23 [.ref 43, .int a, u2, u3, u4] [] (124, I, J, R) v h' := by
  refine ev_go 2 (pc1 := 25) (lv1 := [.ref 43, .int a, u2, u3, u4]) (st1 := [.int a, .ref 43]) (h1 := (124, I, J, R)) rfl ?_
  refine ev_call (v1 := (some (.int c))) (h1 := (124, I, J, R)) rfl rfl c1 ?_
  refine ev_go 1 (pc1 := 29) (lv1 := [.ref 43, .int a, .int c, u3, u4]) (st1 := []) (h1 := (124, I, J, R)) rfl ?_
  exact hk
set_option maxRecDepth 20000 in
theorem mtD17_3 {L : Nat} {xs : Nat → Int32} {d : Nat} {I : Nat → Nat → Int32} {J : Nat → Nat → Int64} {R : Nat → Nat → Nat} {a : Int32} {u1 u2 u3 u4 : Value} (hG : aGd R) (c1 : xEv L xs d 35 0 [.ref 43, .int (-1), xmk] [] (124, I, J, R) (some (.int a)) (124, I, J, R)) {v : Option Value} {h' : xH} (hk : xEv L xs (d + 1) 34 23 [.ref 43, .int a, u2, u3, u4] [] (124, I, J, R) v h') : xEv L xs (d + 1) 34 17 [.ref 43, u1, u2, u3, u4] [] (124, I, J, R) v h' := by
  refine ev_go 2 (pc1 := 19) (lv1 := [.ref 43, u1, u2, u3, u4]) (st1 := [.int (-1), .ref 43]) (h1 := (124, I, J, R)) rfl ?_
  refine ev_call (v1 := (some (.int a))) (h1 := (124, I, J, R)) rfl rfl c1 ?_
  refine ev_go 1 (pc1 := 23) (lv1 := [.ref 43, .int a, u2, u3, u4]) (st1 := []) (h1 := (124, I, J, R)) rfl ?_
  exact hk
set_option maxRecDepth 20000 in
theorem mtA0_3 {L : Nat} {xs : Nat → Int32} {d : Nat} {I : Nat → Nat → Int32} {J : Nat → Nat → Int64} {R : Nat → Nat → Nat} (hG : aGd R) (r_R_43_1 : R 43 1 = 4) (b1 : (I 3 15).toInt < 16) {v : Option Value} {h' : xH} (hk : xEv L xs d 34 17 [.ref 43, xmk, xmk, xmk, xmk] [] (124, I, J, R) v h') : xEv L xs d 34 0 [.ref 43, xmk, xmk, xmk, xmk] [] (124, I, J, R) v h' := by
  refine ev_go 1 (pc1 := 1) (lv1 := [.ref 43, xmk, xmk, xmk, xmk]) (st1 := [.ref 43]) (h1 := (124, I, J, R)) rfl ?_
  refine ev_gf (c := 43) (t := 3) (X := R 43 1) rfl rfl (fun _ => rfl) rfl r_R_43_1 ?_
  refine ev_go 2 (pc1 := 9) (lv1 := [.ref 43, xmk, xmk, xmk, xmk]) (st1 := [.int 16, .int (I 3 15)]) (h1 := (124, I, J, R)) rfl ?_
  refine ev_br (b1 := true) rfl rfl (xcd_lt (x := (I 3 15)) (y := 16) (by rw [show ((16 : Int32)).toInt = 16 from by decide]; first | exact b1 | omega)) ?_
  exact hk
set_option maxRecDepth 20000 in
theorem mtA0f_3 {L : Nat} {xs : Nat → Int32} {d : Nat} {I : Nat → Nat → Int32} {J : Nat → Nat → Int64} {R : Nat → Nat → Nat} (hG : aGd R) (r_R_43_1 : R 43 1 = 4) (b1 : (I 3 15).toInt ≥ 16) (c1 : xEv L xs d 27 0 [.ref 43, .int 4] [] (124, I, J, R) none (124, (uI (uI I 43 2 4) 43 3 (I 1 4)), J, R)) {v : Option Value} {h' : xH} (hk : xEv L xs (d + 1) 34 17 [.ref 43, xmk, xmk, xmk, xmk] [] (124, (uI (uI I 43 2 4) 43 3 (I 1 4)), J, R) v h') : xEv L xs (d + 1) 34 0 [.ref 43, xmk, xmk, xmk, xmk] [] (124, I, J, R) v h' := by
  refine ev_go 1 (pc1 := 1) (lv1 := [.ref 43, xmk, xmk, xmk, xmk]) (st1 := [.ref 43]) (h1 := (124, I, J, R)) rfl ?_
  refine ev_gf (c := 43) (t := 3) (X := R 43 1) rfl rfl (fun _ => rfl) rfl r_R_43_1 ?_
  refine ev_go 2 (pc1 := 9) (lv1 := [.ref 43, xmk, xmk, xmk, xmk]) (st1 := [.int 16, .int (I 3 15)]) (h1 := (124, I, J, R)) rfl ?_
  refine ev_br (b1 := false) rfl rfl (xcd_nlt (x := (I 3 15)) (y := 16) (by rw [show ((16 : Int32)).toInt = 16 from by decide]; first | exact b1 | omega)) ?_
  refine ev_go 2 (pc1 := 14) (lv1 := [.ref 43, xmk, xmk, xmk, xmk]) (st1 := [.int 4, .ref 43]) (h1 := (124, I, J, R)) rfl ?_
  refine ev_call (v1 := none) (h1 := (124, (uI (uI I 43 2 4) 43 3 (I 1 4)), J, R)) rfl rfl c1 ?_
  exact hk
set_option maxRecDepth 20000 in
theorem mtA17_3 {L : Nat} {xs : Nat → Int32} {d : Nat} {I : Nat → Nat → Int32} {J : Nat → Nat → Int64} {R : Nat → Nat → Nat} {I1 : Nat → Nat → Int32} {J1 : Nat → Nat → Int64} {a : Int32} (hG : aGd R) (c1 : xEv L xs d 35 0 [.ref 43, .int (-1), xmk] [] (124, I, J, R) (some (.int a)) (124, I1, J1, R)) {v : Option Value} {h' : xH} (hk : xEv L xs (d + 1) 34 23 [.ref 43, .int a, xmk, xmk, xmk] [] (124, I1, J1, R) v h') : xEv L xs (d + 1) 34 17 [.ref 43, xmk, xmk, xmk, xmk] [] (124, I, J, R) v h' := by
  refine ev_go 2 (pc1 := 19) (lv1 := [.ref 43, xmk, xmk, xmk, xmk]) (st1 := [.int (-1), .ref 43]) (h1 := (124, I, J, R)) rfl ?_
  refine ev_call (v1 := (some (.int a))) (h1 := (124, I1, J1, R)) rfl rfl c1 ?_
  refine ev_go 1 (pc1 := 23) (lv1 := [.ref 43, .int a, xmk, xmk, xmk]) (st1 := []) (h1 := (124, I1, J1, R)) rfl ?_
  exact hk
set_option maxRecDepth 20000 in
theorem mtA23_3 {L : Nat} {xs : Nat → Int32} {d : Nat} {I : Nat → Nat → Int32} {J : Nat → Nat → Int64} {R : Nat → Nat → Nat} {I1 : Nat → Nat → Int32} {J1 : Nat → Nat → Int64} {a c : Int32} (hG : aGd R) (c1 : xEv L xs d 35 0 [.ref 43, .int a, xmk] [] (124, I, J, R) (some (.int c)) (124, I1, J1, R)) {v : Option Value} {h' : xH} (hk : xEv L xs (d + 1) 34 29 [.ref 43, .int a, .int c, xmk, xmk] [] (124, I1, J1, R) v h') : xEv L xs (d + 1) 34 23 [.ref 43, .int a, xmk, xmk, xmk] [] (124, I, J, R) v h' := by
  refine ev_go 2 (pc1 := 25) (lv1 := [.ref 43, .int a, xmk, xmk, xmk]) (st1 := [.int a, .ref 43]) (h1 := (124, I, J, R)) rfl ?_
  refine ev_call (v1 := (some (.int c))) (h1 := (124, I1, J1, R)) rfl rfl c1 ?_
  refine ev_go 1 (pc1 := 29) (lv1 := [.ref 43, .int a, .int c, xmk, xmk]) (st1 := []) (h1 := (124, I1, J1, R)) rfl ?_
  exact hk
set_option maxRecDepth 20000 in
theorem mtA29_3 {L : Nat} {xs : Nat → Int32} {d : Nat} {I : Nat → Nat → Int32} {J : Nat → Nat → Int64} {R : Nat → Nat → Nat} {I1 : Nat → Nat → Int32} {J1 : Nat → Nat → Int64} {a c y : Int32} (hG : aGd R) (c1 : xEv L xs d 30 0 [.ref 43, .int 0, .int 23, xmk, xmk] [] (124, I, J, R) (some (.int y)) (124, I1, J1, R)) {v : Option Value} {h' : xH} (hk : xEv L xs (d + 1) 34 37 [.ref 43, .int a, .int c, .int y, xmk] [] (124, I1, J1, R) v h') : xEv L xs (d + 1) 34 29 [.ref 43, .int a, .int c, xmk, xmk] [] (124, I, J, R) v h' := by
  refine ev_go 3 (pc1 := 33) (lv1 := [.ref 43, .int a, .int c, xmk, xmk]) (st1 := [.int 23, .int 0, .ref 43]) (h1 := (124, I, J, R)) rfl ?_
  refine ev_call (v1 := (some (.int y))) (h1 := (124, I1, J1, R)) rfl rfl c1 ?_
  refine ev_go 1 (pc1 := 37) (lv1 := [.ref 43, .int a, .int c, .int y, xmk]) (st1 := []) (h1 := (124, I1, J1, R)) rfl ?_
  exact hk
set_option maxRecDepth 20000 in
theorem mtA37_3 {L : Nat} {xs : Nat → Int32} {d : Nat} {I : Nat → Nat → Int32} {J : Nat → Nat → Int64} {R : Nat → Nat → Nat} {I1 : Nat → Nat → Int32} {J1 : Nat → Nat → Int64} {a c y x : Int32} (hG : aGd R) (c1 : xEv L xs d 31 0 [.ref 43, .retAddr 5, .int 1, .int 10, .int 10, xmk] [] (124, I, J, R) (some (.int x)) (124, I1, J1, R)) {v : Option Value} {h' : xH} (hk : xEv L xs (d + 1) 34 50 [.ref 43, .int a, .int c, .int y, .int x] [] (124, I1, J1, R) v h') : xEv L xs (d + 1) 34 37 [.ref 43, .int a, .int c, .int y, xmk] [] (124, I, J, R) v h' := by
  refine ev_go 5 (pc1 := 45) (lv1 := [.ref 43, .int a, .int c, .int y, xmk]) (st1 := [.int 10, .int 10, .int 1, .retAddr 5, .ref 43]) (h1 := (124, I, J, R)) rfl ?_
  refine ev_call (v1 := (some (.int x))) (h1 := (124, I1, J1, R)) rfl rfl c1 ?_
  refine ev_go 1 (pc1 := 50) (lv1 := [.ref 43, .int a, .int c, .int y, .int x]) (st1 := []) (h1 := (124, I1, J1, R)) rfl ?_
  exact hk
set_option maxRecDepth 20000 in
theorem mtA50_3 {L : Nat} {xs : Nat → Int32} {d : Nat} {I : Nat → Nat → Int32} {J : Nat → Nat → Int64} {R : Nat → Nat → Nat} {I1 : Nat → Nat → Int32} {J1 : Nat → Nat → Int64} {a c y x : Int32} (hG : aGd R) (b1 : (I 43 2).toInt = 0) (r_R_43_1 : R 43 1 = 4) (c1 : xEv L xs d 36 0 [.ref 3, .int a, .int c, .int y, .int x] [] (124, I, J, R) none (124, I1, J1, R)) : xEv L xs (d + 1) 34 50 [.ref 43, .int a, .int c, .int y, .int x] [] (124, I, J, R) none (124, I1, J1, R) := by
  refine ev_go 2 (pc1 := 54) (lv1 := [.ref 43, .int a, .int c, .int y, .int x]) (st1 := [.int (I 43 2)]) (h1 := (124, I, J, R)) rfl ?_
  refine ev_br (b1 := false) rfl rfl (xcd_nne (x := (I 43 2)) (y := 0) (by rw [show ((0 : Int32)).toInt = 0 from by decide]; first | exact b1 | omega)) ?_
  refine ev_go 1 (pc1 := 58) (lv1 := [.ref 43, .int a, .int c, .int y, .int x]) (st1 := [.ref 43]) (h1 := (124, I, J, R)) rfl ?_
  refine ev_gf (c := 43) (t := 3) (X := R 43 1) rfl rfl (fun _ => rfl) rfl r_R_43_1 ?_
  refine ev_go 4 (pc1 := 66) (lv1 := [.ref 43, .int a, .int c, .int y, .int x]) (st1 := [.int x, .int y, .int c, .int a, .ref 3]) (h1 := (124, I, J, R)) rfl ?_
  refine ev_call (v1 := none) (h1 := (124, I1, J1, R)) rfl rfl c1 ?_
  exact ev_ret rfl rfl
set_option maxRecDepth 20000 in
theorem am_3 {L : Nat} {xs : Nat → Int32} {d : Nat} {I : Nat → Nat → Int32} {J : Nat → Nat → Int64} {R : Nat → Nat → Nat} {a c y x : Int32} (hG : aGd R) (c1 : xEv L xs d 33 0 [.ref 7, .int (I 3 15), .int a] [] (124, I, J, R) none (124, (uI I 7 (I 3 15).toNatClampNeg a), J, R)) (c2 : xEv L xs d 33 0 [.ref 8, .int (I 3 15), .int c] [] (124, (uI I 7 (I 3 15).toNatClampNeg a), J, R) none (124, (uI (uI I 7 (I 3 15).toNatClampNeg a) 8 (I 3 15).toNatClampNeg c), J, R)) (c3 : xEv L xs d 33 0 [.ref 9, .int (I 3 15), .int y] [] (124, (uI (uI I 7 (I 3 15).toNatClampNeg a) 8 (I 3 15).toNatClampNeg c), J, R) none (124, (uI (uI (uI I 7 (I 3 15).toNatClampNeg a) 8 (I 3 15).toNatClampNeg c) 9 (I 3 15).toNatClampNeg y), J, R)) (c4 : xEv L xs d 33 0 [.ref 10, .int (I 3 15), .int x] [] (124, (uI (uI (uI I 7 (I 3 15).toNatClampNeg a) 8 (I 3 15).toNatClampNeg c) 9 (I 3 15).toNatClampNeg y), J, R) none (124, (uI (uI (uI (uI I 7 (I 3 15).toNatClampNeg a) 8 (I 3 15).toNatClampNeg c) 9 (I 3 15).toNatClampNeg y) 10 (I 3 15).toNatClampNeg x), J, R)) : xEv L xs (d + 1) 36 0 [.ref 3, .int a, .int c, .int y, .int x] [] (124, I, J, R) none (124, (uI (uI (uI (uI (uI I 7 (I 3 15).toNatClampNeg a) 8 (I 3 15).toNatClampNeg c) 9 (I 3 15).toNatClampNeg y) 10 (I 3 15).toNatClampNeg x) 3 15 ((I 3 15) + 1)), J, R) := by
  refine ev_go 1 (pc1 := 1) (lv1 := [.ref 3, .int a, .int c, .int y, .int x]) (st1 := [.ref 3]) (h1 := (124, I, J, R)) rfl ?_
  refine ev_gf (c := 3) (t := 7) (X := R 3 3) rfl rfl (fun _ => rfl) rfl (hG 3 3 7 rfl rfl) ?_
  refine ev_go 3 (pc1 := 9) (lv1 := [.ref 3, .int a, .int c, .int y, .int x]) (st1 := [.int a, .int (I 3 15), .ref 7]) (h1 := (124, I, J, R)) rfl ?_
  refine ev_call (v1 := none) (h1 := (124, (uI I 7 (I 3 15).toNatClampNeg a), J, R)) rfl rfl c1 ?_
  refine ev_go 1 (pc1 := 13) (lv1 := [.ref 3, .int a, .int c, .int y, .int x]) (st1 := [.ref 3]) (h1 := (124, (uI I 7 (I 3 15).toNatClampNeg a), J, R)) rfl ?_
  refine ev_gf (c := 3) (t := 8) (X := R 3 4) rfl rfl (fun _ => rfl) rfl (hG 3 4 8 rfl rfl) ?_
  refine ev_go 3 (pc1 := 21) (lv1 := [.ref 3, .int a, .int c, .int y, .int x]) (st1 := [.int c, .int (I 3 15), .ref 8]) (h1 := (124, (uI I 7 (I 3 15).toNatClampNeg a), J, R)) rfl ?_
  refine ev_call (v1 := none) (h1 := (124, (uI (uI I 7 (I 3 15).toNatClampNeg a) 8 (I 3 15).toNatClampNeg c), J, R)) rfl rfl c2 ?_
  refine ev_go 1 (pc1 := 25) (lv1 := [.ref 3, .int a, .int c, .int y, .int x]) (st1 := [.ref 3]) (h1 := (124, (uI (uI I 7 (I 3 15).toNatClampNeg a) 8 (I 3 15).toNatClampNeg c), J, R)) rfl ?_
  refine ev_gf (c := 3) (t := 9) (X := R 3 5) rfl rfl (fun _ => rfl) rfl (hG 3 5 9 rfl rfl) ?_
  refine ev_go 3 (pc1 := 33) (lv1 := [.ref 3, .int a, .int c, .int y, .int x]) (st1 := [.int y, .int (I 3 15), .ref 9]) (h1 := (124, (uI (uI I 7 (I 3 15).toNatClampNeg a) 8 (I 3 15).toNatClampNeg c), J, R)) rfl ?_
  refine ev_call (v1 := none) (h1 := (124, (uI (uI (uI I 7 (I 3 15).toNatClampNeg a) 8 (I 3 15).toNatClampNeg c) 9 (I 3 15).toNatClampNeg y), J, R)) rfl rfl c3 ?_
  refine ev_go 1 (pc1 := 37) (lv1 := [.ref 3, .int a, .int c, .int y, .int x]) (st1 := [.ref 3]) (h1 := (124, (uI (uI (uI I 7 (I 3 15).toNatClampNeg a) 8 (I 3 15).toNatClampNeg c) 9 (I 3 15).toNatClampNeg y), J, R)) rfl ?_
  refine ev_gf (c := 3) (t := 10) (X := R 3 6) rfl rfl (fun _ => rfl) rfl (hG 3 6 10 rfl rfl) ?_
  refine ev_go 3 (pc1 := 46) (lv1 := [.ref 3, .int a, .int c, .int y, .int x]) (st1 := [.int x, .int (I 3 15), .ref 10]) (h1 := (124, (uI (uI (uI I 7 (I 3 15).toNatClampNeg a) 8 (I 3 15).toNatClampNeg c) 9 (I 3 15).toNatClampNeg y), J, R)) rfl ?_
  refine ev_call (v1 := none) (h1 := (124, (uI (uI (uI (uI I 7 (I 3 15).toNatClampNeg a) 8 (I 3 15).toNatClampNeg c) 9 (I 3 15).toNatClampNeg y) 10 (I 3 15).toNatClampNeg x), J, R)) rfl rfl c4 ?_
  refine ev_go 6 (pc1 := 59) (lv1 := [.ref 3, .int a, .int c, .int y, .int x]) (st1 := []) (h1 := (124, (uI (uI (uI (uI (uI I 7 (I 3 15).toNatClampNeg a) 8 (I 3 15).toNatClampNeg c) 9 (I 3 15).toNatClampNeg y) 10 (I 3 15).toNatClampNeg x) 3 15 ((I 3 15) + 1)), J, R)) rfl ?_
  exact ev_ret rfl rfl
set_option maxRecDepth 20000 in
theorem mtD50_23 {L : Nat} {xs : Nat → Int32} {d : Nat} {I : Nat → Nat → Int32} {J : Nat → Nat → Int64} {R : Nat → Nat → Nat} {u1 u2 u3 u4 : Value} (hG : aGd R) (b1 : (I 43 2).toInt ≠ 0) : xEv L xs d 34 50 [.ref 43, u1, u2, u3, u4] [] (124, I, J, R) none (124, I, J, R) := by
  refine ev_go 2 (pc1 := 54) (lv1 := [.ref 43, u1, u2, u3, u4]) (st1 := [.int (I 43 2)]) (h1 := (124, I, J, R)) rfl ?_
  refine ev_br (b1 := true) rfl rfl (xcd_ne (x := (I 43 2)) (y := 0) (by rw [show ((0 : Int32)).toInt = 0 from by decide]; first | exact b1 | omega)) ?_
  exact ev_ret rfl rfl
set_option maxRecDepth 20000 in
theorem mtD37_23 {L : Nat} {xs : Nat → Int32} {d : Nat} {I : Nat → Nat → Int32} {J : Nat → Nat → Int64} {R : Nat → Nat → Nat} {a c y z : Int32} {u4 : Value} (hG : aGd R) (c1 : xEv L xs d 31 0 [.ref 43, .retAddr 5, .int 1, .int 10, .int 10, xmk] [] (124, I, J, R) (some (.int z)) (124, I, J, R)) {v : Option Value} {h' : xH} (hk : xEv L xs (d + 1) 34 50 [.ref 43, .int a, .int c, .int y, .int z] [] (124, I, J, R) v h') : xEv L xs (d + 1) 34 37 [.ref 43, .int a, .int c, .int y, u4] [] (124, I, J, R) v h' := by
  refine ev_go 5 (pc1 := 45) (lv1 := [.ref 43, .int a, .int c, .int y, u4]) (st1 := [.int 10, .int 10, .int 1, .retAddr 5, .ref 43]) (h1 := (124, I, J, R)) rfl ?_
  refine ev_call (v1 := (some (.int z))) (h1 := (124, I, J, R)) rfl rfl c1 ?_
  refine ev_go 1 (pc1 := 50) (lv1 := [.ref 43, .int a, .int c, .int y, .int z]) (st1 := []) (h1 := (124, I, J, R)) rfl ?_
  exact hk
set_option maxRecDepth 20000 in
theorem mtD29_23 {L : Nat} {xs : Nat → Int32} {d : Nat} {I : Nat → Nat → Int32} {J : Nat → Nat → Int64} {R : Nat → Nat → Nat} {a c y : Int32} {u3 u4 : Value} (hG : aGd R) (c1 : xEv L xs d 30 0 [.ref 43, .int 0, .int 23, xmk, xmk] [] (124, I, J, R) (some (.int y)) (124, I, J, R)) {v : Option Value} {h' : xH} (hk : xEv L xs (d + 1) 34 37 [.ref 43, .int a, .int c, .int y, u4] [] (124, I, J, R) v h') : xEv L xs (d + 1) 34 29 [.ref 43, .int a, .int c, u3, u4] [] (124, I, J, R) v h' := by
  refine ev_go 3 (pc1 := 33) (lv1 := [.ref 43, .int a, .int c, u3, u4]) (st1 := [.int 23, .int 0, .ref 43]) (h1 := (124, I, J, R)) rfl ?_
  refine ev_call (v1 := (some (.int y))) (h1 := (124, I, J, R)) rfl rfl c1 ?_
  refine ev_go 1 (pc1 := 37) (lv1 := [.ref 43, .int a, .int c, .int y, u4]) (st1 := []) (h1 := (124, I, J, R)) rfl ?_
  exact hk
set_option maxRecDepth 20000 in
theorem mtD23_23 {L : Nat} {xs : Nat → Int32} {d : Nat} {I : Nat → Nat → Int32} {J : Nat → Nat → Int64} {R : Nat → Nat → Nat} {a c : Int32} {u2 u3 u4 : Value} (hG : aGd R) (c1 : xEv L xs d 35 0 [.ref 43, .int a, xmk] [] (124, I, J, R) (some (.int c)) (124, I, J, R)) {v : Option Value} {h' : xH} (hk : xEv L xs (d + 1) 34 29 [.ref 43, .int a, .int c, u3, u4] [] (124, I, J, R) v h') : xEv L xs (d + 1) 34 23 [.ref 43, .int a, u2, u3, u4] [] (124, I, J, R) v h' := by
  refine ev_go 2 (pc1 := 25) (lv1 := [.ref 43, .int a, u2, u3, u4]) (st1 := [.int a, .ref 43]) (h1 := (124, I, J, R)) rfl ?_
  refine ev_call (v1 := (some (.int c))) (h1 := (124, I, J, R)) rfl rfl c1 ?_
  refine ev_go 1 (pc1 := 29) (lv1 := [.ref 43, .int a, .int c, u3, u4]) (st1 := []) (h1 := (124, I, J, R)) rfl ?_
  exact hk
set_option maxRecDepth 20000 in
theorem mtD17_23 {L : Nat} {xs : Nat → Int32} {d : Nat} {I : Nat → Nat → Int32} {J : Nat → Nat → Int64} {R : Nat → Nat → Nat} {a : Int32} {u1 u2 u3 u4 : Value} (hG : aGd R) (c1 : xEv L xs d 35 0 [.ref 43, .int (-1), xmk] [] (124, I, J, R) (some (.int a)) (124, I, J, R)) {v : Option Value} {h' : xH} (hk : xEv L xs (d + 1) 34 23 [.ref 43, .int a, u2, u3, u4] [] (124, I, J, R) v h') : xEv L xs (d + 1) 34 17 [.ref 43, u1, u2, u3, u4] [] (124, I, J, R) v h' := by
  refine ev_go 2 (pc1 := 19) (lv1 := [.ref 43, u1, u2, u3, u4]) (st1 := [.int (-1), .ref 43]) (h1 := (124, I, J, R)) rfl ?_
  refine ev_call (v1 := (some (.int a))) (h1 := (124, I, J, R)) rfl rfl c1 ?_
  refine ev_go 1 (pc1 := 23) (lv1 := [.ref 43, .int a, u2, u3, u4]) (st1 := []) (h1 := (124, I, J, R)) rfl ?_
  exact hk
set_option maxRecDepth 20000 in
theorem mtA0_23 {L : Nat} {xs : Nat → Int32} {d : Nat} {I : Nat → Nat → Int32} {J : Nat → Nat → Int64} {R : Nat → Nat → Nat} (hG : aGd R) (r_R_43_1 : R 43 1 = 24) (b1 : (I 23 15).toInt < 16) {v : Option Value} {h' : xH} (hk : xEv L xs d 34 17 [.ref 43, xmk, xmk, xmk, xmk] [] (124, I, J, R) v h') : xEv L xs d 34 0 [.ref 43, xmk, xmk, xmk, xmk] [] (124, I, J, R) v h' := by
  refine ev_go 1 (pc1 := 1) (lv1 := [.ref 43, xmk, xmk, xmk, xmk]) (st1 := [.ref 43]) (h1 := (124, I, J, R)) rfl ?_
  refine ev_gf (c := 43) (t := 23) (X := R 43 1) rfl rfl (fun _ => rfl) rfl r_R_43_1 ?_
  refine ev_go 2 (pc1 := 9) (lv1 := [.ref 43, xmk, xmk, xmk, xmk]) (st1 := [.int 16, .int (I 23 15)]) (h1 := (124, I, J, R)) rfl ?_
  refine ev_br (b1 := true) rfl rfl (xcd_lt (x := (I 23 15)) (y := 16) (by rw [show ((16 : Int32)).toInt = 16 from by decide]; first | exact b1 | omega)) ?_
  exact hk
set_option maxRecDepth 20000 in
theorem mtA0f_23 {L : Nat} {xs : Nat → Int32} {d : Nat} {I : Nat → Nat → Int32} {J : Nat → Nat → Int64} {R : Nat → Nat → Nat} (hG : aGd R) (r_R_43_1 : R 43 1 = 24) (b1 : (I 23 15).toInt ≥ 16) (c1 : xEv L xs d 27 0 [.ref 43, .int 4] [] (124, I, J, R) none (124, (uI (uI I 43 2 4) 43 3 (I 1 4)), J, R)) {v : Option Value} {h' : xH} (hk : xEv L xs (d + 1) 34 17 [.ref 43, xmk, xmk, xmk, xmk] [] (124, (uI (uI I 43 2 4) 43 3 (I 1 4)), J, R) v h') : xEv L xs (d + 1) 34 0 [.ref 43, xmk, xmk, xmk, xmk] [] (124, I, J, R) v h' := by
  refine ev_go 1 (pc1 := 1) (lv1 := [.ref 43, xmk, xmk, xmk, xmk]) (st1 := [.ref 43]) (h1 := (124, I, J, R)) rfl ?_
  refine ev_gf (c := 43) (t := 23) (X := R 43 1) rfl rfl (fun _ => rfl) rfl r_R_43_1 ?_
  refine ev_go 2 (pc1 := 9) (lv1 := [.ref 43, xmk, xmk, xmk, xmk]) (st1 := [.int 16, .int (I 23 15)]) (h1 := (124, I, J, R)) rfl ?_
  refine ev_br (b1 := false) rfl rfl (xcd_nlt (x := (I 23 15)) (y := 16) (by rw [show ((16 : Int32)).toInt = 16 from by decide]; first | exact b1 | omega)) ?_
  refine ev_go 2 (pc1 := 14) (lv1 := [.ref 43, xmk, xmk, xmk, xmk]) (st1 := [.int 4, .ref 43]) (h1 := (124, I, J, R)) rfl ?_
  refine ev_call (v1 := none) (h1 := (124, (uI (uI I 43 2 4) 43 3 (I 1 4)), J, R)) rfl rfl c1 ?_
  exact hk
set_option maxRecDepth 20000 in
theorem mtA17_23 {L : Nat} {xs : Nat → Int32} {d : Nat} {I : Nat → Nat → Int32} {J : Nat → Nat → Int64} {R : Nat → Nat → Nat} {I1 : Nat → Nat → Int32} {J1 : Nat → Nat → Int64} {a : Int32} (hG : aGd R) (c1 : xEv L xs d 35 0 [.ref 43, .int (-1), xmk] [] (124, I, J, R) (some (.int a)) (124, I1, J1, R)) {v : Option Value} {h' : xH} (hk : xEv L xs (d + 1) 34 23 [.ref 43, .int a, xmk, xmk, xmk] [] (124, I1, J1, R) v h') : xEv L xs (d + 1) 34 17 [.ref 43, xmk, xmk, xmk, xmk] [] (124, I, J, R) v h' := by
  refine ev_go 2 (pc1 := 19) (lv1 := [.ref 43, xmk, xmk, xmk, xmk]) (st1 := [.int (-1), .ref 43]) (h1 := (124, I, J, R)) rfl ?_
  refine ev_call (v1 := (some (.int a))) (h1 := (124, I1, J1, R)) rfl rfl c1 ?_
  refine ev_go 1 (pc1 := 23) (lv1 := [.ref 43, .int a, xmk, xmk, xmk]) (st1 := []) (h1 := (124, I1, J1, R)) rfl ?_
  exact hk
set_option maxRecDepth 20000 in
theorem mtA23_23 {L : Nat} {xs : Nat → Int32} {d : Nat} {I : Nat → Nat → Int32} {J : Nat → Nat → Int64} {R : Nat → Nat → Nat} {I1 : Nat → Nat → Int32} {J1 : Nat → Nat → Int64} {a c : Int32} (hG : aGd R) (c1 : xEv L xs d 35 0 [.ref 43, .int a, xmk] [] (124, I, J, R) (some (.int c)) (124, I1, J1, R)) {v : Option Value} {h' : xH} (hk : xEv L xs (d + 1) 34 29 [.ref 43, .int a, .int c, xmk, xmk] [] (124, I1, J1, R) v h') : xEv L xs (d + 1) 34 23 [.ref 43, .int a, xmk, xmk, xmk] [] (124, I, J, R) v h' := by
  refine ev_go 2 (pc1 := 25) (lv1 := [.ref 43, .int a, xmk, xmk, xmk]) (st1 := [.int a, .ref 43]) (h1 := (124, I, J, R)) rfl ?_
  refine ev_call (v1 := (some (.int c))) (h1 := (124, I1, J1, R)) rfl rfl c1 ?_
  refine ev_go 1 (pc1 := 29) (lv1 := [.ref 43, .int a, .int c, xmk, xmk]) (st1 := []) (h1 := (124, I1, J1, R)) rfl ?_
  exact hk
set_option maxRecDepth 20000 in
theorem mtA29_23 {L : Nat} {xs : Nat → Int32} {d : Nat} {I : Nat → Nat → Int32} {J : Nat → Nat → Int64} {R : Nat → Nat → Nat} {I1 : Nat → Nat → Int32} {J1 : Nat → Nat → Int64} {a c y : Int32} (hG : aGd R) (c1 : xEv L xs d 30 0 [.ref 43, .int 0, .int 23, xmk, xmk] [] (124, I, J, R) (some (.int y)) (124, I1, J1, R)) {v : Option Value} {h' : xH} (hk : xEv L xs (d + 1) 34 37 [.ref 43, .int a, .int c, .int y, xmk] [] (124, I1, J1, R) v h') : xEv L xs (d + 1) 34 29 [.ref 43, .int a, .int c, xmk, xmk] [] (124, I, J, R) v h' := by
  refine ev_go 3 (pc1 := 33) (lv1 := [.ref 43, .int a, .int c, xmk, xmk]) (st1 := [.int 23, .int 0, .ref 43]) (h1 := (124, I, J, R)) rfl ?_
  refine ev_call (v1 := (some (.int y))) (h1 := (124, I1, J1, R)) rfl rfl c1 ?_
  refine ev_go 1 (pc1 := 37) (lv1 := [.ref 43, .int a, .int c, .int y, xmk]) (st1 := []) (h1 := (124, I1, J1, R)) rfl ?_
  exact hk
set_option maxRecDepth 20000 in
theorem mtA37_23 {L : Nat} {xs : Nat → Int32} {d : Nat} {I : Nat → Nat → Int32} {J : Nat → Nat → Int64} {R : Nat → Nat → Nat} {I1 : Nat → Nat → Int32} {J1 : Nat → Nat → Int64} {a c y x : Int32} (hG : aGd R) (c1 : xEv L xs d 31 0 [.ref 43, .retAddr 5, .int 1, .int 10, .int 10, xmk] [] (124, I, J, R) (some (.int x)) (124, I1, J1, R)) {v : Option Value} {h' : xH} (hk : xEv L xs (d + 1) 34 50 [.ref 43, .int a, .int c, .int y, .int x] [] (124, I1, J1, R) v h') : xEv L xs (d + 1) 34 37 [.ref 43, .int a, .int c, .int y, xmk] [] (124, I, J, R) v h' := by
  refine ev_go 5 (pc1 := 45) (lv1 := [.ref 43, .int a, .int c, .int y, xmk]) (st1 := [.int 10, .int 10, .int 1, .retAddr 5, .ref 43]) (h1 := (124, I, J, R)) rfl ?_
  refine ev_call (v1 := (some (.int x))) (h1 := (124, I1, J1, R)) rfl rfl c1 ?_
  refine ev_go 1 (pc1 := 50) (lv1 := [.ref 43, .int a, .int c, .int y, .int x]) (st1 := []) (h1 := (124, I1, J1, R)) rfl ?_
  exact hk
set_option maxRecDepth 20000 in
theorem mtA50_23 {L : Nat} {xs : Nat → Int32} {d : Nat} {I : Nat → Nat → Int32} {J : Nat → Nat → Int64} {R : Nat → Nat → Nat} {I1 : Nat → Nat → Int32} {J1 : Nat → Nat → Int64} {a c y x : Int32} (hG : aGd R) (b1 : (I 43 2).toInt = 0) (r_R_43_1 : R 43 1 = 24) (c1 : xEv L xs d 36 0 [.ref 23, .int a, .int c, .int y, .int x] [] (124, I, J, R) none (124, I1, J1, R)) : xEv L xs (d + 1) 34 50 [.ref 43, .int a, .int c, .int y, .int x] [] (124, I, J, R) none (124, I1, J1, R) := by
  refine ev_go 2 (pc1 := 54) (lv1 := [.ref 43, .int a, .int c, .int y, .int x]) (st1 := [.int (I 43 2)]) (h1 := (124, I, J, R)) rfl ?_
  refine ev_br (b1 := false) rfl rfl (xcd_nne (x := (I 43 2)) (y := 0) (by rw [show ((0 : Int32)).toInt = 0 from by decide]; first | exact b1 | omega)) ?_
  refine ev_go 1 (pc1 := 58) (lv1 := [.ref 43, .int a, .int c, .int y, .int x]) (st1 := [.ref 43]) (h1 := (124, I, J, R)) rfl ?_
  refine ev_gf (c := 43) (t := 23) (X := R 43 1) rfl rfl (fun _ => rfl) rfl r_R_43_1 ?_
  refine ev_go 4 (pc1 := 66) (lv1 := [.ref 43, .int a, .int c, .int y, .int x]) (st1 := [.int x, .int y, .int c, .int a, .ref 23]) (h1 := (124, I, J, R)) rfl ?_
  refine ev_call (v1 := none) (h1 := (124, I1, J1, R)) rfl rfl c1 ?_
  exact ev_ret rfl rfl
set_option maxRecDepth 20000 in
theorem am_23 {L : Nat} {xs : Nat → Int32} {d : Nat} {I : Nat → Nat → Int32} {J : Nat → Nat → Int64} {R : Nat → Nat → Nat} {a c y x : Int32} (hG : aGd R) (c1 : xEv L xs d 33 0 [.ref 27, .int (I 23 15), .int a] [] (124, I, J, R) none (124, (uI I 27 (I 23 15).toNatClampNeg a), J, R)) (c2 : xEv L xs d 33 0 [.ref 28, .int (I 23 15), .int c] [] (124, (uI I 27 (I 23 15).toNatClampNeg a), J, R) none (124, (uI (uI I 27 (I 23 15).toNatClampNeg a) 28 (I 23 15).toNatClampNeg c), J, R)) (c3 : xEv L xs d 33 0 [.ref 29, .int (I 23 15), .int y] [] (124, (uI (uI I 27 (I 23 15).toNatClampNeg a) 28 (I 23 15).toNatClampNeg c), J, R) none (124, (uI (uI (uI I 27 (I 23 15).toNatClampNeg a) 28 (I 23 15).toNatClampNeg c) 29 (I 23 15).toNatClampNeg y), J, R)) (c4 : xEv L xs d 33 0 [.ref 30, .int (I 23 15), .int x] [] (124, (uI (uI (uI I 27 (I 23 15).toNatClampNeg a) 28 (I 23 15).toNatClampNeg c) 29 (I 23 15).toNatClampNeg y), J, R) none (124, (uI (uI (uI (uI I 27 (I 23 15).toNatClampNeg a) 28 (I 23 15).toNatClampNeg c) 29 (I 23 15).toNatClampNeg y) 30 (I 23 15).toNatClampNeg x), J, R)) : xEv L xs (d + 1) 36 0 [.ref 23, .int a, .int c, .int y, .int x] [] (124, I, J, R) none (124, (uI (uI (uI (uI (uI I 27 (I 23 15).toNatClampNeg a) 28 (I 23 15).toNatClampNeg c) 29 (I 23 15).toNatClampNeg y) 30 (I 23 15).toNatClampNeg x) 23 15 ((I 23 15) + 1)), J, R) := by
  refine ev_go 1 (pc1 := 1) (lv1 := [.ref 23, .int a, .int c, .int y, .int x]) (st1 := [.ref 23]) (h1 := (124, I, J, R)) rfl ?_
  refine ev_gf (c := 23) (t := 27) (X := R 23 3) rfl rfl (fun _ => rfl) rfl (hG 23 3 27 rfl rfl) ?_
  refine ev_go 3 (pc1 := 9) (lv1 := [.ref 23, .int a, .int c, .int y, .int x]) (st1 := [.int a, .int (I 23 15), .ref 27]) (h1 := (124, I, J, R)) rfl ?_
  refine ev_call (v1 := none) (h1 := (124, (uI I 27 (I 23 15).toNatClampNeg a), J, R)) rfl rfl c1 ?_
  refine ev_go 1 (pc1 := 13) (lv1 := [.ref 23, .int a, .int c, .int y, .int x]) (st1 := [.ref 23]) (h1 := (124, (uI I 27 (I 23 15).toNatClampNeg a), J, R)) rfl ?_
  refine ev_gf (c := 23) (t := 28) (X := R 23 4) rfl rfl (fun _ => rfl) rfl (hG 23 4 28 rfl rfl) ?_
  refine ev_go 3 (pc1 := 21) (lv1 := [.ref 23, .int a, .int c, .int y, .int x]) (st1 := [.int c, .int (I 23 15), .ref 28]) (h1 := (124, (uI I 27 (I 23 15).toNatClampNeg a), J, R)) rfl ?_
  refine ev_call (v1 := none) (h1 := (124, (uI (uI I 27 (I 23 15).toNatClampNeg a) 28 (I 23 15).toNatClampNeg c), J, R)) rfl rfl c2 ?_
  refine ev_go 1 (pc1 := 25) (lv1 := [.ref 23, .int a, .int c, .int y, .int x]) (st1 := [.ref 23]) (h1 := (124, (uI (uI I 27 (I 23 15).toNatClampNeg a) 28 (I 23 15).toNatClampNeg c), J, R)) rfl ?_
  refine ev_gf (c := 23) (t := 29) (X := R 23 5) rfl rfl (fun _ => rfl) rfl (hG 23 5 29 rfl rfl) ?_
  refine ev_go 3 (pc1 := 33) (lv1 := [.ref 23, .int a, .int c, .int y, .int x]) (st1 := [.int y, .int (I 23 15), .ref 29]) (h1 := (124, (uI (uI I 27 (I 23 15).toNatClampNeg a) 28 (I 23 15).toNatClampNeg c), J, R)) rfl ?_
  refine ev_call (v1 := none) (h1 := (124, (uI (uI (uI I 27 (I 23 15).toNatClampNeg a) 28 (I 23 15).toNatClampNeg c) 29 (I 23 15).toNatClampNeg y), J, R)) rfl rfl c3 ?_
  refine ev_go 1 (pc1 := 37) (lv1 := [.ref 23, .int a, .int c, .int y, .int x]) (st1 := [.ref 23]) (h1 := (124, (uI (uI (uI I 27 (I 23 15).toNatClampNeg a) 28 (I 23 15).toNatClampNeg c) 29 (I 23 15).toNatClampNeg y), J, R)) rfl ?_
  refine ev_gf (c := 23) (t := 30) (X := R 23 6) rfl rfl (fun _ => rfl) rfl (hG 23 6 30 rfl rfl) ?_
  refine ev_go 3 (pc1 := 46) (lv1 := [.ref 23, .int a, .int c, .int y, .int x]) (st1 := [.int x, .int (I 23 15), .ref 30]) (h1 := (124, (uI (uI (uI I 27 (I 23 15).toNatClampNeg a) 28 (I 23 15).toNatClampNeg c) 29 (I 23 15).toNatClampNeg y), J, R)) rfl ?_
  refine ev_call (v1 := none) (h1 := (124, (uI (uI (uI (uI I 27 (I 23 15).toNatClampNeg a) 28 (I 23 15).toNatClampNeg c) 29 (I 23 15).toNatClampNeg y) 30 (I 23 15).toNatClampNeg x), J, R)) rfl rfl c4 ?_
  refine ev_go 6 (pc1 := 59) (lv1 := [.ref 23, .int a, .int c, .int y, .int x]) (st1 := []) (h1 := (124, (uI (uI (uI (uI (uI I 27 (I 23 15).toNatClampNeg a) 28 (I 23 15).toNatClampNeg c) 29 (I 23 15).toNatClampNeg y) 30 (I 23 15).toNatClampNeg x) 23 15 ((I 23 15) + 1)), J, R)) rfl ?_
  exact ev_ret rfl rfl
set_option maxRecDepth 20000 in
theorem mm_0 {L : Nat} {xs : Nat → Int32} {d : Nat} {I : Nat → Nat → Int32} {J : Nat → Nat → Int64} {R : Nat → Nat → Nat} (hG : aGd R) (b1 : (I 88 4).toInt = 16) (c1 : xEv L xs d 157 0 [.ref 86, .int 4] [] (124, I, J, R) (some (.int 0)) (124, (uI (uI I 86 8 4) 86 9 (I 86 5)), J, R)) : xEv L xs (d + 1) 162 0 [.ref 86, xmk, xmk, xmk] [] (124, I, J, R) (some (.int 0)) (124, (uI (uI I 86 8 4) 86 9 (I 86 5)), J, R) := by
  refine ev_go 1 (pc1 := 1) (lv1 := [.ref 86, xmk, xmk, xmk]) (st1 := [.ref 86]) (h1 := (124, I, J, R)) rfl ?_
  refine ev_gf (c := 86) (t := 88) (X := R 86 12) rfl rfl (fun _ => rfl) rfl (hG 86 12 88 rfl rfl) ?_
  refine ev_go 5 (pc1 := 10) (lv1 := [.ref 86, .int (I 88 4), xmk, xmk]) (st1 := [.int 16, .int (I 88 4)]) (h1 := (124, I, J, R)) rfl ?_
  refine ev_br (b1 := false) rfl rfl (xcd_nne (x := (I 88 4)) (y := 16) (by rw [show ((16 : Int32)).toInt = 16 from by decide]; first | exact b1 | omega)) ?_
  refine ev_go 2 (pc1 := 15) (lv1 := [.ref 86, .int (I 88 4), xmk, xmk]) (st1 := [.int 4, .ref 86]) (h1 := (124, I, J, R)) rfl ?_
  refine ev_call (v1 := (some (.int 0))) (h1 := (124, (uI (uI I 86 8 4) 86 9 (I 86 5)), J, R)) rfl rfl c1 ?_
  exact ev_ret rfl rfl
set_option maxRecDepth 20000 in
theorem mm_1 {L : Nat} {xs : Nat → Int32} {d : Nat} {I : Nat → Nat → Int32} {J : Nat → Nat → Int64} {R : Nat → Nat → Nat} {I1 : Nat → Nat → Int32} {J1 : Nat → Nat → Int64} (hG : aGd R) (b1 : (I 88 4).toInt ≠ 16) (c1 : xEv L xs d 150 0 [.ref 86, xmk, xmk, xmk] [] (124, I, J, R) none (124, I1, J1, R)) (b2 : (I1 86 3).toInt ≠ 1) (c2 : xEv L xs d 157 0 [.ref 86, .int 1] [] (124, I1, J1, R) (some (.int 0)) (124, (uI (uI I1 86 8 1) 86 9 (I1 86 5)), J1, R)) : xEv L xs (d + 1) 162 0 [.ref 86, xmk, xmk, xmk] [] (124, I, J, R) (some (.int 0)) (124, (uI (uI I1 86 8 1) 86 9 (I1 86 5)), J1, R) := by
  refine ev_go 1 (pc1 := 1) (lv1 := [.ref 86, xmk, xmk, xmk]) (st1 := [.ref 86]) (h1 := (124, I, J, R)) rfl ?_
  refine ev_gf (c := 86) (t := 88) (X := R 86 12) rfl rfl (fun _ => rfl) rfl (hG 86 12 88 rfl rfl) ?_
  refine ev_go 5 (pc1 := 10) (lv1 := [.ref 86, .int (I 88 4), xmk, xmk]) (st1 := [.int 16, .int (I 88 4)]) (h1 := (124, I, J, R)) rfl ?_
  refine ev_br (b1 := true) rfl rfl (xcd_ne (x := (I 88 4)) (y := 16) (by rw [show ((16 : Int32)).toInt = 16 from by decide]; first | exact b1 | omega)) ?_
  refine ev_go 1 (pc1 := 20) (lv1 := [.ref 86, .int (I 88 4), xmk, xmk]) (st1 := [.ref 86]) (h1 := (124, I, J, R)) rfl ?_
  refine ev_call (v1 := none) (h1 := (124, I1, J1, R)) rfl rfl c1 ?_
  refine ev_go 3 (pc1 := 28) (lv1 := [.ref 86, .int (I 88 4), xmk, xmk]) (st1 := [.int 1, .int (I1 86 3)]) (h1 := (124, I1, J1, R)) rfl ?_
  refine ev_br (b1 := false) rfl rfl (xcd_neq (x := (I1 86 3)) (y := 1) (by rw [show ((1 : Int32)).toInt = 1 from by decide]; first | exact b2 | omega)) ?_
  refine ev_go 2 (pc1 := 33) (lv1 := [.ref 86, .int (I 88 4), xmk, xmk]) (st1 := [.int 1, .ref 86]) (h1 := (124, I1, J1, R)) rfl ?_
  refine ev_call (v1 := (some (.int 0))) (h1 := (124, (uI (uI I1 86 8 1) 86 9 (I1 86 5)), J1, R)) rfl rfl c2 ?_
  exact ev_ret rfl rfl
set_option maxRecDepth 20000 in
theorem mm_2 {L : Nat} {xs : Nat → Int32} {d : Nat} {I : Nat → Nat → Int32} {J : Nat → Nat → Int64} {R : Nat → Nat → Nat} {I1 : Nat → Nat → Int32} {J1 : Nat → Nat → Int64} {a : Int32} (hG : aGd R) (b1 : (I 88 4).toInt ≠ 16) (c1 : xEv L xs d 150 0 [.ref 86, xmk, xmk, xmk] [] (124, I, J, R) none (124, I1, J1, R)) (b2 : (I1 86 3).toInt = 1) (c2 : xEv L xs d 158 0 [.ref 86, xmk] [] (124, I1, J1, R) (some (.int a)) (124, I1, J1, R)) (b3 : a.toInt = -1) (c3 : xEv L xs d 157 0 [.ref 86, .int 5] [] (124, I1, J1, R) (some (.int 0)) (124, (uI (uI I1 86 8 5) 86 9 (I1 86 5)), J1, R)) : xEv L xs (d + 1) 162 0 [.ref 86, xmk, xmk, xmk] [] (124, I, J, R) (some (.int 0)) (124, (uI (uI I1 86 8 5) 86 9 (I1 86 5)), J1, R) := by
  refine ev_go 1 (pc1 := 1) (lv1 := [.ref 86, xmk, xmk, xmk]) (st1 := [.ref 86]) (h1 := (124, I, J, R)) rfl ?_
  refine ev_gf (c := 86) (t := 88) (X := R 86 12) rfl rfl (fun _ => rfl) rfl (hG 86 12 88 rfl rfl) ?_
  refine ev_go 5 (pc1 := 10) (lv1 := [.ref 86, .int (I 88 4), xmk, xmk]) (st1 := [.int 16, .int (I 88 4)]) (h1 := (124, I, J, R)) rfl ?_
  refine ev_br (b1 := true) rfl rfl (xcd_ne (x := (I 88 4)) (y := 16) (by rw [show ((16 : Int32)).toInt = 16 from by decide]; first | exact b1 | omega)) ?_
  refine ev_go 1 (pc1 := 20) (lv1 := [.ref 86, .int (I 88 4), xmk, xmk]) (st1 := [.ref 86]) (h1 := (124, I, J, R)) rfl ?_
  refine ev_call (v1 := none) (h1 := (124, I1, J1, R)) rfl rfl c1 ?_
  refine ev_go 3 (pc1 := 28) (lv1 := [.ref 86, .int (I 88 4), xmk, xmk]) (st1 := [.int 1, .int (I1 86 3)]) (h1 := (124, I1, J1, R)) rfl ?_
  refine ev_br (b1 := true) rfl rfl (xcd_eq (x := (I1 86 3)) (y := 1) (by rw [show ((1 : Int32)).toInt = 1 from by decide]; first | exact b2 | omega)) ?_
  refine ev_go 1 (pc1 := 38) (lv1 := [.ref 86, .int (I 88 4), xmk, xmk]) (st1 := [.ref 86]) (h1 := (124, I1, J1, R)) rfl ?_
  refine ev_call (v1 := (some (.int a))) (h1 := (124, I1, J1, R)) rfl rfl c2 ?_
  refine ev_go 3 (pc1 := 44) (lv1 := [.ref 86, .int (I 88 4), .int a, xmk]) (st1 := [.int (-1), .int a]) (h1 := (124, I1, J1, R)) rfl ?_
  refine ev_br (b1 := false) rfl rfl (xcd_nne (x := a) (y := (-1)) (by rw [show ((-1 : Int32)).toInt = -1 from by decide]; first | exact b3 | omega)) ?_
  refine ev_go 2 (pc1 := 49) (lv1 := [.ref 86, .int (I 88 4), .int a, xmk]) (st1 := [.int 5, .ref 86]) (h1 := (124, I1, J1, R)) rfl ?_
  refine ev_call (v1 := (some (.int 0))) (h1 := (124, (uI (uI I1 86 8 5) 86 9 (I1 86 5)), J1, R)) rfl rfl c3 ?_
  exact ev_ret rfl rfl
set_option maxRecDepth 20000 in
theorem mm_3 {L : Nat} {xs : Nat → Int32} {d : Nat} {I : Nat → Nat → Int32} {J : Nat → Nat → Int64} {R : Nat → Nat → Nat} {I1 : Nat → Nat → Int32} {J1 : Nat → Nat → Int64} {I2 : Nat → Nat → Int32} {J2 : Nat → Nat → Int64} {a : Int32} (hG : aGd R) (b1 : (I 88 4).toInt ≠ 16) (c1 : xEv L xs d 150 0 [.ref 86, xmk, xmk, xmk] [] (124, I, J, R) none (124, I1, J1, R)) (b2 : (I1 86 3).toInt = 1) (c2 : xEv L xs d 158 0 [.ref 86, xmk] [] (124, I1, J1, R) (some (.int a)) (124, I1, J1, R)) (b3 : a.toInt ≠ -1) (c3 : xEv L xs d 150 0 [.ref 86, xmk, xmk, xmk] [] (124, I1, J1, R) none (124, I2, J2, R)) (b4 : (I2 86 3).toInt ≠ 1) (c4 : xEv L xs d 157 0 [.ref 86, .int 1] [] (124, I2, J2, R) (some (.int 0)) (124, (uI (uI I2 86 8 1) 86 9 (I2 86 5)), J2, R)) : xEv L xs (d + 1) 162 0 [.ref 86, xmk, xmk, xmk] [] (124, I, J, R) (some (.int 0)) (124, (uI (uI I2 86 8 1) 86 9 (I2 86 5)), J2, R) := by
  refine ev_go 1 (pc1 := 1) (lv1 := [.ref 86, xmk, xmk, xmk]) (st1 := [.ref 86]) (h1 := (124, I, J, R)) rfl ?_
  refine ev_gf (c := 86) (t := 88) (X := R 86 12) rfl rfl (fun _ => rfl) rfl (hG 86 12 88 rfl rfl) ?_
  refine ev_go 5 (pc1 := 10) (lv1 := [.ref 86, .int (I 88 4), xmk, xmk]) (st1 := [.int 16, .int (I 88 4)]) (h1 := (124, I, J, R)) rfl ?_
  refine ev_br (b1 := true) rfl rfl (xcd_ne (x := (I 88 4)) (y := 16) (by rw [show ((16 : Int32)).toInt = 16 from by decide]; first | exact b1 | omega)) ?_
  refine ev_go 1 (pc1 := 20) (lv1 := [.ref 86, .int (I 88 4), xmk, xmk]) (st1 := [.ref 86]) (h1 := (124, I, J, R)) rfl ?_
  refine ev_call (v1 := none) (h1 := (124, I1, J1, R)) rfl rfl c1 ?_
  refine ev_go 3 (pc1 := 28) (lv1 := [.ref 86, .int (I 88 4), xmk, xmk]) (st1 := [.int 1, .int (I1 86 3)]) (h1 := (124, I1, J1, R)) rfl ?_
  refine ev_br (b1 := true) rfl rfl (xcd_eq (x := (I1 86 3)) (y := 1) (by rw [show ((1 : Int32)).toInt = 1 from by decide]; first | exact b2 | omega)) ?_
  refine ev_go 1 (pc1 := 38) (lv1 := [.ref 86, .int (I 88 4), xmk, xmk]) (st1 := [.ref 86]) (h1 := (124, I1, J1, R)) rfl ?_
  refine ev_call (v1 := (some (.int a))) (h1 := (124, I1, J1, R)) rfl rfl c2 ?_
  refine ev_go 3 (pc1 := 44) (lv1 := [.ref 86, .int (I 88 4), .int a, xmk]) (st1 := [.int (-1), .int a]) (h1 := (124, I1, J1, R)) rfl ?_
  refine ev_br (b1 := true) rfl rfl (xcd_ne (x := a) (y := (-1)) (by rw [show ((-1 : Int32)).toInt = -1 from by decide]; first | exact b3 | omega)) ?_
  refine ev_go 1 (pc1 := 54) (lv1 := [.ref 86, .int (I 88 4), .int a, xmk]) (st1 := [.ref 86]) (h1 := (124, I1, J1, R)) rfl ?_
  refine ev_call (v1 := none) (h1 := (124, I2, J2, R)) rfl rfl c3 ?_
  refine ev_go 3 (pc1 := 62) (lv1 := [.ref 86, .int (I 88 4), .int a, xmk]) (st1 := [.int 1, .int (I2 86 3)]) (h1 := (124, I2, J2, R)) rfl ?_
  refine ev_br (b1 := false) rfl rfl (xcd_neq (x := (I2 86 3)) (y := 1) (by rw [show ((1 : Int32)).toInt = 1 from by decide]; first | exact b4 | omega)) ?_
  refine ev_go 2 (pc1 := 67) (lv1 := [.ref 86, .int (I 88 4), .int a, xmk]) (st1 := [.int 1, .ref 86]) (h1 := (124, I2, J2, R)) rfl ?_
  refine ev_call (v1 := (some (.int 0))) (h1 := (124, (uI (uI I2 86 8 1) 86 9 (I2 86 5)), J2, R)) rfl rfl c4 ?_
  exact ev_ret rfl rfl
set_option maxRecDepth 20000 in
theorem mm_4 {L : Nat} {xs : Nat → Int32} {d : Nat} {I : Nat → Nat → Int32} {J : Nat → Nat → Int64} {R : Nat → Nat → Nat} {I1 : Nat → Nat → Int32} {J1 : Nat → Nat → Int64} {I2 : Nat → Nat → Int32} {J2 : Nat → Nat → Int64} {a c : Int32} (hG : aGd R) (b1 : (I 88 4).toInt ≠ 16) (c1 : xEv L xs d 150 0 [.ref 86, xmk, xmk, xmk] [] (124, I, J, R) none (124, I1, J1, R)) (b2 : (I1 86 3).toInt = 1) (c2 : xEv L xs d 158 0 [.ref 86, xmk] [] (124, I1, J1, R) (some (.int a)) (124, I1, J1, R)) (b3 : a.toInt ≠ -1) (c3 : xEv L xs d 150 0 [.ref 86, xmk, xmk, xmk] [] (124, I1, J1, R) none (124, I2, J2, R)) (b4 : (I2 86 3).toInt = 1) (c4 : xEv L xs d 158 0 [.ref 86, xmk] [] (124, I2, J2, R) (some (.int c)) (124, I2, J2, R)) (b5 : c.toInt = a.toInt) (c5 : xEv L xs d 157 0 [.ref 86, .int 3] [] (124, I2, J2, R) (some (.int 0)) (124, (uI (uI I2 86 8 3) 86 9 (I2 86 5)), J2, R)) : xEv L xs (d + 1) 162 0 [.ref 86, xmk, xmk, xmk] [] (124, I, J, R) (some (.int 0)) (124, (uI (uI I2 86 8 3) 86 9 (I2 86 5)), J2, R) := by
  refine ev_go 1 (pc1 := 1) (lv1 := [.ref 86, xmk, xmk, xmk]) (st1 := [.ref 86]) (h1 := (124, I, J, R)) rfl ?_
  refine ev_gf (c := 86) (t := 88) (X := R 86 12) rfl rfl (fun _ => rfl) rfl (hG 86 12 88 rfl rfl) ?_
  refine ev_go 5 (pc1 := 10) (lv1 := [.ref 86, .int (I 88 4), xmk, xmk]) (st1 := [.int 16, .int (I 88 4)]) (h1 := (124, I, J, R)) rfl ?_
  refine ev_br (b1 := true) rfl rfl (xcd_ne (x := (I 88 4)) (y := 16) (by rw [show ((16 : Int32)).toInt = 16 from by decide]; first | exact b1 | omega)) ?_
  refine ev_go 1 (pc1 := 20) (lv1 := [.ref 86, .int (I 88 4), xmk, xmk]) (st1 := [.ref 86]) (h1 := (124, I, J, R)) rfl ?_
  refine ev_call (v1 := none) (h1 := (124, I1, J1, R)) rfl rfl c1 ?_
  refine ev_go 3 (pc1 := 28) (lv1 := [.ref 86, .int (I 88 4), xmk, xmk]) (st1 := [.int 1, .int (I1 86 3)]) (h1 := (124, I1, J1, R)) rfl ?_
  refine ev_br (b1 := true) rfl rfl (xcd_eq (x := (I1 86 3)) (y := 1) (by rw [show ((1 : Int32)).toInt = 1 from by decide]; first | exact b2 | omega)) ?_
  refine ev_go 1 (pc1 := 38) (lv1 := [.ref 86, .int (I 88 4), xmk, xmk]) (st1 := [.ref 86]) (h1 := (124, I1, J1, R)) rfl ?_
  refine ev_call (v1 := (some (.int a))) (h1 := (124, I1, J1, R)) rfl rfl c2 ?_
  refine ev_go 3 (pc1 := 44) (lv1 := [.ref 86, .int (I 88 4), .int a, xmk]) (st1 := [.int (-1), .int a]) (h1 := (124, I1, J1, R)) rfl ?_
  refine ev_br (b1 := true) rfl rfl (xcd_ne (x := a) (y := (-1)) (by rw [show ((-1 : Int32)).toInt = -1 from by decide]; first | exact b3 | omega)) ?_
  refine ev_go 1 (pc1 := 54) (lv1 := [.ref 86, .int (I 88 4), .int a, xmk]) (st1 := [.ref 86]) (h1 := (124, I1, J1, R)) rfl ?_
  refine ev_call (v1 := none) (h1 := (124, I2, J2, R)) rfl rfl c3 ?_
  refine ev_go 3 (pc1 := 62) (lv1 := [.ref 86, .int (I 88 4), .int a, xmk]) (st1 := [.int 1, .int (I2 86 3)]) (h1 := (124, I2, J2, R)) rfl ?_
  refine ev_br (b1 := true) rfl rfl (xcd_eq (x := (I2 86 3)) (y := 1) (by rw [show ((1 : Int32)).toInt = 1 from by decide]; first | exact b4 | omega)) ?_
  refine ev_go 1 (pc1 := 72) (lv1 := [.ref 86, .int (I 88 4), .int a, xmk]) (st1 := [.ref 86]) (h1 := (124, I2, J2, R)) rfl ?_
  refine ev_call (v1 := (some (.int c))) (h1 := (124, I2, J2, R)) rfl rfl c4 ?_
  refine ev_go 3 (pc1 := 78) (lv1 := [.ref 86, .int (I 88 4), .int a, .int c]) (st1 := [.int a, .int c]) (h1 := (124, I2, J2, R)) rfl ?_
  refine ev_br (b1 := false) rfl rfl (xcd_nne (x := c) (y := a) (by first | exact b5 | omega)) ?_
  refine ev_go 2 (pc1 := 83) (lv1 := [.ref 86, .int (I 88 4), .int a, .int c]) (st1 := [.int 3, .ref 86]) (h1 := (124, I2, J2, R)) rfl ?_
  refine ev_call (v1 := (some (.int 0))) (h1 := (124, (uI (uI I2 86 8 3) 86 9 (I2 86 5)), J2, R)) rfl rfl c5 ?_
  exact ev_ret rfl rfl
set_option maxRecDepth 20000 in
theorem mm_5 {L : Nat} {xs : Nat → Int32} {d : Nat} {I : Nat → Nat → Int32} {J : Nat → Nat → Int64} {R : Nat → Nat → Nat} {I1 : Nat → Nat → Int32} {J1 : Nat → Nat → Int64} {I2 : Nat → Nat → Int32} {J2 : Nat → Nat → Int64} {a c : Int32} (hG : aGd R) (b1 : (I 88 4).toInt ≠ 16) (c1 : xEv L xs d 150 0 [.ref 86, xmk, xmk, xmk] [] (124, I, J, R) none (124, I1, J1, R)) (b2 : (I1 86 3).toInt = 1) (c2 : xEv L xs d 158 0 [.ref 86, xmk] [] (124, I1, J1, R) (some (.int a)) (124, I1, J1, R)) (b3 : a.toInt ≠ -1) (c3 : xEv L xs d 150 0 [.ref 86, xmk, xmk, xmk] [] (124, I1, J1, R) none (124, I2, J2, R)) (b4 : (I2 86 3).toInt = 1) (c4 : xEv L xs d 158 0 [.ref 86, xmk] [] (124, I2, J2, R) (some (.int c)) (124, I2, J2, R)) (b5 : c.toInt ≠ a.toInt) (b6 : c.toInt = -1) (c5 : xEv L xs d 157 0 [.ref 86, .int 5] [] (124, I2, J2, R) (some (.int 0)) (124, (uI (uI I2 86 8 5) 86 9 (I2 86 5)), J2, R)) : xEv L xs (d + 1) 162 0 [.ref 86, xmk, xmk, xmk] [] (124, I, J, R) (some (.int 0)) (124, (uI (uI I2 86 8 5) 86 9 (I2 86 5)), J2, R) := by
  refine ev_go 1 (pc1 := 1) (lv1 := [.ref 86, xmk, xmk, xmk]) (st1 := [.ref 86]) (h1 := (124, I, J, R)) rfl ?_
  refine ev_gf (c := 86) (t := 88) (X := R 86 12) rfl rfl (fun _ => rfl) rfl (hG 86 12 88 rfl rfl) ?_
  refine ev_go 5 (pc1 := 10) (lv1 := [.ref 86, .int (I 88 4), xmk, xmk]) (st1 := [.int 16, .int (I 88 4)]) (h1 := (124, I, J, R)) rfl ?_
  refine ev_br (b1 := true) rfl rfl (xcd_ne (x := (I 88 4)) (y := 16) (by rw [show ((16 : Int32)).toInt = 16 from by decide]; first | exact b1 | omega)) ?_
  refine ev_go 1 (pc1 := 20) (lv1 := [.ref 86, .int (I 88 4), xmk, xmk]) (st1 := [.ref 86]) (h1 := (124, I, J, R)) rfl ?_
  refine ev_call (v1 := none) (h1 := (124, I1, J1, R)) rfl rfl c1 ?_
  refine ev_go 3 (pc1 := 28) (lv1 := [.ref 86, .int (I 88 4), xmk, xmk]) (st1 := [.int 1, .int (I1 86 3)]) (h1 := (124, I1, J1, R)) rfl ?_
  refine ev_br (b1 := true) rfl rfl (xcd_eq (x := (I1 86 3)) (y := 1) (by rw [show ((1 : Int32)).toInt = 1 from by decide]; first | exact b2 | omega)) ?_
  refine ev_go 1 (pc1 := 38) (lv1 := [.ref 86, .int (I 88 4), xmk, xmk]) (st1 := [.ref 86]) (h1 := (124, I1, J1, R)) rfl ?_
  refine ev_call (v1 := (some (.int a))) (h1 := (124, I1, J1, R)) rfl rfl c2 ?_
  refine ev_go 3 (pc1 := 44) (lv1 := [.ref 86, .int (I 88 4), .int a, xmk]) (st1 := [.int (-1), .int a]) (h1 := (124, I1, J1, R)) rfl ?_
  refine ev_br (b1 := true) rfl rfl (xcd_ne (x := a) (y := (-1)) (by rw [show ((-1 : Int32)).toInt = -1 from by decide]; first | exact b3 | omega)) ?_
  refine ev_go 1 (pc1 := 54) (lv1 := [.ref 86, .int (I 88 4), .int a, xmk]) (st1 := [.ref 86]) (h1 := (124, I1, J1, R)) rfl ?_
  refine ev_call (v1 := none) (h1 := (124, I2, J2, R)) rfl rfl c3 ?_
  refine ev_go 3 (pc1 := 62) (lv1 := [.ref 86, .int (I 88 4), .int a, xmk]) (st1 := [.int 1, .int (I2 86 3)]) (h1 := (124, I2, J2, R)) rfl ?_
  refine ev_br (b1 := true) rfl rfl (xcd_eq (x := (I2 86 3)) (y := 1) (by rw [show ((1 : Int32)).toInt = 1 from by decide]; first | exact b4 | omega)) ?_
  refine ev_go 1 (pc1 := 72) (lv1 := [.ref 86, .int (I 88 4), .int a, xmk]) (st1 := [.ref 86]) (h1 := (124, I2, J2, R)) rfl ?_
  refine ev_call (v1 := (some (.int c))) (h1 := (124, I2, J2, R)) rfl rfl c4 ?_
  refine ev_go 3 (pc1 := 78) (lv1 := [.ref 86, .int (I 88 4), .int a, .int c]) (st1 := [.int a, .int c]) (h1 := (124, I2, J2, R)) rfl ?_
  refine ev_br (b1 := true) rfl rfl (xcd_ne (x := c) (y := a) (by first | exact b5 | omega)) ?_
  refine ev_go 2 (pc1 := 89) (lv1 := [.ref 86, .int (I 88 4), .int a, .int c]) (st1 := [.int (-1), .int c]) (h1 := (124, I2, J2, R)) rfl ?_
  refine ev_br (b1 := false) rfl rfl (xcd_nne (x := c) (y := (-1)) (by rw [show ((-1 : Int32)).toInt = -1 from by decide]; first | exact b6 | omega)) ?_
  refine ev_go 2 (pc1 := 94) (lv1 := [.ref 86, .int (I 88 4), .int a, .int c]) (st1 := [.int 5, .ref 86]) (h1 := (124, I2, J2, R)) rfl ?_
  refine ev_call (v1 := (some (.int 0))) (h1 := (124, (uI (uI I2 86 8 5) 86 9 (I2 86 5)), J2, R)) rfl rfl c5 ?_
  exact ev_ret rfl rfl
set_option maxRecDepth 20000 in
theorem mm_6 {L : Nat} {xs : Nat → Int32} {d : Nat} {I : Nat → Nat → Int32} {J : Nat → Nat → Int64} {R : Nat → Nat → Nat} {I1 : Nat → Nat → Int32} {J1 : Nat → Nat → Int64} {I2 : Nat → Nat → Int32} {J2 : Nat → Nat → Int64} {I3 : Nat → Nat → Int32} {J3 : Nat → Nat → Int64} {I4 : Nat → Nat → Int32} {J4 : Nat → Nat → Int64} {a c : Int32} (hG : aGd R) (b1 : (I 88 4).toInt ≠ 16) (c1 : xEv L xs d 150 0 [.ref 86, xmk, xmk, xmk] [] (124, I, J, R) none (124, I1, J1, R)) (b2 : (I1 86 3).toInt = 1) (c2 : xEv L xs d 158 0 [.ref 86, xmk] [] (124, I1, J1, R) (some (.int a)) (124, I1, J1, R)) (b3 : a.toInt ≠ -1) (c3 : xEv L xs d 150 0 [.ref 86, xmk, xmk, xmk] [] (124, I1, J1, R) none (124, I2, J2, R)) (b4 : (I2 86 3).toInt = 1) (c4 : xEv L xs d 158 0 [.ref 86, xmk] [] (124, I2, J2, R) (some (.int c)) (124, I2, J2, R)) (b5 : c.toInt ≠ a.toInt) (b6 : c.toInt ≠ -1) (c5 : xEv L xs d 150 0 [.ref 86, xmk, xmk, xmk] [] (124, I2, J2, R) none (124, I3, J3, R)) (c6 : xEv L xs d 159 0 [.ref 86, .int 0, .int 23] [] (124, I3, J3, R) (some (.int 0)) (124, I4, J4, R)) : xEv L xs (d + 1) 162 0 [.ref 86, xmk, xmk, xmk] [] (124, I, J, R) (some (.int 0)) (124, I4, J4, R) := by
  refine ev_go 1 (pc1 := 1) (lv1 := [.ref 86, xmk, xmk, xmk]) (st1 := [.ref 86]) (h1 := (124, I, J, R)) rfl ?_
  refine ev_gf (c := 86) (t := 88) (X := R 86 12) rfl rfl (fun _ => rfl) rfl (hG 86 12 88 rfl rfl) ?_
  refine ev_go 5 (pc1 := 10) (lv1 := [.ref 86, .int (I 88 4), xmk, xmk]) (st1 := [.int 16, .int (I 88 4)]) (h1 := (124, I, J, R)) rfl ?_
  refine ev_br (b1 := true) rfl rfl (xcd_ne (x := (I 88 4)) (y := 16) (by rw [show ((16 : Int32)).toInt = 16 from by decide]; first | exact b1 | omega)) ?_
  refine ev_go 1 (pc1 := 20) (lv1 := [.ref 86, .int (I 88 4), xmk, xmk]) (st1 := [.ref 86]) (h1 := (124, I, J, R)) rfl ?_
  refine ev_call (v1 := none) (h1 := (124, I1, J1, R)) rfl rfl c1 ?_
  refine ev_go 3 (pc1 := 28) (lv1 := [.ref 86, .int (I 88 4), xmk, xmk]) (st1 := [.int 1, .int (I1 86 3)]) (h1 := (124, I1, J1, R)) rfl ?_
  refine ev_br (b1 := true) rfl rfl (xcd_eq (x := (I1 86 3)) (y := 1) (by rw [show ((1 : Int32)).toInt = 1 from by decide]; first | exact b2 | omega)) ?_
  refine ev_go 1 (pc1 := 38) (lv1 := [.ref 86, .int (I 88 4), xmk, xmk]) (st1 := [.ref 86]) (h1 := (124, I1, J1, R)) rfl ?_
  refine ev_call (v1 := (some (.int a))) (h1 := (124, I1, J1, R)) rfl rfl c2 ?_
  refine ev_go 3 (pc1 := 44) (lv1 := [.ref 86, .int (I 88 4), .int a, xmk]) (st1 := [.int (-1), .int a]) (h1 := (124, I1, J1, R)) rfl ?_
  refine ev_br (b1 := true) rfl rfl (xcd_ne (x := a) (y := (-1)) (by rw [show ((-1 : Int32)).toInt = -1 from by decide]; first | exact b3 | omega)) ?_
  refine ev_go 1 (pc1 := 54) (lv1 := [.ref 86, .int (I 88 4), .int a, xmk]) (st1 := [.ref 86]) (h1 := (124, I1, J1, R)) rfl ?_
  refine ev_call (v1 := none) (h1 := (124, I2, J2, R)) rfl rfl c3 ?_
  refine ev_go 3 (pc1 := 62) (lv1 := [.ref 86, .int (I 88 4), .int a, xmk]) (st1 := [.int 1, .int (I2 86 3)]) (h1 := (124, I2, J2, R)) rfl ?_
  refine ev_br (b1 := true) rfl rfl (xcd_eq (x := (I2 86 3)) (y := 1) (by rw [show ((1 : Int32)).toInt = 1 from by decide]; first | exact b4 | omega)) ?_
  refine ev_go 1 (pc1 := 72) (lv1 := [.ref 86, .int (I 88 4), .int a, xmk]) (st1 := [.ref 86]) (h1 := (124, I2, J2, R)) rfl ?_
  refine ev_call (v1 := (some (.int c))) (h1 := (124, I2, J2, R)) rfl rfl c4 ?_
  refine ev_go 3 (pc1 := 78) (lv1 := [.ref 86, .int (I 88 4), .int a, .int c]) (st1 := [.int a, .int c]) (h1 := (124, I2, J2, R)) rfl ?_
  refine ev_br (b1 := true) rfl rfl (xcd_ne (x := c) (y := a) (by first | exact b5 | omega)) ?_
  refine ev_go 2 (pc1 := 89) (lv1 := [.ref 86, .int (I 88 4), .int a, .int c]) (st1 := [.int (-1), .int c]) (h1 := (124, I2, J2, R)) rfl ?_
  refine ev_br (b1 := true) rfl rfl (xcd_ne (x := c) (y := (-1)) (by rw [show ((-1 : Int32)).toInt = -1 from by decide]; first | exact b6 | omega)) ?_
  refine ev_go 1 (pc1 := 99) (lv1 := [.ref 86, .int (I 88 4), .int a, .int c]) (st1 := [.ref 86]) (h1 := (124, I2, J2, R)) rfl ?_
  refine ev_call (v1 := none) (h1 := (124, I3, J3, R)) rfl rfl c5 ?_
  refine ev_go 3 (pc1 := 106) (lv1 := [.ref 86, .int (I 88 4), .int a, .int c]) (st1 := [.int 23, .int 0, .ref 86]) (h1 := (124, I3, J3, R)) rfl ?_
  refine ev_call (v1 := (some (.int 0))) (h1 := (124, I4, J4, R)) rfl rfl c6 ?_
  refine ev_go 2 (pc1 := 113) (lv1 := [.ref 86, .int (I 88 4), .int a, .int c]) (st1 := [.int 0]) (h1 := (124, I4, J4, R)) rfl ?_
  exact ev_ret rfl rfl
set_option maxRecDepth 20000 in
theorem mm_7 {L : Nat} {xs : Nat → Int32} {d : Nat} {I : Nat → Nat → Int32} {J : Nat → Nat → Int64} {R : Nat → Nat → Nat} {I1 : Nat → Nat → Int32} {J1 : Nat → Nat → Int64} {I2 : Nat → Nat → Int32} {J2 : Nat → Nat → Int64} {I3 : Nat → Nat → Int32} {J3 : Nat → Nat → Int64} {I4 : Nat → Nat → Int32} {J4 : Nat → Nat → Int64} {a c : Int32} (hG : aGd R) (b1 : (I 88 4).toInt ≠ 16) (c1 : xEv L xs d 150 0 [.ref 86, xmk, xmk, xmk] [] (124, I, J, R) none (124, I1, J1, R)) (b2 : (I1 86 3).toInt = 1) (c2 : xEv L xs d 158 0 [.ref 86, xmk] [] (124, I1, J1, R) (some (.int a)) (124, I1, J1, R)) (b3 : a.toInt ≠ -1) (c3 : xEv L xs d 150 0 [.ref 86, xmk, xmk, xmk] [] (124, I1, J1, R) none (124, I2, J2, R)) (b4 : (I2 86 3).toInt = 1) (c4 : xEv L xs d 158 0 [.ref 86, xmk] [] (124, I2, J2, R) (some (.int c)) (124, I2, J2, R)) (b5 : c.toInt ≠ a.toInt) (b6 : c.toInt ≠ -1) (c5 : xEv L xs d 150 0 [.ref 86, xmk, xmk, xmk] [] (124, I2, J2, R) none (124, I3, J3, R)) (c6 : xEv L xs d 159 0 [.ref 86, .int 0, .int 23] [] (124, I3, J3, R) (some (.int 1)) (124, I4, J4, R)) (n1 : 0 ≤ (16 + (I 88 4)).toInt) (m1 : (16 + (I 88 4)).toInt < 32) (n2 : 0 ≤ (16 + (I 88 4)).toInt) (m2 : (16 + (I 88 4)).toInt < 32) (n3 : 0 ≤ (16 + (I 88 4)).toInt) (m3 : (16 + (I 88 4)).toInt < 32) (n4 : 0 ≤ (16 + (I 88 4)).toInt) (m4 : (16 + (I 88 4)).toInt < 32) (c7 : xEv L xs d 161 0 [.ref 86, .int 5] [] (124, (uI (uI (uI (uI I4 92 (16 + (I 88 4)).toNatClampNeg a) 93 (16 + (I 88 4)).toNatClampNeg c) 94 (16 + (I 88 4)).toNatClampNeg (I4 86 11)) 95 (16 + (I 88 4)).toNatClampNeg 10), J4, R) (some (.int 0)) (124, (uI (uI (uI (uI I4 92 (16 + (I 88 4)).toNatClampNeg a) 93 (16 + (I 88 4)).toNatClampNeg c) 94 (16 + (I 88 4)).toNatClampNeg (I4 86 11)) 95 (16 + (I 88 4)).toNatClampNeg 10), J4, R)) : xEv L xs (d + 1) 162 0 [.ref 86, xmk, xmk, xmk] [] (124, I, J, R) (some (.int 1)) (124, (uI (uI (uI (uI (uI I4 92 (16 + (I 88 4)).toNatClampNeg a) 93 (16 + (I 88 4)).toNatClampNeg c) 94 (16 + (I 88 4)).toNatClampNeg (I4 86 11)) 95 (16 + (I 88 4)).toNatClampNeg 10) 88 4 ((I4 88 4) + 1)), J4, R) := by
  refine ev_go 1 (pc1 := 1) (lv1 := [.ref 86, xmk, xmk, xmk]) (st1 := [.ref 86]) (h1 := (124, I, J, R)) rfl ?_
  refine ev_gf (c := 86) (t := 88) (X := R 86 12) rfl rfl (fun _ => rfl) rfl (hG 86 12 88 rfl rfl) ?_
  refine ev_go 5 (pc1 := 10) (lv1 := [.ref 86, .int (I 88 4), xmk, xmk]) (st1 := [.int 16, .int (I 88 4)]) (h1 := (124, I, J, R)) rfl ?_
  refine ev_br (b1 := true) rfl rfl (xcd_ne (x := (I 88 4)) (y := 16) (by rw [show ((16 : Int32)).toInt = 16 from by decide]; first | exact b1 | omega)) ?_
  refine ev_go 1 (pc1 := 20) (lv1 := [.ref 86, .int (I 88 4), xmk, xmk]) (st1 := [.ref 86]) (h1 := (124, I, J, R)) rfl ?_
  refine ev_call (v1 := none) (h1 := (124, I1, J1, R)) rfl rfl c1 ?_
  refine ev_go 3 (pc1 := 28) (lv1 := [.ref 86, .int (I 88 4), xmk, xmk]) (st1 := [.int 1, .int (I1 86 3)]) (h1 := (124, I1, J1, R)) rfl ?_
  refine ev_br (b1 := true) rfl rfl (xcd_eq (x := (I1 86 3)) (y := 1) (by rw [show ((1 : Int32)).toInt = 1 from by decide]; first | exact b2 | omega)) ?_
  refine ev_go 1 (pc1 := 38) (lv1 := [.ref 86, .int (I 88 4), xmk, xmk]) (st1 := [.ref 86]) (h1 := (124, I1, J1, R)) rfl ?_
  refine ev_call (v1 := (some (.int a))) (h1 := (124, I1, J1, R)) rfl rfl c2 ?_
  refine ev_go 3 (pc1 := 44) (lv1 := [.ref 86, .int (I 88 4), .int a, xmk]) (st1 := [.int (-1), .int a]) (h1 := (124, I1, J1, R)) rfl ?_
  refine ev_br (b1 := true) rfl rfl (xcd_ne (x := a) (y := (-1)) (by rw [show ((-1 : Int32)).toInt = -1 from by decide]; first | exact b3 | omega)) ?_
  refine ev_go 1 (pc1 := 54) (lv1 := [.ref 86, .int (I 88 4), .int a, xmk]) (st1 := [.ref 86]) (h1 := (124, I1, J1, R)) rfl ?_
  refine ev_call (v1 := none) (h1 := (124, I2, J2, R)) rfl rfl c3 ?_
  refine ev_go 3 (pc1 := 62) (lv1 := [.ref 86, .int (I 88 4), .int a, xmk]) (st1 := [.int 1, .int (I2 86 3)]) (h1 := (124, I2, J2, R)) rfl ?_
  refine ev_br (b1 := true) rfl rfl (xcd_eq (x := (I2 86 3)) (y := 1) (by rw [show ((1 : Int32)).toInt = 1 from by decide]; first | exact b4 | omega)) ?_
  refine ev_go 1 (pc1 := 72) (lv1 := [.ref 86, .int (I 88 4), .int a, xmk]) (st1 := [.ref 86]) (h1 := (124, I2, J2, R)) rfl ?_
  refine ev_call (v1 := (some (.int c))) (h1 := (124, I2, J2, R)) rfl rfl c4 ?_
  refine ev_go 3 (pc1 := 78) (lv1 := [.ref 86, .int (I 88 4), .int a, .int c]) (st1 := [.int a, .int c]) (h1 := (124, I2, J2, R)) rfl ?_
  refine ev_br (b1 := true) rfl rfl (xcd_ne (x := c) (y := a) (by first | exact b5 | omega)) ?_
  refine ev_go 2 (pc1 := 89) (lv1 := [.ref 86, .int (I 88 4), .int a, .int c]) (st1 := [.int (-1), .int c]) (h1 := (124, I2, J2, R)) rfl ?_
  refine ev_br (b1 := true) rfl rfl (xcd_ne (x := c) (y := (-1)) (by rw [show ((-1 : Int32)).toInt = -1 from by decide]; first | exact b6 | omega)) ?_
  refine ev_go 1 (pc1 := 99) (lv1 := [.ref 86, .int (I 88 4), .int a, .int c]) (st1 := [.ref 86]) (h1 := (124, I2, J2, R)) rfl ?_
  refine ev_call (v1 := none) (h1 := (124, I3, J3, R)) rfl rfl c5 ?_
  refine ev_go 3 (pc1 := 106) (lv1 := [.ref 86, .int (I 88 4), .int a, .int c]) (st1 := [.int 23, .int 0, .ref 86]) (h1 := (124, I3, J3, R)) rfl ?_
  refine ev_call (v1 := (some (.int 1))) (h1 := (124, I4, J4, R)) rfl rfl c6 ?_
  refine ev_go 2 (pc1 := 115) (lv1 := [.ref 86, .int (I 88 4), .int a, .int c]) (st1 := [.ref 86]) (h1 := (124, I4, J4, R)) rfl ?_
  refine ev_gf (c := 86) (t := 92) (X := R 86 16) rfl rfl (fun _ => rfl) rfl (hG 86 16 92 rfl rfl) ?_
  refine ev_go 4 (pc1 := 123) (lv1 := [.ref 86, .int (I 88 4), .int a, .int c]) (st1 := [.int a, .int (16 + (I 88 4)), .ref 92]) (h1 := (124, I4, J4, R)) rfl ?_
  refine ev_ist (n := 32) rfl rfl (fun _ => rfl) n1 m1 ?_
  refine ev_go 1 (pc1 := 125) (lv1 := [.ref 86, .int (I 88 4), .int a, .int c]) (st1 := [.ref 86]) (h1 := (124, (uI I4 92 (16 + (I 88 4)).toNatClampNeg a), J4, R)) rfl ?_
  refine ev_gf (c := 86) (t := 93) (X := R 86 17) rfl rfl (fun _ => rfl) rfl (hG 86 17 93 rfl rfl) ?_
  refine ev_go 4 (pc1 := 133) (lv1 := [.ref 86, .int (I 88 4), .int a, .int c]) (st1 := [.int c, .int (16 + (I 88 4)), .ref 93]) (h1 := (124, (uI I4 92 (16 + (I 88 4)).toNatClampNeg a), J4, R)) rfl ?_
  refine ev_ist (n := 32) rfl rfl (fun _ => rfl) n2 m2 ?_
  refine ev_go 1 (pc1 := 135) (lv1 := [.ref 86, .int (I 88 4), .int a, .int c]) (st1 := [.ref 86]) (h1 := (124, (uI (uI I4 92 (16 + (I 88 4)).toNatClampNeg a) 93 (16 + (I 88 4)).toNatClampNeg c), J4, R)) rfl ?_
  refine ev_gf (c := 86) (t := 94) (X := R 86 18) rfl rfl (fun _ => rfl) rfl (hG 86 18 94 rfl rfl) ?_
  refine ev_go 5 (pc1 := 146) (lv1 := [.ref 86, .int (I 88 4), .int a, .int c]) (st1 := [.int (I4 86 11), .int (16 + (I 88 4)), .ref 94]) (h1 := (124, (uI (uI I4 92 (16 + (I 88 4)).toNatClampNeg a) 93 (16 + (I 88 4)).toNatClampNeg c), J4, R)) rfl ?_
  refine ev_ist (n := 32) rfl rfl (fun _ => rfl) n3 m3 ?_
  refine ev_go 1 (pc1 := 148) (lv1 := [.ref 86, .int (I 88 4), .int a, .int c]) (st1 := [.ref 86]) (h1 := (124, (uI (uI (uI I4 92 (16 + (I 88 4)).toNatClampNeg a) 93 (16 + (I 88 4)).toNatClampNeg c) 94 (16 + (I 88 4)).toNatClampNeg (I4 86 11)), J4, R)) rfl ?_
  refine ev_gf (c := 86) (t := 95) (X := R 86 19) rfl rfl (fun _ => rfl) rfl (hG 86 19 95 rfl rfl) ?_
  refine ev_go 4 (pc1 := 157) (lv1 := [.ref 86, .int (I 88 4), .int a, .int c]) (st1 := [.int 10, .int (16 + (I 88 4)), .ref 95]) (h1 := (124, (uI (uI (uI I4 92 (16 + (I 88 4)).toNatClampNeg a) 93 (16 + (I 88 4)).toNatClampNeg c) 94 (16 + (I 88 4)).toNatClampNeg (I4 86 11)), J4, R)) rfl ?_
  refine ev_ist (n := 32) rfl rfl (fun _ => rfl) n4 m4 ?_
  refine ev_go 2 (pc1 := 160) (lv1 := [.ref 86, .int (I 88 4), .int a, .int c]) (st1 := [.int 5, .ref 86]) (h1 := (124, (uI (uI (uI (uI I4 92 (16 + (I 88 4)).toNatClampNeg a) 93 (16 + (I 88 4)).toNatClampNeg c) 94 (16 + (I 88 4)).toNatClampNeg (I4 86 11)) 95 (16 + (I 88 4)).toNatClampNeg 10), J4, R)) rfl ?_
  refine ev_call (v1 := (some (.int 0))) (h1 := (124, (uI (uI (uI (uI I4 92 (16 + (I 88 4)).toNatClampNeg a) 93 (16 + (I 88 4)).toNatClampNeg c) 94 (16 + (I 88 4)).toNatClampNeg (I4 86 11)) 95 (16 + (I 88 4)).toNatClampNeg 10), J4, R)) rfl rfl c7 ?_
  refine ev_go 2 (pc1 := 196) (lv1 := [.ref 86, .int (I 88 4), .int a, .int c]) (st1 := [.ref 86]) (h1 := (124, (uI (uI (uI (uI I4 92 (16 + (I 88 4)).toNatClampNeg a) 93 (16 + (I 88 4)).toNatClampNeg c) 94 (16 + (I 88 4)).toNatClampNeg (I4 86 11)) 95 (16 + (I 88 4)).toNatClampNeg 10), J4, R)) rfl ?_
  refine ev_gf (c := 86) (t := 88) (X := R 86 12) rfl rfl (fun _ => rfl) rfl (hG 86 12 88 rfl rfl) ?_
  refine ev_go 7 (pc1 := 206) (lv1 := [.ref 86, .int (I 88 4), .int a, .int c]) (st1 := [.int 1]) (h1 := (124, (uI (uI (uI (uI (uI I4 92 (16 + (I 88 4)).toNatClampNeg a) 93 (16 + (I 88 4)).toNatClampNeg c) 94 (16 + (I 88 4)).toNatClampNeg (I4 86 11)) 95 (16 + (I 88 4)).toNatClampNeg 10) 88 4 ((I4 88 4) + 1)), J4, R)) rfl ?_
  exact ev_ret rfl rfl
set_option maxRecDepth 20000 in
theorem mm_8 {L : Nat} {xs : Nat → Int32} {d : Nat} {I : Nat → Nat → Int32} {J : Nat → Nat → Int64} {R : Nat → Nat → Nat} {I1 : Nat → Nat → Int32} {J1 : Nat → Nat → Int64} {I2 : Nat → Nat → Int32} {J2 : Nat → Nat → Int64} {I3 : Nat → Nat → Int32} {J3 : Nat → Nat → Int64} {I4 : Nat → Nat → Int32} {J4 : Nat → Nat → Int64} {I5 : Nat → Nat → Int32} {J5 : Nat → Nat → Int64} {I6 : Nat → Nat → Int32} {J6 : Nat → Nat → Int64} {a c : Int32} (hG : aGd R) (b1 : (I 88 4).toInt ≠ 16) (c1 : xEv L xs d 150 0 [.ref 86, xmk, xmk, xmk] [] (124, I, J, R) none (124, I1, J1, R)) (b2 : (I1 86 3).toInt = 1) (c2 : xEv L xs d 158 0 [.ref 86, xmk] [] (124, I1, J1, R) (some (.int a)) (124, I1, J1, R)) (b3 : a.toInt ≠ -1) (c3 : xEv L xs d 150 0 [.ref 86, xmk, xmk, xmk] [] (124, I1, J1, R) none (124, I2, J2, R)) (b4 : (I2 86 3).toInt = 1) (c4 : xEv L xs d 158 0 [.ref 86, xmk] [] (124, I2, J2, R) (some (.int c)) (124, I2, J2, R)) (b5 : c.toInt ≠ a.toInt) (b6 : c.toInt ≠ -1) (c5 : xEv L xs d 150 0 [.ref 86, xmk, xmk, xmk] [] (124, I2, J2, R) none (124, I3, J3, R)) (c6 : xEv L xs d 159 0 [.ref 86, .int 0, .int 23] [] (124, I3, J3, R) (some (.int 1)) (124, I4, J4, R)) (n1 : 0 ≤ (16 + (I 88 4)).toInt) (m1 : (16 + (I 88 4)).toInt < 32) (n2 : 0 ≤ (16 + (I 88 4)).toInt) (m2 : (16 + (I 88 4)).toInt < 32) (n3 : 0 ≤ (16 + (I 88 4)).toInt) (m3 : (16 + (I 88 4)).toInt < 32) (n4 : 0 ≤ (16 + (I 88 4)).toInt) (m4 : (16 + (I 88 4)).toInt < 32) (c7 : xEv L xs d 161 0 [.ref 86, .int 5] [] (124, (uI (uI (uI (uI I4 92 (16 + (I 88 4)).toNatClampNeg a) 93 (16 + (I 88 4)).toNatClampNeg c) 94 (16 + (I 88 4)).toNatClampNeg (I4 86 11)) 95 (16 + (I 88 4)).toNatClampNeg 10), J4, R) (some (.int 1)) (124, (uI (uI (uI (uI I4 92 (16 + (I 88 4)).toNatClampNeg a) 93 (16 + (I 88 4)).toNatClampNeg c) 94 (16 + (I 88 4)).toNatClampNeg (I4 86 11)) 95 (16 + (I 88 4)).toNatClampNeg 10), J4, R)) (c8 : xEv L xs d 150 0 [.ref 86, xmk, xmk, xmk] [] (124, (uI (uI (uI (uI I4 92 (16 + (I 88 4)).toNatClampNeg a) 93 (16 + (I 88 4)).toNatClampNeg c) 94 (16 + (I 88 4)).toNatClampNeg (I4 86 11)) 95 (16 + (I 88 4)).toNatClampNeg 10), J4, R) none (124, I5, J5, R)) (c9 : xEv L xs d 159 0 [.ref 86, .int 1, .int 10] [] (124, I5, J5, R) (some (.int 0)) (124, I6, J6, R)) : xEv L xs (d + 1) 162 0 [.ref 86, xmk, xmk, xmk] [] (124, I, J, R) (some (.int 0)) (124, I6, J6, R) := by
  refine ev_go 1 (pc1 := 1) (lv1 := [.ref 86, xmk, xmk, xmk]) (st1 := [.ref 86]) (h1 := (124, I, J, R)) rfl ?_
  refine ev_gf (c := 86) (t := 88) (X := R 86 12) rfl rfl (fun _ => rfl) rfl (hG 86 12 88 rfl rfl) ?_
  refine ev_go 5 (pc1 := 10) (lv1 := [.ref 86, .int (I 88 4), xmk, xmk]) (st1 := [.int 16, .int (I 88 4)]) (h1 := (124, I, J, R)) rfl ?_
  refine ev_br (b1 := true) rfl rfl (xcd_ne (x := (I 88 4)) (y := 16) (by rw [show ((16 : Int32)).toInt = 16 from by decide]; first | exact b1 | omega)) ?_
  refine ev_go 1 (pc1 := 20) (lv1 := [.ref 86, .int (I 88 4), xmk, xmk]) (st1 := [.ref 86]) (h1 := (124, I, J, R)) rfl ?_
  refine ev_call (v1 := none) (h1 := (124, I1, J1, R)) rfl rfl c1 ?_
  refine ev_go 3 (pc1 := 28) (lv1 := [.ref 86, .int (I 88 4), xmk, xmk]) (st1 := [.int 1, .int (I1 86 3)]) (h1 := (124, I1, J1, R)) rfl ?_
  refine ev_br (b1 := true) rfl rfl (xcd_eq (x := (I1 86 3)) (y := 1) (by rw [show ((1 : Int32)).toInt = 1 from by decide]; first | exact b2 | omega)) ?_
  refine ev_go 1 (pc1 := 38) (lv1 := [.ref 86, .int (I 88 4), xmk, xmk]) (st1 := [.ref 86]) (h1 := (124, I1, J1, R)) rfl ?_
  refine ev_call (v1 := (some (.int a))) (h1 := (124, I1, J1, R)) rfl rfl c2 ?_
  refine ev_go 3 (pc1 := 44) (lv1 := [.ref 86, .int (I 88 4), .int a, xmk]) (st1 := [.int (-1), .int a]) (h1 := (124, I1, J1, R)) rfl ?_
  refine ev_br (b1 := true) rfl rfl (xcd_ne (x := a) (y := (-1)) (by rw [show ((-1 : Int32)).toInt = -1 from by decide]; first | exact b3 | omega)) ?_
  refine ev_go 1 (pc1 := 54) (lv1 := [.ref 86, .int (I 88 4), .int a, xmk]) (st1 := [.ref 86]) (h1 := (124, I1, J1, R)) rfl ?_
  refine ev_call (v1 := none) (h1 := (124, I2, J2, R)) rfl rfl c3 ?_
  refine ev_go 3 (pc1 := 62) (lv1 := [.ref 86, .int (I 88 4), .int a, xmk]) (st1 := [.int 1, .int (I2 86 3)]) (h1 := (124, I2, J2, R)) rfl ?_
  refine ev_br (b1 := true) rfl rfl (xcd_eq (x := (I2 86 3)) (y := 1) (by rw [show ((1 : Int32)).toInt = 1 from by decide]; first | exact b4 | omega)) ?_
  refine ev_go 1 (pc1 := 72) (lv1 := [.ref 86, .int (I 88 4), .int a, xmk]) (st1 := [.ref 86]) (h1 := (124, I2, J2, R)) rfl ?_
  refine ev_call (v1 := (some (.int c))) (h1 := (124, I2, J2, R)) rfl rfl c4 ?_
  refine ev_go 3 (pc1 := 78) (lv1 := [.ref 86, .int (I 88 4), .int a, .int c]) (st1 := [.int a, .int c]) (h1 := (124, I2, J2, R)) rfl ?_
  refine ev_br (b1 := true) rfl rfl (xcd_ne (x := c) (y := a) (by first | exact b5 | omega)) ?_
  refine ev_go 2 (pc1 := 89) (lv1 := [.ref 86, .int (I 88 4), .int a, .int c]) (st1 := [.int (-1), .int c]) (h1 := (124, I2, J2, R)) rfl ?_
  refine ev_br (b1 := true) rfl rfl (xcd_ne (x := c) (y := (-1)) (by rw [show ((-1 : Int32)).toInt = -1 from by decide]; first | exact b6 | omega)) ?_
  refine ev_go 1 (pc1 := 99) (lv1 := [.ref 86, .int (I 88 4), .int a, .int c]) (st1 := [.ref 86]) (h1 := (124, I2, J2, R)) rfl ?_
  refine ev_call (v1 := none) (h1 := (124, I3, J3, R)) rfl rfl c5 ?_
  refine ev_go 3 (pc1 := 106) (lv1 := [.ref 86, .int (I 88 4), .int a, .int c]) (st1 := [.int 23, .int 0, .ref 86]) (h1 := (124, I3, J3, R)) rfl ?_
  refine ev_call (v1 := (some (.int 1))) (h1 := (124, I4, J4, R)) rfl rfl c6 ?_
  refine ev_go 2 (pc1 := 115) (lv1 := [.ref 86, .int (I 88 4), .int a, .int c]) (st1 := [.ref 86]) (h1 := (124, I4, J4, R)) rfl ?_
  refine ev_gf (c := 86) (t := 92) (X := R 86 16) rfl rfl (fun _ => rfl) rfl (hG 86 16 92 rfl rfl) ?_
  refine ev_go 4 (pc1 := 123) (lv1 := [.ref 86, .int (I 88 4), .int a, .int c]) (st1 := [.int a, .int (16 + (I 88 4)), .ref 92]) (h1 := (124, I4, J4, R)) rfl ?_
  refine ev_ist (n := 32) rfl rfl (fun _ => rfl) n1 m1 ?_
  refine ev_go 1 (pc1 := 125) (lv1 := [.ref 86, .int (I 88 4), .int a, .int c]) (st1 := [.ref 86]) (h1 := (124, (uI I4 92 (16 + (I 88 4)).toNatClampNeg a), J4, R)) rfl ?_
  refine ev_gf (c := 86) (t := 93) (X := R 86 17) rfl rfl (fun _ => rfl) rfl (hG 86 17 93 rfl rfl) ?_
  refine ev_go 4 (pc1 := 133) (lv1 := [.ref 86, .int (I 88 4), .int a, .int c]) (st1 := [.int c, .int (16 + (I 88 4)), .ref 93]) (h1 := (124, (uI I4 92 (16 + (I 88 4)).toNatClampNeg a), J4, R)) rfl ?_
  refine ev_ist (n := 32) rfl rfl (fun _ => rfl) n2 m2 ?_
  refine ev_go 1 (pc1 := 135) (lv1 := [.ref 86, .int (I 88 4), .int a, .int c]) (st1 := [.ref 86]) (h1 := (124, (uI (uI I4 92 (16 + (I 88 4)).toNatClampNeg a) 93 (16 + (I 88 4)).toNatClampNeg c), J4, R)) rfl ?_
  refine ev_gf (c := 86) (t := 94) (X := R 86 18) rfl rfl (fun _ => rfl) rfl (hG 86 18 94 rfl rfl) ?_
  refine ev_go 5 (pc1 := 146) (lv1 := [.ref 86, .int (I 88 4), .int a, .int c]) (st1 := [.int (I4 86 11), .int (16 + (I 88 4)), .ref 94]) (h1 := (124, (uI (uI I4 92 (16 + (I 88 4)).toNatClampNeg a) 93 (16 + (I 88 4)).toNatClampNeg c), J4, R)) rfl ?_
  refine ev_ist (n := 32) rfl rfl (fun _ => rfl) n3 m3 ?_
  refine ev_go 1 (pc1 := 148) (lv1 := [.ref 86, .int (I 88 4), .int a, .int c]) (st1 := [.ref 86]) (h1 := (124, (uI (uI (uI I4 92 (16 + (I 88 4)).toNatClampNeg a) 93 (16 + (I 88 4)).toNatClampNeg c) 94 (16 + (I 88 4)).toNatClampNeg (I4 86 11)), J4, R)) rfl ?_
  refine ev_gf (c := 86) (t := 95) (X := R 86 19) rfl rfl (fun _ => rfl) rfl (hG 86 19 95 rfl rfl) ?_
  refine ev_go 4 (pc1 := 157) (lv1 := [.ref 86, .int (I 88 4), .int a, .int c]) (st1 := [.int 10, .int (16 + (I 88 4)), .ref 95]) (h1 := (124, (uI (uI (uI I4 92 (16 + (I 88 4)).toNatClampNeg a) 93 (16 + (I 88 4)).toNatClampNeg c) 94 (16 + (I 88 4)).toNatClampNeg (I4 86 11)), J4, R)) rfl ?_
  refine ev_ist (n := 32) rfl rfl (fun _ => rfl) n4 m4 ?_
  refine ev_go 2 (pc1 := 160) (lv1 := [.ref 86, .int (I 88 4), .int a, .int c]) (st1 := [.int 5, .ref 86]) (h1 := (124, (uI (uI (uI (uI I4 92 (16 + (I 88 4)).toNatClampNeg a) 93 (16 + (I 88 4)).toNatClampNeg c) 94 (16 + (I 88 4)).toNatClampNeg (I4 86 11)) 95 (16 + (I 88 4)).toNatClampNeg 10), J4, R)) rfl ?_
  refine ev_call (v1 := (some (.int 1))) (h1 := (124, (uI (uI (uI (uI I4 92 (16 + (I 88 4)).toNatClampNeg a) 93 (16 + (I 88 4)).toNatClampNeg c) 94 (16 + (I 88 4)).toNatClampNeg (I4 86 11)) 95 (16 + (I 88 4)).toNatClampNeg 10), J4, R)) rfl rfl c7 ?_
  refine ev_go 2 (pc1 := 167) (lv1 := [.ref 86, .int (I 88 4), .int a, .int c]) (st1 := [.ref 86]) (h1 := (124, (uI (uI (uI (uI I4 92 (16 + (I 88 4)).toNatClampNeg a) 93 (16 + (I 88 4)).toNatClampNeg c) 94 (16 + (I 88 4)).toNatClampNeg (I4 86 11)) 95 (16 + (I 88 4)).toNatClampNeg 10), J4, R)) rfl ?_
  refine ev_call (v1 := none) (h1 := (124, I5, J5, R)) rfl rfl c8 ?_
  refine ev_go 3 (pc1 := 174) (lv1 := [.ref 86, .int (I 88 4), .int a, .int c]) (st1 := [.int 10, .int 1, .ref 86]) (h1 := (124, I5, J5, R)) rfl ?_
  refine ev_call (v1 := (some (.int 0))) (h1 := (124, I6, J6, R)) rfl rfl c9 ?_
  refine ev_go 2 (pc1 := 181) (lv1 := [.ref 86, .int (I 88 4), .int a, .int c]) (st1 := [.int 0]) (h1 := (124, I6, J6, R)) rfl ?_
  exact ev_ret rfl rfl
set_option maxRecDepth 20000 in
theorem mm_9 {L : Nat} {xs : Nat → Int32} {d : Nat} {I : Nat → Nat → Int32} {J : Nat → Nat → Int64} {R : Nat → Nat → Nat} {I1 : Nat → Nat → Int32} {J1 : Nat → Nat → Int64} {I2 : Nat → Nat → Int32} {J2 : Nat → Nat → Int64} {I3 : Nat → Nat → Int32} {J3 : Nat → Nat → Int64} {I4 : Nat → Nat → Int32} {J4 : Nat → Nat → Int64} {I5 : Nat → Nat → Int32} {J5 : Nat → Nat → Int64} {I6 : Nat → Nat → Int32} {J6 : Nat → Nat → Int64} {a c : Int32} (hG : aGd R) (b1 : (I 88 4).toInt ≠ 16) (c1 : xEv L xs d 150 0 [.ref 86, xmk, xmk, xmk] [] (124, I, J, R) none (124, I1, J1, R)) (b2 : (I1 86 3).toInt = 1) (c2 : xEv L xs d 158 0 [.ref 86, xmk] [] (124, I1, J1, R) (some (.int a)) (124, I1, J1, R)) (b3 : a.toInt ≠ -1) (c3 : xEv L xs d 150 0 [.ref 86, xmk, xmk, xmk] [] (124, I1, J1, R) none (124, I2, J2, R)) (b4 : (I2 86 3).toInt = 1) (c4 : xEv L xs d 158 0 [.ref 86, xmk] [] (124, I2, J2, R) (some (.int c)) (124, I2, J2, R)) (b5 : c.toInt ≠ a.toInt) (b6 : c.toInt ≠ -1) (c5 : xEv L xs d 150 0 [.ref 86, xmk, xmk, xmk] [] (124, I2, J2, R) none (124, I3, J3, R)) (c6 : xEv L xs d 159 0 [.ref 86, .int 0, .int 23] [] (124, I3, J3, R) (some (.int 1)) (124, I4, J4, R)) (n1 : 0 ≤ (16 + (I 88 4)).toInt) (m1 : (16 + (I 88 4)).toInt < 32) (n2 : 0 ≤ (16 + (I 88 4)).toInt) (m2 : (16 + (I 88 4)).toInt < 32) (n3 : 0 ≤ (16 + (I 88 4)).toInt) (m3 : (16 + (I 88 4)).toInt < 32) (n4 : 0 ≤ (16 + (I 88 4)).toInt) (m4 : (16 + (I 88 4)).toInt < 32) (c7 : xEv L xs d 161 0 [.ref 86, .int 5] [] (124, (uI (uI (uI (uI I4 92 (16 + (I 88 4)).toNatClampNeg a) 93 (16 + (I 88 4)).toNatClampNeg c) 94 (16 + (I 88 4)).toNatClampNeg (I4 86 11)) 95 (16 + (I 88 4)).toNatClampNeg 10), J4, R) (some (.int 1)) (124, (uI (uI (uI (uI I4 92 (16 + (I 88 4)).toNatClampNeg a) 93 (16 + (I 88 4)).toNatClampNeg c) 94 (16 + (I 88 4)).toNatClampNeg (I4 86 11)) 95 (16 + (I 88 4)).toNatClampNeg 10), J4, R)) (c8 : xEv L xs d 150 0 [.ref 86, xmk, xmk, xmk] [] (124, (uI (uI (uI (uI I4 92 (16 + (I 88 4)).toNatClampNeg a) 93 (16 + (I 88 4)).toNatClampNeg c) 94 (16 + (I 88 4)).toNatClampNeg (I4 86 11)) 95 (16 + (I 88 4)).toNatClampNeg 10), J4, R) none (124, I5, J5, R)) (c9 : xEv L xs d 159 0 [.ref 86, .int 1, .int 10] [] (124, I5, J5, R) (some (.int 1)) (124, I6, J6, R)) (n5 : 0 ≤ (16 + (I 88 4)).toInt) (m5 : (16 + (I 88 4)).toInt < 32) : xEv L xs (d + 1) 162 0 [.ref 86, xmk, xmk, xmk] [] (124, I, J, R) (some (.int 1)) (124, (uI (uI I6 95 (16 + (I 88 4)).toNatClampNeg (I6 86 11)) 88 4 ((I6 88 4) + 1)), J6, R) := by
  refine ev_go 1 (pc1 := 1) (lv1 := [.ref 86, xmk, xmk, xmk]) (st1 := [.ref 86]) (h1 := (124, I, J, R)) rfl ?_
  refine ev_gf (c := 86) (t := 88) (X := R 86 12) rfl rfl (fun _ => rfl) rfl (hG 86 12 88 rfl rfl) ?_
  refine ev_go 5 (pc1 := 10) (lv1 := [.ref 86, .int (I 88 4), xmk, xmk]) (st1 := [.int 16, .int (I 88 4)]) (h1 := (124, I, J, R)) rfl ?_
  refine ev_br (b1 := true) rfl rfl (xcd_ne (x := (I 88 4)) (y := 16) (by rw [show ((16 : Int32)).toInt = 16 from by decide]; first | exact b1 | omega)) ?_
  refine ev_go 1 (pc1 := 20) (lv1 := [.ref 86, .int (I 88 4), xmk, xmk]) (st1 := [.ref 86]) (h1 := (124, I, J, R)) rfl ?_
  refine ev_call (v1 := none) (h1 := (124, I1, J1, R)) rfl rfl c1 ?_
  refine ev_go 3 (pc1 := 28) (lv1 := [.ref 86, .int (I 88 4), xmk, xmk]) (st1 := [.int 1, .int (I1 86 3)]) (h1 := (124, I1, J1, R)) rfl ?_
  refine ev_br (b1 := true) rfl rfl (xcd_eq (x := (I1 86 3)) (y := 1) (by rw [show ((1 : Int32)).toInt = 1 from by decide]; first | exact b2 | omega)) ?_
  refine ev_go 1 (pc1 := 38) (lv1 := [.ref 86, .int (I 88 4), xmk, xmk]) (st1 := [.ref 86]) (h1 := (124, I1, J1, R)) rfl ?_
  refine ev_call (v1 := (some (.int a))) (h1 := (124, I1, J1, R)) rfl rfl c2 ?_
  refine ev_go 3 (pc1 := 44) (lv1 := [.ref 86, .int (I 88 4), .int a, xmk]) (st1 := [.int (-1), .int a]) (h1 := (124, I1, J1, R)) rfl ?_
  refine ev_br (b1 := true) rfl rfl (xcd_ne (x := a) (y := (-1)) (by rw [show ((-1 : Int32)).toInt = -1 from by decide]; first | exact b3 | omega)) ?_
  refine ev_go 1 (pc1 := 54) (lv1 := [.ref 86, .int (I 88 4), .int a, xmk]) (st1 := [.ref 86]) (h1 := (124, I1, J1, R)) rfl ?_
  refine ev_call (v1 := none) (h1 := (124, I2, J2, R)) rfl rfl c3 ?_
  refine ev_go 3 (pc1 := 62) (lv1 := [.ref 86, .int (I 88 4), .int a, xmk]) (st1 := [.int 1, .int (I2 86 3)]) (h1 := (124, I2, J2, R)) rfl ?_
  refine ev_br (b1 := true) rfl rfl (xcd_eq (x := (I2 86 3)) (y := 1) (by rw [show ((1 : Int32)).toInt = 1 from by decide]; first | exact b4 | omega)) ?_
  refine ev_go 1 (pc1 := 72) (lv1 := [.ref 86, .int (I 88 4), .int a, xmk]) (st1 := [.ref 86]) (h1 := (124, I2, J2, R)) rfl ?_
  refine ev_call (v1 := (some (.int c))) (h1 := (124, I2, J2, R)) rfl rfl c4 ?_
  refine ev_go 3 (pc1 := 78) (lv1 := [.ref 86, .int (I 88 4), .int a, .int c]) (st1 := [.int a, .int c]) (h1 := (124, I2, J2, R)) rfl ?_
  refine ev_br (b1 := true) rfl rfl (xcd_ne (x := c) (y := a) (by first | exact b5 | omega)) ?_
  refine ev_go 2 (pc1 := 89) (lv1 := [.ref 86, .int (I 88 4), .int a, .int c]) (st1 := [.int (-1), .int c]) (h1 := (124, I2, J2, R)) rfl ?_
  refine ev_br (b1 := true) rfl rfl (xcd_ne (x := c) (y := (-1)) (by rw [show ((-1 : Int32)).toInt = -1 from by decide]; first | exact b6 | omega)) ?_
  refine ev_go 1 (pc1 := 99) (lv1 := [.ref 86, .int (I 88 4), .int a, .int c]) (st1 := [.ref 86]) (h1 := (124, I2, J2, R)) rfl ?_
  refine ev_call (v1 := none) (h1 := (124, I3, J3, R)) rfl rfl c5 ?_
  refine ev_go 3 (pc1 := 106) (lv1 := [.ref 86, .int (I 88 4), .int a, .int c]) (st1 := [.int 23, .int 0, .ref 86]) (h1 := (124, I3, J3, R)) rfl ?_
  refine ev_call (v1 := (some (.int 1))) (h1 := (124, I4, J4, R)) rfl rfl c6 ?_
  refine ev_go 2 (pc1 := 115) (lv1 := [.ref 86, .int (I 88 4), .int a, .int c]) (st1 := [.ref 86]) (h1 := (124, I4, J4, R)) rfl ?_
  refine ev_gf (c := 86) (t := 92) (X := R 86 16) rfl rfl (fun _ => rfl) rfl (hG 86 16 92 rfl rfl) ?_
  refine ev_go 4 (pc1 := 123) (lv1 := [.ref 86, .int (I 88 4), .int a, .int c]) (st1 := [.int a, .int (16 + (I 88 4)), .ref 92]) (h1 := (124, I4, J4, R)) rfl ?_
  refine ev_ist (n := 32) rfl rfl (fun _ => rfl) n1 m1 ?_
  refine ev_go 1 (pc1 := 125) (lv1 := [.ref 86, .int (I 88 4), .int a, .int c]) (st1 := [.ref 86]) (h1 := (124, (uI I4 92 (16 + (I 88 4)).toNatClampNeg a), J4, R)) rfl ?_
  refine ev_gf (c := 86) (t := 93) (X := R 86 17) rfl rfl (fun _ => rfl) rfl (hG 86 17 93 rfl rfl) ?_
  refine ev_go 4 (pc1 := 133) (lv1 := [.ref 86, .int (I 88 4), .int a, .int c]) (st1 := [.int c, .int (16 + (I 88 4)), .ref 93]) (h1 := (124, (uI I4 92 (16 + (I 88 4)).toNatClampNeg a), J4, R)) rfl ?_
  refine ev_ist (n := 32) rfl rfl (fun _ => rfl) n2 m2 ?_
  refine ev_go 1 (pc1 := 135) (lv1 := [.ref 86, .int (I 88 4), .int a, .int c]) (st1 := [.ref 86]) (h1 := (124, (uI (uI I4 92 (16 + (I 88 4)).toNatClampNeg a) 93 (16 + (I 88 4)).toNatClampNeg c), J4, R)) rfl ?_
  refine ev_gf (c := 86) (t := 94) (X := R 86 18) rfl rfl (fun _ => rfl) rfl (hG 86 18 94 rfl rfl) ?_
  refine ev_go 5 (pc1 := 146) (lv1 := [.ref 86, .int (I 88 4), .int a, .int c]) (st1 := [.int (I4 86 11), .int (16 + (I 88 4)), .ref 94]) (h1 := (124, (uI (uI I4 92 (16 + (I 88 4)).toNatClampNeg a) 93 (16 + (I 88 4)).toNatClampNeg c), J4, R)) rfl ?_
  refine ev_ist (n := 32) rfl rfl (fun _ => rfl) n3 m3 ?_
  refine ev_go 1 (pc1 := 148) (lv1 := [.ref 86, .int (I 88 4), .int a, .int c]) (st1 := [.ref 86]) (h1 := (124, (uI (uI (uI I4 92 (16 + (I 88 4)).toNatClampNeg a) 93 (16 + (I 88 4)).toNatClampNeg c) 94 (16 + (I 88 4)).toNatClampNeg (I4 86 11)), J4, R)) rfl ?_
  refine ev_gf (c := 86) (t := 95) (X := R 86 19) rfl rfl (fun _ => rfl) rfl (hG 86 19 95 rfl rfl) ?_
  refine ev_go 4 (pc1 := 157) (lv1 := [.ref 86, .int (I 88 4), .int a, .int c]) (st1 := [.int 10, .int (16 + (I 88 4)), .ref 95]) (h1 := (124, (uI (uI (uI I4 92 (16 + (I 88 4)).toNatClampNeg a) 93 (16 + (I 88 4)).toNatClampNeg c) 94 (16 + (I 88 4)).toNatClampNeg (I4 86 11)), J4, R)) rfl ?_
  refine ev_ist (n := 32) rfl rfl (fun _ => rfl) n4 m4 ?_
  refine ev_go 2 (pc1 := 160) (lv1 := [.ref 86, .int (I 88 4), .int a, .int c]) (st1 := [.int 5, .ref 86]) (h1 := (124, (uI (uI (uI (uI I4 92 (16 + (I 88 4)).toNatClampNeg a) 93 (16 + (I 88 4)).toNatClampNeg c) 94 (16 + (I 88 4)).toNatClampNeg (I4 86 11)) 95 (16 + (I 88 4)).toNatClampNeg 10), J4, R)) rfl ?_
  refine ev_call (v1 := (some (.int 1))) (h1 := (124, (uI (uI (uI (uI I4 92 (16 + (I 88 4)).toNatClampNeg a) 93 (16 + (I 88 4)).toNatClampNeg c) 94 (16 + (I 88 4)).toNatClampNeg (I4 86 11)) 95 (16 + (I 88 4)).toNatClampNeg 10), J4, R)) rfl rfl c7 ?_
  refine ev_go 2 (pc1 := 167) (lv1 := [.ref 86, .int (I 88 4), .int a, .int c]) (st1 := [.ref 86]) (h1 := (124, (uI (uI (uI (uI I4 92 (16 + (I 88 4)).toNatClampNeg a) 93 (16 + (I 88 4)).toNatClampNeg c) 94 (16 + (I 88 4)).toNatClampNeg (I4 86 11)) 95 (16 + (I 88 4)).toNatClampNeg 10), J4, R)) rfl ?_
  refine ev_call (v1 := none) (h1 := (124, I5, J5, R)) rfl rfl c8 ?_
  refine ev_go 3 (pc1 := 174) (lv1 := [.ref 86, .int (I 88 4), .int a, .int c]) (st1 := [.int 10, .int 1, .ref 86]) (h1 := (124, I5, J5, R)) rfl ?_
  refine ev_call (v1 := (some (.int 1))) (h1 := (124, I6, J6, R)) rfl rfl c9 ?_
  refine ev_go 2 (pc1 := 183) (lv1 := [.ref 86, .int (I 88 4), .int a, .int c]) (st1 := [.ref 86]) (h1 := (124, I6, J6, R)) rfl ?_
  refine ev_gf (c := 86) (t := 95) (X := R 86 19) rfl rfl (fun _ => rfl) rfl (hG 86 19 95 rfl rfl) ?_
  refine ev_go 5 (pc1 := 194) (lv1 := [.ref 86, .int (I 88 4), .int a, .int c]) (st1 := [.int (I6 86 11), .int (16 + (I 88 4)), .ref 95]) (h1 := (124, I6, J6, R)) rfl ?_
  refine ev_ist (n := 32) rfl rfl (fun _ => rfl) n5 m5 ?_
  refine ev_go 1 (pc1 := 196) (lv1 := [.ref 86, .int (I 88 4), .int a, .int c]) (st1 := [.ref 86]) (h1 := (124, (uI I6 95 (16 + (I 88 4)).toNatClampNeg (I6 86 11)), J6, R)) rfl ?_
  refine ev_gf (c := 86) (t := 88) (X := R 86 12) rfl rfl (fun _ => rfl) rfl (hG 86 12 88 rfl rfl) ?_
  refine ev_go 7 (pc1 := 206) (lv1 := [.ref 86, .int (I 88 4), .int a, .int c]) (st1 := [.int 1]) (h1 := (124, (uI (uI I6 95 (16 + (I 88 4)).toNatClampNeg (I6 86 11)) 88 4 ((I6 88 4) + 1)), J6, R)) rfl ?_
  exact ev_ret rfl rfl
section ME3
variable {L : Nat} {xs : Nat → Int32} {d d' : Nat} {R Rr : Nat → Nat → Nat}
theorem mtd37_3 {I : Nat → Nat → Int32} {J : Nat → Nat → Int64} (hG : aGd R) (h0 : (I 43 2).toInt ≠ 0) (a c y : Int32) (u4 : Value) : xEv L xs (d + 2) 34 37 [.ref 43, .int a, .int c, .int y, u4] [] (124, I, J, R) none (124, I, J, R) := mtD37_3 hG (ro_dead_5 hG h0 _ _ _) (mtD50_3 hG h0)
theorem mtd29_3 {I : Nat → Nat → Int32} {J : Nat → Nat → Int64} (hG : aGd R) (h0 : (I 43 2).toInt ≠ 0) (a c : Int32) (u3 u4 : Value) : xEv L xs (d + 2) 34 29 [.ref 43, .int a, .int c, u3, u4] [] (124, I, J, R) none (124, I, J, R) := by
  obtain ⟨z, c1⟩ := nu_dead (L := L) (xs := xs) (d := d) (I := I) (J := J) hG h0 0 23
  exact mtD29_3 hG c1 (mtd37_3 hG h0 _ _ _ _)
theorem mtd23_3 {I : Nat → Nat → Int32} {J : Nat → Nat → Int64} (hG : aGd R) (hR : R 43 1 = 4) {m : Nat} (hm : (I 3 14).toInt = m) (hm7 : m ≤ 7) (h0 : (I 43 2).toInt ≠ 0) (a : Int32) (u2 u3 u4 : Value) : xEv L xs (d + 2) 34 23 [.ref 43, .int a, u2, u3, u4] [] (124, I, J, R) none (124, I, J, R) := by
  obtain ⟨z, c1⟩ := pb_dead_3 (L := L) (xs := xs) (d := d) (J := J) hG hR hm hm7 h0 a
  exact mtD23_3 hG c1 (mtd29_3 hG h0 _ _ _ _)
theorem mtd17_3 {I : Nat → Nat → Int32} {J : Nat → Nat → Int64} (hG : aGd R) (hR : R 43 1 = 4) {m : Nat} (hm : (I 3 14).toInt = m) (hm7 : m ≤ 7) (h0 : (I 43 2).toInt ≠ 0) (u1 u2 u3 u4 : Value) : xEv L xs (d + 2) 34 17 [.ref 43, u1, u2, u3, u4] [] (124, I, J, R) none (124, I, J, R) := by
  obtain ⟨z, c1⟩ := pb_dead_3 (L := L) (xs := xs) (d := d) (J := J) hG hR hm hm7 h0 (-1)
  exact mtD17_3 hG c1 (mtd23_3 hG hR hm hm7 h0 _ _ _ _)
theorem am_run_3 {I : Nat → Nat → Int32} {J : Nat → Nat → Int64} (hG : aGd R) (h0 : 0 ≤ (I 3 15).toInt) (h7 : (I 3 15).toInt < 16) (a c y x : Int32) : xEv L xs (d + 1) 36 0 [.ref 3, .int a, .int c, .int y, .int x] [] (124, I, J, R) none (124, uI (uI (uI (uI (uI I 7 (I 3 15).toNatClampNeg a) 8 (I 3 15).toNatClampNeg c) 9 (I 3 15).toNatClampNeg y) 10 (I 3 15).toNatClampNeg x) 3 15 (I 3 15 + 1), J, R) := am_3 hG (put_in (fun _ => rfl) (by decide) a h0 h7) (put_in (fun _ => rfl) (by decide) c h0 h7) (put_in (fun _ => rfl) (by decide) y h0 h7) (put_in (fun _ => rfl) (by decide) x h0 h7)
/-- the village with one meeting more -/
theorem PR_t_3 {b : Nat → Int32} {np nm nn : Nat} {Ic Ir : Nat → Nat → Int32} {Jc Jr : Nat → Nat → Int64} {Ic' Ir' : Nat → Nat → Int32} {Jc' Jr' : Nat → Nat → Int64} (h : PR_3 b np nm nn Ic Jc Ir Jr) (h7 : nm < 16) (a c y x : Int32) (hac : 0 ≤ a.toInt ∧ a.toInt < np ∧ 0 ≤ c.toInt ∧ c.toInt < np ∧ a.toInt ≠ c.toInt)
    (e1 : (Ic' 3 15).toInt = ((nm + 1 : Nat) : Int)) (e2 : Ic' 3 14 = Ic 3 14) (e3 : Ic' 3 16 = Ic 3 16) (e4 : ∀ i, Ic' 7 i = if i = nm then a else Ic 7 i) (e5 : ∀ i, Ic' 8 i = if i = nm then c else Ic 8 i) (e6 : ∀ i, Ic' 9 i = if i = nm then y else Ic 9 i) (e7 : ∀ i, Ic' 10 i = if i = nm then x else Ic 10 i) (e8 : ∀ q, 3 + 2 ≤ q → q ≤ 15 → ¬ (7 ≤ q ∧ q ≤ 10) → Ic' q = Ic q) (e9 : Jc' 4 = Jc 4)
    (r1 : (Ir' 88 4).toInt = ((nm + 1 : Nat) : Int)) (r2 : Ir' 88 3 = Ir 88 3) (r3 : Ir' 88 5 = Ir 88 5) (r4 : ∀ i, i ≤ nm → Ir' 92 (16 + i) = if i = nm then a else Ir 92 (16 + i)) (r5 : ∀ i, i ≤ nm → Ir' 93 (16 + i) = if i = nm then c else Ir 93 (16 + i)) (r6 : ∀ i, i ≤ nm → Ir' 94 (16 + i) = if i = nm then y else Ir 94 (16 + i)) (r7 : ∀ i, i ≤ nm → Ir' 95 (16 + i) = if i = nm then x else Ir 95 (16 + i)) (r8 : ∀ q, 90 ≤ q → q ≤ 100 → ¬ (92 ≤ q ∧ q ≤ 95) → Ir' q = Ir q) (r9 : Jr' 89 = Jr 89) : PR_3 b np (nm + 1) nn Ic' Jc' Ir' Jr' := by
  obtain ⟨⟨p1, p2, p3⟩, ⟨q1, q2⟩, ⟨q3, q4⟩, ⟨q5, q6⟩, q7, q8, q9, q10, q11, q12⟩ := h
  refine ⟨⟨p1, by omega, p3⟩, ⟨by rw [e2]; exact q1, by rw [r2]; exact q2⟩, ⟨e1, r1⟩, ⟨by rw [e3]; exact q5, by rw [r3]; exact q6⟩, ?_, ?_, ?_, ?_, ?_, ?_, ?_⟩
  · intro i hi
    rw [e8 5 (by decide) (by decide) (by decide), e8 6 (by decide) (by decide) (by decide), r8 90 (by decide) (by decide) (by decide), r8 91 (by decide) (by decide) (by decide), e9, r9]
    exact q7 i hi
  · intro i hi
    rw [e4, e5, e6, e7, r4 i (by omega), r5 i (by omega), r6 i (by omega), r7 i (by omega)]
    by_cases g : i = nm
    · simp only [if_pos g]
      exact ⟨trivial, trivial, trivial, trivial⟩
    · simp only [if_neg g]
      exact q8 i (by omega)
  · intro i hi
    rw [e8 11 (by decide) (by decide) (by decide), e8 12 (by decide) (by decide) (by decide), e8 13 (by decide) (by decide) (by decide), e8 14 (by decide) (by decide) (by decide), e8 15 (by decide) (by decide) (by decide), r8 96 (by decide) (by decide) (by decide), r8 97 (by decide) (by decide) (by decide), r8 98 (by decide) (by decide) (by decide), r8 99 (by decide) (by decide) (by decide), r8 100 (by decide) (by decide) (by decide)]
    exact q9 i hi
  · intro i hi
    rw [e8 11 (by decide) (by decide) (by decide)]
    exact q10 i hi
  · intro q hq
    rw [e8 11 (by decide) (by decide) (by decide), e8 5 (by decide) (by decide) (by decide)]
    exact q11 q hq
  · intro i hi
    rw [e4, e5]
    by_cases g : i = nm
    · rw [if_pos g, if_pos g]
      exact hac
    · rw [if_neg g, if_neg g]
      exact q12.1 i (by omega)
  · rw [e8 11 (by decide) (by decide) (by decide), e8 12 (by decide) (by decide) (by decide)]
    exact q12.2
theorem meeting_3 (hG : aGd R) (hR : R 43 1 = 4) (hGr : aGd Rr) (h4 : 4 ≤ d' + 1) {b : Nat → Int32} {n st0 k0 e0 np nm nn : Nat} (hn9 : n ≤ 900) {Ic Ir : Nat → Nat → Int32} {Jc Jr : Nat → Nat → Int64} (h0 : (Ic 43 2).toInt = 0) (hc : cTok b n Ic Jc st0 k0 e0) (hr : rTok b n Ir Jr st0 k0 e0) (hP : PR_3 b np nm nn Ic Jc Ir Jr) : ∃ (Ic' : Nat → Nat → Int32) (Jc' : Nat → Nat → Int64) (Ir' : Nat → Nat → Int32) (Jr' : Nat → Nat → Int64) (w : Int32), xEv L xs (d + 6) 34 0 [.ref 43, xmk, xmk, xmk, xmk] [] (124, Ic, Jc, R) none (124, Ic', Jc', R) ∧ xEv L xs (d' + 4) 162 0 [.ref 86, xmk, xmk, xmk] [] (124, Ir, Jr, Rr) (some (.int w)) (124, Ir', Jr', Rr) ∧ CL_3 b n e0 Ic Ir Ic' Jc' Ir' Jr' w := by
  have hP0 := hP
  obtain ⟨⟨p1, p2, p3⟩, ⟨q1, q2⟩, ⟨q3, q4⟩, ⟨q5, q6⟩, q7, q8, q9, q10, q11, q12⟩ := hP
  obtain ⟨x1, x2, x3, x4, x5, x6, x7, x8⟩ := hc
  obtain ⟨y1, y2, y3, y4, y5, y6, y7, y8, y9, y10⟩ := hr
  have alc : ∀ {I I' : Nat → Nat → Int32} {J J' : Nat → Nat → Int64}, alX I I' J J' → I' 3 17 = I 3 17 ∧ I' 17 5 = I 17 5 ∧ FRc_3 I I' := fun al => ⟨al.1 3 17 (by omega) (by omega), al.1 17 5 (by omega) (by omega), fun c q t1 t2 t3 => al.1 c q (by omega) (by omega)⟩
  by_cases hfull : nm = 16
  · have cf := fl_a (L := L) (xs := xs) (d := d + 5) (I := Ic) (J := Jc) (k := 4) hG h0
    refine ⟨_, _, _, _, 0, mtA0f_3 hG hR (by omega) cf (mtd17_3 (d := d + 4) (I := uI (uI Ic 43 2 4) 43 3 (Ic 1 4)) hG hR (m := np) q1 p1 (by show ((4 : Int32)).toInt ≠ 0; decide) _ _ _ _), mm_0 hGr (by omega) (fa_run hGr), ⟨alc (alX_F (J := Jc) _ _), (by intro c q t1 t2 t3 t4 t5; repeat (first | rw [uI_n _ _ (by omega)] | rw [ar7.1 c q (by omega)] | rw [ar6.1 c q (by omega)] | rw [ar5.1 c q (by omega)] | rw [ar4.1 c q (by omega)] | rw [ar3.1 c q (by omega)] | rw [ar2.1 c q (by omega)] | rw [ar1.1 c q (by omega)] | rw [w0.1 c q (by omega)] | rw [u0.1 c q (by omega)] | rw [v2.1 c q (by omega)] | rw [z2.1 c q (by omega)]))⟩, Or.inl ⟨rfl, by show ((4 : Int32)).toInt ≠ 0; decide, rfl, ?_⟩⟩
    show (Ic 1 4).toInt = (Ir 86 5).toInt
    omega
  have hb : (Ir 88 4).toInt ≠ 16 := by omega
  -- the first
  obtain ⟨st1, k1, e1, Ic1, Jc1, a, Ir1, Jr1, c1, d1, tk1, b1, al1, ar1, rt1, hh1⟩ := perl_3 (L := L) (xs := xs) (d := d + 2) (d' := d') hG hR hGr h4 hn9 h0 x1 x2 x7 x6 y1 y2 y8 hP0 (-1)
  have hm1 : (Ic1 3 14).toInt = np := by rw [al1.1 3 14 (by omega) (by omega)]; exact q1
  have cA := fun {v : Option Value} {h' : xH} (hk : xEv L xs (d + 6) 34 23 [.ref 43, .int a, xmk, xmk, xmk] [] (124, Ic1, Jc1, R) v h') => mtA0_3 hG hR (by omega) (mtA17_3 hG c1 hk)
  rcases hh1 with ⟨f1, f2, f3⟩ | ⟨f1, fk1, dz1, f2, f3⟩
  · exact ⟨_, _, _, _, 0, cA (mtd23_3 (d := d + 4) hG hR hm1 p1 (by omega) _ _ _ _), mm_1 hGr hb d1 f1 (fa_run hGr), ⟨alc al1, (by intro c q t1 t2 t3 t4 t5; repeat (first | rw [uI_n _ _ (by omega)] | rw [ar7.1 c q (by omega)] | rw [ar6.1 c q (by omega)] | rw [ar5.1 c q (by omega)] | rw [ar4.1 c q (by omega)] | rw [ar3.1 c q (by omega)] | rw [ar2.1 c q (by omega)] | rw [ar1.1 c q (by omega)] | rw [w0.1 c q (by omega)] | rw [u0.1 c q (by omega)] | rw [v2.1 c q (by omega)] | rw [z2.1 c q (by omega)]))⟩, Or.inl ⟨rfl, by omega, by show _ = ((1 : Int32)).toInt; rw [f2]; rfl, f3⟩⟩
  rcases f3 with ⟨g1, g2, g3⟩ | ⟨g1, g2, g3, -⟩ | ⟨g1, g2, g3, g5, g6, ct1⟩
  · exact ⟨_, _, _, _, 0, cA (mtd23_3 (d := d + 4) hG hR hm1 p1 (by omega) _ _ _ _), mm_2 hGr hb d1 f1 dz1 g1 (fa_run hGr), ⟨alc al1, (by intro c q t1 t2 t3 t4 t5; repeat (first | rw [uI_n _ _ (by omega)] | rw [ar7.1 c q (by omega)] | rw [ar6.1 c q (by omega)] | rw [ar5.1 c q (by omega)] | rw [ar4.1 c q (by omega)] | rw [ar3.1 c q (by omega)] | rw [ar2.1 c q (by omega)] | rw [ar1.1 c q (by omega)] | rw [w0.1 c q (by omega)] | rw [u0.1 c q (by omega)] | rw [v2.1 c q (by omega)] | rw [z2.1 c q (by omega)]))⟩, Or.inl ⟨rfl, by omega, by show _ = ((5 : Int32)).toInt; rw [g2]; rfl, by show _ = (Ir1 86 5).toInt; omega⟩⟩
  · have : (-1 : Int32).toInt = -1 := by decide
    omega
  -- the other
  have hP1 := PR_m_3 (PR_x_3 hP0 al1) (alM_S ar1)
  obtain ⟨st2, k2, e2, Ic2, Jc2, c, Ir2, Jr2, c2, d2, tk2, b2, al2, ar2, rt2, hh2⟩ := perl_3 (L := L) (xs := xs) (d := d + 2) (d' := d') hG hR hGr h4 hn9 g5 ct1.1 ct1.2.1 b1 ct1.2.2.2.2.2.1 rt1.1 rt1.2.1 rt1.2.2.2.2.2.2.2.1 hP1 a
  have cB := fun {v : Option Value} {h' : xH} (hk : xEv L xs (d + 6) 34 29 [.ref 43, .int a, .int c, xmk, xmk] [] (124, Ic2, Jc2, R) v h') => cA (mtA23_3 hG c2 hk)
  have al12 := alX_t al1 al2
  have ha1 : a.toInt ≠ -1 := by omega
  rcases hh2 with ⟨f4, f5, f6⟩ | ⟨f4, fk2, dz2, f5, f6⟩
  · exact ⟨_, _, _, _, 0, cB (mtd29_3 (d := d + 4) hG (by omega) _ _ _ _), mm_3 hGr hb d1 f1 dz1 ha1 d2 f4 (fa_run hGr), ⟨alc al12, (by intro c q t1 t2 t3 t4 t5; repeat (first | rw [uI_n _ _ (by omega)] | rw [ar7.1 c q (by omega)] | rw [ar6.1 c q (by omega)] | rw [ar5.1 c q (by omega)] | rw [ar4.1 c q (by omega)] | rw [ar3.1 c q (by omega)] | rw [ar2.1 c q (by omega)] | rw [ar1.1 c q (by omega)] | rw [w0.1 c q (by omega)] | rw [u0.1 c q (by omega)] | rw [v2.1 c q (by omega)] | rw [z2.1 c q (by omega)]))⟩, Or.inl ⟨rfl, by omega, by show _ = ((1 : Int32)).toInt; rw [f5]; rfl, f6⟩⟩
  rcases f6 with ⟨u1, u2, u3⟩ | ⟨u1, u2, u3, u4, u5⟩ | ⟨u1, u2, u3, u4, u5, ct2⟩
  · exact ⟨_, _, _, _, 0, cB (mtd29_3 (d := d + 4) hG (by omega) _ _ _ _), mm_5 hGr hb d1 f1 dz1 ha1 d2 f4 dz2 (by omega) u1 (fa_run hGr), ⟨alc al12, (by intro c q t1 t2 t3 t4 t5; repeat (first | rw [uI_n _ _ (by omega)] | rw [ar7.1 c q (by omega)] | rw [ar6.1 c q (by omega)] | rw [ar5.1 c q (by omega)] | rw [ar4.1 c q (by omega)] | rw [ar3.1 c q (by omega)] | rw [ar2.1 c q (by omega)] | rw [ar1.1 c q (by omega)] | rw [w0.1 c q (by omega)] | rw [u0.1 c q (by omega)] | rw [v2.1 c q (by omega)] | rw [z2.1 c q (by omega)]))⟩, Or.inl ⟨rfl, by omega, by show _ = ((5 : Int32)).toInt; rw [u2]; rfl, by show _ = (Ir2 86 5).toInt; omega⟩⟩
  · exact ⟨_, _, _, _, 0, cB (mtd29_3 (d := d + 4) hG (by omega) _ _ _ _), mm_4 hGr hb d1 f1 dz1 ha1 d2 f4 dz2 u3 (fa_run hGr), ⟨alc al12, (by intro c q t1 t2 t3 t4 t5; repeat (first | rw [uI_n _ _ (by omega)] | rw [ar7.1 c q (by omega)] | rw [ar6.1 c q (by omega)] | rw [ar5.1 c q (by omega)] | rw [ar4.1 c q (by omega)] | rw [ar3.1 c q (by omega)] | rw [ar2.1 c q (by omega)] | rw [ar1.1 c q (by omega)] | rw [w0.1 c q (by omega)] | rw [u0.1 c q (by omega)] | rw [v2.1 c q (by omega)] | rw [z2.1 c q (by omega)]))⟩, Or.inl ⟨rfl, by omega, by show _ = ((3 : Int32)).toInt; rw [u4]; rfl, by show _ = (Ir2 86 5).toInt; omega⟩⟩
  -- the hour
  have hc1 : c.toInt ≠ -1 := by omega
  obtain ⟨st3, k3, e3, Ir3, Jr3, d3, tk3, rt3, ar3⟩ := sk_run (L := L) (xs := xs) (d := d' + 1) (R := Rr) (b := b) (n := n) (p := e2) (I := Ir2) (J := Jr2) hGr (by omega) hn9 rt2.1 rt2.2.1 b2 rt2.2.2.2.2.2.2.2.1
  obtain ⟨Ic3, Jc3, y, c3, al3, hh3⟩ := numl (L := L) (xs := xs) (d := d + 2) (d' := d') hG hGr h4 hn9 u4 ct2.1 ct2.2.1 b2 ct2.2.2.2.2.2.1 tk3 rt3 0 23
  have cC := fun {v : Option Value} {h' : xH} (hk : xEv L xs (d + 6) 34 37 [.ref 43, .int a, .int c, .int y, xmk] [] (124, Ic3, Jc3, R) v h') => cB (mtA29_3 hG c3 hk)
  have al123 := alX_t al12 al3
  rcases hh3 with ⟨v1, Ir4, d4, v2, v3, v4⟩ | ⟨v1, v2, ct3, vk3, v3, v4, st4, k4, e4, Ir4, Jr4, d4, tk4, rt4, v5, v6, v7, ar4⟩
  · exact ⟨_, _, _, _, 0, cC (mtd37_3 (d := d + 4) hG v1 _ _ _ _), mm_6 hGr hb d1 f1 dz1 ha1 d2 f4 dz2 (by omega) hc1 d3 d4, ⟨alc al123, (by intro c q t1 t2 t3 t4 t5; repeat (first | rw [uI_n _ _ (by omega)] | rw [ar7.1 c q (by omega)] | rw [ar6.1 c q (by omega)] | rw [ar5.1 c q (by omega)] | rw [ar4.1 c q (by omega)] | rw [ar3.1 c q (by omega)] | rw [ar2.1 c q (by omega)] | rw [ar1.1 c q (by omega)] | rw [w0.1 c q (by omega)] | rw [u0.1 c q (by omega)] | rw [v2.1 c q (by omega)] | rw [z2.1 c q (by omega)]))⟩, Or.inl ⟨rfl, v1, v3, v4⟩⟩
  -- the chance
  have e16 : (16 + Ir 88 4).toInt = ((16 + nm : Nat) : Int) := by
    rw [i_add (by rw [show (16 : Int32).toInt = 16 from by decide]; omega) (by rw [show (16 : Int32).toInt = 16 from by decide]; omega), show (16 : Int32).toInt = 16 from by decide]
    omega
  have ec16 := clamp_s (i := 16 + Ir 88 4) (by omega)
  have ek16 : (16 + Ir 88 4).toNatClampNeg = 16 + nm := by omega
  have m0 : 0 ≤ (16 + Ir 88 4).toInt := by omega
  have m1 : (16 + Ir 88 4).toInt < 32 := by omega
  have e3n : e3 ≤ n := rt3.2.2.2.2.2.2.2.2.1
  have rts : rTok b n (uI (uI (uI (uI Ir4 92 (16 + Ir 88 4).toNatClampNeg a) 93 (16 + Ir 88 4).toNatClampNeg c) 94 (16 + Ir 88 4).toNatClampNeg (Ir4 86 11)) 95 (16 + Ir 88 4).toNatClampNeg 10) Jr4 st4 k4 e4 := rTok_c rt4 (fun _ => rfl) (fun _ => rfl) rfl
  obtain ⟨Ic5, Jc5, x, c5, al5, hh5⟩ := optl_5 (L := L) (xs := xs) (d := d) (d' := d') hG hGr h4 hn9 v1 ct3.1 ct3.2.1 e3n ct3.2.2.2.2.2.1 tk4 rts 1 10 10
  have cD := fun {v : Option Value} {h' : xH} (hk : xEv L xs (d + 6) 34 50 [.ref 43, .int a, .int c, .int y, .int x] [] (124, Ic5, Jc5, R) v h') => cC (mtA37_3 hG c5 hk)
  have al5' := alX_t al123 al5
  have hrow : ∀ q, q ≠ 86 → Ir4 q = Ir q := fun q hq => funext fun i => by rw [ar4.1 q i (by omega), ar3.1 q i (by omega), ar2.1 q i (by omega), ar1.1 q i (by omega)]
  have hJ4 : Jr4 89 = Jr 89 := funext fun i => by rw [ar4.2 89 i (by omega), ar3.2 89 i (by omega), ar2.2 89 i (by omega), ar1.2 89 i (by omega)]
  have w8 : Ir4 86 8 = Ir 86 8 := by rw [v6, ar3.1 86 8 (by omega), ar2.1 86 8 (by omega), ar1.1 86 8 (by omega)]
  have w9 : Ir4 86 9 = Ir 86 9 := by rw [v7, ar3.1 86 9 (by omega), ar2.1 86 9 (by omega), ar1.1 86 9 (by omega)]
  have p4 : e0 ≤ e4 := by
    have z1 := tok_prog tk1 (by omega)
    have z2 := tok_prog tk2 (by omega)
    have z3 := tok_prog tk3 (by omega)
    have z4 := tk4.1.1
    have z5 : st4 ≤ e4 := rt4.2.2.2.2.2.2.2.2.2
    omega
  have h15 : (Ic5 3 15).toInt = nm := by rw [al5'.1 3 15 (by omega) (by omega)]; exact q3
  have ecf := clamp_s (i := Ic5 3 15) (by omega)
  have ekf : (Ic5 3 15).toNatClampNeg = nm := by omega
  have fin : ∀ (IrF : Nat → Nat → Int32) (JrF : Nat → Nat → Int64) (st k e : Nat), (Ic5 43 2).toInt = 0 → Ic5 43 3 = Ic 43 3 → cTok b n Ic5 Jc5 st k e → e0 ≤ e → rTok b n IrF JrF st k e → IrF 86 8 = Ir 86 8 → IrF 86 9 = Ir 86 9 → (IrF 88 4).toInt = ((nm + 1 : Nat) : Int) → IrF 88 3 = Ir 88 3 → IrF 88 5 = Ir 88 5 → (∀ i, i ≤ nm → IrF 92 (16 + i) = if i = nm then a else Ir 92 (16 + i)) → (∀ i, i ≤ nm → IrF 93 (16 + i) = if i = nm then c else Ir 93 (16 + i)) → (∀ i, i ≤ nm → IrF 94 (16 + i) = if i = nm then y else Ir 94 (16 + i)) → (∀ i, i ≤ nm → IrF 95 (16 + i) = if i = nm then x else Ir 95 (16 + i)) → (∀ q, 90 ≤ q → q ≤ 100 → ¬ (92 ≤ q ∧ q ≤ 95) → IrF q = Ir q) → JrF 89 = Jr 89 → FRr Ir IrF → CL_3 b n e0 Ic Ir (uI (uI (uI (uI (uI Ic5 7 (Ic5 3 15).toNatClampNeg a) 8 (Ic5 3 15).toNatClampNeg c) 9 (Ic5 3 15).toNatClampNeg y) 10 (Ic5 3 15).toNatClampNeg x) 3 15 (Ic5 3 15 + 1)) Jc5 IrF JrF 1 := by
    intro IrF JrF st k e k1 k2 k3 k4 k5 k6 k7 r1 r2 r3 r4 r5 r6 r7 r8 r9 hFR
    have e1 := i_add1 (x := Ic5 3 15) (by omega)
    have eI : ∀ q, (3 ≤ q ∧ q ≤ 17) → Ic5 q = Ic q := fun q hq => funext fun i => al5'.1 q i (by omega) (by omega)
    rw [ekf]
    refine ⟨⟨⟨al5'.1 3 17 (by omega) (by omega), al5'.1 17 5 (by omega) (by omega), fun c q t1 t2 t3 => by rw [uI_n _ _ (by omega), uI_n _ _ (by omega), uI_n _ _ (by omega), uI_n _ _ (by omega), uI_n _ _ (by omega), al5'.1 c q (by omega) (by omega)]⟩, hFR⟩, Or.inr ⟨rfl, k1, k2, k6, k7, st, k, e, np, nm + 1, nn, k4, cTok_c k3 (fun _ => rfl) (fun _ => rfl) rfl, k5, ?_⟩⟩
    refine PR_t_3 hP0 (by omega) a c y x (by omega) (by show (Ic5 3 15 + 1).toInt = _; omega) (by show Ic5 3 14 = _; rw [eI 3 (by decide)]) (by show Ic5 3 16 = _; rw [eI 3 (by decide)]) ?_ ?_ ?_ ?_ ?_ (funext fun i => al5'.2 4 i (by omega)) r1 r2 r3 r4 r5 r6 r7 r8 r9
    · intro i
      show uI Ic5 7 nm a 7 i = _
      by_cases g : i = nm
      · rw [if_pos g, g, uI_s]
      · rw [if_neg g, uI_n _ _ (by omega), eI 7 (by decide)]
    · intro i
      show uI (uI Ic5 7 nm a) 8 nm c 8 i = _
      by_cases g : i = nm
      · rw [if_pos g, g, uI_s]
      · rw [if_neg g, uI_n _ _ (by omega), uI_n _ _ (by omega), eI 8 (by decide)]
    · intro i
      show uI (uI (uI Ic5 7 nm a) 8 nm c) 9 nm y 9 i = _
      by_cases g : i = nm
      · rw [if_pos g, g, uI_s]
      · rw [if_neg g, uI_n _ _ (by omega), uI_n _ _ (by omega), uI_n _ _ (by omega), eI 9 (by decide)]
    · intro i
      show uI (uI (uI (uI Ic5 7 nm a) 8 nm c) 9 nm y) 10 nm x 10 i = _
      by_cases g : i = nm
      · rw [if_pos g, g, uI_s]
      · rw [if_neg g, uI_n _ _ (by omega), uI_n _ _ (by omega), uI_n _ _ (by omega), uI_n _ _ (by omega), eI 10 (by decide)]
    · intro q h1 h2 h3
      rw [← eI q (by omega)]
      funext i
      rw [uI_n _ _ (by omega), uI_n _ _ (by omega), uI_n _ _ (by omega), uI_n _ _ (by omega), uI_n _ _ (by omega)]
  have amr : (Ic5 43 2).toInt = 0 → xEv L xs (d + 6) 34 50 [.ref 43, .int a, .int c, .int y, .int x] [] (124, Ic5, Jc5, R) none (124, uI (uI (uI (uI (uI Ic5 7 (Ic5 3 15).toNatClampNeg a) 8 (Ic5 3 15).toNatClampNeg c) 9 (Ic5 3 15).toNatClampNeg y) 10 (Ic5 3 15).toNatClampNeg x) 3 15 (Ic5 3 15 + 1), Jc5, R) := fun hx => mtA50_3 hG hx hR (am_run_3 (d := d + 4) hG (by omega) (by omega) a c y x)
  rw [ek16] at hh5
  rcases hh5 with ⟨z1, z2, z3, z4, dk⟩ | ⟨dk, Ir6, Jr6, d6, ar6, ⟨z1, Ir7, d7, z2, z3, z4⟩ | ⟨z1, z2, st7, k7, e7, Ir7, Jr7, d7, z3, ct7, rt7, z4, z5, z6, ar7⟩⟩
  · have e31 : (Ir4 88 4 + 1).toInt = ((nm + 1 : Nat) : Int) := by rw [hrow 88 (by decide)]; have := i_add1 (x := Ir 88 4) (by omega); omega
    rw [← ek16] at dk
    refine ⟨_, _, _, _, 1, cD (amr z2), mm_7 hGr hb d1 f1 dz1 ha1 d2 f4 dz2 (by omega) hc1 d3 d4 m0 m1 m0 m1 m0 m1 m0 m1 dk, ?_⟩
    rw [ek16]
    refine fin _ Jr4 st4 k4 e4 z2 (by rw [z3, v2, u5, g6]) z4 p4 (rTok_c rt4 (fun _ => rfl) (fun _ => rfl) rfl) w8 w9 e31 (by show Ir4 88 3 = _; rw [hrow 88 (by decide)]) (by show Ir4 88 5 = _; rw [hrow 88 (by decide)]) ?_ ?_ ?_ ?_ ?_ hJ4 (by intro c q t1 t2 t3 t4 t5; repeat (first | rw [uI_n _ _ (by omega)] | rw [ar7.1 c q (by omega)] | rw [ar6.1 c q (by omega)] | rw [ar5.1 c q (by omega)] | rw [ar4.1 c q (by omega)] | rw [ar3.1 c q (by omega)] | rw [ar2.1 c q (by omega)] | rw [ar1.1 c q (by omega)] | rw [w0.1 c q (by omega)] | rw [u0.1 c q (by omega)] | rw [v2.1 c q (by omega)] | rw [z2.1 c q (by omega)]))
    · intro i hi
      show uI Ir4 92 (16 + nm) a 92 (16 + i) = _
      by_cases g : i = nm
      · rw [if_pos g, g, uI_s]
      · rw [if_neg g, uI_n _ _ (by omega), hrow 92 (by decide)]
    · intro i hi
      show uI (uI Ir4 92 (16 + nm) a) 93 (16 + nm) c 93 (16 + i) = _
      by_cases g : i = nm
      · rw [if_pos g, g, uI_s]
      · rw [if_neg g, uI_n _ _ (by omega), uI_n _ _ (by omega), hrow 93 (by decide)]
    · intro i hi
      show uI (uI (uI Ir4 92 (16 + nm) a) 93 (16 + nm) c) 94 (16 + nm) (Ir4 86 11) 94 (16 + i) = _
      by_cases g : i = nm
      · rw [if_pos g, g, uI_s, v5]
      · rw [if_neg g, uI_n _ _ (by omega), uI_n _ _ (by omega), uI_n _ _ (by omega), hrow 94 (by decide)]
    · intro i hi
      show uI (uI (uI (uI Ir4 92 (16 + nm) a) 93 (16 + nm) c) 94 (16 + nm) (Ir4 86 11)) 95 (16 + nm) 10 95 (16 + i) = _
      by_cases g : i = nm
      · rw [if_pos g, g, uI_s, z1]
      · rw [if_neg g, uI_n _ _ (by omega), uI_n _ _ (by omega), uI_n _ _ (by omega), uI_n _ _ (by omega), hrow 95 (by decide)]
    · intro q h1 h2 h3
      rw [← hrow q (by omega)]
      funext i
      rw [uI_n _ _ (by omega), uI_n _ _ (by omega), uI_n _ _ (by omega), uI_n _ _ (by omega), uI_n _ _ (by omega)]
  · rw [← ek16] at dk d6
    exact ⟨_, _, _, _, 0, cD (mtD50_3 hG z1), mm_8 hGr hb d1 f1 dz1 ha1 d2 f4 dz2 (by omega) hc1 d3 d4 m0 m1 m0 m1 m0 m1 m0 m1 dk d6 d7, ⟨alc al5', (by intro c q t1 t2 t3 t4 t5; repeat (first | rw [uI_n _ _ (by omega)] | rw [ar7.1 c q (by omega)] | rw [ar6.1 c q (by omega)] | rw [ar5.1 c q (by omega)] | rw [ar4.1 c q (by omega)] | rw [ar3.1 c q (by omega)] | rw [ar2.1 c q (by omega)] | rw [ar1.1 c q (by omega)] | rw [w0.1 c q (by omega)] | rw [u0.1 c q (by omega)] | rw [v2.1 c q (by omega)] | rw [z2.1 c q (by omega)]))⟩, Or.inl ⟨rfl, z1, z3, z4⟩⟩
  · have hrow7 : ∀ q, q ≠ 86 → Ir7 q = (uI (uI (uI (uI Ir4 92 (16 + nm) a) 93 (16 + nm) c) 94 (16 + nm) (Ir4 86 11)) 95 (16 + nm) 10) q := fun q hq => funext fun i => by rw [ar7.1 q i (by omega), ar6.1 q i (by omega)]
    have eNU : ∀ i, Ir7 88 i = Ir 88 i := fun i => by rw [hrow7 88 (by decide)]; show Ir4 88 i = _; rw [hrow 88 (by decide)]
    have e31 : (Ir7 88 4 + 1).toInt = ((nm + 1 : Nat) : Int) := by rw [eNU]; have := i_add1 (x := Ir 88 4) (by omega); omega
    rw [← ek16] at dk d6
    refine ⟨_, _, _, _, 1, cD (amr z1), mm_9 hGr hb d1 f1 dz1 ha1 d2 f4 dz2 (by omega) hc1 d3 d4 m0 m1 m0 m1 m0 m1 m0 m1 dk d6 d7 m0 m1, ?_⟩
    rw [ek16]
    refine fin _ Jr7 st7 k7 e7 z1 (by rw [z2, v2, u5, g6]) ct7 (by omega) (rTok_c rt7 (fun _ => rfl) (fun _ => rfl) rfl) (by show Ir7 86 8 = _; rw [z5]; exact w8) (by show Ir7 86 9 = _; rw [z6]; exact w9) e31 (by show Ir7 88 3 = _; exact eNU 3) (by show Ir7 88 5 = _; exact eNU 5) ?_ ?_ ?_ ?_ ?_ ?_ (by intro c q t1 t2 t3 t4 t5; repeat (first | rw [uI_n _ _ (by omega)] | rw [ar7.1 c q (by omega)] | rw [ar6.1 c q (by omega)] | rw [ar5.1 c q (by omega)] | rw [ar4.1 c q (by omega)] | rw [ar3.1 c q (by omega)] | rw [ar2.1 c q (by omega)] | rw [ar1.1 c q (by omega)] | rw [w0.1 c q (by omega)] | rw [u0.1 c q (by omega)] | rw [v2.1 c q (by omega)] | rw [z2.1 c q (by omega)]))
    · intro i hi
      show Ir7 92 (16 + i) = _
      rw [hrow7 92 (by decide)]
      show uI Ir4 92 (16 + nm) a 92 (16 + i) = _
      by_cases g : i = nm
      · rw [if_pos g, g, uI_s]
      · rw [if_neg g, uI_n _ _ (by omega), hrow 92 (by decide)]
    · intro i hi
      show Ir7 93 (16 + i) = _
      rw [hrow7 93 (by decide)]
      show uI (uI Ir4 92 (16 + nm) a) 93 (16 + nm) c 93 (16 + i) = _
      by_cases g : i = nm
      · rw [if_pos g, g, uI_s]
      · rw [if_neg g, uI_n _ _ (by omega), uI_n _ _ (by omega), hrow 93 (by decide)]
    · intro i hi
      show Ir7 94 (16 + i) = _
      rw [hrow7 94 (by decide)]
      show uI (uI (uI Ir4 92 (16 + nm) a) 93 (16 + nm) c) 94 (16 + nm) (Ir4 86 11) 94 (16 + i) = _
      by_cases g : i = nm
      · rw [if_pos g, g, uI_s, v5]
      · rw [if_neg g, uI_n _ _ (by omega), uI_n _ _ (by omega), uI_n _ _ (by omega), hrow 94 (by decide)]
    · intro i hi
      show uI Ir7 95 (16 + nm) (Ir7 86 11) 95 (16 + i) = _
      by_cases g : i = nm
      · rw [if_pos g, g, uI_s, z4]
      · rw [if_neg g, uI_n _ _ (by omega), hrow7 95 (by decide), uI_n _ _ (by omega), uI_n _ _ (by omega), uI_n _ _ (by omega), uI_n _ _ (by omega), hrow 95 (by decide)]
    · intro q h1 h2 h3
      have hz : uI (uI Ir7 95 (16 + nm) (Ir7 86 11)) 88 4 (Ir7 88 4 + 1) q = Ir7 q := by
        funext i
        rw [uI_n _ _ (by omega), uI_n _ _ (by omega)]
      rw [hz, hrow7 q (by omega), ← hrow q (by omega)]
      funext i
      rw [uI_n _ _ (by omega), uI_n _ _ (by omega), uI_n _ _ (by omega), uI_n _ _ (by omega)]
    · funext i
      rw [ar7.2 89 i (by omega), ar6.2 89 i (by omega), hJ4]
end ME3
section ME23
variable {L : Nat} {xs : Nat → Int32} {d d' : Nat} {R Rr : Nat → Nat → Nat}
theorem mtd37_23 {I : Nat → Nat → Int32} {J : Nat → Nat → Int64} (hG : aGd R) (h0 : (I 43 2).toInt ≠ 0) (a c y : Int32) (u4 : Value) : xEv L xs (d + 2) 34 37 [.ref 43, .int a, .int c, .int y, u4] [] (124, I, J, R) none (124, I, J, R) := mtD37_23 hG (ro_dead_5 hG h0 _ _ _) (mtD50_23 hG h0)
theorem mtd29_23 {I : Nat → Nat → Int32} {J : Nat → Nat → Int64} (hG : aGd R) (h0 : (I 43 2).toInt ≠ 0) (a c : Int32) (u3 u4 : Value) : xEv L xs (d + 2) 34 29 [.ref 43, .int a, .int c, u3, u4] [] (124, I, J, R) none (124, I, J, R) := by
  obtain ⟨z, c1⟩ := nu_dead (L := L) (xs := xs) (d := d) (I := I) (J := J) hG h0 0 23
  exact mtD29_23 hG c1 (mtd37_23 hG h0 _ _ _ _)
theorem mtd23_23 {I : Nat → Nat → Int32} {J : Nat → Nat → Int64} (hG : aGd R) (hR : R 43 1 = 24) {m : Nat} (hm : (I 23 14).toInt = m) (hm7 : m ≤ 7) (h0 : (I 43 2).toInt ≠ 0) (a : Int32) (u2 u3 u4 : Value) : xEv L xs (d + 2) 34 23 [.ref 43, .int a, u2, u3, u4] [] (124, I, J, R) none (124, I, J, R) := by
  obtain ⟨z, c1⟩ := pb_dead_23 (L := L) (xs := xs) (d := d) (J := J) hG hR hm hm7 h0 a
  exact mtD23_23 hG c1 (mtd29_23 hG h0 _ _ _ _)
theorem mtd17_23 {I : Nat → Nat → Int32} {J : Nat → Nat → Int64} (hG : aGd R) (hR : R 43 1 = 24) {m : Nat} (hm : (I 23 14).toInt = m) (hm7 : m ≤ 7) (h0 : (I 43 2).toInt ≠ 0) (u1 u2 u3 u4 : Value) : xEv L xs (d + 2) 34 17 [.ref 43, u1, u2, u3, u4] [] (124, I, J, R) none (124, I, J, R) := by
  obtain ⟨z, c1⟩ := pb_dead_23 (L := L) (xs := xs) (d := d) (J := J) hG hR hm hm7 h0 (-1)
  exact mtD17_23 hG c1 (mtd23_23 hG hR hm hm7 h0 _ _ _ _)
theorem am_run_23 {I : Nat → Nat → Int32} {J : Nat → Nat → Int64} (hG : aGd R) (h0 : 0 ≤ (I 23 15).toInt) (h7 : (I 23 15).toInt < 16) (a c y x : Int32) : xEv L xs (d + 1) 36 0 [.ref 23, .int a, .int c, .int y, .int x] [] (124, I, J, R) none (124, uI (uI (uI (uI (uI I 27 (I 23 15).toNatClampNeg a) 28 (I 23 15).toNatClampNeg c) 29 (I 23 15).toNatClampNeg y) 30 (I 23 15).toNatClampNeg x) 23 15 (I 23 15 + 1), J, R) := am_23 hG (put_in (fun _ => rfl) (by decide) a h0 h7) (put_in (fun _ => rfl) (by decide) c h0 h7) (put_in (fun _ => rfl) (by decide) y h0 h7) (put_in (fun _ => rfl) (by decide) x h0 h7)
/-- the village with one meeting more -/
theorem PR_t_23 {b : Nat → Int32} {np nm nn : Nat} {Ic Ir : Nat → Nat → Int32} {Jc Jr : Nat → Nat → Int64} {Ic' Ir' : Nat → Nat → Int32} {Jc' Jr' : Nat → Nat → Int64} (h : PR_23 b np nm nn Ic Jc Ir Jr) (h7 : nm < 16) (a c y x : Int32) (hac : 0 ≤ a.toInt ∧ a.toInt < np ∧ 0 ≤ c.toInt ∧ c.toInt < np ∧ a.toInt ≠ c.toInt)
    (e1 : (Ic' 23 15).toInt = ((nm + 1 : Nat) : Int)) (e2 : Ic' 23 14 = Ic 23 14) (e3 : Ic' 23 16 = Ic 23 16) (e4 : ∀ i, Ic' 27 i = if i = nm then a else Ic 27 i) (e5 : ∀ i, Ic' 28 i = if i = nm then c else Ic 28 i) (e6 : ∀ i, Ic' 29 i = if i = nm then y else Ic 29 i) (e7 : ∀ i, Ic' 30 i = if i = nm then x else Ic 30 i) (e8 : ∀ q, 23 + 2 ≤ q → q ≤ 35 → ¬ (27 ≤ q ∧ q ≤ 30) → Ic' q = Ic q) (e9 : Jc' 24 = Jc 24)
    (r1 : (Ir' 88 4).toInt = ((nm + 1 : Nat) : Int)) (r2 : Ir' 88 3 = Ir 88 3) (r3 : Ir' 88 5 = Ir 88 5) (r4 : ∀ i, i ≤ nm → Ir' 92 (16 + i) = if i = nm then a else Ir 92 (16 + i)) (r5 : ∀ i, i ≤ nm → Ir' 93 (16 + i) = if i = nm then c else Ir 93 (16 + i)) (r6 : ∀ i, i ≤ nm → Ir' 94 (16 + i) = if i = nm then y else Ir 94 (16 + i)) (r7 : ∀ i, i ≤ nm → Ir' 95 (16 + i) = if i = nm then x else Ir 95 (16 + i)) (r8 : ∀ q, 90 ≤ q → q ≤ 100 → ¬ (92 ≤ q ∧ q ≤ 95) → Ir' q = Ir q) (r9 : Jr' 89 = Jr 89) : PR_23 b np (nm + 1) nn Ic' Jc' Ir' Jr' := by
  obtain ⟨⟨p1, p2, p3⟩, ⟨q1, q2⟩, ⟨q3, q4⟩, ⟨q5, q6⟩, q7, q8, q9, q10, q11, q12⟩ := h
  refine ⟨⟨p1, by omega, p3⟩, ⟨by rw [e2]; exact q1, by rw [r2]; exact q2⟩, ⟨e1, r1⟩, ⟨by rw [e3]; exact q5, by rw [r3]; exact q6⟩, ?_, ?_, ?_, ?_, ?_, ?_, ?_⟩
  · intro i hi
    rw [e8 25 (by decide) (by decide) (by decide), e8 26 (by decide) (by decide) (by decide), r8 90 (by decide) (by decide) (by decide), r8 91 (by decide) (by decide) (by decide), e9, r9]
    exact q7 i hi
  · intro i hi
    rw [e4, e5, e6, e7, r4 i (by omega), r5 i (by omega), r6 i (by omega), r7 i (by omega)]
    by_cases g : i = nm
    · simp only [if_pos g]
      exact ⟨trivial, trivial, trivial, trivial⟩
    · simp only [if_neg g]
      exact q8 i (by omega)
  · intro i hi
    rw [e8 31 (by decide) (by decide) (by decide), e8 32 (by decide) (by decide) (by decide), e8 33 (by decide) (by decide) (by decide), e8 34 (by decide) (by decide) (by decide), e8 35 (by decide) (by decide) (by decide), r8 96 (by decide) (by decide) (by decide), r8 97 (by decide) (by decide) (by decide), r8 98 (by decide) (by decide) (by decide), r8 99 (by decide) (by decide) (by decide), r8 100 (by decide) (by decide) (by decide)]
    exact q9 i hi
  · intro i hi
    rw [e8 31 (by decide) (by decide) (by decide)]
    exact q10 i hi
  · intro q hq
    rw [e8 31 (by decide) (by decide) (by decide), e8 25 (by decide) (by decide) (by decide)]
    exact q11 q hq
  · intro i hi
    rw [e4, e5]
    by_cases g : i = nm
    · rw [if_pos g, if_pos g]
      exact hac
    · rw [if_neg g, if_neg g]
      exact q12.1 i (by omega)
  · rw [e8 31 (by decide) (by decide) (by decide), e8 32 (by decide) (by decide) (by decide)]
    exact q12.2
theorem meeting_23 (hG : aGd R) (hR : R 43 1 = 24) (hGr : aGd Rr) (h4 : 4 ≤ d' + 1) {b : Nat → Int32} {n st0 k0 e0 np nm nn : Nat} (hn9 : n ≤ 900) {Ic Ir : Nat → Nat → Int32} {Jc Jr : Nat → Nat → Int64} (h0 : (Ic 43 2).toInt = 0) (hc : cTok b n Ic Jc st0 k0 e0) (hr : rTok b n Ir Jr st0 k0 e0) (hP : PR_23 b np nm nn Ic Jc Ir Jr) : ∃ (Ic' : Nat → Nat → Int32) (Jc' : Nat → Nat → Int64) (Ir' : Nat → Nat → Int32) (Jr' : Nat → Nat → Int64) (w : Int32), xEv L xs (d + 6) 34 0 [.ref 43, xmk, xmk, xmk, xmk] [] (124, Ic, Jc, R) none (124, Ic', Jc', R) ∧ xEv L xs (d' + 4) 162 0 [.ref 86, xmk, xmk, xmk] [] (124, Ir, Jr, Rr) (some (.int w)) (124, Ir', Jr', Rr) ∧ CL_23 b n e0 Ic Ir Ic' Jc' Ir' Jr' w := by
  have hP0 := hP
  obtain ⟨⟨p1, p2, p3⟩, ⟨q1, q2⟩, ⟨q3, q4⟩, ⟨q5, q6⟩, q7, q8, q9, q10, q11, q12⟩ := hP
  obtain ⟨x1, x2, x3, x4, x5, x6, x7, x8⟩ := hc
  obtain ⟨y1, y2, y3, y4, y5, y6, y7, y8, y9, y10⟩ := hr
  have alc : ∀ {I I' : Nat → Nat → Int32} {J J' : Nat → Nat → Int64}, alX I I' J J' → I' 23 17 = I 23 17 ∧ I' 37 5 = I 37 5 ∧ FRc_23 I I' := fun al => ⟨al.1 23 17 (by omega) (by omega), al.1 37 5 (by omega) (by omega), fun c q t1 t2 t3 => al.1 c q (by omega) (by omega)⟩
  by_cases hfull : nm = 16
  · have cf := fl_a (L := L) (xs := xs) (d := d + 5) (I := Ic) (J := Jc) (k := 4) hG h0
    refine ⟨_, _, _, _, 0, mtA0f_23 hG hR (by omega) cf (mtd17_23 (d := d + 4) (I := uI (uI Ic 43 2 4) 43 3 (Ic 1 4)) hG hR (m := np) q1 p1 (by show ((4 : Int32)).toInt ≠ 0; decide) _ _ _ _), mm_0 hGr (by omega) (fa_run hGr), ⟨alc (alX_F (J := Jc) _ _), (by intro c q t1 t2 t3 t4 t5; repeat (first | rw [uI_n _ _ (by omega)] | rw [ar7.1 c q (by omega)] | rw [ar6.1 c q (by omega)] | rw [ar5.1 c q (by omega)] | rw [ar4.1 c q (by omega)] | rw [ar3.1 c q (by omega)] | rw [ar2.1 c q (by omega)] | rw [ar1.1 c q (by omega)] | rw [w0.1 c q (by omega)] | rw [u0.1 c q (by omega)] | rw [v2.1 c q (by omega)] | rw [z2.1 c q (by omega)]))⟩, Or.inl ⟨rfl, by show ((4 : Int32)).toInt ≠ 0; decide, rfl, ?_⟩⟩
    show (Ic 1 4).toInt = (Ir 86 5).toInt
    omega
  have hb : (Ir 88 4).toInt ≠ 16 := by omega
  -- the first
  obtain ⟨st1, k1, e1, Ic1, Jc1, a, Ir1, Jr1, c1, d1, tk1, b1, al1, ar1, rt1, hh1⟩ := perl_23 (L := L) (xs := xs) (d := d + 2) (d' := d') hG hR hGr h4 hn9 h0 x1 x2 x7 x6 y1 y2 y8 hP0 (-1)
  have hm1 : (Ic1 23 14).toInt = np := by rw [al1.1 23 14 (by omega) (by omega)]; exact q1
  have cA := fun {v : Option Value} {h' : xH} (hk : xEv L xs (d + 6) 34 23 [.ref 43, .int a, xmk, xmk, xmk] [] (124, Ic1, Jc1, R) v h') => mtA0_23 hG hR (by omega) (mtA17_23 hG c1 hk)
  rcases hh1 with ⟨f1, f2, f3⟩ | ⟨f1, fk1, dz1, f2, f3⟩
  · exact ⟨_, _, _, _, 0, cA (mtd23_23 (d := d + 4) hG hR hm1 p1 (by omega) _ _ _ _), mm_1 hGr hb d1 f1 (fa_run hGr), ⟨alc al1, (by intro c q t1 t2 t3 t4 t5; repeat (first | rw [uI_n _ _ (by omega)] | rw [ar7.1 c q (by omega)] | rw [ar6.1 c q (by omega)] | rw [ar5.1 c q (by omega)] | rw [ar4.1 c q (by omega)] | rw [ar3.1 c q (by omega)] | rw [ar2.1 c q (by omega)] | rw [ar1.1 c q (by omega)] | rw [w0.1 c q (by omega)] | rw [u0.1 c q (by omega)] | rw [v2.1 c q (by omega)] | rw [z2.1 c q (by omega)]))⟩, Or.inl ⟨rfl, by omega, by show _ = ((1 : Int32)).toInt; rw [f2]; rfl, f3⟩⟩
  rcases f3 with ⟨g1, g2, g3⟩ | ⟨g1, g2, g3, -⟩ | ⟨g1, g2, g3, g5, g6, ct1⟩
  · exact ⟨_, _, _, _, 0, cA (mtd23_23 (d := d + 4) hG hR hm1 p1 (by omega) _ _ _ _), mm_2 hGr hb d1 f1 dz1 g1 (fa_run hGr), ⟨alc al1, (by intro c q t1 t2 t3 t4 t5; repeat (first | rw [uI_n _ _ (by omega)] | rw [ar7.1 c q (by omega)] | rw [ar6.1 c q (by omega)] | rw [ar5.1 c q (by omega)] | rw [ar4.1 c q (by omega)] | rw [ar3.1 c q (by omega)] | rw [ar2.1 c q (by omega)] | rw [ar1.1 c q (by omega)] | rw [w0.1 c q (by omega)] | rw [u0.1 c q (by omega)] | rw [v2.1 c q (by omega)] | rw [z2.1 c q (by omega)]))⟩, Or.inl ⟨rfl, by omega, by show _ = ((5 : Int32)).toInt; rw [g2]; rfl, by show _ = (Ir1 86 5).toInt; omega⟩⟩
  · have : (-1 : Int32).toInt = -1 := by decide
    omega
  -- the other
  have hP1 := PR_m_23 (PR_x_23 hP0 al1) (alM_S ar1)
  obtain ⟨st2, k2, e2, Ic2, Jc2, c, Ir2, Jr2, c2, d2, tk2, b2, al2, ar2, rt2, hh2⟩ := perl_23 (L := L) (xs := xs) (d := d + 2) (d' := d') hG hR hGr h4 hn9 g5 ct1.1 ct1.2.1 b1 ct1.2.2.2.2.2.1 rt1.1 rt1.2.1 rt1.2.2.2.2.2.2.2.1 hP1 a
  have cB := fun {v : Option Value} {h' : xH} (hk : xEv L xs (d + 6) 34 29 [.ref 43, .int a, .int c, xmk, xmk] [] (124, Ic2, Jc2, R) v h') => cA (mtA23_23 hG c2 hk)
  have al12 := alX_t al1 al2
  have ha1 : a.toInt ≠ -1 := by omega
  rcases hh2 with ⟨f4, f5, f6⟩ | ⟨f4, fk2, dz2, f5, f6⟩
  · exact ⟨_, _, _, _, 0, cB (mtd29_23 (d := d + 4) hG (by omega) _ _ _ _), mm_3 hGr hb d1 f1 dz1 ha1 d2 f4 (fa_run hGr), ⟨alc al12, (by intro c q t1 t2 t3 t4 t5; repeat (first | rw [uI_n _ _ (by omega)] | rw [ar7.1 c q (by omega)] | rw [ar6.1 c q (by omega)] | rw [ar5.1 c q (by omega)] | rw [ar4.1 c q (by omega)] | rw [ar3.1 c q (by omega)] | rw [ar2.1 c q (by omega)] | rw [ar1.1 c q (by omega)] | rw [w0.1 c q (by omega)] | rw [u0.1 c q (by omega)] | rw [v2.1 c q (by omega)] | rw [z2.1 c q (by omega)]))⟩, Or.inl ⟨rfl, by omega, by show _ = ((1 : Int32)).toInt; rw [f5]; rfl, f6⟩⟩
  rcases f6 with ⟨u1, u2, u3⟩ | ⟨u1, u2, u3, u4, u5⟩ | ⟨u1, u2, u3, u4, u5, ct2⟩
  · exact ⟨_, _, _, _, 0, cB (mtd29_23 (d := d + 4) hG (by omega) _ _ _ _), mm_5 hGr hb d1 f1 dz1 ha1 d2 f4 dz2 (by omega) u1 (fa_run hGr), ⟨alc al12, (by intro c q t1 t2 t3 t4 t5; repeat (first | rw [uI_n _ _ (by omega)] | rw [ar7.1 c q (by omega)] | rw [ar6.1 c q (by omega)] | rw [ar5.1 c q (by omega)] | rw [ar4.1 c q (by omega)] | rw [ar3.1 c q (by omega)] | rw [ar2.1 c q (by omega)] | rw [ar1.1 c q (by omega)] | rw [w0.1 c q (by omega)] | rw [u0.1 c q (by omega)] | rw [v2.1 c q (by omega)] | rw [z2.1 c q (by omega)]))⟩, Or.inl ⟨rfl, by omega, by show _ = ((5 : Int32)).toInt; rw [u2]; rfl, by show _ = (Ir2 86 5).toInt; omega⟩⟩
  · exact ⟨_, _, _, _, 0, cB (mtd29_23 (d := d + 4) hG (by omega) _ _ _ _), mm_4 hGr hb d1 f1 dz1 ha1 d2 f4 dz2 u3 (fa_run hGr), ⟨alc al12, (by intro c q t1 t2 t3 t4 t5; repeat (first | rw [uI_n _ _ (by omega)] | rw [ar7.1 c q (by omega)] | rw [ar6.1 c q (by omega)] | rw [ar5.1 c q (by omega)] | rw [ar4.1 c q (by omega)] | rw [ar3.1 c q (by omega)] | rw [ar2.1 c q (by omega)] | rw [ar1.1 c q (by omega)] | rw [w0.1 c q (by omega)] | rw [u0.1 c q (by omega)] | rw [v2.1 c q (by omega)] | rw [z2.1 c q (by omega)]))⟩, Or.inl ⟨rfl, by omega, by show _ = ((3 : Int32)).toInt; rw [u4]; rfl, by show _ = (Ir2 86 5).toInt; omega⟩⟩
  -- the hour
  have hc1 : c.toInt ≠ -1 := by omega
  obtain ⟨st3, k3, e3, Ir3, Jr3, d3, tk3, rt3, ar3⟩ := sk_run (L := L) (xs := xs) (d := d' + 1) (R := Rr) (b := b) (n := n) (p := e2) (I := Ir2) (J := Jr2) hGr (by omega) hn9 rt2.1 rt2.2.1 b2 rt2.2.2.2.2.2.2.2.1
  obtain ⟨Ic3, Jc3, y, c3, al3, hh3⟩ := numl (L := L) (xs := xs) (d := d + 2) (d' := d') hG hGr h4 hn9 u4 ct2.1 ct2.2.1 b2 ct2.2.2.2.2.2.1 tk3 rt3 0 23
  have cC := fun {v : Option Value} {h' : xH} (hk : xEv L xs (d + 6) 34 37 [.ref 43, .int a, .int c, .int y, xmk] [] (124, Ic3, Jc3, R) v h') => cB (mtA29_23 hG c3 hk)
  have al123 := alX_t al12 al3
  rcases hh3 with ⟨v1, Ir4, d4, v2, v3, v4⟩ | ⟨v1, v2, ct3, vk3, v3, v4, st4, k4, e4, Ir4, Jr4, d4, tk4, rt4, v5, v6, v7, ar4⟩
  · exact ⟨_, _, _, _, 0, cC (mtd37_23 (d := d + 4) hG v1 _ _ _ _), mm_6 hGr hb d1 f1 dz1 ha1 d2 f4 dz2 (by omega) hc1 d3 d4, ⟨alc al123, (by intro c q t1 t2 t3 t4 t5; repeat (first | rw [uI_n _ _ (by omega)] | rw [ar7.1 c q (by omega)] | rw [ar6.1 c q (by omega)] | rw [ar5.1 c q (by omega)] | rw [ar4.1 c q (by omega)] | rw [ar3.1 c q (by omega)] | rw [ar2.1 c q (by omega)] | rw [ar1.1 c q (by omega)] | rw [w0.1 c q (by omega)] | rw [u0.1 c q (by omega)] | rw [v2.1 c q (by omega)] | rw [z2.1 c q (by omega)]))⟩, Or.inl ⟨rfl, v1, v3, v4⟩⟩
  -- the chance
  have e16 : (16 + Ir 88 4).toInt = ((16 + nm : Nat) : Int) := by
    rw [i_add (by rw [show (16 : Int32).toInt = 16 from by decide]; omega) (by rw [show (16 : Int32).toInt = 16 from by decide]; omega), show (16 : Int32).toInt = 16 from by decide]
    omega
  have ec16 := clamp_s (i := 16 + Ir 88 4) (by omega)
  have ek16 : (16 + Ir 88 4).toNatClampNeg = 16 + nm := by omega
  have m0 : 0 ≤ (16 + Ir 88 4).toInt := by omega
  have m1 : (16 + Ir 88 4).toInt < 32 := by omega
  have e3n : e3 ≤ n := rt3.2.2.2.2.2.2.2.2.1
  have rts : rTok b n (uI (uI (uI (uI Ir4 92 (16 + Ir 88 4).toNatClampNeg a) 93 (16 + Ir 88 4).toNatClampNeg c) 94 (16 + Ir 88 4).toNatClampNeg (Ir4 86 11)) 95 (16 + Ir 88 4).toNatClampNeg 10) Jr4 st4 k4 e4 := rTok_c rt4 (fun _ => rfl) (fun _ => rfl) rfl
  obtain ⟨Ic5, Jc5, x, c5, al5, hh5⟩ := optl_5 (L := L) (xs := xs) (d := d) (d' := d') hG hGr h4 hn9 v1 ct3.1 ct3.2.1 e3n ct3.2.2.2.2.2.1 tk4 rts 1 10 10
  have cD := fun {v : Option Value} {h' : xH} (hk : xEv L xs (d + 6) 34 50 [.ref 43, .int a, .int c, .int y, .int x] [] (124, Ic5, Jc5, R) v h') => cC (mtA37_23 hG c5 hk)
  have al5' := alX_t al123 al5
  have hrow : ∀ q, q ≠ 86 → Ir4 q = Ir q := fun q hq => funext fun i => by rw [ar4.1 q i (by omega), ar3.1 q i (by omega), ar2.1 q i (by omega), ar1.1 q i (by omega)]
  have hJ4 : Jr4 89 = Jr 89 := funext fun i => by rw [ar4.2 89 i (by omega), ar3.2 89 i (by omega), ar2.2 89 i (by omega), ar1.2 89 i (by omega)]
  have w8 : Ir4 86 8 = Ir 86 8 := by rw [v6, ar3.1 86 8 (by omega), ar2.1 86 8 (by omega), ar1.1 86 8 (by omega)]
  have w9 : Ir4 86 9 = Ir 86 9 := by rw [v7, ar3.1 86 9 (by omega), ar2.1 86 9 (by omega), ar1.1 86 9 (by omega)]
  have p4 : e0 ≤ e4 := by
    have z1 := tok_prog tk1 (by omega)
    have z2 := tok_prog tk2 (by omega)
    have z3 := tok_prog tk3 (by omega)
    have z4 := tk4.1.1
    have z5 : st4 ≤ e4 := rt4.2.2.2.2.2.2.2.2.2
    omega
  have h15 : (Ic5 23 15).toInt = nm := by rw [al5'.1 23 15 (by omega) (by omega)]; exact q3
  have ecf := clamp_s (i := Ic5 23 15) (by omega)
  have ekf : (Ic5 23 15).toNatClampNeg = nm := by omega
  have fin : ∀ (IrF : Nat → Nat → Int32) (JrF : Nat → Nat → Int64) (st k e : Nat), (Ic5 43 2).toInt = 0 → Ic5 43 3 = Ic 43 3 → cTok b n Ic5 Jc5 st k e → e0 ≤ e → rTok b n IrF JrF st k e → IrF 86 8 = Ir 86 8 → IrF 86 9 = Ir 86 9 → (IrF 88 4).toInt = ((nm + 1 : Nat) : Int) → IrF 88 3 = Ir 88 3 → IrF 88 5 = Ir 88 5 → (∀ i, i ≤ nm → IrF 92 (16 + i) = if i = nm then a else Ir 92 (16 + i)) → (∀ i, i ≤ nm → IrF 93 (16 + i) = if i = nm then c else Ir 93 (16 + i)) → (∀ i, i ≤ nm → IrF 94 (16 + i) = if i = nm then y else Ir 94 (16 + i)) → (∀ i, i ≤ nm → IrF 95 (16 + i) = if i = nm then x else Ir 95 (16 + i)) → (∀ q, 90 ≤ q → q ≤ 100 → ¬ (92 ≤ q ∧ q ≤ 95) → IrF q = Ir q) → JrF 89 = Jr 89 → FRr Ir IrF → CL_23 b n e0 Ic Ir (uI (uI (uI (uI (uI Ic5 27 (Ic5 23 15).toNatClampNeg a) 28 (Ic5 23 15).toNatClampNeg c) 29 (Ic5 23 15).toNatClampNeg y) 30 (Ic5 23 15).toNatClampNeg x) 23 15 (Ic5 23 15 + 1)) Jc5 IrF JrF 1 := by
    intro IrF JrF st k e k1 k2 k3 k4 k5 k6 k7 r1 r2 r3 r4 r5 r6 r7 r8 r9 hFR
    have e1 := i_add1 (x := Ic5 23 15) (by omega)
    have eI : ∀ q, (23 ≤ q ∧ q ≤ 37) → Ic5 q = Ic q := fun q hq => funext fun i => al5'.1 q i (by omega) (by omega)
    rw [ekf]
    refine ⟨⟨⟨al5'.1 23 17 (by omega) (by omega), al5'.1 37 5 (by omega) (by omega), fun c q t1 t2 t3 => by rw [uI_n _ _ (by omega), uI_n _ _ (by omega), uI_n _ _ (by omega), uI_n _ _ (by omega), uI_n _ _ (by omega), al5'.1 c q (by omega) (by omega)]⟩, hFR⟩, Or.inr ⟨rfl, k1, k2, k6, k7, st, k, e, np, nm + 1, nn, k4, cTok_c k3 (fun _ => rfl) (fun _ => rfl) rfl, k5, ?_⟩⟩
    refine PR_t_23 hP0 (by omega) a c y x (by omega) (by show (Ic5 23 15 + 1).toInt = _; omega) (by show Ic5 23 14 = _; rw [eI 23 (by decide)]) (by show Ic5 23 16 = _; rw [eI 23 (by decide)]) ?_ ?_ ?_ ?_ ?_ (funext fun i => al5'.2 24 i (by omega)) r1 r2 r3 r4 r5 r6 r7 r8 r9
    · intro i
      show uI Ic5 27 nm a 27 i = _
      by_cases g : i = nm
      · rw [if_pos g, g, uI_s]
      · rw [if_neg g, uI_n _ _ (by omega), eI 27 (by decide)]
    · intro i
      show uI (uI Ic5 27 nm a) 28 nm c 28 i = _
      by_cases g : i = nm
      · rw [if_pos g, g, uI_s]
      · rw [if_neg g, uI_n _ _ (by omega), uI_n _ _ (by omega), eI 28 (by decide)]
    · intro i
      show uI (uI (uI Ic5 27 nm a) 28 nm c) 29 nm y 29 i = _
      by_cases g : i = nm
      · rw [if_pos g, g, uI_s]
      · rw [if_neg g, uI_n _ _ (by omega), uI_n _ _ (by omega), uI_n _ _ (by omega), eI 29 (by decide)]
    · intro i
      show uI (uI (uI (uI Ic5 27 nm a) 28 nm c) 29 nm y) 30 nm x 30 i = _
      by_cases g : i = nm
      · rw [if_pos g, g, uI_s]
      · rw [if_neg g, uI_n _ _ (by omega), uI_n _ _ (by omega), uI_n _ _ (by omega), uI_n _ _ (by omega), eI 30 (by decide)]
    · intro q h1 h2 h3
      rw [← eI q (by omega)]
      funext i
      rw [uI_n _ _ (by omega), uI_n _ _ (by omega), uI_n _ _ (by omega), uI_n _ _ (by omega), uI_n _ _ (by omega)]
  have amr : (Ic5 43 2).toInt = 0 → xEv L xs (d + 6) 34 50 [.ref 43, .int a, .int c, .int y, .int x] [] (124, Ic5, Jc5, R) none (124, uI (uI (uI (uI (uI Ic5 27 (Ic5 23 15).toNatClampNeg a) 28 (Ic5 23 15).toNatClampNeg c) 29 (Ic5 23 15).toNatClampNeg y) 30 (Ic5 23 15).toNatClampNeg x) 23 15 (Ic5 23 15 + 1), Jc5, R) := fun hx => mtA50_23 hG hx hR (am_run_23 (d := d + 4) hG (by omega) (by omega) a c y x)
  rw [ek16] at hh5
  rcases hh5 with ⟨z1, z2, z3, z4, dk⟩ | ⟨dk, Ir6, Jr6, d6, ar6, ⟨z1, Ir7, d7, z2, z3, z4⟩ | ⟨z1, z2, st7, k7, e7, Ir7, Jr7, d7, z3, ct7, rt7, z4, z5, z6, ar7⟩⟩
  · have e31 : (Ir4 88 4 + 1).toInt = ((nm + 1 : Nat) : Int) := by rw [hrow 88 (by decide)]; have := i_add1 (x := Ir 88 4) (by omega); omega
    rw [← ek16] at dk
    refine ⟨_, _, _, _, 1, cD (amr z2), mm_7 hGr hb d1 f1 dz1 ha1 d2 f4 dz2 (by omega) hc1 d3 d4 m0 m1 m0 m1 m0 m1 m0 m1 dk, ?_⟩
    rw [ek16]
    refine fin _ Jr4 st4 k4 e4 z2 (by rw [z3, v2, u5, g6]) z4 p4 (rTok_c rt4 (fun _ => rfl) (fun _ => rfl) rfl) w8 w9 e31 (by show Ir4 88 3 = _; rw [hrow 88 (by decide)]) (by show Ir4 88 5 = _; rw [hrow 88 (by decide)]) ?_ ?_ ?_ ?_ ?_ hJ4 (by intro c q t1 t2 t3 t4 t5; repeat (first | rw [uI_n _ _ (by omega)] | rw [ar7.1 c q (by omega)] | rw [ar6.1 c q (by omega)] | rw [ar5.1 c q (by omega)] | rw [ar4.1 c q (by omega)] | rw [ar3.1 c q (by omega)] | rw [ar2.1 c q (by omega)] | rw [ar1.1 c q (by omega)] | rw [w0.1 c q (by omega)] | rw [u0.1 c q (by omega)] | rw [v2.1 c q (by omega)] | rw [z2.1 c q (by omega)]))
    · intro i hi
      show uI Ir4 92 (16 + nm) a 92 (16 + i) = _
      by_cases g : i = nm
      · rw [if_pos g, g, uI_s]
      · rw [if_neg g, uI_n _ _ (by omega), hrow 92 (by decide)]
    · intro i hi
      show uI (uI Ir4 92 (16 + nm) a) 93 (16 + nm) c 93 (16 + i) = _
      by_cases g : i = nm
      · rw [if_pos g, g, uI_s]
      · rw [if_neg g, uI_n _ _ (by omega), uI_n _ _ (by omega), hrow 93 (by decide)]
    · intro i hi
      show uI (uI (uI Ir4 92 (16 + nm) a) 93 (16 + nm) c) 94 (16 + nm) (Ir4 86 11) 94 (16 + i) = _
      by_cases g : i = nm
      · rw [if_pos g, g, uI_s, v5]
      · rw [if_neg g, uI_n _ _ (by omega), uI_n _ _ (by omega), uI_n _ _ (by omega), hrow 94 (by decide)]
    · intro i hi
      show uI (uI (uI (uI Ir4 92 (16 + nm) a) 93 (16 + nm) c) 94 (16 + nm) (Ir4 86 11)) 95 (16 + nm) 10 95 (16 + i) = _
      by_cases g : i = nm
      · rw [if_pos g, g, uI_s, z1]
      · rw [if_neg g, uI_n _ _ (by omega), uI_n _ _ (by omega), uI_n _ _ (by omega), uI_n _ _ (by omega), hrow 95 (by decide)]
    · intro q h1 h2 h3
      rw [← hrow q (by omega)]
      funext i
      rw [uI_n _ _ (by omega), uI_n _ _ (by omega), uI_n _ _ (by omega), uI_n _ _ (by omega), uI_n _ _ (by omega)]
  · rw [← ek16] at dk d6
    exact ⟨_, _, _, _, 0, cD (mtD50_23 hG z1), mm_8 hGr hb d1 f1 dz1 ha1 d2 f4 dz2 (by omega) hc1 d3 d4 m0 m1 m0 m1 m0 m1 m0 m1 dk d6 d7, ⟨alc al5', (by intro c q t1 t2 t3 t4 t5; repeat (first | rw [uI_n _ _ (by omega)] | rw [ar7.1 c q (by omega)] | rw [ar6.1 c q (by omega)] | rw [ar5.1 c q (by omega)] | rw [ar4.1 c q (by omega)] | rw [ar3.1 c q (by omega)] | rw [ar2.1 c q (by omega)] | rw [ar1.1 c q (by omega)] | rw [w0.1 c q (by omega)] | rw [u0.1 c q (by omega)] | rw [v2.1 c q (by omega)] | rw [z2.1 c q (by omega)]))⟩, Or.inl ⟨rfl, z1, z3, z4⟩⟩
  · have hrow7 : ∀ q, q ≠ 86 → Ir7 q = (uI (uI (uI (uI Ir4 92 (16 + nm) a) 93 (16 + nm) c) 94 (16 + nm) (Ir4 86 11)) 95 (16 + nm) 10) q := fun q hq => funext fun i => by rw [ar7.1 q i (by omega), ar6.1 q i (by omega)]
    have eNU : ∀ i, Ir7 88 i = Ir 88 i := fun i => by rw [hrow7 88 (by decide)]; show Ir4 88 i = _; rw [hrow 88 (by decide)]
    have e31 : (Ir7 88 4 + 1).toInt = ((nm + 1 : Nat) : Int) := by rw [eNU]; have := i_add1 (x := Ir 88 4) (by omega); omega
    rw [← ek16] at dk d6
    refine ⟨_, _, _, _, 1, cD (amr z1), mm_9 hGr hb d1 f1 dz1 ha1 d2 f4 dz2 (by omega) hc1 d3 d4 m0 m1 m0 m1 m0 m1 m0 m1 dk d6 d7 m0 m1, ?_⟩
    rw [ek16]
    refine fin _ Jr7 st7 k7 e7 z1 (by rw [z2, v2, u5, g6]) ct7 (by omega) (rTok_c rt7 (fun _ => rfl) (fun _ => rfl) rfl) (by show Ir7 86 8 = _; rw [z5]; exact w8) (by show Ir7 86 9 = _; rw [z6]; exact w9) e31 (by show Ir7 88 3 = _; exact eNU 3) (by show Ir7 88 5 = _; exact eNU 5) ?_ ?_ ?_ ?_ ?_ ?_ (by intro c q t1 t2 t3 t4 t5; repeat (first | rw [uI_n _ _ (by omega)] | rw [ar7.1 c q (by omega)] | rw [ar6.1 c q (by omega)] | rw [ar5.1 c q (by omega)] | rw [ar4.1 c q (by omega)] | rw [ar3.1 c q (by omega)] | rw [ar2.1 c q (by omega)] | rw [ar1.1 c q (by omega)] | rw [w0.1 c q (by omega)] | rw [u0.1 c q (by omega)] | rw [v2.1 c q (by omega)] | rw [z2.1 c q (by omega)]))
    · intro i hi
      show Ir7 92 (16 + i) = _
      rw [hrow7 92 (by decide)]
      show uI Ir4 92 (16 + nm) a 92 (16 + i) = _
      by_cases g : i = nm
      · rw [if_pos g, g, uI_s]
      · rw [if_neg g, uI_n _ _ (by omega), hrow 92 (by decide)]
    · intro i hi
      show Ir7 93 (16 + i) = _
      rw [hrow7 93 (by decide)]
      show uI (uI Ir4 92 (16 + nm) a) 93 (16 + nm) c 93 (16 + i) = _
      by_cases g : i = nm
      · rw [if_pos g, g, uI_s]
      · rw [if_neg g, uI_n _ _ (by omega), uI_n _ _ (by omega), hrow 93 (by decide)]
    · intro i hi
      show Ir7 94 (16 + i) = _
      rw [hrow7 94 (by decide)]
      show uI (uI (uI Ir4 92 (16 + nm) a) 93 (16 + nm) c) 94 (16 + nm) (Ir4 86 11) 94 (16 + i) = _
      by_cases g : i = nm
      · rw [if_pos g, g, uI_s, v5]
      · rw [if_neg g, uI_n _ _ (by omega), uI_n _ _ (by omega), uI_n _ _ (by omega), hrow 94 (by decide)]
    · intro i hi
      show uI Ir7 95 (16 + nm) (Ir7 86 11) 95 (16 + i) = _
      by_cases g : i = nm
      · rw [if_pos g, g, uI_s, z4]
      · rw [if_neg g, uI_n _ _ (by omega), hrow7 95 (by decide), uI_n _ _ (by omega), uI_n _ _ (by omega), uI_n _ _ (by omega), uI_n _ _ (by omega), hrow 95 (by decide)]
    · intro q h1 h2 h3
      have hz : uI (uI Ir7 95 (16 + nm) (Ir7 86 11)) 88 4 (Ir7 88 4 + 1) q = Ir7 q := by
        funext i
        rw [uI_n _ _ (by omega), uI_n _ _ (by omega)]
      rw [hz, hrow7 q (by omega), ← hrow q (by omega)]
      funext i
      rw [uI_n _ _ (by omega), uI_n _ _ (by omega), uI_n _ _ (by omega), uI_n _ _ (by omega)]
    · funext i
      rw [ar7.2 89 i (by omega), ar6.2 89 i (by omega), hJ4]
end ME23
