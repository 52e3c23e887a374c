set_option maxRecDepth 20000 in
theorem nwD72_3 {L : Nat} {xs : Nat → Int32} {d : Nat} {I : Nat → Nat → Int32} {J : Nat → Nat → Int64} {R : Nat → Nat → Nat} {u1 u2 u3 u4 : Value} (hG : aGd R) (b1 : (I 43 2).toInt ≠ 0) : xEv L xs d 37 72 [.ref 43, u1, u2, u3, u4] [] (124, I, J, R) none (124, I, J, R) := by
  refine ev_go 2 (pc1 := 76) (lv1 := [.ref 43, u1, u2, u3, u4]) (st1 := [.int (I 43 2)]) (h1 := (124, I, J, R)) rfl ?_
  refine ev_br (b1 := true) rfl rfl (xcd_ne (x := (I 43 2)) (y := 0) (by rw [show ((0 : Int32)).toInt = 0 from by decide]; first | exact b1 | omega)) ?_
  exact ev_ret rfl rfl
set_option maxRecDepth 20000 in
theorem nwD63_3 {L : Nat} {xs : Nat → Int32} {d : Nat} {I : Nat → Nat → Int32} {J : Nat → Nat → Int64} {R : Nat → Nat → Nat} {a c y z : Int32} {u4 : Value} (hG : aGd R) (c1 : xEv L xs d 30 0 [.ref 43, .int 0, .int 99, xmk, xmk] [] (124, I, J, R) (some (.int z)) (124, I, J, R)) {v : Option Value} {h' : xH} (hk : xEv L xs (d + 1) 37 72 [.ref 43, .int a, .int c, .int y, .int z] [] (124, I, J, R) v h') : xEv L xs (d + 1) 37 63 [.ref 43, .int a, .int c, .int y, u4] [] (124, I, J, R) v h' := by
  refine ev_go 3 (pc1 := 67) (lv1 := [.ref 43, .int a, .int c, .int y, u4]) (st1 := [.int 99, .int 0, .ref 43]) (h1 := (124, I, J, R)) rfl ?_
  refine ev_call (v1 := (some (.int z))) (h1 := (124, I, J, R)) rfl rfl c1 ?_
  refine ev_go 1 (pc1 := 72) (lv1 := [.ref 43, .int a, .int c, .int y, .int z]) (st1 := []) (h1 := (124, I, J, R)) rfl ?_
  exact hk
set_option maxRecDepth 20000 in
theorem nwD55_3 {L : Nat} {xs : Nat → Int32} {d : Nat} {I : Nat → Nat → Int32} {J : Nat → Nat → Int64} {R : Nat → Nat → Nat} {a c y : Int32} {u3 u4 : Value} (hG : aGd R) (c1 : xEv L xs d 30 0 [.ref 43, .int 0, .int 95, xmk, xmk] [] (124, I, J, R) (some (.int y)) (124, I, J, R)) {v : Option Value} {h' : xH} (hk : xEv L xs (d + 1) 37 63 [.ref 43, .int a, .int c, .int y, u4] [] (124, I, J, R) v h') : xEv L xs (d + 1) 37 55 [.ref 43, .int a, .int c, u3, u4] [] (124, I, J, R) v h' := by
  refine ev_go 3 (pc1 := 59) (lv1 := [.ref 43, .int a, .int c, u3, u4]) (st1 := [.int 95, .int 0, .ref 43]) (h1 := (124, I, J, R)) rfl ?_
  refine ev_call (v1 := (some (.int y))) (h1 := (124, I, J, R)) rfl rfl c1 ?_
  refine ev_go 1 (pc1 := 63) (lv1 := [.ref 43, .int a, .int c, .int y, u4]) (st1 := []) (h1 := (124, I, J, R)) rfl ?_
  exact hk
set_option maxRecDepth 20000 in
theorem nwD49_3 {L : Nat} {xs : Nat → Int32} {d : Nat} {I : Nat → Nat → Int32} {J : Nat → Nat → Int64} {R : Nat → Nat → Nat} {a c : Int32} {u2 u3 u4 : Value} (hG : aGd R) (c1 : xEv L xs d 35 0 [.ref 43, .int a, xmk] [] (124, I, J, R) (some (.int c)) (124, I, J, R)) {v : Option Value} {h' : xH} (hk : xEv L xs (d + 1) 37 55 [.ref 43, .int a, .int c, u3, u4] [] (124, I, J, R) v h') : xEv L xs (d + 1) 37 49 [.ref 43, .int a, u2, u3, u4] [] (124, I, J, R) v h' := by
  refine ev_go 2 (pc1 := 51) (lv1 := [.ref 43, .int a, u2, u3, u4]) (st1 := [.int a, .ref 43]) (h1 := (124, I, J, R)) rfl ?_
  refine ev_call (v1 := (some (.int c))) (h1 := (124, I, J, R)) rfl rfl c1 ?_
  refine ev_go 1 (pc1 := 55) (lv1 := [.ref 43, .int a, .int c, u3, u4]) (st1 := []) (h1 := (124, I, J, R)) rfl ?_
  exact hk
set_option maxRecDepth 20000 in
theorem nwA22_3 {L : Nat} {xs : Nat → Int32} {d : Nat} {I : Nat → Nat → Int32} {J : Nat → Nat → Int64} {R : Nat → Nat → Nat} {a q r : Int32} {u2 u3 u4 : Value} (hG : aGd R) (r_R_43_1 : R 43 1 = 4) (c1 : xEv L xs d 38 0 [.ref 3, .int a, xmk, xmk] [] (124, I, J, R) (some (.int q)) (124, I, J, R)) (c2 : xEv L xs d 39 0 [.ref 5, .int a] [] (124, I, J, R) (some (.int r)) (124, I, J, R)) (b1 : q.toInt < r.toInt) {v : Option Value} {h' : xH} (hk : xEv L xs (d + 1) 37 49 [.ref 43, .int a, u2, u3, u4] [] (124, I, J, R) v h') : xEv L xs (d + 1) 37 22 [.ref 43, .int a, u2, u3, u4] [] (124, I, J, R) v h' := by
  refine ev_go 1 (pc1 := 23) (lv1 := [.ref 43, .int a, u2, u3, u4]) (st1 := [.ref 43]) (h1 := (124, I, J, R)) rfl ?_
  refine ev_gf (c := 43) (t := 3) (X := R 43 1) rfl rfl (fun _ => rfl) rfl r_R_43_1 ?_
  refine ev_go 1 (pc1 := 27) (lv1 := [.ref 43, .int a, u2, u3, u4]) (st1 := [.int a, .ref 3]) (h1 := (124, I, J, R)) rfl ?_
  refine ev_call (v1 := (some (.int q))) (h1 := (124, I, J, R)) rfl rfl c1 ?_
  refine ev_go 1 (pc1 := 31) (lv1 := [.ref 43, .int a, u2, u3, u4]) (st1 := [.ref 43, .int q]) (h1 := (124, I, J, R)) rfl ?_
  refine ev_gf (c := 43) (t := 3) (X := R 43 1) rfl rfl (fun _ => rfl) rfl r_R_43_1 ?_
  refine ev_gf (c := 3) (t := 5) (X := R 3 1) rfl rfl (fun _ => rfl) rfl (hG 3 1 5 rfl rfl) ?_
  refine ev_go 1 (pc1 := 38) (lv1 := [.ref 43, .int a, u2, u3, u4]) (st1 := [.int a, .ref 5, .int q]) (h1 := (124, I, J, R)) rfl ?_
  refine ev_call (v1 := (some (.int r))) (h1 := (124, I, J, R)) rfl rfl c2 ?_
  refine ev_br (b1 := true) rfl rfl (xcd_lt (x := q) (y := r) (by first | exact b1 | omega)) ?_
  exact hk
set_option maxRecDepth 20000 in
theorem nwD22_3 {L : Nat} {xs : Nat → Int32} {d : Nat} {I : Nat → Nat → Int32} {J : Nat → Nat → Int64} {R : Nat → Nat → Nat} {a q r : Int32} {u2 u3 u4 : Value} (hG : aGd R) (r_R_43_1 : R 43 1 = 4) (c1 : xEv L xs d 38 0 [.ref 3, .int a, xmk, xmk] [] (124, I, J, R) (some (.int q)) (124, I, J, R)) (c2 : xEv L xs d 39 0 [.ref 5, .int a] [] (124, I, J, R) (some (.int r)) (124, I, J, R)) (b1 : q.toInt ≥ r.toInt) (c3 : xEv L xs d 27 0 [.ref 43, .int 4] [] (124, I, J, R) none (124, I, J, R)) {v : Option Value} {h' : xH} (hk : xEv L xs (d + 1) 37 49 [.ref 43, .int a, u2, u3, u4] [] (124, I, J, R) v h') : xEv L xs (d + 1) 37 22 [.ref 43, .int a, u2, u3, u4] [] (124, I, J, R) v h' := by
  refine ev_go 1 (pc1 := 23) (lv1 := [.ref 43, .int a, u2, u3, u4]) (st1 := [.ref 43]) (h1 := (124, I, J, R)) rfl ?_
  refine ev_gf (c := 43) (t := 3) (X := R 43 1) rfl rfl (fun _ => rfl) rfl r_R_43_1 ?_
  refine ev_go 1 (pc1 := 27) (lv1 := [.ref 43, .int a, u2, u3, u4]) (st1 := [.int a, .ref 3]) (h1 := (124, I, J, R)) rfl ?_
  refine ev_call (v1 := (some (.int q))) (h1 := (124, I, J, R)) rfl rfl c1 ?_
  refine ev_go 1 (pc1 := 31) (lv1 := [.ref 43, .int a, u2, u3, u4]) (st1 := [.ref 43, .int q]) (h1 := (124, I, J, R)) rfl ?_
  refine ev_gf (c := 43) (t := 3) (X := R 43 1) rfl rfl (fun _ => rfl) rfl r_R_43_1 ?_
  refine ev_gf (c := 3) (t := 5) (X := R 3 1) rfl rfl (fun _ => rfl) rfl (hG 3 1 5 rfl rfl) ?_
  refine ev_go 1 (pc1 := 38) (lv1 := [.ref 43, .int a, u2, u3, u4]) (st1 := [.int a, .ref 5, .int q]) (h1 := (124, I, J, R)) rfl ?_
  refine ev_call (v1 := (some (.int r))) (h1 := (124, I, J, R)) rfl rfl c2 ?_
  refine ev_br (b1 := false) rfl rfl (xcd_nlt (x := q) (y := r) (by first | exact b1 | omega)) ?_
  refine ev_go 2 (pc1 := 46) (lv1 := [.ref 43, .int a, u2, u3, u4]) (st1 := [.int 4, .ref 43]) (h1 := (124, I, J, R)) rfl ?_
  refine ev_call (v1 := none) (h1 := (124, I, J, R)) rfl rfl c3 ?_
  exact hk
set_option maxRecDepth 20000 in
theorem nwA22f_3 {L : Nat} {xs : Nat → Int32} {d : Nat} {I : Nat → Nat → Int32} {J : Nat → Nat → Int64} {R : Nat → Nat → Nat} {a q r : Int32} {u2 u3 u4 : Value} (hG : aGd R) (r_R_43_1 : R 43 1 = 4) (c1 : xEv L xs d 38 0 [.ref 3, .int a, xmk, xmk] [] (124, I, J, R) (some (.int q)) (124, I, J, R)) (c2 : xEv L xs d 39 0 [.ref 5, .int a] [] (124, I, J, R) (some (.int r)) (124, I, J, R)) (b1 : q.toInt ≥ r.toInt) (c3 : xEv L xs d 27 0 [.ref 43, .int 4] [] (124, I, J, R) none (124, (uI (uI I 43 2 4) 43 3 (I 1 4)), J, R)) {v : Option Value} {h' : xH} (hk : xEv L xs (d + 1) 37 49 [.ref 43, .int a, u2, u3, u4] [] (124, (uI (uI I 43 2 4) 43 3 (I 1 4)), J, R) v h') : xEv L xs (d + 1) 37 22 [.ref 43, .int a, u2, u3, u4] [] (124, I, J, R) v h' := by
  refine ev_go 1 (pc1 := 23) (lv1 := [.ref 43, .int a, u2, u3, u4]) (st1 := [.ref 43]) (h1 := (124, I, J, R)) rfl ?_
  refine ev_gf (c := 43) (t := 3) (X := R 43 1) rfl rfl (fun _ => rfl) rfl r_R_43_1 ?_
  refine ev_go 1 (pc1 := 27) (lv1 := [.ref 43, .int a, u2, u3, u4]) (st1 := [.int a, .ref 3]) (h1 := (124, I, J, R)) rfl ?_
  refine ev_call (v1 := (some (.int q))) (h1 := (124, I, J, R)) rfl rfl c1 ?_
  refine ev_go 1 (pc1 := 31) (lv1 := [.ref 43, .int a, u2, u3, u4]) (st1 := [.ref 43, .int q]) (h1 := (124, I, J, R)) rfl ?_
  refine ev_gf (c := 43) (t := 3) (X := R 43 1) rfl rfl (fun _ => rfl) rfl r_R_43_1 ?_
  refine ev_gf (c := 3) (t := 5) (X := R 3 1) rfl rfl (fun _ => rfl) rfl (hG 3 1 5 rfl rfl) ?_
  refine ev_go 1 (pc1 := 38) (lv1 := [.ref 43, .int a, u2, u3, u4]) (st1 := [.int a, .ref 5, .int q]) (h1 := (124, I, J, R)) rfl ?_
  refine ev_call (v1 := (some (.int r))) (h1 := (124, I, J, R)) rfl rfl c2 ?_
  refine ev_br (b1 := false) rfl rfl (xcd_nlt (x := q) (y := r) (by first | exact b1 | omega)) ?_
  refine ev_go 2 (pc1 := 46) (lv1 := [.ref 43, .int a, u2, u3, u4]) (st1 := [.int 4, .ref 43]) (h1 := (124, I, J, R)) rfl ?_
  refine ev_call (v1 := none) (h1 := (124, (uI (uI I 43 2 4) 43 3 (I 1 4)), J, R)) rfl rfl c3 ?_
  exact hk
set_option maxRecDepth 20000 in
theorem nwD16_3 {L : Nat} {xs : Nat → Int32} {d : Nat} {I : Nat → Nat → Int32} {J : Nat → Nat → Int64} {R : Nat → Nat → Nat} {a : Int32} {u1 u2 u3 u4 : Value} (hG : aGd R) (c1 : xEv L xs d 35 0 [.ref 43, .int (-1), xmk] [] (124, I, J, R) (some (.int a)) (124, I, J, R)) {v : Option Value} {h' : xH} (hk : xEv L xs (d + 1) 37 22 [.ref 43, .int a, u2, u3, u4] [] (124, I, J, R) v h') : xEv L xs (d + 1) 37 16 [.ref 43, u1, u2, u3, u4] [] (124, I, J, R) v h' := by
  refine ev_go 2 (pc1 := 18) (lv1 := [.ref 43, u1, u2, u3, u4]) (st1 := [.int (-1), .ref 43]) (h1 := (124, I, J, R)) rfl ?_
  refine ev_call (v1 := (some (.int a))) (h1 := (124, I, J, R)) rfl rfl c1 ?_
  refine ev_go 1 (pc1 := 22) (lv1 := [.ref 43, .int a, u2, u3, u4]) (st1 := []) (h1 := (124, I, J, R)) rfl ?_
  exact hk
set_option maxRecDepth 20000 in
theorem nwA0_3 {L : Nat} {xs : Nat → Int32} {d : Nat} {I : Nat → Nat → Int32} {J : Nat → Nat → Int64} {R : Nat → Nat → Nat} (hG : aGd R) (r_R_43_1 : R 43 1 = 4) (b1 : (I 3 16).toInt < 4) {v : Option Value} {h' : xH} (hk : xEv L xs d 37 16 [.ref 43, xmk, xmk, xmk, xmk] [] (124, I, J, R) v h') : xEv L xs d 37 0 [.ref 43, xmk, xmk, xmk, xmk] [] (124, I, J, R) v h' := by
  refine ev_go 1 (pc1 := 1) (lv1 := [.ref 43, xmk, xmk, xmk, xmk]) (st1 := [.ref 43]) (h1 := (124, I, J, R)) rfl ?_
  refine ev_gf (c := 43) (t := 3) (X := R 43 1) rfl rfl (fun _ => rfl) rfl r_R_43_1 ?_
  refine ev_go 2 (pc1 := 8) (lv1 := [.ref 43, xmk, xmk, xmk, xmk]) (st1 := [.int 4, .int (I 3 16)]) (h1 := (124, I, J, R)) rfl ?_
  refine ev_br (b1 := true) rfl rfl (xcd_lt (x := (I 3 16)) (y := 4) (by rw [show ((4 : Int32)).toInt = 4 from by decide]; first | exact b1 | omega)) ?_
  exact hk
set_option maxRecDepth 20000 in
theorem nwA0f_3 {L : Nat} {xs : Nat → Int32} {d : Nat} {I : Nat → Nat → Int32} {J : Nat → Nat → Int64} {R : Nat → Nat → Nat} (hG : aGd R) (r_R_43_1 : R 43 1 = 4) (b1 : (I 3 16).toInt ≥ 4) (c1 : xEv L xs d 27 0 [.ref 43, .int 4] [] (124, I, J, R) none (124, (uI (uI I 43 2 4) 43 3 (I 1 4)), J, R)) {v : Option Value} {h' : xH} (hk : xEv L xs (d + 1) 37 16 [.ref 43, xmk, xmk, xmk, xmk] [] (124, (uI (uI I 43 2 4) 43 3 (I 1 4)), J, R) v h') : xEv L xs (d + 1) 37 0 [.ref 43, xmk, xmk, xmk, xmk] [] (124, I, J, R) v h' := by
  refine ev_go 1 (pc1 := 1) (lv1 := [.ref 43, xmk, xmk, xmk, xmk]) (st1 := [.ref 43]) (h1 := (124, I, J, R)) rfl ?_
  refine ev_gf (c := 43) (t := 3) (X := R 43 1) rfl rfl (fun _ => rfl) rfl r_R_43_1 ?_
  refine ev_go 2 (pc1 := 8) (lv1 := [.ref 43, xmk, xmk, xmk, xmk]) (st1 := [.int 4, .int (I 3 16)]) (h1 := (124, I, J, R)) rfl ?_
  refine ev_br (b1 := false) rfl rfl (xcd_nlt (x := (I 3 16)) (y := 4) (by rw [show ((4 : Int32)).toInt = 4 from by decide]; first | exact b1 | omega)) ?_
  refine ev_go 2 (pc1 := 13) (lv1 := [.ref 43, xmk, xmk, xmk, xmk]) (st1 := [.int 4, .ref 43]) (h1 := (124, I, J, R)) rfl ?_
  refine ev_call (v1 := none) (h1 := (124, (uI (uI I 43 2 4) 43 3 (I 1 4)), J, R)) rfl rfl c1 ?_
  exact hk
set_option maxRecDepth 20000 in
theorem nwA16_3 {L : Nat} {xs : Nat → Int32} {d : Nat} {I : Nat → Nat → Int32} {J : Nat → Nat → Int64} {R : Nat → Nat → Nat} {I1 : Nat → Nat → Int32} {J1 : Nat → Nat → Int64} {a : Int32} (hG : aGd R) (c1 : xEv L xs d 35 0 [.ref 43, .int (-1), xmk] [] (124, I, J, R) (some (.int a)) (124, I1, J1, R)) {v : Option Value} {h' : xH} (hk : xEv L xs (d + 1) 37 22 [.ref 43, .int a, xmk, xmk, xmk] [] (124, I1, J1, R) v h') : xEv L xs (d + 1) 37 16 [.ref 43, xmk, xmk, xmk, xmk] [] (124, I, J, R) v h' := by
  refine ev_go 2 (pc1 := 18) (lv1 := [.ref 43, xmk, xmk, xmk, xmk]) (st1 := [.int (-1), .ref 43]) (h1 := (124, I, J, R)) rfl ?_
  refine ev_call (v1 := (some (.int a))) (h1 := (124, I1, J1, R)) rfl rfl c1 ?_
  refine ev_go 1 (pc1 := 22) (lv1 := [.ref 43, .int a, xmk, xmk, xmk]) (st1 := []) (h1 := (124, I1, J1, R)) rfl ?_
  exact hk
set_option maxRecDepth 20000 in
theorem nwA49_3 {L : Nat} {xs : Nat → Int32} {d : Nat} {I : Nat → Nat → Int32} {J : Nat → Nat → Int64} {R : Nat → Nat → Nat} {I1 : Nat → Nat → Int32} {J1 : Nat → Nat → Int64} {a c : Int32} (hG : aGd R) (c1 : xEv L xs d 35 0 [.ref 43, .int a, xmk] [] (124, I, J, R) (some (.int c)) (124, I1, J1, R)) {v : Option Value} {h' : xH} (hk : xEv L xs (d + 1) 37 55 [.ref 43, .int a, .int c, xmk, xmk] [] (124, I1, J1, R) v h') : xEv L xs (d + 1) 37 49 [.ref 43, .int a, xmk, xmk, xmk] [] (124, I, J, R) v h' := by
  refine ev_go 2 (pc1 := 51) (lv1 := [.ref 43, .int a, xmk, xmk, xmk]) (st1 := [.int a, .ref 43]) (h1 := (124, I, J, R)) rfl ?_
  refine ev_call (v1 := (some (.int c))) (h1 := (124, I1, J1, R)) rfl rfl c1 ?_
  refine ev_go 1 (pc1 := 55) (lv1 := [.ref 43, .int a, .int c, xmk, xmk]) (st1 := []) (h1 := (124, I1, J1, R)) rfl ?_
  exact hk
set_option maxRecDepth 20000 in
theorem nwA55_3 {L : Nat} {xs : Nat → Int32} {d : Nat} {I : Nat → Nat → Int32} {J : Nat → Nat → Int64} {R : Nat → Nat → Nat} {I1 : Nat → Nat → Int32} {J1 : Nat → Nat → Int64} {a c y : Int32} (hG : aGd R) (c1 : xEv L xs d 30 0 [.ref 43, .int 0, .int 95, xmk, xmk] [] (124, I, J, R) (some (.int y)) (124, I1, J1, R)) {v : Option Value} {h' : xH} (hk : xEv L xs (d + 1) 37 63 [.ref 43, .int a, .int c, .int y, xmk] [] (124, I1, J1, R) v h') : xEv L xs (d + 1) 37 55 [.ref 43, .int a, .int c, xmk, xmk] [] (124, I, J, R) v h' := by
  refine ev_go 3 (pc1 := 59) (lv1 := [.ref 43, .int a, .int c, xmk, xmk]) (st1 := [.int 95, .int 0, .ref 43]) (h1 := (124, I, J, R)) rfl ?_
  refine ev_call (v1 := (some (.int y))) (h1 := (124, I1, J1, R)) rfl rfl c1 ?_
  refine ev_go 1 (pc1 := 63) (lv1 := [.ref 43, .int a, .int c, .int y, xmk]) (st1 := []) (h1 := (124, I1, J1, R)) rfl ?_
  exact hk
set_option maxRecDepth 20000 in
theorem nwA63_3 {L : Nat} {xs : Nat → Int32} {d : Nat} {I : Nat → Nat → Int32} {J : Nat → Nat → Int64} {R : Nat → Nat → Nat} {I1 : Nat → Nat → Int32} {J1 : Nat → Nat → Int64} {a c y x : Int32} (hG : aGd R) (c1 : xEv L xs d 30 0 [.ref 43, .int 0, .int 99, xmk, xmk] [] (124, I, J, R) (some (.int x)) (124, I1, J1, R)) {v : Option Value} {h' : xH} (hk : xEv L xs (d + 1) 37 72 [.ref 43, .int a, .int c, .int y, .int x] [] (124, I1, J1, R) v h') : xEv L xs (d + 1) 37 63 [.ref 43, .int a, .int c, .int y, xmk] [] (124, I, J, R) v h' := by
  refine ev_go 3 (pc1 := 67) (lv1 := [.ref 43, .int a, .int c, .int y, xmk]) (st1 := [.int 99, .int 0, .ref 43]) (h1 := (124, I, J, R)) rfl ?_
  refine ev_call (v1 := (some (.int x))) (h1 := (124, I1, J1, R)) rfl rfl c1 ?_
  refine ev_go 1 (pc1 := 72) (lv1 := [.ref 43, .int a, .int c, .int y, .int x]) (st1 := []) (h1 := (124, I1, J1, R)) rfl ?_
  exact hk
set_option maxRecDepth 20000 in
theorem nwA72_3 {L : Nat} {xs : Nat → Int32} {d : Nat} {I : Nat → Nat → Int32} {J : Nat → Nat → Int64} {R : Nat → Nat → Nat} {I1 : Nat → Nat → Int32} {J1 : Nat → Nat → Int64} {I2 : Nat → Nat → Int32} {J2 : Nat → Nat → Int64} {a c y x : Int32} (hG : aGd R) (b1 : (I 43 2).toInt = 0) (r_R_43_1 : R 43 1 = 4) (c1 : xEv L xs d 40 0 [.ref 3, .int a, .int c, .int y, .int x] [] (124, I, J, R) none (124, I1, J1, R)) (c2 : xEv L xs d 21 0 [.ref 1] [] (124, I1, J1, R) none (124, I2, J2, R)) : xEv L xs (d + 1) 37 72 [.ref 43, .int a, .int c, .int y, .int x] [] (124, I, J, R) none (124, I2, J2, R) := by
  refine ev_go 2 (pc1 := 76) (lv1 := [.ref 43, .int a, .int c, .int y, .int x]) (st1 := [.int (I 43 2)]) (h1 := (124, I, J, R)) rfl ?_
  refine ev_br (b1 := false) rfl rfl (xcd_nne (x := (I 43 2)) (y := 0) (by rw [show ((0 : Int32)).toInt = 0 from by decide]; first | exact b1 | omega)) ?_
  refine ev_go 1 (pc1 := 80) (lv1 := [.ref 43, .int a, .int c, .int y, .int x]) (st1 := [.ref 43]) (h1 := (124, I, J, R)) rfl ?_
  refine ev_gf (c := 43) (t := 3) (X := R 43 1) rfl rfl (fun _ => rfl) rfl r_R_43_1 ?_
  refine ev_go 4 (pc1 := 88) (lv1 := [.ref 43, .int a, .int c, .int y, .int x]) (st1 := [.int x, .int y, .int c, .int a, .ref 3]) (h1 := (124, I, J, R)) rfl ?_
  refine ev_call (v1 := none) (h1 := (124, I1, J1, R)) rfl rfl c1 ?_
  refine ev_go 1 (pc1 := 92) (lv1 := [.ref 43, .int a, .int c, .int y, .int x]) (st1 := [.ref 43]) (h1 := (124, I1, J1, R)) rfl ?_
  refine ev_gf (c := 43) (t := 1) (X := R 43 0) rfl rfl (fun _ => rfl) rfl (hG 43 0 1 rfl rfl) ?_
  refine ev_call (v1 := none) (h1 := (124, I2, J2, R)) rfl rfl c2 ?_
  exact ev_ret rfl rfl
set_option maxRecDepth 20000 in
theorem an_3 {L : Nat} {xs : Nat → Int32} {d : Nat} {I : Nat → Nat → Int32} {J : Nat → Nat → Int64} {R : Nat → Nat → Nat} {a c y x : Int32} (hG : aGd R) (c1 : xEv L xs d 33 0 [.ref 11, .int (I 3 16), .int a] [] (124, I, J, R) none (124, (uI I 11 (I 3 16).toNatClampNeg a), J, R)) (c2 : xEv L xs d 33 0 [.ref 12, .int (I 3 16), .int c] [] (124, (uI I 11 (I 3 16).toNatClampNeg a), J, R) none (124, (uI (uI I 11 (I 3 16).toNatClampNeg a) 12 (I 3 16).toNatClampNeg c), J, R)) (c3 : xEv L xs d 33 0 [.ref 13, .int (I 3 16), .int y] [] (124, (uI (uI I 11 (I 3 16).toNatClampNeg a) 12 (I 3 16).toNatClampNeg c), J, R) none (124, (uI (uI (uI I 11 (I 3 16).toNatClampNeg a) 12 (I 3 16).toNatClampNeg c) 13 (I 3 16).toNatClampNeg y), J, R)) (c4 : xEv L xs d 33 0 [.ref 14, .int (I 3 16), .int x] [] (124, (uI (uI (uI I 11 (I 3 16).toNatClampNeg a) 12 (I 3 16).toNatClampNeg c) 13 (I 3 16).toNatClampNeg y), J, R) none (124, (uI (uI (uI (uI I 11 (I 3 16).toNatClampNeg a) 12 (I 3 16).toNatClampNeg c) 13 (I 3 16).toNatClampNeg y) 14 (I 3 16).toNatClampNeg x), J, R)) (c5 : xEv L xs d 33 0 [.ref 15, .int (I 3 16), .int 0] [] (124, (uI (uI (uI (uI I 11 (I 3 16).toNatClampNeg a) 12 (I 3 16).toNatClampNeg c) 13 (I 3 16).toNatClampNeg y) 14 (I 3 16).toNatClampNeg x), J, R) none (124, (uI (uI (uI (uI (uI I 11 (I 3 16).toNatClampNeg a) 12 (I 3 16).toNatClampNeg c) 13 (I 3 16).toNatClampNeg y) 14 (I 3 16).toNatClampNeg x) 15 (I 3 16).toNatClampNeg 0), J, R)) : xEv L xs (d + 1) 40 0 [.ref 3, .int a, .int c, .int y, .int x] [] (124, I, J, R) none (124, (uI (uI (uI (uI (uI (uI I 11 (I 3 16).toNatClampNeg a) 12 (I 3 16).toNatClampNeg c) 13 (I 3 16).toNatClampNeg y) 14 (I 3 16).toNatClampNeg x) 15 (I 3 16).toNatClampNeg 0) 3 16 ((I 3 16) + 1)), J, R) := by
  refine ev_go 1 (pc1 := 1) (lv1 := [.ref 3, .int a, .int c, .int y, .int x]) (st1 := [.ref 3]) (h1 := (124, I, J, R)) rfl ?_
  refine ev_gf (c := 3) (t := 11) (X := R 3 7) rfl rfl (fun _ => rfl) rfl (hG 3 7 11 rfl rfl) ?_
  refine ev_go 3 (pc1 := 9) (lv1 := [.ref 3, .int a, .int c, .int y, .int x]) (st1 := [.int a, .int (I 3 16), .ref 11]) (h1 := (124, I, J, R)) rfl ?_
  refine ev_call (v1 := none) (h1 := (124, (uI I 11 (I 3 16).toNatClampNeg a), J, R)) rfl rfl c1 ?_
  refine ev_go 1 (pc1 := 13) (lv1 := [.ref 3, .int a, .int c, .int y, .int x]) (st1 := [.ref 3]) (h1 := (124, (uI I 11 (I 3 16).toNatClampNeg a), J, R)) rfl ?_
  refine ev_gf (c := 3) (t := 12) (X := R 3 8) rfl rfl (fun _ => rfl) rfl (hG 3 8 12 rfl rfl) ?_
  refine ev_go 3 (pc1 := 21) (lv1 := [.ref 3, .int a, .int c, .int y, .int x]) (st1 := [.int c, .int (I 3 16), .ref 12]) (h1 := (124, (uI I 11 (I 3 16).toNatClampNeg a), J, R)) rfl ?_
  refine ev_call (v1 := none) (h1 := (124, (uI (uI I 11 (I 3 16).toNatClampNeg a) 12 (I 3 16).toNatClampNeg c), J, R)) rfl rfl c2 ?_
  refine ev_go 1 (pc1 := 25) (lv1 := [.ref 3, .int a, .int c, .int y, .int x]) (st1 := [.ref 3]) (h1 := (124, (uI (uI I 11 (I 3 16).toNatClampNeg a) 12 (I 3 16).toNatClampNeg c), J, R)) rfl ?_
  refine ev_gf (c := 3) (t := 13) (X := R 3 9) rfl rfl (fun _ => rfl) rfl (hG 3 9 13 rfl rfl) ?_
  refine ev_go 3 (pc1 := 33) (lv1 := [.ref 3, .int a, .int c, .int y, .int x]) (st1 := [.int y, .int (I 3 16), .ref 13]) (h1 := (124, (uI (uI I 11 (I 3 16).toNatClampNeg a) 12 (I 3 16).toNatClampNeg c), J, R)) rfl ?_
  refine ev_call (v1 := none) (h1 := (124, (uI (uI (uI I 11 (I 3 16).toNatClampNeg a) 12 (I 3 16).toNatClampNeg c) 13 (I 3 16).toNatClampNeg y), J, R)) rfl rfl c3 ?_
  refine ev_go 1 (pc1 := 37) (lv1 := [.ref 3, .int a, .int c, .int y, .int x]) (st1 := [.ref 3]) (h1 := (124, (uI (uI (uI I 11 (I 3 16).toNatClampNeg a) 12 (I 3 16).toNatClampNeg c) 13 (I 3 16).toNatClampNeg y), J, R)) rfl ?_
  refine ev_gf (c := 3) (t := 14) (X := R 3 10) rfl rfl (fun _ => rfl) rfl (hG 3 10 14 rfl rfl) ?_
  refine ev_go 3 (pc1 := 46) (lv1 := [.ref 3, .int a, .int c, .int y, .int x]) (st1 := [.int x, .int (I 3 16), .ref 14]) (h1 := (124, (uI (uI (uI I 11 (I 3 16).toNatClampNeg a) 12 (I 3 16).toNatClampNeg c) 13 (I 3 16).toNatClampNeg y), J, R)) rfl ?_
  refine ev_call (v1 := none) (h1 := (124, (uI (uI (uI (uI I 11 (I 3 16).toNatClampNeg a) 12 (I 3 16).toNatClampNeg c) 13 (I 3 16).toNatClampNeg y) 14 (I 3 16).toNatClampNeg x), J, R)) rfl rfl c4 ?_
  refine ev_go 1 (pc1 := 50) (lv1 := [.ref 3, .int a, .int c, .int y, .int x]) (st1 := [.ref 3]) (h1 := (124, (uI (uI (uI (uI I 11 (I 3 16).toNatClampNeg a) 12 (I 3 16).toNatClampNeg c) 13 (I 3 16).toNatClampNeg y) 14 (I 3 16).toNatClampNeg x), J, R)) rfl ?_
  refine ev_gf (c := 3) (t := 15) (X := R 3 11) rfl rfl (fun _ => rfl) rfl (hG 3 11 15 rfl rfl) ?_
  refine ev_go 3 (pc1 := 58) (lv1 := [.ref 3, .int a, .int c, .int y, .int x]) (st1 := [.int 0, .int (I 3 16), .ref 15]) (h1 := (124, (uI (uI (uI (uI I 11 (I 3 16).toNatClampNeg a) 12 (I 3 16).toNatClampNeg c) 13 (I 3 16).toNatClampNeg y) 14 (I 3 16).toNatClampNeg x), J, R)) rfl ?_
  refine ev_call (v1 := none) (h1 := (124, (uI (uI (uI (uI (uI I 11 (I 3 16).toNatClampNeg a) 12 (I 3 16).toNatClampNeg c) 13 (I 3 16).toNatClampNeg y) 14 (I 3 16).toNatClampNeg x) 15 (I 3 16).toNatClampNeg 0), J, R)) rfl rfl c5 ?_
  refine ev_go 6 (pc1 := 71) (lv1 := [.ref 3, .int a, .int c, .int y, .int x]) (st1 := []) (h1 := (124, (uI (uI (uI (uI (uI (uI I 11 (I 3 16).toNatClampNeg a) 12 (I 3 16).toNatClampNeg c) 13 (I 3 16).toNatClampNeg y) 14 (I 3 16).toNatClampNeg x) 15 (I 3 16).toNatClampNeg 0) 3 16 ((I 3 16) + 1)), J, R)) rfl ?_
  exact ev_ret rfl rfl
set_option maxRecDepth 20000 in
theorem nf_1_3 {L : Nat} {xs : Nat → Int32} {d : Nat} {I : Nat → Nat → Int32} {J : Nat → Nat → Int64} {R : Nat → Nat → Nat} {a f q : Int32} (hG : aGd R) (b1 : q.toInt ≥ (I 3 16).toInt) : xEv L xs d 38 4 [.ref 3, .int a, .int f, .int q] [] (124, I, J, R) (some (.int f)) (124, I, J, R) := by
  refine ev_go 3 (pc1 := 9) (lv1 := [.ref 3, .int a, .int f, .int q]) (st1 := [.int (I 3 16), .int q]) (h1 := (124, I, J, R)) rfl ?_
  refine ev_br (b1 := true) rfl rfl (xcd_ge (x := q) (y := (I 3 16)) (by first | exact b1 | omega)) ?_
  refine ev_go 1 (pc1 := 34) (lv1 := [.ref 3, .int a, .int f, .int q]) (st1 := [.int f]) (h1 := (124, I, J, R)) rfl ?_
  exact ev_ret rfl rfl
set_option maxRecDepth 20000 in
theorem nf_2_3 {L : Nat} {xs : Nat → Int32} {d : Nat} {I : Nat → Nat → Int32} {J : Nat → Nat → Int64} {R : Nat → Nat → Nat} {a f q x : Int32} (hG : aGd R) (b1 : q.toInt < (I 3 16).toInt) (c1 : xEv L xs d 39 0 [.ref 11, .int q] [] (124, I, J, R) (some (.int x)) (124, I, J, R)) (b2 : x.toInt = a.toInt) {v : Option Value} {h' : xH} (hk : xEv L xs (d + 1) 38 4 [.ref 3, .int a, .int (f + 1), .int (q + 1)] [] (124, I, J, R) v h') : xEv L xs (d + 1) 38 4 [.ref 3, .int a, .int f, .int q] [] (124, I, J, R) v h' := by
  refine ev_go 3 (pc1 := 9) (lv1 := [.ref 3, .int a, .int f, .int q]) (st1 := [.int (I 3 16), .int q]) (h1 := (124, I, J, R)) rfl ?_
  refine ev_br (b1 := false) rfl rfl (xcd_nge (x := q) (y := (I 3 16)) (by first | exact b1 | omega)) ?_
  refine ev_go 1 (pc1 := 13) (lv1 := [.ref 3, .int a, .int f, .int q]) (st1 := [.ref 3]) (h1 := (124, I, J, R)) rfl ?_
  refine ev_gf (c := 3) (t := 11) (X := R 3 7) rfl rfl (fun _ => rfl) rfl (hG 3 7 11 rfl rfl) ?_
  refine ev_go 1 (pc1 := 17) (lv1 := [.ref 3, .int a, .int f, .int q]) (st1 := [.int q, .ref 11]) (h1 := (124, I, J, R)) rfl ?_
  refine ev_call (v1 := (some (.int x))) (h1 := (124, I, J, R)) rfl rfl c1 ?_
  refine ev_go 1 (pc1 := 21) (lv1 := [.ref 3, .int a, .int f, .int q]) (st1 := [.int a, .int x]) (h1 := (124, I, J, R)) rfl ?_
  refine ev_br (b1 := false) rfl rfl (xcd_nne (x := x) (y := a) (by first | exact b2 | omega)) ?_
  refine ev_go 3 (pc1 := 4) (lv1 := [.ref 3, .int a, .int (f + 1), .int (q + 1)]) (st1 := []) (h1 := (124, I, J, R)) rfl ?_
  exact hk
set_option maxRecDepth 20000 in
theorem nf_3_3 {L : Nat} {xs : Nat → Int32} {d : Nat} {I : Nat → Nat → Int32} {J : Nat → Nat → Int64} {R : Nat → Nat → Nat} {a f q x : Int32} (hG : aGd R) (b1 : q.toInt < (I 3 16).toInt) (c1 : xEv L xs d 39 0 [.ref 11, .int q] [] (124, I, J, R) (some (.int x)) (124, I, J, R)) (b2 : x.toInt ≠ a.toInt) {v : Option Value} {h' : xH} (hk : xEv L xs (d + 1) 38 4 [.ref 3, .int a, .int f, .int (q + 1)] [] (124, I, J, R) v h') : xEv L xs (d + 1) 38 4 [.ref 3, .int a, .int f, .int q] [] (124, I, J, R) v h' := by
  refine ev_go 3 (pc1 := 9) (lv1 := [.ref 3, .int a, .int f, .int q]) (st1 := [.int (I 3 16), .int q]) (h1 := (124, I, J, R)) rfl ?_
  refine ev_br (b1 := false) rfl rfl (xcd_nge (x := q) (y := (I 3 16)) (by first | exact b1 | omega)) ?_
  refine ev_go 1 (pc1 := 13) (lv1 := [.ref 3, .int a, .int f, .int q]) (st1 := [.ref 3]) (h1 := (124, I, J, R)) rfl ?_
  refine ev_gf (c := 3) (t := 11) (X := R 3 7) rfl rfl (fun _ => rfl) rfl (hG 3 7 11 rfl rfl) ?_
  refine ev_go 1 (pc1 := 17) (lv1 := [.ref 3, .int a, .int f, .int q]) (st1 := [.int q, .ref 11]) (h1 := (124, I, J, R)) rfl ?_
  refine ev_call (v1 := (some (.int x))) (h1 := (124, I, J, R)) rfl rfl c1 ?_
  refine ev_go 1 (pc1 := 21) (lv1 := [.ref 3, .int a, .int f, .int q]) (st1 := [.int a, .int x]) (h1 := (124, I, J, R)) rfl ?_
  refine ev_br (b1 := true) rfl rfl (xcd_ne (x := x) (y := a) (by first | exact b2 | omega)) ?_
  refine ev_go 2 (pc1 := 4) (lv1 := [.ref 3, .int a, .int f, .int (q + 1)]) (st1 := []) (h1 := (124, I, J, R)) rfl ?_
  exact hk
set_option maxRecDepth 20000 in
theorem nwD72_23 {L : Nat} {xs : Nat → Int32} {d : Nat} {I : Nat → Nat → Int32} {J : Nat → Nat → Int64} {R : Nat → Nat → Nat} {u1 u2 u3 u4 : Value} (hG : aGd R) (b1 : (I 43 2).toInt ≠ 0) : xEv L xs d 37 72 [.ref 43, u1, u2, u3, u4] [] (124, I, J, R) none (124, I, J, R) := by
  refine ev_go 2 (pc1 := 76) (lv1 := [.ref 43, u1, u2, u3, u4]) (st1 := [.int (I 43 2)]) (h1 := (124, I, J, R)) rfl ?_
  refine ev_br (b1 := true) rfl rfl (xcd_ne (x := (I 43 2)) (y := 0) (by rw [show ((0 : Int32)).toInt = 0 from by decide]; first | exact b1 | omega)) ?_
  exact ev_ret rfl rfl
set_option maxRecDepth 20000 in
theorem nwD63_23 {L : Nat} {xs : Nat → Int32} {d : Nat} {I : Nat → Nat → Int32} {J : Nat → Nat → Int64} {R : Nat → Nat → Nat} {a c y z : Int32} {u4 : Value} (hG : aGd R) (c1 : xEv L xs d 30 0 [.ref 43, .int 0, .int 99, xmk, xmk] [] (124, I, J, R) (some (.int z)) (124, I, J, R)) {v : Option Value} {h' : xH} (hk : xEv L xs (d + 1) 37 72 [.ref 43, .int a, .int c, .int y, .int z] [] (124, I, J, R) v h') : xEv L xs (d + 1) 37 63 [.ref 43, .int a, .int c, .int y, u4] [] (124, I, J, R) v h' := by
  refine ev_go 3 (pc1 := 67) (lv1 := [.ref 43, .int a, .int c, .int y, u4]) (st1 := [.int 99, .int 0, .ref 43]) (h1 := (124, I, J, R)) rfl ?_
  refine ev_call (v1 := (some (.int z))) (h1 := (124, I, J, R)) rfl rfl c1 ?_
  refine ev_go 1 (pc1 := 72) (lv1 := [.ref 43, .int a, .int c, .int y, .int z]) (st1 := []) (h1 := (124, I, J, R)) rfl ?_
  exact hk
set_option maxRecDepth 20000 in
theorem nwD55_23 {L : Nat} {xs : Nat → Int32} {d : Nat} {I : Nat → Nat → Int32} {J : Nat → Nat → Int64} {R : Nat → Nat → Nat} {a c y : Int32} {u3 u4 : Value} (hG : aGd R) (c1 : xEv L xs d 30 0 [.ref 43, .int 0, .int 95, xmk, xmk] [] (124, I, J, R) (some (.int y)) (124, I, J, R)) {v : Option Value} {h' : xH} (hk : xEv L xs (d + 1) 37 63 [.ref 43, .int a, .int c, .int y, u4] [] (124, I, J, R) v h') : xEv L xs (d + 1) 37 55 [.ref 43, .int a, .int c, u3, u4] [] (124, I, J, R) v h' := by
  refine ev_go 3 (pc1 := 59) (lv1 := [.ref 43, .int a, .int c, u3, u4]) (st1 := [.int 95, .int 0, .ref 43]) (h1 := (124, I, J, R)) rfl ?_
  refine ev_call (v1 := (some (.int y))) (h1 := (124, I, J, R)) rfl rfl c1 ?_
  refine ev_go 1 (pc1 := 63) (lv1 := [.ref 43, .int a, .int c, .int y, u4]) (st1 := []) (h1 := (124, I, J, R)) rfl ?_
  exact hk
set_option maxRecDepth 20000 in
theorem nwD49_23 {L : Nat} {xs : Nat → Int32} {d : Nat} {I : Nat → Nat → Int32} {J : Nat → Nat → Int64} {R : Nat → Nat → Nat} {a c : Int32} {u2 u3 u4 : Value} (hG : aGd R) (c1 : xEv L xs d 35 0 [.ref 43, .int a, xmk] [] (124, I, J, R) (some (.int c)) (124, I, J, R)) {v : Option Value} {h' : xH} (hk : xEv L xs (d + 1) 37 55 [.ref 43, .int a, .int c, u3, u4] [] (124, I, J, R) v h') : xEv L xs (d + 1) 37 49 [.ref 43, .int a, u2, u3, u4] [] (124, I, J, R) v h' := by
  refine ev_go 2 (pc1 := 51) (lv1 := [.ref 43, .int a, u2, u3, u4]) (st1 := [.int a, .ref 43]) (h1 := (124, I, J, R)) rfl ?_
  refine ev_call (v1 := (some (.int c))) (h1 := (124, I, J, R)) rfl rfl c1 ?_
  refine ev_go 1 (pc1 := 55) (lv1 := [.ref 43, .int a, .int c, u3, u4]) (st1 := []) (h1 := (124, I, J, R)) rfl ?_
  exact hk
set_option maxRecDepth 20000 in
theorem nwA22_23 {L : Nat} {xs : Nat → Int32} {d : Nat} {I : Nat → Nat → Int32} {J : Nat → Nat → Int64} {R : Nat → Nat → Nat} {a q r : Int32} {u2 u3 u4 : Value} (hG : aGd R) (r_R_43_1 : R 43 1 = 24) (c1 : xEv L xs d 38 0 [.ref 23, .int a, xmk, xmk] [] (124, I, J, R) (some (.int q)) (124, I, J, R)) (c2 : xEv L xs d 39 0 [.ref 25, .int a] [] (124, I, J, R) (some (.int r)) (124, I, J, R)) (b1 : q.toInt < r.toInt) {v : Option Value} {h' : xH} (hk : xEv L xs (d + 1) 37 49 [.ref 43, .int a, u2, u3, u4] [] (124, I, J, R) v h') : xEv L xs (d + 1) 37 22 [.ref 43, .int a, u2, u3, u4] [] (124, I, J, R) v h' := by
  refine ev_go 1 (pc1 := 23) (lv1 := [.ref 43, .int a, u2, u3, u4]) (st1 := [.ref 43]) (h1 := (124, I, J, R)) rfl ?_
  refine ev_gf (c := 43) (t := 23) (X := R 43 1) rfl rfl (fun _ => rfl) rfl r_R_43_1 ?_
  refine ev_go 1 (pc1 := 27) (lv1 := [.ref 43, .int a, u2, u3, u4]) (st1 := [.int a, .ref 23]) (h1 := (124, I, J, R)) rfl ?_
  refine ev_call (v1 := (some (.int q))) (h1 := (124, I, J, R)) rfl rfl c1 ?_
  refine ev_go 1 (pc1 := 31) (lv1 := [.ref 43, .int a, u2, u3, u4]) (st1 := [.ref 43, .int q]) (h1 := (124, I, J, R)) rfl ?_
  refine ev_gf (c := 43) (t := 23) (X := R 43 1) rfl rfl (fun _ => rfl) rfl r_R_43_1 ?_
  refine ev_gf (c := 23) (t := 25) (X := R 23 1) rfl rfl (fun _ => rfl) rfl (hG 23 1 25 rfl rfl) ?_
  refine ev_go 1 (pc1 := 38) (lv1 := [.ref 43, .int a, u2, u3, u4]) (st1 := [.int a, .ref 25, .int q]) (h1 := (124, I, J, R)) rfl ?_
  refine ev_call (v1 := (some (.int r))) (h1 := (124, I, J, R)) rfl rfl c2 ?_
  refine ev_br (b1 := true) rfl rfl (xcd_lt (x := q) (y := r) (by first | exact b1 | omega)) ?_
  exact hk
set_option maxRecDepth 20000 in
theorem nwD22_23 {L : Nat} {xs : Nat → Int32} {d : Nat} {I : Nat → Nat → Int32} {J : Nat → Nat → Int64} {R : Nat → Nat → Nat} {a q r : Int32} {u2 u3 u4 : Value} (hG : aGd R) (r_R_43_1 : R 43 1 = 24) (c1 : xEv L xs d 38 0 [.ref 23, .int a, xmk, xmk] [] (124, I, J, R) (some (.int q)) (124, I, J, R)) (c2 : xEv L xs d 39 0 [.ref 25, .int a] [] (124, I, J, R) (some (.int r)) (124, I, J, R)) (b1 : q.toInt ≥ r.toInt) (c3 : xEv L xs d 27 0 [.ref 43, .int 4] [] (124, I, J, R) none (124, I, J, R)) {v : Option Value} {h' : xH} (hk : xEv L xs (d + 1) 37 49 [.ref 43, .int a, u2, u3, u4] [] (124, I, J, R) v h') : xEv L xs (d + 1) 37 22 [.ref 43, .int a, u2, u3, u4] [] (124, I, J, R) v h' := by
  refine ev_go 1 (pc1 := 23) (lv1 := [.ref 43, .int a, u2, u3, u4]) (st1 := [.ref 43]) (h1 := (124, I, J, R)) rfl ?_
  refine ev_gf (c := 43) (t := 23) (X := R 43 1) rfl rfl (fun _ => rfl) rfl r_R_43_1 ?_
  refine ev_go 1 (pc1 := 27) (lv1 := [.ref 43, .int a, u2, u3, u4]) (st1 := [.int a, .ref 23]) (h1 := (124, I, J, R)) rfl ?_
  refine ev_call (v1 := (some (.int q))) (h1 := (124, I, J, R)) rfl rfl c1 ?_
  refine ev_go 1 (pc1 := 31) (lv1 := [.ref 43, .int a, u2, u3, u4]) (st1 := [.ref 43, .int q]) (h1 := (124, I, J, R)) rfl ?_
  refine ev_gf (c := 43) (t := 23) (X := R 43 1) rfl rfl (fun _ => rfl) rfl r_R_43_1 ?_
  refine ev_gf (c := 23) (t := 25) (X := R 23 1) rfl rfl (fun _ => rfl) rfl (hG 23 1 25 rfl rfl) ?_
  refine ev_go 1 (pc1 := 38) (lv1 := [.ref 43, .int a, u2, u3, u4]) (st1 := [.int a, .ref 25, .int q]) (h1 := (124, I, J, R)) rfl ?_
  refine ev_call (v1 := (some (.int r))) (h1 := (124, I, J, R)) rfl rfl c2 ?_
  refine ev_br (b1 := false) rfl rfl (xcd_nlt (x := q) (y := r) (by first | exact b1 | omega)) ?_
  refine ev_go 2 (pc1 := 46) (lv1 := [.ref 43, .int a, u2, u3, u4]) (st1 := [.int 4, .ref 43]) (h1 := (124, I, J, R)) rfl ?_
  refine ev_call (v1 := none) (h1 := (124, I, J, R)) rfl rfl c3 ?_
  exact hk
set_option maxRecDepth 20000 in
theorem nwA22f_23 {L : Nat} {xs : Nat → Int32} {d : Nat} {I : Nat → Nat → Int32} {J : Nat → Nat → Int64} {R : Nat → Nat → Nat} {a q r : Int32} {u2 u3 u4 : Value} (hG : aGd R) (r_R_43_1 : R 43 1 = 24) (c1 : xEv L xs d 38 0 [.ref 23, .int a, xmk, xmk] [] (124, I, J, R) (some (.int q)) (124, I, J, R)) (c2 : xEv L xs d 39 0 [.ref 25, .int a] [] (124, I, J, R) (some (.int r)) (124, I, J, R)) (b1 : q.toInt ≥ r.toInt) (c3 : xEv L xs d 27 0 [.ref 43, .int 4] [] (124, I, J, R) none (124, (uI (uI I 43 2 4) 43 3 (I 1 4)), J, R)) {v : Option Value} {h' : xH} (hk : xEv L xs (d + 1) 37 49 [.ref 43, .int a, u2, u3, u4] [] (124, (uI (uI I 43 2 4) 43 3 (I 1 4)), J, R) v h') : xEv L xs (d + 1) 37 22 [.ref 43, .int a, u2, u3, u4] [] (124, I, J, R) v h' := by
  refine ev_go 1 (pc1 := 23) (lv1 := [.ref 43, .int a, u2, u3, u4]) (st1 := [.ref 43]) (h1 := (124, I, J, R)) rfl ?_
  refine ev_gf (c := 43) (t := 23) (X := R 43 1) rfl rfl (fun _ => rfl) rfl r_R_43_1 ?_
  refine ev_go 1 (pc1 := 27) (lv1 := [.ref 43, .int a, u2, u3, u4]) (st1 := [.int a, .ref 23]) (h1 := (124, I, J, R)) rfl ?_
  refine ev_call (v1 := (some (.int q))) (h1 := (124, I, J, R)) rfl rfl c1 ?_
  refine ev_go 1 (pc1 := 31) (lv1 := [.ref 43, .int a, u2, u3, u4]) (st1 := [.ref 43, .int q]) (h1 := (124, I, J, R)) rfl ?_
  refine ev_gf (c := 43) (t := 23) (X := R 43 1) rfl rfl (fun _ => rfl) rfl r_R_43_1 ?_
  refine ev_gf (c := 23) (t := 25) (X := R 23 1) rfl rfl (fun _ => rfl) rfl (hG 23 1 25 rfl rfl) ?_
  refine ev_go 1 (pc1 := 38) (lv1 := [.ref 43, .int a, u2, u3, u4]) (st1 := [.int a, .ref 25, .int q]) (h1 := (124, I, J, R)) rfl ?_
  refine ev_call (v1 := (some (.int r))) (h1 := (124, I, J, R)) rfl rfl c2 ?_
  refine ev_br (b1 := false) rfl rfl (xcd_nlt (x := q) (y := r) (by first | exact b1 | omega)) ?_
  refine ev_go 2 (pc1 := 46) (lv1 := [.ref 43, .int a, u2, u3, u4]) (st1 := [.int 4, .ref 43]) (h1 := (124, I, J, R)) rfl ?_
  refine ev_call (v1 := none) (h1 := (124, (uI (uI I 43 2 4) 43 3 (I 1 4)), J, R)) rfl rfl c3 ?_
  exact hk
set_option maxRecDepth 20000 in
theorem nwD16_23 {L : Nat} {xs : Nat → Int32} {d : Nat} {I : Nat → Nat → Int32} {J : Nat → Nat → Int64} {R : Nat → Nat → Nat} {a : Int32} {u1 u2 u3 u4 : Value} (hG : aGd R) (c1 : xEv L xs d 35 0 [.ref 43, .int (-1), xmk] [] (124, I, J, R) (some (.int a)) (124, I, J, R)) {v : Option Value} {h' : xH} (hk : xEv L xs (d + 1) 37 22 [.ref 43, .int a, u2, u3, u4] [] (124, I, J, R) v h') : xEv L xs (d + 1) 37 16 [.ref 43, u1, u2, u3, u4] [] (124, I, J, R) v h' := by
  refine ev_go 2 (pc1 := 18) (lv1 := [.ref 43, u1, u2, u3, u4]) (st1 := [.int (-1), .ref 43]) (h1 := (124, I, J, R)) rfl ?_
  refine ev_call (v1 := (some (.int a))) (h1 := (124, I, J, R)) rfl rfl c1 ?_
  refine ev_go 1 (pc1 := 22) (lv1 := [.ref 43, .int a, u2, u3, u4]) (st1 := []) (h1 := (124, I, J, R)) rfl ?_
  exact hk
set_option maxRecDepth 20000 in
theorem nwA0_23 {L : Nat} {xs : Nat → Int32} {d : Nat} {I : Nat → Nat → Int32} {J : Nat → Nat → Int64} {R : Nat → Nat → Nat} (hG : aGd R) (r_R_43_1 : R 43 1 = 24) (b1 : (I 23 16).toInt < 4) {v : Option Value} {h' : xH} (hk : xEv L xs d 37 16 [.ref 43, xmk, xmk, xmk, xmk] [] (124, I, J, R) v h') : xEv L xs d 37 0 [.ref 43, xmk, xmk, xmk, xmk] [] (124, I, J, R) v h' := by
  refine ev_go 1 (pc1 := 1) (lv1 := [.ref 43, xmk, xmk, xmk, xmk]) (st1 := [.ref 43]) (h1 := (124, I, J, R)) rfl ?_
  refine ev_gf (c := 43) (t := 23) (X := R 43 1) rfl rfl (fun _ => rfl) rfl r_R_43_1 ?_
  refine ev_go 2 (pc1 := 8) (lv1 := [.ref 43, xmk, xmk, xmk, xmk]) (st1 := [.int 4, .int (I 23 16)]) (h1 := (124, I, J, R)) rfl ?_
  refine ev_br (b1 := true) rfl rfl (xcd_lt (x := (I 23 16)) (y := 4) (by rw [show ((4 : Int32)).toInt = 4 from by decide]; first | exact b1 | omega)) ?_
  exact hk
set_option maxRecDepth 20000 in
theorem nwA0f_23 {L : Nat} {xs : Nat → Int32} {d : Nat} {I : Nat → Nat → Int32} {J : Nat → Nat → Int64} {R : Nat → Nat → Nat} (hG : aGd R) (r_R_43_1 : R 43 1 = 24) (b1 : (I 23 16).toInt ≥ 4) (c1 : xEv L xs d 27 0 [.ref 43, .int 4] [] (124, I, J, R) none (124, (uI (uI I 43 2 4) 43 3 (I 1 4)), J, R)) {v : Option Value} {h' : xH} (hk : xEv L xs (d + 1) 37 16 [.ref 43, xmk, xmk, xmk, xmk] [] (124, (uI (uI I 43 2 4) 43 3 (I 1 4)), J, R) v h') : xEv L xs (d + 1) 37 0 [.ref 43, xmk, xmk, xmk, xmk] [] (124, I, J, R) v h' := by
  refine ev_go 1 (pc1 := 1) (lv1 := [.ref 43, xmk, xmk, xmk, xmk]) (st1 := [.ref 43]) (h1 := (124, I, J, R)) rfl ?_
  refine ev_gf (c := 43) (t := 23) (X := R 43 1) rfl rfl (fun _ => rfl) rfl r_R_43_1 ?_
  refine ev_go 2 (pc1 := 8) (lv1 := [.ref 43, xmk, xmk, xmk, xmk]) (st1 := [.int 4, .int (I 23 16)]) (h1 := (124, I, J, R)) rfl ?_
  refine ev_br (b1 := false) rfl rfl (xcd_nlt (x := (I 23 16)) (y := 4) (by rw [show ((4 : Int32)).toInt = 4 from by decide]; first | exact b1 | omega)) ?_
  refine ev_go 2 (pc1 := 13) (lv1 := [.ref 43, xmk, xmk, xmk, xmk]) (st1 := [.int 4, .ref 43]) (h1 := (124, I, J, R)) rfl ?_
  refine ev_call (v1 := none) (h1 := (124, (uI (uI I 43 2 4) 43 3 (I 1 4)), J, R)) rfl rfl c1 ?_
  exact hk
set_option maxRecDepth 20000 in
theorem nwA16_23 {L : Nat} {xs : Nat → Int32} {d : Nat} {I : Nat → Nat → Int32} {J : Nat → Nat → Int64} {R : Nat → Nat → Nat} {I1 : Nat → Nat → Int32} {J1 : Nat → Nat → Int64} {a : Int32} (hG : aGd R) (c1 : xEv L xs d 35 0 [.ref 43, .int (-1), xmk] [] (124, I, J, R) (some (.int a)) (124, I1, J1, R)) {v : Option Value} {h' : xH} (hk : xEv L xs (d + 1) 37 22 [.ref 43, .int a, xmk, xmk, xmk] [] (124, I1, J1, R) v h') : xEv L xs (d + 1) 37 16 [.ref 43, xmk, xmk, xmk, xmk] [] (124, I, J, R) v h' := by
  refine ev_go 2 (pc1 := 18) (lv1 := [.ref 43, xmk, xmk, xmk, xmk]) (st1 := [.int (-1), .ref 43]) (h1 := (124, I, J, R)) rfl ?_
  refine ev_call (v1 := (some (.int a))) (h1 := (124, I1, J1, R)) rfl rfl c1 ?_
  refine ev_go 1 (pc1 := 22) (lv1 := [.ref 43, .int a, xmk, xmk, xmk]) (st1 := []) (h1 := (124, I1, J1, R)) rfl ?_
  exact hk
set_option maxRecDepth 20000 in
theorem nwA49_23 {L : Nat} {xs : Nat → Int32} {d : Nat} {I : Nat → Nat → Int32} {J : Nat → Nat → Int64} {R : Nat → Nat → Nat} {I1 : Nat → Nat → Int32} {J1 : Nat → Nat → Int64} {a c : Int32} (hG : aGd R) (c1 : xEv L xs d 35 0 [.ref 43, .int a, xmk] [] (124, I, J, R) (some (.int c)) (124, I1, J1, R)) {v : Option Value} {h' : xH} (hk : xEv L xs (d + 1) 37 55 [.ref 43, .int a, .int c, xmk, xmk] [] (124, I1, J1, R) v h') : xEv L xs (d + 1) 37 49 [.ref 43, .int a, xmk, xmk, xmk] [] (124, I, J, R) v h' := by
  refine ev_go 2 (pc1 := 51) (lv1 := [.ref 43, .int a, xmk, xmk, xmk]) (st1 := [.int a, .ref 43]) (h1 := (124, I, J, R)) rfl ?_
  refine ev_call (v1 := (some (.int c))) (h1 := (124, I1, J1, R)) rfl rfl c1 ?_
  refine ev_go 1 (pc1 := 55) (lv1 := [.ref 43, .int a, .int c, xmk, xmk]) (st1 := []) (h1 := (124, I1, J1, R)) rfl ?_
  exact hk
set_option maxRecDepth 20000 in
theorem nwA55_23 {L : Nat} {xs : Nat → Int32} {d : Nat} {I : Nat → Nat → Int32} {J : Nat → Nat → Int64} {R : Nat → Nat → Nat} {I1 : Nat → Nat → Int32} {J1 : Nat → Nat → Int64} {a c y : Int32} (hG : aGd R) (c1 : xEv L xs d 30 0 [.ref 43, .int 0, .int 95, xmk, xmk] [] (124, I, J, R) (some (.int y)) (124, I1, J1, R)) {v : Option Value} {h' : xH} (hk : xEv L xs (d + 1) 37 63 [.ref 43, .int a, .int c, .int y, xmk] [] (124, I1, J1, R) v h') : xEv L xs (d + 1) 37 55 [.ref 43, .int a, .int c, xmk, xmk] [] (124, I, J, R) v h' := by
  refine ev_go 3 (pc1 := 59) (lv1 := [.ref 43, .int a, .int c, xmk, xmk]) (st1 := [.int 95, .int 0, .ref 43]) (h1 := (124, I, J, R)) rfl ?_
  refine ev_call (v1 := (some (.int y))) (h1 := (124, I1, J1, R)) rfl rfl c1 ?_
  refine ev_go 1 (pc1 := 63) (lv1 := [.ref 43, .int a, .int c, .int y, xmk]) (st1 := []) (h1 := (124, I1, J1, R)) rfl ?_
  exact hk
set_option maxRecDepth 20000 in
theorem nwA63_23 {L : Nat} {xs : Nat → Int32} {d : Nat} {I : Nat → Nat → Int32} {J : Nat → Nat → Int64} {R : Nat → Nat → Nat} {I1 : Nat → Nat → Int32} {J1 : Nat → Nat → Int64} {a c y x : Int32} (hG : aGd R) (c1 : xEv L xs d 30 0 [.ref 43, .int 0, .int 99, xmk, xmk] [] (124, I, J, R) (some (.int x)) (124, I1, J1, R)) {v : Option Value} {h' : xH} (hk : xEv L xs (d + 1) 37 72 [.ref 43, .int a, .int c, .int y, .int x] [] (124, I1, J1, R) v h') : xEv L xs (d + 1) 37 63 [.ref 43, .int a, .int c, .int y, xmk] [] (124, I, J, R) v h' := by
  refine ev_go 3 (pc1 := 67) (lv1 := [.ref 43, .int a, .int c, .int y, xmk]) (st1 := [.int 99, .int 0, .ref 43]) (h1 := (124, I, J, R)) rfl ?_
  refine ev_call (v1 := (some (.int x))) (h1 := (124, I1, J1, R)) rfl rfl c1 ?_
  refine ev_go 1 (pc1 := 72) (lv1 := [.ref 43, .int a, .int c, .int y, .int x]) (st1 := []) (h1 := (124, I1, J1, R)) rfl ?_
  exact hk
set_option maxRecDepth 20000 in
theorem nwA72_23 {L : Nat} {xs : Nat → Int32} {d : Nat} {I : Nat → Nat → Int32} {J : Nat → Nat → Int64} {R : Nat → Nat → Nat} {I1 : Nat → Nat → Int32} {J1 : Nat → Nat → Int64} {I2 : Nat → Nat → Int32} {J2 : Nat → Nat → Int64} {a c y x : Int32} (hG : aGd R) (b1 : (I 43 2).toInt = 0) (r_R_43_1 : R 43 1 = 24) (c1 : xEv L xs d 40 0 [.ref 23, .int a, .int c, .int y, .int x] [] (124, I, J, R) none (124, I1, J1, R)) (c2 : xEv L xs d 21 0 [.ref 1] [] (124, I1, J1, R) none (124, I2, J2, R)) : xEv L xs (d + 1) 37 72 [.ref 43, .int a, .int c, .int y, .int x] [] (124, I, J, R) none (124, I2, J2, R) := by
  refine ev_go 2 (pc1 := 76) (lv1 := [.ref 43, .int a, .int c, .int y, .int x]) (st1 := [.int (I 43 2)]) (h1 := (124, I, J, R)) rfl ?_
  refine ev_br (b1 := false) rfl rfl (xcd_nne (x := (I 43 2)) (y := 0) (by rw [show ((0 : Int32)).toInt = 0 from by decide]; first | exact b1 | omega)) ?_
  refine ev_go 1 (pc1 := 80) (lv1 := [.ref 43, .int a, .int c, .int y, .int x]) (st1 := [.ref 43]) (h1 := (124, I, J, R)) rfl ?_
  refine ev_gf (c := 43) (t := 23) (X := R 43 1) rfl rfl (fun _ => rfl) rfl r_R_43_1 ?_
  refine ev_go 4 (pc1 := 88) (lv1 := [.ref 43, .int a, .int c, .int y, .int x]) (st1 := [.int x, .int y, .int c, .int a, .ref 23]) (h1 := (124, I, J, R)) rfl ?_
  refine ev_call (v1 := none) (h1 := (124, I1, J1, R)) rfl rfl c1 ?_
  refine ev_go 1 (pc1 := 92) (lv1 := [.ref 43, .int a, .int c, .int y, .int x]) (st1 := [.ref 43]) (h1 := (124, I1, J1, R)) rfl ?_
  refine ev_gf (c := 43) (t := 1) (X := R 43 0) rfl rfl (fun _ => rfl) rfl (hG 43 0 1 rfl rfl) ?_
  refine ev_call (v1 := none) (h1 := (124, I2, J2, R)) rfl rfl c2 ?_
  exact ev_ret rfl rfl
set_option maxRecDepth 20000 in
theorem an_23 {L : Nat} {xs : Nat → Int32} {d : Nat} {I : Nat → Nat → Int32} {J : Nat → Nat → Int64} {R : Nat → Nat → Nat} {a c y x : Int32} (hG : aGd R) (c1 : xEv L xs d 33 0 [.ref 31, .int (I 23 16), .int a] [] (124, I, J, R) none (124, (uI I 31 (I 23 16).toNatClampNeg a), J, R)) (c2 : xEv L xs d 33 0 [.ref 32, .int (I 23 16), .int c] [] (124, (uI I 31 (I 23 16).toNatClampNeg a), J, R) none (124, (uI (uI I 31 (I 23 16).toNatClampNeg a) 32 (I 23 16).toNatClampNeg c), J, R)) (c3 : xEv L xs d 33 0 [.ref 33, .int (I 23 16), .int y] [] (124, (uI (uI I 31 (I 23 16).toNatClampNeg a) 32 (I 23 16).toNatClampNeg c), J, R) none (124, (uI (uI (uI I 31 (I 23 16).toNatClampNeg a) 32 (I 23 16).toNatClampNeg c) 33 (I 23 16).toNatClampNeg y), J, R)) (c4 : xEv L xs d 33 0 [.ref 34, .int (I 23 16), .int x] [] (124, (uI (uI (uI I 31 (I 23 16).toNatClampNeg a) 32 (I 23 16).toNatClampNeg c) 33 (I 23 16).toNatClampNeg y), J, R) none (124, (uI (uI (uI (uI I 31 (I 23 16).toNatClampNeg a) 32 (I 23 16).toNatClampNeg c) 33 (I 23 16).toNatClampNeg y) 34 (I 23 16).toNatClampNeg x), J, R)) (c5 : xEv L xs d 33 0 [.ref 35, .int (I 23 16), .int 0] [] (124, (uI (uI (uI (uI I 31 (I 23 16).toNatClampNeg a) 32 (I 23 16).toNatClampNeg c) 33 (I 23 16).toNatClampNeg y) 34 (I 23 16).toNatClampNeg x), J, R) none (124, (uI (uI (uI (uI (uI I 31 (I 23 16).toNatClampNeg a) 32 (I 23 16).toNatClampNeg c) 33 (I 23 16).toNatClampNeg y) 34 (I 23 16).toNatClampNeg x) 35 (I 23 16).toNatClampNeg 0), J, R)) : xEv L xs (d + 1) 40 0 [.ref 23, .int a, .int c, .int y, .int x] [] (124, I, J, R) none (124, (uI (uI (uI (uI (uI (uI I 31 (I 23 16).toNatClampNeg a) 32 (I 23 16).toNatClampNeg c) 33 (I 23 16).toNatClampNeg y) 34 (I 23 16).toNatClampNeg x) 35 (I 23 16).toNatClampNeg 0) 23 16 ((I 23 16) + 1)), J, R) := by
  refine ev_go 1 (pc1 := 1) (lv1 := [.ref 23, .int a, .int c, .int y, .int x]) (st1 := [.ref 23]) (h1 := (124, I, J, R)) rfl ?_
  refine ev_gf (c := 23) (t := 31) (X := R 23 7) rfl rfl (fun _ => rfl) rfl (hG 23 7 31 rfl rfl) ?_
  refine ev_go 3 (pc1 := 9) (lv1 := [.ref 23, .int a, .int c, .int y, .int x]) (st1 := [.int a, .int (I 23 16), .ref 31]) (h1 := (124, I, J, R)) rfl ?_
  refine ev_call (v1 := none) (h1 := (124, (uI I 31 (I 23 16).toNatClampNeg a), J, R)) rfl rfl c1 ?_
  refine ev_go 1 (pc1 := 13) (lv1 := [.ref 23, .int a, .int c, .int y, .int x]) (st1 := [.ref 23]) (h1 := (124, (uI I 31 (I 23 16).toNatClampNeg a), J, R)) rfl ?_
  refine ev_gf (c := 23) (t := 32) (X := R 23 8) rfl rfl (fun _ => rfl) rfl (hG 23 8 32 rfl rfl) ?_
  refine ev_go 3 (pc1 := 21) (lv1 := [.ref 23, .int a, .int c, .int y, .int x]) (st1 := [.int c, .int (I 23 16), .ref 32]) (h1 := (124, (uI I 31 (I 23 16).toNatClampNeg a), J, R)) rfl ?_
  refine ev_call (v1 := none) (h1 := (124, (uI (uI I 31 (I 23 16).toNatClampNeg a) 32 (I 23 16).toNatClampNeg c), J, R)) rfl rfl c2 ?_
  refine ev_go 1 (pc1 := 25) (lv1 := [.ref 23, .int a, .int c, .int y, .int x]) (st1 := [.ref 23]) (h1 := (124, (uI (uI I 31 (I 23 16).toNatClampNeg a) 32 (I 23 16).toNatClampNeg c), J, R)) rfl ?_
  refine ev_gf (c := 23) (t := 33) (X := R 23 9) rfl rfl (fun _ => rfl) rfl (hG 23 9 33 rfl rfl) ?_
  refine ev_go 3 (pc1 := 33) (lv1 := [.ref 23, .int a, .int c, .int y, .int x]) (st1 := [.int y, .int (I 23 16), .ref 33]) (h1 := (124, (uI (uI I 31 (I 23 16).toNatClampNeg a) 32 (I 23 16).toNatClampNeg c), J, R)) rfl ?_
  refine ev_call (v1 := none) (h1 := (124, (uI (uI (uI I 31 (I 23 16).toNatClampNeg a) 32 (I 23 16).toNatClampNeg c) 33 (I 23 16).toNatClampNeg y), J, R)) rfl rfl c3 ?_
  refine ev_go 1 (pc1 := 37) (lv1 := [.ref 23, .int a, .int c, .int y, .int x]) (st1 := [.ref 23]) (h1 := (124, (uI (uI (uI I 31 (I 23 16).toNatClampNeg a) 32 (I 23 16).toNatClampNeg c) 33 (I 23 16).toNatClampNeg y), J, R)) rfl ?_
  refine ev_gf (c := 23) (t := 34) (X := R 23 10) rfl rfl (fun _ => rfl) rfl (hG 23 10 34 rfl rfl) ?_
  refine ev_go 3 (pc1 := 46) (lv1 := [.ref 23, .int a, .int c, .int y, .int x]) (st1 := [.int x, .int (I 23 16), .ref 34]) (h1 := (124, (uI (uI (uI I 31 (I 23 16).toNatClampNeg a) 32 (I 23 16).toNatClampNeg c) 33 (I 23 16).toNatClampNeg y), J, R)) rfl ?_
  refine ev_call (v1 := none) (h1 := (124, (uI (uI (uI (uI I 31 (I 23 16).toNatClampNeg a) 32 (I 23 16).toNatClampNeg c) 33 (I 23 16).toNatClampNeg y) 34 (I 23 16).toNatClampNeg x), J, R)) rfl rfl c4 ?_
  refine ev_go 1 (pc1 := 50) (lv1 := [.ref 23, .int a, .int c, .int y, .int x]) (st1 := [.ref 23]) (h1 := (124, (uI (uI (uI (uI I 31 (I 23 16).toNatClampNeg a) 32 (I 23 16).toNatClampNeg c) 33 (I 23 16).toNatClampNeg y) 34 (I 23 16).toNatClampNeg x), J, R)) rfl ?_
  refine ev_gf (c := 23) (t := 35) (X := R 23 11) rfl rfl (fun _ => rfl) rfl (hG 23 11 35 rfl rfl) ?_
  refine ev_go 3 (pc1 := 58) (lv1 := [.ref 23, .int a, .int c, .int y, .int x]) (st1 := [.int 0, .int (I 23 16), .ref 35]) (h1 := (124, (uI (uI (uI (uI I 31 (I 23 16).toNatClampNeg a) 32 (I 23 16).toNatClampNeg c) 33 (I 23 16).toNatClampNeg y) 34 (I 23 16).toNatClampNeg x), J, R)) rfl ?_
  refine ev_call (v1 := none) (h1 := (124, (uI (uI (uI (uI (uI I 31 (I 23 16).toNatClampNeg a) 32 (I 23 16).toNatClampNeg c) 33 (I 23 16).toNatClampNeg y) 34 (I 23 16).toNatClampNeg x) 35 (I 23 16).toNatClampNeg 0), J, R)) rfl rfl c5 ?_
  refine ev_go 6 (pc1 := 71) (lv1 := [.ref 23, .int a, .int c, .int y, .int x]) (st1 := []) (h1 := (124, (uI (uI (uI (uI (uI (uI I 31 (I 23 16).toNatClampNeg a) 32 (I 23 16).toNatClampNeg c) 33 (I 23 16).toNatClampNeg y) 34 (I 23 16).toNatClampNeg x) 35 (I 23 16).toNatClampNeg 0) 23 16 ((I 23 16) + 1)), J, R)) rfl ?_
  exact ev_ret rfl rfl
set_option maxRecDepth 20000 in
theorem nf_1_23 {L : Nat} {xs : Nat → Int32} {d : Nat} {I : Nat → Nat → Int32} {J : Nat → Nat → Int64} {R : Nat → Nat → Nat} {a f q : Int32} (hG : aGd R) (b1 : q.toInt ≥ (I 23 16).toInt) : xEv L xs d 38 4 [.ref 23, .int a, .int f, .int q] [] (124, I, J, R) (some (.int f)) (124, I, J, R) := by
  refine ev_go 3 (pc1 := 9) (lv1 := [.ref 23, .int a, .int f, .int q]) (st1 := [.int (I 23 16), .int q]) (h1 := (124, I, J, R)) rfl ?_
  refine ev_br (b1 := true) rfl rfl (xcd_ge (x := q) (y := (I 23 16)) (by first | exact b1 | omega)) ?_
  refine ev_go 1 (pc1 := 34) (lv1 := [.ref 23, .int a, .int f, .int q]) (st1 := [.int f]) (h1 := (124, I, J, R)) rfl ?_
  exact ev_ret rfl rfl
set_option maxRecDepth 20000 in
theorem nf_2_23 {L : Nat} {xs : Nat → Int32} {d : Nat} {I : Nat → Nat → Int32} {J : Nat → Nat → Int64} {R : Nat → Nat → Nat} {a f q x : Int32} (hG : aGd R) (b1 : q.toInt < (I 23 16).toInt) (c1 : xEv L xs d 39 0 [.ref 31, .int q] [] (124, I, J, R) (some (.int x)) (124, I, J, R)) (b2 : x.toInt = a.toInt) {v : Option Value} {h' : xH} (hk : xEv L xs (d + 1) 38 4 [.ref 23, .int a, .int (f + 1), .int (q + 1)] [] (124, I, J, R) v h') : xEv L xs (d + 1) 38 4 [.ref 23, .int a, .int f, .int q] [] (124, I, J, R) v h' := by
  refine ev_go 3 (pc1 := 9) (lv1 := [.ref 23, .int a, .int f, .int q]) (st1 := [.int (I 23 16), .int q]) (h1 := (124, I, J, R)) rfl ?_
  refine ev_br (b1 := false) rfl rfl (xcd_nge (x := q) (y := (I 23 16)) (by first | exact b1 | omega)) ?_
  refine ev_go 1 (pc1 := 13) (lv1 := [.ref 23, .int a, .int f, .int q]) (st1 := [.ref 23]) (h1 := (124, I, J, R)) rfl ?_
  refine ev_gf (c := 23) (t := 31) (X := R 23 7) rfl rfl (fun _ => rfl) rfl (hG 23 7 31 rfl rfl) ?_
  refine ev_go 1 (pc1 := 17) (lv1 := [.ref 23, .int a, .int f, .int q]) (st1 := [.int q, .ref 31]) (h1 := (124, I, J, R)) rfl ?_
  refine ev_call (v1 := (some (.int x))) (h1 := (124, I, J, R)) rfl rfl c1 ?_
  refine ev_go 1 (pc1 := 21) (lv1 := [.ref 23, .int a, .int f, .int q]) (st1 := [.int a, .int x]) (h1 := (124, I, J, R)) rfl ?_
  refine ev_br (b1 := false) rfl rfl (xcd_nne (x := x) (y := a) (by first | exact b2 | omega)) ?_
  refine ev_go 3 (pc1 := 4) (lv1 := [.ref 23, .int a, .int (f + 1), .int (q + 1)]) (st1 := []) (h1 := (124, I, J, R)) rfl ?_
  exact hk
set_option maxRecDepth 20000 in
theorem nf_3_23 {L : Nat} {xs : Nat → Int32} {d : Nat} {I : Nat → Nat → Int32} {J : Nat → Nat → Int64} {R : Nat → Nat → Nat} {a f q x : Int32} (hG : aGd R) (b1 : q.toInt < (I 23 16).toInt) (c1 : xEv L xs d 39 0 [.ref 31, .int q] [] (124, I, J, R) (some (.int x)) (124, I, J, R)) (b2 : x.toInt ≠ a.toInt) {v : Option Value} {h' : xH} (hk : xEv L xs (d + 1) 38 4 [.ref 23, .int a, .int f, .int (q + 1)] [] (124, I, J, R) v h') : xEv L xs (d + 1) 38 4 [.ref 23, .int a, .int f, .int q] [] (124, I, J, R) v h' := by
  refine ev_go 3 (pc1 := 9) (lv1 := [.ref 23, .int a, .int f, .int q]) (st1 := [.int (I 23 16), .int q]) (h1 := (124, I, J, R)) rfl ?_
  refine ev_br (b1 := false) rfl rfl (xcd_nge (x := q) (y := (I 23 16)) (by first | exact b1 | omega)) ?_
  refine ev_go 1 (pc1 := 13) (lv1 := [.ref 23, .int a, .int f, .int q]) (st1 := [.ref 23]) (h1 := (124, I, J, R)) rfl ?_
  refine ev_gf (c := 23) (t := 31) (X := R 23 7) rfl rfl (fun _ => rfl) rfl (hG 23 7 31 rfl rfl) ?_
  refine ev_go 1 (pc1 := 17) (lv1 := [.ref 23, .int a, .int f, .int q]) (st1 := [.int q, .ref 31]) (h1 := (124, I, J, R)) rfl ?_
  refine ev_call (v1 := (some (.int x))) (h1 := (124, I, J, R)) rfl rfl c1 ?_
  refine ev_go 1 (pc1 := 21) (lv1 := [.ref 23, .int a, .int f, .int q]) (st1 := [.int a, .int x]) (h1 := (124, I, J, R)) rfl ?_
  refine ev_br (b1 := true) rfl rfl (xcd_ne (x := x) (y := a) (by first | exact b2 | omega)) ?_
  refine ev_go 2 (pc1 := 4) (lv1 := [.ref 23, .int a, .int f, .int (q + 1)]) (st1 := []) (h1 := (124, I, J, R)) rfl ?_
  exact hk
set_option maxRecDepth 20000 in
theorem no_1 {L : Nat} {xs : Nat → Int32} {d : Nat} {I : Nat → Nat → Int32} {J : Nat → Nat → Int64} {R : Nat → Nat → Nat} {a f q : Int32} (hG : aGd R) (b1 : q.toInt ≥ (I 88 5).toInt) : xEv L xs d 164 4 [.ref 86, .int a, .int f, .int q] [] (124, I, J, R) (some (.int f)) (124, I, J, R) := by
  refine ev_go 2 (pc1 := 6) (lv1 := [.ref 86, .int a, .int f, .int q]) (st1 := [.ref 86, .int q]) (h1 := (124, I, J, R)) rfl ?_
  refine ev_gf (c := 86) (t := 88) (X := R 86 12) rfl rfl (fun _ => rfl) rfl (hG 86 12 88 rfl rfl) ?_
  refine ev_go 2 (pc1 := 11) (lv1 := [.ref 86, .int a, .int f, .int q]) (st1 := [.int (I 88 5), .int q]) (h1 := (124, I, J, R)) rfl ?_
  refine ev_br (b1 := true) rfl rfl (xcd_ge (x := q) (y := (I 88 5)) (by first | exact b1 | omega)) ?_
  refine ev_go 1 (pc1 := 41) (lv1 := [.ref 86, .int a, .int f, .int q]) (st1 := [.int f]) (h1 := (124, I, J, R)) rfl ?_
  exact ev_ret rfl rfl
set_option maxRecDepth 20000 in
theorem no_2 {L : Nat} {xs : Nat → Int32} {d : Nat} {I : Nat → Nat → Int32} {J : Nat → Nat → Int64} {R : Nat → Nat → Nat} {a f q : Int32} (hG : aGd R) (b1 : q.toInt < (I 88 5).toInt) (n1 : 0 ≤ (4 + q).toInt) (m1 : (4 + q).toInt < 8) (b2 : (I 96 (4 + q).toNatClampNeg).toInt = a.toInt) {v : Option Value} {h' : xH} (hk : xEv L xs d 164 4 [.ref 86, .int a, .int (f + 1), .int (q + 1)] [] (124, I, J, R) v h') : xEv L xs d 164 4 [.ref 86, .int a, .int f, .int q] [] (124, I, J, R) v h' := by
  refine ev_go 2 (pc1 := 6) (lv1 := [.ref 86, .int a, .int f, .int q]) (st1 := [.ref 86, .int q]) (h1 := (124, I, J, R)) rfl ?_
  refine ev_gf (c := 86) (t := 88) (X := R 86 12) rfl rfl (fun _ => rfl) rfl (hG 86 12 88 rfl rfl) ?_
  refine ev_go 2 (pc1 := 11) (lv1 := [.ref 86, .int a, .int f, .int q]) (st1 := [.int (I 88 5), .int q]) (h1 := (124, I, J, R)) rfl ?_
  refine ev_br (b1 := false) rfl rfl (xcd_nge (x := q) (y := (I 88 5)) (by first | exact b1 | omega)) ?_
  refine ev_go 2 (pc1 := 16) (lv1 := [.ref 86, .int a, .int f, .int q]) (st1 := [.ref 86, .int f]) (h1 := (124, I, J, R)) rfl ?_
  refine ev_gf (c := 86) (t := 96) (X := R 86 20) rfl rfl (fun _ => rfl) rfl (hG 86 20 96 rfl rfl) ?_
  refine ev_go 3 (pc1 := 22) (lv1 := [.ref 86, .int a, .int f, .int q]) (st1 := [.int (4 + q), .ref 96, .int f]) (h1 := (124, I, J, R)) rfl ?_
  refine ev_ild (n := 8) rfl rfl (fun _ => rfl) n1 m1 ?_
  refine ev_go 1 (pc1 := 24) (lv1 := [.ref 86, .int a, .int f, .int q]) (st1 := [.int a, .int (I 96 (4 + q).toNatClampNeg), .int f]) (h1 := (124, I, J, R)) rfl ?_
  refine ev_br (b1 := false) rfl rfl (xcd_nne (x := (I 96 (4 + q).toNatClampNeg)) (y := a) (by first | exact b2 | omega)) ?_
  refine ev_go 6 (pc1 := 4) (lv1 := [.ref 86, .int a, .int (f + 1), .int (q + 1)]) (st1 := []) (h1 := (124, I, J, R)) rfl ?_
  exact hk
set_option maxRecDepth 20000 in
theorem no_3 {L : Nat} {xs : Nat → Int32} {d : Nat} {I : Nat → Nat → Int32} {J : Nat → Nat → Int64} {R : Nat → Nat → Nat} {a f q : Int32} (hG : aGd R) (b1 : q.toInt < (I 88 5).toInt) (n1 : 0 ≤ (4 + q).toInt) (m1 : (4 + q).toInt < 8) (b2 : (I 96 (4 + q).toNatClampNeg).toInt ≠ a.toInt) {v : Option Value} {h' : xH} (hk : xEv L xs d 164 4 [.ref 86, .int a, .int (f + 0), .int (q + 1)] [] (124, I, J, R) v h') : xEv L xs d 164 4 [.ref 86, .int a, .int f, .int q] [] (124, I, J, R) v h' := by
  refine ev_go 2 (pc1 := 6) (lv1 := [.ref 86, .int a, .int f, .int q]) (st1 := [.ref 86, .int q]) (h1 := (124, I, J, R)) rfl ?_
  refine ev_gf (c := 86) (t := 88) (X := R 86 12) rfl rfl (fun _ => rfl) rfl (hG 86 12 88 rfl rfl) ?_
  refine ev_go 2 (pc1 := 11) (lv1 := [.ref 86, .int a, .int f, .int q]) (st1 := [.int (I 88 5), .int q]) (h1 := (124, I, J, R)) rfl ?_
  refine ev_br (b1 := false) rfl rfl (xcd_nge (x := q) (y := (I 88 5)) (by first | exact b1 | omega)) ?_
  refine ev_go 2 (pc1 := 16) (lv1 := [.ref 86, .int a, .int f, .int q]) (st1 := [.ref 86, .int f]) (h1 := (124, I, J, R)) rfl ?_
  refine ev_gf (c := 86) (t := 96) (X := R 86 20) rfl rfl (fun _ => rfl) rfl (hG 86 20 96 rfl rfl) ?_
  refine ev_go 3 (pc1 := 22) (lv1 := [.ref 86, .int a, .int f, .int q]) (st1 := [.int (4 + q), .ref 96, .int f]) (h1 := (124, I, J, R)) rfl ?_
  refine ev_ild (n := 8) rfl rfl (fun _ => rfl) n1 m1 ?_
  refine ev_go 1 (pc1 := 24) (lv1 := [.ref 86, .int a, .int f, .int q]) (st1 := [.int a, .int (I 96 (4 + q).toNatClampNeg), .int f]) (h1 := (124, I, J, R)) rfl ?_
  refine ev_br (b1 := true) rfl rfl (xcd_ne (x := (I 96 (4 + q).toNatClampNeg)) (y := a) (by first | exact b2 | omega)) ?_
  refine ev_go 5 (pc1 := 4) (lv1 := [.ref 86, .int a, .int (f + 0), .int (q + 1)]) (st1 := []) (h1 := (124, I, J, R)) rfl ?_
  exact hk
set_option maxRecDepth 20000 in
theorem no_0 {L : Nat} {xs : Nat → Int32} {d : Nat} {I : Nat → Nat → Int32} {J : Nat → Nat → Int64} {R : Nat → Nat → Nat} {a : Int32} (hG : aGd R)  {v : Option Value} {h' : xH} (hk : xEv L xs d 164 4 [.ref 86, .int a, .int 0, .int 0] [] (124, I, J, R) v h') : xEv L xs d 164 0 [.ref 86, .int a, xmk, xmk] [] (124, I, J, R) v h' := by
  refine ev_go 4 (pc1 := 4) (lv1 := [.ref 86, .int a, .int 0, .int 0]) (st1 := []) (h1 := (124, I, J, R)) rfl ?_
  exact hk
set_option maxRecDepth 20000 in
theorem mw_0 {L : Nat} {xs : Nat → Int32} {d : Nat} {I : Nat → Nat → Int32} {J : Nat → Nat → Int64} {R : Nat → Nat → Nat} (hG : aGd R) (b1 : (I 88 5).toInt = 4) (c1 : xEv L xs d 157 0 [.ref 86, .int 4] [] (124, I, J, R) (some (.int 0)) (124, (uI (uI I 86 8 4) 86 9 (I 86 5)), J, R)) : xEv L xs (d + 1) 163 0 [.ref 86, xmk, xmk, xmk] [] (124, I, J, R) (some (.int 0)) (124, (uI (uI I 86 8 4) 86 9 (I 86 5)), J, R) := by
  refine ev_go 1 (pc1 := 1) (lv1 := [.ref 86, xmk, xmk, xmk]) (st1 := [.ref 86]) (h1 := (124, I, J, R)) rfl ?_
  refine ev_gf (c := 86) (t := 88) (X := R 86 12) rfl rfl (fun _ => rfl) rfl (hG 86 12 88 rfl rfl) ?_
  refine ev_go 5 (pc1 := 9) (lv1 := [.ref 86, .int (I 88 5), xmk, xmk]) (st1 := [.int 4, .int (I 88 5)]) (h1 := (124, I, J, R)) rfl ?_
  refine ev_br (b1 := false) rfl rfl (xcd_nne (x := (I 88 5)) (y := 4) (by rw [show ((4 : Int32)).toInt = 4 from by decide]; first | exact b1 | omega)) ?_
  refine ev_go 2 (pc1 := 14) (lv1 := [.ref 86, .int (I 88 5), xmk, xmk]) (st1 := [.int 4, .ref 86]) (h1 := (124, I, J, R)) rfl ?_
  refine ev_call (v1 := (some (.int 0))) (h1 := (124, (uI (uI I 86 8 4) 86 9 (I 86 5)), J, R)) rfl rfl c1 ?_
  exact ev_ret rfl rfl
set_option maxRecDepth 20000 in
theorem mw_1 {L : Nat} {xs : Nat → Int32} {d : Nat} {I : Nat → Nat → Int32} {J : Nat → Nat → Int64} {R : Nat → Nat → Nat} {I1 : Nat → Nat → Int32} {J1 : Nat → Nat → Int64} (hG : aGd R) (b1 : (I 88 5).toInt ≠ 4) (c1 : xEv L xs d 150 0 [.ref 86, xmk, xmk, xmk] [] (124, I, J, R) none (124, I1, J1, R)) (b2 : (I1 86 3).toInt ≠ 1) (c2 : xEv L xs d 157 0 [.ref 86, .int 1] [] (124, I1, J1, R) (some (.int 0)) (124, (uI (uI I1 86 8 1) 86 9 (I1 86 5)), J1, R)) : xEv L xs (d + 1) 163 0 [.ref 86, xmk, xmk, xmk] [] (124, I, J, R) (some (.int 0)) (124, (uI (uI I1 86 8 1) 86 9 (I1 86 5)), J1, R) := by
  refine ev_go 1 (pc1 := 1) (lv1 := [.ref 86, xmk, xmk, xmk]) (st1 := [.ref 86]) (h1 := (124, I, J, R)) rfl ?_
  refine ev_gf (c := 86) (t := 88) (X := R 86 12) rfl rfl (fun _ => rfl) rfl (hG 86 12 88 rfl rfl) ?_
  refine ev_go 5 (pc1 := 9) (lv1 := [.ref 86, .int (I 88 5), xmk, xmk]) (st1 := [.int 4, .int (I 88 5)]) (h1 := (124, I, J, R)) rfl ?_
  refine ev_br (b1 := true) rfl rfl (xcd_ne (x := (I 88 5)) (y := 4) (by rw [show ((4 : Int32)).toInt = 4 from by decide]; first | exact b1 | omega)) ?_
  refine ev_go 1 (pc1 := 19) (lv1 := [.ref 86, .int (I 88 5), xmk, xmk]) (st1 := [.ref 86]) (h1 := (124, I, J, R)) rfl ?_
  refine ev_call (v1 := none) (h1 := (124, I1, J1, R)) rfl rfl c1 ?_
  refine ev_go 3 (pc1 := 27) (lv1 := [.ref 86, .int (I 88 5), xmk, xmk]) (st1 := [.int 1, .int (I1 86 3)]) (h1 := (124, I1, J1, R)) rfl ?_
  refine ev_br (b1 := false) rfl rfl (xcd_neq (x := (I1 86 3)) (y := 1) (by rw [show ((1 : Int32)).toInt = 1 from by decide]; first | exact b2 | omega)) ?_
  refine ev_go 2 (pc1 := 32) (lv1 := [.ref 86, .int (I 88 5), xmk, xmk]) (st1 := [.int 1, .ref 86]) (h1 := (124, I1, J1, R)) rfl ?_
  refine ev_call (v1 := (some (.int 0))) (h1 := (124, (uI (uI I1 86 8 1) 86 9 (I1 86 5)), J1, R)) rfl rfl c2 ?_
  exact ev_ret rfl rfl
set_option maxRecDepth 20000 in
theorem mw_2 {L : Nat} {xs : Nat → Int32} {d : Nat} {I : Nat → Nat → Int32} {J : Nat → Nat → Int64} {R : Nat → Nat → Nat} {I1 : Nat → Nat → Int32} {J1 : Nat → Nat → Int64} {a : Int32} (hG : aGd R) (b1 : (I 88 5).toInt ≠ 4) (c1 : xEv L xs d 150 0 [.ref 86, xmk, xmk, xmk] [] (124, I, J, R) none (124, I1, J1, R)) (b2 : (I1 86 3).toInt = 1) (c2 : xEv L xs d 158 0 [.ref 86, xmk] [] (124, I1, J1, R) (some (.int a)) (124, I1, J1, R)) (b3 : a.toInt = -1) (c3 : xEv L xs d 157 0 [.ref 86, .int 5] [] (124, I1, J1, R) (some (.int 0)) (124, (uI (uI I1 86 8 5) 86 9 (I1 86 5)), J1, R)) : xEv L xs (d + 1) 163 0 [.ref 86, xmk, xmk, xmk] [] (124, I, J, R) (some (.int 0)) (124, (uI (uI I1 86 8 5) 86 9 (I1 86 5)), J1, R) := by
  refine ev_go 1 (pc1 := 1) (lv1 := [.ref 86, xmk, xmk, xmk]) (st1 := [.ref 86]) (h1 := (124, I, J, R)) rfl ?_
  refine ev_gf (c := 86) (t := 88) (X := R 86 12) rfl rfl (fun _ => rfl) rfl (hG 86 12 88 rfl rfl) ?_
  refine ev_go 5 (pc1 := 9) (lv1 := [.ref 86, .int (I 88 5), xmk, xmk]) (st1 := [.int 4, .int (I 88 5)]) (h1 := (124, I, J, R)) rfl ?_
  refine ev_br (b1 := true) rfl rfl (xcd_ne (x := (I 88 5)) (y := 4) (by rw [show ((4 : Int32)).toInt = 4 from by decide]; first | exact b1 | omega)) ?_
  refine ev_go 1 (pc1 := 19) (lv1 := [.ref 86, .int (I 88 5), xmk, xmk]) (st1 := [.ref 86]) (h1 := (124, I, J, R)) rfl ?_
  refine ev_call (v1 := none) (h1 := (124, I1, J1, R)) rfl rfl c1 ?_
  refine ev_go 3 (pc1 := 27) (lv1 := [.ref 86, .int (I 88 5), xmk, xmk]) (st1 := [.int 1, .int (I1 86 3)]) (h1 := (124, I1, J1, R)) rfl ?_
  refine ev_br (b1 := true) rfl rfl (xcd_eq (x := (I1 86 3)) (y := 1) (by rw [show ((1 : Int32)).toInt = 1 from by decide]; first | exact b2 | omega)) ?_
  refine ev_go 1 (pc1 := 37) (lv1 := [.ref 86, .int (I 88 5), xmk, xmk]) (st1 := [.ref 86]) (h1 := (124, I1, J1, R)) rfl ?_
  refine ev_call (v1 := (some (.int a))) (h1 := (124, I1, J1, R)) rfl rfl c2 ?_
  refine ev_go 3 (pc1 := 43) (lv1 := [.ref 86, .int (I 88 5), .int a, xmk]) (st1 := [.int (-1), .int a]) (h1 := (124, I1, J1, R)) rfl ?_
  refine ev_br (b1 := false) rfl rfl (xcd_nne (x := a) (y := (-1)) (by rw [show ((-1 : Int32)).toInt = -1 from by decide]; first | exact b3 | omega)) ?_
  refine ev_go 2 (pc1 := 48) (lv1 := [.ref 86, .int (I 88 5), .int a, xmk]) (st1 := [.int 5, .ref 86]) (h1 := (124, I1, J1, R)) rfl ?_
  refine ev_call (v1 := (some (.int 0))) (h1 := (124, (uI (uI I1 86 8 5) 86 9 (I1 86 5)), J1, R)) rfl rfl c3 ?_
  exact ev_ret rfl rfl
set_option maxRecDepth 20000 in
theorem mw_3 {L : Nat} {xs : Nat → Int32} {d : Nat} {I : Nat → Nat → Int32} {J : Nat → Nat → Int64} {R : Nat → Nat → Nat} {I1 : Nat → Nat → Int32} {J1 : Nat → Nat → Int64} {a q : Int32} (hG : aGd R) (b1 : (I 88 5).toInt ≠ 4) (c1 : xEv L xs d 150 0 [.ref 86, xmk, xmk, xmk] [] (124, I, J, R) none (124, I1, J1, R)) (b2 : (I1 86 3).toInt = 1) (c2 : xEv L xs d 158 0 [.ref 86, xmk] [] (124, I1, J1, R) (some (.int a)) (124, I1, J1, R)) (b3 : a.toInt ≠ -1) (c3 : xEv L xs d 164 0 [.ref 86, .int a, xmk, xmk] [] (124, I1, J1, R) (some (.int q)) (124, I1, J1, R)) (n1 : 0 ≤ (7 + a).toInt) (m1 : (7 + a).toInt < 14) (b4 : q.toInt = (I1 90 (7 + a).toNatClampNeg).toInt) (c4 : xEv L xs d 157 0 [.ref 86, .int 4] [] (124, I1, J1, R) (some (.int 0)) (124, (uI (uI I1 86 8 4) 86 9 (I1 86 5)), J1, R)) : xEv L xs (d + 1) 163 0 [.ref 86, xmk, xmk, xmk] [] (124, I, J, R) (some (.int 0)) (124, (uI (uI I1 86 8 4) 86 9 (I1 86 5)), J1, R) := by
  refine ev_go 1 (pc1 := 1) (lv1 := [.ref 86, xmk, xmk, xmk]) (st1 := [.ref 86]) (h1 := (124, I, J, R)) rfl ?_
  refine ev_gf (c := 86) (t := 88) (X := R 86 12) rfl rfl (fun _ => rfl) rfl (hG 86 12 88 rfl rfl) ?_
  refine ev_go 5 (pc1 := 9) (lv1 := [.ref 86, .int (I 88 5), xmk, xmk]) (st1 := [.int 4, .int (I 88 5)]) (h1 := (124, I, J, R)) rfl ?_
  refine ev_br (b1 := true) rfl rfl (xcd_ne (x := (I 88 5)) (y := 4) (by rw [show ((4 : Int32)).toInt = 4 from by decide]; first | exact b1 | omega)) ?_
  refine ev_go 1 (pc1 := 19) (lv1 := [.ref 86, .int (I 88 5), xmk, xmk]) (st1 := [.ref 86]) (h1 := (124, I, J, R)) rfl ?_
  refine ev_call (v1 := none) (h1 := (124, I1, J1, R)) rfl rfl c1 ?_
  refine ev_go 3 (pc1 := 27) (lv1 := [.ref 86, .int (I 88 5), xmk, xmk]) (st1 := [.int 1, .int (I1 86 3)]) (h1 := (124, I1, J1, R)) rfl ?_
  refine ev_br (b1 := true) rfl rfl (xcd_eq (x := (I1 86 3)) (y := 1) (by rw [show ((1 : Int32)).toInt = 1 from by decide]; first | exact b2 | omega)) ?_
  refine ev_go 1 (pc1 := 37) (lv1 := [.ref 86, .int (I 88 5), xmk, xmk]) (st1 := [.ref 86]) (h1 := (124, I1, J1, R)) rfl ?_
  refine ev_call (v1 := (some (.int a))) (h1 := (124, I1, J1, R)) rfl rfl c2 ?_
  refine ev_go 3 (pc1 := 43) (lv1 := [.ref 86, .int (I 88 5), .int a, xmk]) (st1 := [.int (-1), .int a]) (h1 := (124, I1, J1, R)) rfl ?_
  refine ev_br (b1 := true) rfl rfl (xcd_ne (x := a) (y := (-1)) (by rw [show ((-1 : Int32)).toInt = -1 from by decide]; first | exact b3 | omega)) ?_
  refine ev_go 2 (pc1 := 54) (lv1 := [.ref 86, .int (I 88 5), .int a, xmk]) (st1 := [.int a, .ref 86]) (h1 := (124, I1, J1, R)) rfl ?_
  refine ev_call (v1 := (some (.int q))) (h1 := (124, I1, J1, R)) rfl rfl c3 ?_
  refine ev_go 1 (pc1 := 58) (lv1 := [.ref 86, .int (I 88 5), .int a, xmk]) (st1 := [.ref 86, .int q]) (h1 := (124, I1, J1, R)) rfl ?_
  refine ev_gf (c := 86) (t := 90) (X := R 86 14) rfl rfl (fun _ => rfl) rfl (hG 86 14 90 rfl rfl) ?_
  refine ev_go 3 (pc1 := 65) (lv1 := [.ref 86, .int (I 88 5), .int a, xmk]) (st1 := [.int (7 + a), .ref 90, .int q]) (h1 := (124, I1, J1, R)) rfl ?_
  refine ev_ild (n := 14) rfl rfl (fun _ => rfl) n1 m1 ?_
  refine ev_br (b1 := false) rfl rfl (xcd_nne (x := q) (y := (I1 90 (7 + a).toNatClampNeg)) (by first | exact b4 | omega)) ?_
  refine ev_go 2 (pc1 := 71) (lv1 := [.ref 86, .int (I 88 5), .int a, xmk]) (st1 := [.int 4, .ref 86]) (h1 := (124, I1, J1, R)) rfl ?_
  refine ev_call (v1 := (some (.int 0))) (h1 := (124, (uI (uI I1 86 8 4) 86 9 (I1 86 5)), J1, R)) rfl rfl c4 ?_
  exact ev_ret rfl rfl
set_option maxRecDepth 20000 in
theorem mw_4 {L : Nat} {xs : Nat → Int32} {d : Nat} {I : Nat → Nat → Int32} {J : Nat → Nat → Int64} {R : Nat → Nat → Nat} {I1 : Nat → Nat → Int32} {J1 : Nat → Nat → Int64} {I2 : Nat → Nat → Int32} {J2 : Nat → Nat → Int64} {a q : Int32} (hG : aGd R) (b1 : (I 88 5).toInt ≠ 4) (c1 : xEv L xs d 150 0 [.ref 86, xmk, xmk, xmk] [] (124, I, J, R) none (124, I1, J1, R)) (b2 : (I1 86 3).toInt = 1) (c2 : xEv L xs d 158 0 [.ref 86, xmk] [] (124, I1, J1, R) (some (.int a)) (124, I1, J1, R)) (b3 : a.toInt ≠ -1) (c3 : xEv L xs d 164 0 [.ref 86, .int a, xmk, xmk] [] (124, I1, J1, R) (some (.int q)) (124, I1, J1, R)) (n1 : 0 ≤ (7 + a).toInt) (m1 : (7 + a).toInt < 14) (b4 : q.toInt ≠ (I1 90 (7 + a).toNatClampNeg).toInt) (c4 : xEv L xs d 150 0 [.ref 86, xmk, xmk, xmk] [] (124, I1, J1, R) none (124, I2, J2, R)) (b5 : (I2 86 3).toInt ≠ 1) (c5 : xEv L xs d 157 0 [.ref 86, .int 1] [] (124, I2, J2, R) (some (.int 0)) (124, (uI (uI I2 86 8 1) 86 9 (I2 86 5)), J2, R)) : xEv L xs (d + 1) 163 0 [.ref 86, xmk, xmk, xmk] [] (124, I, J, R) (some (.int 0)) (124, (uI (uI I2 86 8 1) 86 9 (I2 86 5)), J2, R) := by
  refine ev_go 1 (pc1 := 1) (lv1 := [.ref 86, xmk, xmk, xmk]) (st1 := [.ref 86]) (h1 := (124, I, J, R)) rfl ?_
  refine ev_gf (c := 86) (t := 88) (X := R 86 12) rfl rfl (fun _ => rfl) rfl (hG 86 12 88 rfl rfl) ?_
  refine ev_go 5 (pc1 := 9) (lv1 := [.ref 86, .int (I 88 5), xmk, xmk]) (st1 := [.int 4, .int (I 88 5)]) (h1 := (124, I, J, R)) rfl ?_
  refine ev_br (b1 := true) rfl rfl (xcd_ne (x := (I 88 5)) (y := 4) (by rw [show ((4 : Int32)).toInt = 4 from by decide]; first | exact b1 | omega)) ?_
  refine ev_go 1 (pc1 := 19) (lv1 := [.ref 86, .int (I 88 5), xmk, xmk]) (st1 := [.ref 86]) (h1 := (124, I, J, R)) rfl ?_
  refine ev_call (v1 := none) (h1 := (124, I1, J1, R)) rfl rfl c1 ?_
  refine ev_go 3 (pc1 := 27) (lv1 := [.ref 86, .int (I 88 5), xmk, xmk]) (st1 := [.int 1, .int (I1 86 3)]) (h1 := (124, I1, J1, R)) rfl ?_
  refine ev_br (b1 := true) rfl rfl (xcd_eq (x := (I1 86 3)) (y := 1) (by rw [show ((1 : Int32)).toInt = 1 from by decide]; first | exact b2 | omega)) ?_
  refine ev_go 1 (pc1 := 37) (lv1 := [.ref 86, .int (I 88 5), xmk, xmk]) (st1 := [.ref 86]) (h1 := (124, I1, J1, R)) rfl ?_
  refine ev_call (v1 := (some (.int a))) (h1 := (124, I1, J1, R)) rfl rfl c2 ?_
  refine ev_go 3 (pc1 := 43) (lv1 := [.ref 86, .int (I 88 5), .int a, xmk]) (st1 := [.int (-1), .int a]) (h1 := (124, I1, J1, R)) rfl ?_
  refine ev_br (b1 := true) rfl rfl (xcd_ne (x := a) (y := (-1)) (by rw [show ((-1 : Int32)).toInt = -1 from by decide]; first | exact b3 | omega)) ?_
  refine ev_go 2 (pc1 := 54) (lv1 := [.ref 86, .int (I 88 5), .int a, xmk]) (st1 := [.int a, .ref 86]) (h1 := (124, I1, J1, R)) rfl ?_
  refine ev_call (v1 := (some (.int q))) (h1 := (124, I1, J1, R)) rfl rfl c3 ?_
  refine ev_go 1 (pc1 := 58) (lv1 := [.ref 86, .int (I 88 5), .int a, xmk]) (st1 := [.ref 86, .int q]) (h1 := (124, I1, J1, R)) rfl ?_
  refine ev_gf (c := 86) (t := 90) (X := R 86 14) rfl rfl (fun _ => rfl) rfl (hG 86 14 90 rfl rfl) ?_
  refine ev_go 3 (pc1 := 65) (lv1 := [.ref 86, .int (I 88 5), .int a, xmk]) (st1 := [.int (7 + a), .ref 90, .int q]) (h1 := (124, I1, J1, R)) rfl ?_
  refine ev_ild (n := 14) rfl rfl (fun _ => rfl) n1 m1 ?_
  refine ev_br (b1 := true) rfl rfl (xcd_ne (x := q) (y := (I1 90 (7 + a).toNatClampNeg)) (by first | exact b4 | omega)) ?_
  refine ev_go 1 (pc1 := 76) (lv1 := [.ref 86, .int (I 88 5), .int a, xmk]) (st1 := [.ref 86]) (h1 := (124, I1, J1, R)) rfl ?_
  refine ev_call (v1 := none) (h1 := (124, I2, J2, R)) rfl rfl c4 ?_
  refine ev_go 3 (pc1 := 84) (lv1 := [.ref 86, .int (I 88 5), .int a, xmk]) (st1 := [.int 1, .int (I2 86 3)]) (h1 := (124, I2, J2, R)) rfl ?_
  refine ev_br (b1 := false) rfl rfl (xcd_neq (x := (I2 86 3)) (y := 1) (by rw [show ((1 : Int32)).toInt = 1 from by decide]; first | exact b5 | omega)) ?_
  refine ev_go 2 (pc1 := 89) (lv1 := [.ref 86, .int (I 88 5), .int a, xmk]) (st1 := [.int 1, .ref 86]) (h1 := (124, I2, J2, R)) rfl ?_
  refine ev_call (v1 := (some (.int 0))) (h1 := (124, (uI (uI I2 86 8 1) 86 9 (I2 86 5)), J2, R)) rfl rfl c5 ?_
  exact ev_ret rfl rfl
set_option maxRecDepth 20000 in
theorem mw_5 {L : Nat} {xs : Nat → Int32} {d : Nat} {I : Nat → Nat → Int32} {J : Nat → Nat → Int64} {R : Nat → Nat → Nat} {I1 : Nat → Nat → Int32} {J1 : Nat → Nat → Int64} {I2 : Nat → Nat → Int32} {J2 : Nat → Nat → Int64} {a q c : Int32} (hG : aGd R) (b1 : (I 88 5).toInt ≠ 4) (c1 : xEv L xs d 150 0 [.ref 86, xmk, xmk, xmk] [] (124, I, J, R) none (124, I1, J1, R)) (b2 : (I1 86 3).toInt = 1) (c2 : xEv L xs d 158 0 [.ref 86, xmk] [] (124, I1, J1, R) (some (.int a)) (124, I1, J1, R)) (b3 : a.toInt ≠ -1) (c3 : xEv L xs d 164 0 [.ref 86, .int a, xmk, xmk] [] (124, I1, J1, R) (some (.int q)) (124, I1, J1, R)) (n1 : 0 ≤ (7 + a).toInt) (m1 : (7 + a).toInt < 14) (b4 : q.toInt ≠ (I1 90 (7 + a).toNatClampNeg).toInt) (c4 : xEv L xs d 150 0 [.ref 86, xmk, xmk, xmk] [] (124, I1, J1, R) none (124, I2, J2, R)) (b5 : (I2 86 3).toInt = 1) (c5 : xEv L xs d 158 0 [.ref 86, xmk] [] (124, I2, J2, R) (some (.int c)) (124, I2, J2, R)) (b6 : c.toInt = a.toInt) (c6 : xEv L xs d 157 0 [.ref 86, .int 3] [] (124, I2, J2, R) (some (.int 0)) (124, (uI (uI I2 86 8 3) 86 9 (I2 86 5)), J2, R)) : xEv L xs (d + 1) 163 0 [.ref 86, xmk, xmk, xmk] [] (124, I, J, R) (some (.int 0)) (124, (uI (uI I2 86 8 3) 86 9 (I2 86 5)), J2, R) := by
  refine ev_go 1 (pc1 := 1) (lv1 := [.ref 86, xmk, xmk, xmk]) (st1 := [.ref 86]) (h1 := (124, I, J, R)) rfl ?_
  refine ev_gf (c := 86) (t := 88) (X := R 86 12) rfl rfl (fun _ => rfl) rfl (hG 86 12 88 rfl rfl) ?_
  refine ev_go 5 (pc1 := 9) (lv1 := [.ref 86, .int (I 88 5), xmk, xmk]) (st1 := [.int 4, .int (I 88 5)]) (h1 := (124, I, J, R)) rfl ?_
  refine ev_br (b1 := true) rfl rfl (xcd_ne (x := (I 88 5)) (y := 4) (by rw [show ((4 : Int32)).toInt = 4 from by decide]; first | exact b1 | omega)) ?_
  refine ev_go 1 (pc1 := 19) (lv1 := [.ref 86, .int (I 88 5), xmk, xmk]) (st1 := [.ref 86]) (h1 := (124, I, J, R)) rfl ?_
  refine ev_call (v1 := none) (h1 := (124, I1, J1, R)) rfl rfl c1 ?_
  refine ev_go 3 (pc1 := 27) (lv1 := [.ref 86, .int (I 88 5), xmk, xmk]) (st1 := [.int 1, .int (I1 86 3)]) (h1 := (124, I1, J1, R)) rfl ?_
  refine ev_br (b1 := true) rfl rfl (xcd_eq (x := (I1 86 3)) (y := 1) (by rw [show ((1 : Int32)).toInt = 1 from by decide]; first | exact b2 | omega)) ?_
  refine ev_go 1 (pc1 := 37) (lv1 := [.ref 86, .int (I 88 5), xmk, xmk]) (st1 := [.ref 86]) (h1 := (124, I1, J1, R)) rfl ?_
  refine ev_call (v1 := (some (.int a))) (h1 := (124, I1, J1, R)) rfl rfl c2 ?_
  refine ev_go 3 (pc1 := 43) (lv1 := [.ref 86, .int (I 88 5), .int a, xmk]) (st1 := [.int (-1), .int a]) (h1 := (124, I1, J1, R)) rfl ?_
  refine ev_br (b1 := true) rfl rfl (xcd_ne (x := a) (y := (-1)) (by rw [show ((-1 : Int32)).toInt = -1 from by decide]; first | exact b3 | omega)) ?_
  refine ev_go 2 (pc1 := 54) (lv1 := [.ref 86, .int (I 88 5), .int a, xmk]) (st1 := [.int a, .ref 86]) (h1 := (124, I1, J1, R)) rfl ?_
  refine ev_call (v1 := (some (.int q))) (h1 := (124, I1, J1, R)) rfl rfl c3 ?_
  refine ev_go 1 (pc1 := 58) (lv1 := [.ref 86, .int (I 88 5), .int a, xmk]) (st1 := [.ref 86, .int q]) (h1 := (124, I1, J1, R)) rfl ?_
  refine ev_gf (c := 86) (t := 90) (X := R 86 14) rfl rfl (fun _ => rfl) rfl (hG 86 14 90 rfl rfl) ?_
  refine ev_go 3 (pc1 := 65) (lv1 := [.ref 86, .int (I 88 5), .int a, xmk]) (st1 := [.int (7 + a), .ref 90, .int q]) (h1 := (124, I1, J1, R)) rfl ?_
  refine ev_ild (n := 14) rfl rfl (fun _ => rfl) n1 m1 ?_
  refine ev_br (b1 := true) rfl rfl (xcd_ne (x := q) (y := (I1 90 (7 + a).toNatClampNeg)) (by first | exact b4 | omega)) ?_
  refine ev_go 1 (pc1 := 76) (lv1 := [.ref 86, .int (I 88 5), .int a, xmk]) (st1 := [.ref 86]) (h1 := (124, I1, J1, R)) rfl ?_
  refine ev_call (v1 := none) (h1 := (124, I2, J2, R)) rfl rfl c4 ?_
  refine ev_go 3 (pc1 := 84) (lv1 := [.ref 86, .int (I 88 5), .int a, xmk]) (st1 := [.int 1, .int (I2 86 3)]) (h1 := (124, I2, J2, R)) rfl ?_
  refine ev_br (b1 := true) rfl rfl (xcd_eq (x := (I2 86 3)) (y := 1) (by rw [show ((1 : Int32)).toInt = 1 from by decide]; first | exact b5 | omega)) ?_
  refine ev_go 1 (pc1 := 94) (lv1 := [.ref 86, .int (I 88 5), .int a, xmk]) (st1 := [.ref 86]) (h1 := (124, I2, J2, R)) rfl ?_
  refine ev_call (v1 := (some (.int c))) (h1 := (124, I2, J2, R)) rfl rfl c5 ?_
  refine ev_go 3 (pc1 := 100) (lv1 := [.ref 86, .int (I 88 5), .int a, .int c]) (st1 := [.int a, .int c]) (h1 := (124, I2, J2, R)) rfl ?_
  refine ev_br (b1 := false) rfl rfl (xcd_nne (x := c) (y := a) (by first | exact b6 | omega)) ?_
  refine ev_go 2 (pc1 := 105) (lv1 := [.ref 86, .int (I 88 5), .int a, .int c]) (st1 := [.int 3, .ref 86]) (h1 := (124, I2, J2, R)) rfl ?_
  refine ev_call (v1 := (some (.int 0))) (h1 := (124, (uI (uI I2 86 8 3) 86 9 (I2 86 5)), J2, R)) rfl rfl c6 ?_
  exact ev_ret rfl rfl
set_option maxRecDepth 20000 in
theorem mw_6 {L : Nat} {xs : Nat → Int32} {d : Nat} {I : Nat → Nat → Int32} {J : Nat → Nat → Int64} {R : Nat → Nat → Nat} {I1 : Nat → Nat → Int32} {J1 : Nat → Nat → Int64} {I2 : Nat → Nat → Int32} {J2 : Nat → Nat → Int64} {a q c : Int32} (hG : aGd R) (b1 : (I 88 5).toInt ≠ 4) (c1 : xEv L xs d 150 0 [.ref 86, xmk, xmk, xmk] [] (124, I, J, R) none (124, I1, J1, R)) (b2 : (I1 86 3).toInt = 1) (c2 : xEv L xs d 158 0 [.ref 86, xmk] [] (124, I1, J1, R) (some (.int a)) (124, I1, J1, R)) (b3 : a.toInt ≠ -1) (c3 : xEv L xs d 164 0 [.ref 86, .int a, xmk, xmk] [] (124, I1, J1, R) (some (.int q)) (124, I1, J1, R)) (n1 : 0 ≤ (7 + a).toInt) (m1 : (7 + a).toInt < 14) (b4 : q.toInt ≠ (I1 90 (7 + a).toNatClampNeg).toInt) (c4 : xEv L xs d 150 0 [.ref 86, xmk, xmk, xmk] [] (124, I1, J1, R) none (124, I2, J2, R)) (b5 : (I2 86 3).toInt = 1) (c5 : xEv L xs d 158 0 [.ref 86, xmk] [] (124, I2, J2, R) (some (.int c)) (124, I2, J2, R)) (b6 : c.toInt ≠ a.toInt) (b7 : c.toInt = -1) (c6 : xEv L xs d 157 0 [.ref 86, .int 5] [] (124, I2, J2, R) (some (.int 0)) (124, (uI (uI I2 86 8 5) 86 9 (I2 86 5)), J2, R)) : xEv L xs (d + 1) 163 0 [.ref 86, xmk, xmk, xmk] [] (124, I, J, R) (some (.int 0)) (124, (uI (uI I2 86 8 5) 86 9 (I2 86 5)), J2, R) := by
  refine ev_go 1 (pc1 := 1) (lv1 := [.ref 86, xmk, xmk, xmk]) (st1 := [.ref 86]) (h1 := (124, I, J, R)) rfl ?_
  refine ev_gf (c := 86) (t := 88) (X := R 86 12) rfl rfl (fun _ => rfl) rfl (hG 86 12 88 rfl rfl) ?_
  refine ev_go 5 (pc1 := 9) (lv1 := [.ref 86, .int (I 88 5), xmk, xmk]) (st1 := [.int 4, .int (I 88 5)]) (h1 := (124, I, J, R)) rfl ?_
  refine ev_br (b1 := true) rfl rfl (xcd_ne (x := (I 88 5)) (y := 4) (by rw [show ((4 : Int32)).toInt = 4 from by decide]; first | exact b1 | omega)) ?_
  refine ev_go 1 (pc1 := 19) (lv1 := [.ref 86, .int (I 88 5), xmk, xmk]) (st1 := [.ref 86]) (h1 := (124, I, J, R)) rfl ?_
  refine ev_call (v1 := none) (h1 := (124, I1, J1, R)) rfl rfl c1 ?_
  refine ev_go 3 (pc1 := 27) (lv1 := [.ref 86, .int (I 88 5), xmk, xmk]) (st1 := [.int 1, .int (I1 86 3)]) (h1 := (124, I1, J1, R)) rfl ?_
  refine ev_br (b1 := true) rfl rfl (xcd_eq (x := (I1 86 3)) (y := 1) (by rw [show ((1 : Int32)).toInt = 1 from by decide]; first | exact b2 | omega)) ?_
  refine ev_go 1 (pc1 := 37) (lv1 := [.ref 86, .int (I 88 5), xmk, xmk]) (st1 := [.ref 86]) (h1 := (124, I1, J1, R)) rfl ?_
  refine ev_call (v1 := (some (.int a))) (h1 := (124, I1, J1, R)) rfl rfl c2 ?_
  refine ev_go 3 (pc1 := 43) (lv1 := [.ref 86, .int (I 88 5), .int a, xmk]) (st1 := [.int (-1), .int a]) (h1 := (124, I1, J1, R)) rfl ?_
  refine ev_br (b1 := true) rfl rfl (xcd_ne (x := a) (y := (-1)) (by rw [show ((-1 : Int32)).toInt = -1 from by decide]; first | exact b3 | omega)) ?_
  refine ev_go 2 (pc1 := 54) (lv1 := [.ref 86, .int (I 88 5), .int a, xmk]) (st1 := [.int a, .ref 86]) (h1 := (124, I1, J1, R)) rfl ?_
  refine ev_call (v1 := (some (.int q))) (h1 := (124, I1, J1, R)) rfl rfl c3 ?_
  refine ev_go 1 (pc1 := 58) (lv1 := [.ref 86, .int (I 88 5), .int a, xmk]) (st1 := [.ref 86, .int q]) (h1 := (124, I1, J1, R)) rfl ?_
  refine ev_gf (c := 86) (t := 90) (X := R 86 14) rfl rfl (fun _ => rfl) rfl (hG 86 14 90 rfl rfl) ?_
  refine ev_go 3 (pc1 := 65) (lv1 := [.ref 86, .int (I 88 5), .int a, xmk]) (st1 := [.int (7 + a), .ref 90, .int q]) (h1 := (124, I1, J1, R)) rfl ?_
  refine ev_ild (n := 14) rfl rfl (fun _ => rfl) n1 m1 ?_
  refine ev_br (b1 := true) rfl rfl (xcd_ne (x := q) (y := (I1 90 (7 + a).toNatClampNeg)) (by first | exact b4 | omega)) ?_
  refine ev_go 1 (pc1 := 76) (lv1 := [.ref 86, .int (I 88 5), .int a, xmk]) (st1 := [.ref 86]) (h1 := (124, I1, J1, R)) rfl ?_
  refine ev_call (v1 := none) (h1 := (124, I2, J2, R)) rfl rfl c4 ?_
  refine ev_go 3 (pc1 := 84) (lv1 := [.ref 86, .int (I 88 5), .int a, xmk]) (st1 := [.int 1, .int (I2 86 3)]) (h1 := (124, I2, J2, R)) rfl ?_
  refine ev_br (b1 := true) rfl rfl (xcd_eq (x := (I2 86 3)) (y := 1) (by rw [show ((1 : Int32)).toInt = 1 from by decide]; first | exact b5 | omega)) ?_
  refine ev_go 1 (pc1 := 94) (lv1 := [.ref 86, .int (I 88 5), .int a, xmk]) (st1 := [.ref 86]) (h1 := (124, I2, J2, R)) rfl ?_
  refine ev_call (v1 := (some (.int c))) (h1 := (124, I2, J2, R)) rfl rfl c5 ?_
  refine ev_go 3 (pc1 := 100) (lv1 := [.ref 86, .int (I 88 5), .int a, .int c]) (st1 := [.int a, .int c]) (h1 := (124, I2, J2, R)) rfl ?_
  refine ev_br (b1 := true) rfl rfl (xcd_ne (x := c) (y := a) (by first | exact b6 | omega)) ?_
  refine ev_go 2 (pc1 := 111) (lv1 := [.ref 86, .int (I 88 5), .int a, .int c]) (st1 := [.int (-1), .int c]) (h1 := (124, I2, J2, R)) rfl ?_
  refine ev_br (b1 := false) rfl rfl (xcd_nne (x := c) (y := (-1)) (by rw [show ((-1 : Int32)).toInt = -1 from by decide]; first | exact b7 | omega)) ?_
  refine ev_go 2 (pc1 := 116) (lv1 := [.ref 86, .int (I 88 5), .int a, .int c]) (st1 := [.int 5, .ref 86]) (h1 := (124, I2, J2, R)) rfl ?_
  refine ev_call (v1 := (some (.int 0))) (h1 := (124, (uI (uI I2 86 8 5) 86 9 (I2 86 5)), J2, R)) rfl rfl c6 ?_
  exact ev_ret rfl rfl
set_option maxRecDepth 20000 in
theorem mw_7 {L : Nat} {xs : Nat → Int32} {d : Nat} {I : Nat → Nat → Int32} {J : Nat → Nat → Int64} {R : Nat → Nat → Nat} {I1 : Nat → Nat → Int32} {J1 : Nat → Nat → Int64} {I2 : Nat → Nat → Int32} {J2 : Nat → Nat → Int64} {I3 : Nat → Nat → Int32} {J3 : Nat → Nat → Int64} {I4 : Nat → Nat → Int32} {J4 : Nat → Nat → Int64} {a q c : Int32} (hG : aGd R) (b1 : (I 88 5).toInt ≠ 4) (c1 : xEv L xs d 150 0 [.ref 86, xmk, xmk, xmk] [] (124, I, J, R) none (124, I1, J1, R)) (b2 : (I1 86 3).toInt = 1) (c2 : xEv L xs d 158 0 [.ref 86, xmk] [] (124, I1, J1, R) (some (.int a)) (124, I1, J1, R)) (b3 : a.toInt ≠ -1) (c3 : xEv L xs d 164 0 [.ref 86, .int a, xmk, xmk] [] (124, I1, J1, R) (some (.int q)) (124, I1, J1, R)) (n1 : 0 ≤ (7 + a).toInt) (m1 : (7 + a).toInt < 14) (b4 : q.toInt ≠ (I1 90 (7 + a).toNatClampNeg).toInt) (c4 : xEv L xs d 150 0 [.ref 86, xmk, xmk, xmk] [] (124, I1, J1, R) none (124, I2, J2, R)) (b5 : (I2 86 3).toInt = 1) (c5 : xEv L xs d 158 0 [.ref 86, xmk] [] (124, I2, J2, R) (some (.int c)) (124, I2, J2, R)) (b6 : c.toInt ≠ a.toInt) (b7 : c.toInt ≠ -1) (c6 : xEv L xs d 150 0 [.ref 86, xmk, xmk, xmk] [] (124, I2, J2, R) none (124, I3, J3, R)) (c7 : xEv L xs d 159 0 [.ref 86, .int 0, .int 95] [] (124, I3, J3, R) (some (.int 0)) (124, I4, J4, R)) : xEv L xs (d + 1) 163 0 [.ref 86, xmk, xmk, xmk] [] (124, I, J, R) (some (.int 0)) (124, I4, J4, R) := by
  refine ev_go 1 (pc1 := 1) (lv1 := [.ref 86, xmk, xmk, xmk]) (st1 := [.ref 86]) (h1 := (124, I, J, R)) rfl ?_
  refine ev_gf (c := 86) (t := 88) (X := R 86 12) rfl rfl (fun _ => rfl) rfl (hG 86 12 88 rfl rfl) ?_
  refine ev_go 5 (pc1 := 9) (lv1 := [.ref 86, .int (I 88 5), xmk, xmk]) (st1 := [.int 4, .int (I 88 5)]) (h1 := (124, I, J, R)) rfl ?_
  refine ev_br (b1 := true) rfl rfl (xcd_ne (x := (I 88 5)) (y := 4) (by rw [show ((4 : Int32)).toInt = 4 from by decide]; first | exact b1 | omega)) ?_
  refine ev_go 1 (pc1 := 19) (lv1 := [.ref 86, .int (I 88 5), xmk, xmk]) (st1 := [.ref 86]) (h1 := (124, I, J, R)) rfl ?_
  refine ev_call (v1 := none) (h1 := (124, I1, J1, R)) rfl rfl c1 ?_
  refine ev_go 3 (pc1 := 27) (lv1 := [.ref 86, .int (I 88 5), xmk, xmk]) (st1 := [.int 1, .int (I1 86 3)]) (h1 := (124, I1, J1, R)) rfl ?_
  refine ev_br (b1 := true) rfl rfl (xcd_eq (x := (I1 86 3)) (y := 1) (by rw [show ((1 : Int32)).toInt = 1 from by decide]; first | exact b2 | omega)) ?_
  refine ev_go 1 (pc1 := 37) (lv1 := [.ref 86, .int (I 88 5), xmk, xmk]) (st1 := [.ref 86]) (h1 := (124, I1, J1, R)) rfl ?_
  refine ev_call (v1 := (some (.int a))) (h1 := (124, I1, J1, R)) rfl rfl c2 ?_
  refine ev_go 3 (pc1 := 43) (lv1 := [.ref 86, .int (I 88 5), .int a, xmk]) (st1 := [.int (-1), .int a]) (h1 := (124, I1, J1, R)) rfl ?_
  refine ev_br (b1 := true) rfl rfl (xcd_ne (x := a) (y := (-1)) (by rw [show ((-1 : Int32)).toInt = -1 from by decide]; first | exact b3 | omega)) ?_
  refine ev_go 2 (pc1 := 54) (lv1 := [.ref 86, .int (I 88 5), .int a, xmk]) (st1 := [.int a, .ref 86]) (h1 := (124, I1, J1, R)) rfl ?_
  refine ev_call (v1 := (some (.int q))) (h1 := (124, I1, J1, R)) rfl rfl c3 ?_
  refine ev_go 1 (pc1 := 58) (lv1 := [.ref 86, .int (I 88 5), .int a, xmk]) (st1 := [.ref 86, .int q]) (h1 := (124, I1, J1, R)) rfl ?_
  refine ev_gf (c := 86) (t := 90) (X := R 86 14) rfl rfl (fun _ => rfl) rfl (hG 86 14 90 rfl rfl) ?_
  refine ev_go 3 (pc1 := 65) (lv1 := [.ref 86, .int (I 88 5), .int a, xmk]) (st1 := [.int (7 + a), .ref 90, .int q]) (h1 := (124, I1, J1, R)) rfl ?_
  refine ev_ild (n := 14) rfl rfl (fun _ => rfl) n1 m1 ?_
  refine ev_br (b1 := true) rfl rfl (xcd_ne (x := q) (y := (I1 90 (7 + a).toNatClampNeg)) (by first | exact b4 | omega)) ?_
  refine ev_go 1 (pc1 := 76) (lv1 := [.ref 86, .int (I 88 5), .int a, xmk]) (st1 := [.ref 86]) (h1 := (124, I1, J1, R)) rfl ?_
  refine ev_call (v1 := none) (h1 := (124, I2, J2, R)) rfl rfl c4 ?_
  refine ev_go 3 (pc1 := 84) (lv1 := [.ref 86, .int (I 88 5), .int a, xmk]) (st1 := [.int 1, .int (I2 86 3)]) (h1 := (124, I2, J2, R)) rfl ?_
  refine ev_br (b1 := true) rfl rfl (xcd_eq (x := (I2 86 3)) (y := 1) (by rw [show ((1 : Int32)).toInt = 1 from by decide]; first | exact b5 | omega)) ?_
  refine ev_go 1 (pc1 := 94) (lv1 := [.ref 86, .int (I 88 5), .int a, xmk]) (st1 := [.ref 86]) (h1 := (124, I2, J2, R)) rfl ?_
  refine ev_call (v1 := (some (.int c))) (h1 := (124, I2, J2, R)) rfl rfl c5 ?_
  refine ev_go 3 (pc1 := 100) (lv1 := [.ref 86, .int (I 88 5), .int a, .int c]) (st1 := [.int a, .int c]) (h1 := (124, I2, J2, R)) rfl ?_
  refine ev_br (b1 := true) rfl rfl (xcd_ne (x := c) (y := a) (by first | exact b6 | omega)) ?_
  refine ev_go 2 (pc1 := 111) (lv1 := [.ref 86, .int (I 88 5), .int a, .int c]) (st1 := [.int (-1), .int c]) (h1 := (124, I2, J2, R)) rfl ?_
  refine ev_br (b1 := true) rfl rfl (xcd_ne (x := c) (y := (-1)) (by rw [show ((-1 : Int32)).toInt = -1 from by decide]; first | exact b7 | omega)) ?_
  refine ev_go 1 (pc1 := 121) (lv1 := [.ref 86, .int (I 88 5), .int a, .int c]) (st1 := [.ref 86]) (h1 := (124, I2, J2, R)) rfl ?_
  refine ev_call (v1 := none) (h1 := (124, I3, J3, R)) rfl rfl c6 ?_
  refine ev_go 3 (pc1 := 128) (lv1 := [.ref 86, .int (I 88 5), .int a, .int c]) (st1 := [.int 95, .int 0, .ref 86]) (h1 := (124, I3, J3, R)) rfl ?_
  refine ev_call (v1 := (some (.int 0))) (h1 := (124, I4, J4, R)) rfl rfl c7 ?_
  refine ev_go 2 (pc1 := 135) (lv1 := [.ref 86, .int (I 88 5), .int a, .int c]) (st1 := [.int 0]) (h1 := (124, I4, J4, R)) rfl ?_
  exact ev_ret rfl rfl
set_option maxRecDepth 20000 in
theorem mw_8 {L : Nat} {xs : Nat → Int32} {d : Nat} {I : Nat → Nat → Int32} {J : Nat → Nat → Int64} {R : Nat → Nat → Nat} {I1 : Nat → Nat → Int32} {J1 : Nat → Nat → Int64} {I2 : Nat → Nat → Int32} {J2 : Nat → Nat → Int64} {I3 : Nat → Nat → Int32} {J3 : Nat → Nat → Int64} {I4 : Nat → Nat → Int32} {J4 : Nat → Nat → Int64} {I5 : Nat → Nat → Int32} {J5 : Nat → Nat → Int64} {a q c : Int32} (hG : aGd R) (b1 : (I 88 5).toInt ≠ 4) (c1 : xEv L xs d 150 0 [.ref 86, xmk, xmk, xmk] [] (124, I, J, R) none (124, I1, J1, R)) (b2 : (I1 86 3).toInt = 1) (c2 : xEv L xs d 158 0 [.ref 86, xmk] [] (124, I1, J1, R) (some (.int a)) (124, I1, J1, R)) (b3 : a.toInt ≠ -1) (c3 : xEv L xs d 164 0 [.ref 86, .int a, xmk, xmk] [] (124, I1, J1, R) (some (.int q)) (124, I1, J1, R)) (n1 : 0 ≤ (7 + a).toInt) (m1 : (7 + a).toInt < 14) (b4 : q.toInt ≠ (I1 90 (7 + a).toNatClampNeg).toInt) (c4 : xEv L xs d 150 0 [.ref 86, xmk, xmk, xmk] [] (124, I1, J1, R) none (124, I2, J2, R)) (b5 : (I2 86 3).toInt = 1) (c5 : xEv L xs d 158 0 [.ref 86, xmk] [] (124, I2, J2, R) (some (.int c)) (124, I2, J2, R)) (b6 : c.toInt ≠ a.toInt) (b7 : c.toInt ≠ -1) (c6 : xEv L xs d 150 0 [.ref 86, xmk, xmk, xmk] [] (124, I2, J2, R) none (124, I3, J3, R)) (c7 : xEv L xs d 159 0 [.ref 86, .int 0, .int 95] [] (124, I3, J3, R) (some (.int 1)) (124, I4, J4, R)) (n2 : 0 ≤ (4 + (I 88 5)).toInt) (m2 : (4 + (I 88 5)).toInt < 8) (c8 : xEv L xs d 159 0 [.ref 86, .int 0, .int 99] [] (124, (uI I4 98 (4 + (I 88 5)).toNatClampNeg (I4 86 11)), J4, R) (some (.int 0)) (124, I5, J5, R)) : xEv L xs (d + 1) 163 0 [.ref 86, xmk, xmk, xmk] [] (124, I, J, R) (some (.int 0)) (124, I5, J5, R) := by
  refine ev_go 1 (pc1 := 1) (lv1 := [.ref 86, xmk, xmk, xmk]) (st1 := [.ref 86]) (h1 := (124, I, J, R)) rfl ?_
  refine ev_gf (c := 86) (t := 88) (X := R 86 12) rfl rfl (fun _ => rfl) rfl (hG 86 12 88 rfl rfl) ?_
  refine ev_go 5 (pc1 := 9) (lv1 := [.ref 86, .int (I 88 5), xmk, xmk]) (st1 := [.int 4, .int (I 88 5)]) (h1 := (124, I, J, R)) rfl ?_
  refine ev_br (b1 := true) rfl rfl (xcd_ne (x := (I 88 5)) (y := 4) (by rw [show ((4 : Int32)).toInt = 4 from by decide]; first | exact b1 | omega)) ?_
  refine ev_go 1 (pc1 := 19) (lv1 := [.ref 86, .int (I 88 5), xmk, xmk]) (st1 := [.ref 86]) (h1 := (124, I, J, R)) rfl ?_
  refine ev_call (v1 := none) (h1 := (124, I1, J1, R)) rfl rfl c1 ?_
  refine ev_go 3 (pc1 := 27) (lv1 := [.ref 86, .int (I 88 5), xmk, xmk]) (st1 := [.int 1, .int (I1 86 3)]) (h1 := (124, I1, J1, R)) rfl ?_
  refine ev_br (b1 := true) rfl rfl (xcd_eq (x := (I1 86 3)) (y := 1) (by rw [show ((1 : Int32)).toInt = 1 from by decide]; first | exact b2 | omega)) ?_
  refine ev_go 1 (pc1 := 37) (lv1 := [.ref 86, .int (I 88 5), xmk, xmk]) (st1 := [.ref 86]) (h1 := (124, I1, J1, R)) rfl ?_
  refine ev_call (v1 := (some (.int a))) (h1 := (124, I1, J1, R)) rfl rfl c2 ?_
  refine ev_go 3 (pc1 := 43) (lv1 := [.ref 86, .int (I 88 5), .int a, xmk]) (st1 := [.int (-1), .int a]) (h1 := (124, I1, J1, R)) rfl ?_
  refine ev_br (b1 := true) rfl rfl (xcd_ne (x := a) (y := (-1)) (by rw [show ((-1 : Int32)).toInt = -1 from by decide]; first | exact b3 | omega)) ?_
  refine ev_go 2 (pc1 := 54) (lv1 := [.ref 86, .int (I 88 5), .int a, xmk]) (st1 := [.int a, .ref 86]) (h1 := (124, I1, J1, R)) rfl ?_
  refine ev_call (v1 := (some (.int q))) (h1 := (124, I1, J1, R)) rfl rfl c3 ?_
  refine ev_go 1 (pc1 := 58) (lv1 := [.ref 86, .int (I 88 5), .int a, xmk]) (st1 := [.ref 86, .int q]) (h1 := (124, I1, J1, R)) rfl ?_
  refine ev_gf (c := 86) (t := 90) (X := R 86 14) rfl rfl (fun _ => rfl) rfl (hG 86 14 90 rfl rfl) ?_
  refine ev_go 3 (pc1 := 65) (lv1 := [.ref 86, .int (I 88 5), .int a, xmk]) (st1 := [.int (7 + a), .ref 90, .int q]) (h1 := (124, I1, J1, R)) rfl ?_
  refine ev_ild (n := 14) rfl rfl (fun _ => rfl) n1 m1 ?_
  refine ev_br (b1 := true) rfl rfl (xcd_ne (x := q) (y := (I1 90 (7 + a).toNatClampNeg)) (by first | exact b4 | omega)) ?_
  refine ev_go 1 (pc1 := 76) (lv1 := [.ref 86, .int (I 88 5), .int a, xmk]) (st1 := [.ref 86]) (h1 := (124, I1, J1, R)) rfl ?_
  refine ev_call (v1 := none) (h1 := (124, I2, J2, R)) rfl rfl c4 ?_
  refine ev_go 3 (pc1 := 84) (lv1 := [.ref 86, .int (I 88 5), .int a, xmk]) (st1 := [.int 1, .int (I2 86 3)]) (h1 := (124, I2, J2, R)) rfl ?_
  refine ev_br (b1 := true) rfl rfl (xcd_eq (x := (I2 86 3)) (y := 1) (by rw [show ((1 : Int32)).toInt = 1 from by decide]; first | exact b5 | omega)) ?_
  refine ev_go 1 (pc1 := 94) (lv1 := [.ref 86, .int (I 88 5), .int a, xmk]) (st1 := [.ref 86]) (h1 := (124, I2, J2, R)) rfl ?_
  refine ev_call (v1 := (some (.int c))) (h1 := (124, I2, J2, R)) rfl rfl c5 ?_
  refine ev_go 3 (pc1 := 100) (lv1 := [.ref 86, .int (I 88 5), .int a, .int c]) (st1 := [.int a, .int c]) (h1 := (124, I2, J2, R)) rfl ?_
  refine ev_br (b1 := true) rfl rfl (xcd_ne (x := c) (y := a) (by first | exact b6 | omega)) ?_
  refine ev_go 2 (pc1 := 111) (lv1 := [.ref 86, .int (I 88 5), .int a, .int c]) (st1 := [.int (-1), .int c]) (h1 := (124, I2, J2, R)) rfl ?_
  refine ev_br (b1 := true) rfl rfl (xcd_ne (x := c) (y := (-1)) (by rw [show ((-1 : Int32)).toInt = -1 from by decide]; first | exact b7 | omega)) ?_
  refine ev_go 1 (pc1 := 121) (lv1 := [.ref 86, .int (I 88 5), .int a, .int c]) (st1 := [.ref 86]) (h1 := (124, I2, J2, R)) rfl ?_
  refine ev_call (v1 := none) (h1 := (124, I3, J3, R)) rfl rfl c6 ?_
  refine ev_go 3 (pc1 := 128) (lv1 := [.ref 86, .int (I 88 5), .int a, .int c]) (st1 := [.int 95, .int 0, .ref 86]) (h1 := (124, I3, J3, R)) rfl ?_
  refine ev_call (v1 := (some (.int 1))) (h1 := (124, I4, J4, R)) rfl rfl c7 ?_
  refine ev_go 2 (pc1 := 137) (lv1 := [.ref 86, .int (I 88 5), .int a, .int c]) (st1 := [.ref 86]) (h1 := (124, I4, J4, R)) rfl ?_
  refine ev_gf (c := 86) (t := 98) (X := R 86 22) rfl rfl (fun _ => rfl) rfl (hG 86 22 98 rfl rfl) ?_
  refine ev_go 5 (pc1 := 147) (lv1 := [.ref 86, .int (I 88 5), .int a, .int c]) (st1 := [.int (I4 86 11), .int (4 + (I 88 5)), .ref 98]) (h1 := (124, I4, J4, R)) rfl ?_
  refine ev_ist (n := 8) rfl rfl (fun _ => rfl) n2 m2 ?_
  refine ev_go 3 (pc1 := 152) (lv1 := [.ref 86, .int (I 88 5), .int a, .int c]) (st1 := [.int 99, .int 0, .ref 86]) (h1 := (124, (uI I4 98 (4 + (I 88 5)).toNatClampNeg (I4 86 11)), J4, R)) rfl ?_
  refine ev_call (v1 := (some (.int 0))) (h1 := (124, I5, J5, R)) rfl rfl c8 ?_
  refine ev_go 2 (pc1 := 159) (lv1 := [.ref 86, .int (I 88 5), .int a, .int c]) (st1 := [.int 0]) (h1 := (124, I5, J5, R)) rfl ?_
  exact ev_ret rfl rfl
set_option maxRecDepth 20000 in
theorem mw_9 {L : Nat} {xs : Nat → Int32} {d : Nat} {I : Nat → Nat → Int32} {J : Nat → Nat → Int64} {R : Nat → Nat → Nat} {I1 : Nat → Nat → Int32} {J1 : Nat → Nat → Int64} {I2 : Nat → Nat → Int32} {J2 : Nat → Nat → Int64} {I3 : Nat → Nat → Int32} {J3 : Nat → Nat → Int64} {I4 : Nat → Nat → Int32} {J4 : Nat → Nat → Int64} {I5 : Nat → Nat → Int32} {J5 : Nat → Nat → Int64} {a q c : Int32} (hG : aGd R) (b1 : (I 88 5).toInt ≠ 4) (c1 : xEv L xs d 150 0 [.ref 86, xmk, xmk, xmk] [] (124, I, J, R) none (124, I1, J1, R)) (b2 : (I1 86 3).toInt = 1) (c2 : xEv L xs d 158 0 [.ref 86, xmk] [] (124, I1, J1, R) (some (.int a)) (124, I1, J1, R)) (b3 : a.toInt ≠ -1) (c3 : xEv L xs d 164 0 [.ref 86, .int a, xmk, xmk] [] (124, I1, J1, R) (some (.int q)) (124, I1, J1, R)) (n1 : 0 ≤ (7 + a).toInt) (m1 : (7 + a).toInt < 14) (b4 : q.toInt ≠ (I1 90 (7 + a).toNatClampNeg).toInt) (c4 : xEv L xs d 150 0 [.ref 86, xmk, xmk, xmk] [] (124, I1, J1, R) none (124, I2, J2, R)) (b5 : (I2 86 3).toInt = 1) (c5 : xEv L xs d 158 0 [.ref 86, xmk] [] (124, I2, J2, R) (some (.int c)) (124, I2, J2, R)) (b6 : c.toInt ≠ a.toInt) (b7 : c.toInt ≠ -1) (c6 : xEv L xs d 150 0 [.ref 86, xmk, xmk, xmk] [] (124, I2, J2, R) none (124, I3, J3, R)) (c7 : xEv L xs d 159 0 [.ref 86, .int 0, .int 95] [] (124, I3, J3, R) (some (.int 1)) (124, I4, J4, R)) (n2 : 0 ≤ (4 + (I 88 5)).toInt) (m2 : (4 + (I 88 5)).toInt < 8) (c8 : xEv L xs d 159 0 [.ref 86, .int 0, .int 99] [] (124, (uI I4 98 (4 + (I 88 5)).toNatClampNeg (I4 86 11)), J4, R) (some (.int 1)) (124, I5, J5, R)) (n3 : 0 ≤ (4 + (I 88 5)).toInt) (m3 : (4 + (I 88 5)).toInt < 8) (n4 : 0 ≤ (4 + (I 88 5)).toInt) (m4 : (4 + (I 88 5)).toInt < 8) (n5 : 0 ≤ (4 + (I 88 5)).toInt) (m5 : (4 + (I 88 5)).toInt < 8) (n6 : 0 ≤ (4 + (I 88 5)).toInt) (m6 : (4 + (I 88 5)).toInt < 8) : xEv L xs (d + 1) 163 0 [.ref 86, xmk, xmk, xmk] [] (124, I, J, R) (some (.int 1)) (124, (uI (uI (uI (uI (uI I5 99 (4 + (I 88 5)).toNatClampNeg (I5 86 11)) 96 (4 + (I 88 5)).toNatClampNeg a) 97 (4 + (I 88 5)).toNatClampNeg c) 100 (4 + (I 88 5)).toNatClampNeg 0) 88 5 ((I5 88 5) + 1)), J5, R) := by
  refine ev_go 1 (pc1 := 1) (lv1 := [.ref 86, xmk, xmk, xmk]) (st1 := [.ref 86]) (h1 := (124, I, J, R)) rfl ?_
  refine ev_gf (c := 86) (t := 88) (X := R 86 12) rfl rfl (fun _ => rfl) rfl (hG 86 12 88 rfl rfl) ?_
  refine ev_go 5 (pc1 := 9) (lv1 := [.ref 86, .int (I 88 5), xmk, xmk]) (st1 := [.int 4, .int (I 88 5)]) (h1 := (124, I, J, R)) rfl ?_
  refine ev_br (b1 := true) rfl rfl (xcd_ne (x := (I 88 5)) (y := 4) (by rw [show ((4 : Int32)).toInt = 4 from by decide]; first | exact b1 | omega)) ?_
  refine ev_go 1 (pc1 := 19) (lv1 := [.ref 86, .int (I 88 5), xmk, xmk]) (st1 := [.ref 86]) (h1 := (124, I, J, R)) rfl ?_
  refine ev_call (v1 := none) (h1 := (124, I1, J1, R)) rfl rfl c1 ?_
  refine ev_go 3 (pc1 := 27) (lv1 := [.ref 86, .int (I 88 5), xmk, xmk]) (st1 := [.int 1, .int (I1 86 3)]) (h1 := (124, I1, J1, R)) rfl ?_
  refine ev_br (b1 := true) rfl rfl (xcd_eq (x := (I1 86 3)) (y := 1) (by rw [show ((1 : Int32)).toInt = 1 from by decide]; first | exact b2 | omega)) ?_
  refine ev_go 1 (pc1 := 37) (lv1 := [.ref 86, .int (I 88 5), xmk, xmk]) (st1 := [.ref 86]) (h1 := (124, I1, J1, R)) rfl ?_
  refine ev_call (v1 := (some (.int a))) (h1 := (124, I1, J1, R)) rfl rfl c2 ?_
  refine ev_go 3 (pc1 := 43) (lv1 := [.ref 86, .int (I 88 5), .int a, xmk]) (st1 := [.int (-1), .int a]) (h1 := (124, I1, J1, R)) rfl ?_
  refine ev_br (b1 := true) rfl rfl (xcd_ne (x := a) (y := (-1)) (by rw [show ((-1 : Int32)).toInt = -1 from by decide]; first | exact b3 | omega)) ?_
  refine ev_go 2 (pc1 := 54) (lv1 := [.ref 86, .int (I 88 5), .int a, xmk]) (st1 := [.int a, .ref 86]) (h1 := (124, I1, J1, R)) rfl ?_
  refine ev_call (v1 := (some (.int q))) (h1 := (124, I1, J1, R)) rfl rfl c3 ?_
  refine ev_go 1 (pc1 := 58) (lv1 := [.ref 86, .int (I 88 5), .int a, xmk]) (st1 := [.ref 86, .int q]) (h1 := (124, I1, J1, R)) rfl ?_
  refine ev_gf (c := 86) (t := 90) (X := R 86 14) rfl rfl (fun _ => rfl) rfl (hG 86 14 90 rfl rfl) ?_
  refine ev_go 3 (pc1 := 65) (lv1 := [.ref 86, .int (I 88 5), .int a, xmk]) (st1 := [.int (7 + a), .ref 90, .int q]) (h1 := (124, I1, J1, R)) rfl ?_
  refine ev_ild (n := 14) rfl rfl (fun _ => rfl) n1 m1 ?_
  refine ev_br (b1 := true) rfl rfl (xcd_ne (x := q) (y := (I1 90 (7 + a).toNatClampNeg)) (by first | exact b4 | omega)) ?_
  refine ev_go 1 (pc1 := 76) (lv1 := [.ref 86, .int (I 88 5), .int a, xmk]) (st1 := [.ref 86]) (h1 := (124, I1, J1, R)) rfl ?_
  refine ev_call (v1 := none) (h1 := (124, I2, J2, R)) rfl rfl c4 ?_
  refine ev_go 3 (pc1 := 84) (lv1 := [.ref 86, .int (I 88 5), .int a, xmk]) (st1 := [.int 1, .int (I2 86 3)]) (h1 := (124, I2, J2, R)) rfl ?_
  refine ev_br (b1 := true) rfl rfl (xcd_eq (x := (I2 86 3)) (y := 1) (by rw [show ((1 : Int32)).toInt = 1 from by decide]; first | exact b5 | omega)) ?_
  refine ev_go 1 (pc1 := 94) (lv1 := [.ref 86, .int (I 88 5), .int a, xmk]) (st1 := [.ref 86]) (h1 := (124, I2, J2, R)) rfl ?_
  refine ev_call (v1 := (some (.int c))) (h1 := (124, I2, J2, R)) rfl rfl c5 ?_
  refine ev_go 3 (pc1 := 100) (lv1 := [.ref 86, .int (I 88 5), .int a, .int c]) (st1 := [.int a, .int c]) (h1 := (124, I2, J2, R)) rfl ?_
  refine ev_br (b1 := true) rfl rfl (xcd_ne (x := c) (y := a) (by first | exact b6 | omega)) ?_
  refine ev_go 2 (pc1 := 111) (lv1 := [.ref 86, .int (I 88 5), .int a, .int c]) (st1 := [.int (-1), .int c]) (h1 := (124, I2, J2, R)) rfl ?_
  refine ev_br (b1 := true) rfl rfl (xcd_ne (x := c) (y := (-1)) (by rw [show ((-1 : Int32)).toInt = -1 from by decide]; first | exact b7 | omega)) ?_
  refine ev_go 1 (pc1 := 121) (lv1 := [.ref 86, .int (I 88 5), .int a, .int c]) (st1 := [.ref 86]) (h1 := (124, I2, J2, R)) rfl ?_
  refine ev_call (v1 := none) (h1 := (124, I3, J3, R)) rfl rfl c6 ?_
  refine ev_go 3 (pc1 := 128) (lv1 := [.ref 86, .int (I 88 5), .int a, .int c]) (st1 := [.int 95, .int 0, .ref 86]) (h1 := (124, I3, J3, R)) rfl ?_
  refine ev_call (v1 := (some (.int 1))) (h1 := (124, I4, J4, R)) rfl rfl c7 ?_
  refine ev_go 2 (pc1 := 137) (lv1 := [.ref 86, .int (I 88 5), .int a, .int c]) (st1 := [.ref 86]) (h1 := (124, I4, J4, R)) rfl ?_
  refine ev_gf (c := 86) (t := 98) (X := R 86 22) rfl rfl (fun _ => rfl) rfl (hG 86 22 98 rfl rfl) ?_
  refine ev_go 5 (pc1 := 147) (lv1 := [.ref 86, .int (I 88 5), .int a, .int c]) (st1 := [.int (I4 86 11), .int (4 + (I 88 5)), .ref 98]) (h1 := (124, I4, J4, R)) rfl ?_
  refine ev_ist (n := 8) rfl rfl (fun _ => rfl) n2 m2 ?_
  refine ev_go 3 (pc1 := 152) (lv1 := [.ref 86, .int (I 88 5), .int a, .int c]) (st1 := [.int 99, .int 0, .ref 86]) (h1 := (124, (uI I4 98 (4 + (I 88 5)).toNatClampNeg (I4 86 11)), J4, R)) rfl ?_
  refine ev_call (v1 := (some (.int 1))) (h1 := (124, I5, J5, R)) rfl rfl c8 ?_
  refine ev_go 2 (pc1 := 161) (lv1 := [.ref 86, .int (I 88 5), .int a, .int c]) (st1 := [.ref 86]) (h1 := (124, I5, J5, R)) rfl ?_
  refine ev_gf (c := 86) (t := 99) (X := R 86 23) rfl rfl (fun _ => rfl) rfl (hG 86 23 99 rfl rfl) ?_
  refine ev_go 5 (pc1 := 171) (lv1 := [.ref 86, .int (I 88 5), .int a, .int c]) (st1 := [.int (I5 86 11), .int (4 + (I 88 5)), .ref 99]) (h1 := (124, I5, J5, R)) rfl ?_
  refine ev_ist (n := 8) rfl rfl (fun _ => rfl) n3 m3 ?_
  refine ev_go 1 (pc1 := 173) (lv1 := [.ref 86, .int (I 88 5), .int a, .int c]) (st1 := [.ref 86]) (h1 := (124, (uI I5 99 (4 + (I 88 5)).toNatClampNeg (I5 86 11)), J5, R)) rfl ?_
  refine ev_gf (c := 86) (t := 96) (X := R 86 20) rfl rfl (fun _ => rfl) rfl (hG 86 20 96 rfl rfl) ?_
  refine ev_go 4 (pc1 := 180) (lv1 := [.ref 86, .int (I 88 5), .int a, .int c]) (st1 := [.int a, .int (4 + (I 88 5)), .ref 96]) (h1 := (124, (uI I5 99 (4 + (I 88 5)).toNatClampNeg (I5 86 11)), J5, R)) rfl ?_
  refine ev_ist (n := 8) rfl rfl (fun _ => rfl) n4 m4 ?_
  refine ev_go 1 (pc1 := 182) (lv1 := [.ref 86, .int (I 88 5), .int a, .int c]) (st1 := [.ref 86]) (h1 := (124, (uI (uI I5 99 (4 + (I 88 5)).toNatClampNeg (I5 86 11)) 96 (4 + (I 88 5)).toNatClampNeg a), J5, R)) rfl ?_
  refine ev_gf (c := 86) (t := 97) (X := R 86 21) rfl rfl (fun _ => rfl) rfl (hG 86 21 97 rfl rfl) ?_
  refine ev_go 4 (pc1 := 189) (lv1 := [.ref 86, .int (I 88 5), .int a, .int c]) (st1 := [.int c, .int (4 + (I 88 5)), .ref 97]) (h1 := (124, (uI (uI I5 99 (4 + (I 88 5)).toNatClampNeg (I5 86 11)) 96 (4 + (I 88 5)).toNatClampNeg a), J5, R)) rfl ?_
  refine ev_ist (n := 8) rfl rfl (fun _ => rfl) n5 m5 ?_
  refine ev_go 1 (pc1 := 191) (lv1 := [.ref 86, .int (I 88 5), .int a, .int c]) (st1 := [.ref 86]) (h1 := (124, (uI (uI (uI I5 99 (4 + (I 88 5)).toNatClampNeg (I5 86 11)) 96 (4 + (I 88 5)).toNatClampNeg a) 97 (4 + (I 88 5)).toNatClampNeg c), J5, R)) rfl ?_
  refine ev_gf (c := 86) (t := 100) (X := R 86 24) rfl rfl (fun _ => rfl) rfl (hG 86 24 100 rfl rfl) ?_
  refine ev_go 4 (pc1 := 198) (lv1 := [.ref 86, .int (I 88 5), .int a, .int c]) (st1 := [.int 0, .int (4 + (I 88 5)), .ref 100]) (h1 := (124, (uI (uI (uI I5 99 (4 + (I 88 5)).toNatClampNeg (I5 86 11)) 96 (4 + (I 88 5)).toNatClampNeg a) 97 (4 + (I 88 5)).toNatClampNeg c), J5, R)) rfl ?_
  refine ev_ist (n := 8) rfl rfl (fun _ => rfl) n6 m6 ?_
  refine ev_go 1 (pc1 := 200) (lv1 := [.ref 86, .int (I 88 5), .int a, .int c]) (st1 := [.ref 86]) (h1 := (124, (uI (uI (uI (uI I5 99 (4 + (I 88 5)).toNatClampNeg (I5 86 11)) 96 (4 + (I 88 5)).toNatClampNeg a) 97 (4 + (I 88 5)).toNatClampNeg c) 100 (4 + (I 88 5)).toNatClampNeg 0), J5, R)) rfl ?_
  refine ev_gf (c := 86) (t := 88) (X := R 86 12) rfl rfl (fun _ => rfl) rfl (hG 86 12 88 rfl rfl) ?_
  refine ev_go 7 (pc1 := 210) (lv1 := [.ref 86, .int (I 88 5), .int a, .int c]) (st1 := [.int 1]) (h1 := (124, (uI (uI (uI (uI (uI I5 99 (4 + (I 88 5)).toNatClampNeg (I5 86 11)) 96 (4 + (I 88 5)).toNatClampNeg a) 97 (4 + (I 88 5)).toNatClampNeg c) 100 (4 + (I 88 5)).toNatClampNeg 0) 88 5 ((I5 88 5) + 1)), J5, R)) rfl ?_
  exact ev_ret rfl rfl
theorem cIn_le {f : Nat → Int} {z : Int} : ∀ m, cIn f z m ≤ m
  | 0 => Nat.le_refl _
  | m + 1 => by
    have := cIn_le (f := f) (z := z) m
    show cIn f z m + (if f m = z then 1 else 0) ≤ m + 1
    split <;> omega
section NO
variable {L : Nat} {xs : Nat → Int32} {d : Nat} {R : Nat → Nat → Nat} {I : Nat → Nat → Int32} {J : Nat → Nat → Int64}
theorem no_l (hG : aGd R) {m : Nat} (hm : (I 88 5).toInt = m) (hm4 : m ≤ 4) (a : Int32) : ∀ (w : Nat) (q f : Int32) (Q : Nat), m - Q = w → q.toInt = Q → Q ≤ m → f.toInt = cIn (fun i => (I 96 (4 + i)).toInt) a.toInt Q → ∃ z : Int32, xEv L xs d 164 4 [.ref 86, .int a, .int f, .int q] [] (124, I, J, R) (some (.int z)) (124, I, J, R) ∧ z.toInt = cIn (fun i => (I 96 (4 + i)).toInt) a.toInt m := by
  intro w
  induction w with
  | zero =>
    intro q f Q hw hq hQ hf
    have e : Q = m := by omega
    subst e
    exact ⟨f, no_1 hG (by omega), hf⟩
  | succ w ih =>
    intro q f Q hw hq hQ hf
    have ei := i_add1 (x := q) (by omega)
    have e4 : (4 + q).toInt = ((4 + Q : Nat) : Int) := by
      rw [i_add (by rw [show (4 : Int32).toInt = 4 from by decide]; omega) (by rw [show (4 : Int32).toInt = 4 from by decide]; omega), show (4 : Int32).toInt = 4 from by decide]
      omega
    have ec := clamp_s (i := 4 + q) (by omega)
    have ek : (4 + q).toNatClampNeg = 4 + Q := by omega
    have hl := cIn_le (f := fun i => (I 96 (4 + i)).toInt) (z := a.toInt) Q
    have hs : cIn (fun i => (I 96 (4 + i)).toInt) a.toInt (Q + 1) = cIn (fun i => (I 96 (4 + i)).toInt) a.toInt Q + (if (I 96 (4 + Q)).toInt = a.toInt then 1 else 0) := rfl
    by_cases g : (I 96 (4 + Q)).toInt = a.toInt
    · rw [if_pos g] at hs
      have ef := i_add1 (x := f) (by omega)
      obtain ⟨z, z1, z2⟩ := ih (q + 1) (f + 1) (Q + 1) (by omega) (by omega) (by omega) (by rw [hs]; omega)
      exact ⟨z, no_2 hG (by omega) (by omega) (by omega) (by rw [ek]; exact g) z1, z2⟩
    · rw [if_neg g] at hs
      obtain ⟨z, z1, z2⟩ := ih (q + 1) (f + 0) (Q + 1) (by omega) (by omega) (by omega) (by
        have e0 : (f + 0).toInt = f.toInt := by rw [i_add (by rw [show (0 : Int32).toInt = 0 from by decide]; have := aw f; omega) (by rw [show (0 : Int32).toInt = 0 from by decide]; have := aw f; omega), show (0 : Int32).toInt = 0 from by decide]; omega
        rw [hs, e0]
        omega)
      exact ⟨z, no_3 hG (by omega) (by omega) (by omega) (by rw [ek]; exact g) z1, z2⟩
theorem no_run (hG : aGd R) {m : Nat} (hm : (I 88 5).toInt = m) (hm4 : m ≤ 4) (a : Int32) : ∃ z : Int32, xEv L xs d 164 0 [.ref 86, .int a, xmk, xmk] [] (124, I, J, R) (some (.int z)) (124, I, J, R) ∧ z.toInt = cIn (fun i => (I 96 (4 + i)).toInt) a.toInt m := by
  obtain ⟨z, z1, z2⟩ := no_l (L := L) (xs := xs) (d := d) (J := J) hG hm hm4 a _ 0 0 0 rfl rfl (Nat.zero_le _) rfl
  exact ⟨z, no_0 hG z1, z2⟩
end NO
section NF3
variable {L : Nat} {xs : Nat → Int32} {d : Nat} {R : Nat → Nat → Nat} {I : Nat → Nat → Int32} {J : Nat → Nat → Int64}
theorem nf_l_3 (hG : aGd R) {m : Nat} (hm : (I 3 16).toInt = m) (hm4 : m ≤ 4) (a : Int32) : ∀ (w : Nat) (q f : Int32) (Q : Nat), m - Q = w → q.toInt = Q → Q ≤ m → f.toInt = cIn (fun i => (I 11 i).toInt) a.toInt Q → ∃ z : Int32, xEv L xs (d + 1) 38 4 [.ref 3, .int a, .int f, .int q] [] (124, I, J, R) (some (.int z)) (124, I, J, R) ∧ z.toInt = cIn (fun i => (I 11 i).toInt) a.toInt m := by
  intro w
  induction w with
  | zero =>
    intro q f Q hw hq hQ hf
    have e : Q = m := by omega
    subst e
    exact ⟨f, nf_1_3 hG (by omega), hf⟩
  | succ w ih =>
    intro q f Q hw hq hQ hf
    have ei := i_add1 (x := q) (by omega)
    have ec := clamp_s (i := q) (by omega)
    have ek : q.toNatClampNeg = Q := by omega
    have hl := cIn_le (f := fun i => (I 11 i).toInt) (z := a.toInt) Q
    have hs : cIn (fun i => (I 11 i).toInt) a.toInt (Q + 1) = cIn (fun i => (I 11 i).toInt) a.toInt Q + (if (I 11 Q).toInt = a.toInt then 1 else 0) := rfl
    have ca := at_run (L := L) (xs := xs) (d := d) (h := (124, I, J, R)) (c := 11) (n := 4) (fun _ => rfl) (by decide) q
    rw [if_pos ⟨by omega, by omega⟩, ek] at ca
    have ca' : xEv L xs d 39 0 [.ref 11, .int q] [] (124, I, J, R) (some (.int (I 11 Q))) (124, I, J, R) := ca
    by_cases g : (I 11 Q).toInt = a.toInt
    · rw [if_pos g] at hs
      have ef := i_add1 (x := f) (by omega)
      obtain ⟨z, z1, z2⟩ := ih (q + 1) (f + 1) (Q + 1) (by omega) (by omega) (by omega) (by rw [hs]; omega)
      exact ⟨z, nf_2_3 hG (by omega) ca' g z1, z2⟩
    · rw [if_neg g] at hs
      obtain ⟨z, z1, z2⟩ := ih (q + 1) f (Q + 1) (by omega) (by omega) (by omega) (by rw [hs]; omega)
      exact ⟨z, nf_3_3 hG (by omega) ca' g z1, z2⟩
theorem nf_run_3 (hG : aGd R) {m : Nat} (hm : (I 3 16).toInt = m) (hm4 : m ≤ 4) (a : Int32) : ∃ z : Int32, xEv L xs (d + 1) 38 0 [.ref 3, .int a, xmk, xmk] [] (124, I, J, R) (some (.int z)) (124, I, J, R) ∧ z.toInt = cIn (fun i => (I 11 i).toInt) a.toInt m := by
  obtain ⟨z, z1, z2⟩ := nf_l_3 (L := L) (xs := xs) (d := d) (J := J) hG hm hm4 a _ 0 0 0 rfl rfl (Nat.zero_le _) rfl
  exact ⟨z, ev_go 4 (pc1 := 4) (lv1 := [.ref 3, .int a, .int 0, .int 0]) (st1 := []) (h1 := (124, I, J, R)) rfl z1, z2⟩
end NF3
section NF23
variable {L : Nat} {xs : Nat → Int32} {d : Nat} {R : Nat → Nat → Nat} {I : Nat → Nat → Int32} {J : Nat → Nat → Int64}
theorem nf_l_23 (hG : aGd R) {m : Nat} (hm : (I 23 16).toInt = m) (hm4 : m ≤ 4) (a : Int32) : ∀ (w : Nat) (q f : Int32) (Q : Nat), m - Q = w → q.toInt = Q → Q ≤ m → f.toInt = cIn (fun i => (I 31 i).toInt) a.toInt Q → ∃ z : Int32, xEv L xs (d + 1) 38 4 [.ref 23, .int a, .int f, .int q] [] (124, I, J, R) (some (.int z)) (124, I, J, R) ∧ z.toInt = cIn (fun i => (I 31 i).toInt) a.toInt m := by
  intro w
  induction w with
  | zero =>
    intro q f Q hw hq hQ hf
    have e : Q = m := by omega
    subst e
    exact ⟨f, nf_1_23 hG (by omega), hf⟩
  | succ w ih =>
    intro q f Q hw hq hQ hf
    have ei := i_add1 (x := q) (by omega)
    have ec := clamp_s (i := q) (by omega)
    have ek : q.toNatClampNeg = Q := by omega
    have hl := cIn_le (f := fun i => (I 31 i).toInt) (z := a.toInt) Q
    have hs : cIn (fun i => (I 31 i).toInt) a.toInt (Q + 1) = cIn (fun i => (I 31 i).toInt) a.toInt Q + (if (I 31 Q).toInt = a.toInt then 1 else 0) := rfl
    have ca := at_run (L := L) (xs := xs) (d := d) (h := (124, I, J, R)) (c := 31) (n := 4) (fun _ => rfl) (by decide) q
    rw [if_pos ⟨by omega, by omega⟩, ek] at ca
    have ca' : xEv L xs d 39 0 [.ref 31, .int q] [] (124, I, J, R) (some (.int (I 31 Q))) (124, I, J, R) := ca
    by_cases g : (I 31 Q).toInt = a.toInt
    · rw [if_pos g] at hs
      have ef := i_add1 (x := f) (by omega)
      obtain ⟨z, z1, z2⟩ := ih (q + 1) (f + 1) (Q + 1) (by omega) (by omega) (by omega) (by rw [hs]; omega)
      exact ⟨z, nf_2_23 hG (by omega) ca' g z1, z2⟩
    · rw [if_neg g] at hs
      obtain ⟨z, z1, z2⟩ := ih (q + 1) f (Q + 1) (by omega) (by omega) (by omega) (by rw [hs]; omega)
      exact ⟨z, nf_3_23 hG (by omega) ca' g z1, z2⟩
theorem nf_run_23 (hG : aGd R) {m : Nat} (hm : (I 23 16).toInt = m) (hm4 : m ≤ 4) (a : Int32) : ∃ z : Int32, xEv L xs (d + 1) 38 0 [.ref 23, .int a, xmk, xmk] [] (124, I, J, R) (some (.int z)) (124, I, J, R) ∧ z.toInt = cIn (fun i => (I 31 i).toInt) a.toInt m := by
  obtain ⟨z, z1, z2⟩ := nf_l_23 (L := L) (xs := xs) (d := d) (J := J) hG hm hm4 a _ 0 0 0 rfl rfl (Nat.zero_le _) rfl
  exact ⟨z, ev_go 4 (pc1 := 4) (lv1 := [.ref 23, .int a, .int 0, .int 0]) (st1 := []) (h1 := (124, I, J, R)) rfl z1, z2⟩
end NF23
