set_option maxRecDepth 20000 in
theorem lt_a_3 {L : Nat} {xs : Nat → Int32} {d : Nat} {I : Nat → Nat → Int32} {J : Nat → Nat → Int64} {R : Nat → Nat → Nat} {u : Int32} {w : Value} (hG : aGd R) (b1 : u.toInt > 95) {v : Option Value} {h' : xH} (hk : xEv L xs d 43 80 [.ref 3, .int 0, w] [] (124, I, J, R) v h') : xEv L xs d 43 2 [.ref 3, .int u, w] [] (124, I, J, R) v h' := by
  refine ev_go 2 (pc1 := 5) (lv1 := [.ref 3, .int u, w]) (st1 := [.int 95, .int u]) (h1 := (124, I, J, R)) rfl ?_
  refine ev_br (b1 := true) rfl rfl (xcd_gt (x := u) (y := 95) (by rw [show ((95 : Int32)).toInt = 95 from by decide]; first | exact b1 | omega)) ?_
  refine ev_go 2 (pc1 := 80) (lv1 := [.ref 3, .int 0, w]) (st1 := []) (h1 := (124, I, J, R)) rfl ?_
  exact hk
set_option maxRecDepth 20000 in
theorem lt_b_3 {L : Nat} {xs : Nat → Int32} {d : Nat} {I : Nat → Nat → Int32} {J : Nat → Nat → Int64} {R : Nat → Nat → Nat} {u : Int32} {w : Value} (hG : aGd R) (b1 : u.toInt ≤ 95) {v : Option Value} {h' : xH} (hk : xEv L xs d 43 10 [.ref 3, .int u, .int 0] [] (124, I, J, R) v h') : xEv L xs d 43 2 [.ref 3, .int u, w] [] (124, I, J, R) v h' := by
  refine ev_go 2 (pc1 := 5) (lv1 := [.ref 3, .int u, w]) (st1 := [.int 95, .int u]) (h1 := (124, I, J, R)) rfl ?_
  refine ev_br (b1 := false) rfl rfl (xcd_ngt (x := u) (y := 95) (by rw [show ((95 : Int32)).toInt = 95 from by decide]; first | exact b1 | omega)) ?_
  refine ev_go 2 (pc1 := 10) (lv1 := [.ref 3, .int u, .int 0]) (st1 := []) (h1 := (124, I, J, R)) rfl ?_
  exact hk
set_option maxRecDepth 20000 in
theorem lt_c_3 {L : Nat} {xs : Nat → Int32} {d : Nat} {I : Nat → Nat → Int32} {J : Nat → Nat → Int64} {R : Nat → Nat → Nat} {u m : Int32} (hG : aGd R) (b1 : m.toInt ≥ (I 3 15).toInt) {v : Option Value} {h' : xH} (hk : xEv L xs d 43 2 [.ref 3, .int (u + 1), .int m] [] (124, I, J, R) v h') : xEv L xs d 43 10 [.ref 3, .int u, .int m] [] (124, I, J, R) v h' := by
  refine ev_go 3 (pc1 := 15) (lv1 := [.ref 3, .int u, .int m]) (st1 := [.int (I 3 15), .int m]) (h1 := (124, I, J, R)) rfl ?_
  refine ev_br (b1 := true) rfl rfl (xcd_ge (x := m) (y := (I 3 15)) (by first | exact b1 | omega)) ?_
  refine ev_go 2 (pc1 := 2) (lv1 := [.ref 3, .int (u + 1), .int m]) (st1 := []) (h1 := (124, I, J, R)) rfl ?_
  exact hk
set_option maxRecDepth 20000 in
theorem lt_d_3 {L : Nat} {xs : Nat → Int32} {d : Nat} {I : Nat → Nat → Int32} {J : Nat → Nat → Int64} {R : Nat → Nat → Nat} {u m x : Int32} (hG : aGd R) (b1 : m.toInt < (I 3 15).toInt) (c1 : xEv L xs d 39 0 [.ref 9, .int m] [] (124, I, J, R) (some (.int x)) (124, I, J, R)) (b2 : x.toInt ≠ (u - u / 24 * 24).toInt) {v : Option Value} {h' : xH} (hk : xEv L xs (d + 1) 43 10 [.ref 3, .int u, .int (m + 1)] [] (124, I, J, R) v h') : xEv L xs (d + 1) 43 10 [.ref 3, .int u, .int m] [] (124, I, J, R) v h' := by
  refine ev_go 3 (pc1 := 15) (lv1 := [.ref 3, .int u, .int m]) (st1 := [.int (I 3 15), .int m]) (h1 := (124, I, J, R)) rfl ?_
  refine ev_br (b1 := false) rfl rfl (xcd_nge (x := m) (y := (I 3 15)) (by first | exact b1 | omega)) ?_
  refine ev_go 1 (pc1 := 19) (lv1 := [.ref 3, .int u, .int m]) (st1 := [.ref 3]) (h1 := (124, I, J, R)) rfl ?_
  refine ev_gf (c := 3) (t := 9) (X := R 3 5) rfl rfl (fun _ => rfl) rfl (hG 3 5 9 rfl rfl) ?_
  refine ev_go 1 (pc1 := 23) (lv1 := [.ref 3, .int u, .int m]) (st1 := [.int m, .ref 9]) (h1 := (124, I, J, R)) rfl ?_
  refine ev_call (v1 := (some (.int x))) (h1 := (124, I, J, R)) rfl rfl c1 ?_
  refine ev_go 2 (pc1 := 29) (lv1 := [.ref 3, .int u, .int m]) (st1 := [.int 24, .int u, .int x]) (h1 := (124, I, J, R)) rfl ?_
  refine ev_go 1 (pc1 := 30) (lv1 := [.ref 3, .int u, .int m]) (st1 := [.int (u - u / 24 * 24), .int x]) (h1 := (124, I, J, R)) rfl ?_
  refine ev_br (b1 := true) rfl rfl (xcd_ne (x := x) (y := (u - u / 24 * 24)) (by first | exact b2 | omega)) ?_
  refine ev_go 2 (pc1 := 10) (lv1 := [.ref 3, .int u, .int (m + 1)]) (st1 := []) (h1 := (124, I, J, R)) rfl ?_
  exact hk
set_option maxRecDepth 20000 in
theorem lt_e_3 {L : Nat} {xs : Nat → Int32} {d : Nat} {I : Nat → Nat → Int32} {J : Nat → Nat → Int64} {R : Nat → Nat → Nat} {I1 : Nat → Nat → Int32} {u m x a1 a2 a3 : Int32} (hG : aGd R) (b1 : m.toInt < (I 3 15).toInt) (c1 : xEv L xs d 39 0 [.ref 9, .int m] [] (124, I, J, R) (some (.int x)) (124, I, J, R)) (b2 : x.toInt = (u - u / 24 * 24).toInt) (c2 : xEv L xs d 39 0 [.ref 7, .int m] [] (124, I, J, R) (some (.int a1)) (124, I, J, R)) (c3 : xEv L xs d 39 0 [.ref 8, .int m] [] (124, I, J, R) (some (.int a2)) (124, I, J, R)) (c4 : xEv L xs d 39 0 [.ref 10, .int m] [] (124, I, J, R) (some (.int a3)) (124, I, J, R)) (c5 : xEv L xs d 44 0 [.ref 17, .int u, .int m, .int a1, .int a2, .int a3] [] (124, I, J, R) none (124, I1, J, R)) {v : Option Value} {h' : xH} (hk : xEv L xs (d + 1) 43 10 [.ref 3, .int u, .int (m + 1)] [] (124, I1, J, R) v h') : xEv L xs (d + 1) 43 10 [.ref 3, .int u, .int m] [] (124, I, J, R) v h' := by
  refine ev_go 3 (pc1 := 15) (lv1 := [.ref 3, .int u, .int m]) (st1 := [.int (I 3 15), .int m]) (h1 := (124, I, J, R)) rfl ?_
  refine ev_br (b1 := false) rfl rfl (xcd_nge (x := m) (y := (I 3 15)) (by first | exact b1 | omega)) ?_
  refine ev_go 1 (pc1 := 19) (lv1 := [.ref 3, .int u, .int m]) (st1 := [.ref 3]) (h1 := (124, I, J, R)) rfl ?_
  refine ev_gf (c := 3) (t := 9) (X := R 3 5) rfl rfl (fun _ => rfl) rfl (hG 3 5 9 rfl rfl) ?_
  refine ev_go 1 (pc1 := 23) (lv1 := [.ref 3, .int u, .int m]) (st1 := [.int m, .ref 9]) (h1 := (124, I, J, R)) rfl ?_
  refine ev_call (v1 := (some (.int x))) (h1 := (124, I, J, R)) rfl rfl c1 ?_
  refine ev_go 2 (pc1 := 29) (lv1 := [.ref 3, .int u, .int m]) (st1 := [.int 24, .int u, .int x]) (h1 := (124, I, J, R)) rfl ?_
  refine ev_go 1 (pc1 := 30) (lv1 := [.ref 3, .int u, .int m]) (st1 := [.int (u - u / 24 * 24), .int x]) (h1 := (124, I, J, R)) rfl ?_
  refine ev_br (b1 := false) rfl rfl (xcd_nne (x := x) (y := (u - u / 24 * 24)) (by first | exact b2 | omega)) ?_
  refine ev_go 1 (pc1 := 34) (lv1 := [.ref 3, .int u, .int m]) (st1 := [.ref 3]) (h1 := (124, I, J, R)) rfl ?_
  refine ev_gf (c := 3) (t := 17) (X := R 3 13) rfl rfl (fun _ => rfl) rfl (hG 3 13 17 rfl rfl) ?_
  refine ev_go 3 (pc1 := 40) (lv1 := [.ref 3, .int u, .int m]) (st1 := [.ref 3, .int m, .int u, .ref 17]) (h1 := (124, I, J, R)) rfl ?_
  refine ev_gf (c := 3) (t := 7) (X := R 3 3) rfl rfl (fun _ => rfl) rfl (hG 3 3 7 rfl rfl) ?_
  refine ev_go 1 (pc1 := 44) (lv1 := [.ref 3, .int u, .int m]) (st1 := [.int m, .ref 7, .int m, .int u, .ref 17]) (h1 := (124, I, J, R)) rfl ?_
  refine ev_call (v1 := (some (.int a1))) (h1 := (124, I, J, R)) rfl rfl c2 ?_
  refine ev_go 1 (pc1 := 48) (lv1 := [.ref 3, .int u, .int m]) (st1 := [.ref 3, .int a1, .int m, .int u, .ref 17]) (h1 := (124, I, J, R)) rfl ?_
  refine ev_gf (c := 3) (t := 8) (X := R 3 4) rfl rfl (fun _ => rfl) rfl (hG 3 4 8 rfl rfl) ?_
  refine ev_go 1 (pc1 := 52) (lv1 := [.ref 3, .int u, .int m]) (st1 := [.int m, .ref 8, .int a1, .int m, .int u, .ref 17]) (h1 := (124, I, J, R)) rfl ?_
  refine ev_call (v1 := (some (.int a2))) (h1 := (124, I, J, R)) rfl rfl c3 ?_
  refine ev_go 1 (pc1 := 56) (lv1 := [.ref 3, .int u, .int m]) (st1 := [.ref 3, .int a2, .int a1, .int m, .int u, .ref 17]) (h1 := (124, I, J, R)) rfl ?_
  refine ev_gf (c := 3) (t := 10) (X := R 3 6) rfl rfl (fun _ => rfl) rfl (hG 3 6 10 rfl rfl) ?_
  refine ev_go 1 (pc1 := 60) (lv1 := [.ref 3, .int u, .int m]) (st1 := [.int m, .ref 10, .int a2, .int a1, .int m, .int u, .ref 17]) (h1 := (124, I, J, R)) rfl ?_
  refine ev_call (v1 := (some (.int a3))) (h1 := (124, I, J, R)) rfl rfl c4 ?_
  refine ev_call (v1 := none) (h1 := (124, I1, J, R)) rfl rfl c5 ?_
  refine ev_go 2 (pc1 := 10) (lv1 := [.ref 3, .int u, .int (m + 1)]) (st1 := []) (h1 := (124, I1, J, R)) rfl ?_
  exact hk
set_option maxRecDepth 20000 in
theorem lt_f_3 {L : Nat} {xs : Nat → Int32} {d : Nat} {I : Nat → Nat → Int32} {J : Nat → Nat → Int64} {R : Nat → Nat → Nat} {n : Int32} {w : Value} (hG : aGd R) (b1 : n.toInt ≥ (I 3 16).toInt) : xEv L xs d 43 80 [.ref 3, .int n, w] [] (124, I, J, R) none (124, I, J, R) := by
  refine ev_go 3 (pc1 := 85) (lv1 := [.ref 3, .int n, w]) (st1 := [.int (I 3 16), .int n]) (h1 := (124, I, J, R)) rfl ?_
  refine ev_br (b1 := true) rfl rfl (xcd_ge (x := n) (y := (I 3 16)) (by first | exact b1 | omega)) ?_
  exact ev_ret rfl rfl
set_option maxRecDepth 20000 in
theorem lt_g_3 {L : Nat} {xs : Nat → Int32} {d : Nat} {I : Nat → Nat → Int32} {J : Nat → Nat → Int64} {R : Nat → Nat → Nat} {I1 : Nat → Nat → Int32} {J1 : Nat → Nat → Int64} {R1 : Nat → Nat → Nat} {n x y : Int32} {w : Value} (hG : aGd R) (b1 : n.toInt < (I 3 16).toInt) (c1 : xEv L xs d 39 0 [.ref 13, .int n] [] (124, I, J, R) (some (.int x)) (124, I, J, R)) (c2 : xEv L xs d 45 0 [.ref 17, .int x, xmk, xmk] [] (124, I, J, R) (some (.int y)) (124, I1, J1, R1)) (hG2 : aGd R1) (c3 : xEv L xs d 33 0 [.ref 16, .int n, .int y] [] (124, I1, J1, R1) none (124, (uI I1 16 n.toNatClampNeg y), J1, R1)) {v : Option Value} {h' : xH} (hk : xEv L xs (d + 1) 43 80 [.ref 3, .int (n + 1), w] [] (124, (uI I1 16 n.toNatClampNeg y), J1, R1) v h') : xEv L xs (d + 1) 43 80 [.ref 3, .int n, w] [] (124, I, J, R) v h' := by
  refine ev_go 3 (pc1 := 85) (lv1 := [.ref 3, .int n, w]) (st1 := [.int (I 3 16), .int n]) (h1 := (124, I, J, R)) rfl ?_
  refine ev_br (b1 := false) rfl rfl (xcd_nge (x := n) (y := (I 3 16)) (by first | exact b1 | omega)) ?_
  refine ev_go 1 (pc1 := 89) (lv1 := [.ref 3, .int n, w]) (st1 := [.ref 3]) (h1 := (124, I, J, R)) rfl ?_
  refine ev_gf (c := 3) (t := 16) (X := R 3 12) rfl rfl (fun _ => rfl) rfl (hG 3 12 16 rfl rfl) ?_
  refine ev_go 2 (pc1 := 94) (lv1 := [.ref 3, .int n, w]) (st1 := [.ref 3, .int n, .ref 16]) (h1 := (124, I, J, R)) rfl ?_
  refine ev_gf (c := 3) (t := 17) (X := R 3 13) rfl rfl (fun _ => rfl) rfl (hG 3 13 17 rfl rfl) ?_
  refine ev_go 1 (pc1 := 98) (lv1 := [.ref 3, .int n, w]) (st1 := [.ref 3, .ref 17, .int n, .ref 16]) (h1 := (124, I, J, R)) rfl ?_
  refine ev_gf (c := 3) (t := 13) (X := R 3 9) rfl rfl (fun _ => rfl) rfl (hG 3 9 13 rfl rfl) ?_
  refine ev_go 1 (pc1 := 102) (lv1 := [.ref 3, .int n, w]) (st1 := [.int n, .ref 13, .ref 17, .int n, .ref 16]) (h1 := (124, I, J, R)) rfl ?_
  refine ev_call (v1 := (some (.int x))) (h1 := (124, I, J, R)) rfl rfl c1 ?_
  refine ev_call (v1 := (some (.int y))) (h1 := (124, I1, J1, R1)) rfl rfl c2 ?_
  refine ev_call (v1 := none) (h1 := (124, (uI I1 16 n.toNatClampNeg y), J1, R1)) rfl rfl c3 ?_
  refine ev_go 2 (pc1 := 80) (lv1 := [.ref 3, .int (n + 1), w]) (st1 := []) (h1 := (124, (uI I1 16 n.toNatClampNeg y), J1, R1)) rfl ?_
  exact hk
set_option maxRecDepth 20000 in
theorem lt_add_3 {L : Nat} {xs : Nat → Int32} {d : Nat} {I : Nat → Nat → Int32} {J : Nat → Nat → Int64} {R : Nat → Nat → Nat} {b1 b2 b3 b4 b5 : Int32} (hG : aGd R) (c1 : xEv L xs d 33 0 [.ref 18, .int (I 17 5), .int b1] [] (124, I, J, R) none (124, (uI I 18 (I 17 5).toNatClampNeg b1), J, R)) (c2 : xEv L xs d 33 0 [.ref 19, .int (I 17 5), .int b2] [] (124, (uI I 18 (I 17 5).toNatClampNeg b1), J, R) none (124, (uI (uI I 18 (I 17 5).toNatClampNeg b1) 19 (I 17 5).toNatClampNeg b2), J, R)) (c3 : xEv L xs d 33 0 [.ref 20, .int (I 17 5), .int b3] [] (124, (uI (uI I 18 (I 17 5).toNatClampNeg b1) 19 (I 17 5).toNatClampNeg b2), J, R) none (124, (uI (uI (uI I 18 (I 17 5).toNatClampNeg b1) 19 (I 17 5).toNatClampNeg b2) 20 (I 17 5).toNatClampNeg b3), J, R)) (c4 : xEv L xs d 33 0 [.ref 21, .int (I 17 5), .int b4] [] (124, (uI (uI (uI I 18 (I 17 5).toNatClampNeg b1) 19 (I 17 5).toNatClampNeg b2) 20 (I 17 5).toNatClampNeg b3), J, R) none (124, (uI (uI (uI (uI I 18 (I 17 5).toNatClampNeg b1) 19 (I 17 5).toNatClampNeg b2) 20 (I 17 5).toNatClampNeg b3) 21 (I 17 5).toNatClampNeg b4), J, R)) (c5 : xEv L xs d 33 0 [.ref 22, .int (I 17 5), .int b5] [] (124, (uI (uI (uI (uI I 18 (I 17 5).toNatClampNeg b1) 19 (I 17 5).toNatClampNeg b2) 20 (I 17 5).toNatClampNeg b3) 21 (I 17 5).toNatClampNeg b4), J, R) none (124, (uI (uI (uI (uI (uI I 18 (I 17 5).toNatClampNeg b1) 19 (I 17 5).toNatClampNeg b2) 20 (I 17 5).toNatClampNeg b3) 21 (I 17 5).toNatClampNeg b4) 22 (I 17 5).toNatClampNeg b5), J, R)) : xEv L xs (d + 1) 44 0 [.ref 17, .int b1, .int b2, .int b3, .int b4, .int b5] [] (124, I, J, R) none (124, (uI (uI (uI (uI (uI (uI I 18 (I 17 5).toNatClampNeg b1) 19 (I 17 5).toNatClampNeg b2) 20 (I 17 5).toNatClampNeg b3) 21 (I 17 5).toNatClampNeg b4) 22 (I 17 5).toNatClampNeg b5) 17 5 ((I 17 5) + 1)), J, R) := by
  refine ev_go 1 (pc1 := 1) (lv1 := [.ref 17, .int b1, .int b2, .int b3, .int b4, .int b5]) (st1 := [.ref 17]) (h1 := (124, I, J, R)) rfl ?_
  refine ev_gf (c := 17) (t := 18) (X := R 17 0) rfl rfl (fun _ => rfl) rfl (hG 17 0 18 rfl rfl) ?_
  refine ev_go 3 (pc1 := 9) (lv1 := [.ref 17, .int b1, .int b2, .int b3, .int b4, .int b5]) (st1 := [.int b1, .int (I 17 5), .ref 18]) (h1 := (124, I, J, R)) rfl ?_
  refine ev_call (v1 := none) (h1 := (124, (uI I 18 (I 17 5).toNatClampNeg b1), J, R)) rfl rfl c1 ?_
  refine ev_go 1 (pc1 := 13) (lv1 := [.ref 17, .int b1, .int b2, .int b3, .int b4, .int b5]) (st1 := [.ref 17]) (h1 := (124, (uI I 18 (I 17 5).toNatClampNeg b1), J, R)) rfl ?_
  refine ev_gf (c := 17) (t := 19) (X := R 17 1) rfl rfl (fun _ => rfl) rfl (hG 17 1 19 rfl rfl) ?_
  refine ev_go 3 (pc1 := 21) (lv1 := [.ref 17, .int b1, .int b2, .int b3, .int b4, .int b5]) (st1 := [.int b2, .int (I 17 5), .ref 19]) (h1 := (124, (uI I 18 (I 17 5).toNatClampNeg b1), J, R)) rfl ?_
  refine ev_call (v1 := none) (h1 := (124, (uI (uI I 18 (I 17 5).toNatClampNeg b1) 19 (I 17 5).toNatClampNeg b2), J, R)) rfl rfl c2 ?_
  refine ev_go 1 (pc1 := 25) (lv1 := [.ref 17, .int b1, .int b2, .int b3, .int b4, .int b5]) (st1 := [.ref 17]) (h1 := (124, (uI (uI I 18 (I 17 5).toNatClampNeg b1) 19 (I 17 5).toNatClampNeg b2), J, R)) rfl ?_
  refine ev_gf (c := 17) (t := 20) (X := R 17 2) rfl rfl (fun _ => rfl) rfl (hG 17 2 20 rfl rfl) ?_
  refine ev_go 3 (pc1 := 33) (lv1 := [.ref 17, .int b1, .int b2, .int b3, .int b4, .int b5]) (st1 := [.int b3, .int (I 17 5), .ref 20]) (h1 := (124, (uI (uI I 18 (I 17 5).toNatClampNeg b1) 19 (I 17 5).toNatClampNeg b2), J, R)) rfl ?_
  refine ev_call (v1 := none) (h1 := (124, (uI (uI (uI I 18 (I 17 5).toNatClampNeg b1) 19 (I 17 5).toNatClampNeg b2) 20 (I 17 5).toNatClampNeg b3), J, R)) rfl rfl c3 ?_
  refine ev_go 1 (pc1 := 37) (lv1 := [.ref 17, .int b1, .int b2, .int b3, .int b4, .int b5]) (st1 := [.ref 17]) (h1 := (124, (uI (uI (uI I 18 (I 17 5).toNatClampNeg b1) 19 (I 17 5).toNatClampNeg b2) 20 (I 17 5).toNatClampNeg b3), J, R)) rfl ?_
  refine ev_gf (c := 17) (t := 21) (X := R 17 3) rfl rfl (fun _ => rfl) rfl (hG 17 3 21 rfl rfl) ?_
  refine ev_go 3 (pc1 := 46) (lv1 := [.ref 17, .int b1, .int b2, .int b3, .int b4, .int b5]) (st1 := [.int b4, .int (I 17 5), .ref 21]) (h1 := (124, (uI (uI (uI I 18 (I 17 5).toNatClampNeg b1) 19 (I 17 5).toNatClampNeg b2) 20 (I 17 5).toNatClampNeg b3), J, R)) rfl ?_
  refine ev_call (v1 := none) (h1 := (124, (uI (uI (uI (uI I 18 (I 17 5).toNatClampNeg b1) 19 (I 17 5).toNatClampNeg b2) 20 (I 17 5).toNatClampNeg b3) 21 (I 17 5).toNatClampNeg b4), J, R)) rfl rfl c4 ?_
  refine ev_go 1 (pc1 := 50) (lv1 := [.ref 17, .int b1, .int b2, .int b3, .int b4, .int b5]) (st1 := [.ref 17]) (h1 := (124, (uI (uI (uI (uI I 18 (I 17 5).toNatClampNeg b1) 19 (I 17 5).toNatClampNeg b2) 20 (I 17 5).toNatClampNeg b3) 21 (I 17 5).toNatClampNeg b4), J, R)) rfl ?_
  refine ev_gf (c := 17) (t := 22) (X := R 17 4) rfl rfl (fun _ => rfl) rfl (hG 17 4 22 rfl rfl) ?_
  refine ev_go 3 (pc1 := 59) (lv1 := [.ref 17, .int b1, .int b2, .int b3, .int b4, .int b5]) (st1 := [.int b5, .int (I 17 5), .ref 22]) (h1 := (124, (uI (uI (uI (uI I 18 (I 17 5).toNatClampNeg b1) 19 (I 17 5).toNatClampNeg b2) 20 (I 17 5).toNatClampNeg b3) 21 (I 17 5).toNatClampNeg b4), J, R)) rfl ?_
  refine ev_call (v1 := none) (h1 := (124, (uI (uI (uI (uI (uI I 18 (I 17 5).toNatClampNeg b1) 19 (I 17 5).toNatClampNeg b2) 20 (I 17 5).toNatClampNeg b3) 21 (I 17 5).toNatClampNeg b4) 22 (I 17 5).toNatClampNeg b5), J, R)) rfl rfl c5 ?_
  refine ev_go 6 (pc1 := 72) (lv1 := [.ref 17, .int b1, .int b2, .int b3, .int b4, .int b5]) (st1 := []) (h1 := (124, (uI (uI (uI (uI (uI (uI I 18 (I 17 5).toNatClampNeg b1) 19 (I 17 5).toNatClampNeg b2) 20 (I 17 5).toNatClampNeg b3) 21 (I 17 5).toNatClampNeg b4) 22 (I 17 5).toNatClampNeg b5) 17 5 ((I 17 5) + 1)), J, R)) rfl ?_
  exact ev_ret rfl rfl
/-- add, exactly -/
theorem add_run_3 {L : Nat} {xs : Nat → Int32} {d : Nat} {I : Nat → Nat → Int32} {J : Nat → Nat → Int64} {R : Nat → Nat → Nat} (hG : aGd R) {b1 b2 b3 b4 b5 : Int32} (h0 : 0 ≤ (I 17 5).toInt) (h1 : (I 17 5).toInt < 64) : xEv L xs (d + 1) 44 0 [.ref 17, .int b1, .int b2, .int b3, .int b4, .int b5] [] (124, I, J, R) none (124, (uI (uI (uI (uI (uI (uI I 18 (I 17 5).toNatClampNeg b1) 19 (I 17 5).toNatClampNeg b2) 20 (I 17 5).toNatClampNeg b3) 21 (I 17 5).toNatClampNeg b4) 22 (I 17 5).toNatClampNeg b5) 17 5 ((I 17 5) + 1)), J, R) := by
  have P : ∀ (I' : Nat → Nat → Int32) (c : Nat) (x : Int32), (∀ f : FieldType → Nat → Option xR, xarr (124, I', J, R) c f = f .int 64) → xEv L xs d 33 0 [.ref c, .int (I 17 5), .int x] [] (124, I', J, R) none (124, uI I' c (I 17 5).toNatClampNeg x, J, R) := by
    intro I' c x ho
    have h2 := put_run (L := L) (xs := xs) (d := d) (h := (124, I', J, R)) ho (by decide) (I 17 5) x
    rw [if_pos ⟨h0, h1⟩] at h2
    exact h2
  exact lt_add_3 hG (P _ _ _ (fun _ => rfl)) (P _ _ _ (fun _ => rfl)) (P _ _ _ (fun _ => rfl)) (P _ _ _ (fun _ => rfl)) (P _ _ _ (fun _ => rfl))
def ltInv_3 (h0 : xH) (J : Nat → Nat → Int64) (R : Nat → Nat → Nat) (I0 : Nat → Nat → Int32) (c : Nat) (I : Nat → Nat → Int32) : Prop := aGood (124, I, J, R) ∧ aFr (aMod 162) h0 (124, I, J, R) ∧ I 3 15 = I0 3 15 ∧ (∀ k, I 9 k = I0 9 k) ∧ (I 17 5).toInt = c
theorem ltL_3 {L : Nat} {xs : Nat → Int32} {d : Nat} {h0 : aE} {J : Nat → Nat → Int64} {R : Nat → Nat → Nat} {I0 : Nat → Nat → Int32} {M : Nat} (hM : (I0 3 15).toInt = M) (hM2 : M ≤ 16) (f : Nat → Int) (hf : f = fun k => (I0 9 k).toInt) {u : Int32} {U : Nat} (hu : u.toInt = U) (hU : U < 96) (kk : ∀ I', ltInv_3 h0.1 J R I0 (cOut f M (U + 1)) I' → ∀ w, aT L xs (d + 2) 162 h0 2 [.ref 3, .int (u + 1), w] [] (124, I', J, R)) : ∀ (q : Nat) (m : Int32) (m' : Nat) (I : Nat → Nat → Int32), M - m' = q → m.toInt = m' → m' ≤ M → ltInv_3 h0.1 J R I0 (cOut f M U + cIn f ((U % 24 : Nat) : Int) m') I → aT L xs (d + 2) 162 h0 10 [.ref 3, .int u, .int m] [] (124, I, J, R) := by
  intro q
  induction q with
  | zero =>
    intro m m' I h1 h2 h3 hI
    have e : m' = M := by omega
    subst e
    obtain ⟨hg, hfr, i1, i2, i3⟩ := hI
    exact aT_of (fun hk => lt_c_3 (gd_of hg) (by rw [i1]; omega) hk) (kk I ⟨hg, hfr, i1, i2, i3⟩ _)
  | succ q ih =>
    intro m m' I h1 h2 h3 hI
    obtain ⟨hg, hfr, i1, i2, i3⟩ := hI
    have ei := i_add1 (x := m) (by omega)
    have ec := clamp_s (i := m) (by omega)
    have e2 : m.toNatClampNeg = m' := by omega
    have er := rem24 hu
    have ef : f m' = (I 9 m').toInt := by rw [hf, i2]
    have hcS : cIn f ((U % 24 : Nat) : Int) (m' + 1) = cIn f ((U % 24 : Nat) : Int) m' + (if f m' = ((U % 24 : Nat) : Int) then 1 else 0) := rfl
    have at1 : ∀ c, (∀ g : FieldType → Nat → Option xR, xarr (124, I, J, R) c g = g .int 16) → xEv L xs (d + 1) 39 0 [.ref c, .int m] [] (124, I, J, R) (some (.int (I c m'))) (124, I, J, R) := by
      intro c ho
      have h4 := at_run (L := L) (xs := xs) (d := d + 1) (h := (124, I, J, R)) ho (by decide) m
      rw [if_pos ⟨by omega, by omega⟩, e2] at h4
      exact h4
    by_cases hq : (I 9 m').toInt = ((U % 24 : Nat) : Int)
    · rw [if_pos (by rw [ef]; exact hq)] at hcS
      have hle := cnt_le f hU (m := m' + 1) (M := M) (by omega)
      have ea : (I 17 5 + 1).toInt = (I 17 5).toInt + 1 := i_add1 (by omega)
      refine aT_of (fun hk => lt_e_3 (gd_of hg) (by rw [i1]; omega) (at1 9 (fun _ => rfl)) (by rw [hq, er]) (at1 7 (fun _ => rfl)) (at1 8 (fun _ => rfl)) (at1 10 (fun _ => rfl)) (add_run_3 (gd_of hg) (by omega) (by omega)) hk) (ih (m + 1) (m' + 1) _ (by omega) (by omega) (by omega) ⟨?_, ?_, ?_, ?_, ?_⟩)
      · refine gd_I (gd_I (gd_I (gd_I (gd_I (gd_I hg ?_ ?_) ?_ ?_) ?_ ?_) ?_ ?_) ?_ ?_) ?_ ?_
        · exact (aw _).1
        · exact (aw _).2
        · exact (aw _).1
        · exact (aw _).2
        · exact (aw _).1
        · exact (aw _).2
        · exact (aw _).1
        · exact (aw _).2
        · exact (aw _).1
        · exact (aw _).2
        · show (0 : Int) ≤ (I 17 5 + 1).toInt; omega
        · show (I 17 5 + 1).toInt ≤ 64; omega
      · exact fr_uI (fr_uI (fr_uI (fr_uI (fr_uI (fr_uI hfr (md (n := 54) rfl rfl)) (md (n := 55) rfl rfl)) (md (n := 56) rfl rfl)) (md (n := 57) rfl rfl)) (md (n := 58) rfl rfl)) rfl
      · exact i1
      · exact i2
      · show (I 17 5 + 1).toInt = _
        rw [hcS]
        omega
    · rw [if_neg (by rw [ef]; exact hq)] at hcS
      exact aT_of (fun hk => lt_d_3 (gd_of hg) (by rw [i1]; omega) (at1 9 (fun _ => rfl)) (by rw [er]; exact hq) hk) (ih (m + 1) (m' + 1) I (by omega) (by omega) (by omega) ⟨hg, hfr, i1, i2, by rw [hcS]; omega⟩)
theorem ltO_3 {L : Nat} {xs : Nat → Int32} {d : Nat} {h0 : aE} {J : Nat → Nat → Int64} {R : Nat → Nat → Nat} {I0 : Nat → Nat → Int32} {M : Nat} (hM : (I0 3 15).toInt = M) (hM2 : M ≤ 16) (f : Nat → Int) (hf : f = fun k => (I0 9 k).toInt) (kk : ∀ I', ltInv_3 h0.1 J R I0 (cOut f M 96) I' → ∀ w, aT L xs (d + 2) 162 h0 80 [.ref 3, .int 0, w] [] (124, I', J, R)) : ∀ (q : Nat) (u : Int32) (U : Nat) (I : Nat → Nat → Int32), 96 - U = q → u.toInt = U → U ≤ 96 → ltInv_3 h0.1 J R I0 (cOut f M U) I → ∀ w, aT L xs (d + 2) 162 h0 2 [.ref 3, .int u, w] [] (124, I, J, R) := by
  intro q
  induction q with
  | zero =>
    intro u U I h1 h2 h3 hI w
    have e : U = 96 := by omega
    subst e
    exact aT_of (fun hk => lt_a_3 (gd_of hI.1) (by omega) hk) (kk I hI _)
  | succ q ih =>
    intro u U I h1 h2 h3 hI w
    have ei := i_add1 (x := u) (by omega)
    refine aT_of (fun hk => lt_b_3 (gd_of hI.1) (by omega) hk) (ltL_3 hM hM2 f hf h2 (by omega) (fun I' hI' w' => ih (u + 1) (U + 1) I' (by omega) (by omega) (by omega) hI' w') _ 0 0 I rfl rfl (Nat.zero_le _) hI)
theorem ltN_3 (hk : aOK 3) {L : Nat} {xs : Nat → Int32} {d : Nat} {h0 : aE} : ∀ (q : Nat) (n : Int32) (n' : Nat) (I : Nat → Nat → Int32) (J : Nat → Nat → Int64) (R : Nat → Nat → Nat), 4 - n' = q → n.toInt = n' → n' ≤ 4 → aGood (124, I, J, R) → aFr (aMod 162) h0.1 (124, I, J, R) → ∀ w, aT L xs (d + 2) 162 h0 80 [.ref 3, .int n, w] [] (124, I, J, R) := by
  intro q
  induction q with
  | zero =>
    intro n n' I J R h1 h2 h3 hg hf w
    have hy := good_int hg 3 16 rfl
    have hy2 : (aRng 3 16) = (0, 4) := rfl
    rw [hy2] at hy
    dsimp only at hy
    exact ⟨_, _, lt_f_3 (gd_of hg) (by omega), post1 (cs := (none, [], [], [])) (List.mem_singleton.mpr rfl) hg hf (cok_v fok0)⟩
  | succ q ih =>
    intro n n' I J R h1 h2 h3 hg hf w
    have hy := good_int hg 3 16 rfl
    have hy2 : (aRng 3 16) = (0, 4) := rfl
    rw [hy2] at hy
    dsimp only at hy
    by_cases hn : n.toInt ≥ (I 3 16).toInt
    · exact ⟨_, _, lt_f_3 (gd_of hg) hn, post1 (cs := (none, [], [], [])) (List.mem_singleton.mpr rfl) hg hf (cok_v fok0)⟩
    · have ei := i_add1 (x := n) (by omega)
      have h4 := at_run (L := L) (xs := xs) (d := d + 1) (h := (124, I, J, R)) (c := 13) (n := 4) (fun _ => rfl) (by decide) n
      generalize (if 0 ≤ n.toInt ∧ n.toInt < ((4 : Nat) : Int) then ((124, I, J, R) : xH).2.1 13 n.toNatClampNeg else 0) = x at h4
      obtain ⟨v1, ⟨n1, I1, J1, R1⟩, he, hg1, hf1, cs, hcs, hc⟩ := hk L xs (d + 1) [.ref 17, .int x] (124, I, J, R) (show 1 ≤ d + 1 by omega) hg ⟨g0_r (by decide), g0_i (aw _).1 (aw _).2, rfl⟩ fok0
      have e1 : n1 = 124 := hg1.1
      subst e1
      have hcs2 := List.mem_singleton.mp hcs
      subst hcs2
      obtain ⟨⟨v2, q1, y, q2, q3, q4⟩, -, -, -⟩ := hc
      subst q1
      subst q2
      have h5 := put_run (L := L) (xs := xs) (d := d + 1) (h := (124, I1, J1, R1)) (c := 16) (n := 4) (fun _ => rfl) (by decide) n y
      rw [if_pos ⟨by omega, by omega⟩] at h5
      exact aT_of (fun hk => lt_g_3 (gd_of hg) (by omega) h4 he (gd_of hg1) h5 hk) (ih (n + 1) (n' + 1) _ J1 R1 (by omega) (by omega) (by omega) (gd_I (c := 16) (k := n.toNatClampNeg) (v := y) hg1 q3 q4) (fr_uI (aFr_trans rfl hf hf1) (md (n := 47) rfl rfl)) _)
theorem okh_162 (hkn : ∀ n, n < 162 → aOK n) : aOK 162 := by
  intro L xs d vs h hd hg hA hF
  obtain ⟨n0, I, J, R⟩ := h
  have e1 : n0 = 124 := hg.1
  subst e1
  have e2 := args_R (c := 3) hA
  subst e2
  have hd7 : 3 ≤ d := hd
  obtain ⟨d, rfl⟩ : ∃ e, d = e + 2 := ⟨d - 2, by omega⟩
  have ff := aFr_refl (aMod 162) (124, I, J, R)
  have hz := fok_at hF (c := 17) (k := 5) (lo := 0) (hi := 0) List.mem_cons_self rfl
  have hz0 : (I 17 5).toInt = 0 := by have h3 : 0 ≤ (I 17 5).toInt ∧ (I 17 5).toInt ≤ 0 := hz; omega
  have hy := good_int hg 3 15 rfl
  have hy2 : (aRng 3 15) = (0, 16) := rfl
  rw [hy2] at hy
  dsimp only at hy
  obtain ⟨M, hM⟩ := Int.eq_ofNat_of_zero_le hy.1
  refine aT_of (pc1 := 2) (lv1 := [.ref 3, .int 0, xmk]) (st1 := []) (h1 := (124, I, J, R)) (fun hk => ev_go 2 rfl hk) ?_
  refine ltO_3 (I0 := I) (M := M) hM (by omega) _ rfl ?_ _ 0 0 _ rfl rfl (Nat.zero_le _) ⟨hg, ff, rfl, fun _ => rfl, hz0⟩ _
  intro I' hI' w
  exact ltN_3 (hkn 3 (by decide)) _ 0 0 I' J R rfl rfl (by decide) hI'.1 hI'.2.1 _
set_option maxRecDepth 20000 in
theorem lt_a_23 {L : Nat} {xs : Nat → Int32} {d : Nat} {I : Nat → Nat → Int32} {J : Nat → Nat → Int64} {R : Nat → Nat → Nat} {u : Int32} {w : Value} (hG : aGd R) (b1 : u.toInt > 95) {v : Option Value} {h' : xH} (hk : xEv L xs d 43 80 [.ref 23, .int 0, w] [] (124, I, J, R) v h') : xEv L xs d 43 2 [.ref 23, .int u, w] [] (124, I, J, R) v h' := by
  refine ev_go 2 (pc1 := 5) (lv1 := [.ref 23, .int u, w]) (st1 := [.int 95, .int u]) (h1 := (124, I, J, R)) rfl ?_
  refine ev_br (b1 := true) rfl rfl (xcd_gt (x := u) (y := 95) (by rw [show ((95 : Int32)).toInt = 95 from by decide]; first | exact b1 | omega)) ?_
  refine ev_go 2 (pc1 := 80) (lv1 := [.ref 23, .int 0, w]) (st1 := []) (h1 := (124, I, J, R)) rfl ?_
  exact hk
set_option maxRecDepth 20000 in
theorem lt_b_23 {L : Nat} {xs : Nat → Int32} {d : Nat} {I : Nat → Nat → Int32} {J : Nat → Nat → Int64} {R : Nat → Nat → Nat} {u : Int32} {w : Value} (hG : aGd R) (b1 : u.toInt ≤ 95) {v : Option Value} {h' : xH} (hk : xEv L xs d 43 10 [.ref 23, .int u, .int 0] [] (124, I, J, R) v h') : xEv L xs d 43 2 [.ref 23, .int u, w] [] (124, I, J, R) v h' := by
  refine ev_go 2 (pc1 := 5) (lv1 := [.ref 23, .int u, w]) (st1 := [.int 95, .int u]) (h1 := (124, I, J, R)) rfl ?_
  refine ev_br (b1 := false) rfl rfl (xcd_ngt (x := u) (y := 95) (by rw [show ((95 : Int32)).toInt = 95 from by decide]; first | exact b1 | omega)) ?_
  refine ev_go 2 (pc1 := 10) (lv1 := [.ref 23, .int u, .int 0]) (st1 := []) (h1 := (124, I, J, R)) rfl ?_
  exact hk
set_option maxRecDepth 20000 in
theorem lt_c_23 {L : Nat} {xs : Nat → Int32} {d : Nat} {I : Nat → Nat → Int32} {J : Nat → Nat → Int64} {R : Nat → Nat → Nat} {u m : Int32} (hG : aGd R) (b1 : m.toInt ≥ (I 23 15).toInt) {v : Option Value} {h' : xH} (hk : xEv L xs d 43 2 [.ref 23, .int (u + 1), .int m] [] (124, I, J, R) v h') : xEv L xs d 43 10 [.ref 23, .int u, .int m] [] (124, I, J, R) v h' := by
  refine ev_go 3 (pc1 := 15) (lv1 := [.ref 23, .int u, .int m]) (st1 := [.int (I 23 15), .int m]) (h1 := (124, I, J, R)) rfl ?_
  refine ev_br (b1 := true) rfl rfl (xcd_ge (x := m) (y := (I 23 15)) (by first | exact b1 | omega)) ?_
  refine ev_go 2 (pc1 := 2) (lv1 := [.ref 23, .int (u + 1), .int m]) (st1 := []) (h1 := (124, I, J, R)) rfl ?_
  exact hk
set_option maxRecDepth 20000 in
theorem lt_d_23 {L : Nat} {xs : Nat → Int32} {d : Nat} {I : Nat → Nat → Int32} {J : Nat → Nat → Int64} {R : Nat → Nat → Nat} {u m x : Int32} (hG : aGd R) (b1 : m.toInt < (I 23 15).toInt) (c1 : xEv L xs d 39 0 [.ref 29, .int m] [] (124, I, J, R) (some (.int x)) (124, I, J, R)) (b2 : x.toInt ≠ (u - u / 24 * 24).toInt) {v : Option Value} {h' : xH} (hk : xEv L xs (d + 1) 43 10 [.ref 23, .int u, .int (m + 1)] [] (124, I, J, R) v h') : xEv L xs (d + 1) 43 10 [.ref 23, .int u, .int m] [] (124, I, J, R) v h' := by
  refine ev_go 3 (pc1 := 15) (lv1 := [.ref 23, .int u, .int m]) (st1 := [.int (I 23 15), .int m]) (h1 := (124, I, J, R)) rfl ?_
  refine ev_br (b1 := false) rfl rfl (xcd_nge (x := m) (y := (I 23 15)) (by first | exact b1 | omega)) ?_
  refine ev_go 1 (pc1 := 19) (lv1 := [.ref 23, .int u, .int m]) (st1 := [.ref 23]) (h1 := (124, I, J, R)) rfl ?_
  refine ev_gf (c := 23) (t := 29) (X := R 23 5) rfl rfl (fun _ => rfl) rfl (hG 23 5 29 rfl rfl) ?_
  refine ev_go 1 (pc1 := 23) (lv1 := [.ref 23, .int u, .int m]) (st1 := [.int m, .ref 29]) (h1 := (124, I, J, R)) rfl ?_
  refine ev_call (v1 := (some (.int x))) (h1 := (124, I, J, R)) rfl rfl c1 ?_
  refine ev_go 2 (pc1 := 29) (lv1 := [.ref 23, .int u, .int m]) (st1 := [.int 24, .int u, .int x]) (h1 := (124, I, J, R)) rfl ?_
  refine ev_go 1 (pc1 := 30) (lv1 := [.ref 23, .int u, .int m]) (st1 := [.int (u - u / 24 * 24), .int x]) (h1 := (124, I, J, R)) rfl ?_
  refine ev_br (b1 := true) rfl rfl (xcd_ne (x := x) (y := (u - u / 24 * 24)) (by first | exact b2 | omega)) ?_
  refine ev_go 2 (pc1 := 10) (lv1 := [.ref 23, .int u, .int (m + 1)]) (st1 := []) (h1 := (124, I, J, R)) rfl ?_
  exact hk
set_option maxRecDepth 20000 in
theorem lt_e_23 {L : Nat} {xs : Nat → Int32} {d : Nat} {I : Nat → Nat → Int32} {J : Nat → Nat → Int64} {R : Nat → Nat → Nat} {I1 : Nat → Nat → Int32} {u m x a1 a2 a3 : Int32} (hG : aGd R) (b1 : m.toInt < (I 23 15).toInt) (c1 : xEv L xs d 39 0 [.ref 29, .int m] [] (124, I, J, R) (some (.int x)) (124, I, J, R)) (b2 : x.toInt = (u - u / 24 * 24).toInt) (c2 : xEv L xs d 39 0 [.ref 27, .int m] [] (124, I, J, R) (some (.int a1)) (124, I, J, R)) (c3 : xEv L xs d 39 0 [.ref 28, .int m] [] (124, I, J, R) (some (.int a2)) (124, I, J, R)) (c4 : xEv L xs d 39 0 [.ref 30, .int m] [] (124, I, J, R) (some (.int a3)) (124, I, J, R)) (c5 : xEv L xs d 44 0 [.ref 37, .int u, .int m, .int a1, .int a2, .int a3] [] (124, I, J, R) none (124, I1, J, R)) {v : Option Value} {h' : xH} (hk : xEv L xs (d + 1) 43 10 [.ref 23, .int u, .int (m + 1)] [] (124, I1, J, R) v h') : xEv L xs (d + 1) 43 10 [.ref 23, .int u, .int m] [] (124, I, J, R) v h' := by
  refine ev_go 3 (pc1 := 15) (lv1 := [.ref 23, .int u, .int m]) (st1 := [.int (I 23 15), .int m]) (h1 := (124, I, J, R)) rfl ?_
  refine ev_br (b1 := false) rfl rfl (xcd_nge (x := m) (y := (I 23 15)) (by first | exact b1 | omega)) ?_
  refine ev_go 1 (pc1 := 19) (lv1 := [.ref 23, .int u, .int m]) (st1 := [.ref 23]) (h1 := (124, I, J, R)) rfl ?_
  refine ev_gf (c := 23) (t := 29) (X := R 23 5) rfl rfl (fun _ => rfl) rfl (hG 23 5 29 rfl rfl) ?_
  refine ev_go 1 (pc1 := 23) (lv1 := [.ref 23, .int u, .int m]) (st1 := [.int m, .ref 29]) (h1 := (124, I, J, R)) rfl ?_
  refine ev_call (v1 := (some (.int x))) (h1 := (124, I, J, R)) rfl rfl c1 ?_
  refine ev_go 2 (pc1 := 29) (lv1 := [.ref 23, .int u, .int m]) (st1 := [.int 24, .int u, .int x]) (h1 := (124, I, J, R)) rfl ?_
  refine ev_go 1 (pc1 := 30) (lv1 := [.ref 23, .int u, .int m]) (st1 := [.int (u - u / 24 * 24), .int x]) (h1 := (124, I, J, R)) rfl ?_
  refine ev_br (b1 := false) rfl rfl (xcd_nne (x := x) (y := (u - u / 24 * 24)) (by first | exact b2 | omega)) ?_
  refine ev_go 1 (pc1 := 34) (lv1 := [.ref 23, .int u, .int m]) (st1 := [.ref 23]) (h1 := (124, I, J, R)) rfl ?_
  refine ev_gf (c := 23) (t := 37) (X := R 23 13) rfl rfl (fun _ => rfl) rfl (hG 23 13 37 rfl rfl) ?_
  refine ev_go 3 (pc1 := 40) (lv1 := [.ref 23, .int u, .int m]) (st1 := [.ref 23, .int m, .int u, .ref 37]) (h1 := (124, I, J, R)) rfl ?_
  refine ev_gf (c := 23) (t := 27) (X := R 23 3) rfl rfl (fun _ => rfl) rfl (hG 23 3 27 rfl rfl) ?_
  refine ev_go 1 (pc1 := 44) (lv1 := [.ref 23, .int u, .int m]) (st1 := [.int m, .ref 27, .int m, .int u, .ref 37]) (h1 := (124, I, J, R)) rfl ?_
  refine ev_call (v1 := (some (.int a1))) (h1 := (124, I, J, R)) rfl rfl c2 ?_
  refine ev_go 1 (pc1 := 48) (lv1 := [.ref 23, .int u, .int m]) (st1 := [.ref 23, .int a1, .int m, .int u, .ref 37]) (h1 := (124, I, J, R)) rfl ?_
  refine ev_gf (c := 23) (t := 28) (X := R 23 4) rfl rfl (fun _ => rfl) rfl (hG 23 4 28 rfl rfl) ?_
  refine ev_go 1 (pc1 := 52) (lv1 := [.ref 23, .int u, .int m]) (st1 := [.int m, .ref 28, .int a1, .int m, .int u, .ref 37]) (h1 := (124, I, J, R)) rfl ?_
  refine ev_call (v1 := (some (.int a2))) (h1 := (124, I, J, R)) rfl rfl c3 ?_
  refine ev_go 1 (pc1 := 56) (lv1 := [.ref 23, .int u, .int m]) (st1 := [.ref 23, .int a2, .int a1, .int m, .int u, .ref 37]) (h1 := (124, I, J, R)) rfl ?_
  refine ev_gf (c := 23) (t := 30) (X := R 23 6) rfl rfl (fun _ => rfl) rfl (hG 23 6 30 rfl rfl) ?_
  refine ev_go 1 (pc1 := 60) (lv1 := [.ref 23, .int u, .int m]) (st1 := [.int m, .ref 30, .int a2, .int a1, .int m, .int u, .ref 37]) (h1 := (124, I, J, R)) rfl ?_
  refine ev_call (v1 := (some (.int a3))) (h1 := (124, I, J, R)) rfl rfl c4 ?_
  refine ev_call (v1 := none) (h1 := (124, I1, J, R)) rfl rfl c5 ?_
  refine ev_go 2 (pc1 := 10) (lv1 := [.ref 23, .int u, .int (m + 1)]) (st1 := []) (h1 := (124, I1, J, R)) rfl ?_
  exact hk
set_option maxRecDepth 20000 in
theorem lt_f_23 {L : Nat} {xs : Nat → Int32} {d : Nat} {I : Nat → Nat → Int32} {J : Nat → Nat → Int64} {R : Nat → Nat → Nat} {n : Int32} {w : Value} (hG : aGd R) (b1 : n.toInt ≥ (I 23 16).toInt) : xEv L xs d 43 80 [.ref 23, .int n, w] [] (124, I, J, R) none (124, I, J, R) := by
  refine ev_go 3 (pc1 := 85) (lv1 := [.ref 23, .int n, w]) (st1 := [.int (I 23 16), .int n]) (h1 := (124, I, J, R)) rfl ?_
  refine ev_br (b1 := true) rfl rfl (xcd_ge (x := n) (y := (I 23 16)) (by first | exact b1 | omega)) ?_
  exact ev_ret rfl rfl
set_option maxRecDepth 20000 in
theorem lt_g_23 {L : Nat} {xs : Nat → Int32} {d : Nat} {I : Nat → Nat → Int32} {J : Nat → Nat → Int64} {R : Nat → Nat → Nat} {I1 : Nat → Nat → Int32} {J1 : Nat → Nat → Int64} {R1 : Nat → Nat → Nat} {n x y : Int32} {w : Value} (hG : aGd R) (b1 : n.toInt < (I 23 16).toInt) (c1 : xEv L xs d 39 0 [.ref 33, .int n] [] (124, I, J, R) (some (.int x)) (124, I, J, R)) (c2 : xEv L xs d 45 0 [.ref 37, .int x, xmk, xmk] [] (124, I, J, R) (some (.int y)) (124, I1, J1, R1)) (hG2 : aGd R1) (c3 : xEv L xs d 33 0 [.ref 36, .int n, .int y] [] (124, I1, J1, R1) none (124, (uI I1 36 n.toNatClampNeg y), J1, R1)) {v : Option Value} {h' : xH} (hk : xEv L xs (d + 1) 43 80 [.ref 23, .int (n + 1), w] [] (124, (uI I1 36 n.toNatClampNeg y), J1, R1) v h') : xEv L xs (d + 1) 43 80 [.ref 23, .int n, w] [] (124, I, J, R) v h' := by
  refine ev_go 3 (pc1 := 85) (lv1 := [.ref 23, .int n, w]) (st1 := [.int (I 23 16), .int n]) (h1 := (124, I, J, R)) rfl ?_
  refine ev_br (b1 := false) rfl rfl (xcd_nge (x := n) (y := (I 23 16)) (by first | exact b1 | omega)) ?_
  refine ev_go 1 (pc1 := 89) (lv1 := [.ref 23, .int n, w]) (st1 := [.ref 23]) (h1 := (124, I, J, R)) rfl ?_
  refine ev_gf (c := 23) (t := 36) (X := R 23 12) rfl rfl (fun _ => rfl) rfl (hG 23 12 36 rfl rfl) ?_
  refine ev_go 2 (pc1 := 94) (lv1 := [.ref 23, .int n, w]) (st1 := [.ref 23, .int n, .ref 36]) (h1 := (124, I, J, R)) rfl ?_
  refine ev_gf (c := 23) (t := 37) (X := R 23 13) rfl rfl (fun _ => rfl) rfl (hG 23 13 37 rfl rfl) ?_
  refine ev_go 1 (pc1 := 98) (lv1 := [.ref 23, .int n, w]) (st1 := [.ref 23, .ref 37, .int n, .ref 36]) (h1 := (124, I, J, R)) rfl ?_
  refine ev_gf (c := 23) (t := 33) (X := R 23 9) rfl rfl (fun _ => rfl) rfl (hG 23 9 33 rfl rfl) ?_
  refine ev_go 1 (pc1 := 102) (lv1 := [.ref 23, .int n, w]) (st1 := [.int n, .ref 33, .ref 37, .int n, .ref 36]) (h1 := (124, I, J, R)) rfl ?_
  refine ev_call (v1 := (some (.int x))) (h1 := (124, I, J, R)) rfl rfl c1 ?_
  refine ev_call (v1 := (some (.int y))) (h1 := (124, I1, J1, R1)) rfl rfl c2 ?_
  refine ev_call (v1 := none) (h1 := (124, (uI I1 36 n.toNatClampNeg y), J1, R1)) rfl rfl c3 ?_
  refine ev_go 2 (pc1 := 80) (lv1 := [.ref 23, .int (n + 1), w]) (st1 := []) (h1 := (124, (uI I1 36 n.toNatClampNeg y), J1, R1)) rfl ?_
  exact hk
set_option maxRecDepth 20000 in
theorem lt_add_23 {L : Nat} {xs : Nat → Int32} {d : Nat} {I : Nat → Nat → Int32} {J : Nat → Nat → Int64} {R : Nat → Nat → Nat} {b1 b2 b3 b4 b5 : Int32} (hG : aGd R) (c1 : xEv L xs d 33 0 [.ref 38, .int (I 37 5), .int b1] [] (124, I, J, R) none (124, (uI I 38 (I 37 5).toNatClampNeg b1), J, R)) (c2 : xEv L xs d 33 0 [.ref 39, .int (I 37 5), .int b2] [] (124, (uI I 38 (I 37 5).toNatClampNeg b1), J, R) none (124, (uI (uI I 38 (I 37 5).toNatClampNeg b1) 39 (I 37 5).toNatClampNeg b2), J, R)) (c3 : xEv L xs d 33 0 [.ref 40, .int (I 37 5), .int b3] [] (124, (uI (uI I 38 (I 37 5).toNatClampNeg b1) 39 (I 37 5).toNatClampNeg b2), J, R) none (124, (uI (uI (uI I 38 (I 37 5).toNatClampNeg b1) 39 (I 37 5).toNatClampNeg b2) 40 (I 37 5).toNatClampNeg b3), J, R)) (c4 : xEv L xs d 33 0 [.ref 41, .int (I 37 5), .int b4] [] (124, (uI (uI (uI I 38 (I 37 5).toNatClampNeg b1) 39 (I 37 5).toNatClampNeg b2) 40 (I 37 5).toNatClampNeg b3), J, R) none (124, (uI (uI (uI (uI I 38 (I 37 5).toNatClampNeg b1) 39 (I 37 5).toNatClampNeg b2) 40 (I 37 5).toNatClampNeg b3) 41 (I 37 5).toNatClampNeg b4), J, R)) (c5 : xEv L xs d 33 0 [.ref 42, .int (I 37 5), .int b5] [] (124, (uI (uI (uI (uI I 38 (I 37 5).toNatClampNeg b1) 39 (I 37 5).toNatClampNeg b2) 40 (I 37 5).toNatClampNeg b3) 41 (I 37 5).toNatClampNeg b4), J, R) none (124, (uI (uI (uI (uI (uI I 38 (I 37 5).toNatClampNeg b1) 39 (I 37 5).toNatClampNeg b2) 40 (I 37 5).toNatClampNeg b3) 41 (I 37 5).toNatClampNeg b4) 42 (I 37 5).toNatClampNeg b5), J, R)) : xEv L xs (d + 1) 44 0 [.ref 37, .int b1, .int b2, .int b3, .int b4, .int b5] [] (124, I, J, R) none (124, (uI (uI (uI (uI (uI (uI I 38 (I 37 5).toNatClampNeg b1) 39 (I 37 5).toNatClampNeg b2) 40 (I 37 5).toNatClampNeg b3) 41 (I 37 5).toNatClampNeg b4) 42 (I 37 5).toNatClampNeg b5) 37 5 ((I 37 5) + 1)), J, R) := by
  refine ev_go 1 (pc1 := 1) (lv1 := [.ref 37, .int b1, .int b2, .int b3, .int b4, .int b5]) (st1 := [.ref 37]) (h1 := (124, I, J, R)) rfl ?_
  refine ev_gf (c := 37) (t := 38) (X := R 37 0) rfl rfl (fun _ => rfl) rfl (hG 37 0 38 rfl rfl) ?_
  refine ev_go 3 (pc1 := 9) (lv1 := [.ref 37, .int b1, .int b2, .int b3, .int b4, .int b5]) (st1 := [.int b1, .int (I 37 5), .ref 38]) (h1 := (124, I, J, R)) rfl ?_
  refine ev_call (v1 := none) (h1 := (124, (uI I 38 (I 37 5).toNatClampNeg b1), J, R)) rfl rfl c1 ?_
  refine ev_go 1 (pc1 := 13) (lv1 := [.ref 37, .int b1, .int b2, .int b3, .int b4, .int b5]) (st1 := [.ref 37]) (h1 := (124, (uI I 38 (I 37 5).toNatClampNeg b1), J, R)) rfl ?_
  refine ev_gf (c := 37) (t := 39) (X := R 37 1) rfl rfl (fun _ => rfl) rfl (hG 37 1 39 rfl rfl) ?_
  refine ev_go 3 (pc1 := 21) (lv1 := [.ref 37, .int b1, .int b2, .int b3, .int b4, .int b5]) (st1 := [.int b2, .int (I 37 5), .ref 39]) (h1 := (124, (uI I 38 (I 37 5).toNatClampNeg b1), J, R)) rfl ?_
  refine ev_call (v1 := none) (h1 := (124, (uI (uI I 38 (I 37 5).toNatClampNeg b1) 39 (I 37 5).toNatClampNeg b2), J, R)) rfl rfl c2 ?_
  refine ev_go 1 (pc1 := 25) (lv1 := [.ref 37, .int b1, .int b2, .int b3, .int b4, .int b5]) (st1 := [.ref 37]) (h1 := (124, (uI (uI I 38 (I 37 5).toNatClampNeg b1) 39 (I 37 5).toNatClampNeg b2), J, R)) rfl ?_
  refine ev_gf (c := 37) (t := 40) (X := R 37 2) rfl rfl (fun _ => rfl) rfl (hG 37 2 40 rfl rfl) ?_
  refine ev_go 3 (pc1 := 33) (lv1 := [.ref 37, .int b1, .int b2, .int b3, .int b4, .int b5]) (st1 := [.int b3, .int (I 37 5), .ref 40]) (h1 := (124, (uI (uI I 38 (I 37 5).toNatClampNeg b1) 39 (I 37 5).toNatClampNeg b2), J, R)) rfl ?_
  refine ev_call (v1 := none) (h1 := (124, (uI (uI (uI I 38 (I 37 5).toNatClampNeg b1) 39 (I 37 5).toNatClampNeg b2) 40 (I 37 5).toNatClampNeg b3), J, R)) rfl rfl c3 ?_
  refine ev_go 1 (pc1 := 37) (lv1 := [.ref 37, .int b1, .int b2, .int b3, .int b4, .int b5]) (st1 := [.ref 37]) (h1 := (124, (uI (uI (uI I 38 (I 37 5).toNatClampNeg b1) 39 (I 37 5).toNatClampNeg b2) 40 (I 37 5).toNatClampNeg b3), J, R)) rfl ?_
  refine ev_gf (c := 37) (t := 41) (X := R 37 3) rfl rfl (fun _ => rfl) rfl (hG 37 3 41 rfl rfl) ?_
  refine ev_go 3 (pc1 := 46) (lv1 := [.ref 37, .int b1, .int b2, .int b3, .int b4, .int b5]) (st1 := [.int b4, .int (I 37 5), .ref 41]) (h1 := (124, (uI (uI (uI I 38 (I 37 5).toNatClampNeg b1) 39 (I 37 5).toNatClampNeg b2) 40 (I 37 5).toNatClampNeg b3), J, R)) rfl ?_
  refine ev_call (v1 := none) (h1 := (124, (uI (uI (uI (uI I 38 (I 37 5).toNatClampNeg b1) 39 (I 37 5).toNatClampNeg b2) 40 (I 37 5).toNatClampNeg b3) 41 (I 37 5).toNatClampNeg b4), J, R)) rfl rfl c4 ?_
  refine ev_go 1 (pc1 := 50) (lv1 := [.ref 37, .int b1, .int b2, .int b3, .int b4, .int b5]) (st1 := [.ref 37]) (h1 := (124, (uI (uI (uI (uI I 38 (I 37 5).toNatClampNeg b1) 39 (I 37 5).toNatClampNeg b2) 40 (I 37 5).toNatClampNeg b3) 41 (I 37 5).toNatClampNeg b4), J, R)) rfl ?_
  refine ev_gf (c := 37) (t := 42) (X := R 37 4) rfl rfl (fun _ => rfl) rfl (hG 37 4 42 rfl rfl) ?_
  refine ev_go 3 (pc1 := 59) (lv1 := [.ref 37, .int b1, .int b2, .int b3, .int b4, .int b5]) (st1 := [.int b5, .int (I 37 5), .ref 42]) (h1 := (124, (uI (uI (uI (uI I 38 (I 37 5).toNatClampNeg b1) 39 (I 37 5).toNatClampNeg b2) 40 (I 37 5).toNatClampNeg b3) 41 (I 37 5).toNatClampNeg b4), J, R)) rfl ?_
  refine ev_call (v1 := none) (h1 := (124, (uI (uI (uI (uI (uI I 38 (I 37 5).toNatClampNeg b1) 39 (I 37 5).toNatClampNeg b2) 40 (I 37 5).toNatClampNeg b3) 41 (I 37 5).toNatClampNeg b4) 42 (I 37 5).toNatClampNeg b5), J, R)) rfl rfl c5 ?_
  refine ev_go 6 (pc1 := 72) (lv1 := [.ref 37, .int b1, .int b2, .int b3, .int b4, .int b5]) (st1 := []) (h1 := (124, (uI (uI (uI (uI (uI (uI I 38 (I 37 5).toNatClampNeg b1) 39 (I 37 5).toNatClampNeg b2) 40 (I 37 5).toNatClampNeg b3) 41 (I 37 5).toNatClampNeg b4) 42 (I 37 5).toNatClampNeg b5) 37 5 ((I 37 5) + 1)), J, R)) rfl ?_
  exact ev_ret rfl rfl
/-- add, exactly -/
theorem add_run_23 {L : Nat} {xs : Nat → Int32} {d : Nat} {I : Nat → Nat → Int32} {J : Nat → Nat → Int64} {R : Nat → Nat → Nat} (hG : aGd R) {b1 b2 b3 b4 b5 : Int32} (h0 : 0 ≤ (I 37 5).toInt) (h1 : (I 37 5).toInt < 64) : xEv L xs (d + 1) 44 0 [.ref 37, .int b1, .int b2, .int b3, .int b4, .int b5] [] (124, I, J, R) none (124, (uI (uI (uI (uI (uI (uI I 38 (I 37 5).toNatClampNeg b1) 39 (I 37 5).toNatClampNeg b2) 40 (I 37 5).toNatClampNeg b3) 41 (I 37 5).toNatClampNeg b4) 42 (I 37 5).toNatClampNeg b5) 37 5 ((I 37 5) + 1)), J, R) := by
  have P : ∀ (I' : Nat → Nat → Int32) (c : Nat) (x : Int32), (∀ f : FieldType → Nat → Option xR, xarr (124, I', J, R) c f = f .int 64) → xEv L xs d 33 0 [.ref c, .int (I 37 5), .int x] [] (124, I', J, R) none (124, uI I' c (I 37 5).toNatClampNeg x, J, R) := by
    intro I' c x ho
    have h2 := put_run (L := L) (xs := xs) (d := d) (h := (124, I', J, R)) ho (by decide) (I 37 5) x
    rw [if_pos ⟨h0, h1⟩] at h2
    exact h2
  exact lt_add_23 hG (P _ _ _ (fun _ => rfl)) (P _ _ _ (fun _ => rfl)) (P _ _ _ (fun _ => rfl)) (P _ _ _ (fun _ => rfl)) (P _ _ _ (fun _ => rfl))
def ltInv_23 (h0 : xH) (J : Nat → Nat → Int64) (R : Nat → Nat → Nat) (I0 : Nat → Nat → Int32) (c : Nat) (I : Nat → Nat → Int32) : Prop := aGood (124, I, J, R) ∧ aFr (aMod 178) h0 (124, I, J, R) ∧ I 23 15 = I0 23 15 ∧ (∀ k, I 29 k = I0 29 k) ∧ (I 37 5).toInt = c
theorem ltL_23 {L : Nat} {xs : Nat → Int32} {d : Nat} {h0 : aE} {J : Nat → Nat → Int64} {R : Nat → Nat → Nat} {I0 : Nat → Nat → Int32} {M : Nat} (hM : (I0 23 15).toInt = M) (hM2 : M ≤ 16) (f : Nat → Int) (hf : f = fun k => (I0 29 k).toInt) {u : Int32} {U : Nat} (hu : u.toInt = U) (hU : U < 96) (kk : ∀ I', ltInv_23 h0.1 J R I0 (cOut f M (U + 1)) I' → ∀ w, aT L xs (d + 2) 178 h0 2 [.ref 23, .int (u + 1), w] [] (124, I', J, R)) : ∀ (q : Nat) (m : Int32) (m' : Nat) (I : Nat → Nat → Int32), M - m' = q → m.toInt = m' → m' ≤ M → ltInv_23 h0.1 J R I0 (cOut f M U + cIn f ((U % 24 : Nat) : Int) m') I → aT L xs (d + 2) 178 h0 10 [.ref 23, .int u, .int m] [] (124, I, J, R) := by
  intro q
  induction q with
  | zero =>
    intro m m' I h1 h2 h3 hI
    have e : m' = M := by omega
    subst e
    obtain ⟨hg, hfr, i1, i2, i3⟩ := hI
    exact aT_of (fun hk => lt_c_23 (gd_of hg) (by rw [i1]; omega) hk) (kk I ⟨hg, hfr, i1, i2, i3⟩ _)
  | succ q ih =>
    intro m m' I h1 h2 h3 hI
    obtain ⟨hg, hfr, i1, i2, i3⟩ := hI
    have ei := i_add1 (x := m) (by omega)
    have ec := clamp_s (i := m) (by omega)
    have e2 : m.toNatClampNeg = m' := by omega
    have er := rem24 hu
    have ef : f m' = (I 29 m').toInt := by rw [hf, i2]
    have hcS : cIn f ((U % 24 : Nat) : Int) (m' + 1) = cIn f ((U % 24 : Nat) : Int) m' + (if f m' = ((U % 24 : Nat) : Int) then 1 else 0) := rfl
    have at1 : ∀ c, (∀ g : FieldType → Nat → Option xR, xarr (124, I, J, R) c g = g .int 16) → xEv L xs (d + 1) 39 0 [.ref c, .int m] [] (124, I, J, R) (some (.int (I c m'))) (124, I, J, R) := by
      intro c ho
      have h4 := at_run (L := L) (xs := xs) (d := d + 1) (h := (124, I, J, R)) ho (by decide) m
      rw [if_pos ⟨by omega, by omega⟩, e2] at h4
      exact h4
    by_cases hq : (I 29 m').toInt = ((U % 24 : Nat) : Int)
    · rw [if_pos (by rw [ef]; exact hq)] at hcS
      have hle := cnt_le f hU (m := m' + 1) (M := M) (by omega)
      have ea : (I 37 5 + 1).toInt = (I 37 5).toInt + 1 := i_add1 (by omega)
      refine aT_of (fun hk => lt_e_23 (gd_of hg) (by rw [i1]; omega) (at1 29 (fun _ => rfl)) (by rw [hq, er]) (at1 27 (fun _ => rfl)) (at1 28 (fun _ => rfl)) (at1 30 (fun _ => rfl)) (add_run_23 (gd_of hg) (by omega) (by omega)) hk) (ih (m + 1) (m' + 1) _ (by omega) (by omega) (by omega) ⟨?_, ?_, ?_, ?_, ?_⟩)
      · refine gd_I (gd_I (gd_I (gd_I (gd_I (gd_I hg ?_ ?_) ?_ ?_) ?_ ?_) ?_ ?_) ?_ ?_) ?_ ?_
        · exact (aw _).1
        · exact (aw _).2
        · exact (aw _).1
        · exact (aw _).2
        · exact (aw _).1
        · exact (aw _).2
        · exact (aw _).1
        · exact (aw _).2
        · exact (aw _).1
        · exact (aw _).2
        · show (0 : Int) ≤ (I 37 5 + 1).toInt; omega
        · show (I 37 5 + 1).toInt ≤ 64; omega
      · exact fr_uI (fr_uI (fr_uI (fr_uI (fr_uI (fr_uI hfr (md (n := 96) rfl rfl)) (md (n := 97) rfl rfl)) (md (n := 98) rfl rfl)) (md (n := 99) rfl rfl)) (md (n := 100) rfl rfl)) rfl
      · exact i1
      · exact i2
      · show (I 37 5 + 1).toInt = _
        rw [hcS]
        omega
    · rw [if_neg (by rw [ef]; exact hq)] at hcS
      exact aT_of (fun hk => lt_d_23 (gd_of hg) (by rw [i1]; omega) (at1 29 (fun _ => rfl)) (by rw [er]; exact hq) hk) (ih (m + 1) (m' + 1) I (by omega) (by omega) (by omega) ⟨hg, hfr, i1, i2, by rw [hcS]; omega⟩)
theorem ltO_23 {L : Nat} {xs : Nat → Int32} {d : Nat} {h0 : aE} {J : Nat → Nat → Int64} {R : Nat → Nat → Nat} {I0 : Nat → Nat → Int32} {M : Nat} (hM : (I0 23 15).toInt = M) (hM2 : M ≤ 16) (f : Nat → Int) (hf : f = fun k => (I0 29 k).toInt) (kk : ∀ I', ltInv_23 h0.1 J R I0 (cOut f M 96) I' → ∀ w, aT L xs (d + 2) 178 h0 80 [.ref 23, .int 0, w] [] (124, I', J, R)) : ∀ (q : Nat) (u : Int32) (U : Nat) (I : Nat → Nat → Int32), 96 - U = q → u.toInt = U → U ≤ 96 → ltInv_23 h0.1 J R I0 (cOut f M U) I → ∀ w, aT L xs (d + 2) 178 h0 2 [.ref 23, .int u, w] [] (124, I, J, R) := by
  intro q
  induction q with
  | zero =>
    intro u U I h1 h2 h3 hI w
    have e : U = 96 := by omega
    subst e
    exact aT_of (fun hk => lt_a_23 (gd_of hI.1) (by omega) hk) (kk I hI _)
  | succ q ih =>
    intro u U I h1 h2 h3 hI w
    have ei := i_add1 (x := u) (by omega)
    refine aT_of (fun hk => lt_b_23 (gd_of hI.1) (by omega) hk) (ltL_23 hM hM2 f hf h2 (by omega) (fun I' hI' w' => ih (u + 1) (U + 1) I' (by omega) (by omega) (by omega) hI' w') _ 0 0 I rfl rfl (Nat.zero_le _) hI)
theorem ltN_23 (hk : aOK 4) {L : Nat} {xs : Nat → Int32} {d : Nat} {h0 : aE} : ∀ (q : Nat) (n : Int32) (n' : Nat) (I : Nat → Nat → Int32) (J : Nat → Nat → Int64) (R : Nat → Nat → Nat), 4 - n' = q → n.toInt = n' → n' ≤ 4 → aGood (124, I, J, R) → aFr (aMod 178) h0.1 (124, I, J, R) → ∀ w, aT L xs (d + 2) 178 h0 80 [.ref 23, .int n, w] [] (124, I, J, R) := by
  intro q
  induction q with
  | zero =>
    intro n n' I J R h1 h2 h3 hg hf w
    have hy := good_int hg 23 16 rfl
    have hy2 : (aRng 23 16) = (0, 4) := rfl
    rw [hy2] at hy
    dsimp only at hy
    exact ⟨_, _, lt_f_23 (gd_of hg) (by omega), post1 (cs := (none, [], [], [])) (List.mem_singleton.mpr rfl) hg hf (cok_v fok0)⟩
  | succ q ih =>
    intro n n' I J R h1 h2 h3 hg hf w
    have hy := good_int hg 23 16 rfl
    have hy2 : (aRng 23 16) = (0, 4) := rfl
    rw [hy2] at hy
    dsimp only at hy
    by_cases hn : n.toInt ≥ (I 23 16).toInt
    · exact ⟨_, _, lt_f_23 (gd_of hg) hn, post1 (cs := (none, [], [], [])) (List.mem_singleton.mpr rfl) hg hf (cok_v fok0)⟩
    · have ei := i_add1 (x := n) (by omega)
      have h4 := at_run (L := L) (xs := xs) (d := d + 1) (h := (124, I, J, R)) (c := 33) (n := 4) (fun _ => rfl) (by decide) n
      generalize (if 0 ≤ n.toInt ∧ n.toInt < ((4 : Nat) : Int) then ((124, I, J, R) : xH).2.1 33 n.toNatClampNeg else 0) = x at h4
      obtain ⟨v1, ⟨n1, I1, J1, R1⟩, he, hg1, hf1, cs, hcs, hc⟩ := hk L xs (d + 1) [.ref 37, .int x] (124, I, J, R) (show 1 ≤ d + 1 by omega) hg ⟨g0_r (by decide), g0_i (aw _).1 (aw _).2, rfl⟩ fok0
      have e1 : n1 = 124 := hg1.1
      subst e1
      have hcs2 := List.mem_singleton.mp hcs
      subst hcs2
      obtain ⟨⟨v2, q1, y, q2, q3, q4⟩, -, -, -⟩ := hc
      subst q1
      subst q2
      have h5 := put_run (L := L) (xs := xs) (d := d + 1) (h := (124, I1, J1, R1)) (c := 36) (n := 4) (fun _ => rfl) (by decide) n y
      rw [if_pos ⟨by omega, by omega⟩] at h5
      exact aT_of (fun hk => lt_g_23 (gd_of hg) (by omega) h4 he (gd_of hg1) h5 hk) (ih (n + 1) (n' + 1) _ J1 R1 (by omega) (by omega) (by omega) (gd_I (c := 36) (k := n.toNatClampNeg) (v := y) hg1 q3 q4) (fr_uI (aFr_trans rfl hf hf1) (md (n := 89) rfl rfl)) _)
theorem okh_178 (hkn : ∀ n, n < 178 → aOK n) : aOK 178 := by
  intro L xs d vs h hd hg hA hF
  obtain ⟨n0, I, J, R⟩ := h
  have e1 : n0 = 124 := hg.1
  subst e1
  have e2 := args_R (c := 23) hA
  subst e2
  have hd7 : 3 ≤ d := hd
  obtain ⟨d, rfl⟩ : ∃ e, d = e + 2 := ⟨d - 2, by omega⟩
  have ff := aFr_refl (aMod 178) (124, I, J, R)
  have hz := fok_at hF (c := 37) (k := 5) (lo := 0) (hi := 0) List.mem_cons_self rfl
  have hz0 : (I 37 5).toInt = 0 := by have h3 : 0 ≤ (I 37 5).toInt ∧ (I 37 5).toInt ≤ 0 := hz; omega
  have hy := good_int hg 23 15 rfl
  have hy2 : (aRng 23 15) = (0, 16) := rfl
  rw [hy2] at hy
  dsimp only at hy
  obtain ⟨M, hM⟩ := Int.eq_ofNat_of_zero_le hy.1
  refine aT_of (pc1 := 2) (lv1 := [.ref 23, .int 0, xmk]) (st1 := []) (h1 := (124, I, J, R)) (fun hk => ev_go 2 rfl hk) ?_
  refine ltO_23 (I0 := I) (M := M) hM (by omega) _ rfl ?_ _ 0 0 _ rfl rfl (Nat.zero_le _) ⟨hg, ff, rfl, fun _ => rfl, hz0⟩ _
  intro I' hI' w
  exact ltN_23 (hkn 4 (by decide)) _ 0 0 I' J R rfl rfl (by decide) hI'.1 hI'.2.1 _
