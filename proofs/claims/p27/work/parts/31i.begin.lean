set_option maxRecDepth 20000 in
theorem bN_s {L : Nat} {xs : Nat → Int32} {d : Nat} {I : Nat → Nat → Int32} {J : Nat → Nat → Int64} {R : Nat → Nat → Nat} {a : Int32} (hG : aGd R) (b1 : a.toInt ≥ 0) {v : Option Value} {h' : xH} (hk : xEv L xs d 222 54 [.ref 86, .int a, .int 0] [] (124, (uI (uI (uI (uI (uI (uI (uI (uI (uI I 121 0 1) 121 1 0) 121 2 1) 121 3 1) 121 4 1) 121 5 1) 121 6 1) 121 7 1) 121 8 1), (uL J 122 0 a.toInt64), R) v h') : xEv L xs d 222 0 [.ref 86, .int a, xmk] [] (124, I, J, R) v h' := by
  refine ev_go 1 (pc1 := 1) (lv1 := [.ref 86, .int a, xmk]) (st1 := [.int a]) (h1 := (124, I, J, R)) rfl ?_
  refine ev_br (b1 := true) rfl rfl (xcd_ge (x := a) (y := 0) (by rw [show ((0 : Int32)).toInt = 0 from by decide]; first | exact b1 | omega)) ?_
  refine ev_go 1 (pc1 := 8) (lv1 := [.ref 86, .int a, xmk]) (st1 := [.ref 86]) (h1 := (124, I, J, R)) rfl ?_
  refine ev_gf (c := 86) (t := 121) (X := R 86 56) rfl rfl (fun _ => rfl) rfl (hG 86 56 121 rfl rfl) ?_
  refine ev_go 4 (pc1 := 15) (lv1 := [.ref 86, .int a, xmk]) (st1 := [.ref 86]) (h1 := (124, (uI I 121 0 1), J, R)) rfl ?_
  refine ev_gf (c := 86) (t := 121) (X := R 86 56) rfl rfl (fun _ => rfl) rfl (hG 86 56 121 rfl rfl) ?_
  refine ev_go 4 (pc1 := 22) (lv1 := [.ref 86, .int a, xmk]) (st1 := [.ref 86]) (h1 := (124, (uI (uI I 121 0 1) 121 1 0), J, R)) rfl ?_
  refine ev_gf (c := 86) (t := 122) (X := R 86 57) rfl rfl (fun _ => rfl) rfl (hG 86 57 122 rfl rfl) ?_
  refine ev_go 10 (pc1 := 38) (lv1 := [.ref 86, .int a, .int 0]) (st1 := [.ref 86]) (h1 := (124, (uI (uI I 121 0 1) 121 1 0), (uL J 122 0 a.toInt64), R)) rfl ?_
  refine ev_gf (c := 86) (t := 121) (X := R 86 56) rfl rfl (fun _ => rfl) rfl (hG 86 56 121 rfl rfl) ?_
  refine ev_go 11 (pc1 := 38) (lv1 := [.ref 86, .int a, .int 1]) (st1 := [.ref 86]) (h1 := (124, (uI (uI (uI I 121 0 1) 121 1 0) 121 2 1), (uL J 122 0 a.toInt64), R)) rfl ?_
  refine ev_gf (c := 86) (t := 121) (X := R 86 56) rfl rfl (fun _ => rfl) rfl (hG 86 56 121 rfl rfl) ?_
  refine ev_go 11 (pc1 := 38) (lv1 := [.ref 86, .int a, .int 2]) (st1 := [.ref 86]) (h1 := (124, (uI (uI (uI (uI I 121 0 1) 121 1 0) 121 2 1) 121 3 1), (uL J 122 0 a.toInt64), R)) rfl ?_
  refine ev_gf (c := 86) (t := 121) (X := R 86 56) rfl rfl (fun _ => rfl) rfl (hG 86 56 121 rfl rfl) ?_
  refine ev_go 11 (pc1 := 38) (lv1 := [.ref 86, .int a, .int 3]) (st1 := [.ref 86]) (h1 := (124, (uI (uI (uI (uI (uI I 121 0 1) 121 1 0) 121 2 1) 121 3 1) 121 4 1), (uL J 122 0 a.toInt64), R)) rfl ?_
  refine ev_gf (c := 86) (t := 121) (X := R 86 56) rfl rfl (fun _ => rfl) rfl (hG 86 56 121 rfl rfl) ?_
  refine ev_go 11 (pc1 := 38) (lv1 := [.ref 86, .int a, .int 4]) (st1 := [.ref 86]) (h1 := (124, (uI (uI (uI (uI (uI (uI I 121 0 1) 121 1 0) 121 2 1) 121 3 1) 121 4 1) 121 5 1), (uL J 122 0 a.toInt64), R)) rfl ?_
  refine ev_gf (c := 86) (t := 121) (X := R 86 56) rfl rfl (fun _ => rfl) rfl (hG 86 56 121 rfl rfl) ?_
  refine ev_go 11 (pc1 := 38) (lv1 := [.ref 86, .int a, .int 5]) (st1 := [.ref 86]) (h1 := (124, (uI (uI (uI (uI (uI (uI (uI I 121 0 1) 121 1 0) 121 2 1) 121 3 1) 121 4 1) 121 5 1) 121 6 1), (uL J 122 0 a.toInt64), R)) rfl ?_
  refine ev_gf (c := 86) (t := 121) (X := R 86 56) rfl rfl (fun _ => rfl) rfl (hG 86 56 121 rfl rfl) ?_
  refine ev_go 11 (pc1 := 38) (lv1 := [.ref 86, .int a, .int 6]) (st1 := [.ref 86]) (h1 := (124, (uI (uI (uI (uI (uI (uI (uI (uI I 121 0 1) 121 1 0) 121 2 1) 121 3 1) 121 4 1) 121 5 1) 121 6 1) 121 7 1), (uL J 122 0 a.toInt64), R)) rfl ?_
  refine ev_gf (c := 86) (t := 121) (X := R 86 56) rfl rfl (fun _ => rfl) rfl (hG 86 56 121 rfl rfl) ?_
  refine ev_go 12 (pc1 := 54) (lv1 := [.ref 86, .int a, .int 0]) (st1 := []) (h1 := (124, (uI (uI (uI (uI (uI (uI (uI (uI (uI I 121 0 1) 121 1 0) 121 2 1) 121 3 1) 121 4 1) 121 5 1) 121 6 1) 121 7 1) 121 8 1), (uL J 122 0 a.toInt64), R)) rfl ?_
  exact hk
set_option maxRecDepth 20000 in
theorem bN_n {L : Nat} {xs : Nat → Int32} {d : Nat} {I : Nat → Nat → Int32} {J : Nat → Nat → Int64} {R : Nat → Nat → Nat} {a : Int32} (hG : aGd R) (b1 : a.toInt < 0) : xEv L xs d 222 0 [.ref 86, .int a, xmk] [] (124, I, J, R) (some (.int (-2))) (124, I, J, R) := by
  refine ev_go 1 (pc1 := 1) (lv1 := [.ref 86, .int a, xmk]) (st1 := [.int a]) (h1 := (124, I, J, R)) rfl ?_
  refine ev_br (b1 := false) rfl rfl (xcd_nge (x := a) (y := 0) (by rw [show ((0 : Int32)).toInt = 0 from by decide]; first | exact b1 | omega)) ?_
  refine ev_go 1 (pc1 := 6) (lv1 := [.ref 86, .int a, xmk]) (st1 := [.int (-2)]) (h1 := (124, I, J, R)) rfl ?_
  exact ev_ret rfl rfl
set_option maxRecDepth 20000 in
theorem bN_0_0 {L : Nat} {xs : Nat → Int32} {d : Nat} {I : Nat → Nat → Int32} {J : Nat → Nat → Int64} {R : Nat → Nat → Nat} {a : Int32} (hG : aGd R) (c1 : xEv L xs d 168 0 [.ref 86, .int 0] [] (124, I, J, R) (some (.int 0)) (124, I, J, R)) {v : Option Value} {h' : xH} (hk : xEv L xs (d + 1) 222 54 [.ref 86, .int a, .int 1] [] (124, (uI (uI (uI (uI I 121 9 (-1)) 121 13 0) 121 17 (-1)) 121 21 (-1)), J, R) v h') : xEv L xs (d + 1) 222 54 [.ref 86, .int a, .int 0] [] (124, I, J, R) v h' := by
  refine ev_go 4 (pc1 := 60) (lv1 := [.ref 86, .int a, .int 0]) (st1 := [.ref 86]) (h1 := (124, I, J, R)) rfl ?_
  refine ev_gf (c := 86) (t := 121) (X := R 86 56) rfl rfl (fun _ => rfl) rfl (hG 86 56 121 rfl rfl) ?_
  refine ev_go 5 (pc1 := 69) (lv1 := [.ref 86, .int a, .int 0]) (st1 := [.int 0, .ref 86, .int 9, .ref 121]) (h1 := (124, I, J, R)) rfl ?_
  refine ev_call (v1 := (some (.int 0))) (h1 := (124, I, J, R)) rfl rfl c1 ?_
  refine ev_go 4 (pc1 := 87) (lv1 := [.ref 86, .int a, .int 0]) (st1 := [.ref 86]) (h1 := (124, (uI I 121 9 (-1)), J, R)) rfl ?_
  refine ev_gf (c := 86) (t := 121) (X := R 86 56) rfl rfl (fun _ => rfl) rfl (hG 86 56 121 rfl rfl) ?_
  refine ev_go 6 (pc1 := 97) (lv1 := [.ref 86, .int a, .int 0]) (st1 := [.ref 86]) (h1 := (124, (uI (uI I 121 9 (-1)) 121 13 0), J, R)) rfl ?_
  refine ev_gf (c := 86) (t := 121) (X := R 86 56) rfl rfl (fun _ => rfl) rfl (hG 86 56 121 rfl rfl) ?_
  refine ev_go 6 (pc1 := 107) (lv1 := [.ref 86, .int a, .int 0]) (st1 := [.ref 86]) (h1 := (124, (uI (uI (uI I 121 9 (-1)) 121 13 0) 121 17 (-1)), J, R)) rfl ?_
  refine ev_gf (c := 86) (t := 121) (X := R 86 56) rfl rfl (fun _ => rfl) rfl (hG 86 56 121 rfl rfl) ?_
  refine ev_go 7 (pc1 := 54) (lv1 := [.ref 86, .int a, .int 1]) (st1 := []) (h1 := (124, (uI (uI (uI (uI I 121 9 (-1)) 121 13 0) 121 17 (-1)) 121 21 (-1)), J, R)) rfl ?_
  exact hk
set_option maxRecDepth 20000 in
theorem bN_0_1 {L : Nat} {xs : Nat → Int32} {d : Nat} {I : Nat → Nat → Int32} {J : Nat → Nat → Int64} {R : Nat → Nat → Nat} {a : Int32} (hG : aGd R) (c1 : xEv L xs d 168 0 [.ref 86, .int 0] [] (124, I, J, R) (some (.int 1)) (124, I, J, R)) {v : Option Value} {h' : xH} (hk : xEv L xs (d + 1) 222 54 [.ref 86, .int a, .int 1] [] (124, (uI (uI (uI (uI I 121 9 (I 96 0)) 121 13 0) 121 17 (-1)) 121 21 (-1)), J, R) v h') : xEv L xs (d + 1) 222 54 [.ref 86, .int a, .int 0] [] (124, I, J, R) v h' := by
  refine ev_go 4 (pc1 := 60) (lv1 := [.ref 86, .int a, .int 0]) (st1 := [.ref 86]) (h1 := (124, I, J, R)) rfl ?_
  refine ev_gf (c := 86) (t := 121) (X := R 86 56) rfl rfl (fun _ => rfl) rfl (hG 86 56 121 rfl rfl) ?_
  refine ev_go 5 (pc1 := 69) (lv1 := [.ref 86, .int a, .int 0]) (st1 := [.int 0, .ref 86, .int 9, .ref 121]) (h1 := (124, I, J, R)) rfl ?_
  refine ev_call (v1 := (some (.int 1))) (h1 := (124, I, J, R)) rfl rfl c1 ?_
  refine ev_go 2 (pc1 := 76) (lv1 := [.ref 86, .int a, .int 0]) (st1 := [.ref 86, .int 9, .ref 121]) (h1 := (124, I, J, R)) rfl ?_
  refine ev_gf (c := 86) (t := 96) (X := R 86 20) rfl rfl (fun _ => rfl) rfl (hG 86 20 96 rfl rfl) ?_
  refine ev_go 5 (pc1 := 87) (lv1 := [.ref 86, .int a, .int 0]) (st1 := [.ref 86]) (h1 := (124, (uI I 121 9 (I 96 0)), J, R)) rfl ?_
  refine ev_gf (c := 86) (t := 121) (X := R 86 56) rfl rfl (fun _ => rfl) rfl (hG 86 56 121 rfl rfl) ?_
  refine ev_go 6 (pc1 := 97) (lv1 := [.ref 86, .int a, .int 0]) (st1 := [.ref 86]) (h1 := (124, (uI (uI I 121 9 (I 96 0)) 121 13 0), J, R)) rfl ?_
  refine ev_gf (c := 86) (t := 121) (X := R 86 56) rfl rfl (fun _ => rfl) rfl (hG 86 56 121 rfl rfl) ?_
  refine ev_go 6 (pc1 := 107) (lv1 := [.ref 86, .int a, .int 0]) (st1 := [.ref 86]) (h1 := (124, (uI (uI (uI I 121 9 (I 96 0)) 121 13 0) 121 17 (-1)), J, R)) rfl ?_
  refine ev_gf (c := 86) (t := 121) (X := R 86 56) rfl rfl (fun _ => rfl) rfl (hG 86 56 121 rfl rfl) ?_
  refine ev_go 7 (pc1 := 54) (lv1 := [.ref 86, .int a, .int 1]) (st1 := []) (h1 := (124, (uI (uI (uI (uI I 121 9 (I 96 0)) 121 13 0) 121 17 (-1)) 121 21 (-1)), J, R)) rfl ?_
  exact hk
set_option maxRecDepth 20000 in
theorem bN_1_0 {L : Nat} {xs : Nat → Int32} {d : Nat} {I : Nat → Nat → Int32} {J : Nat → Nat → Int64} {R : Nat → Nat → Nat} {a : Int32} (hG : aGd R) (c1 : xEv L xs d 168 0 [.ref 86, .int 1] [] (124, I, J, R) (some (.int 0)) (124, I, J, R)) {v : Option Value} {h' : xH} (hk : xEv L xs (d + 1) 222 54 [.ref 86, .int a, .int 2] [] (124, (uI (uI (uI (uI I 121 10 (-1)) 121 14 0) 121 18 (-1)) 121 22 (-1)), J, R) v h') : xEv L xs (d + 1) 222 54 [.ref 86, .int a, .int 1] [] (124, I, J, R) v h' := by
  refine ev_go 4 (pc1 := 60) (lv1 := [.ref 86, .int a, .int 1]) (st1 := [.ref 86]) (h1 := (124, I, J, R)) rfl ?_
  refine ev_gf (c := 86) (t := 121) (X := R 86 56) rfl rfl (fun _ => rfl) rfl (hG 86 56 121 rfl rfl) ?_
  refine ev_go 5 (pc1 := 69) (lv1 := [.ref 86, .int a, .int 1]) (st1 := [.int 1, .ref 86, .int 10, .ref 121]) (h1 := (124, I, J, R)) rfl ?_
  refine ev_call (v1 := (some (.int 0))) (h1 := (124, I, J, R)) rfl rfl c1 ?_
  refine ev_go 4 (pc1 := 87) (lv1 := [.ref 86, .int a, .int 1]) (st1 := [.ref 86]) (h1 := (124, (uI I 121 10 (-1)), J, R)) rfl ?_
  refine ev_gf (c := 86) (t := 121) (X := R 86 56) rfl rfl (fun _ => rfl) rfl (hG 86 56 121 rfl rfl) ?_
  refine ev_go 6 (pc1 := 97) (lv1 := [.ref 86, .int a, .int 1]) (st1 := [.ref 86]) (h1 := (124, (uI (uI I 121 10 (-1)) 121 14 0), J, R)) rfl ?_
  refine ev_gf (c := 86) (t := 121) (X := R 86 56) rfl rfl (fun _ => rfl) rfl (hG 86 56 121 rfl rfl) ?_
  refine ev_go 6 (pc1 := 107) (lv1 := [.ref 86, .int a, .int 1]) (st1 := [.ref 86]) (h1 := (124, (uI (uI (uI I 121 10 (-1)) 121 14 0) 121 18 (-1)), J, R)) rfl ?_
  refine ev_gf (c := 86) (t := 121) (X := R 86 56) rfl rfl (fun _ => rfl) rfl (hG 86 56 121 rfl rfl) ?_
  refine ev_go 7 (pc1 := 54) (lv1 := [.ref 86, .int a, .int 2]) (st1 := []) (h1 := (124, (uI (uI (uI (uI I 121 10 (-1)) 121 14 0) 121 18 (-1)) 121 22 (-1)), J, R)) rfl ?_
  exact hk
set_option maxRecDepth 20000 in
theorem bN_1_1 {L : Nat} {xs : Nat → Int32} {d : Nat} {I : Nat → Nat → Int32} {J : Nat → Nat → Int64} {R : Nat → Nat → Nat} {a : Int32} (hG : aGd R) (c1 : xEv L xs d 168 0 [.ref 86, .int 1] [] (124, I, J, R) (some (.int 1)) (124, I, J, R)) {v : Option Value} {h' : xH} (hk : xEv L xs (d + 1) 222 54 [.ref 86, .int a, .int 2] [] (124, (uI (uI (uI (uI I 121 10 (I 96 1)) 121 14 0) 121 18 (-1)) 121 22 (-1)), J, R) v h') : xEv L xs (d + 1) 222 54 [.ref 86, .int a, .int 1] [] (124, I, J, R) v h' := by
  refine ev_go 4 (pc1 := 60) (lv1 := [.ref 86, .int a, .int 1]) (st1 := [.ref 86]) (h1 := (124, I, J, R)) rfl ?_
  refine ev_gf (c := 86) (t := 121) (X := R 86 56) rfl rfl (fun _ => rfl) rfl (hG 86 56 121 rfl rfl) ?_
  refine ev_go 5 (pc1 := 69) (lv1 := [.ref 86, .int a, .int 1]) (st1 := [.int 1, .ref 86, .int 10, .ref 121]) (h1 := (124, I, J, R)) rfl ?_
  refine ev_call (v1 := (some (.int 1))) (h1 := (124, I, J, R)) rfl rfl c1 ?_
  refine ev_go 2 (pc1 := 76) (lv1 := [.ref 86, .int a, .int 1]) (st1 := [.ref 86, .int 10, .ref 121]) (h1 := (124, I, J, R)) rfl ?_
  refine ev_gf (c := 86) (t := 96) (X := R 86 20) rfl rfl (fun _ => rfl) rfl (hG 86 20 96 rfl rfl) ?_
  refine ev_go 5 (pc1 := 87) (lv1 := [.ref 86, .int a, .int 1]) (st1 := [.ref 86]) (h1 := (124, (uI I 121 10 (I 96 1)), J, R)) rfl ?_
  refine ev_gf (c := 86) (t := 121) (X := R 86 56) rfl rfl (fun _ => rfl) rfl (hG 86 56 121 rfl rfl) ?_
  refine ev_go 6 (pc1 := 97) (lv1 := [.ref 86, .int a, .int 1]) (st1 := [.ref 86]) (h1 := (124, (uI (uI I 121 10 (I 96 1)) 121 14 0), J, R)) rfl ?_
  refine ev_gf (c := 86) (t := 121) (X := R 86 56) rfl rfl (fun _ => rfl) rfl (hG 86 56 121 rfl rfl) ?_
  refine ev_go 6 (pc1 := 107) (lv1 := [.ref 86, .int a, .int 1]) (st1 := [.ref 86]) (h1 := (124, (uI (uI (uI I 121 10 (I 96 1)) 121 14 0) 121 18 (-1)), J, R)) rfl ?_
  refine ev_gf (c := 86) (t := 121) (X := R 86 56) rfl rfl (fun _ => rfl) rfl (hG 86 56 121 rfl rfl) ?_
  refine ev_go 7 (pc1 := 54) (lv1 := [.ref 86, .int a, .int 2]) (st1 := []) (h1 := (124, (uI (uI (uI (uI I 121 10 (I 96 1)) 121 14 0) 121 18 (-1)) 121 22 (-1)), J, R)) rfl ?_
  exact hk
set_option maxRecDepth 20000 in
theorem bN_2_0 {L : Nat} {xs : Nat → Int32} {d : Nat} {I : Nat → Nat → Int32} {J : Nat → Nat → Int64} {R : Nat → Nat → Nat} {a : Int32} (hG : aGd R) (c1 : xEv L xs d 168 0 [.ref 86, .int 2] [] (124, I, J, R) (some (.int 0)) (124, I, J, R)) {v : Option Value} {h' : xH} (hk : xEv L xs (d + 1) 222 54 [.ref 86, .int a, .int 3] [] (124, (uI (uI (uI (uI I 121 11 (-1)) 121 15 0) 121 19 (-1)) 121 23 (-1)), J, R) v h') : xEv L xs (d + 1) 222 54 [.ref 86, .int a, .int 2] [] (124, I, J, R) v h' := by
  refine ev_go 4 (pc1 := 60) (lv1 := [.ref 86, .int a, .int 2]) (st1 := [.ref 86]) (h1 := (124, I, J, R)) rfl ?_
  refine ev_gf (c := 86) (t := 121) (X := R 86 56) rfl rfl (fun _ => rfl) rfl (hG 86 56 121 rfl rfl) ?_
  refine ev_go 5 (pc1 := 69) (lv1 := [.ref 86, .int a, .int 2]) (st1 := [.int 2, .ref 86, .int 11, .ref 121]) (h1 := (124, I, J, R)) rfl ?_
  refine ev_call (v1 := (some (.int 0))) (h1 := (124, I, J, R)) rfl rfl c1 ?_
  refine ev_go 4 (pc1 := 87) (lv1 := [.ref 86, .int a, .int 2]) (st1 := [.ref 86]) (h1 := (124, (uI I 121 11 (-1)), J, R)) rfl ?_
  refine ev_gf (c := 86) (t := 121) (X := R 86 56) rfl rfl (fun _ => rfl) rfl (hG 86 56 121 rfl rfl) ?_
  refine ev_go 6 (pc1 := 97) (lv1 := [.ref 86, .int a, .int 2]) (st1 := [.ref 86]) (h1 := (124, (uI (uI I 121 11 (-1)) 121 15 0), J, R)) rfl ?_
  refine ev_gf (c := 86) (t := 121) (X := R 86 56) rfl rfl (fun _ => rfl) rfl (hG 86 56 121 rfl rfl) ?_
  refine ev_go 6 (pc1 := 107) (lv1 := [.ref 86, .int a, .int 2]) (st1 := [.ref 86]) (h1 := (124, (uI (uI (uI I 121 11 (-1)) 121 15 0) 121 19 (-1)), J, R)) rfl ?_
  refine ev_gf (c := 86) (t := 121) (X := R 86 56) rfl rfl (fun _ => rfl) rfl (hG 86 56 121 rfl rfl) ?_
  refine ev_go 7 (pc1 := 54) (lv1 := [.ref 86, .int a, .int 3]) (st1 := []) (h1 := (124, (uI (uI (uI (uI I 121 11 (-1)) 121 15 0) 121 19 (-1)) 121 23 (-1)), J, R)) rfl ?_
  exact hk
set_option maxRecDepth 20000 in
theorem bN_2_1 {L : Nat} {xs : Nat → Int32} {d : Nat} {I : Nat → Nat → Int32} {J : Nat → Nat → Int64} {R : Nat → Nat → Nat} {a : Int32} (hG : aGd R) (c1 : xEv L xs d 168 0 [.ref 86, .int 2] [] (124, I, J, R) (some (.int 1)) (124, I, J, R)) {v : Option Value} {h' : xH} (hk : xEv L xs (d + 1) 222 54 [.ref 86, .int a, .int 3] [] (124, (uI (uI (uI (uI I 121 11 (I 96 2)) 121 15 0) 121 19 (-1)) 121 23 (-1)), J, R) v h') : xEv L xs (d + 1) 222 54 [.ref 86, .int a, .int 2] [] (124, I, J, R) v h' := by
  refine ev_go 4 (pc1 := 60) (lv1 := [.ref 86, .int a, .int 2]) (st1 := [.ref 86]) (h1 := (124, I, J, R)) rfl ?_
  refine ev_gf (c := 86) (t := 121) (X := R 86 56) rfl rfl (fun _ => rfl) rfl (hG 86 56 121 rfl rfl) ?_
  refine ev_go 5 (pc1 := 69) (lv1 := [.ref 86, .int a, .int 2]) (st1 := [.int 2, .ref 86, .int 11, .ref 121]) (h1 := (124, I, J, R)) rfl ?_
  refine ev_call (v1 := (some (.int 1))) (h1 := (124, I, J, R)) rfl rfl c1 ?_
  refine ev_go 2 (pc1 := 76) (lv1 := [.ref 86, .int a, .int 2]) (st1 := [.ref 86, .int 11, .ref 121]) (h1 := (124, I, J, R)) rfl ?_
  refine ev_gf (c := 86) (t := 96) (X := R 86 20) rfl rfl (fun _ => rfl) rfl (hG 86 20 96 rfl rfl) ?_
  refine ev_go 5 (pc1 := 87) (lv1 := [.ref 86, .int a, .int 2]) (st1 := [.ref 86]) (h1 := (124, (uI I 121 11 (I 96 2)), J, R)) rfl ?_
  refine ev_gf (c := 86) (t := 121) (X := R 86 56) rfl rfl (fun _ => rfl) rfl (hG 86 56 121 rfl rfl) ?_
  refine ev_go 6 (pc1 := 97) (lv1 := [.ref 86, .int a, .int 2]) (st1 := [.ref 86]) (h1 := (124, (uI (uI I 121 11 (I 96 2)) 121 15 0), J, R)) rfl ?_
  refine ev_gf (c := 86) (t := 121) (X := R 86 56) rfl rfl (fun _ => rfl) rfl (hG 86 56 121 rfl rfl) ?_
  refine ev_go 6 (pc1 := 107) (lv1 := [.ref 86, .int a, .int 2]) (st1 := [.ref 86]) (h1 := (124, (uI (uI (uI I 121 11 (I 96 2)) 121 15 0) 121 19 (-1)), J, R)) rfl ?_
  refine ev_gf (c := 86) (t := 121) (X := R 86 56) rfl rfl (fun _ => rfl) rfl (hG 86 56 121 rfl rfl) ?_
  refine ev_go 7 (pc1 := 54) (lv1 := [.ref 86, .int a, .int 3]) (st1 := []) (h1 := (124, (uI (uI (uI (uI I 121 11 (I 96 2)) 121 15 0) 121 19 (-1)) 121 23 (-1)), J, R)) rfl ?_
  exact hk
set_option maxRecDepth 20000 in
theorem bN_3_0 {L : Nat} {xs : Nat → Int32} {d : Nat} {I : Nat → Nat → Int32} {J : Nat → Nat → Int64} {R : Nat → Nat → Nat} {a : Int32} (hG : aGd R) (c1 : xEv L xs d 168 0 [.ref 86, .int 3] [] (124, I, J, R) (some (.int 0)) (124, I, J, R)) {v : Option Value} {h' : xH} (hk : xEv L xs (d + 1) 222 54 [.ref 86, .int a, .int 4] [] (124, (uI (uI (uI (uI I 121 12 (-1)) 121 16 0) 121 20 (-1)) 121 24 (-1)), J, R) v h') : xEv L xs (d + 1) 222 54 [.ref 86, .int a, .int 3] [] (124, I, J, R) v h' := by
  refine ev_go 4 (pc1 := 60) (lv1 := [.ref 86, .int a, .int 3]) (st1 := [.ref 86]) (h1 := (124, I, J, R)) rfl ?_
  refine ev_gf (c := 86) (t := 121) (X := R 86 56) rfl rfl (fun _ => rfl) rfl (hG 86 56 121 rfl rfl) ?_
  refine ev_go 5 (pc1 := 69) (lv1 := [.ref 86, .int a, .int 3]) (st1 := [.int 3, .ref 86, .int 12, .ref 121]) (h1 := (124, I, J, R)) rfl ?_
  refine ev_call (v1 := (some (.int 0))) (h1 := (124, I, J, R)) rfl rfl c1 ?_
  refine ev_go 4 (pc1 := 87) (lv1 := [.ref 86, .int a, .int 3]) (st1 := [.ref 86]) (h1 := (124, (uI I 121 12 (-1)), J, R)) rfl ?_
  refine ev_gf (c := 86) (t := 121) (X := R 86 56) rfl rfl (fun _ => rfl) rfl (hG 86 56 121 rfl rfl) ?_
  refine ev_go 6 (pc1 := 97) (lv1 := [.ref 86, .int a, .int 3]) (st1 := [.ref 86]) (h1 := (124, (uI (uI I 121 12 (-1)) 121 16 0), J, R)) rfl ?_
  refine ev_gf (c := 86) (t := 121) (X := R 86 56) rfl rfl (fun _ => rfl) rfl (hG 86 56 121 rfl rfl) ?_
  refine ev_go 6 (pc1 := 107) (lv1 := [.ref 86, .int a, .int 3]) (st1 := [.ref 86]) (h1 := (124, (uI (uI (uI I 121 12 (-1)) 121 16 0) 121 20 (-1)), J, R)) rfl ?_
  refine ev_gf (c := 86) (t := 121) (X := R 86 56) rfl rfl (fun _ => rfl) rfl (hG 86 56 121 rfl rfl) ?_
  refine ev_go 7 (pc1 := 54) (lv1 := [.ref 86, .int a, .int 4]) (st1 := []) (h1 := (124, (uI (uI (uI (uI I 121 12 (-1)) 121 16 0) 121 20 (-1)) 121 24 (-1)), J, R)) rfl ?_
  exact hk
set_option maxRecDepth 20000 in
theorem bN_3_1 {L : Nat} {xs : Nat → Int32} {d : Nat} {I : Nat → Nat → Int32} {J : Nat → Nat → Int64} {R : Nat → Nat → Nat} {a : Int32} (hG : aGd R) (c1 : xEv L xs d 168 0 [.ref 86, .int 3] [] (124, I, J, R) (some (.int 1)) (124, I, J, R)) {v : Option Value} {h' : xH} (hk : xEv L xs (d + 1) 222 54 [.ref 86, .int a, .int 4] [] (124, (uI (uI (uI (uI I 121 12 (I 96 3)) 121 16 0) 121 20 (-1)) 121 24 (-1)), J, R) v h') : xEv L xs (d + 1) 222 54 [.ref 86, .int a, .int 3] [] (124, I, J, R) v h' := by
  refine ev_go 4 (pc1 := 60) (lv1 := [.ref 86, .int a, .int 3]) (st1 := [.ref 86]) (h1 := (124, I, J, R)) rfl ?_
  refine ev_gf (c := 86) (t := 121) (X := R 86 56) rfl rfl (fun _ => rfl) rfl (hG 86 56 121 rfl rfl) ?_
  refine ev_go 5 (pc1 := 69) (lv1 := [.ref 86, .int a, .int 3]) (st1 := [.int 3, .ref 86, .int 12, .ref 121]) (h1 := (124, I, J, R)) rfl ?_
  refine ev_call (v1 := (some (.int 1))) (h1 := (124, I, J, R)) rfl rfl c1 ?_
  refine ev_go 2 (pc1 := 76) (lv1 := [.ref 86, .int a, .int 3]) (st1 := [.ref 86, .int 12, .ref 121]) (h1 := (124, I, J, R)) rfl ?_
  refine ev_gf (c := 86) (t := 96) (X := R 86 20) rfl rfl (fun _ => rfl) rfl (hG 86 20 96 rfl rfl) ?_
  refine ev_go 5 (pc1 := 87) (lv1 := [.ref 86, .int a, .int 3]) (st1 := [.ref 86]) (h1 := (124, (uI I 121 12 (I 96 3)), J, R)) rfl ?_
  refine ev_gf (c := 86) (t := 121) (X := R 86 56) rfl rfl (fun _ => rfl) rfl (hG 86 56 121 rfl rfl) ?_
  refine ev_go 6 (pc1 := 97) (lv1 := [.ref 86, .int a, .int 3]) (st1 := [.ref 86]) (h1 := (124, (uI (uI I 121 12 (I 96 3)) 121 16 0), J, R)) rfl ?_
  refine ev_gf (c := 86) (t := 121) (X := R 86 56) rfl rfl (fun _ => rfl) rfl (hG 86 56 121 rfl rfl) ?_
  refine ev_go 6 (pc1 := 107) (lv1 := [.ref 86, .int a, .int 3]) (st1 := [.ref 86]) (h1 := (124, (uI (uI (uI I 121 12 (I 96 3)) 121 16 0) 121 20 (-1)), J, R)) rfl ?_
  refine ev_gf (c := 86) (t := 121) (X := R 86 56) rfl rfl (fun _ => rfl) rfl (hG 86 56 121 rfl rfl) ?_
  refine ev_go 7 (pc1 := 54) (lv1 := [.ref 86, .int a, .int 4]) (st1 := []) (h1 := (124, (uI (uI (uI (uI I 121 12 (I 96 3)) 121 16 0) 121 20 (-1)) 121 24 (-1)), J, R)) rfl ?_
  exact hk
set_option maxRecDepth 20000 in
theorem bN_e {L : Nat} {xs : Nat → Int32} {d : Nat} {I : Nat → Nat → Int32} {J : Nat → Nat → Int64} {R : Nat → Nat → Nat} {a : Int32} (hG : aGd R)  : xEv L xs d 222 54 [.ref 86, .int a, .int 4] [] (124, I, J, R) (some (.int 1)) (124, I, J, R) := by
  refine ev_go 4 (pc1 := 123) (lv1 := [.ref 86, .int a, .int 4]) (st1 := [.int 1]) (h1 := (124, I, J, R)) rfl ?_
  exact ev_ret rfl rfl
theorem bNk_0 {L : Nat} {xs : Nat → Int32} {d : Nat} {I : Nat → Nat → Int32} {J : Nat → Nat → Int64} {R : Nat → Nat → Nat} (hG : aGd R) {nn : Nat} (q6 : (I 88 2).toInt = nn) {a : Int32} {v : Option Value} {h' : xH} (hk : xEv L xs (d + 2) 222 54 [.ref 86, .int a, .int 1] [] (124, uI (uI (uI (uI I 121 9 (if 0 < nn then I 96 0 else -1)) 121 13 0) 121 17 (-1)) 121 21 (-1), J, R) v h') : xEv L xs (d + 2) 222 54 [.ref 86, .int a, .int 0] [] (124, I, J, R) v h' := by
  rcases ie_run (L := L) (xs := xs) (d := d) (I := I) (J := J) hG q6 0 with ⟨h, x⟩ | ⟨h, x⟩
  · rw [show ((0 : Int32)).toInt = 0 from by decide] at h
    rw [if_pos (by omega)] at hk
    exact bN_0_1 hG x hk
  · rw [show ((0 : Int32)).toInt = 0 from by decide] at h
    rw [if_neg (by omega)] at hk
    exact bN_0_0 hG x hk
theorem bNk_1 {L : Nat} {xs : Nat → Int32} {d : Nat} {I : Nat → Nat → Int32} {J : Nat → Nat → Int64} {R : Nat → Nat → Nat} (hG : aGd R) {nn : Nat} (q6 : (I 88 2).toInt = nn) {a : Int32} {v : Option Value} {h' : xH} (hk : xEv L xs (d + 2) 222 54 [.ref 86, .int a, .int 2] [] (124, uI (uI (uI (uI I 121 10 (if 1 < nn then I 96 1 else -1)) 121 14 0) 121 18 (-1)) 121 22 (-1), J, R) v h') : xEv L xs (d + 2) 222 54 [.ref 86, .int a, .int 1] [] (124, I, J, R) v h' := by
  rcases ie_run (L := L) (xs := xs) (d := d) (I := I) (J := J) hG q6 1 with ⟨h, x⟩ | ⟨h, x⟩
  · rw [show ((1 : Int32)).toInt = 1 from by decide] at h
    rw [if_pos (by omega)] at hk
    exact bN_1_1 hG x hk
  · rw [show ((1 : Int32)).toInt = 1 from by decide] at h
    rw [if_neg (by omega)] at hk
    exact bN_1_0 hG x hk
theorem bNk_2 {L : Nat} {xs : Nat → Int32} {d : Nat} {I : Nat → Nat → Int32} {J : Nat → Nat → Int64} {R : Nat → Nat → Nat} (hG : aGd R) {nn : Nat} (q6 : (I 88 2).toInt = nn) {a : Int32} {v : Option Value} {h' : xH} (hk : xEv L xs (d + 2) 222 54 [.ref 86, .int a, .int 3] [] (124, uI (uI (uI (uI I 121 11 (if 2 < nn then I 96 2 else -1)) 121 15 0) 121 19 (-1)) 121 23 (-1), J, R) v h') : xEv L xs (d + 2) 222 54 [.ref 86, .int a, .int 2] [] (124, I, J, R) v h' := by
  rcases ie_run (L := L) (xs := xs) (d := d) (I := I) (J := J) hG q6 2 with ⟨h, x⟩ | ⟨h, x⟩
  · rw [show ((2 : Int32)).toInt = 2 from by decide] at h
    rw [if_pos (by omega)] at hk
    exact bN_2_1 hG x hk
  · rw [show ((2 : Int32)).toInt = 2 from by decide] at h
    rw [if_neg (by omega)] at hk
    exact bN_2_0 hG x hk
theorem bNk_3 {L : Nat} {xs : Nat → Int32} {d : Nat} {I : Nat → Nat → Int32} {J : Nat → Nat → Int64} {R : Nat → Nat → Nat} (hG : aGd R) {nn : Nat} (q6 : (I 88 2).toInt = nn) {a : Int32} {v : Option Value} {h' : xH} (hk : xEv L xs (d + 2) 222 54 [.ref 86, .int a, .int 4] [] (124, uI (uI (uI (uI I 121 12 (if 3 < nn then I 96 3 else -1)) 121 16 0) 121 20 (-1)) 121 24 (-1), J, R) v h') : xEv L xs (d + 2) 222 54 [.ref 86, .int a, .int 3] [] (124, I, J, R) v h' := by
  rcases ie_run (L := L) (xs := xs) (d := d) (I := I) (J := J) hG q6 3 with ⟨h, x⟩ | ⟨h, x⟩
  · rw [show ((3 : Int32)).toInt = 3 from by decide] at h
    rw [if_pos (by omega)] at hk
    exact bN_3_1 hG x hk
  · rw [show ((3 : Int32)).toInt = 3 from by decide] at h
    rw [if_neg (by omega)] at hk
    exact bN_3_0 hG x hk
theorem bgr {L : Nat} {xs : Nat → Int32} {d : Nat} {I : Nat → Nat → Int32} {J : Nat → Nat → Int64} {R : Nat → Nat → Nat} (hG : aGd R) {nn : Nat} (q6 : (I 88 2).toInt = nn) {a : Int32} (ha : 0 ≤ a.toInt) : ∃ (I' : Nat → Nat → Int32) (J' : Nat → Nat → Int64), xEv L xs (d + 2) 222 0 [.ref 86, .int a, xmk] [] (124, I, J, R) (some (.int 1)) (124, I', J', R) ∧ I' 121 0 = 1 ∧ I' 121 1 = 0 ∧ J' 122 0 = a.toInt64 ∧ (∀ q, q < 7 → I' 121 (2 + q) = 1) ∧ (∀ q, q < 4 → I' 121 (9 + q) = (if q < nn then I 96 q else -1) ∧ I' 121 (13 + q) = 0 ∧ I' 121 (17 + q) = -1 ∧ I' 121 (21 + q) = -1) ∧ (∀ s, 1 ≤ s → J' 122 s = J 122 s) := by
  refine ⟨_, _, bN_s hG ha (bNk_0 hG (by exact q6) (bNk_1 hG (by exact q6) (bNk_2 hG (by exact q6) (bNk_3 hG (by exact q6) (bN_e hG))))), ?_, ?_, ?_, ?_, ?_, fun s hs => uL_n _ _ (fun e => by omega)⟩
  · rfl
  · rfl
  · rfl
  · intro q hq
    match q, hq with
    | 0, _ => rfl
    | 1, _ => rfl
    | 2, _ => rfl
    | 3, _ => rfl
    | 4, _ => rfl
    | 5, _ => rfl
    | 6, _ => rfl
    | q + 7, h => omega
  · intro q hq
    match q, hq with
    | 0, _ => exact ⟨rfl, rfl, rfl, rfl⟩
    | 1, _ => exact ⟨rfl, rfl, rfl, rfl⟩
    | 2, _ => exact ⟨rfl, rfl, rfl, rfl⟩
    | 3, _ => exact ⟨rfl, rfl, rfl, rfl⟩
    | q + 4, h => omega
set_option maxRecDepth 20000 in
theorem rS_s_3 {L : Nat} {xs : Nat → Int32} {d : Nat} {I : Nat → Nat → Int32} {J : Nat → Nat → Int64} {R : Nat → Nat → Nat} {a : Int32} (hG : aGd R)  {v : Option Value} {h' : xH} (hk : xEv L xs d 121 30 [.ref 66, .ref 3, .int a, .int 0] [] (124, (uI (uI (uI I 66 4 1) 66 5 0) 66 6 ((1 <<< ((I 3 14) &&& 31)) - 1)), (uL J 66 7 a.toInt64), R) v h') : xEv L xs d 121 0 [.ref 66, .ref 3, .int a, xmk] [] (124, I, J, R) v h' := by
  refine ev_go 14 (pc1 := 22) (lv1 := [.ref 66, .ref 3, .int a, xmk]) (st1 := [.int (I 3 14), .int 1, .ref 66]) (h1 := (124, (uI (uI I 66 4 1) 66 5 0), (uL J 66 7 a.toInt64), R)) rfl ?_
  refine ev_go 6 (pc1 := 30) (lv1 := [.ref 66, .ref 3, .int a, .int 0]) (st1 := []) (h1 := (124, (uI (uI (uI I 66 4 1) 66 5 0) 66 6 ((1 <<< ((I 3 14) &&& 31)) - 1)), (uL J 66 7 a.toInt64), R)) rfl ?_
  exact hk
set_option maxRecDepth 20000 in
theorem rS_0_1_3 {L : Nat} {xs : Nat → Int32} {d : Nat} {I : Nat → Nat → Int32} {J : Nat → Nat → Int64} {R : Nat → Nat → Nat} {a r : Int32} (hG : aGd R) (c1 : xEv L xs d 59 0 [.ref 3, .int 0] [] (124, I, J, R) (some (.int 1)) (124, I, J, R)) (c2 : xEv L xs d 39 0 [.ref 11, .int 0] [] (124, I, J, R) (some (.int r)) (124, I, J, R)) (c3 : xEv L xs d 33 0 [.ref 67, .int 0, .int r] [] (124, I, J, R) none (124, (uI I 67 0 r), J, R)) (c4 : xEv L xs d 33 0 [.ref 68, .int 0, .int 0] [] (124, (uI I 67 0 r), J, R) none (124, (uI (uI I 67 0 r) 68 0 0), J, R)) (c5 : xEv L xs d 33 0 [.ref 69, .int 0, .int (-1)] [] (124, (uI (uI I 67 0 r) 68 0 0), J, R) none (124, (uI (uI (uI I 67 0 r) 68 0 0) 69 0 (-1)), J, R)) (c6 : xEv L xs d 33 0 [.ref 70, .int 0, .int (-1)] [] (124, (uI (uI (uI I 67 0 r) 68 0 0) 69 0 (-1)), J, R) none (124, (uI (uI (uI (uI I 67 0 r) 68 0 0) 69 0 (-1)) 70 0 (-1)), J, R)) {v : Option Value} {h' : xH} (hk : xEv L xs (d + 1) 121 30 [.ref 66, .ref 3, .int a, .int 1] [] (124, (uI (uI (uI (uI I 67 0 r) 68 0 0) 69 0 (-1)) 70 0 (-1)), J, R) v h') : xEv L xs (d + 1) 121 30 [.ref 66, .ref 3, .int a, .int 0] [] (124, I, J, R) v h' := by
  refine ev_go 4 (pc1 := 36) (lv1 := [.ref 66, .ref 3, .int a, .int 0]) (st1 := [.ref 66]) (h1 := (124, I, J, R)) rfl ?_
  refine ev_gf (c := 66) (t := 67) (X := R 66 0) rfl rfl (fun _ => rfl) rfl (hG 66 0 67 rfl rfl) ?_
  refine ev_go 3 (pc1 := 42) (lv1 := [.ref 66, .ref 3, .int a, .int 0]) (st1 := [.int 0, .ref 3, .int 0, .ref 67]) (h1 := (124, I, J, R)) rfl ?_
  refine ev_call (v1 := (some (.int 1))) (h1 := (124, I, J, R)) rfl rfl c1 ?_
  refine ev_go 2 (pc1 := 49) (lv1 := [.ref 66, .ref 3, .int a, .int 0]) (st1 := [.ref 3, .int 0, .ref 67]) (h1 := (124, I, J, R)) rfl ?_
  refine ev_gf (c := 3) (t := 11) (X := R 3 7) rfl rfl (fun _ => rfl) rfl (hG 3 7 11 rfl rfl) ?_
  refine ev_go 1 (pc1 := 53) (lv1 := [.ref 66, .ref 3, .int a, .int 0]) (st1 := [.int 0, .ref 11, .int 0, .ref 67]) (h1 := (124, I, J, R)) rfl ?_
  refine ev_call (v1 := (some (.int r))) (h1 := (124, I, J, R)) rfl rfl c2 ?_
  refine ev_go 1 (pc1 := 60) (lv1 := [.ref 66, .ref 3, .int a, .int 0]) (st1 := [.int r, .int 0, .ref 67]) (h1 := (124, I, J, R)) rfl ?_
  refine ev_call (v1 := none) (h1 := (124, (uI I 67 0 r), J, R)) rfl rfl c3 ?_
  refine ev_go 1 (pc1 := 64) (lv1 := [.ref 66, .ref 3, .int a, .int 0]) (st1 := [.ref 66]) (h1 := (124, (uI I 67 0 r), J, R)) rfl ?_
  refine ev_gf (c := 66) (t := 68) (X := R 66 1) rfl rfl (fun _ => rfl) rfl (hG 66 1 68 rfl rfl) ?_
  refine ev_go 2 (pc1 := 69) (lv1 := [.ref 66, .ref 3, .int a, .int 0]) (st1 := [.int 0, .int 0, .ref 68]) (h1 := (124, (uI I 67 0 r), J, R)) rfl ?_
  refine ev_call (v1 := none) (h1 := (124, (uI (uI I 67 0 r) 68 0 0), J, R)) rfl rfl c4 ?_
  refine ev_go 1 (pc1 := 73) (lv1 := [.ref 66, .ref 3, .int a, .int 0]) (st1 := [.ref 66]) (h1 := (124, (uI (uI I 67 0 r) 68 0 0), J, R)) rfl ?_
  refine ev_gf (c := 66) (t := 69) (X := R 66 2) rfl rfl (fun _ => rfl) rfl (hG 66 2 69 rfl rfl) ?_
  refine ev_go 2 (pc1 := 78) (lv1 := [.ref 66, .ref 3, .int a, .int 0]) (st1 := [.int (-1), .int 0, .ref 69]) (h1 := (124, (uI (uI I 67 0 r) 68 0 0), J, R)) rfl ?_
  refine ev_call (v1 := none) (h1 := (124, (uI (uI (uI I 67 0 r) 68 0 0) 69 0 (-1)), J, R)) rfl rfl c5 ?_
  refine ev_go 1 (pc1 := 82) (lv1 := [.ref 66, .ref 3, .int a, .int 0]) (st1 := [.ref 66]) (h1 := (124, (uI (uI (uI I 67 0 r) 68 0 0) 69 0 (-1)), J, R)) rfl ?_
  refine ev_gf (c := 66) (t := 70) (X := R 66 3) rfl rfl (fun _ => rfl) rfl (hG 66 3 70 rfl rfl) ?_
  refine ev_go 2 (pc1 := 87) (lv1 := [.ref 66, .ref 3, .int a, .int 0]) (st1 := [.int (-1), .int 0, .ref 70]) (h1 := (124, (uI (uI (uI I 67 0 r) 68 0 0) 69 0 (-1)), J, R)) rfl ?_
  refine ev_call (v1 := none) (h1 := (124, (uI (uI (uI (uI I 67 0 r) 68 0 0) 69 0 (-1)) 70 0 (-1)), J, R)) rfl rfl c6 ?_
  refine ev_go 2 (pc1 := 30) (lv1 := [.ref 66, .ref 3, .int a, .int 1]) (st1 := []) (h1 := (124, (uI (uI (uI (uI I 67 0 r) 68 0 0) 69 0 (-1)) 70 0 (-1)), J, R)) rfl ?_
  exact hk
set_option maxRecDepth 20000 in
theorem rS_0_0_3 {L : Nat} {xs : Nat → Int32} {d : Nat} {I : Nat → Nat → Int32} {J : Nat → Nat → Int64} {R : Nat → Nat → Nat} {a : Int32} (hG : aGd R) (c1 : xEv L xs d 59 0 [.ref 3, .int 0] [] (124, I, J, R) (some (.int 0)) (124, I, J, R)) (c2 : xEv L xs d 33 0 [.ref 67, .int 0, .int (-1)] [] (124, I, J, R) none (124, (uI I 67 0 (-1)), J, R)) (c3 : xEv L xs d 33 0 [.ref 68, .int 0, .int 0] [] (124, (uI I 67 0 (-1)), J, R) none (124, (uI (uI I 67 0 (-1)) 68 0 0), J, R)) (c4 : xEv L xs d 33 0 [.ref 69, .int 0, .int (-1)] [] (124, (uI (uI I 67 0 (-1)) 68 0 0), J, R) none (124, (uI (uI (uI I 67 0 (-1)) 68 0 0) 69 0 (-1)), J, R)) (c5 : xEv L xs d 33 0 [.ref 70, .int 0, .int (-1)] [] (124, (uI (uI (uI I 67 0 (-1)) 68 0 0) 69 0 (-1)), J, R) none (124, (uI (uI (uI (uI I 67 0 (-1)) 68 0 0) 69 0 (-1)) 70 0 (-1)), J, R)) {v : Option Value} {h' : xH} (hk : xEv L xs (d + 1) 121 30 [.ref 66, .ref 3, .int a, .int 1] [] (124, (uI (uI (uI (uI I 67 0 (-1)) 68 0 0) 69 0 (-1)) 70 0 (-1)), J, R) v h') : xEv L xs (d + 1) 121 30 [.ref 66, .ref 3, .int a, .int 0] [] (124, I, J, R) v h' := by
  refine ev_go 4 (pc1 := 36) (lv1 := [.ref 66, .ref 3, .int a, .int 0]) (st1 := [.ref 66]) (h1 := (124, I, J, R)) rfl ?_
  refine ev_gf (c := 66) (t := 67) (X := R 66 0) rfl rfl (fun _ => rfl) rfl (hG 66 0 67 rfl rfl) ?_
  refine ev_go 3 (pc1 := 42) (lv1 := [.ref 66, .ref 3, .int a, .int 0]) (st1 := [.int 0, .ref 3, .int 0, .ref 67]) (h1 := (124, I, J, R)) rfl ?_
  refine ev_call (v1 := (some (.int 0))) (h1 := (124, I, J, R)) rfl rfl c1 ?_
  refine ev_go 2 (pc1 := 60) (lv1 := [.ref 66, .ref 3, .int a, .int 0]) (st1 := [.int (-1), .int 0, .ref 67]) (h1 := (124, I, J, R)) rfl ?_
  refine ev_call (v1 := none) (h1 := (124, (uI I 67 0 (-1)), J, R)) rfl rfl c2 ?_
  refine ev_go 1 (pc1 := 64) (lv1 := [.ref 66, .ref 3, .int a, .int 0]) (st1 := [.ref 66]) (h1 := (124, (uI I 67 0 (-1)), J, R)) rfl ?_
  refine ev_gf (c := 66) (t := 68) (X := R 66 1) rfl rfl (fun _ => rfl) rfl (hG 66 1 68 rfl rfl) ?_
  refine ev_go 2 (pc1 := 69) (lv1 := [.ref 66, .ref 3, .int a, .int 0]) (st1 := [.int 0, .int 0, .ref 68]) (h1 := (124, (uI I 67 0 (-1)), J, R)) rfl ?_
  refine ev_call (v1 := none) (h1 := (124, (uI (uI I 67 0 (-1)) 68 0 0), J, R)) rfl rfl c3 ?_
  refine ev_go 1 (pc1 := 73) (lv1 := [.ref 66, .ref 3, .int a, .int 0]) (st1 := [.ref 66]) (h1 := (124, (uI (uI I 67 0 (-1)) 68 0 0), J, R)) rfl ?_
  refine ev_gf (c := 66) (t := 69) (X := R 66 2) rfl rfl (fun _ => rfl) rfl (hG 66 2 69 rfl rfl) ?_
  refine ev_go 2 (pc1 := 78) (lv1 := [.ref 66, .ref 3, .int a, .int 0]) (st1 := [.int (-1), .int 0, .ref 69]) (h1 := (124, (uI (uI I 67 0 (-1)) 68 0 0), J, R)) rfl ?_
  refine ev_call (v1 := none) (h1 := (124, (uI (uI (uI I 67 0 (-1)) 68 0 0) 69 0 (-1)), J, R)) rfl rfl c4 ?_
  refine ev_go 1 (pc1 := 82) (lv1 := [.ref 66, .ref 3, .int a, .int 0]) (st1 := [.ref 66]) (h1 := (124, (uI (uI (uI I 67 0 (-1)) 68 0 0) 69 0 (-1)), J, R)) rfl ?_
  refine ev_gf (c := 66) (t := 70) (X := R 66 3) rfl rfl (fun _ => rfl) rfl (hG 66 3 70 rfl rfl) ?_
  refine ev_go 2 (pc1 := 87) (lv1 := [.ref 66, .ref 3, .int a, .int 0]) (st1 := [.int (-1), .int 0, .ref 70]) (h1 := (124, (uI (uI (uI I 67 0 (-1)) 68 0 0) 69 0 (-1)), J, R)) rfl ?_
  refine ev_call (v1 := none) (h1 := (124, (uI (uI (uI (uI I 67 0 (-1)) 68 0 0) 69 0 (-1)) 70 0 (-1)), J, R)) rfl rfl c5 ?_
  refine ev_go 2 (pc1 := 30) (lv1 := [.ref 66, .ref 3, .int a, .int 1]) (st1 := []) (h1 := (124, (uI (uI (uI (uI I 67 0 (-1)) 68 0 0) 69 0 (-1)) 70 0 (-1)), J, R)) rfl ?_
  exact hk
theorem rSk_0_3 {L : Nat} {xs : Nat → Int32} {d : Nat} {I : Nat → Nat → Int32} {J : Nat → Nat → Int64} {R : Nat → Nat → Nat} (hG : aGd R) {nn : Nat} (q5 : (I 3 16).toInt = nn) {a : Int32} {v : Option Value} {h' : xH} (hk : xEv L xs (d + 1) 121 30 [.ref 66, .ref 3, .int a, .int 1] [] (124, uI (uI (uI (uI I 67 0 (if 0 < nn then I 11 0 else -1)) 68 0 0) 69 0 (-1)) 70 0 (-1), J, R) v h') : xEv L xs (d + 1) 121 30 [.ref 66, .ref 3, .int a, .int 0] [] (124, I, J, R) v h' := by
  have ek : ((0 : Int32)).toInt = 0 := by decide
  have pt : ∀ (c : Nat) (I : Nat → Nat → Int32) (x : Int32), (∀ f : FieldType → Nat → Option xR, xarr (124, I, J, R) c f = f .int 4) → xEv L xs d 33 0 [.ref c, .int 0, .int x] [] (124, I, J, R) none (124, uI I c 0 x, J, R) := fun c I x ho => put_in (L := L) (xs := xs) (d := d) (I := I) (J := J) (R := R) (c := c) (n := 4) ho (by decide) (i := 0) x (by decide) (by decide)
  rcases hn_run_3 (L := L) (xs := xs) (d := d) (I := I) (J := J) hG q5 0 with ⟨h, x⟩ | ⟨h, x⟩
  · rw [ek] at h
    rw [if_pos (by omega)] at hk
    have c2 := at_run (L := L) (xs := xs) (d := d) (h := (124, I, J, R)) (c := 11) (n := 4) (fun _ => rfl) (by decide) 0
    rw [if_pos ⟨by decide, by decide⟩] at c2
    exact rS_0_1_3 hG x c2 (pt 67 _ _ (fun _ => rfl)) (pt 68 _ _ (fun _ => rfl)) (pt 69 _ _ (fun _ => rfl)) (pt 70 _ _ (fun _ => rfl)) hk
  · rw [ek] at h
    rw [if_neg (by omega)] at hk
    exact rS_0_0_3 hG x (pt 67 _ _ (fun _ => rfl)) (pt 68 _ _ (fun _ => rfl)) (pt 69 _ _ (fun _ => rfl)) (pt 70 _ _ (fun _ => rfl)) hk
set_option maxRecDepth 20000 in
theorem rS_1_1_3 {L : Nat} {xs : Nat → Int32} {d : Nat} {I : Nat → Nat → Int32} {J : Nat → Nat → Int64} {R : Nat → Nat → Nat} {a r : Int32} (hG : aGd R) (c1 : xEv L xs d 59 0 [.ref 3, .int 1] [] (124, I, J, R) (some (.int 1)) (124, I, J, R)) (c2 : xEv L xs d 39 0 [.ref 11, .int 1] [] (124, I, J, R) (some (.int r)) (124, I, J, R)) (c3 : xEv L xs d 33 0 [.ref 67, .int 1, .int r] [] (124, I, J, R) none (124, (uI I 67 1 r), J, R)) (c4 : xEv L xs d 33 0 [.ref 68, .int 1, .int 0] [] (124, (uI I 67 1 r), J, R) none (124, (uI (uI I 67 1 r) 68 1 0), J, R)) (c5 : xEv L xs d 33 0 [.ref 69, .int 1, .int (-1)] [] (124, (uI (uI I 67 1 r) 68 1 0), J, R) none (124, (uI (uI (uI I 67 1 r) 68 1 0) 69 1 (-1)), J, R)) (c6 : xEv L xs d 33 0 [.ref 70, .int 1, .int (-1)] [] (124, (uI (uI (uI I 67 1 r) 68 1 0) 69 1 (-1)), J, R) none (124, (uI (uI (uI (uI I 67 1 r) 68 1 0) 69 1 (-1)) 70 1 (-1)), J, R)) {v : Option Value} {h' : xH} (hk : xEv L xs (d + 1) 121 30 [.ref 66, .ref 3, .int a, .int 2] [] (124, (uI (uI (uI (uI I 67 1 r) 68 1 0) 69 1 (-1)) 70 1 (-1)), J, R) v h') : xEv L xs (d + 1) 121 30 [.ref 66, .ref 3, .int a, .int 1] [] (124, I, J, R) v h' := by
  refine ev_go 4 (pc1 := 36) (lv1 := [.ref 66, .ref 3, .int a, .int 1]) (st1 := [.ref 66]) (h1 := (124, I, J, R)) rfl ?_
  refine ev_gf (c := 66) (t := 67) (X := R 66 0) rfl rfl (fun _ => rfl) rfl (hG 66 0 67 rfl rfl) ?_
  refine ev_go 3 (pc1 := 42) (lv1 := [.ref 66, .ref 3, .int a, .int 1]) (st1 := [.int 1, .ref 3, .int 1, .ref 67]) (h1 := (124, I, J, R)) rfl ?_
  refine ev_call (v1 := (some (.int 1))) (h1 := (124, I, J, R)) rfl rfl c1 ?_
  refine ev_go 2 (pc1 := 49) (lv1 := [.ref 66, .ref 3, .int a, .int 1]) (st1 := [.ref 3, .int 1, .ref 67]) (h1 := (124, I, J, R)) rfl ?_
  refine ev_gf (c := 3) (t := 11) (X := R 3 7) rfl rfl (fun _ => rfl) rfl (hG 3 7 11 rfl rfl) ?_
  refine ev_go 1 (pc1 := 53) (lv1 := [.ref 66, .ref 3, .int a, .int 1]) (st1 := [.int 1, .ref 11, .int 1, .ref 67]) (h1 := (124, I, J, R)) rfl ?_
  refine ev_call (v1 := (some (.int r))) (h1 := (124, I, J, R)) rfl rfl c2 ?_
  refine ev_go 1 (pc1 := 60) (lv1 := [.ref 66, .ref 3, .int a, .int 1]) (st1 := [.int r, .int 1, .ref 67]) (h1 := (124, I, J, R)) rfl ?_
  refine ev_call (v1 := none) (h1 := (124, (uI I 67 1 r), J, R)) rfl rfl c3 ?_
  refine ev_go 1 (pc1 := 64) (lv1 := [.ref 66, .ref 3, .int a, .int 1]) (st1 := [.ref 66]) (h1 := (124, (uI I 67 1 r), J, R)) rfl ?_
  refine ev_gf (c := 66) (t := 68) (X := R 66 1) rfl rfl (fun _ => rfl) rfl (hG 66 1 68 rfl rfl) ?_
  refine ev_go 2 (pc1 := 69) (lv1 := [.ref 66, .ref 3, .int a, .int 1]) (st1 := [.int 0, .int 1, .ref 68]) (h1 := (124, (uI I 67 1 r), J, R)) rfl ?_
  refine ev_call (v1 := none) (h1 := (124, (uI (uI I 67 1 r) 68 1 0), J, R)) rfl rfl c4 ?_
  refine ev_go 1 (pc1 := 73) (lv1 := [.ref 66, .ref 3, .int a, .int 1]) (st1 := [.ref 66]) (h1 := (124, (uI (uI I 67 1 r) 68 1 0), J, R)) rfl ?_
  refine ev_gf (c := 66) (t := 69) (X := R 66 2) rfl rfl (fun _ => rfl) rfl (hG 66 2 69 rfl rfl) ?_
  refine ev_go 2 (pc1 := 78) (lv1 := [.ref 66, .ref 3, .int a, .int 1]) (st1 := [.int (-1), .int 1, .ref 69]) (h1 := (124, (uI (uI I 67 1 r) 68 1 0), J, R)) rfl ?_
  refine ev_call (v1 := none) (h1 := (124, (uI (uI (uI I 67 1 r) 68 1 0) 69 1 (-1)), J, R)) rfl rfl c5 ?_
  refine ev_go 1 (pc1 := 82) (lv1 := [.ref 66, .ref 3, .int a, .int 1]) (st1 := [.ref 66]) (h1 := (124, (uI (uI (uI I 67 1 r) 68 1 0) 69 1 (-1)), J, R)) rfl ?_
  refine ev_gf (c := 66) (t := 70) (X := R 66 3) rfl rfl (fun _ => rfl) rfl (hG 66 3 70 rfl rfl) ?_
  refine ev_go 2 (pc1 := 87) (lv1 := [.ref 66, .ref 3, .int a, .int 1]) (st1 := [.int (-1), .int 1, .ref 70]) (h1 := (124, (uI (uI (uI I 67 1 r) 68 1 0) 69 1 (-1)), J, R)) rfl ?_
  refine ev_call (v1 := none) (h1 := (124, (uI (uI (uI (uI I 67 1 r) 68 1 0) 69 1 (-1)) 70 1 (-1)), J, R)) rfl rfl c6 ?_
  refine ev_go 2 (pc1 := 30) (lv1 := [.ref 66, .ref 3, .int a, .int 2]) (st1 := []) (h1 := (124, (uI (uI (uI (uI I 67 1 r) 68 1 0) 69 1 (-1)) 70 1 (-1)), J, R)) rfl ?_
  exact hk
set_option maxRecDepth 20000 in
theorem rS_1_0_3 {L : Nat} {xs : Nat → Int32} {d : Nat} {I : Nat → Nat → Int32} {J : Nat → Nat → Int64} {R : Nat → Nat → Nat} {a : Int32} (hG : aGd R) (c1 : xEv L xs d 59 0 [.ref 3, .int 1] [] (124, I, J, R) (some (.int 0)) (124, I, J, R)) (c2 : xEv L xs d 33 0 [.ref 67, .int 1, .int (-1)] [] (124, I, J, R) none (124, (uI I 67 1 (-1)), J, R)) (c3 : xEv L xs d 33 0 [.ref 68, .int 1, .int 0] [] (124, (uI I 67 1 (-1)), J, R) none (124, (uI (uI I 67 1 (-1)) 68 1 0), J, R)) (c4 : xEv L xs d 33 0 [.ref 69, .int 1, .int (-1)] [] (124, (uI (uI I 67 1 (-1)) 68 1 0), J, R) none (124, (uI (uI (uI I 67 1 (-1)) 68 1 0) 69 1 (-1)), J, R)) (c5 : xEv L xs d 33 0 [.ref 70, .int 1, .int (-1)] [] (124, (uI (uI (uI I 67 1 (-1)) 68 1 0) 69 1 (-1)), J, R) none (124, (uI (uI (uI (uI I 67 1 (-1)) 68 1 0) 69 1 (-1)) 70 1 (-1)), J, R)) {v : Option Value} {h' : xH} (hk : xEv L xs (d + 1) 121 30 [.ref 66, .ref 3, .int a, .int 2] [] (124, (uI (uI (uI (uI I 67 1 (-1)) 68 1 0) 69 1 (-1)) 70 1 (-1)), J, R) v h') : xEv L xs (d + 1) 121 30 [.ref 66, .ref 3, .int a, .int 1] [] (124, I, J, R) v h' := by
  refine ev_go 4 (pc1 := 36) (lv1 := [.ref 66, .ref 3, .int a, .int 1]) (st1 := [.ref 66]) (h1 := (124, I, J, R)) rfl ?_
  refine ev_gf (c := 66) (t := 67) (X := R 66 0) rfl rfl (fun _ => rfl) rfl (hG 66 0 67 rfl rfl) ?_
  refine ev_go 3 (pc1 := 42) (lv1 := [.ref 66, .ref 3, .int a, .int 1]) (st1 := [.int 1, .ref 3, .int 1, .ref 67]) (h1 := (124, I, J, R)) rfl ?_
  refine ev_call (v1 := (some (.int 0))) (h1 := (124, I, J, R)) rfl rfl c1 ?_
  refine ev_go 2 (pc1 := 60) (lv1 := [.ref 66, .ref 3, .int a, .int 1]) (st1 := [.int (-1), .int 1, .ref 67]) (h1 := (124, I, J, R)) rfl ?_
  refine ev_call (v1 := none) (h1 := (124, (uI I 67 1 (-1)), J, R)) rfl rfl c2 ?_
  refine ev_go 1 (pc1 := 64) (lv1 := [.ref 66, .ref 3, .int a, .int 1]) (st1 := [.ref 66]) (h1 := (124, (uI I 67 1 (-1)), J, R)) rfl ?_
  refine ev_gf (c := 66) (t := 68) (X := R 66 1) rfl rfl (fun _ => rfl) rfl (hG 66 1 68 rfl rfl) ?_
  refine ev_go 2 (pc1 := 69) (lv1 := [.ref 66, .ref 3, .int a, .int 1]) (st1 := [.int 0, .int 1, .ref 68]) (h1 := (124, (uI I 67 1 (-1)), J, R)) rfl ?_
  refine ev_call (v1 := none) (h1 := (124, (uI (uI I 67 1 (-1)) 68 1 0), J, R)) rfl rfl c3 ?_
  refine ev_go 1 (pc1 := 73) (lv1 := [.ref 66, .ref 3, .int a, .int 1]) (st1 := [.ref 66]) (h1 := (124, (uI (uI I 67 1 (-1)) 68 1 0), J, R)) rfl ?_
  refine ev_gf (c := 66) (t := 69) (X := R 66 2) rfl rfl (fun _ => rfl) rfl (hG 66 2 69 rfl rfl) ?_
  refine ev_go 2 (pc1 := 78) (lv1 := [.ref 66, .ref 3, .int a, .int 1]) (st1 := [.int (-1), .int 1, .ref 69]) (h1 := (124, (uI (uI I 67 1 (-1)) 68 1 0), J, R)) rfl ?_
  refine ev_call (v1 := none) (h1 := (124, (uI (uI (uI I 67 1 (-1)) 68 1 0) 69 1 (-1)), J, R)) rfl rfl c4 ?_
  refine ev_go 1 (pc1 := 82) (lv1 := [.ref 66, .ref 3, .int a, .int 1]) (st1 := [.ref 66]) (h1 := (124, (uI (uI (uI I 67 1 (-1)) 68 1 0) 69 1 (-1)), J, R)) rfl ?_
  refine ev_gf (c := 66) (t := 70) (X := R 66 3) rfl rfl (fun _ => rfl) rfl (hG 66 3 70 rfl rfl) ?_
  refine ev_go 2 (pc1 := 87) (lv1 := [.ref 66, .ref 3, .int a, .int 1]) (st1 := [.int (-1), .int 1, .ref 70]) (h1 := (124, (uI (uI (uI I 67 1 (-1)) 68 1 0) 69 1 (-1)), J, R)) rfl ?_
  refine ev_call (v1 := none) (h1 := (124, (uI (uI (uI (uI I 67 1 (-1)) 68 1 0) 69 1 (-1)) 70 1 (-1)), J, R)) rfl rfl c5 ?_
  refine ev_go 2 (pc1 := 30) (lv1 := [.ref 66, .ref 3, .int a, .int 2]) (st1 := []) (h1 := (124, (uI (uI (uI (uI I 67 1 (-1)) 68 1 0) 69 1 (-1)) 70 1 (-1)), J, R)) rfl ?_
  exact hk
theorem rSk_1_3 {L : Nat} {xs : Nat → Int32} {d : Nat} {I : Nat → Nat → Int32} {J : Nat → Nat → Int64} {R : Nat → Nat → Nat} (hG : aGd R) {nn : Nat} (q5 : (I 3 16).toInt = nn) {a : Int32} {v : Option Value} {h' : xH} (hk : xEv L xs (d + 1) 121 30 [.ref 66, .ref 3, .int a, .int 2] [] (124, uI (uI (uI (uI I 67 1 (if 1 < nn then I 11 1 else -1)) 68 1 0) 69 1 (-1)) 70 1 (-1), J, R) v h') : xEv L xs (d + 1) 121 30 [.ref 66, .ref 3, .int a, .int 1] [] (124, I, J, R) v h' := by
  have ek : ((1 : Int32)).toInt = 1 := by decide
  have pt : ∀ (c : Nat) (I : Nat → Nat → Int32) (x : Int32), (∀ f : FieldType → Nat → Option xR, xarr (124, I, J, R) c f = f .int 4) → xEv L xs d 33 0 [.ref c, .int 1, .int x] [] (124, I, J, R) none (124, uI I c 1 x, J, R) := fun c I x ho => put_in (L := L) (xs := xs) (d := d) (I := I) (J := J) (R := R) (c := c) (n := 4) ho (by decide) (i := 1) x (by decide) (by decide)
  rcases hn_run_3 (L := L) (xs := xs) (d := d) (I := I) (J := J) hG q5 1 with ⟨h, x⟩ | ⟨h, x⟩
  · rw [ek] at h
    rw [if_pos (by omega)] at hk
    have c2 := at_run (L := L) (xs := xs) (d := d) (h := (124, I, J, R)) (c := 11) (n := 4) (fun _ => rfl) (by decide) 1
    rw [if_pos ⟨by decide, by decide⟩] at c2
    exact rS_1_1_3 hG x c2 (pt 67 _ _ (fun _ => rfl)) (pt 68 _ _ (fun _ => rfl)) (pt 69 _ _ (fun _ => rfl)) (pt 70 _ _ (fun _ => rfl)) hk
  · rw [ek] at h
    rw [if_neg (by omega)] at hk
    exact rS_1_0_3 hG x (pt 67 _ _ (fun _ => rfl)) (pt 68 _ _ (fun _ => rfl)) (pt 69 _ _ (fun _ => rfl)) (pt 70 _ _ (fun _ => rfl)) hk
set_option maxRecDepth 20000 in
theorem rS_2_1_3 {L : Nat} {xs : Nat → Int32} {d : Nat} {I : Nat → Nat → Int32} {J : Nat → Nat → Int64} {R : Nat → Nat → Nat} {a r : Int32} (hG : aGd R) (c1 : xEv L xs d 59 0 [.ref 3, .int 2] [] (124, I, J, R) (some (.int 1)) (124, I, J, R)) (c2 : xEv L xs d 39 0 [.ref 11, .int 2] [] (124, I, J, R) (some (.int r)) (124, I, J, R)) (c3 : xEv L xs d 33 0 [.ref 67, .int 2, .int r] [] (124, I, J, R) none (124, (uI I 67 2 r), J, R)) (c4 : xEv L xs d 33 0 [.ref 68, .int 2, .int 0] [] (124, (uI I 67 2 r), J, R) none (124, (uI (uI I 67 2 r) 68 2 0), J, R)) (c5 : xEv L xs d 33 0 [.ref 69, .int 2, .int (-1)] [] (124, (uI (uI I 67 2 r) 68 2 0), J, R) none (124, (uI (uI (uI I 67 2 r) 68 2 0) 69 2 (-1)), J, R)) (c6 : xEv L xs d 33 0 [.ref 70, .int 2, .int (-1)] [] (124, (uI (uI (uI I 67 2 r) 68 2 0) 69 2 (-1)), J, R) none (124, (uI (uI (uI (uI I 67 2 r) 68 2 0) 69 2 (-1)) 70 2 (-1)), J, R)) {v : Option Value} {h' : xH} (hk : xEv L xs (d + 1) 121 30 [.ref 66, .ref 3, .int a, .int 3] [] (124, (uI (uI (uI (uI I 67 2 r) 68 2 0) 69 2 (-1)) 70 2 (-1)), J, R) v h') : xEv L xs (d + 1) 121 30 [.ref 66, .ref 3, .int a, .int 2] [] (124, I, J, R) v h' := by
  refine ev_go 4 (pc1 := 36) (lv1 := [.ref 66, .ref 3, .int a, .int 2]) (st1 := [.ref 66]) (h1 := (124, I, J, R)) rfl ?_
  refine ev_gf (c := 66) (t := 67) (X := R 66 0) rfl rfl (fun _ => rfl) rfl (hG 66 0 67 rfl rfl) ?_
  refine ev_go 3 (pc1 := 42) (lv1 := [.ref 66, .ref 3, .int a, .int 2]) (st1 := [.int 2, .ref 3, .int 2, .ref 67]) (h1 := (124, I, J, R)) rfl ?_
  refine ev_call (v1 := (some (.int 1))) (h1 := (124, I, J, R)) rfl rfl c1 ?_
  refine ev_go 2 (pc1 := 49) (lv1 := [.ref 66, .ref 3, .int a, .int 2]) (st1 := [.ref 3, .int 2, .ref 67]) (h1 := (124, I, J, R)) rfl ?_
  refine ev_gf (c := 3) (t := 11) (X := R 3 7) rfl rfl (fun _ => rfl) rfl (hG 3 7 11 rfl rfl) ?_
  refine ev_go 1 (pc1 := 53) (lv1 := [.ref 66, .ref 3, .int a, .int 2]) (st1 := [.int 2, .ref 11, .int 2, .ref 67]) (h1 := (124, I, J, R)) rfl ?_
  refine ev_call (v1 := (some (.int r))) (h1 := (124, I, J, R)) rfl rfl c2 ?_
  refine ev_go 1 (pc1 := 60) (lv1 := [.ref 66, .ref 3, .int a, .int 2]) (st1 := [.int r, .int 2, .ref 67]) (h1 := (124, I, J, R)) rfl ?_
  refine ev_call (v1 := none) (h1 := (124, (uI I 67 2 r), J, R)) rfl rfl c3 ?_
  refine ev_go 1 (pc1 := 64) (lv1 := [.ref 66, .ref 3, .int a, .int 2]) (st1 := [.ref 66]) (h1 := (124, (uI I 67 2 r), J, R)) rfl ?_
  refine ev_gf (c := 66) (t := 68) (X := R 66 1) rfl rfl (fun _ => rfl) rfl (hG 66 1 68 rfl rfl) ?_
  refine ev_go 2 (pc1 := 69) (lv1 := [.ref 66, .ref 3, .int a, .int 2]) (st1 := [.int 0, .int 2, .ref 68]) (h1 := (124, (uI I 67 2 r), J, R)) rfl ?_
  refine ev_call (v1 := none) (h1 := (124, (uI (uI I 67 2 r) 68 2 0), J, R)) rfl rfl c4 ?_
  refine ev_go 1 (pc1 := 73) (lv1 := [.ref 66, .ref 3, .int a, .int 2]) (st1 := [.ref 66]) (h1 := (124, (uI (uI I 67 2 r) 68 2 0), J, R)) rfl ?_
  refine ev_gf (c := 66) (t := 69) (X := R 66 2) rfl rfl (fun _ => rfl) rfl (hG 66 2 69 rfl rfl) ?_
  refine ev_go 2 (pc1 := 78) (lv1 := [.ref 66, .ref 3, .int a, .int 2]) (st1 := [.int (-1), .int 2, .ref 69]) (h1 := (124, (uI (uI I 67 2 r) 68 2 0), J, R)) rfl ?_
  refine ev_call (v1 := none) (h1 := (124, (uI (uI (uI I 67 2 r) 68 2 0) 69 2 (-1)), J, R)) rfl rfl c5 ?_
  refine ev_go 1 (pc1 := 82) (lv1 := [.ref 66, .ref 3, .int a, .int 2]) (st1 := [.ref 66]) (h1 := (124, (uI (uI (uI I 67 2 r) 68 2 0) 69 2 (-1)), J, R)) rfl ?_
  refine ev_gf (c := 66) (t := 70) (X := R 66 3) rfl rfl (fun _ => rfl) rfl (hG 66 3 70 rfl rfl) ?_
  refine ev_go 2 (pc1 := 87) (lv1 := [.ref 66, .ref 3, .int a, .int 2]) (st1 := [.int (-1), .int 2, .ref 70]) (h1 := (124, (uI (uI (uI I 67 2 r) 68 2 0) 69 2 (-1)), J, R)) rfl ?_
  refine ev_call (v1 := none) (h1 := (124, (uI (uI (uI (uI I 67 2 r) 68 2 0) 69 2 (-1)) 70 2 (-1)), J, R)) rfl rfl c6 ?_
  refine ev_go 2 (pc1 := 30) (lv1 := [.ref 66, .ref 3, .int a, .int 3]) (st1 := []) (h1 := (124, (uI (uI (uI (uI I 67 2 r) 68 2 0) 69 2 (-1)) 70 2 (-1)), J, R)) rfl ?_
  exact hk
set_option maxRecDepth 20000 in
theorem rS_2_0_3 {L : Nat} {xs : Nat → Int32} {d : Nat} {I : Nat → Nat → Int32} {J : Nat → Nat → Int64} {R : Nat → Nat → Nat} {a : Int32} (hG : aGd R) (c1 : xEv L xs d 59 0 [.ref 3, .int 2] [] (124, I, J, R) (some (.int 0)) (124, I, J, R)) (c2 : xEv L xs d 33 0 [.ref 67, .int 2, .int (-1)] [] (124, I, J, R) none (124, (uI I 67 2 (-1)), J, R)) (c3 : xEv L xs d 33 0 [.ref 68, .int 2, .int 0] [] (124, (uI I 67 2 (-1)), J, R) none (124, (uI (uI I 67 2 (-1)) 68 2 0), J, R)) (c4 : xEv L xs d 33 0 [.ref 69, .int 2, .int (-1)] [] (124, (uI (uI I 67 2 (-1)) 68 2 0), J, R) none (124, (uI (uI (uI I 67 2 (-1)) 68 2 0) 69 2 (-1)), J, R)) (c5 : xEv L xs d 33 0 [.ref 70, .int 2, .int (-1)] [] (124, (uI (uI (uI I 67 2 (-1)) 68 2 0) 69 2 (-1)), J, R) none (124, (uI (uI (uI (uI I 67 2 (-1)) 68 2 0) 69 2 (-1)) 70 2 (-1)), J, R)) {v : Option Value} {h' : xH} (hk : xEv L xs (d + 1) 121 30 [.ref 66, .ref 3, .int a, .int 3] [] (124, (uI (uI (uI (uI I 67 2 (-1)) 68 2 0) 69 2 (-1)) 70 2 (-1)), J, R) v h') : xEv L xs (d + 1) 121 30 [.ref 66, .ref 3, .int a, .int 2] [] (124, I, J, R) v h' := by
  refine ev_go 4 (pc1 := 36) (lv1 := [.ref 66, .ref 3, .int a, .int 2]) (st1 := [.ref 66]) (h1 := (124, I, J, R)) rfl ?_
  refine ev_gf (c := 66) (t := 67) (X := R 66 0) rfl rfl (fun _ => rfl) rfl (hG 66 0 67 rfl rfl) ?_
  refine ev_go 3 (pc1 := 42) (lv1 := [.ref 66, .ref 3, .int a, .int 2]) (st1 := [.int 2, .ref 3, .int 2, .ref 67]) (h1 := (124, I, J, R)) rfl ?_
  refine ev_call (v1 := (some (.int 0))) (h1 := (124, I, J, R)) rfl rfl c1 ?_
  refine ev_go 2 (pc1 := 60) (lv1 := [.ref 66, .ref 3, .int a, .int 2]) (st1 := [.int (-1), .int 2, .ref 67]) (h1 := (124, I, J, R)) rfl ?_
  refine ev_call (v1 := none) (h1 := (124, (uI I 67 2 (-1)), J, R)) rfl rfl c2 ?_
  refine ev_go 1 (pc1 := 64) (lv1 := [.ref 66, .ref 3, .int a, .int 2]) (st1 := [.ref 66]) (h1 := (124, (uI I 67 2 (-1)), J, R)) rfl ?_
  refine ev_gf (c := 66) (t := 68) (X := R 66 1) rfl rfl (fun _ => rfl) rfl (hG 66 1 68 rfl rfl) ?_
  refine ev_go 2 (pc1 := 69) (lv1 := [.ref 66, .ref 3, .int a, .int 2]) (st1 := [.int 0, .int 2, .ref 68]) (h1 := (124, (uI I 67 2 (-1)), J, R)) rfl ?_
  refine ev_call (v1 := none) (h1 := (124, (uI (uI I 67 2 (-1)) 68 2 0), J, R)) rfl rfl c3 ?_
  refine ev_go 1 (pc1 := 73) (lv1 := [.ref 66, .ref 3, .int a, .int 2]) (st1 := [.ref 66]) (h1 := (124, (uI (uI I 67 2 (-1)) 68 2 0), J, R)) rfl ?_
  refine ev_gf (c := 66) (t := 69) (X := R 66 2) rfl rfl (fun _ => rfl) rfl (hG 66 2 69 rfl rfl) ?_
  refine ev_go 2 (pc1 := 78) (lv1 := [.ref 66, .ref 3, .int a, .int 2]) (st1 := [.int (-1), .int 2, .ref 69]) (h1 := (124, (uI (uI I 67 2 (-1)) 68 2 0), J, R)) rfl ?_
  refine ev_call (v1 := none) (h1 := (124, (uI (uI (uI I 67 2 (-1)) 68 2 0) 69 2 (-1)), J, R)) rfl rfl c4 ?_
  refine ev_go 1 (pc1 := 82) (lv1 := [.ref 66, .ref 3, .int a, .int 2]) (st1 := [.ref 66]) (h1 := (124, (uI (uI (uI I 67 2 (-1)) 68 2 0) 69 2 (-1)), J, R)) rfl ?_
  refine ev_gf (c := 66) (t := 70) (X := R 66 3) rfl rfl (fun _ => rfl) rfl (hG 66 3 70 rfl rfl) ?_
  refine ev_go 2 (pc1 := 87) (lv1 := [.ref 66, .ref 3, .int a, .int 2]) (st1 := [.int (-1), .int 2, .ref 70]) (h1 := (124, (uI (uI (uI I 67 2 (-1)) 68 2 0) 69 2 (-1)), J, R)) rfl ?_
  refine ev_call (v1 := none) (h1 := (124, (uI (uI (uI (uI I 67 2 (-1)) 68 2 0) 69 2 (-1)) 70 2 (-1)), J, R)) rfl rfl c5 ?_
  refine ev_go 2 (pc1 := 30) (lv1 := [.ref 66, .ref 3, .int a, .int 3]) (st1 := []) (h1 := (124, (uI (uI (uI (uI I 67 2 (-1)) 68 2 0) 69 2 (-1)) 70 2 (-1)), J, R)) rfl ?_
  exact hk
theorem rSk_2_3 {L : Nat} {xs : Nat → Int32} {d : Nat} {I : Nat → Nat → Int32} {J : Nat → Nat → Int64} {R : Nat → Nat → Nat} (hG : aGd R) {nn : Nat} (q5 : (I 3 16).toInt = nn) {a : Int32} {v : Option Value} {h' : xH} (hk : xEv L xs (d + 1) 121 30 [.ref 66, .ref 3, .int a, .int 3] [] (124, uI (uI (uI (uI I 67 2 (if 2 < nn then I 11 2 else -1)) 68 2 0) 69 2 (-1)) 70 2 (-1), J, R) v h') : xEv L xs (d + 1) 121 30 [.ref 66, .ref 3, .int a, .int 2] [] (124, I, J, R) v h' := by
  have ek : ((2 : Int32)).toInt = 2 := by decide
  have pt : ∀ (c : Nat) (I : Nat → Nat → Int32) (x : Int32), (∀ f : FieldType → Nat → Option xR, xarr (124, I, J, R) c f = f .int 4) → xEv L xs d 33 0 [.ref c, .int 2, .int x] [] (124, I, J, R) none (124, uI I c 2 x, J, R) := fun c I x ho => put_in (L := L) (xs := xs) (d := d) (I := I) (J := J) (R := R) (c := c) (n := 4) ho (by decide) (i := 2) x (by decide) (by decide)
  rcases hn_run_3 (L := L) (xs := xs) (d := d) (I := I) (J := J) hG q5 2 with ⟨h, x⟩ | ⟨h, x⟩
  · rw [ek] at h
    rw [if_pos (by omega)] at hk
    have c2 := at_run (L := L) (xs := xs) (d := d) (h := (124, I, J, R)) (c := 11) (n := 4) (fun _ => rfl) (by decide) 2
    rw [if_pos ⟨by decide, by decide⟩] at c2
    exact rS_2_1_3 hG x c2 (pt 67 _ _ (fun _ => rfl)) (pt 68 _ _ (fun _ => rfl)) (pt 69 _ _ (fun _ => rfl)) (pt 70 _ _ (fun _ => rfl)) hk
  · rw [ek] at h
    rw [if_neg (by omega)] at hk
    exact rS_2_0_3 hG x (pt 67 _ _ (fun _ => rfl)) (pt 68 _ _ (fun _ => rfl)) (pt 69 _ _ (fun _ => rfl)) (pt 70 _ _ (fun _ => rfl)) hk
set_option maxRecDepth 20000 in
theorem rS_3_1_3 {L : Nat} {xs : Nat → Int32} {d : Nat} {I : Nat → Nat → Int32} {J : Nat → Nat → Int64} {R : Nat → Nat → Nat} {a r : Int32} (hG : aGd R) (c1 : xEv L xs d 59 0 [.ref 3, .int 3] [] (124, I, J, R) (some (.int 1)) (124, I, J, R)) (c2 : xEv L xs d 39 0 [.ref 11, .int 3] [] (124, I, J, R) (some (.int r)) (124, I, J, R)) (c3 : xEv L xs d 33 0 [.ref 67, .int 3, .int r] [] (124, I, J, R) none (124, (uI I 67 3 r), J, R)) (c4 : xEv L xs d 33 0 [.ref 68, .int 3, .int 0] [] (124, (uI I 67 3 r), J, R) none (124, (uI (uI I 67 3 r) 68 3 0), J, R)) (c5 : xEv L xs d 33 0 [.ref 69, .int 3, .int (-1)] [] (124, (uI (uI I 67 3 r) 68 3 0), J, R) none (124, (uI (uI (uI I 67 3 r) 68 3 0) 69 3 (-1)), J, R)) (c6 : xEv L xs d 33 0 [.ref 70, .int 3, .int (-1)] [] (124, (uI (uI (uI I 67 3 r) 68 3 0) 69 3 (-1)), J, R) none (124, (uI (uI (uI (uI I 67 3 r) 68 3 0) 69 3 (-1)) 70 3 (-1)), J, R)) {v : Option Value} {h' : xH} (hk : xEv L xs (d + 1) 121 30 [.ref 66, .ref 3, .int a, .int 4] [] (124, (uI (uI (uI (uI I 67 3 r) 68 3 0) 69 3 (-1)) 70 3 (-1)), J, R) v h') : xEv L xs (d + 1) 121 30 [.ref 66, .ref 3, .int a, .int 3] [] (124, I, J, R) v h' := by
  refine ev_go 4 (pc1 := 36) (lv1 := [.ref 66, .ref 3, .int a, .int 3]) (st1 := [.ref 66]) (h1 := (124, I, J, R)) rfl ?_
  refine ev_gf (c := 66) (t := 67) (X := R 66 0) rfl rfl (fun _ => rfl) rfl (hG 66 0 67 rfl rfl) ?_
  refine ev_go 3 (pc1 := 42) (lv1 := [.ref 66, .ref 3, .int a, .int 3]) (st1 := [.int 3, .ref 3, .int 3, .ref 67]) (h1 := (124, I, J, R)) rfl ?_
  refine ev_call (v1 := (some (.int 1))) (h1 := (124, I, J, R)) rfl rfl c1 ?_
  refine ev_go 2 (pc1 := 49) (lv1 := [.ref 66, .ref 3, .int a, .int 3]) (st1 := [.ref 3, .int 3, .ref 67]) (h1 := (124, I, J, R)) rfl ?_
  refine ev_gf (c := 3) (t := 11) (X := R 3 7) rfl rfl (fun _ => rfl) rfl (hG 3 7 11 rfl rfl) ?_
  refine ev_go 1 (pc1 := 53) (lv1 := [.ref 66, .ref 3, .int a, .int 3]) (st1 := [.int 3, .ref 11, .int 3, .ref 67]) (h1 := (124, I, J, R)) rfl ?_
  refine ev_call (v1 := (some (.int r))) (h1 := (124, I, J, R)) rfl rfl c2 ?_
  refine ev_go 1 (pc1 := 60) (lv1 := [.ref 66, .ref 3, .int a, .int 3]) (st1 := [.int r, .int 3, .ref 67]) (h1 := (124, I, J, R)) rfl ?_
  refine ev_call (v1 := none) (h1 := (124, (uI I 67 3 r), J, R)) rfl rfl c3 ?_
  refine ev_go 1 (pc1 := 64) (lv1 := [.ref 66, .ref 3, .int a, .int 3]) (st1 := [.ref 66]) (h1 := (124, (uI I 67 3 r), J, R)) rfl ?_
  refine ev_gf (c := 66) (t := 68) (X := R 66 1) rfl rfl (fun _ => rfl) rfl (hG 66 1 68 rfl rfl) ?_
  refine ev_go 2 (pc1 := 69) (lv1 := [.ref 66, .ref 3, .int a, .int 3]) (st1 := [.int 0, .int 3, .ref 68]) (h1 := (124, (uI I 67 3 r), J, R)) rfl ?_
  refine ev_call (v1 := none) (h1 := (124, (uI (uI I 67 3 r) 68 3 0), J, R)) rfl rfl c4 ?_
  refine ev_go 1 (pc1 := 73) (lv1 := [.ref 66, .ref 3, .int a, .int 3]) (st1 := [.ref 66]) (h1 := (124, (uI (uI I 67 3 r) 68 3 0), J, R)) rfl ?_
  refine ev_gf (c := 66) (t := 69) (X := R 66 2) rfl rfl (fun _ => rfl) rfl (hG 66 2 69 rfl rfl) ?_
  refine ev_go 2 (pc1 := 78) (lv1 := [.ref 66, .ref 3, .int a, .int 3]) (st1 := [.int (-1), .int 3, .ref 69]) (h1 := (124, (uI (uI I 67 3 r) 68 3 0), J, R)) rfl ?_
  refine ev_call (v1 := none) (h1 := (124, (uI (uI (uI I 67 3 r) 68 3 0) 69 3 (-1)), J, R)) rfl rfl c5 ?_
  refine ev_go 1 (pc1 := 82) (lv1 := [.ref 66, .ref 3, .int a, .int 3]) (st1 := [.ref 66]) (h1 := (124, (uI (uI (uI I 67 3 r) 68 3 0) 69 3 (-1)), J, R)) rfl ?_
  refine ev_gf (c := 66) (t := 70) (X := R 66 3) rfl rfl (fun _ => rfl) rfl (hG 66 3 70 rfl rfl) ?_
  refine ev_go 2 (pc1 := 87) (lv1 := [.ref 66, .ref 3, .int a, .int 3]) (st1 := [.int (-1), .int 3, .ref 70]) (h1 := (124, (uI (uI (uI I 67 3 r) 68 3 0) 69 3 (-1)), J, R)) rfl ?_
  refine ev_call (v1 := none) (h1 := (124, (uI (uI (uI (uI I 67 3 r) 68 3 0) 69 3 (-1)) 70 3 (-1)), J, R)) rfl rfl c6 ?_
  refine ev_go 2 (pc1 := 30) (lv1 := [.ref 66, .ref 3, .int a, .int 4]) (st1 := []) (h1 := (124, (uI (uI (uI (uI I 67 3 r) 68 3 0) 69 3 (-1)) 70 3 (-1)), J, R)) rfl ?_
  exact hk
set_option maxRecDepth 20000 in
theorem rS_3_0_3 {L : Nat} {xs : Nat → Int32} {d : Nat} {I : Nat → Nat → Int32} {J : Nat → Nat → Int64} {R : Nat → Nat → Nat} {a : Int32} (hG : aGd R) (c1 : xEv L xs d 59 0 [.ref 3, .int 3] [] (124, I, J, R) (some (.int 0)) (124, I, J, R)) (c2 : xEv L xs d 33 0 [.ref 67, .int 3, .int (-1)] [] (124, I, J, R) none (124, (uI I 67 3 (-1)), J, R)) (c3 : xEv L xs d 33 0 [.ref 68, .int 3, .int 0] [] (124, (uI I 67 3 (-1)), J, R) none (124, (uI (uI I 67 3 (-1)) 68 3 0), J, R)) (c4 : xEv L xs d 33 0 [.ref 69, .int 3, .int (-1)] [] (124, (uI (uI I 67 3 (-1)) 68 3 0), J, R) none (124, (uI (uI (uI I 67 3 (-1)) 68 3 0) 69 3 (-1)), J, R)) (c5 : xEv L xs d 33 0 [.ref 70, .int 3, .int (-1)] [] (124, (uI (uI (uI I 67 3 (-1)) 68 3 0) 69 3 (-1)), J, R) none (124, (uI (uI (uI (uI I 67 3 (-1)) 68 3 0) 69 3 (-1)) 70 3 (-1)), J, R)) {v : Option Value} {h' : xH} (hk : xEv L xs (d + 1) 121 30 [.ref 66, .ref 3, .int a, .int 4] [] (124, (uI (uI (uI (uI I 67 3 (-1)) 68 3 0) 69 3 (-1)) 70 3 (-1)), J, R) v h') : xEv L xs (d + 1) 121 30 [.ref 66, .ref 3, .int a, .int 3] [] (124, I, J, R) v h' := by
  refine ev_go 4 (pc1 := 36) (lv1 := [.ref 66, .ref 3, .int a, .int 3]) (st1 := [.ref 66]) (h1 := (124, I, J, R)) rfl ?_
  refine ev_gf (c := 66) (t := 67) (X := R 66 0) rfl rfl (fun _ => rfl) rfl (hG 66 0 67 rfl rfl) ?_
  refine ev_go 3 (pc1 := 42) (lv1 := [.ref 66, .ref 3, .int a, .int 3]) (st1 := [.int 3, .ref 3, .int 3, .ref 67]) (h1 := (124, I, J, R)) rfl ?_
  refine ev_call (v1 := (some (.int 0))) (h1 := (124, I, J, R)) rfl rfl c1 ?_
  refine ev_go 2 (pc1 := 60) (lv1 := [.ref 66, .ref 3, .int a, .int 3]) (st1 := [.int (-1), .int 3, .ref 67]) (h1 := (124, I, J, R)) rfl ?_
  refine ev_call (v1 := none) (h1 := (124, (uI I 67 3 (-1)), J, R)) rfl rfl c2 ?_
  refine ev_go 1 (pc1 := 64) (lv1 := [.ref 66, .ref 3, .int a, .int 3]) (st1 := [.ref 66]) (h1 := (124, (uI I 67 3 (-1)), J, R)) rfl ?_
  refine ev_gf (c := 66) (t := 68) (X := R 66 1) rfl rfl (fun _ => rfl) rfl (hG 66 1 68 rfl rfl) ?_
  refine ev_go 2 (pc1 := 69) (lv1 := [.ref 66, .ref 3, .int a, .int 3]) (st1 := [.int 0, .int 3, .ref 68]) (h1 := (124, (uI I 67 3 (-1)), J, R)) rfl ?_
  refine ev_call (v1 := none) (h1 := (124, (uI (uI I 67 3 (-1)) 68 3 0), J, R)) rfl rfl c3 ?_
  refine ev_go 1 (pc1 := 73) (lv1 := [.ref 66, .ref 3, .int a, .int 3]) (st1 := [.ref 66]) (h1 := (124, (uI (uI I 67 3 (-1)) 68 3 0), J, R)) rfl ?_
  refine ev_gf (c := 66) (t := 69) (X := R 66 2) rfl rfl (fun _ => rfl) rfl (hG 66 2 69 rfl rfl) ?_
  refine ev_go 2 (pc1 := 78) (lv1 := [.ref 66, .ref 3, .int a, .int 3]) (st1 := [.int (-1), .int 3, .ref 69]) (h1 := (124, (uI (uI I 67 3 (-1)) 68 3 0), J, R)) rfl ?_
  refine ev_call (v1 := none) (h1 := (124, (uI (uI (uI I 67 3 (-1)) 68 3 0) 69 3 (-1)), J, R)) rfl rfl c4 ?_
  refine ev_go 1 (pc1 := 82) (lv1 := [.ref 66, .ref 3, .int a, .int 3]) (st1 := [.ref 66]) (h1 := (124, (uI (uI (uI I 67 3 (-1)) 68 3 0) 69 3 (-1)), J, R)) rfl ?_
  refine ev_gf (c := 66) (t := 70) (X := R 66 3) rfl rfl (fun _ => rfl) rfl (hG 66 3 70 rfl rfl) ?_
  refine ev_go 2 (pc1 := 87) (lv1 := [.ref 66, .ref 3, .int a, .int 3]) (st1 := [.int (-1), .int 3, .ref 70]) (h1 := (124, (uI (uI (uI I 67 3 (-1)) 68 3 0) 69 3 (-1)), J, R)) rfl ?_
  refine ev_call (v1 := none) (h1 := (124, (uI (uI (uI (uI I 67 3 (-1)) 68 3 0) 69 3 (-1)) 70 3 (-1)), J, R)) rfl rfl c5 ?_
  refine ev_go 2 (pc1 := 30) (lv1 := [.ref 66, .ref 3, .int a, .int 4]) (st1 := []) (h1 := (124, (uI (uI (uI (uI I 67 3 (-1)) 68 3 0) 69 3 (-1)) 70 3 (-1)), J, R)) rfl ?_
  exact hk
theorem rSk_3_3 {L : Nat} {xs : Nat → Int32} {d : Nat} {I : Nat → Nat → Int32} {J : Nat → Nat → Int64} {R : Nat → Nat → Nat} (hG : aGd R) {nn : Nat} (q5 : (I 3 16).toInt = nn) {a : Int32} {v : Option Value} {h' : xH} (hk : xEv L xs (d + 1) 121 30 [.ref 66, .ref 3, .int a, .int 4] [] (124, uI (uI (uI (uI I 67 3 (if 3 < nn then I 11 3 else -1)) 68 3 0) 69 3 (-1)) 70 3 (-1), J, R) v h') : xEv L xs (d + 1) 121 30 [.ref 66, .ref 3, .int a, .int 3] [] (124, I, J, R) v h' := by
  have ek : ((3 : Int32)).toInt = 3 := by decide
  have pt : ∀ (c : Nat) (I : Nat → Nat → Int32) (x : Int32), (∀ f : FieldType → Nat → Option xR, xarr (124, I, J, R) c f = f .int 4) → xEv L xs d 33 0 [.ref c, .int 3, .int x] [] (124, I, J, R) none (124, uI I c 3 x, J, R) := fun c I x ho => put_in (L := L) (xs := xs) (d := d) (I := I) (J := J) (R := R) (c := c) (n := 4) ho (by decide) (i := 3) x (by decide) (by decide)
  rcases hn_run_3 (L := L) (xs := xs) (d := d) (I := I) (J := J) hG q5 3 with ⟨h, x⟩ | ⟨h, x⟩
  · rw [ek] at h
    rw [if_pos (by omega)] at hk
    have c2 := at_run (L := L) (xs := xs) (d := d) (h := (124, I, J, R)) (c := 11) (n := 4) (fun _ => rfl) (by decide) 3
    rw [if_pos ⟨by decide, by decide⟩] at c2
    exact rS_3_1_3 hG x c2 (pt 67 _ _ (fun _ => rfl)) (pt 68 _ _ (fun _ => rfl)) (pt 69 _ _ (fun _ => rfl)) (pt 70 _ _ (fun _ => rfl)) hk
  · rw [ek] at h
    rw [if_neg (by omega)] at hk
    exact rS_3_0_3 hG x (pt 67 _ _ (fun _ => rfl)) (pt 68 _ _ (fun _ => rfl)) (pt 69 _ _ (fun _ => rfl)) (pt 70 _ _ (fun _ => rfl)) hk
set_option maxRecDepth 20000 in
theorem rS_e_3 {L : Nat} {xs : Nat → Int32} {d : Nat} {I : Nat → Nat → Int32} {J : Nat → Nat → Int64} {R : Nat → Nat → Nat} {a : Int32} (hG : aGd R)  : xEv L xs d 121 30 [.ref 66, .ref 3, .int a, .int 4] [] (124, I, J, R) none (124, I, J, R) := by
  refine ev_go 3 (pc1 := 96) (lv1 := [.ref 66, .ref 3, .int a, .int 4]) (st1 := []) (h1 := (124, I, J, R)) rfl ?_
  exact ev_ret rfl rfl
set_option maxRecDepth 20000 in
theorem bO_n_3 {L : Nat} {xs : Nat → Int32} {d : Nat} {I : Nat → Nat → Int32} {J : Nat → Nat → Int64} {R : Nat → Nat → Nat} {a : Int32} (hG : aGd R) (b1 : a.toInt < 0) : xEv L xs d 120 0 [.ref 0, .int a] [] (124, I, J, R) (some (.int (-2))) (124, I, J, R) := by
  refine ev_go 1 (pc1 := 1) (lv1 := [.ref 0, .int a]) (st1 := [.int a]) (h1 := (124, I, J, R)) rfl ?_
  refine ev_br (b1 := false) rfl rfl (xcd_nge (x := a) (y := 0) (by rw [show ((0 : Int32)).toInt = 0 from by decide]; first | exact b1 | omega)) ?_
  refine ev_go 1 (pc1 := 6) (lv1 := [.ref 0, .int a]) (st1 := [.int (-2)]) (h1 := (124, I, J, R)) rfl ?_
  exact ev_ret rfl rfl
set_option maxRecDepth 20000 in
theorem bO_s_3 {L : Nat} {xs : Nat → Int32} {d : Nat} {I : Nat → Nat → Int32} {J : Nat → Nat → Int64} {R : Nat → Nat → Nat} {I1 : Nat → Nat → Int32} {J1 : Nat → Nat → Int64} {a : Int32} (hG : aGd R) (b1 : a.toInt ≥ 0) (r_R_0_8 : R 0 8 = 4) (c1 : xEv L xs d 121 0 [.ref 66, .ref 3, .int a, xmk] [] (124, I, J, R) none (124, I1, J1, R)) : xEv L xs (d + 1) 120 0 [.ref 0, .int a] [] (124, I, J, R) (some (.int 1)) (124, I1, J1, R) := by
  refine ev_go 1 (pc1 := 1) (lv1 := [.ref 0, .int a]) (st1 := [.int a]) (h1 := (124, I, J, R)) rfl ?_
  refine ev_br (b1 := true) rfl rfl (xcd_ge (x := a) (y := 0) (by rw [show ((0 : Int32)).toInt = 0 from by decide]; first | exact b1 | omega)) ?_
  refine ev_go 1 (pc1 := 8) (lv1 := [.ref 0, .int a]) (st1 := [.ref 0]) (h1 := (124, I, J, R)) rfl ?_
  refine ev_gf (c := 0) (t := 63) (X := R 0 7) rfl rfl (fun _ => rfl) rfl (hG 0 7 63 rfl rfl) ?_
  refine ev_gf (c := 63) (t := 66) (X := R 63 3) rfl rfl (fun _ => rfl) rfl (hG 63 3 66 rfl rfl) ?_
  refine ev_go 1 (pc1 := 15) (lv1 := [.ref 0, .int a]) (st1 := [.ref 0, .ref 66]) (h1 := (124, I, J, R)) rfl ?_
  refine ev_gf (c := 0) (t := 3) (X := R 0 8) rfl rfl (fun _ => rfl) rfl r_R_0_8 ?_
  refine ev_go 1 (pc1 := 19) (lv1 := [.ref 0, .int a]) (st1 := [.int a, .ref 3, .ref 66]) (h1 := (124, I, J, R)) rfl ?_
  refine ev_call (v1 := none) (h1 := (124, I1, J1, R)) rfl rfl c1 ?_
  refine ev_go 1 (pc1 := 23) (lv1 := [.ref 0, .int a]) (st1 := [.int 1]) (h1 := (124, I1, J1, R)) rfl ?_
  exact ev_ret rfl rfl
theorem bgc_3 {L : Nat} {xs : Nat → Int32} {d : Nat} {I : Nat → Nat → Int32} {J : Nat → Nat → Int64} {R : Nat → Nat → Nat} (hG : aGd R) (h8 : R 0 8 = 4) {nn : Nat} (q5 : (I 3 16).toInt = nn) {a : Int32} (ha : 0 ≤ a.toInt) : ∃ (I' : Nat → Nat → Int32) (J' : Nat → Nat → Int64), xEv L xs (d + 2) 120 0 [.ref 0, .int a] [] (124, I, J, R) (some (.int 1)) (124, I', J', R) ∧ I' 66 4 = 1 ∧ I' 66 5 = 0 ∧ I' 66 6 = (1 <<< (I 3 14 &&& 31)) - 1 ∧ J' 66 7 = a.toInt64 ∧ (∀ q, q < 4 → I' 67 q = (if q < nn then I 11 q else -1) ∧ I' 68 q = 0 ∧ I' 69 q = -1 ∧ I' 70 q = -1) := by
  refine ⟨_, _, bO_s_3 hG ha h8 (rS_s_3 hG (rSk_0_3 hG (by exact q5) (rSk_1_3 hG (by exact q5) (rSk_2_3 hG (by exact q5) (rSk_3_3 hG (by exact q5) (rS_e_3 hG)))))), ?_, ?_, ?_, ?_, ?_⟩
  · rfl
  · rfl
  · rfl
  · rfl
  intro q hq
  match q, hq with
    | 0, _ => exact ⟨rfl, rfl, rfl, rfl⟩
    | 1, _ => exact ⟨rfl, rfl, rfl, rfl⟩
    | 2, _ => exact ⟨rfl, rfl, rfl, rfl⟩
    | 3, _ => exact ⟨rfl, rfl, rfl, rfl⟩
    | q + 4, h => omega
set_option maxRecDepth 20000 in
theorem rS_s_23 {L : Nat} {xs : Nat → Int32} {d : Nat} {I : Nat → Nat → Int32} {J : Nat → Nat → Int64} {R : Nat → Nat → Nat} {a : Int32} (hG : aGd R)  {v : Option Value} {h' : xH} (hk : xEv L xs d 121 30 [.ref 66, .ref 23, .int a, .int 0] [] (124, (uI (uI (uI I 66 4 1) 66 5 0) 66 6 ((1 <<< ((I 23 14) &&& 31)) - 1)), (uL J 66 7 a.toInt64), R) v h') : xEv L xs d 121 0 [.ref 66, .ref 23, .int a, xmk] [] (124, I, J, R) v h' := by
  refine ev_go 14 (pc1 := 22) (lv1 := [.ref 66, .ref 23, .int a, xmk]) (st1 := [.int (I 23 14), .int 1, .ref 66]) (h1 := (124, (uI (uI I 66 4 1) 66 5 0), (uL J 66 7 a.toInt64), R)) rfl ?_
  refine ev_go 6 (pc1 := 30) (lv1 := [.ref 66, .ref 23, .int a, .int 0]) (st1 := []) (h1 := (124, (uI (uI (uI I 66 4 1) 66 5 0) 66 6 ((1 <<< ((I 23 14) &&& 31)) - 1)), (uL J 66 7 a.toInt64), R)) rfl ?_
  exact hk
set_option maxRecDepth 20000 in
theorem rS_0_1_23 {L : Nat} {xs : Nat → Int32} {d : Nat} {I : Nat → Nat → Int32} {J : Nat → Nat → Int64} {R : Nat → Nat → Nat} {a r : Int32} (hG : aGd R) (c1 : xEv L xs d 59 0 [.ref 23, .int 0] [] (124, I, J, R) (some (.int 1)) (124, I, J, R)) (c2 : xEv L xs d 39 0 [.ref 31, .int 0] [] (124, I, J, R) (some (.int r)) (124, I, J, R)) (c3 : xEv L xs d 33 0 [.ref 67, .int 0, .int r] [] (124, I, J, R) none (124, (uI I 67 0 r), J, R)) (c4 : xEv L xs d 33 0 [.ref 68, .int 0, .int 0] [] (124, (uI I 67 0 r), J, R) none (124, (uI (uI I 67 0 r) 68 0 0), J, R)) (c5 : xEv L xs d 33 0 [.ref 69, .int 0, .int (-1)] [] (124, (uI (uI I 67 0 r) 68 0 0), J, R) none (124, (uI (uI (uI I 67 0 r) 68 0 0) 69 0 (-1)), J, R)) (c6 : xEv L xs d 33 0 [.ref 70, .int 0, .int (-1)] [] (124, (uI (uI (uI I 67 0 r) 68 0 0) 69 0 (-1)), J, R) none (124, (uI (uI (uI (uI I 67 0 r) 68 0 0) 69 0 (-1)) 70 0 (-1)), J, R)) {v : Option Value} {h' : xH} (hk : xEv L xs (d + 1) 121 30 [.ref 66, .ref 23, .int a, .int 1] [] (124, (uI (uI (uI (uI I 67 0 r) 68 0 0) 69 0 (-1)) 70 0 (-1)), J, R) v h') : xEv L xs (d + 1) 121 30 [.ref 66, .ref 23, .int a, .int 0] [] (124, I, J, R) v h' := by
  refine ev_go 4 (pc1 := 36) (lv1 := [.ref 66, .ref 23, .int a, .int 0]) (st1 := [.ref 66]) (h1 := (124, I, J, R)) rfl ?_
  refine ev_gf (c := 66) (t := 67) (X := R 66 0) rfl rfl (fun _ => rfl) rfl (hG 66 0 67 rfl rfl) ?_
  refine ev_go 3 (pc1 := 42) (lv1 := [.ref 66, .ref 23, .int a, .int 0]) (st1 := [.int 0, .ref 23, .int 0, .ref 67]) (h1 := (124, I, J, R)) rfl ?_
  refine ev_call (v1 := (some (.int 1))) (h1 := (124, I, J, R)) rfl rfl c1 ?_
  refine ev_go 2 (pc1 := 49) (lv1 := [.ref 66, .ref 23, .int a, .int 0]) (st1 := [.ref 23, .int 0, .ref 67]) (h1 := (124, I, J, R)) rfl ?_
  refine ev_gf (c := 23) (t := 31) (X := R 23 7) rfl rfl (fun _ => rfl) rfl (hG 23 7 31 rfl rfl) ?_
  refine ev_go 1 (pc1 := 53) (lv1 := [.ref 66, .ref 23, .int a, .int 0]) (st1 := [.int 0, .ref 31, .int 0, .ref 67]) (h1 := (124, I, J, R)) rfl ?_
  refine ev_call (v1 := (some (.int r))) (h1 := (124, I, J, R)) rfl rfl c2 ?_
  refine ev_go 1 (pc1 := 60) (lv1 := [.ref 66, .ref 23, .int a, .int 0]) (st1 := [.int r, .int 0, .ref 67]) (h1 := (124, I, J, R)) rfl ?_
  refine ev_call (v1 := none) (h1 := (124, (uI I 67 0 r), J, R)) rfl rfl c3 ?_
  refine ev_go 1 (pc1 := 64) (lv1 := [.ref 66, .ref 23, .int a, .int 0]) (st1 := [.ref 66]) (h1 := (124, (uI I 67 0 r), J, R)) rfl ?_
  refine ev_gf (c := 66) (t := 68) (X := R 66 1) rfl rfl (fun _ => rfl) rfl (hG 66 1 68 rfl rfl) ?_
  refine ev_go 2 (pc1 := 69) (lv1 := [.ref 66, .ref 23, .int a, .int 0]) (st1 := [.int 0, .int 0, .ref 68]) (h1 := (124, (uI I 67 0 r), J, R)) rfl ?_
  refine ev_call (v1 := none) (h1 := (124, (uI (uI I 67 0 r) 68 0 0), J, R)) rfl rfl c4 ?_
  refine ev_go 1 (pc1 := 73) (lv1 := [.ref 66, .ref 23, .int a, .int 0]) (st1 := [.ref 66]) (h1 := (124, (uI (uI I 67 0 r) 68 0 0), J, R)) rfl ?_
  refine ev_gf (c := 66) (t := 69) (X := R 66 2) rfl rfl (fun _ => rfl) rfl (hG 66 2 69 rfl rfl) ?_
  refine ev_go 2 (pc1 := 78) (lv1 := [.ref 66, .ref 23, .int a, .int 0]) (st1 := [.int (-1), .int 0, .ref 69]) (h1 := (124, (uI (uI I 67 0 r) 68 0 0), J, R)) rfl ?_
  refine ev_call (v1 := none) (h1 := (124, (uI (uI (uI I 67 0 r) 68 0 0) 69 0 (-1)), J, R)) rfl rfl c5 ?_
  refine ev_go 1 (pc1 := 82) (lv1 := [.ref 66, .ref 23, .int a, .int 0]) (st1 := [.ref 66]) (h1 := (124, (uI (uI (uI I 67 0 r) 68 0 0) 69 0 (-1)), J, R)) rfl ?_
  refine ev_gf (c := 66) (t := 70) (X := R 66 3) rfl rfl (fun _ => rfl) rfl (hG 66 3 70 rfl rfl) ?_
  refine ev_go 2 (pc1 := 87) (lv1 := [.ref 66, .ref 23, .int a, .int 0]) (st1 := [.int (-1), .int 0, .ref 70]) (h1 := (124, (uI (uI (uI I 67 0 r) 68 0 0) 69 0 (-1)), J, R)) rfl ?_
  refine ev_call (v1 := none) (h1 := (124, (uI (uI (uI (uI I 67 0 r) 68 0 0) 69 0 (-1)) 70 0 (-1)), J, R)) rfl rfl c6 ?_
  refine ev_go 2 (pc1 := 30) (lv1 := [.ref 66, .ref 23, .int a, .int 1]) (st1 := []) (h1 := (124, (uI (uI (uI (uI I 67 0 r) 68 0 0) 69 0 (-1)) 70 0 (-1)), J, R)) rfl ?_
  exact hk
set_option maxRecDepth 20000 in
theorem rS_0_0_23 {L : Nat} {xs : Nat → Int32} {d : Nat} {I : Nat → Nat → Int32} {J : Nat → Nat → Int64} {R : Nat → Nat → Nat} {a : Int32} (hG : aGd R) (c1 : xEv L xs d 59 0 [.ref 23, .int 0] [] (124, I, J, R) (some (.int 0)) (124, I, J, R)) (c2 : xEv L xs d 33 0 [.ref 67, .int 0, .int (-1)] [] (124, I, J, R) none (124, (uI I 67 0 (-1)), J, R)) (c3 : xEv L xs d 33 0 [.ref 68, .int 0, .int 0] [] (124, (uI I 67 0 (-1)), J, R) none (124, (uI (uI I 67 0 (-1)) 68 0 0), J, R)) (c4 : xEv L xs d 33 0 [.ref 69, .int 0, .int (-1)] [] (124, (uI (uI I 67 0 (-1)) 68 0 0), J, R) none (124, (uI (uI (uI I 67 0 (-1)) 68 0 0) 69 0 (-1)), J, R)) (c5 : xEv L xs d 33 0 [.ref 70, .int 0, .int (-1)] [] (124, (uI (uI (uI I 67 0 (-1)) 68 0 0) 69 0 (-1)), J, R) none (124, (uI (uI (uI (uI I 67 0 (-1)) 68 0 0) 69 0 (-1)) 70 0 (-1)), J, R)) {v : Option Value} {h' : xH} (hk : xEv L xs (d + 1) 121 30 [.ref 66, .ref 23, .int a, .int 1] [] (124, (uI (uI (uI (uI I 67 0 (-1)) 68 0 0) 69 0 (-1)) 70 0 (-1)), J, R) v h') : xEv L xs (d + 1) 121 30 [.ref 66, .ref 23, .int a, .int 0] [] (124, I, J, R) v h' := by
  refine ev_go 4 (pc1 := 36) (lv1 := [.ref 66, .ref 23, .int a, .int 0]) (st1 := [.ref 66]) (h1 := (124, I, J, R)) rfl ?_
  refine ev_gf (c := 66) (t := 67) (X := R 66 0) rfl rfl (fun _ => rfl) rfl (hG 66 0 67 rfl rfl) ?_
  refine ev_go 3 (pc1 := 42) (lv1 := [.ref 66, .ref 23, .int a, .int 0]) (st1 := [.int 0, .ref 23, .int 0, .ref 67]) (h1 := (124, I, J, R)) rfl ?_
  refine ev_call (v1 := (some (.int 0))) (h1 := (124, I, J, R)) rfl rfl c1 ?_
  refine ev_go 2 (pc1 := 60) (lv1 := [.ref 66, .ref 23, .int a, .int 0]) (st1 := [.int (-1), .int 0, .ref 67]) (h1 := (124, I, J, R)) rfl ?_
  refine ev_call (v1 := none) (h1 := (124, (uI I 67 0 (-1)), J, R)) rfl rfl c2 ?_
  refine ev_go 1 (pc1 := 64) (lv1 := [.ref 66, .ref 23, .int a, .int 0]) (st1 := [.ref 66]) (h1 := (124, (uI I 67 0 (-1)), J, R)) rfl ?_
  refine ev_gf (c := 66) (t := 68) (X := R 66 1) rfl rfl (fun _ => rfl) rfl (hG 66 1 68 rfl rfl) ?_
  refine ev_go 2 (pc1 := 69) (lv1 := [.ref 66, .ref 23, .int a, .int 0]) (st1 := [.int 0, .int 0, .ref 68]) (h1 := (124, (uI I 67 0 (-1)), J, R)) rfl ?_
  refine ev_call (v1 := none) (h1 := (124, (uI (uI I 67 0 (-1)) 68 0 0), J, R)) rfl rfl c3 ?_
  refine ev_go 1 (pc1 := 73) (lv1 := [.ref 66, .ref 23, .int a, .int 0]) (st1 := [.ref 66]) (h1 := (124, (uI (uI I 67 0 (-1)) 68 0 0), J, R)) rfl ?_
  refine ev_gf (c := 66) (t := 69) (X := R 66 2) rfl rfl (fun _ => rfl) rfl (hG 66 2 69 rfl rfl) ?_
  refine ev_go 2 (pc1 := 78) (lv1 := [.ref 66, .ref 23, .int a, .int 0]) (st1 := [.int (-1), .int 0, .ref 69]) (h1 := (124, (uI (uI I 67 0 (-1)) 68 0 0), J, R)) rfl ?_
  refine ev_call (v1 := none) (h1 := (124, (uI (uI (uI I 67 0 (-1)) 68 0 0) 69 0 (-1)), J, R)) rfl rfl c4 ?_
  refine ev_go 1 (pc1 := 82) (lv1 := [.ref 66, .ref 23, .int a, .int 0]) (st1 := [.ref 66]) (h1 := (124, (uI (uI (uI I 67 0 (-1)) 68 0 0) 69 0 (-1)), J, R)) rfl ?_
  refine ev_gf (c := 66) (t := 70) (X := R 66 3) rfl rfl (fun _ => rfl) rfl (hG 66 3 70 rfl rfl) ?_
  refine ev_go 2 (pc1 := 87) (lv1 := [.ref 66, .ref 23, .int a, .int 0]) (st1 := [.int (-1), .int 0, .ref 70]) (h1 := (124, (uI (uI (uI I 67 0 (-1)) 68 0 0) 69 0 (-1)), J, R)) rfl ?_
  refine ev_call (v1 := none) (h1 := (124, (uI (uI (uI (uI I 67 0 (-1)) 68 0 0) 69 0 (-1)) 70 0 (-1)), J, R)) rfl rfl c5 ?_
  refine ev_go 2 (pc1 := 30) (lv1 := [.ref 66, .ref 23, .int a, .int 1]) (st1 := []) (h1 := (124, (uI (uI (uI (uI I 67 0 (-1)) 68 0 0) 69 0 (-1)) 70 0 (-1)), J, R)) rfl ?_
  exact hk
theorem rSk_0_23 {L : Nat} {xs : Nat → Int32} {d : Nat} {I : Nat → Nat → Int32} {J : Nat → Nat → Int64} {R : Nat → Nat → Nat} (hG : aGd R) {nn : Nat} (q5 : (I 23 16).toInt = nn) {a : Int32} {v : Option Value} {h' : xH} (hk : xEv L xs (d + 1) 121 30 [.ref 66, .ref 23, .int a, .int 1] [] (124, uI (uI (uI (uI I 67 0 (if 0 < nn then I 31 0 else -1)) 68 0 0) 69 0 (-1)) 70 0 (-1), J, R) v h') : xEv L xs (d + 1) 121 30 [.ref 66, .ref 23, .int a, .int 0] [] (124, I, J, R) v h' := by
  have ek : ((0 : Int32)).toInt = 0 := by decide
  have pt : ∀ (c : Nat) (I : Nat → Nat → Int32) (x : Int32), (∀ f : FieldType → Nat → Option xR, xarr (124, I, J, R) c f = f .int 4) → xEv L xs d 33 0 [.ref c, .int 0, .int x] [] (124, I, J, R) none (124, uI I c 0 x, J, R) := fun c I x ho => put_in (L := L) (xs := xs) (d := d) (I := I) (J := J) (R := R) (c := c) (n := 4) ho (by decide) (i := 0) x (by decide) (by decide)
  rcases hn_run_23 (L := L) (xs := xs) (d := d) (I := I) (J := J) hG q5 0 with ⟨h, x⟩ | ⟨h, x⟩
  · rw [ek] at h
    rw [if_pos (by omega)] at hk
    have c2 := at_run (L := L) (xs := xs) (d := d) (h := (124, I, J, R)) (c := 31) (n := 4) (fun _ => rfl) (by decide) 0
    rw [if_pos ⟨by decide, by decide⟩] at c2
    exact rS_0_1_23 hG x c2 (pt 67 _ _ (fun _ => rfl)) (pt 68 _ _ (fun _ => rfl)) (pt 69 _ _ (fun _ => rfl)) (pt 70 _ _ (fun _ => rfl)) hk
  · rw [ek] at h
    rw [if_neg (by omega)] at hk
    exact rS_0_0_23 hG x (pt 67 _ _ (fun _ => rfl)) (pt 68 _ _ (fun _ => rfl)) (pt 69 _ _ (fun _ => rfl)) (pt 70 _ _ (fun _ => rfl)) hk
set_option maxRecDepth 20000 in
theorem rS_1_1_23 {L : Nat} {xs : Nat → Int32} {d : Nat} {I : Nat → Nat → Int32} {J : Nat → Nat → Int64} {R : Nat → Nat → Nat} {a r : Int32} (hG : aGd R) (c1 : xEv L xs d 59 0 [.ref 23, .int 1] [] (124, I, J, R) (some (.int 1)) (124, I, J, R)) (c2 : xEv L xs d 39 0 [.ref 31, .int 1] [] (124, I, J, R) (some (.int r)) (124, I, J, R)) (c3 : xEv L xs d 33 0 [.ref 67, .int 1, .int r] [] (124, I, J, R) none (124, (uI I 67 1 r), J, R)) (c4 : xEv L xs d 33 0 [.ref 68, .int 1, .int 0] [] (124, (uI I 67 1 r), J, R) none (124, (uI (uI I 67 1 r) 68 1 0), J, R)) (c5 : xEv L xs d 33 0 [.ref 69, .int 1, .int (-1)] [] (124, (uI (uI I 67 1 r) 68 1 0), J, R) none (124, (uI (uI (uI I 67 1 r) 68 1 0) 69 1 (-1)), J, R)) (c6 : xEv L xs d 33 0 [.ref 70, .int 1, .int (-1)] [] (124, (uI (uI (uI I 67 1 r) 68 1 0) 69 1 (-1)), J, R) none (124, (uI (uI (uI (uI I 67 1 r) 68 1 0) 69 1 (-1)) 70 1 (-1)), J, R)) {v : Option Value} {h' : xH} (hk : xEv L xs (d + 1) 121 30 [.ref 66, .ref 23, .int a, .int 2] [] (124, (uI (uI (uI (uI I 67 1 r) 68 1 0) 69 1 (-1)) 70 1 (-1)), J, R) v h') : xEv L xs (d + 1) 121 30 [.ref 66, .ref 23, .int a, .int 1] [] (124, I, J, R) v h' := by
  refine ev_go 4 (pc1 := 36) (lv1 := [.ref 66, .ref 23, .int a, .int 1]) (st1 := [.ref 66]) (h1 := (124, I, J, R)) rfl ?_
  refine ev_gf (c := 66) (t := 67) (X := R 66 0) rfl rfl (fun _ => rfl) rfl (hG 66 0 67 rfl rfl) ?_
  refine ev_go 3 (pc1 := 42) (lv1 := [.ref 66, .ref 23, .int a, .int 1]) (st1 := [.int 1, .ref 23, .int 1, .ref 67]) (h1 := (124, I, J, R)) rfl ?_
  refine ev_call (v1 := (some (.int 1))) (h1 := (124, I, J, R)) rfl rfl c1 ?_
  refine ev_go 2 (pc1 := 49) (lv1 := [.ref 66, .ref 23, .int a, .int 1]) (st1 := [.ref 23, .int 1, .ref 67]) (h1 := (124, I, J, R)) rfl ?_
  refine ev_gf (c := 23) (t := 31) (X := R 23 7) rfl rfl (fun _ => rfl) rfl (hG 23 7 31 rfl rfl) ?_
  refine ev_go 1 (pc1 := 53) (lv1 := [.ref 66, .ref 23, .int a, .int 1]) (st1 := [.int 1, .ref 31, .int 1, .ref 67]) (h1 := (124, I, J, R)) rfl ?_
  refine ev_call (v1 := (some (.int r))) (h1 := (124, I, J, R)) rfl rfl c2 ?_
  refine ev_go 1 (pc1 := 60) (lv1 := [.ref 66, .ref 23, .int a, .int 1]) (st1 := [.int r, .int 1, .ref 67]) (h1 := (124, I, J, R)) rfl ?_
  refine ev_call (v1 := none) (h1 := (124, (uI I 67 1 r), J, R)) rfl rfl c3 ?_
  refine ev_go 1 (pc1 := 64) (lv1 := [.ref 66, .ref 23, .int a, .int 1]) (st1 := [.ref 66]) (h1 := (124, (uI I 67 1 r), J, R)) rfl ?_
  refine ev_gf (c := 66) (t := 68) (X := R 66 1) rfl rfl (fun _ => rfl) rfl (hG 66 1 68 rfl rfl) ?_
  refine ev_go 2 (pc1 := 69) (lv1 := [.ref 66, .ref 23, .int a, .int 1]) (st1 := [.int 0, .int 1, .ref 68]) (h1 := (124, (uI I 67 1 r), J, R)) rfl ?_
  refine ev_call (v1 := none) (h1 := (124, (uI (uI I 67 1 r) 68 1 0), J, R)) rfl rfl c4 ?_
  refine ev_go 1 (pc1 := 73) (lv1 := [.ref 66, .ref 23, .int a, .int 1]) (st1 := [.ref 66]) (h1 := (124, (uI (uI I 67 1 r) 68 1 0), J, R)) rfl ?_
  refine ev_gf (c := 66) (t := 69) (X := R 66 2) rfl rfl (fun _ => rfl) rfl (hG 66 2 69 rfl rfl) ?_
  refine ev_go 2 (pc1 := 78) (lv1 := [.ref 66, .ref 23, .int a, .int 1]) (st1 := [.int (-1), .int 1, .ref 69]) (h1 := (124, (uI (uI I 67 1 r) 68 1 0), J, R)) rfl ?_
  refine ev_call (v1 := none) (h1 := (124, (uI (uI (uI I 67 1 r) 68 1 0) 69 1 (-1)), J, R)) rfl rfl c5 ?_
  refine ev_go 1 (pc1 := 82) (lv1 := [.ref 66, .ref 23, .int a, .int 1]) (st1 := [.ref 66]) (h1 := (124, (uI (uI (uI I 67 1 r) 68 1 0) 69 1 (-1)), J, R)) rfl ?_
  refine ev_gf (c := 66) (t := 70) (X := R 66 3) rfl rfl (fun _ => rfl) rfl (hG 66 3 70 rfl rfl) ?_
  refine ev_go 2 (pc1 := 87) (lv1 := [.ref 66, .ref 23, .int a, .int 1]) (st1 := [.int (-1), .int 1, .ref 70]) (h1 := (124, (uI (uI (uI I 67 1 r) 68 1 0) 69 1 (-1)), J, R)) rfl ?_
  refine ev_call (v1 := none) (h1 := (124, (uI (uI (uI (uI I 67 1 r) 68 1 0) 69 1 (-1)) 70 1 (-1)), J, R)) rfl rfl c6 ?_
  refine ev_go 2 (pc1 := 30) (lv1 := [.ref 66, .ref 23, .int a, .int 2]) (st1 := []) (h1 := (124, (uI (uI (uI (uI I 67 1 r) 68 1 0) 69 1 (-1)) 70 1 (-1)), J, R)) rfl ?_
  exact hk
set_option maxRecDepth 20000 in
theorem rS_1_0_23 {L : Nat} {xs : Nat → Int32} {d : Nat} {I : Nat → Nat → Int32} {J : Nat → Nat → Int64} {R : Nat → Nat → Nat} {a : Int32} (hG : aGd R) (c1 : xEv L xs d 59 0 [.ref 23, .int 1] [] (124, I, J, R) (some (.int 0)) (124, I, J, R)) (c2 : xEv L xs d 33 0 [.ref 67, .int 1, .int (-1)] [] (124, I, J, R) none (124, (uI I 67 1 (-1)), J, R)) (c3 : xEv L xs d 33 0 [.ref 68, .int 1, .int 0] [] (124, (uI I 67 1 (-1)), J, R) none (124, (uI (uI I 67 1 (-1)) 68 1 0), J, R)) (c4 : xEv L xs d 33 0 [.ref 69, .int 1, .int (-1)] [] (124, (uI (uI I 67 1 (-1)) 68 1 0), J, R) none (124, (uI (uI (uI I 67 1 (-1)) 68 1 0) 69 1 (-1)), J, R)) (c5 : xEv L xs d 33 0 [.ref 70, .int 1, .int (-1)] [] (124, (uI (uI (uI I 67 1 (-1)) 68 1 0) 69 1 (-1)), J, R) none (124, (uI (uI (uI (uI I 67 1 (-1)) 68 1 0) 69 1 (-1)) 70 1 (-1)), J, R)) {v : Option Value} {h' : xH} (hk : xEv L xs (d + 1) 121 30 [.ref 66, .ref 23, .int a, .int 2] [] (124, (uI (uI (uI (uI I 67 1 (-1)) 68 1 0) 69 1 (-1)) 70 1 (-1)), J, R) v h') : xEv L xs (d + 1) 121 30 [.ref 66, .ref 23, .int a, .int 1] [] (124, I, J, R) v h' := by
  refine ev_go 4 (pc1 := 36) (lv1 := [.ref 66, .ref 23, .int a, .int 1]) (st1 := [.ref 66]) (h1 := (124, I, J, R)) rfl ?_
  refine ev_gf (c := 66) (t := 67) (X := R 66 0) rfl rfl (fun _ => rfl) rfl (hG 66 0 67 rfl rfl) ?_
  refine ev_go 3 (pc1 := 42) (lv1 := [.ref 66, .ref 23, .int a, .int 1]) (st1 := [.int 1, .ref 23, .int 1, .ref 67]) (h1 := (124, I, J, R)) rfl ?_
  refine ev_call (v1 := (some (.int 0))) (h1 := (124, I, J, R)) rfl rfl c1 ?_
  refine ev_go 2 (pc1 := 60) (lv1 := [.ref 66, .ref 23, .int a, .int 1]) (st1 := [.int (-1), .int 1, .ref 67]) (h1 := (124, I, J, R)) rfl ?_
  refine ev_call (v1 := none) (h1 := (124, (uI I 67 1 (-1)), J, R)) rfl rfl c2 ?_
  refine ev_go 1 (pc1 := 64) (lv1 := [.ref 66, .ref 23, .int a, .int 1]) (st1 := [.ref 66]) (h1 := (124, (uI I 67 1 (-1)), J, R)) rfl ?_
  refine ev_gf (c := 66) (t := 68) (X := R 66 1) rfl rfl (fun _ => rfl) rfl (hG 66 1 68 rfl rfl) ?_
  refine ev_go 2 (pc1 := 69) (lv1 := [.ref 66, .ref 23, .int a, .int 1]) (st1 := [.int 0, .int 1, .ref 68]) (h1 := (124, (uI I 67 1 (-1)), J, R)) rfl ?_
  refine ev_call (v1 := none) (h1 := (124, (uI (uI I 67 1 (-1)) 68 1 0), J, R)) rfl rfl c3 ?_
  refine ev_go 1 (pc1 := 73) (lv1 := [.ref 66, .ref 23, .int a, .int 1]) (st1 := [.ref 66]) (h1 := (124, (uI (uI I 67 1 (-1)) 68 1 0), J, R)) rfl ?_
  refine ev_gf (c := 66) (t := 69) (X := R 66 2) rfl rfl (fun _ => rfl) rfl (hG 66 2 69 rfl rfl) ?_
  refine ev_go 2 (pc1 := 78) (lv1 := [.ref 66, .ref 23, .int a, .int 1]) (st1 := [.int (-1), .int 1, .ref 69]) (h1 := (124, (uI (uI I 67 1 (-1)) 68 1 0), J, R)) rfl ?_
  refine ev_call (v1 := none) (h1 := (124, (uI (uI (uI I 67 1 (-1)) 68 1 0) 69 1 (-1)), J, R)) rfl rfl c4 ?_
  refine ev_go 1 (pc1 := 82) (lv1 := [.ref 66, .ref 23, .int a, .int 1]) (st1 := [.ref 66]) (h1 := (124, (uI (uI (uI I 67 1 (-1)) 68 1 0) 69 1 (-1)), J, R)) rfl ?_
  refine ev_gf (c := 66) (t := 70) (X := R 66 3) rfl rfl (fun _ => rfl) rfl (hG 66 3 70 rfl rfl) ?_
  refine ev_go 2 (pc1 := 87) (lv1 := [.ref 66, .ref 23, .int a, .int 1]) (st1 := [.int (-1), .int 1, .ref 70]) (h1 := (124, (uI (uI (uI I 67 1 (-1)) 68 1 0) 69 1 (-1)), J, R)) rfl ?_
  refine ev_call (v1 := none) (h1 := (124, (uI (uI (uI (uI I 67 1 (-1)) 68 1 0) 69 1 (-1)) 70 1 (-1)), J, R)) rfl rfl c5 ?_
  refine ev_go 2 (pc1 := 30) (lv1 := [.ref 66, .ref 23, .int a, .int 2]) (st1 := []) (h1 := (124, (uI (uI (uI (uI I 67 1 (-1)) 68 1 0) 69 1 (-1)) 70 1 (-1)), J, R)) rfl ?_
  exact hk
theorem rSk_1_23 {L : Nat} {xs : Nat → Int32} {d : Nat} {I : Nat → Nat → Int32} {J : Nat → Nat → Int64} {R : Nat → Nat → Nat} (hG : aGd R) {nn : Nat} (q5 : (I 23 16).toInt = nn) {a : Int32} {v : Option Value} {h' : xH} (hk : xEv L xs (d + 1) 121 30 [.ref 66, .ref 23, .int a, .int 2] [] (124, uI (uI (uI (uI I 67 1 (if 1 < nn then I 31 1 else -1)) 68 1 0) 69 1 (-1)) 70 1 (-1), J, R) v h') : xEv L xs (d + 1) 121 30 [.ref 66, .ref 23, .int a, .int 1] [] (124, I, J, R) v h' := by
  have ek : ((1 : Int32)).toInt = 1 := by decide
  have pt : ∀ (c : Nat) (I : Nat → Nat → Int32) (x : Int32), (∀ f : FieldType → Nat → Option xR, xarr (124, I, J, R) c f = f .int 4) → xEv L xs d 33 0 [.ref c, .int 1, .int x] [] (124, I, J, R) none (124, uI I c 1 x, J, R) := fun c I x ho => put_in (L := L) (xs := xs) (d := d) (I := I) (J := J) (R := R) (c := c) (n := 4) ho (by decide) (i := 1) x (by decide) (by decide)
  rcases hn_run_23 (L := L) (xs := xs) (d := d) (I := I) (J := J) hG q5 1 with ⟨h, x⟩ | ⟨h, x⟩
  · rw [ek] at h
    rw [if_pos (by omega)] at hk
    have c2 := at_run (L := L) (xs := xs) (d := d) (h := (124, I, J, R)) (c := 31) (n := 4) (fun _ => rfl) (by decide) 1
    rw [if_pos ⟨by decide, by decide⟩] at c2
    exact rS_1_1_23 hG x c2 (pt 67 _ _ (fun _ => rfl)) (pt 68 _ _ (fun _ => rfl)) (pt 69 _ _ (fun _ => rfl)) (pt 70 _ _ (fun _ => rfl)) hk
  · rw [ek] at h
    rw [if_neg (by omega)] at hk
    exact rS_1_0_23 hG x (pt 67 _ _ (fun _ => rfl)) (pt 68 _ _ (fun _ => rfl)) (pt 69 _ _ (fun _ => rfl)) (pt 70 _ _ (fun _ => rfl)) hk
set_option maxRecDepth 20000 in
theorem rS_2_1_23 {L : Nat} {xs : Nat → Int32} {d : Nat} {I : Nat → Nat → Int32} {J : Nat → Nat → Int64} {R : Nat → Nat → Nat} {a r : Int32} (hG : aGd R) (c1 : xEv L xs d 59 0 [.ref 23, .int 2] [] (124, I, J, R) (some (.int 1)) (124, I, J, R)) (c2 : xEv L xs d 39 0 [.ref 31, .int 2] [] (124, I, J, R) (some (.int r)) (124, I, J, R)) (c3 : xEv L xs d 33 0 [.ref 67, .int 2, .int r] [] (124, I, J, R) none (124, (uI I 67 2 r), J, R)) (c4 : xEv L xs d 33 0 [.ref 68, .int 2, .int 0] [] (124, (uI I 67 2 r), J, R) none (124, (uI (uI I 67 2 r) 68 2 0), J, R)) (c5 : xEv L xs d 33 0 [.ref 69, .int 2, .int (-1)] [] (124, (uI (uI I 67 2 r) 68 2 0), J, R) none (124, (uI (uI (uI I 67 2 r) 68 2 0) 69 2 (-1)), J, R)) (c6 : xEv L xs d 33 0 [.ref 70, .int 2, .int (-1)] [] (124, (uI (uI (uI I 67 2 r) 68 2 0) 69 2 (-1)), J, R) none (124, (uI (uI (uI (uI I 67 2 r) 68 2 0) 69 2 (-1)) 70 2 (-1)), J, R)) {v : Option Value} {h' : xH} (hk : xEv L xs (d + 1) 121 30 [.ref 66, .ref 23, .int a, .int 3] [] (124, (uI (uI (uI (uI I 67 2 r) 68 2 0) 69 2 (-1)) 70 2 (-1)), J, R) v h') : xEv L xs (d + 1) 121 30 [.ref 66, .ref 23, .int a, .int 2] [] (124, I, J, R) v h' := by
  refine ev_go 4 (pc1 := 36) (lv1 := [.ref 66, .ref 23, .int a, .int 2]) (st1 := [.ref 66]) (h1 := (124, I, J, R)) rfl ?_
  refine ev_gf (c := 66) (t := 67) (X := R 66 0) rfl rfl (fun _ => rfl) rfl (hG 66 0 67 rfl rfl) ?_
  refine ev_go 3 (pc1 := 42) (lv1 := [.ref 66, .ref 23, .int a, .int 2]) (st1 := [.int 2, .ref 23, .int 2, .ref 67]) (h1 := (124, I, J, R)) rfl ?_
  refine ev_call (v1 := (some (.int 1))) (h1 := (124, I, J, R)) rfl rfl c1 ?_
  refine ev_go 2 (pc1 := 49) (lv1 := [.ref 66, .ref 23, .int a, .int 2]) (st1 := [.ref 23, .int 2, .ref 67]) (h1 := (124, I, J, R)) rfl ?_
  refine ev_gf (c := 23) (t := 31) (X := R 23 7) rfl rfl (fun _ => rfl) rfl (hG 23 7 31 rfl rfl) ?_
  refine ev_go 1 (pc1 := 53) (lv1 := [.ref 66, .ref 23, .int a, .int 2]) (st1 := [.int 2, .ref 31, .int 2, .ref 67]) (h1 := (124, I, J, R)) rfl ?_
  refine ev_call (v1 := (some (.int r))) (h1 := (124, I, J, R)) rfl rfl c2 ?_
  refine ev_go 1 (pc1 := 60) (lv1 := [.ref 66, .ref 23, .int a, .int 2]) (st1 := [.int r, .int 2, .ref 67]) (h1 := (124, I, J, R)) rfl ?_
  refine ev_call (v1 := none) (h1 := (124, (uI I 67 2 r), J, R)) rfl rfl c3 ?_
  refine ev_go 1 (pc1 := 64) (lv1 := [.ref 66, .ref 23, .int a, .int 2]) (st1 := [.ref 66]) (h1 := (124, (uI I 67 2 r), J, R)) rfl ?_
  refine ev_gf (c := 66) (t := 68) (X := R 66 1) rfl rfl (fun _ => rfl) rfl (hG 66 1 68 rfl rfl) ?_
  refine ev_go 2 (pc1 := 69) (lv1 := [.ref 66, .ref 23, .int a, .int 2]) (st1 := [.int 0, .int 2, .ref 68]) (h1 := (124, (uI I 67 2 r), J, R)) rfl ?_
  refine ev_call (v1 := none) (h1 := (124, (uI (uI I 67 2 r) 68 2 0), J, R)) rfl rfl c4 ?_
  refine ev_go 1 (pc1 := 73) (lv1 := [.ref 66, .ref 23, .int a, .int 2]) (st1 := [.ref 66]) (h1 := (124, (uI (uI I 67 2 r) 68 2 0), J, R)) rfl ?_
  refine ev_gf (c := 66) (t := 69) (X := R 66 2) rfl rfl (fun _ => rfl) rfl (hG 66 2 69 rfl rfl) ?_
  refine ev_go 2 (pc1 := 78) (lv1 := [.ref 66, .ref 23, .int a, .int 2]) (st1 := [.int (-1), .int 2, .ref 69]) (h1 := (124, (uI (uI I 67 2 r) 68 2 0), J, R)) rfl ?_
  refine ev_call (v1 := none) (h1 := (124, (uI (uI (uI I 67 2 r) 68 2 0) 69 2 (-1)), J, R)) rfl rfl c5 ?_
  refine ev_go 1 (pc1 := 82) (lv1 := [.ref 66, .ref 23, .int a, .int 2]) (st1 := [.ref 66]) (h1 := (124, (uI (uI (uI I 67 2 r) 68 2 0) 69 2 (-1)), J, R)) rfl ?_
  refine ev_gf (c := 66) (t := 70) (X := R 66 3) rfl rfl (fun _ => rfl) rfl (hG 66 3 70 rfl rfl) ?_
  refine ev_go 2 (pc1 := 87) (lv1 := [.ref 66, .ref 23, .int a, .int 2]) (st1 := [.int (-1), .int 2, .ref 70]) (h1 := (124, (uI (uI (uI I 67 2 r) 68 2 0) 69 2 (-1)), J, R)) rfl ?_
  refine ev_call (v1 := none) (h1 := (124, (uI (uI (uI (uI I 67 2 r) 68 2 0) 69 2 (-1)) 70 2 (-1)), J, R)) rfl rfl c6 ?_
  refine ev_go 2 (pc1 := 30) (lv1 := [.ref 66, .ref 23, .int a, .int 3]) (st1 := []) (h1 := (124, (uI (uI (uI (uI I 67 2 r) 68 2 0) 69 2 (-1)) 70 2 (-1)), J, R)) rfl ?_
  exact hk
set_option maxRecDepth 20000 in
theorem rS_2_0_23 {L : Nat} {xs : Nat → Int32} {d : Nat} {I : Nat → Nat → Int32} {J : Nat → Nat → Int64} {R : Nat → Nat → Nat} {a : Int32} (hG : aGd R) (c1 : xEv L xs d 59 0 [.ref 23, .int 2] [] (124, I, J, R) (some (.int 0)) (124, I, J, R)) (c2 : xEv L xs d 33 0 [.ref 67, .int 2, .int (-1)] [] (124, I, J, R) none (124, (uI I 67 2 (-1)), J, R)) (c3 : xEv L xs d 33 0 [.ref 68, .int 2, .int 0] [] (124, (uI I 67 2 (-1)), J, R) none (124, (uI (uI I 67 2 (-1)) 68 2 0), J, R)) (c4 : xEv L xs d 33 0 [.ref 69, .int 2, .int (-1)] [] (124, (uI (uI I 67 2 (-1)) 68 2 0), J, R) none (124, (uI (uI (uI I 67 2 (-1)) 68 2 0) 69 2 (-1)), J, R)) (c5 : xEv L xs d 33 0 [.ref 70, .int 2, .int (-1)] [] (124, (uI (uI (uI I 67 2 (-1)) 68 2 0) 69 2 (-1)), J, R) none (124, (uI (uI (uI (uI I 67 2 (-1)) 68 2 0) 69 2 (-1)) 70 2 (-1)), J, R)) {v : Option Value} {h' : xH} (hk : xEv L xs (d + 1) 121 30 [.ref 66, .ref 23, .int a, .int 3] [] (124, (uI (uI (uI (uI I 67 2 (-1)) 68 2 0) 69 2 (-1)) 70 2 (-1)), J, R) v h') : xEv L xs (d + 1) 121 30 [.ref 66, .ref 23, .int a, .int 2] [] (124, I, J, R) v h' := by
  refine ev_go 4 (pc1 := 36) (lv1 := [.ref 66, .ref 23, .int a, .int 2]) (st1 := [.ref 66]) (h1 := (124, I, J, R)) rfl ?_
  refine ev_gf (c := 66) (t := 67) (X := R 66 0) rfl rfl (fun _ => rfl) rfl (hG 66 0 67 rfl rfl) ?_
  refine ev_go 3 (pc1 := 42) (lv1 := [.ref 66, .ref 23, .int a, .int 2]) (st1 := [.int 2, .ref 23, .int 2, .ref 67]) (h1 := (124, I, J, R)) rfl ?_
  refine ev_call (v1 := (some (.int 0))) (h1 := (124, I, J, R)) rfl rfl c1 ?_
  refine ev_go 2 (pc1 := 60) (lv1 := [.ref 66, .ref 23, .int a, .int 2]) (st1 := [.int (-1), .int 2, .ref 67]) (h1 := (124, I, J, R)) rfl ?_
  refine ev_call (v1 := none) (h1 := (124, (uI I 67 2 (-1)), J, R)) rfl rfl c2 ?_
  refine ev_go 1 (pc1 := 64) (lv1 := [.ref 66, .ref 23, .int a, .int 2]) (st1 := [.ref 66]) (h1 := (124, (uI I 67 2 (-1)), J, R)) rfl ?_
  refine ev_gf (c := 66) (t := 68) (X := R 66 1) rfl rfl (fun _ => rfl) rfl (hG 66 1 68 rfl rfl) ?_
  refine ev_go 2 (pc1 := 69) (lv1 := [.ref 66, .ref 23, .int a, .int 2]) (st1 := [.int 0, .int 2, .ref 68]) (h1 := (124, (uI I 67 2 (-1)), J, R)) rfl ?_
  refine ev_call (v1 := none) (h1 := (124, (uI (uI I 67 2 (-1)) 68 2 0), J, R)) rfl rfl c3 ?_
  refine ev_go 1 (pc1 := 73) (lv1 := [.ref 66, .ref 23, .int a, .int 2]) (st1 := [.ref 66]) (h1 := (124, (uI (uI I 67 2 (-1)) 68 2 0), J, R)) rfl ?_
  refine ev_gf (c := 66) (t := 69) (X := R 66 2) rfl rfl (fun _ => rfl) rfl (hG 66 2 69 rfl rfl) ?_
  refine ev_go 2 (pc1 := 78) (lv1 := [.ref 66, .ref 23, .int a, .int 2]) (st1 := [.int (-1), .int 2, .ref 69]) (h1 := (124, (uI (uI I 67 2 (-1)) 68 2 0), J, R)) rfl ?_
  refine ev_call (v1 := none) (h1 := (124, (uI (uI (uI I 67 2 (-1)) 68 2 0) 69 2 (-1)), J, R)) rfl rfl c4 ?_
  refine ev_go 1 (pc1 := 82) (lv1 := [.ref 66, .ref 23, .int a, .int 2]) (st1 := [.ref 66]) (h1 := (124, (uI (uI (uI I 67 2 (-1)) 68 2 0) 69 2 (-1)), J, R)) rfl ?_
  refine ev_gf (c := 66) (t := 70) (X := R 66 3) rfl rfl (fun _ => rfl) rfl (hG 66 3 70 rfl rfl) ?_
  refine ev_go 2 (pc1 := 87) (lv1 := [.ref 66, .ref 23, .int a, .int 2]) (st1 := [.int (-1), .int 2, .ref 70]) (h1 := (124, (uI (uI (uI I 67 2 (-1)) 68 2 0) 69 2 (-1)), J, R)) rfl ?_
  refine ev_call (v1 := none) (h1 := (124, (uI (uI (uI (uI I 67 2 (-1)) 68 2 0) 69 2 (-1)) 70 2 (-1)), J, R)) rfl rfl c5 ?_
  refine ev_go 2 (pc1 := 30) (lv1 := [.ref 66, .ref 23, .int a, .int 3]) (st1 := []) (h1 := (124, (uI (uI (uI (uI I 67 2 (-1)) 68 2 0) 69 2 (-1)) 70 2 (-1)), J, R)) rfl ?_
  exact hk
theorem rSk_2_23 {L : Nat} {xs : Nat → Int32} {d : Nat} {I : Nat → Nat → Int32} {J : Nat → Nat → Int64} {R : Nat → Nat → Nat} (hG : aGd R) {nn : Nat} (q5 : (I 23 16).toInt = nn) {a : Int32} {v : Option Value} {h' : xH} (hk : xEv L xs (d + 1) 121 30 [.ref 66, .ref 23, .int a, .int 3] [] (124, uI (uI (uI (uI I 67 2 (if 2 < nn then I 31 2 else -1)) 68 2 0) 69 2 (-1)) 70 2 (-1), J, R) v h') : xEv L xs (d + 1) 121 30 [.ref 66, .ref 23, .int a, .int 2] [] (124, I, J, R) v h' := by
  have ek : ((2 : Int32)).toInt = 2 := by decide
  have pt : ∀ (c : Nat) (I : Nat → Nat → Int32) (x : Int32), (∀ f : FieldType → Nat → Option xR, xarr (124, I, J, R) c f = f .int 4) → xEv L xs d 33 0 [.ref c, .int 2, .int x] [] (124, I, J, R) none (124, uI I c 2 x, J, R) := fun c I x ho => put_in (L := L) (xs := xs) (d := d) (I := I) (J := J) (R := R) (c := c) (n := 4) ho (by decide) (i := 2) x (by decide) (by decide)
  rcases hn_run_23 (L := L) (xs := xs) (d := d) (I := I) (J := J) hG q5 2 with ⟨h, x⟩ | ⟨h, x⟩
  · rw [ek] at h
    rw [if_pos (by omega)] at hk
    have c2 := at_run (L := L) (xs := xs) (d := d) (h := (124, I, J, R)) (c := 31) (n := 4) (fun _ => rfl) (by decide) 2
    rw [if_pos ⟨by decide, by decide⟩] at c2
    exact rS_2_1_23 hG x c2 (pt 67 _ _ (fun _ => rfl)) (pt 68 _ _ (fun _ => rfl)) (pt 69 _ _ (fun _ => rfl)) (pt 70 _ _ (fun _ => rfl)) hk
  · rw [ek] at h
    rw [if_neg (by omega)] at hk
    exact rS_2_0_23 hG x (pt 67 _ _ (fun _ => rfl)) (pt 68 _ _ (fun _ => rfl)) (pt 69 _ _ (fun _ => rfl)) (pt 70 _ _ (fun _ => rfl)) hk
set_option maxRecDepth 20000 in
theorem rS_3_1_23 {L : Nat} {xs : Nat → Int32} {d : Nat} {I : Nat → Nat → Int32} {J : Nat → Nat → Int64} {R : Nat → Nat → Nat} {a r : Int32} (hG : aGd R) (c1 : xEv L xs d 59 0 [.ref 23, .int 3] [] (124, I, J, R) (some (.int 1)) (124, I, J, R)) (c2 : xEv L xs d 39 0 [.ref 31, .int 3] [] (124, I, J, R) (some (.int r)) (124, I, J, R)) (c3 : xEv L xs d 33 0 [.ref 67, .int 3, .int r] [] (124, I, J, R) none (124, (uI I 67 3 r), J, R)) (c4 : xEv L xs d 33 0 [.ref 68, .int 3, .int 0] [] (124, (uI I 67 3 r), J, R) none (124, (uI (uI I 67 3 r) 68 3 0), J, R)) (c5 : xEv L xs d 33 0 [.ref 69, .int 3, .int (-1)] [] (124, (uI (uI I 67 3 r) 68 3 0), J, R) none (124, (uI (uI (uI I 67 3 r) 68 3 0) 69 3 (-1)), J, R)) (c6 : xEv L xs d 33 0 [.ref 70, .int 3, .int (-1)] [] (124, (uI (uI (uI I 67 3 r) 68 3 0) 69 3 (-1)), J, R) none (124, (uI (uI (uI (uI I 67 3 r) 68 3 0) 69 3 (-1)) 70 3 (-1)), J, R)) {v : Option Value} {h' : xH} (hk : xEv L xs (d + 1) 121 30 [.ref 66, .ref 23, .int a, .int 4] [] (124, (uI (uI (uI (uI I 67 3 r) 68 3 0) 69 3 (-1)) 70 3 (-1)), J, R) v h') : xEv L xs (d + 1) 121 30 [.ref 66, .ref 23, .int a, .int 3] [] (124, I, J, R) v h' := by
  refine ev_go 4 (pc1 := 36) (lv1 := [.ref 66, .ref 23, .int a, .int 3]) (st1 := [.ref 66]) (h1 := (124, I, J, R)) rfl ?_
  refine ev_gf (c := 66) (t := 67) (X := R 66 0) rfl rfl (fun _ => rfl) rfl (hG 66 0 67 rfl rfl) ?_
  refine ev_go 3 (pc1 := 42) (lv1 := [.ref 66, .ref 23, .int a, .int 3]) (st1 := [.int 3, .ref 23, .int 3, .ref 67]) (h1 := (124, I, J, R)) rfl ?_
  refine ev_call (v1 := (some (.int 1))) (h1 := (124, I, J, R)) rfl rfl c1 ?_
  refine ev_go 2 (pc1 := 49) (lv1 := [.ref 66, .ref 23, .int a, .int 3]) (st1 := [.ref 23, .int 3, .ref 67]) (h1 := (124, I, J, R)) rfl ?_
  refine ev_gf (c := 23) (t := 31) (X := R 23 7) rfl rfl (fun _ => rfl) rfl (hG 23 7 31 rfl rfl) ?_
  refine ev_go 1 (pc1 := 53) (lv1 := [.ref 66, .ref 23, .int a, .int 3]) (st1 := [.int 3, .ref 31, .int 3, .ref 67]) (h1 := (124, I, J, R)) rfl ?_
  refine ev_call (v1 := (some (.int r))) (h1 := (124, I, J, R)) rfl rfl c2 ?_
  refine ev_go 1 (pc1 := 60) (lv1 := [.ref 66, .ref 23, .int a, .int 3]) (st1 := [.int r, .int 3, .ref 67]) (h1 := (124, I, J, R)) rfl ?_
  refine ev_call (v1 := none) (h1 := (124, (uI I 67 3 r), J, R)) rfl rfl c3 ?_
  refine ev_go 1 (pc1 := 64) (lv1 := [.ref 66, .ref 23, .int a, .int 3]) (st1 := [.ref 66]) (h1 := (124, (uI I 67 3 r), J, R)) rfl ?_
  refine ev_gf (c := 66) (t := 68) (X := R 66 1) rfl rfl (fun _ => rfl) rfl (hG 66 1 68 rfl rfl) ?_
  refine ev_go 2 (pc1 := 69) (lv1 := [.ref 66, .ref 23, .int a, .int 3]) (st1 := [.int 0, .int 3, .ref 68]) (h1 := (124, (uI I 67 3 r), J, R)) rfl ?_
  refine ev_call (v1 := none) (h1 := (124, (uI (uI I 67 3 r) 68 3 0), J, R)) rfl rfl c4 ?_
  refine ev_go 1 (pc1 := 73) (lv1 := [.ref 66, .ref 23, .int a, .int 3]) (st1 := [.ref 66]) (h1 := (124, (uI (uI I 67 3 r) 68 3 0), J, R)) rfl ?_
  refine ev_gf (c := 66) (t := 69) (X := R 66 2) rfl rfl (fun _ => rfl) rfl (hG 66 2 69 rfl rfl) ?_
  refine ev_go 2 (pc1 := 78) (lv1 := [.ref 66, .ref 23, .int a, .int 3]) (st1 := [.int (-1), .int 3, .ref 69]) (h1 := (124, (uI (uI I 67 3 r) 68 3 0), J, R)) rfl ?_
  refine ev_call (v1 := none) (h1 := (124, (uI (uI (uI I 67 3 r) 68 3 0) 69 3 (-1)), J, R)) rfl rfl c5 ?_
  refine ev_go 1 (pc1 := 82) (lv1 := [.ref 66, .ref 23, .int a, .int 3]) (st1 := [.ref 66]) (h1 := (124, (uI (uI (uI I 67 3 r) 68 3 0) 69 3 (-1)), J, R)) rfl ?_
  refine ev_gf (c := 66) (t := 70) (X := R 66 3) rfl rfl (fun _ => rfl) rfl (hG 66 3 70 rfl rfl) ?_
  refine ev_go 2 (pc1 := 87) (lv1 := [.ref 66, .ref 23, .int a, .int 3]) (st1 := [.int (-1), .int 3, .ref 70]) (h1 := (124, (uI (uI (uI I 67 3 r) 68 3 0) 69 3 (-1)), J, R)) rfl ?_
  refine ev_call (v1 := none) (h1 := (124, (uI (uI (uI (uI I 67 3 r) 68 3 0) 69 3 (-1)) 70 3 (-1)), J, R)) rfl rfl c6 ?_
  refine ev_go 2 (pc1 := 30) (lv1 := [.ref 66, .ref 23, .int a, .int 4]) (st1 := []) (h1 := (124, (uI (uI (uI (uI I 67 3 r) 68 3 0) 69 3 (-1)) 70 3 (-1)), J, R)) rfl ?_
  exact hk
set_option maxRecDepth 20000 in
theorem rS_3_0_23 {L : Nat} {xs : Nat → Int32} {d : Nat} {I : Nat → Nat → Int32} {J : Nat → Nat → Int64} {R : Nat → Nat → Nat} {a : Int32} (hG : aGd R) (c1 : xEv L xs d 59 0 [.ref 23, .int 3] [] (124, I, J, R) (some (.int 0)) (124, I, J, R)) (c2 : xEv L xs d 33 0 [.ref 67, .int 3, .int (-1)] [] (124, I, J, R) none (124, (uI I 67 3 (-1)), J, R)) (c3 : xEv L xs d 33 0 [.ref 68, .int 3, .int 0] [] (124, (uI I 67 3 (-1)), J, R) none (124, (uI (uI I 67 3 (-1)) 68 3 0), J, R)) (c4 : xEv L xs d 33 0 [.ref 69, .int 3, .int (-1)] [] (124, (uI (uI I 67 3 (-1)) 68 3 0), J, R) none (124, (uI (uI (uI I 67 3 (-1)) 68 3 0) 69 3 (-1)), J, R)) (c5 : xEv L xs d 33 0 [.ref 70, .int 3, .int (-1)] [] (124, (uI (uI (uI I 67 3 (-1)) 68 3 0) 69 3 (-1)), J, R) none (124, (uI (uI (uI (uI I 67 3 (-1)) 68 3 0) 69 3 (-1)) 70 3 (-1)), J, R)) {v : Option Value} {h' : xH} (hk : xEv L xs (d + 1) 121 30 [.ref 66, .ref 23, .int a, .int 4] [] (124, (uI (uI (uI (uI I 67 3 (-1)) 68 3 0) 69 3 (-1)) 70 3 (-1)), J, R) v h') : xEv L xs (d + 1) 121 30 [.ref 66, .ref 23, .int a, .int 3] [] (124, I, J, R) v h' := by
  refine ev_go 4 (pc1 := 36) (lv1 := [.ref 66, .ref 23, .int a, .int 3]) (st1 := [.ref 66]) (h1 := (124, I, J, R)) rfl ?_
  refine ev_gf (c := 66) (t := 67) (X := R 66 0) rfl rfl (fun _ => rfl) rfl (hG 66 0 67 rfl rfl) ?_
  refine ev_go 3 (pc1 := 42) (lv1 := [.ref 66, .ref 23, .int a, .int 3]) (st1 := [.int 3, .ref 23, .int 3, .ref 67]) (h1 := (124, I, J, R)) rfl ?_
  refine ev_call (v1 := (some (.int 0))) (h1 := (124, I, J, R)) rfl rfl c1 ?_
  refine ev_go 2 (pc1 := 60) (lv1 := [.ref 66, .ref 23, .int a, .int 3]) (st1 := [.int (-1), .int 3, .ref 67]) (h1 := (124, I, J, R)) rfl ?_
  refine ev_call (v1 := none) (h1 := (124, (uI I 67 3 (-1)), J, R)) rfl rfl c2 ?_
  refine ev_go 1 (pc1 := 64) (lv1 := [.ref 66, .ref 23, .int a, .int 3]) (st1 := [.ref 66]) (h1 := (124, (uI I 67 3 (-1)), J, R)) rfl ?_
  refine ev_gf (c := 66) (t := 68) (X := R 66 1) rfl rfl (fun _ => rfl) rfl (hG 66 1 68 rfl rfl) ?_
  refine ev_go 2 (pc1 := 69) (lv1 := [.ref 66, .ref 23, .int a, .int 3]) (st1 := [.int 0, .int 3, .ref 68]) (h1 := (124, (uI I 67 3 (-1)), J, R)) rfl ?_
  refine ev_call (v1 := none) (h1 := (124, (uI (uI I 67 3 (-1)) 68 3 0), J, R)) rfl rfl c3 ?_
  refine ev_go 1 (pc1 := 73) (lv1 := [.ref 66, .ref 23, .int a, .int 3]) (st1 := [.ref 66]) (h1 := (124, (uI (uI I 67 3 (-1)) 68 3 0), J, R)) rfl ?_
  refine ev_gf (c := 66) (t := 69) (X := R 66 2) rfl rfl (fun _ => rfl) rfl (hG 66 2 69 rfl rfl) ?_
  refine ev_go 2 (pc1 := 78) (lv1 := [.ref 66, .ref 23, .int a, .int 3]) (st1 := [.int (-1), .int 3, .ref 69]) (h1 := (124, (uI (uI I 67 3 (-1)) 68 3 0), J, R)) rfl ?_
  refine ev_call (v1 := none) (h1 := (124, (uI (uI (uI I 67 3 (-1)) 68 3 0) 69 3 (-1)), J, R)) rfl rfl c4 ?_
  refine ev_go 1 (pc1 := 82) (lv1 := [.ref 66, .ref 23, .int a, .int 3]) (st1 := [.ref 66]) (h1 := (124, (uI (uI (uI I 67 3 (-1)) 68 3 0) 69 3 (-1)), J, R)) rfl ?_
  refine ev_gf (c := 66) (t := 70) (X := R 66 3) rfl rfl (fun _ => rfl) rfl (hG 66 3 70 rfl rfl) ?_
  refine ev_go 2 (pc1 := 87) (lv1 := [.ref 66, .ref 23, .int a, .int 3]) (st1 := [.int (-1), .int 3, .ref 70]) (h1 := (124, (uI (uI (uI I 67 3 (-1)) 68 3 0) 69 3 (-1)), J, R)) rfl ?_
  refine ev_call (v1 := none) (h1 := (124, (uI (uI (uI (uI I 67 3 (-1)) 68 3 0) 69 3 (-1)) 70 3 (-1)), J, R)) rfl rfl c5 ?_
  refine ev_go 2 (pc1 := 30) (lv1 := [.ref 66, .ref 23, .int a, .int 4]) (st1 := []) (h1 := (124, (uI (uI (uI (uI I 67 3 (-1)) 68 3 0) 69 3 (-1)) 70 3 (-1)), J, R)) rfl ?_
  exact hk
theorem rSk_3_23 {L : Nat} {xs : Nat → Int32} {d : Nat} {I : Nat → Nat → Int32} {J : Nat → Nat → Int64} {R : Nat → Nat → Nat} (hG : aGd R) {nn : Nat} (q5 : (I 23 16).toInt = nn) {a : Int32} {v : Option Value} {h' : xH} (hk : xEv L xs (d + 1) 121 30 [.ref 66, .ref 23, .int a, .int 4] [] (124, uI (uI (uI (uI I 67 3 (if 3 < nn then I 31 3 else -1)) 68 3 0) 69 3 (-1)) 70 3 (-1), J, R) v h') : xEv L xs (d + 1) 121 30 [.ref 66, .ref 23, .int a, .int 3] [] (124, I, J, R) v h' := by
  have ek : ((3 : Int32)).toInt = 3 := by decide
  have pt : ∀ (c : Nat) (I : Nat → Nat → Int32) (x : Int32), (∀ f : FieldType → Nat → Option xR, xarr (124, I, J, R) c f = f .int 4) → xEv L xs d 33 0 [.ref c, .int 3, .int x] [] (124, I, J, R) none (124, uI I c 3 x, J, R) := fun c I x ho => put_in (L := L) (xs := xs) (d := d) (I := I) (J := J) (R := R) (c := c) (n := 4) ho (by decide) (i := 3) x (by decide) (by decide)
  rcases hn_run_23 (L := L) (xs := xs) (d := d) (I := I) (J := J) hG q5 3 with ⟨h, x⟩ | ⟨h, x⟩
  · rw [ek] at h
    rw [if_pos (by omega)] at hk
    have c2 := at_run (L := L) (xs := xs) (d := d) (h := (124, I, J, R)) (c := 31) (n := 4) (fun _ => rfl) (by decide) 3
    rw [if_pos ⟨by decide, by decide⟩] at c2
    exact rS_3_1_23 hG x c2 (pt 67 _ _ (fun _ => rfl)) (pt 68 _ _ (fun _ => rfl)) (pt 69 _ _ (fun _ => rfl)) (pt 70 _ _ (fun _ => rfl)) hk
  · rw [ek] at h
    rw [if_neg (by omega)] at hk
    exact rS_3_0_23 hG x (pt 67 _ _ (fun _ => rfl)) (pt 68 _ _ (fun _ => rfl)) (pt 69 _ _ (fun _ => rfl)) (pt 70 _ _ (fun _ => rfl)) hk
set_option maxRecDepth 20000 in
theorem rS_e_23 {L : Nat} {xs : Nat → Int32} {d : Nat} {I : Nat → Nat → Int32} {J : Nat → Nat → Int64} {R : Nat → Nat → Nat} {a : Int32} (hG : aGd R)  : xEv L xs d 121 30 [.ref 66, .ref 23, .int a, .int 4] [] (124, I, J, R) none (124, I, J, R) := by
  refine ev_go 3 (pc1 := 96) (lv1 := [.ref 66, .ref 23, .int a, .int 4]) (st1 := []) (h1 := (124, I, J, R)) rfl ?_
  exact ev_ret rfl rfl
set_option maxRecDepth 20000 in
theorem bO_n_23 {L : Nat} {xs : Nat → Int32} {d : Nat} {I : Nat → Nat → Int32} {J : Nat → Nat → Int64} {R : Nat → Nat → Nat} {a : Int32} (hG : aGd R) (b1 : a.toInt < 0) : xEv L xs d 120 0 [.ref 0, .int a] [] (124, I, J, R) (some (.int (-2))) (124, I, J, R) := by
  refine ev_go 1 (pc1 := 1) (lv1 := [.ref 0, .int a]) (st1 := [.int a]) (h1 := (124, I, J, R)) rfl ?_
  refine ev_br (b1 := false) rfl rfl (xcd_nge (x := a) (y := 0) (by rw [show ((0 : Int32)).toInt = 0 from by decide]; first | exact b1 | omega)) ?_
  refine ev_go 1 (pc1 := 6) (lv1 := [.ref 0, .int a]) (st1 := [.int (-2)]) (h1 := (124, I, J, R)) rfl ?_
  exact ev_ret rfl rfl
set_option maxRecDepth 20000 in
theorem bO_s_23 {L : Nat} {xs : Nat → Int32} {d : Nat} {I : Nat → Nat → Int32} {J : Nat → Nat → Int64} {R : Nat → Nat → Nat} {I1 : Nat → Nat → Int32} {J1 : Nat → Nat → Int64} {a : Int32} (hG : aGd R) (b1 : a.toInt ≥ 0) (r_R_0_8 : R 0 8 = 24) (c1 : xEv L xs d 121 0 [.ref 66, .ref 23, .int a, xmk] [] (124, I, J, R) none (124, I1, J1, R)) : xEv L xs (d + 1) 120 0 [.ref 0, .int a] [] (124, I, J, R) (some (.int 1)) (124, I1, J1, R) := by
  refine ev_go 1 (pc1 := 1) (lv1 := [.ref 0, .int a]) (st1 := [.int a]) (h1 := (124, I, J, R)) rfl ?_
  refine ev_br (b1 := true) rfl rfl (xcd_ge (x := a) (y := 0) (by rw [show ((0 : Int32)).toInt = 0 from by decide]; first | exact b1 | omega)) ?_
  refine ev_go 1 (pc1 := 8) (lv1 := [.ref 0, .int a]) (st1 := [.ref 0]) (h1 := (124, I, J, R)) rfl ?_
  refine ev_gf (c := 0) (t := 63) (X := R 0 7) rfl rfl (fun _ => rfl) rfl (hG 0 7 63 rfl rfl) ?_
  refine ev_gf (c := 63) (t := 66) (X := R 63 3) rfl rfl (fun _ => rfl) rfl (hG 63 3 66 rfl rfl) ?_
  refine ev_go 1 (pc1 := 15) (lv1 := [.ref 0, .int a]) (st1 := [.ref 0, .ref 66]) (h1 := (124, I, J, R)) rfl ?_
  refine ev_gf (c := 0) (t := 23) (X := R 0 8) rfl rfl (fun _ => rfl) rfl r_R_0_8 ?_
  refine ev_go 1 (pc1 := 19) (lv1 := [.ref 0, .int a]) (st1 := [.int a, .ref 23, .ref 66]) (h1 := (124, I, J, R)) rfl ?_
  refine ev_call (v1 := none) (h1 := (124, I1, J1, R)) rfl rfl c1 ?_
  refine ev_go 1 (pc1 := 23) (lv1 := [.ref 0, .int a]) (st1 := [.int 1]) (h1 := (124, I1, J1, R)) rfl ?_
  exact ev_ret rfl rfl
theorem bgc_23 {L : Nat} {xs : Nat → Int32} {d : Nat} {I : Nat → Nat → Int32} {J : Nat → Nat → Int64} {R : Nat → Nat → Nat} (hG : aGd R) (h8 : R 0 8 = 24) {nn : Nat} (q5 : (I 23 16).toInt = nn) {a : Int32} (ha : 0 ≤ a.toInt) : ∃ (I' : Nat → Nat → Int32) (J' : Nat → Nat → Int64), xEv L xs (d + 2) 120 0 [.ref 0, .int a] [] (124, I, J, R) (some (.int 1)) (124, I', J', R) ∧ I' 66 4 = 1 ∧ I' 66 5 = 0 ∧ I' 66 6 = (1 <<< (I 23 14 &&& 31)) - 1 ∧ J' 66 7 = a.toInt64 ∧ (∀ q, q < 4 → I' 67 q = (if q < nn then I 31 q else -1) ∧ I' 68 q = 0 ∧ I' 69 q = -1 ∧ I' 70 q = -1) := by
  refine ⟨_, _, bO_s_23 hG ha h8 (rS_s_23 hG (rSk_0_23 hG (by exact q5) (rSk_1_23 hG (by exact q5) (rSk_2_23 hG (by exact q5) (rSk_3_23 hG (by exact q5) (rS_e_23 hG)))))), ?_, ?_, ?_, ?_, ?_⟩
  · rfl
  · rfl
  · rfl
  · rfl
  intro q hq
  match q, hq with
    | 0, _ => exact ⟨rfl, rfl, rfl, rfl⟩
    | 1, _ => exact ⟨rfl, rfl, rfl, rfl⟩
    | 2, _ => exact ⟨rfl, rfl, rfl, rfl⟩
    | 3, _ => exact ⟨rfl, rfl, rfl, rfl⟩
    | q + 4, h => omega
