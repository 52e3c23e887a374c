set_option maxRecDepth 20000 in
theorem re_3 {L : Nat} {xs : Nat → Int32} {d : Nat} {I : Nat → Nat → Int32} {J : Nat → Nat → Int64} {R : Nat → Nat → Nat} {I1 : Nat → Nat → Int32} {i : Int32} (hG : aGd R) (c1 : xEv L xs d 43 0 [.ref 3, xmk, xmk] [] (124, I, J, R) none (124, I1, J, R)) : xEv L xs (d + 1) 18 152 [.ref 43, .ref 3, .int i] [] (124, I, J, R) (some (.int (I1 3 17))) (124, I1, J, R) := by
  refine ev_go 1 (pc1 := 153) (lv1 := [.ref 43, .ref 3, .int i]) (st1 := [.ref 3]) (h1 := (124, I, J, R)) rfl ?_
  refine ev_call (v1 := none) (h1 := (124, I1, J, R)) rfl rfl c1 ?_
  refine ev_go 2 (pc1 := 160) (lv1 := [.ref 43, .ref 3, .int i]) (st1 := [.int (I1 3 17)]) (h1 := (124, I1, J, R)) rfl ?_
  exact ev_ret rfl rfl
set_option maxRecDepth 20000 in
theorem re_23 {L : Nat} {xs : Nat → Int32} {d : Nat} {I : Nat → Nat → Int32} {J : Nat → Nat → Int64} {R : Nat → Nat → Nat} {I1 : Nat → Nat → Int32} {i : Int32} (hG : aGd R) (c1 : xEv L xs d 43 0 [.ref 23, xmk, xmk] [] (124, I, J, R) none (124, I1, J, R)) : xEv L xs (d + 1) 18 152 [.ref 43, .ref 23, .int i] [] (124, I, J, R) (some (.int (I1 23 17))) (124, I1, J, R) := by
  refine ev_go 1 (pc1 := 153) (lv1 := [.ref 43, .ref 23, .int i]) (st1 := [.ref 23]) (h1 := (124, I, J, R)) rfl ?_
  refine ev_call (v1 := none) (h1 := (124, I1, J, R)) rfl rfl c1 ?_
  refine ev_go 2 (pc1 := 160) (lv1 := [.ref 43, .ref 23, .int i]) (st1 := [.int (I1 23 17)]) (h1 := (124, I1, J, R)) rfl ?_
  exact ev_ret rfl rfl
set_option maxRecDepth 20000 in
theorem fi_64 {L : Nat} {xs : Nat → Int32} {d : Nat} {I : Nat → Nat → Int32} {J : Nat → Nat → Int64} {R : Nat → Nat → Nat} (hG : aGd R)  : xEv L xs d 13 0 [.ref 64, .int 3, xmk, xmk] [] (124, I, J, R) none (124, (uI (uI (uI (uI (uI (uI (uI I 64 0 3) 64 1 3) 64 2 3) 64 3 3) 64 4 3) 64 5 3) 64 6 3), J, R) := by
  refine ev_go 30 (pc1 := 14) (lv1 := [.ref 64, .int 3, .int 2, .int 7]) (st1 := []) (h1 := (124, (uI (uI (uI I 64 0 3) 64 1 3) 64 2 3), J, R)) rfl ?_
  refine ev_go 30 (pc1 := 6) (lv1 := [.ref 64, .int 3, .int 6, .int 7]) (st1 := [.int 6]) (h1 := (124, (uI (uI (uI (uI (uI (uI I 64 0 3) 64 1 3) 64 2 3) 64 3 3) 64 4 3) 64 5 3), J, R)) rfl ?_
  refine ev_go 11 (pc1 := 20) (lv1 := [.ref 64, .int 3, .int 7, .int 7]) (st1 := []) (h1 := (124, (uI (uI (uI (uI (uI (uI (uI I 64 0 3) 64 1 3) 64 2 3) 64 3 3) 64 4 3) 64 5 3) 64 6 3), J, R)) rfl ?_
  exact ev_ret rfl rfl
set_option maxRecDepth 20000 in
theorem fo_0 {L : Nat} {xs : Nat → Int32} {d : Nat} {I : Nat → Nat → Int32} {J : Nat → Nat → Int64} {R : Nat → Nat → Nat} (hG : aGd R) (c1 : xEv L xs d 13 0 [.ref 64, .int 3, xmk, xmk] [] (124, I, J, R) none (124, (uI (uI (uI (uI (uI (uI (uI I 64 0 3) 64 1 3) 64 2 3) 64 3 3) 64 4 3) 64 5 3) 64 6 3), J, R)) : xEv L xs (d + 1) 46 0 [.ref 63] [] (124, I, J, R) none (124, (uI (uI (uI (uI (uI (uI (uI (uI (uI (uI (uI I 64 0 3) 64 1 3) 64 2 3) 64 3 3) 64 4 3) 64 5 3) 64 6 3) 66 4 0) 71 4 0) 76 4 0) 81 4 0), J, R) := by
  refine ev_go 1 (pc1 := 1) (lv1 := [.ref 63]) (st1 := [.ref 63]) (h1 := (124, I, J, R)) rfl ?_
  refine ev_gf (c := 63) (t := 64) (X := R 63 0) rfl rfl (fun _ => rfl) rfl (hG 63 0 64 rfl rfl) ?_
  refine ev_go 1 (pc1 := 5) (lv1 := [.ref 63]) (st1 := [.int 3, .ref 64]) (h1 := (124, I, J, R)) rfl ?_
  refine ev_call (v1 := none) (h1 := (124, (uI (uI (uI (uI (uI (uI (uI I 64 0 3) 64 1 3) 64 2 3) 64 3 3) 64 4 3) 64 5 3) 64 6 3), J, R)) rfl rfl c1 ?_
  refine ev_go 1 (pc1 := 9) (lv1 := [.ref 63]) (st1 := [.ref 63]) (h1 := (124, (uI (uI (uI (uI (uI (uI (uI I 64 0 3) 64 1 3) 64 2 3) 64 3 3) 64 4 3) 64 5 3) 64 6 3), J, R)) rfl ?_
  refine ev_gf (c := 63) (t := 66) (X := R 63 3) rfl rfl (fun _ => rfl) rfl (hG 63 3 66 rfl rfl) ?_
  refine ev_go 3 (pc1 := 17) (lv1 := [.ref 63]) (st1 := [.ref 63]) (h1 := (124, (uI (uI (uI (uI (uI (uI (uI (uI I 64 0 3) 64 1 3) 64 2 3) 64 3 3) 64 4 3) 64 5 3) 64 6 3) 66 4 0), J, R)) rfl ?_
  refine ev_gf (c := 63) (t := 71) (X := R 63 4) rfl rfl (fun _ => rfl) rfl (hG 63 4 71 rfl rfl) ?_
  refine ev_go 3 (pc1 := 25) (lv1 := [.ref 63]) (st1 := [.ref 63]) (h1 := (124, (uI (uI (uI (uI (uI (uI (uI (uI (uI I 64 0 3) 64 1 3) 64 2 3) 64 3 3) 64 4 3) 64 5 3) 64 6 3) 66 4 0) 71 4 0), J, R)) rfl ?_
  refine ev_gf (c := 63) (t := 76) (X := R 63 5) rfl rfl (fun _ => rfl) rfl (hG 63 5 76 rfl rfl) ?_
  refine ev_go 3 (pc1 := 33) (lv1 := [.ref 63]) (st1 := [.ref 63]) (h1 := (124, (uI (uI (uI (uI (uI (uI (uI (uI (uI (uI I 64 0 3) 64 1 3) 64 2 3) 64 3 3) 64 4 3) 64 5 3) 64 6 3) 66 4 0) 71 4 0) 76 4 0), J, R)) rfl ?_
  refine ev_gf (c := 63) (t := 81) (X := R 63 6) rfl rfl (fun _ => rfl) rfl (hG 63 6 81 rfl rfl) ?_
  refine ev_go 2 (pc1 := 40) (lv1 := [.ref 63]) (st1 := []) (h1 := (124, (uI (uI (uI (uI (uI (uI (uI (uI (uI (uI (uI I 64 0 3) 64 1 3) 64 2 3) 64 3 3) 64 4 3) 64 5 3) 64 6 3) 66 4 0) 71 4 0) 76 4 0) 81 4 0), J, R)) rfl ?_
  exact ev_ret rfl rfl
set_option maxRecDepth 20000 in
theorem vg_f_3 {L : Nat} {xs : Nat → Int32} {d : Nat} {I : Nat → Nat → Int32} {J : Nat → Nat → Int64} {R : Nat → Nat → Nat} {I1 : Nat → Nat → Int32} {J1 : Nat → Nat → Int64} {R1 : Nat → Nat → Nat} {r : Int32} (hG : aGd R) (r_R_0_9 : R 0 9 = 4) (c1 : xEv L xs d 18 0 [.ref 43, .ref 3, xmk] [] (124, I, J, R) (some (.int r)) (124, I1, J1, R1)) (hG1 : aGd R1) (b1 : r.toInt < 0) : xEv L xs (d + 1) 17 0 [.ref 0, xmk, xmk] [] (124, I, J, R) (some (.int (-1))) (124, (uI I1 1 1 0), J1, R1) := by
  refine ev_go 1 (pc1 := 1) (lv1 := [.ref 0, xmk, xmk]) (st1 := [.ref 0]) (h1 := (124, I, J, R)) rfl ?_
  refine ev_gf (c := 0) (t := 43) (X := R 0 1) rfl rfl (fun _ => rfl) rfl (hG 0 1 43 rfl rfl) ?_
  refine ev_go 1 (pc1 := 5) (lv1 := [.ref 0, xmk, xmk]) (st1 := [.ref 0, .ref 43]) (h1 := (124, I, J, R)) rfl ?_
  refine ev_gf (c := 0) (t := 3) (X := R 0 9) rfl rfl (fun _ => rfl) rfl r_R_0_9 ?_
  refine ev_call (v1 := (some (.int r))) (h1 := (124, I1, J1, R1)) rfl rfl c1 ?_
  refine ev_go 2 (pc1 := 13) (lv1 := [.ref 0, .int r, xmk]) (st1 := [.ref 0]) (h1 := (124, I1, J1, R1)) rfl ?_
  refine ev_gf (c := 0) (t := 1) (X := R1 0 0) rfl rfl (fun _ => rfl) rfl (hG1 0 0 1 rfl rfl) ?_
  refine ev_go 3 (pc1 := 21) (lv1 := [.ref 0, .int r, xmk]) (st1 := [.int r]) (h1 := (124, (uI I1 1 1 0), J1, R1)) rfl ?_
  refine ev_br (b1 := false) rfl rfl (xcd_nge (x := r) (y := 0) (by rw [show ((0 : Int32)).toInt = 0 from by decide]; first | exact b1 | omega)) ?_
  refine ev_go 1 (pc1 := 25) (lv1 := [.ref 0, .int r, xmk]) (st1 := [.int (-1)]) (h1 := (124, (uI I1 1 1 0), J1, R1)) rfl ?_
  exact ev_ret rfl rfl
set_option maxRecDepth 20000 in
theorem vg_s_3 {L : Nat} {xs : Nat → Int32} {d : Nat} {I : Nat → Nat → Int32} {J : Nat → Nat → Int64} {R : Nat → Nat → Nat} {I1 : Nat → Nat → Int32} {J1 : Nat → Nat → Int64} {R1 : Nat → Nat → Nat} {r : Int32} (hG : aGd R) (r_R_0_9 : R 0 9 = 4) (c1 : xEv L xs d 18 0 [.ref 43, .ref 3, xmk] [] (124, I, J, R) (some (.int r)) (124, I1, J1, R1)) (hG1 : aGd R1) (b1 : r.toInt ≥ 0) (r_R1_0_9 : R1 0 9 = 4) (r_R1_0_8 : R1 0 8 = 24) (c2 : xEv L xs d 46 0 [.ref 63] [] (124, (uI (uI (uI (uI I1 1 1 0) 44 5 0) 49 3 0) 57 8 0), J1, (uR (uR R1 0 9 24) 0 8 4)) none (124, (uI (uI (uI (uI (uI (uI (uI (uI (uI (uI (uI (uI (uI (uI (uI I1 1 1 0) 44 5 0) 49 3 0) 57 8 0) 64 0 3) 64 1 3) 64 2 3) 64 3 3) 64 4 3) 64 5 3) 64 6 3) 66 4 0) 71 4 0) 76 4 0) 81 4 0), J1, (uR (uR R1 0 9 24) 0 8 4))) : xEv L xs (d + 1) 17 0 [.ref 0, xmk, xmk] [] (124, I, J, R) (some (.int r)) (124, (uI (uI (uI (uI (uI (uI (uI (uI (uI (uI (uI (uI (uI (uI (uI I1 1 1 0) 44 5 0) 49 3 0) 57 8 0) 64 0 3) 64 1 3) 64 2 3) 64 3 3) 64 4 3) 64 5 3) 64 6 3) 66 4 0) 71 4 0) 76 4 0) 81 4 0), J1, (uR (uR R1 0 9 24) 0 8 4)) := by
  refine ev_go 1 (pc1 := 1) (lv1 := [.ref 0, xmk, xmk]) (st1 := [.ref 0]) (h1 := (124, I, J, R)) rfl ?_
  refine ev_gf (c := 0) (t := 43) (X := R 0 1) rfl rfl (fun _ => rfl) rfl (hG 0 1 43 rfl rfl) ?_
  refine ev_go 1 (pc1 := 5) (lv1 := [.ref 0, xmk, xmk]) (st1 := [.ref 0, .ref 43]) (h1 := (124, I, J, R)) rfl ?_
  refine ev_gf (c := 0) (t := 3) (X := R 0 9) rfl rfl (fun _ => rfl) rfl r_R_0_9 ?_
  refine ev_call (v1 := (some (.int r))) (h1 := (124, I1, J1, R1)) rfl rfl c1 ?_
  refine ev_go 2 (pc1 := 13) (lv1 := [.ref 0, .int r, xmk]) (st1 := [.ref 0]) (h1 := (124, I1, J1, R1)) rfl ?_
  refine ev_gf (c := 0) (t := 1) (X := R1 0 0) rfl rfl (fun _ => rfl) rfl (hG1 0 0 1 rfl rfl) ?_
  refine ev_go 3 (pc1 := 21) (lv1 := [.ref 0, .int r, xmk]) (st1 := [.int r]) (h1 := (124, (uI I1 1 1 0), J1, R1)) rfl ?_
  refine ev_br (b1 := true) rfl rfl (xcd_ge (x := r) (y := 0) (by rw [show ((0 : Int32)).toInt = 0 from by decide]; first | exact b1 | omega)) ?_
  refine ev_go 1 (pc1 := 27) (lv1 := [.ref 0, .int r, xmk]) (st1 := [.ref 0]) (h1 := (124, (uI I1 1 1 0), J1, R1)) rfl ?_
  refine ev_gf (c := 0) (t := 3) (X := R1 0 9) rfl rfl (fun _ => rfl) rfl r_R1_0_9 ?_
  refine ev_go 3 (pc1 := 33) (lv1 := [.ref 0, .int r, .ref 3]) (st1 := [.ref 0, .ref 0]) (h1 := (124, (uI I1 1 1 0), J1, R1)) rfl ?_
  refine ev_gf (c := 0) (t := 23) (X := R1 0 8) rfl rfl (fun _ => rfl) rfl r_R1_0_8 ?_
  refine ev_go 5 (pc1 := 45) (lv1 := [.ref 0, .int r, .ref 3]) (st1 := [.ref 0]) (h1 := (124, (uI I1 1 1 0), J1, (uR (uR R1 0 9 24) 0 8 4))) rfl ?_
  refine ev_gf (c := 0) (t := 44) (X := R1 0 2) rfl rfl (fun _ => rfl) rfl (hG1 0 2 44 rfl rfl) ?_
  refine ev_go 3 (pc1 := 53) (lv1 := [.ref 0, .int r, .ref 3]) (st1 := [.ref 0]) (h1 := (124, (uI (uI I1 1 1 0) 44 5 0), J1, (uR (uR R1 0 9 24) 0 8 4))) rfl ?_
  refine ev_gf (c := 0) (t := 49) (X := R1 0 3) rfl rfl (fun _ => rfl) rfl (hG1 0 3 49 rfl rfl) ?_
  refine ev_go 3 (pc1 := 61) (lv1 := [.ref 0, .int r, .ref 3]) (st1 := [.ref 0]) (h1 := (124, (uI (uI (uI I1 1 1 0) 44 5 0) 49 3 0), J1, (uR (uR R1 0 9 24) 0 8 4))) rfl ?_
  refine ev_gf (c := 0) (t := 57) (X := R1 0 6) rfl rfl (fun _ => rfl) rfl (hG1 0 6 57 rfl rfl) ?_
  refine ev_go 3 (pc1 := 69) (lv1 := [.ref 0, .int r, .ref 3]) (st1 := [.ref 0]) (h1 := (124, (uI (uI (uI (uI I1 1 1 0) 44 5 0) 49 3 0) 57 8 0), J1, (uR (uR R1 0 9 24) 0 8 4))) rfl ?_
  refine ev_gf (c := 0) (t := 63) (X := R1 0 7) rfl rfl (fun _ => rfl) rfl (hG1 0 7 63 rfl rfl) ?_
  refine ev_call (v1 := none) (h1 := (124, (uI (uI (uI (uI (uI (uI (uI (uI (uI (uI (uI (uI (uI (uI (uI I1 1 1 0) 44 5 0) 49 3 0) 57 8 0) 64 0 3) 64 1 3) 64 2 3) 64 3 3) 64 4 3) 64 5 3) 64 6 3) 66 4 0) 71 4 0) 76 4 0) 81 4 0), J1, (uR (uR R1 0 9 24) 0 8 4))) rfl rfl c2 ?_
  refine ev_go 1 (pc1 := 76) (lv1 := [.ref 0, .int r, .ref 3]) (st1 := [.int r]) (h1 := (124, (uI (uI (uI (uI (uI (uI (uI (uI (uI (uI (uI (uI (uI (uI (uI I1 1 1 0) 44 5 0) 49 3 0) 57 8 0) 64 0 3) 64 1 3) 64 2 3) 64 3 3) 64 4 3) 64 5 3) 64 6 3) 66 4 0) 71 4 0) 76 4 0) 81 4 0), J1, (uR (uR R1 0 9 24) 0 8 4))) rfl ?_
  exact ev_ret rfl rfl
set_option maxRecDepth 20000 in
theorem vg_f_23 {L : Nat} {xs : Nat → Int32} {d : Nat} {I : Nat → Nat → Int32} {J : Nat → Nat → Int64} {R : Nat → Nat → Nat} {I1 : Nat → Nat → Int32} {J1 : Nat → Nat → Int64} {R1 : Nat → Nat → Nat} {r : Int32} (hG : aGd R) (r_R_0_9 : R 0 9 = 24) (c1 : xEv L xs d 18 0 [.ref 43, .ref 23, xmk] [] (124, I, J, R) (some (.int r)) (124, I1, J1, R1)) (hG1 : aGd R1) (b1 : r.toInt < 0) : xEv L xs (d + 1) 17 0 [.ref 0, xmk, xmk] [] (124, I, J, R) (some (.int (-1))) (124, (uI I1 1 1 0), J1, R1) := by
  refine ev_go 1 (pc1 := 1) (lv1 := [.ref 0, xmk, xmk]) (st1 := [.ref 0]) (h1 := (124, I, J, R)) rfl ?_
  refine ev_gf (c := 0) (t := 43) (X := R 0 1) rfl rfl (fun _ => rfl) rfl (hG 0 1 43 rfl rfl) ?_
  refine ev_go 1 (pc1 := 5) (lv1 := [.ref 0, xmk, xmk]) (st1 := [.ref 0, .ref 43]) (h1 := (124, I, J, R)) rfl ?_
  refine ev_gf (c := 0) (t := 23) (X := R 0 9) rfl rfl (fun _ => rfl) rfl r_R_0_9 ?_
  refine ev_call (v1 := (some (.int r))) (h1 := (124, I1, J1, R1)) rfl rfl c1 ?_
  refine ev_go 2 (pc1 := 13) (lv1 := [.ref 0, .int r, xmk]) (st1 := [.ref 0]) (h1 := (124, I1, J1, R1)) rfl ?_
  refine ev_gf (c := 0) (t := 1) (X := R1 0 0) rfl rfl (fun _ => rfl) rfl (hG1 0 0 1 rfl rfl) ?_
  refine ev_go 3 (pc1 := 21) (lv1 := [.ref 0, .int r, xmk]) (st1 := [.int r]) (h1 := (124, (uI I1 1 1 0), J1, R1)) rfl ?_
  refine ev_br (b1 := false) rfl rfl (xcd_nge (x := r) (y := 0) (by rw [show ((0 : Int32)).toInt = 0 from by decide]; first | exact b1 | omega)) ?_
  refine ev_go 1 (pc1 := 25) (lv1 := [.ref 0, .int r, xmk]) (st1 := [.int (-1)]) (h1 := (124, (uI I1 1 1 0), J1, R1)) rfl ?_
  exact ev_ret rfl rfl
set_option maxRecDepth 20000 in
theorem vg_s_23 {L : Nat} {xs : Nat → Int32} {d : Nat} {I : Nat → Nat → Int32} {J : Nat → Nat → Int64} {R : Nat → Nat → Nat} {I1 : Nat → Nat → Int32} {J1 : Nat → Nat → Int64} {R1 : Nat → Nat → Nat} {r : Int32} (hG : aGd R) (r_R_0_9 : R 0 9 = 24) (c1 : xEv L xs d 18 0 [.ref 43, .ref 23, xmk] [] (124, I, J, R) (some (.int r)) (124, I1, J1, R1)) (hG1 : aGd R1) (b1 : r.toInt ≥ 0) (r_R1_0_9 : R1 0 9 = 24) (r_R1_0_8 : R1 0 8 = 4) (c2 : xEv L xs d 46 0 [.ref 63] [] (124, (uI (uI (uI (uI I1 1 1 0) 44 5 0) 49 3 0) 57 8 0), J1, (uR (uR R1 0 9 4) 0 8 24)) none (124, (uI (uI (uI (uI (uI (uI (uI (uI (uI (uI (uI (uI (uI (uI (uI I1 1 1 0) 44 5 0) 49 3 0) 57 8 0) 64 0 3) 64 1 3) 64 2 3) 64 3 3) 64 4 3) 64 5 3) 64 6 3) 66 4 0) 71 4 0) 76 4 0) 81 4 0), J1, (uR (uR R1 0 9 4) 0 8 24))) : xEv L xs (d + 1) 17 0 [.ref 0, xmk, xmk] [] (124, I, J, R) (some (.int r)) (124, (uI (uI (uI (uI (uI (uI (uI (uI (uI (uI (uI (uI (uI (uI (uI I1 1 1 0) 44 5 0) 49 3 0) 57 8 0) 64 0 3) 64 1 3) 64 2 3) 64 3 3) 64 4 3) 64 5 3) 64 6 3) 66 4 0) 71 4 0) 76 4 0) 81 4 0), J1, (uR (uR R1 0 9 4) 0 8 24)) := by
  refine ev_go 1 (pc1 := 1) (lv1 := [.ref 0, xmk, xmk]) (st1 := [.ref 0]) (h1 := (124, I, J, R)) rfl ?_
  refine ev_gf (c := 0) (t := 43) (X := R 0 1) rfl rfl (fun _ => rfl) rfl (hG 0 1 43 rfl rfl) ?_
  refine ev_go 1 (pc1 := 5) (lv1 := [.ref 0, xmk, xmk]) (st1 := [.ref 0, .ref 43]) (h1 := (124, I, J, R)) rfl ?_
  refine ev_gf (c := 0) (t := 23) (X := R 0 9) rfl rfl (fun _ => rfl) rfl r_R_0_9 ?_
  refine ev_call (v1 := (some (.int r))) (h1 := (124, I1, J1, R1)) rfl rfl c1 ?_
  refine ev_go 2 (pc1 := 13) (lv1 := [.ref 0, .int r, xmk]) (st1 := [.ref 0]) (h1 := (124, I1, J1, R1)) rfl ?_
  refine ev_gf (c := 0) (t := 1) (X := R1 0 0) rfl rfl (fun _ => rfl) rfl (hG1 0 0 1 rfl rfl) ?_
  refine ev_go 3 (pc1 := 21) (lv1 := [.ref 0, .int r, xmk]) (st1 := [.int r]) (h1 := (124, (uI I1 1 1 0), J1, R1)) rfl ?_
  refine ev_br (b1 := true) rfl rfl (xcd_ge (x := r) (y := 0) (by rw [show ((0 : Int32)).toInt = 0 from by decide]; first | exact b1 | omega)) ?_
  refine ev_go 1 (pc1 := 27) (lv1 := [.ref 0, .int r, xmk]) (st1 := [.ref 0]) (h1 := (124, (uI I1 1 1 0), J1, R1)) rfl ?_
  refine ev_gf (c := 0) (t := 23) (X := R1 0 9) rfl rfl (fun _ => rfl) rfl r_R1_0_9 ?_
  refine ev_go 3 (pc1 := 33) (lv1 := [.ref 0, .int r, .ref 23]) (st1 := [.ref 0, .ref 0]) (h1 := (124, (uI I1 1 1 0), J1, R1)) rfl ?_
  refine ev_gf (c := 0) (t := 3) (X := R1 0 8) rfl rfl (fun _ => rfl) rfl r_R1_0_8 ?_
  refine ev_go 5 (pc1 := 45) (lv1 := [.ref 0, .int r, .ref 23]) (st1 := [.ref 0]) (h1 := (124, (uI I1 1 1 0), J1, (uR (uR R1 0 9 4) 0 8 24))) rfl ?_
  refine ev_gf (c := 0) (t := 44) (X := R1 0 2) rfl rfl (fun _ => rfl) rfl (hG1 0 2 44 rfl rfl) ?_
  refine ev_go 3 (pc1 := 53) (lv1 := [.ref 0, .int r, .ref 23]) (st1 := [.ref 0]) (h1 := (124, (uI (uI I1 1 1 0) 44 5 0), J1, (uR (uR R1 0 9 4) 0 8 24))) rfl ?_
  refine ev_gf (c := 0) (t := 49) (X := R1 0 3) rfl rfl (fun _ => rfl) rfl (hG1 0 3 49 rfl rfl) ?_
  refine ev_go 3 (pc1 := 61) (lv1 := [.ref 0, .int r, .ref 23]) (st1 := [.ref 0]) (h1 := (124, (uI (uI (uI I1 1 1 0) 44 5 0) 49 3 0), J1, (uR (uR R1 0 9 4) 0 8 24))) rfl ?_
  refine ev_gf (c := 0) (t := 57) (X := R1 0 6) rfl rfl (fun _ => rfl) rfl (hG1 0 6 57 rfl rfl) ?_
  refine ev_go 3 (pc1 := 69) (lv1 := [.ref 0, .int r, .ref 23]) (st1 := [.ref 0]) (h1 := (124, (uI (uI (uI (uI I1 1 1 0) 44 5 0) 49 3 0) 57 8 0), J1, (uR (uR R1 0 9 4) 0 8 24))) rfl ?_
  refine ev_gf (c := 0) (t := 63) (X := R1 0 7) rfl rfl (fun _ => rfl) rfl (hG1 0 7 63 rfl rfl) ?_
  refine ev_call (v1 := none) (h1 := (124, (uI (uI (uI (uI (uI (uI (uI (uI (uI (uI (uI (uI (uI (uI (uI I1 1 1 0) 44 5 0) 49 3 0) 57 8 0) 64 0 3) 64 1 3) 64 2 3) 64 3 3) 64 4 3) 64 5 3) 64 6 3) 66 4 0) 71 4 0) 76 4 0) 81 4 0), J1, (uR (uR R1 0 9 4) 0 8 24))) rfl rfl c2 ?_
  refine ev_go 1 (pc1 := 76) (lv1 := [.ref 0, .int r, .ref 23]) (st1 := [.int r]) (h1 := (124, (uI (uI (uI (uI (uI (uI (uI (uI (uI (uI (uI (uI (uI (uI (uI I1 1 1 0) 44 5 0) 49 3 0) 57 8 0) 64 0 3) 64 1 3) 64 2 3) 64 3 3) 64 4 3) 64 5 3) 64 6 3) 66 4 0) 71 4 0) 76 4 0) 81 4 0), J1, (uR (uR R1 0 9 4) 0 8 24))) rfl ?_
  exact ev_ret rfl rfl
set_option maxRecDepth 20000 in
theorem ve_0 {L : Nat} {xs : Nat → Int32} {d : Nat} {I : Nat → Nat → Int32} {J : Nat → Nat → Int64} {R : Nat → Nat → Nat} {I1 : Nat → Nat → Int32} {m : Int32} (hG : aGd R) (c1 : xEv L xs d 142 0 [.ref 86, xmk, xmk] [] (124, I, J, R) none (124, I1, J, R)) : xEv L xs (d + 1) 148 63 [.ref 86, .int m] [] (124, I, J, R) (some (.int m)) (124, (uI I1 86 25 m), J, R) := by
  refine ev_go 1 (pc1 := 64) (lv1 := [.ref 86, .int m]) (st1 := [.ref 86]) (h1 := (124, I, J, R)) rfl ?_
  refine ev_call (v1 := none) (h1 := (124, I1, J, R)) rfl rfl c1 ?_
  refine ev_go 4 (pc1 := 73) (lv1 := [.ref 86, .int m]) (st1 := [.int m]) (h1 := (124, (uI I1 86 25 m), J, R)) rfl ?_
  exact ev_ret rfl rfl
theorem gd_u {R : Nat → Nat → Nat} {a b x : Nat} (hl : (aRef a b).length ≠ 1) (h : aGd R) : aGd (uR R a b x) := by
  intro c k d h1 h2
  by_cases hc : c = a ∧ k = b
  · obtain ⟨rfl, rfl⟩ := hc
    exact absurd (congrArg List.length h1) hl
  · have e : uR R a b x c k = R c k := hR_ne (h := (124, fun _ _ => 0, fun _ _ => 0, R)) x hc
    rw [e]
    exact h c k d h1 h2
/-- the village of class and reference alike -/
def VR_3 (np nm nn : Nat) (l : List (Nat × Nat)) (I Ir : Nat → Nat → Int32) : Prop :=
  (np ≤ 7 ∧ nm ≤ 16 ∧ nn ≤ 4) ∧ l.length ≤ 64 ∧ l.Pairwise (fun p q => p.1 ≤ q.1) ∧ (∀ p ∈ l, p.1 < 96 ∧ p.2 < nm) ∧
  ((I 3 14).toInt = np ∧ (Ir 88 0).toInt = np) ∧ ((I 3 15).toInt = nm ∧ (Ir 88 1).toInt = nm) ∧ ((I 3 16).toInt = nn ∧ (Ir 88 2).toInt = nn) ∧
  (∀ i, i < np → I 5 i = Ir 90 i ∧ I 6 i = Ir 91 i) ∧
  (∀ i, i < nm → I 7 i = Ir 92 i ∧ I 8 i = Ir 93 i ∧ I 9 i = Ir 94 i ∧ I 10 i = Ir 95 i) ∧
  (∀ i, i < nn → I 11 i = Ir 96 i ∧ I 12 i = Ir 97 i ∧ I 13 i = Ir 98 i ∧ I 14 i = Ir 99 i ∧ I 15 i = Ir 100 i ∧ I 16 i = Ir 103 i) ∧
  ((I 17 5).toInt = l.length ∧ (Ir 86 26).toInt = l.length) ∧
  (∀ (t a b : Nat), l[t]? = some (a, b) → (I 18 t).toInt = a ∧ (Ir 102 t).toInt = a ∧ (I 19 t).toInt = b ∧ (Ir 101 t).toInt = b ∧ I 20 t = Ir 92 b ∧ I 21 t = Ir 93 b ∧ I 22 t = Ir 95 b) ∧
  I 3 17 = Ir 86 25 ∧ (∀ i, i < nn → (I 16 i).toInt = dlN l (I 13 i).toInt) ∧
  (∀ i, i < nm → 0 ≤ (I 7 i).toInt ∧ (I 7 i).toInt < np ∧ 0 ≤ (I 8 i).toInt ∧ (I 8 i).toInt < np ∧ (I 7 i).toInt ≠ (I 8 i).toInt) ∧
  (∀ i, i < nn → 0 ≤ (I 11 i).toInt ∧ (I 11 i).toInt < np ∧ 0 ≤ (I 12 i).toInt ∧ (I 12 i).toInt < np ∧ (I 11 i).toInt ≠ (I 12 i).toInt) ∧
  (∀ q : Nat, q < np → 1 ≤ (I 5 q).toInt ∧ (cIn (fun i => (I 11 i).toInt) (q : Int) nn : Int) ≤ (I 5 q).toInt)
theorem vil_3 {L : Nat} {xs : Nat → Int32} {d d' : Nat} {R Rr : Nat → Nat → Nat} {n : Nat} {Ic Ir : Nat → Nat → Int32} {Jc Jr : Nat → Nat → Int64} (hG : aGd R) (h9 : R 0 9 = 4) (h8 : R 0 8 = 24) (hGr : aGd Rr) (h4 : 4 ≤ d' + 1) (hn9 : n ≤ 900) (hn : (Ic 1 1).toInt = n) (hm : (Ir 86 1).toInt = n) (hb : bM Ir n = bX Ic n) :
    (∃ (Ic' Ir' : Nat → Nat → Int32) (Jc' Jr' : Nat → Nat → Int64), xEv L xs (d + 8) 17 0 [.ref 0, xmk, xmk] [] (124, Ic, Jc, R) (some (.int (-1))) (124, uI Ic' 1 1 0, Jc', uR R 43 1 4) ∧ xEv L xs (d' + 6) 148 0 [.ref 86, xmk] [] (124, Ir, Jr, Rr) (some (.int (-1))) (124, Ir', Jr', Rr) ∧ (Ic' 43 2).toInt = (Ir' 86 8).toInt ∧ (Ic' 43 3).toInt = (Ir' 86 9).toInt ∧ FRr Ir Ir' ∧ FRc_3 Ic Ic') ∨
    (∃ (m : Int32) (Ic' Ir' : Nat → Nat → Int32) (Jc' Jr' : Nat → Nat → Int64) (np nm nn : Nat) (l : List (Nat × Nat)), xEv L xs (d + 8) 17 0 [.ref 0, xmk, xmk] [] (124, Ic, Jc, R) (some (.int m)) (124, (uI (uI (uI (uI (uI (uI (uI (uI (uI (uI (uI (uI (uI (uI (uI Ic' 1 1 0) 44 5 0) 49 3 0) 57 8 0) 64 0 3) 64 1 3) 64 2 3) 64 3 3) 64 4 3) 64 5 3) 64 6 3) 66 4 0) 71 4 0) 76 4 0) 81 4 0), Jc', (uR (uR (uR R 43 1 4) 0 9 24) 0 8 4)) ∧ xEv L xs (d' + 6) 148 0 [.ref 86, xmk] [] (124, Ir, Jr, Rr) (some (.int m)) (124, Ir', Jr', Rr) ∧ (Ic' 43 2).toInt = (Ir' 86 8).toInt ∧ (Ic' 43 3).toInt = (Ir' 86 9).toInt ∧ VR_3 np nm nn l Ic' Ir' ∧ (∀ k, k < 7 → Ir' 119 k = 3 ∧ Ir' 120 k = 0) ∧ Ir' 121 0 = 0 ∧ (∀ k, k < 3 → Ir' 123 k = 0) ∧ Ir' 86 35 = 0 ∧ Ir' 86 51 = 0 ∧ (∀ c q, c ≠ 1 → ¬ (3 ≤ c ∧ c ≤ 22) → c ≠ 43 → Ic' c q = Ic c q) ∧ (∀ c q, ¬ (c = 86 ∧ q ≤ 11) → ¬ (88 ≤ c ∧ c ≤ 103) → ¬ (119 ≤ c ∧ c ≤ 123) → ¬ (c = 86 ∧ (q = 25 ∨ q = 26 ∨ q = 35 ∨ q = 51)) → Ir' c q = Ir c q) ∧ (∀ q, 0 < q → Ir' 121 q = Ir 121 q)) := by
  obtain ⟨Ic0, Ir0, Jc0, Jr0, st, k, e, x1, x2, x3, x4, x5, x6, x7, x8, x9, tk, ct, rt, hP, fr0, fc0⟩ := begin_3 (L := L) (xs := xs) (d := d) (d' := d') (Jc := Jc) (Jr := Jr) hG hGr h4 hn9 hn hm rfl hb
  have hG1 : aGd (uR R 43 1 4) := gd_43 hG
  have hG2 : aGd (uR (uR (uR R 43 1 4) 0 9 24) 0 8 4) := gd_u (by decide) (gd_u (by decide) hG1)
  have k9 : (uR R 43 1 4) 0 9 = 4 := h9
  have k8 : (uR R 43 1 4) 0 8 = 24 := h8
  have hen := ct.2.2.2.2.2.2.1
  rcases loop_3 (L := L) (xs := xs) (d := d) (d' := d') hG1 rfl hGr h4 hn9 _ 0 0 Ic0 Ir0 Jc0 Jr0 0 st k e 0 0 0 rfl (by decide) (by decide) (by decide) (by decide) (Nat.zero_le _) (by rw [x3]; rfl) x7 tk ct rt hP with ⟨Ic1, Ir1, Jc1, Jr1, y1, y2, ⟨y3, fc1⟩, y4, y5, y6, fr1⟩ | ⟨i', m', Ic1, Ir1, Jc1, Jr1, st1, e1, np, nm, nn, y1, y2, ⟨y3, fc1⟩, y4, y5, y6, y7, ⟨y8, hm'⟩, y9, y10, hP1, fr1⟩
  · exact Or.inl ⟨Ic1, Ir1, Jc1, Jr1, vg_f_3 hG h9 (x1 _ _ y1) hG1 (by decide), x2 _ _ y2, y5, y6, fr_t fr0 fr1, frc_t_3 fc0 fc1⟩
  · obtain ⟨⟨p1, p2, p3⟩, ⟨q1, q2⟩, ⟨q3, q4⟩, ⟨q5, q6⟩, q7, q8, q9, q10, q11, q12⟩ := hP1
    obtain ⟨Ic2, r1, l0, l1, l2, l3⟩ := lay_3 (L := L) (xs := xs) (d := d + 4) (I := Ic1) (J := Jc1) hG1 q3 p2 q5 p3 (by rw [y3, x8]; rfl)
    obtain ⟨Ir2, r2, s0, s1, s2, s3, s4, s5, s6, s7, s8, s9, s10, s11, s12, s13⟩ := set_run (L := L) (xs := xs) (d := d' + 4) (I := Ir1) (J := Jr1) hGr q4 p2 q6 p3 (g := fun k => (Ic1 9 k).toInt) (fun k hk => by show (Ic1 9 k).toInt = _; rw [(q8 k hk).2.2.1])
    have e17 : Ic2 3 17 = m' := by rw [l0 3 17 (by omega) (by omega) (by omega)]; exact y8
    have c43 : ∀ q, Ic2 43 q = Ic1 43 q := fun q => l0 43 q (by omega) (by omega) (by omega)
    have hm0 : 0 ≤ (Ic2 3 17).toInt := by rw [e17]; exact hm'
    refine Or.inr ⟨Ic2 3 17, Ic2, uI Ir2 86 25 m', Jc1, Jr1, np, nm, nn, _, vg_s_3 hG h9 (x1 _ _ (y1 _ _ (re_3 hG1 r1))) hG1 hm0 k9 k8 (fo_0 hG2 (fi_64 hG2)), ?_, ?_, ?_, ⟨⟨p1, p2, p3⟩, tOut_64 p2, tOut_p 96, fun p hp => tOut_f 96 p hp, ?_, ?_, ?_, ?_, ?_, ?_, ⟨l1, s5⟩, ?_, e17, ?_, ?_, ?_, ?_⟩, s8, s9, s10, s11, s12, fun c q t1 t2 t3 => by rw [l0 c q (by omega) (by omega) (by omega), fc1 c q t1 (by omega) t3, fc0 c q t1 (by omega) t3], fun c q t1 t2 t3 t4 => by rw [uI_n _ _ (by omega), s0 c q (by omega) (by omega) (by omega), fr1 c q (by omega) (by omega) (by omega) (by omega) (by omega), fr0 c q (by omega) (by omega) (by omega) (by omega) (by omega)], fun q hq => by show Ir2 121 q = _; rw [s13 q hq, fr1 121 q (by omega) (by omega) (by omega) (by omega) (by omega), fr0 121 q (by omega) (by omega) (by omega) (by omega) (by omega)]⟩
    · rw [e17]
      exact x2 _ _ (y2 _ _ (ve_0 hGr r2))
    · rw [c43 2, y4]
      show _ = (Ir2 86 8).toInt
      rw [s0 86 8 (by omega) (by omega) (by omega), y6, x5]
      rfl
    · rw [c43 3, y5, x4]
      show _ = (Ir2 86 9).toInt
      rw [s0 86 9 (by omega) (by omega) (by omega), y7, x6]
    · rw [l0 3 14 (by omega) (by omega) (by omega)]
      exact ⟨q1, by show (Ir2 88 0).toInt = _; rw [s1 0 (by decide)]; exact q2⟩
    · rw [l0 3 15 (by omega) (by omega) (by omega)]
      exact ⟨q3, by show (Ir2 88 1).toInt = _; rw [s1 1 (by decide)]; exact q4⟩
    · rw [l0 3 16 (by omega) (by omega) (by omega)]
      exact ⟨q5, by show (Ir2 88 2).toInt = _; rw [s1 2 (by decide)]; exact q6⟩
    · intro i hi
      show _ = Ir2 90 i ∧ _ = Ir2 91 i
      rw [l0 5 i (by omega) (by omega) (by omega), l0 6 i (by omega) (by omega) (by omega), (s2 i (by omega)).1, (s2 i (by omega)).2]
      exact ⟨(q7 i hi).1, (q7 i hi).2.1⟩
    · intro i hi
      show _ = Ir2 92 i ∧ _ = Ir2 93 i ∧ _ = Ir2 94 i ∧ _ = Ir2 95 i
      obtain ⟨t1, t2, t3, t4⟩ := s3 i (by omega)
      rw [l0 7 i (by omega) (by omega) (by omega), l0 8 i (by omega) (by omega) (by omega), l0 9 i (by omega) (by omega) (by omega), l0 10 i (by omega) (by omega) (by omega), t1, t2, t3, t4]
      exact q8 i hi
    · intro i hi
      show _ = Ir2 96 i ∧ _ = Ir2 97 i ∧ _ = Ir2 98 i ∧ _ = Ir2 99 i ∧ _ = Ir2 100 i ∧ _ = Ir2 103 i
      obtain ⟨t1, t2, t3, t4, t5⟩ := s4 i (by omega)
      obtain ⟨w1, w2, w3, w4, w5⟩ := q9 i hi
      rw [l0 11 i (by omega) (by omega) (by omega), l0 12 i (by omega) (by omega) (by omega), l0 13 i (by omega) (by omega) (by omega), l0 14 i (by omega) (by omega) (by omega), l0 15 i (by omega) (by omega) (by omega), t1, t2, t3, t4, t5]
      refine ⟨w1, w2, w3, w4, w5, Int32.toInt_inj.mp ?_⟩
      rw [l3 i hi, s7 i hi, w3]
    · intro t a b h
      show _ ∧ (Ir2 102 t).toInt = _ ∧ _ ∧ (Ir2 101 t).toInt = _ ∧ _ = Ir2 92 b ∧ _ = Ir2 93 b ∧ _ = Ir2 95 b
      obtain ⟨w1, w2, w3, w4, w5⟩ := l2 t a b h
      obtain ⟨z1, z2⟩ := s6 t a b h
      have hbn : b < nm := (tOut_f 96 (a, b) (List.mem_of_getElem? h)).2
      obtain ⟨t1, t2, t3, t4⟩ := s3 b (by omega)
      obtain ⟨o1, o2, o3, o4⟩ := q8 b hbn
      exact ⟨w1, z1, w2, z2, by rw [w3, t1, o1], by rw [w4, t2, o2], by rw [w5, t4, o4]⟩
    · intro i hi
      rw [l3 i hi, l0 13 i (by omega) (by omega) (by omega)]
    · intro i hi
      rw [l0 7 i (by omega) (by omega) (by omega), l0 8 i (by omega) (by omega) (by omega)]
      exact q12.1 i hi
    · intro i hi
      rw [l0 11 i (by omega) (by omega) (by omega), l0 12 i (by omega) (by omega) (by omega)]
      have h1 := q10 i hi
      have h2 := q12.2 i hi
      exact ⟨h1.1, h1.2, h2⟩
    · intro q hq
      have e8 : Ic2 11 = Ic1 11 := funext fun i => l0 11 i (by omega) (by omega) (by omega)
      rw [e8, l0 5 q (by omega) (by omega) (by omega)]
      exact ⟨(q7 q hq).2.2.1, q11 q hq⟩
/-- the village of class and reference alike -/
def VR_23 (np nm nn : Nat) (l : List (Nat × Nat)) (I Ir : Nat → Nat → Int32) : Prop :=
  (np ≤ 7 ∧ nm ≤ 16 ∧ nn ≤ 4) ∧ l.length ≤ 64 ∧ l.Pairwise (fun p q => p.1 ≤ q.1) ∧ (∀ p ∈ l, p.1 < 96 ∧ p.2 < nm) ∧
  ((I 23 14).toInt = np ∧ (Ir 88 0).toInt = np) ∧ ((I 23 15).toInt = nm ∧ (Ir 88 1).toInt = nm) ∧ ((I 23 16).toInt = nn ∧ (Ir 88 2).toInt = nn) ∧
  (∀ i, i < np → I 25 i = Ir 90 i ∧ I 26 i = Ir 91 i) ∧
  (∀ i, i < nm → I 27 i = Ir 92 i ∧ I 28 i = Ir 93 i ∧ I 29 i = Ir 94 i ∧ I 30 i = Ir 95 i) ∧
  (∀ i, i < nn → I 31 i = Ir 96 i ∧ I 32 i = Ir 97 i ∧ I 33 i = Ir 98 i ∧ I 34 i = Ir 99 i ∧ I 35 i = Ir 100 i ∧ I 36 i = Ir 103 i) ∧
  ((I 37 5).toInt = l.length ∧ (Ir 86 26).toInt = l.length) ∧
  (∀ (t a b : Nat), l[t]? = some (a, b) → (I 38 t).toInt = a ∧ (Ir 102 t).toInt = a ∧ (I 39 t).toInt = b ∧ (Ir 101 t).toInt = b ∧ I 40 t = Ir 92 b ∧ I 41 t = Ir 93 b ∧ I 42 t = Ir 95 b) ∧
  I 23 17 = Ir 86 25 ∧ (∀ i, i < nn → (I 36 i).toInt = dlN l (I 33 i).toInt) ∧
  (∀ i, i < nm → 0 ≤ (I 27 i).toInt ∧ (I 27 i).toInt < np ∧ 0 ≤ (I 28 i).toInt ∧ (I 28 i).toInt < np ∧ (I 27 i).toInt ≠ (I 28 i).toInt) ∧
  (∀ i, i < nn → 0 ≤ (I 31 i).toInt ∧ (I 31 i).toInt < np ∧ 0 ≤ (I 32 i).toInt ∧ (I 32 i).toInt < np ∧ (I 31 i).toInt ≠ (I 32 i).toInt) ∧
  (∀ q : Nat, q < np → 1 ≤ (I 25 q).toInt ∧ (cIn (fun i => (I 31 i).toInt) (q : Int) nn : Int) ≤ (I 25 q).toInt)
theorem vil_23 {L : Nat} {xs : Nat → Int32} {d d' : Nat} {R Rr : Nat → Nat → Nat} {n : Nat} {Ic Ir : Nat → Nat → Int32} {Jc Jr : Nat → Nat → Int64} (hG : aGd R) (h9 : R 0 9 = 24) (h8 : R 0 8 = 4) (hGr : aGd Rr) (h4 : 4 ≤ d' + 1) (hn9 : n ≤ 900) (hn : (Ic 1 1).toInt = n) (hm : (Ir 86 1).toInt = n) (hb : bM Ir n = bX Ic n) :
    (∃ (Ic' Ir' : Nat → Nat → Int32) (Jc' Jr' : Nat → Nat → Int64), xEv L xs (d + 8) 17 0 [.ref 0, xmk, xmk] [] (124, Ic, Jc, R) (some (.int (-1))) (124, uI Ic' 1 1 0, Jc', uR R 43 1 24) ∧ xEv L xs (d' + 6) 148 0 [.ref 86, xmk] [] (124, Ir, Jr, Rr) (some (.int (-1))) (124, Ir', Jr', Rr) ∧ (Ic' 43 2).toInt = (Ir' 86 8).toInt ∧ (Ic' 43 3).toInt = (Ir' 86 9).toInt ∧ FRr Ir Ir' ∧ FRc_23 Ic Ic') ∨
    (∃ (m : Int32) (Ic' Ir' : Nat → Nat → Int32) (Jc' Jr' : Nat → Nat → Int64) (np nm nn : Nat) (l : List (Nat × Nat)), xEv L xs (d + 8) 17 0 [.ref 0, xmk, xmk] [] (124, Ic, Jc, R) (some (.int m)) (124, (uI (uI (uI (uI (uI (uI (uI (uI (uI (uI (uI (uI (uI (uI (uI Ic' 1 1 0) 44 5 0) 49 3 0) 57 8 0) 64 0 3) 64 1 3) 64 2 3) 64 3 3) 64 4 3) 64 5 3) 64 6 3) 66 4 0) 71 4 0) 76 4 0) 81 4 0), Jc', (uR (uR (uR R 43 1 24) 0 9 4) 0 8 24)) ∧ xEv L xs (d' + 6) 148 0 [.ref 86, xmk] [] (124, Ir, Jr, Rr) (some (.int m)) (124, Ir', Jr', Rr) ∧ (Ic' 43 2).toInt = (Ir' 86 8).toInt ∧ (Ic' 43 3).toInt = (Ir' 86 9).toInt ∧ VR_23 np nm nn l Ic' Ir' ∧ (∀ k, k < 7 → Ir' 119 k = 3 ∧ Ir' 120 k = 0) ∧ Ir' 121 0 = 0 ∧ (∀ k, k < 3 → Ir' 123 k = 0) ∧ Ir' 86 35 = 0 ∧ Ir' 86 51 = 0 ∧ (∀ c q, c ≠ 1 → ¬ (23 ≤ c ∧ c ≤ 42) → c ≠ 43 → Ic' c q = Ic c q) ∧ (∀ c q, ¬ (c = 86 ∧ q ≤ 11) → ¬ (88 ≤ c ∧ c ≤ 103) → ¬ (119 ≤ c ∧ c ≤ 123) → ¬ (c = 86 ∧ (q = 25 ∨ q = 26 ∨ q = 35 ∨ q = 51)) → Ir' c q = Ir c q) ∧ (∀ q, 0 < q → Ir' 121 q = Ir 121 q)) := by
  obtain ⟨Ic0, Ir0, Jc0, Jr0, st, k, e, x1, x2, x3, x4, x5, x6, x7, x8, x9, tk, ct, rt, hP, fr0, fc0⟩ := begin_23 (L := L) (xs := xs) (d := d) (d' := d') (Jc := Jc) (Jr := Jr) hG hGr h4 hn9 hn hm rfl hb
  have hG1 : aGd (uR R 43 1 24) := gd_43 hG
  have hG2 : aGd (uR (uR (uR R 43 1 24) 0 9 4) 0 8 24) := gd_u (by decide) (gd_u (by decide) hG1)
  have k9 : (uR R 43 1 24) 0 9 = 24 := h9
  have k8 : (uR R 43 1 24) 0 8 = 4 := h8
  have hen := ct.2.2.2.2.2.2.1
  rcases loop_23 (L := L) (xs := xs) (d := d) (d' := d') hG1 rfl hGr h4 hn9 _ 0 0 Ic0 Ir0 Jc0 Jr0 0 st k e 0 0 0 rfl (by decide) (by decide) (by decide) (by decide) (Nat.zero_le _) (by rw [x3]; rfl) x7 tk ct rt hP with ⟨Ic1, Ir1, Jc1, Jr1, y1, y2, ⟨y3, fc1⟩, y4, y5, y6, fr1⟩ | ⟨i', m', Ic1, Ir1, Jc1, Jr1, st1, e1, np, nm, nn, y1, y2, ⟨y3, fc1⟩, y4, y5, y6, y7, ⟨y8, hm'⟩, y9, y10, hP1, fr1⟩
  · exact Or.inl ⟨Ic1, Ir1, Jc1, Jr1, vg_f_23 hG h9 (x1 _ _ y1) hG1 (by decide), x2 _ _ y2, y5, y6, fr_t fr0 fr1, frc_t_23 fc0 fc1⟩
  · obtain ⟨⟨p1, p2, p3⟩, ⟨q1, q2⟩, ⟨q3, q4⟩, ⟨q5, q6⟩, q7, q8, q9, q10, q11, q12⟩ := hP1
    obtain ⟨Ic2, r1, l0, l1, l2, l3⟩ := lay_23 (L := L) (xs := xs) (d := d + 4) (I := Ic1) (J := Jc1) hG1 q3 p2 q5 p3 (by rw [y3, x8]; rfl)
    obtain ⟨Ir2, r2, s0, s1, s2, s3, s4, s5, s6, s7, s8, s9, s10, s11, s12, s13⟩ := set_run (L := L) (xs := xs) (d := d' + 4) (I := Ir1) (J := Jr1) hGr q4 p2 q6 p3 (g := fun k => (Ic1 29 k).toInt) (fun k hk => by show (Ic1 29 k).toInt = _; rw [(q8 k hk).2.2.1])
    have e17 : Ic2 23 17 = m' := by rw [l0 23 17 (by omega) (by omega) (by omega)]; exact y8
    have c43 : ∀ q, Ic2 43 q = Ic1 43 q := fun q => l0 43 q (by omega) (by omega) (by omega)
    have hm0 : 0 ≤ (Ic2 23 17).toInt := by rw [e17]; exact hm'
    refine Or.inr ⟨Ic2 23 17, Ic2, uI Ir2 86 25 m', Jc1, Jr1, np, nm, nn, _, vg_s_23 hG h9 (x1 _ _ (y1 _ _ (re_23 hG1 r1))) hG1 hm0 k9 k8 (fo_0 hG2 (fi_64 hG2)), ?_, ?_, ?_, ⟨⟨p1, p2, p3⟩, tOut_64 p2, tOut_p 96, fun p hp => tOut_f 96 p hp, ?_, ?_, ?_, ?_, ?_, ?_, ⟨l1, s5⟩, ?_, e17, ?_, ?_, ?_, ?_⟩, s8, s9, s10, s11, s12, fun c q t1 t2 t3 => by rw [l0 c q (by omega) (by omega) (by omega), fc1 c q t1 (by omega) t3, fc0 c q t1 (by omega) t3], fun c q t1 t2 t3 t4 => by rw [uI_n _ _ (by omega), s0 c q (by omega) (by omega) (by omega), fr1 c q (by omega) (by omega) (by omega) (by omega) (by omega), fr0 c q (by omega) (by omega) (by omega) (by omega) (by omega)], fun q hq => by show Ir2 121 q = _; rw [s13 q hq, fr1 121 q (by omega) (by omega) (by omega) (by omega) (by omega), fr0 121 q (by omega) (by omega) (by omega) (by omega) (by omega)]⟩
    · rw [e17]
      exact x2 _ _ (y2 _ _ (ve_0 hGr r2))
    · rw [c43 2, y4]
      show _ = (Ir2 86 8).toInt
      rw [s0 86 8 (by omega) (by omega) (by omega), y6, x5]
      rfl
    · rw [c43 3, y5, x4]
      show _ = (Ir2 86 9).toInt
      rw [s0 86 9 (by omega) (by omega) (by omega), y7, x6]
    · rw [l0 23 14 (by omega) (by omega) (by omega)]
      exact ⟨q1, by show (Ir2 88 0).toInt = _; rw [s1 0 (by decide)]; exact q2⟩
    · rw [l0 23 15 (by omega) (by omega) (by omega)]
      exact ⟨q3, by show (Ir2 88 1).toInt = _; rw [s1 1 (by decide)]; exact q4⟩
    · rw [l0 23 16 (by omega) (by omega) (by omega)]
      exact ⟨q5, by show (Ir2 88 2).toInt = _; rw [s1 2 (by decide)]; exact q6⟩
    · intro i hi
      show _ = Ir2 90 i ∧ _ = Ir2 91 i
      rw [l0 25 i (by omega) (by omega) (by omega), l0 26 i (by omega) (by omega) (by omega), (s2 i (by omega)).1, (s2 i (by omega)).2]
      exact ⟨(q7 i hi).1, (q7 i hi).2.1⟩
    · intro i hi
      show _ = Ir2 92 i ∧ _ = Ir2 93 i ∧ _ = Ir2 94 i ∧ _ = Ir2 95 i
      obtain ⟨t1, t2, t3, t4⟩ := s3 i (by omega)
      rw [l0 27 i (by omega) (by omega) (by omega), l0 28 i (by omega) (by omega) (by omega), l0 29 i (by omega) (by omega) (by omega), l0 30 i (by omega) (by omega) (by omega), t1, t2, t3, t4]
      exact q8 i hi
    · intro i hi
      show _ = Ir2 96 i ∧ _ = Ir2 97 i ∧ _ = Ir2 98 i ∧ _ = Ir2 99 i ∧ _ = Ir2 100 i ∧ _ = Ir2 103 i
      obtain ⟨t1, t2, t3, t4, t5⟩ := s4 i (by omega)
      obtain ⟨w1, w2, w3, w4, w5⟩ := q9 i hi
      rw [l0 31 i (by omega) (by omega) (by omega), l0 32 i (by omega) (by omega) (by omega), l0 33 i (by omega) (by omega) (by omega), l0 34 i (by omega) (by omega) (by omega), l0 35 i (by omega) (by omega) (by omega), t1, t2, t3, t4, t5]
      refine ⟨w1, w2, w3, w4, w5, Int32.toInt_inj.mp ?_⟩
      rw [l3 i hi, s7 i hi, w3]
    · intro t a b h
      show _ ∧ (Ir2 102 t).toInt = _ ∧ _ ∧ (Ir2 101 t).toInt = _ ∧ _ = Ir2 92 b ∧ _ = Ir2 93 b ∧ _ = Ir2 95 b
      obtain ⟨w1, w2, w3, w4, w5⟩ := l2 t a b h
      obtain ⟨z1, z2⟩ := s6 t a b h
      have hbn : b < nm := (tOut_f 96 (a, b) (List.mem_of_getElem? h)).2
      obtain ⟨t1, t2, t3, t4⟩ := s3 b (by omega)
      obtain ⟨o1, o2, o3, o4⟩ := q8 b hbn
      exact ⟨w1, z1, w2, z2, by rw [w3, t1, o1], by rw [w4, t2, o2], by rw [w5, t4, o4]⟩
    · intro i hi
      rw [l3 i hi, l0 33 i (by omega) (by omega) (by omega)]
    · intro i hi
      rw [l0 27 i (by omega) (by omega) (by omega), l0 28 i (by omega) (by omega) (by omega)]
      exact q12.1 i hi
    · intro i hi
      rw [l0 31 i (by omega) (by omega) (by omega), l0 32 i (by omega) (by omega) (by omega)]
      have h1 := q10 i hi
      have h2 := q12.2 i hi
      exact ⟨h1.1, h1.2, h2⟩
    · intro q hq
      have e8 : Ic2 31 = Ic1 31 := funext fun i => l0 31 i (by omega) (by omega) (by omega)
      rw [e8, l0 25 q (by omega) (by omega) (by omega)]
      exact ⟨(q7 q hq).2.2.1, q11 q hq⟩
