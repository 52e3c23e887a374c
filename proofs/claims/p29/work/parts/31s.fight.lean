set_option maxRecDepth 20000 in
theorem fm_p {L : Nat} {xs : Nat → Int32} {d : Nat} {I : Nat → Nat → Int32} {J : Nat → Nat → Int64} {R : Nat → Nat → Nat} {I1 : Nat → Nat → Int32} {J1 : Nat → Nat → Int64} {a g : Int32} (hG : aGd R) (c1 : xEv L xs d 173 0 [.ref 86, .int 1, xmk] [] (124, I, J, R) (some (.int g)) (124, I1, J1, R)) (c2 : xEv L xs d 167 0 [.ref 86, .int a] [] (124, I1, J1, R) (some (.int 0)) (124, I1, J1, R)) : xEv L xs (d + 1) 219 0 [.ref 86, .int a, xmk, xmk, xmk, xmk, xmk, xmk, xmk] [] (124, I, J, R) (some (.int (-2000))) (124, I1, J1, R) := by
  refine ev_go 2 (pc1 := 2) (lv1 := [.ref 86, .int a, xmk, xmk, xmk, xmk, xmk, xmk, xmk]) (st1 := [.int 1, .ref 86]) (h1 := (124, I, J, R)) rfl ?_
  refine ev_call (v1 := (some (.int g))) (h1 := (124, I1, J1, R)) rfl rfl c1 ?_
  refine ev_go 3 (pc1 := 8) (lv1 := [.ref 86, .int a, .int g, xmk, xmk, xmk, xmk, xmk, xmk]) (st1 := [.int a, .ref 86]) (h1 := (124, I1, J1, R)) rfl ?_
  refine ev_call (v1 := (some (.int 0))) (h1 := (124, I1, J1, R)) rfl rfl c2 ?_
  refine ev_go 2 (pc1 := 17) (lv1 := [.ref 86, .int a, .int g, xmk, xmk, xmk, xmk, xmk, xmk]) (st1 := [.int (-2000)]) (h1 := (124, I1, J1, R)) rfl ?_
  exact ev_ret rfl rfl
set_option maxRecDepth 20000 in
theorem fm_r {L : Nat} {xs : Nat → Int32} {d : Nat} {I : Nat → Nat → Int32} {J : Nat → Nat → Int64} {R : Nat → Nat → Nat} {I1 : Nat → Nat → Int32} {J1 : Nat → Nat → Int64} {a : Int32} (hG : aGd R) (c1 : xEv L xs d 173 0 [.ref 86, .int 1, xmk] [] (124, I, J, R) (some (.int 0)) (124, I1, J1, R)) (c2 : xEv L xs d 167 0 [.ref 86, .int a] [] (124, I1, J1, R) (some (.int 1)) (124, I1, J1, R)) : xEv L xs (d + 1) 219 0 [.ref 86, .int a, xmk, xmk, xmk, xmk, xmk, xmk, xmk] [] (124, I, J, R) (some (.int (-1000))) (124, I1, J1, R) := by
  refine ev_go 2 (pc1 := 2) (lv1 := [.ref 86, .int a, xmk, xmk, xmk, xmk, xmk, xmk, xmk]) (st1 := [.int 1, .ref 86]) (h1 := (124, I, J, R)) rfl ?_
  refine ev_call (v1 := (some (.int 0))) (h1 := (124, I1, J1, R)) rfl rfl c1 ?_
  refine ev_go 3 (pc1 := 8) (lv1 := [.ref 86, .int a, .int 0, xmk, xmk, xmk, xmk, xmk, xmk]) (st1 := [.int a, .ref 86]) (h1 := (124, I1, J1, R)) rfl ?_
  refine ev_call (v1 := (some (.int 1))) (h1 := (124, I1, J1, R)) rfl rfl c2 ?_
  refine ev_go 4 (pc1 := 25) (lv1 := [.ref 86, .int a, .int 0, xmk, xmk, xmk, xmk, xmk, xmk]) (st1 := [.int (-1000)]) (h1 := (124, I1, J1, R)) rfl ?_
  exact ev_ret rfl rfl
set_option maxRecDepth 20000 in
theorem fm_s {L : Nat} {xs : Nat → Int32} {d : Nat} {I : Nat → Nat → Int32} {J : Nat → Nat → Int64} {R : Nat → Nat → Nat} {I1 : Nat → Nat → Int32} {J1 : Nat → Nat → Int64} {a : Int32} (hG : aGd R) (c1 : xEv L xs d 173 0 [.ref 86, .int 1, xmk] [] (124, I, J, R) (some (.int 1)) (124, I1, J1, R)) (c2 : xEv L xs d 167 0 [.ref 86, .int a] [] (124, I1, J1, R) (some (.int 1)) (124, I1, J1, R)) {v : Option Value} {h' : xH} (hk : xEv L xs (d + 1) 219 53 [.ref 86, .int a, .int 1, .int a, .int a, .int 0, .int 0, xmk, xmk] [] (124, (uI (uI I1 118 0 (1 <<< (a &&& 31))) 118 1 0), J1, R) v h') : xEv L xs (d + 1) 219 0 [.ref 86, .int a, xmk, xmk, xmk, xmk, xmk, xmk, xmk] [] (124, I, J, R) v h' := by
  refine ev_go 2 (pc1 := 2) (lv1 := [.ref 86, .int a, xmk, xmk, xmk, xmk, xmk, xmk, xmk]) (st1 := [.int 1, .ref 86]) (h1 := (124, I, J, R)) rfl ?_
  refine ev_call (v1 := (some (.int 1))) (h1 := (124, I1, J1, R)) rfl rfl c1 ?_
  refine ev_go 3 (pc1 := 8) (lv1 := [.ref 86, .int a, .int 1, xmk, xmk, xmk, xmk, xmk, xmk]) (st1 := [.int a, .ref 86]) (h1 := (124, I1, J1, R)) rfl ?_
  refine ev_call (v1 := (some (.int 1))) (h1 := (124, I1, J1, R)) rfl rfl c2 ?_
  refine ev_go 4 (pc1 := 27) (lv1 := [.ref 86, .int a, .int 1, xmk, xmk, xmk, xmk, xmk, xmk]) (st1 := [.ref 86]) (h1 := (124, I1, J1, R)) rfl ?_
  refine ev_gf (c := 86) (t := 118) (X := R 86 53) rfl rfl (fun _ => rfl) rfl (hG 86 53 118 rfl rfl) ?_
  refine ev_go 3 (pc1 := 33) (lv1 := [.ref 86, .int a, .int 1, xmk, xmk, xmk, xmk, xmk, xmk]) (st1 := [.int a, .int 1, .int 0, .ref 118]) (h1 := (124, I1, J1, R)) rfl ?_
  refine ev_go 3 (pc1 := 36) (lv1 := [.ref 86, .int a, .int 1, xmk, xmk, xmk, xmk, xmk, xmk]) (st1 := [.ref 86]) (h1 := (124, (uI I1 118 0 (1 <<< (a &&& 31))), J1, R)) rfl ?_
  refine ev_gf (c := 86) (t := 118) (X := R 86 53) rfl rfl (fun _ => rfl) rfl (hG 86 53 118 rfl rfl) ?_
  refine ev_go 11 (pc1 := 53) (lv1 := [.ref 86, .int a, .int 1, .int a, .int a, .int 0, .int 0, xmk, xmk]) (st1 := []) (h1 := (124, (uI (uI I1 118 0 (1 <<< (a &&& 31))) 118 1 0), J1, R)) rfl ?_
  exact hk
set_option maxRecDepth 20000 in
theorem fm_e {L : Nat} {xs : Nat → Int32} {d : Nat} {I : Nat → Nat → Int32} {J : Nat → Nat → Int64} {R : Nat → Nat → Nat} {a o w be k : Int32} {w7 w8 : Value} (hG : aGd R) (b1 : k.toInt ≥ (I 86 30).toInt) : xEv L xs d 219 53 [.ref 86, .int a, .int 1, .int o, .int w, .int be, .int k, w7, w8] [] (124, I, J, R) (some (.int (I 86 30))) (124, (uI (uI (uI I 86 51 1) 117 0 (I 118 0)) 117 1 (I 118 1)), J, R) := by
  refine ev_go 3 (pc1 := 59) (lv1 := [.ref 86, .int a, .int 1, .int o, .int w, .int be, .int k, w7, w8]) (st1 := [.int (I 86 30), .int k]) (h1 := (124, I, J, R)) rfl ?_
  refine ev_br (b1 := true) rfl rfl (xcd_ge (x := k) (y := (I 86 30)) (by first | exact b1 | omega)) ?_
  refine ev_go 4 (pc1 := 204) (lv1 := [.ref 86, .int a, .int 1, .int o, .int w, .int be, .int k, w7, w8]) (st1 := [.ref 86]) (h1 := (124, (uI I 86 51 1), J, R)) rfl ?_
  refine ev_gf (c := 86) (t := 117) (X := R 86 52) rfl rfl (fun _ => rfl) rfl (hG 86 52 117 rfl rfl) ?_
  refine ev_go 2 (pc1 := 209) (lv1 := [.ref 86, .int a, .int 1, .int o, .int w, .int be, .int k, w7, w8]) (st1 := [.ref 86, .int 0, .ref 117]) (h1 := (124, (uI I 86 51 1), J, R)) rfl ?_
  refine ev_gf (c := 86) (t := 118) (X := R 86 53) rfl rfl (fun _ => rfl) rfl (hG 86 53 118 rfl rfl) ?_
  refine ev_go 4 (pc1 := 216) (lv1 := [.ref 86, .int a, .int 1, .int o, .int w, .int be, .int k, w7, w8]) (st1 := [.ref 86]) (h1 := (124, (uI (uI I 86 51 1) 117 0 (I 118 0)), J, R)) rfl ?_
  refine ev_gf (c := 86) (t := 117) (X := R 86 52) rfl rfl (fun _ => rfl) rfl (hG 86 52 117 rfl rfl) ?_
  refine ev_go 2 (pc1 := 221) (lv1 := [.ref 86, .int a, .int 1, .int o, .int w, .int be, .int k, w7, w8]) (st1 := [.ref 86, .int 1, .ref 117]) (h1 := (124, (uI (uI I 86 51 1) 117 0 (I 118 0)), J, R)) rfl ?_
  refine ev_gf (c := 86) (t := 118) (X := R 86 53) rfl rfl (fun _ => rfl) rfl (hG 86 53 118 rfl rfl) ?_
  refine ev_go 5 (pc1 := 231) (lv1 := [.ref 86, .int a, .int 1, .int o, .int w, .int be, .int k, w7, w8]) (st1 := [.int (I 86 30)]) (h1 := (124, (uI (uI (uI I 86 51 1) 117 0 (I 118 0)) 117 1 (I 118 1)), J, R)) rfl ?_
  exact ev_ret rfl rfl
set_option maxRecDepth 20000 in
theorem fm_t {L : Nat} {xs : Nat → Int32} {d : Nat} {I : Nat → Nat → Int32} {J : Nat → Nat → Int64} {R : Nat → Nat → Nat} {a o w be k : Int32} {w7 w8 : Value} (hG : aGd R) (b1 : k.toInt < (I 86 30).toInt) (n1 : 0 ≤ k.toInt) (m1 : k.toInt < 300) (c1 : xEv L xs d 171 0 [.ref 86, .int (I 104 k.toNatClampNeg)] [] (124, I, J, R) (some (.int 0)) (124, I, J, R)) : xEv L xs (d + 1) 219 53 [.ref 86, .int a, .int 1, .int o, .int w, .int be, .int k, w7, w8] [] (124, I, J, R) (some (.int ((-1) - k))) (124, I, J, R) := by
  refine ev_go 3 (pc1 := 59) (lv1 := [.ref 86, .int a, .int 1, .int o, .int w, .int be, .int k, w7, w8]) (st1 := [.int (I 86 30), .int k]) (h1 := (124, I, J, R)) rfl ?_
  refine ev_br (b1 := false) rfl rfl (xcd_nge (x := k) (y := (I 86 30)) (by first | exact b1 | omega)) ?_
  refine ev_go 1 (pc1 := 63) (lv1 := [.ref 86, .int a, .int 1, .int o, .int w, .int be, .int k, w7, w8]) (st1 := [.ref 86]) (h1 := (124, I, J, R)) rfl ?_
  refine ev_gf (c := 86) (t := 104) (X := R 86 31) rfl rfl (fun _ => rfl) rfl (hG 86 31 104 rfl rfl) ?_
  refine ev_go 1 (pc1 := 68) (lv1 := [.ref 86, .int a, .int 1, .int o, .int w, .int be, .int k, w7, w8]) (st1 := [.int k, .ref 104]) (h1 := (124, I, J, R)) rfl ?_
  refine ev_ild (n := 300) rfl rfl (fun _ => rfl) n1 m1 ?_
  refine ev_go 3 (pc1 := 74) (lv1 := [.ref 86, .int a, .int 1, .int o, .int w, .int be, .int k, .int (I 104 k.toNatClampNeg), w8]) (st1 := [.int (I 104 k.toNatClampNeg), .ref 86]) (h1 := (124, I, J, R)) rfl ?_
  refine ev_call (v1 := (some (.int 0))) (h1 := (124, I, J, R)) rfl rfl c1 ?_
  refine ev_go 9 (pc1 := 125) (lv1 := [.ref 86, .int a, .int 1, .int o, .int w, .int be, .int k, .int (I 104 k.toNatClampNeg), .int (-1)]) (st1 := [.int ((-1) - k)]) (h1 := (124, I, J, R)) rfl ?_
  exact ev_ret rfl rfl
set_option maxRecDepth 20000 in
theorem fm_u {L : Nat} {xs : Nat → Int32} {d : Nat} {I : Nat → Nat → Int32} {J : Nat → Nat → Int64} {R : Nat → Nat → Nat} {a o w be k : Int32} {w7 w8 : Value} (hG : aGd R) (b1 : k.toInt < (I 86 30).toInt) (n1 : 0 ≤ k.toInt) (m1 : k.toInt < 300) (c1 : xEv L xs d 171 0 [.ref 86, .int (I 104 k.toNatClampNeg)] [] (124, I, J, R) (some (.int 1)) (124, I, J, R)) (b2 : (I 104 k.toNatClampNeg).toInt < be.toInt) : xEv L xs (d + 1) 219 53 [.ref 86, .int a, .int 1, .int o, .int w, .int be, .int k, w7, w8] [] (124, I, J, R) (some (.int ((-1) - k))) (124, I, J, R) := by
  refine ev_go 3 (pc1 := 59) (lv1 := [.ref 86, .int a, .int 1, .int o, .int w, .int be, .int k, w7, w8]) (st1 := [.int (I 86 30), .int k]) (h1 := (124, I, J, R)) rfl ?_
  refine ev_br (b1 := false) rfl rfl (xcd_nge (x := k) (y := (I 86 30)) (by first | exact b1 | omega)) ?_
  refine ev_go 1 (pc1 := 63) (lv1 := [.ref 86, .int a, .int 1, .int o, .int w, .int be, .int k, w7, w8]) (st1 := [.ref 86]) (h1 := (124, I, J, R)) rfl ?_
  refine ev_gf (c := 86) (t := 104) (X := R 86 31) rfl rfl (fun _ => rfl) rfl (hG 86 31 104 rfl rfl) ?_
  refine ev_go 1 (pc1 := 68) (lv1 := [.ref 86, .int a, .int 1, .int o, .int w, .int be, .int k, w7, w8]) (st1 := [.int k, .ref 104]) (h1 := (124, I, J, R)) rfl ?_
  refine ev_ild (n := 300) rfl rfl (fun _ => rfl) n1 m1 ?_
  refine ev_go 3 (pc1 := 74) (lv1 := [.ref 86, .int a, .int 1, .int o, .int w, .int be, .int k, .int (I 104 k.toNatClampNeg), w8]) (st1 := [.int (I 104 k.toNatClampNeg), .ref 86]) (h1 := (124, I, J, R)) rfl ?_
  refine ev_call (v1 := (some (.int 1))) (h1 := (124, I, J, R)) rfl rfl c1 ?_
  refine ev_go 3 (pc1 := 84) (lv1 := [.ref 86, .int a, .int 1, .int o, .int w, .int be, .int k, .int (I 104 k.toNatClampNeg), w8]) (st1 := [.int be, .int (I 104 k.toNatClampNeg)]) (h1 := (124, I, J, R)) rfl ?_
  refine ev_br (b1 := true) rfl rfl (xcd_lt (x := (I 104 k.toNatClampNeg)) (y := be) (by first | exact b2 | omega)) ?_
  refine ev_go 8 (pc1 := 125) (lv1 := [.ref 86, .int a, .int 1, .int o, .int w, .int be, .int k, .int (I 104 k.toNatClampNeg), .int (-1)]) (st1 := [.int ((-1) - k)]) (h1 := (124, I, J, R)) rfl ?_
  exact ev_ret rfl rfl
set_option maxRecDepth 20000 in
theorem fm_0n {L : Nat} {xs : Nat → Int32} {d : Nat} {I : Nat → Nat → Int32} {J : Nat → Nat → Int64} {R : Nat → Nat → Nat} {a o w be k : Int32} {w7 w8 : Value} (hG : aGd R) (b1 : k.toInt < (I 86 30).toInt) (n1 : 0 ≤ k.toInt) (m1 : k.toInt < 300) (c1 : xEv L xs d 171 0 [.ref 86, .int (I 104 k.toNatClampNeg)] [] (124, I, J, R) (some (.int 1)) (124, I, J, R)) (b2 : (I 104 k.toNatClampNeg).toInt ≥ be.toInt) (n2 : 0 ≤ k.toInt) (m2 : k.toInt < 300) (b3 : (I 105 k.toNatClampNeg).toInt = 0) (c2 : xEv L xs d 176 0 [.ref 86, .int o, .int (I 104 k.toNatClampNeg)] [] (124, I, J, R) (some (.int (-1))) (124, I, J, R)) : xEv L xs (d + 1) 219 53 [.ref 86, .int a, .int 1, .int o, .int w, .int be, .int k, w7, w8] [] (124, I, J, R) (some (.int ((-1) - k))) (124, I, J, R) := by
  refine ev_go 3 (pc1 := 59) (lv1 := [.ref 86, .int a, .int 1, .int o, .int w, .int be, .int k, w7, w8]) (st1 := [.int (I 86 30), .int k]) (h1 := (124, I, J, R)) rfl ?_
  refine ev_br (b1 := false) rfl rfl (xcd_nge (x := k) (y := (I 86 30)) (by first | exact b1 | omega)) ?_
  refine ev_go 1 (pc1 := 63) (lv1 := [.ref 86, .int a, .int 1, .int o, .int w, .int be, .int k, w7, w8]) (st1 := [.ref 86]) (h1 := (124, I, J, R)) rfl ?_
  refine ev_gf (c := 86) (t := 104) (X := R 86 31) rfl rfl (fun _ => rfl) rfl (hG 86 31 104 rfl rfl) ?_
  refine ev_go 1 (pc1 := 68) (lv1 := [.ref 86, .int a, .int 1, .int o, .int w, .int be, .int k, w7, w8]) (st1 := [.int k, .ref 104]) (h1 := (124, I, J, R)) rfl ?_
  refine ev_ild (n := 300) rfl rfl (fun _ => rfl) n1 m1 ?_
  refine ev_go 3 (pc1 := 74) (lv1 := [.ref 86, .int a, .int 1, .int o, .int w, .int be, .int k, .int (I 104 k.toNatClampNeg), w8]) (st1 := [.int (I 104 k.toNatClampNeg), .ref 86]) (h1 := (124, I, J, R)) rfl ?_
  refine ev_call (v1 := (some (.int 1))) (h1 := (124, I, J, R)) rfl rfl c1 ?_
  refine ev_go 3 (pc1 := 84) (lv1 := [.ref 86, .int a, .int 1, .int o, .int w, .int be, .int k, .int (I 104 k.toNatClampNeg), w8]) (st1 := [.int be, .int (I 104 k.toNatClampNeg)]) (h1 := (124, I, J, R)) rfl ?_
  refine ev_br (b1 := false) rfl rfl (xcd_nlt (x := (I 104 k.toNatClampNeg)) (y := be) (by first | exact b2 | omega)) ?_
  refine ev_go 2 (pc1 := 89) (lv1 := [.ref 86, .int a, .int 1, .int o, .int w, .int be, .int k, .int (I 104 k.toNatClampNeg), w8]) (st1 := [.ref 86, .ref 86]) (h1 := (124, I, J, R)) rfl ?_
  refine ev_gf (c := 86) (t := 105) (X := R 86 32) rfl rfl (fun _ => rfl) rfl (hG 86 32 105 rfl rfl) ?_
  refine ev_go 1 (pc1 := 94) (lv1 := [.ref 86, .int a, .int 1, .int o, .int w, .int be, .int k, .int (I 104 k.toNatClampNeg), w8]) (st1 := [.int k, .ref 105, .ref 86]) (h1 := (124, I, J, R)) rfl ?_
  refine ev_ild (n := 300) rfl rfl (fun _ => rfl) n2 m2 ?_
  refine ev_br (b1 := false) rfl rfl (xcd_nne (x := (I 105 k.toNatClampNeg)) (y := 0) (by rw [show ((0 : Int32)).toInt = 0 from by decide]; first | exact b3 | omega)) ?_
  refine ev_go 3 (pc1 := 106) (lv1 := [.ref 86, .int a, .int 1, .int o, .int w, .int be, .int k, .int (I 104 k.toNatClampNeg), w8]) (st1 := [.int (I 104 k.toNatClampNeg), .int o, .ref 86]) (h1 := (124, I, J, R)) rfl ?_
  refine ev_call (v1 := (some (.int (-1)))) (h1 := (124, I, J, R)) rfl rfl c2 ?_
  refine ev_go 8 (pc1 := 125) (lv1 := [.ref 86, .int a, .int 1, .int o, .int w, .int be, .int k, .int (I 104 k.toNatClampNeg), .int (-1)]) (st1 := [.int ((-1) - k)]) (h1 := (124, I, J, R)) rfl ?_
  exact ev_ret rfl rfl
set_option maxRecDepth 20000 in
theorem fm_0y {L : Nat} {xs : Nat → Int32} {d : Nat} {I : Nat → Nat → Int32} {J : Nat → Nat → Int64} {R : Nat → Nat → Nat} {a o w be k u : Int32} {w7 w8 : Value} (hG : aGd R) (b1 : k.toInt < (I 86 30).toInt) (n1 : 0 ≤ k.toInt) (m1 : k.toInt < 300) (c1 : xEv L xs d 171 0 [.ref 86, .int (I 104 k.toNatClampNeg)] [] (124, I, J, R) (some (.int 1)) (124, I, J, R)) (b2 : (I 104 k.toNatClampNeg).toInt ≥ be.toInt) (n2 : 0 ≤ k.toInt) (m2 : k.toInt < 300) (b3 : (I 105 k.toNatClampNeg).toInt = 0) (c2 : xEv L xs d 176 0 [.ref 86, .int o, .int (I 104 k.toNatClampNeg)] [] (124, I, J, R) (some (.int u)) (124, I, J, R)) (b4 : u.toInt ≠ -1) (n3 : 0 ≤ k.toInt) (m3 : k.toInt < 300) (b5 : (I 105 k.toNatClampNeg).toInt = 0) (n4 : 0 ≤ k.toInt) (m4 : k.toInt < 300) (n5 : 0 ≤ (I 105 k.toNatClampNeg).toInt) (m5 : (I 105 k.toNatClampNeg).toInt < 2) (n6 : 0 ≤ (I 105 k.toNatClampNeg).toInt) (m6 : (I 105 k.toNatClampNeg).toInt < 2) (n7 : 0 ≤ k.toInt) (m7 : k.toInt < 300) (n8 : 0 ≤ (1 - (I 105 k.toNatClampNeg)).toInt) (m8 : (1 - (I 105 k.toNatClampNeg)).toInt < 2) (n9 : 0 ≤ (1 - (I 105 k.toNatClampNeg)).toInt) (m9 : (1 - (I 105 k.toNatClampNeg)).toInt < 2) {v : Option Value} {h' : xH} (hk : xEv L xs (d + 1) 219 53 [.ref 86, .int a, .int 1, .int u, .int w, .int (I 104 k.toNatClampNeg), .int (k + 1), .int (I 104 k.toNatClampNeg), .int u] [] (124, (uI (uI I 118 (I 105 k.toNatClampNeg).toNatClampNeg ((I 118 (I 105 k.toNatClampNeg).toNatClampNeg) ||| (1 <<< (u &&& 31)))) 118 (1 - (I 105 k.toNatClampNeg)).toNatClampNeg (((uI I 118 (I 105 k.toNatClampNeg).toNatClampNeg ((I 118 (I 105 k.toNatClampNeg).toNatClampNeg) ||| (1 <<< (u &&& 31)))) 118 (1 - (I 105 k.toNatClampNeg)).toNatClampNeg) &&& ((1 <<< (u &&& 31)) ^^^ (-1)))), J, R) v h') : xEv L xs (d + 1) 219 53 [.ref 86, .int a, .int 1, .int o, .int w, .int be, .int k, w7, w8] [] (124, I, J, R) v h' := by
  refine ev_go 3 (pc1 := 59) (lv1 := [.ref 86, .int a, .int 1, .int o, .int w, .int be, .int k, w7, w8]) (st1 := [.int (I 86 30), .int k]) (h1 := (124, I, J, R)) rfl ?_
  refine ev_br (b1 := false) rfl rfl (xcd_nge (x := k) (y := (I 86 30)) (by first | exact b1 | omega)) ?_
  refine ev_go 1 (pc1 := 63) (lv1 := [.ref 86, .int a, .int 1, .int o, .int w, .int be, .int k, w7, w8]) (st1 := [.ref 86]) (h1 := (124, I, J, R)) rfl ?_
  refine ev_gf (c := 86) (t := 104) (X := R 86 31) rfl rfl (fun _ => rfl) rfl (hG 86 31 104 rfl rfl) ?_
  refine ev_go 1 (pc1 := 68) (lv1 := [.ref 86, .int a, .int 1, .int o, .int w, .int be, .int k, w7, w8]) (st1 := [.int k, .ref 104]) (h1 := (124, I, J, R)) rfl ?_
  refine ev_ild (n := 300) rfl rfl (fun _ => rfl) n1 m1 ?_
  refine ev_go 3 (pc1 := 74) (lv1 := [.ref 86, .int a, .int 1, .int o, .int w, .int be, .int k, .int (I 104 k.toNatClampNeg), w8]) (st1 := [.int (I 104 k.toNatClampNeg), .ref 86]) (h1 := (124, I, J, R)) rfl ?_
  refine ev_call (v1 := (some (.int 1))) (h1 := (124, I, J, R)) rfl rfl c1 ?_
  refine ev_go 3 (pc1 := 84) (lv1 := [.ref 86, .int a, .int 1, .int o, .int w, .int be, .int k, .int (I 104 k.toNatClampNeg), w8]) (st1 := [.int be, .int (I 104 k.toNatClampNeg)]) (h1 := (124, I, J, R)) rfl ?_
  refine ev_br (b1 := false) rfl rfl (xcd_nlt (x := (I 104 k.toNatClampNeg)) (y := be) (by first | exact b2 | omega)) ?_
  refine ev_go 2 (pc1 := 89) (lv1 := [.ref 86, .int a, .int 1, .int o, .int w, .int be, .int k, .int (I 104 k.toNatClampNeg), w8]) (st1 := [.ref 86, .ref 86]) (h1 := (124, I, J, R)) rfl ?_
  refine ev_gf (c := 86) (t := 105) (X := R 86 32) rfl rfl (fun _ => rfl) rfl (hG 86 32 105 rfl rfl) ?_
  refine ev_go 1 (pc1 := 94) (lv1 := [.ref 86, .int a, .int 1, .int o, .int w, .int be, .int k, .int (I 104 k.toNatClampNeg), w8]) (st1 := [.int k, .ref 105, .ref 86]) (h1 := (124, I, J, R)) rfl ?_
  refine ev_ild (n := 300) rfl rfl (fun _ => rfl) n2 m2 ?_
  refine ev_br (b1 := false) rfl rfl (xcd_nne (x := (I 105 k.toNatClampNeg)) (y := 0) (by rw [show ((0 : Int32)).toInt = 0 from by decide]; first | exact b3 | omega)) ?_
  refine ev_go 3 (pc1 := 106) (lv1 := [.ref 86, .int a, .int 1, .int o, .int w, .int be, .int k, .int (I 104 k.toNatClampNeg), w8]) (st1 := [.int (I 104 k.toNatClampNeg), .int o, .ref 86]) (h1 := (124, I, J, R)) rfl ?_
  refine ev_call (v1 := (some (.int u))) (h1 := (124, I, J, R)) rfl rfl c2 ?_
  refine ev_go 4 (pc1 := 118) (lv1 := [.ref 86, .int a, .int 1, .int o, .int w, .int be, .int k, .int (I 104 k.toNatClampNeg), .int u]) (st1 := [.int (-1), .int u]) (h1 := (124, I, J, R)) rfl ?_
  refine ev_br (b1 := true) rfl rfl (xcd_ne (x := u) (y := (-1)) (by rw [show ((-1 : Int32)).toInt = -1 from by decide]; first | exact b4 | omega)) ?_
  refine ev_go 1 (pc1 := 127) (lv1 := [.ref 86, .int a, .int 1, .int o, .int w, .int be, .int k, .int (I 104 k.toNatClampNeg), .int u]) (st1 := [.ref 86]) (h1 := (124, I, J, R)) rfl ?_
  refine ev_gf (c := 86) (t := 105) (X := R 86 32) rfl rfl (fun _ => rfl) rfl (hG 86 32 105 rfl rfl) ?_
  refine ev_go 1 (pc1 := 132) (lv1 := [.ref 86, .int a, .int 1, .int o, .int w, .int be, .int k, .int (I 104 k.toNatClampNeg), .int u]) (st1 := [.int k, .ref 105]) (h1 := (124, I, J, R)) rfl ?_
  refine ev_ild (n := 300) rfl rfl (fun _ => rfl) n3 m3 ?_
  refine ev_br (b1 := false) rfl rfl (xcd_nne (x := (I 105 k.toNatClampNeg)) (y := 0) (by rw [show ((0 : Int32)).toInt = 0 from by decide]; first | exact b5 | omega)) ?_
  refine ev_go 4 (pc1 := 147) (lv1 := [.ref 86, .int a, .int 1, .int u, .int w, .int be, .int k, .int (I 104 k.toNatClampNeg), .int u]) (st1 := [.ref 86]) (h1 := (124, I, J, R)) rfl ?_
  refine ev_gf (c := 86) (t := 118) (X := R 86 53) rfl rfl (fun _ => rfl) rfl (hG 86 53 118 rfl rfl) ?_
  refine ev_go 1 (pc1 := 151) (lv1 := [.ref 86, .int a, .int 1, .int u, .int w, .int be, .int k, .int (I 104 k.toNatClampNeg), .int u]) (st1 := [.ref 86, .ref 118]) (h1 := (124, I, J, R)) rfl ?_
  refine ev_gf (c := 86) (t := 105) (X := R 86 32) rfl rfl (fun _ => rfl) rfl (hG 86 32 105 rfl rfl) ?_
  refine ev_go 1 (pc1 := 156) (lv1 := [.ref 86, .int a, .int 1, .int u, .int w, .int be, .int k, .int (I 104 k.toNatClampNeg), .int u]) (st1 := [.int k, .ref 105, .ref 118]) (h1 := (124, I, J, R)) rfl ?_
  refine ev_ild (n := 300) rfl rfl (fun _ => rfl) n4 m4 ?_
  refine ev_go 1 (pc1 := 158) (lv1 := [.ref 86, .int a, .int 1, .int u, .int w, .int be, .int k, .int (I 104 k.toNatClampNeg), .int u]) (st1 := [.int (I 105 k.toNatClampNeg), .ref 118, .int (I 105 k.toNatClampNeg), .ref 118]) (h1 := (124, I, J, R)) rfl ?_
  refine ev_ild (n := 2) rfl rfl (fun _ => rfl) n5 m5 ?_
  refine ev_go 2 (pc1 := 162) (lv1 := [.ref 86, .int a, .int 1, .int u, .int w, .int be, .int k, .int (I 104 k.toNatClampNeg), .int u]) (st1 := [.int u, .int 1, .int (I 118 (I 105 k.toNatClampNeg).toNatClampNeg), .int (I 105 k.toNatClampNeg), .ref 118]) (h1 := (124, I, J, R)) rfl ?_
  refine ev_go 2 (pc1 := 164) (lv1 := [.ref 86, .int a, .int 1, .int u, .int w, .int be, .int k, .int (I 104 k.toNatClampNeg), .int u]) (st1 := [.int ((I 118 (I 105 k.toNatClampNeg).toNatClampNeg) ||| (1 <<< (u &&& 31))), .int (I 105 k.toNatClampNeg), .ref 118]) (h1 := (124, I, J, R)) rfl ?_
  refine ev_ist (n := 2) rfl rfl (fun _ => rfl) n6 m6 ?_
  refine ev_go 1 (pc1 := 166) (lv1 := [.ref 86, .int a, .int 1, .int u, .int w, .int be, .int k, .int (I 104 k.toNatClampNeg), .int u]) (st1 := [.ref 86]) (h1 := (124, (uI I 118 (I 105 k.toNatClampNeg).toNatClampNeg ((I 118 (I 105 k.toNatClampNeg).toNatClampNeg) ||| (1 <<< (u &&& 31)))), J, R)) rfl ?_
  refine ev_gf (c := 86) (t := 118) (X := R 86 53) rfl rfl (fun _ => rfl) rfl (hG 86 53 118 rfl rfl) ?_
  refine ev_go 2 (pc1 := 171) (lv1 := [.ref 86, .int a, .int 1, .int u, .int w, .int be, .int k, .int (I 104 k.toNatClampNeg), .int u]) (st1 := [.ref 86, .int 1, .ref 118]) (h1 := (124, (uI I 118 (I 105 k.toNatClampNeg).toNatClampNeg ((I 118 (I 105 k.toNatClampNeg).toNatClampNeg) ||| (1 <<< (u &&& 31)))), J, R)) rfl ?_
  refine ev_gf (c := 86) (t := 105) (X := R 86 32) rfl rfl (fun _ => rfl) rfl (hG 86 32 105 rfl rfl) ?_
  refine ev_go 1 (pc1 := 176) (lv1 := [.ref 86, .int a, .int 1, .int u, .int w, .int be, .int k, .int (I 104 k.toNatClampNeg), .int u]) (st1 := [.int k, .ref 105, .int 1, .ref 118]) (h1 := (124, (uI I 118 (I 105 k.toNatClampNeg).toNatClampNeg ((I 118 (I 105 k.toNatClampNeg).toNatClampNeg) ||| (1 <<< (u &&& 31)))), J, R)) rfl ?_
  refine ev_ild (n := 300) rfl rfl (fun _ => rfl) n7 m7 ?_
  refine ev_go 2 (pc1 := 179) (lv1 := [.ref 86, .int a, .int 1, .int u, .int w, .int be, .int k, .int (I 104 k.toNatClampNeg), .int u]) (st1 := [.int (1 - (I 105 k.toNatClampNeg)), .ref 118, .int (1 - (I 105 k.toNatClampNeg)), .ref 118]) (h1 := (124, (uI I 118 (I 105 k.toNatClampNeg).toNatClampNeg ((I 118 (I 105 k.toNatClampNeg).toNatClampNeg) ||| (1 <<< (u &&& 31)))), J, R)) rfl ?_
  refine ev_ild (n := 2) rfl rfl (fun _ => rfl) n8 m8 ?_
  refine ev_go 2 (pc1 := 183) (lv1 := [.ref 86, .int a, .int 1, .int u, .int w, .int be, .int k, .int (I 104 k.toNatClampNeg), .int u]) (st1 := [.int u, .int 1, .int ((uI I 118 (I 105 k.toNatClampNeg).toNatClampNeg ((I 118 (I 105 k.toNatClampNeg).toNatClampNeg) ||| (1 <<< (u &&& 31)))) 118 (1 - (I 105 k.toNatClampNeg)).toNatClampNeg), .int (1 - (I 105 k.toNatClampNeg)), .ref 118]) (h1 := (124, (uI I 118 (I 105 k.toNatClampNeg).toNatClampNeg ((I 118 (I 105 k.toNatClampNeg).toNatClampNeg) ||| (1 <<< (u &&& 31)))), J, R)) rfl ?_
  refine ev_go 4 (pc1 := 187) (lv1 := [.ref 86, .int a, .int 1, .int u, .int w, .int be, .int k, .int (I 104 k.toNatClampNeg), .int u]) (st1 := [.int (((uI I 118 (I 105 k.toNatClampNeg).toNatClampNeg ((I 118 (I 105 k.toNatClampNeg).toNatClampNeg) ||| (1 <<< (u &&& 31)))) 118 (1 - (I 105 k.toNatClampNeg)).toNatClampNeg) &&& ((1 <<< (u &&& 31)) ^^^ (-1))), .int (1 - (I 105 k.toNatClampNeg)), .ref 118]) (h1 := (124, (uI I 118 (I 105 k.toNatClampNeg).toNatClampNeg ((I 118 (I 105 k.toNatClampNeg).toNatClampNeg) ||| (1 <<< (u &&& 31)))), J, R)) rfl ?_
  refine ev_ist (n := 2) rfl rfl (fun _ => rfl) n9 m9 ?_
  refine ev_go 4 (pc1 := 53) (lv1 := [.ref 86, .int a, .int 1, .int u, .int w, .int (I 104 k.toNatClampNeg), .int (k + 1), .int (I 104 k.toNatClampNeg), .int u]) (st1 := []) (h1 := (124, (uI (uI I 118 (I 105 k.toNatClampNeg).toNatClampNeg ((I 118 (I 105 k.toNatClampNeg).toNatClampNeg) ||| (1 <<< (u &&& 31)))) 118 (1 - (I 105 k.toNatClampNeg)).toNatClampNeg (((uI I 118 (I 105 k.toNatClampNeg).toNatClampNeg ((I 118 (I 105 k.toNatClampNeg).toNatClampNeg) ||| (1 <<< (u &&& 31)))) 118 (1 - (I 105 k.toNatClampNeg)).toNatClampNeg) &&& ((1 <<< (u &&& 31)) ^^^ (-1)))), J, R)) rfl ?_
  exact hk
set_option maxRecDepth 20000 in
theorem fm_1n {L : Nat} {xs : Nat → Int32} {d : Nat} {I : Nat → Nat → Int32} {J : Nat → Nat → Int64} {R : Nat → Nat → Nat} {a o w be k : Int32} {w7 w8 : Value} (hG : aGd R) (b1 : k.toInt < (I 86 30).toInt) (n1 : 0 ≤ k.toInt) (m1 : k.toInt < 300) (c1 : xEv L xs d 171 0 [.ref 86, .int (I 104 k.toNatClampNeg)] [] (124, I, J, R) (some (.int 1)) (124, I, J, R)) (b2 : (I 104 k.toNatClampNeg).toInt ≥ be.toInt) (n2 : 0 ≤ k.toInt) (m2 : k.toInt < 300) (b3 : (I 105 k.toNatClampNeg).toInt ≠ 0) (c2 : xEv L xs d 176 0 [.ref 86, .int w, .int (I 104 k.toNatClampNeg)] [] (124, I, J, R) (some (.int (-1))) (124, I, J, R)) : xEv L xs (d + 1) 219 53 [.ref 86, .int a, .int 1, .int o, .int w, .int be, .int k, w7, w8] [] (124, I, J, R) (some (.int ((-1) - k))) (124, I, J, R) := by
  refine ev_go 3 (pc1 := 59) (lv1 := [.ref 86, .int a, .int 1, .int o, .int w, .int be, .int k, w7, w8]) (st1 := [.int (I 86 30), .int k]) (h1 := (124, I, J, R)) rfl ?_
  refine ev_br (b1 := false) rfl rfl (xcd_nge (x := k) (y := (I 86 30)) (by first | exact b1 | omega)) ?_
  refine ev_go 1 (pc1 := 63) (lv1 := [.ref 86, .int a, .int 1, .int o, .int w, .int be, .int k, w7, w8]) (st1 := [.ref 86]) (h1 := (124, I, J, R)) rfl ?_
  refine ev_gf (c := 86) (t := 104) (X := R 86 31) rfl rfl (fun _ => rfl) rfl (hG 86 31 104 rfl rfl) ?_
  refine ev_go 1 (pc1 := 68) (lv1 := [.ref 86, .int a, .int 1, .int o, .int w, .int be, .int k, w7, w8]) (st1 := [.int k, .ref 104]) (h1 := (124, I, J, R)) rfl ?_
  refine ev_ild (n := 300) rfl rfl (fun _ => rfl) n1 m1 ?_
  refine ev_go 3 (pc1 := 74) (lv1 := [.ref 86, .int a, .int 1, .int o, .int w, .int be, .int k, .int (I 104 k.toNatClampNeg), w8]) (st1 := [.int (I 104 k.toNatClampNeg), .ref 86]) (h1 := (124, I, J, R)) rfl ?_
  refine ev_call (v1 := (some (.int 1))) (h1 := (124, I, J, R)) rfl rfl c1 ?_
  refine ev_go 3 (pc1 := 84) (lv1 := [.ref 86, .int a, .int 1, .int o, .int w, .int be, .int k, .int (I 104 k.toNatClampNeg), w8]) (st1 := [.int be, .int (I 104 k.toNatClampNeg)]) (h1 := (124, I, J, R)) rfl ?_
  refine ev_br (b1 := false) rfl rfl (xcd_nlt (x := (I 104 k.toNatClampNeg)) (y := be) (by first | exact b2 | omega)) ?_
  refine ev_go 2 (pc1 := 89) (lv1 := [.ref 86, .int a, .int 1, .int o, .int w, .int be, .int k, .int (I 104 k.toNatClampNeg), w8]) (st1 := [.ref 86, .ref 86]) (h1 := (124, I, J, R)) rfl ?_
  refine ev_gf (c := 86) (t := 105) (X := R 86 32) rfl rfl (fun _ => rfl) rfl (hG 86 32 105 rfl rfl) ?_
  refine ev_go 1 (pc1 := 94) (lv1 := [.ref 86, .int a, .int 1, .int o, .int w, .int be, .int k, .int (I 104 k.toNatClampNeg), w8]) (st1 := [.int k, .ref 105, .ref 86]) (h1 := (124, I, J, R)) rfl ?_
  refine ev_ild (n := 300) rfl rfl (fun _ => rfl) n2 m2 ?_
  refine ev_br (b1 := true) rfl rfl (xcd_ne (x := (I 105 k.toNatClampNeg)) (y := 0) (by rw [show ((0 : Int32)).toInt = 0 from by decide]; first | exact b3 | omega)) ?_
  refine ev_go 2 (pc1 := 106) (lv1 := [.ref 86, .int a, .int 1, .int o, .int w, .int be, .int k, .int (I 104 k.toNatClampNeg), w8]) (st1 := [.int (I 104 k.toNatClampNeg), .int w, .ref 86]) (h1 := (124, I, J, R)) rfl ?_
  refine ev_call (v1 := (some (.int (-1)))) (h1 := (124, I, J, R)) rfl rfl c2 ?_
  refine ev_go 8 (pc1 := 125) (lv1 := [.ref 86, .int a, .int 1, .int o, .int w, .int be, .int k, .int (I 104 k.toNatClampNeg), .int (-1)]) (st1 := [.int ((-1) - k)]) (h1 := (124, I, J, R)) rfl ?_
  exact ev_ret rfl rfl
set_option maxRecDepth 20000 in
theorem fm_1y {L : Nat} {xs : Nat → Int32} {d : Nat} {I : Nat → Nat → Int32} {J : Nat → Nat → Int64} {R : Nat → Nat → Nat} {a o w be k u : Int32} {w7 w8 : Value} (hG : aGd R) (b1 : k.toInt < (I 86 30).toInt) (n1 : 0 ≤ k.toInt) (m1 : k.toInt < 300) (c1 : xEv L xs d 171 0 [.ref 86, .int (I 104 k.toNatClampNeg)] [] (124, I, J, R) (some (.int 1)) (124, I, J, R)) (b2 : (I 104 k.toNatClampNeg).toInt ≥ be.toInt) (n2 : 0 ≤ k.toInt) (m2 : k.toInt < 300) (b3 : (I 105 k.toNatClampNeg).toInt ≠ 0) (c2 : xEv L xs d 176 0 [.ref 86, .int w, .int (I 104 k.toNatClampNeg)] [] (124, I, J, R) (some (.int u)) (124, I, J, R)) (b4 : u.toInt ≠ -1) (n3 : 0 ≤ k.toInt) (m3 : k.toInt < 300) (b5 : (I 105 k.toNatClampNeg).toInt ≠ 0) (n4 : 0 ≤ k.toInt) (m4 : k.toInt < 300) (n5 : 0 ≤ (I 105 k.toNatClampNeg).toInt) (m5 : (I 105 k.toNatClampNeg).toInt < 2) (n6 : 0 ≤ (I 105 k.toNatClampNeg).toInt) (m6 : (I 105 k.toNatClampNeg).toInt < 2) (n7 : 0 ≤ k.toInt) (m7 : k.toInt < 300) (n8 : 0 ≤ (1 - (I 105 k.toNatClampNeg)).toInt) (m8 : (1 - (I 105 k.toNatClampNeg)).toInt < 2) (n9 : 0 ≤ (1 - (I 105 k.toNatClampNeg)).toInt) (m9 : (1 - (I 105 k.toNatClampNeg)).toInt < 2) {v : Option Value} {h' : xH} (hk : xEv L xs (d + 1) 219 53 [.ref 86, .int a, .int 1, .int o, .int u, .int (I 104 k.toNatClampNeg), .int (k + 1), .int (I 104 k.toNatClampNeg), .int u] [] (124, (uI (uI I 118 (I 105 k.toNatClampNeg).toNatClampNeg ((I 118 (I 105 k.toNatClampNeg).toNatClampNeg) ||| (1 <<< (u &&& 31)))) 118 (1 - (I 105 k.toNatClampNeg)).toNatClampNeg (((uI I 118 (I 105 k.toNatClampNeg).toNatClampNeg ((I 118 (I 105 k.toNatClampNeg).toNatClampNeg) ||| (1 <<< (u &&& 31)))) 118 (1 - (I 105 k.toNatClampNeg)).toNatClampNeg) &&& ((1 <<< (u &&& 31)) ^^^ (-1)))), J, R) v h') : xEv L xs (d + 1) 219 53 [.ref 86, .int a, .int 1, .int o, .int w, .int be, .int k, w7, w8] [] (124, I, J, R) v h' := by
  refine ev_go 3 (pc1 := 59) (lv1 := [.ref 86, .int a, .int 1, .int o, .int w, .int be, .int k, w7, w8]) (st1 := [.int (I 86 30), .int k]) (h1 := (124, I, J, R)) rfl ?_
  refine ev_br (b1 := false) rfl rfl (xcd_nge (x := k) (y := (I 86 30)) (by first | exact b1 | omega)) ?_
  refine ev_go 1 (pc1 := 63) (lv1 := [.ref 86, .int a, .int 1, .int o, .int w, .int be, .int k, w7, w8]) (st1 := [.ref 86]) (h1 := (124, I, J, R)) rfl ?_
  refine ev_gf (c := 86) (t := 104) (X := R 86 31) rfl rfl (fun _ => rfl) rfl (hG 86 31 104 rfl rfl) ?_
  refine ev_go 1 (pc1 := 68) (lv1 := [.ref 86, .int a, .int 1, .int o, .int w, .int be, .int k, w7, w8]) (st1 := [.int k, .ref 104]) (h1 := (124, I, J, R)) rfl ?_
  refine ev_ild (n := 300) rfl rfl (fun _ => rfl) n1 m1 ?_
  refine ev_go 3 (pc1 := 74) (lv1 := [.ref 86, .int a, .int 1, .int o, .int w, .int be, .int k, .int (I 104 k.toNatClampNeg), w8]) (st1 := [.int (I 104 k.toNatClampNeg), .ref 86]) (h1 := (124, I, J, R)) rfl ?_
  refine ev_call (v1 := (some (.int 1))) (h1 := (124, I, J, R)) rfl rfl c1 ?_
  refine ev_go 3 (pc1 := 84) (lv1 := [.ref 86, .int a, .int 1, .int o, .int w, .int be, .int k, .int (I 104 k.toNatClampNeg), w8]) (st1 := [.int be, .int (I 104 k.toNatClampNeg)]) (h1 := (124, I, J, R)) rfl ?_
  refine ev_br (b1 := false) rfl rfl (xcd_nlt (x := (I 104 k.toNatClampNeg)) (y := be) (by first | exact b2 | omega)) ?_
  refine ev_go 2 (pc1 := 89) (lv1 := [.ref 86, .int a, .int 1, .int o, .int w, .int be, .int k, .int (I 104 k.toNatClampNeg), w8]) (st1 := [.ref 86, .ref 86]) (h1 := (124, I, J, R)) rfl ?_
  refine ev_gf (c := 86) (t := 105) (X := R 86 32) rfl rfl (fun _ => rfl) rfl (hG 86 32 105 rfl rfl) ?_
  refine ev_go 1 (pc1 := 94) (lv1 := [.ref 86, .int a, .int 1, .int o, .int w, .int be, .int k, .int (I 104 k.toNatClampNeg), w8]) (st1 := [.int k, .ref 105, .ref 86]) (h1 := (124, I, J, R)) rfl ?_
  refine ev_ild (n := 300) rfl rfl (fun _ => rfl) n2 m2 ?_
  refine ev_br (b1 := true) rfl rfl (xcd_ne (x := (I 105 k.toNatClampNeg)) (y := 0) (by rw [show ((0 : Int32)).toInt = 0 from by decide]; first | exact b3 | omega)) ?_
  refine ev_go 2 (pc1 := 106) (lv1 := [.ref 86, .int a, .int 1, .int o, .int w, .int be, .int k, .int (I 104 k.toNatClampNeg), w8]) (st1 := [.int (I 104 k.toNatClampNeg), .int w, .ref 86]) (h1 := (124, I, J, R)) rfl ?_
  refine ev_call (v1 := (some (.int u))) (h1 := (124, I, J, R)) rfl rfl c2 ?_
  refine ev_go 4 (pc1 := 118) (lv1 := [.ref 86, .int a, .int 1, .int o, .int w, .int be, .int k, .int (I 104 k.toNatClampNeg), .int u]) (st1 := [.int (-1), .int u]) (h1 := (124, I, J, R)) rfl ?_
  refine ev_br (b1 := true) rfl rfl (xcd_ne (x := u) (y := (-1)) (by rw [show ((-1 : Int32)).toInt = -1 from by decide]; first | exact b4 | omega)) ?_
  refine ev_go 1 (pc1 := 127) (lv1 := [.ref 86, .int a, .int 1, .int o, .int w, .int be, .int k, .int (I 104 k.toNatClampNeg), .int u]) (st1 := [.ref 86]) (h1 := (124, I, J, R)) rfl ?_
  refine ev_gf (c := 86) (t := 105) (X := R 86 32) rfl rfl (fun _ => rfl) rfl (hG 86 32 105 rfl rfl) ?_
  refine ev_go 1 (pc1 := 132) (lv1 := [.ref 86, .int a, .int 1, .int o, .int w, .int be, .int k, .int (I 104 k.toNatClampNeg), .int u]) (st1 := [.int k, .ref 105]) (h1 := (124, I, J, R)) rfl ?_
  refine ev_ild (n := 300) rfl rfl (fun _ => rfl) n3 m3 ?_
  refine ev_br (b1 := true) rfl rfl (xcd_ne (x := (I 105 k.toNatClampNeg)) (y := 0) (by rw [show ((0 : Int32)).toInt = 0 from by decide]; first | exact b5 | omega)) ?_
  refine ev_go 3 (pc1 := 147) (lv1 := [.ref 86, .int a, .int 1, .int o, .int u, .int be, .int k, .int (I 104 k.toNatClampNeg), .int u]) (st1 := [.ref 86]) (h1 := (124, I, J, R)) rfl ?_
  refine ev_gf (c := 86) (t := 118) (X := R 86 53) rfl rfl (fun _ => rfl) rfl (hG 86 53 118 rfl rfl) ?_
  refine ev_go 1 (pc1 := 151) (lv1 := [.ref 86, .int a, .int 1, .int o, .int u, .int be, .int k, .int (I 104 k.toNatClampNeg), .int u]) (st1 := [.ref 86, .ref 118]) (h1 := (124, I, J, R)) rfl ?_
  refine ev_gf (c := 86) (t := 105) (X := R 86 32) rfl rfl (fun _ => rfl) rfl (hG 86 32 105 rfl rfl) ?_
  refine ev_go 1 (pc1 := 156) (lv1 := [.ref 86, .int a, .int 1, .int o, .int u, .int be, .int k, .int (I 104 k.toNatClampNeg), .int u]) (st1 := [.int k, .ref 105, .ref 118]) (h1 := (124, I, J, R)) rfl ?_
  refine ev_ild (n := 300) rfl rfl (fun _ => rfl) n4 m4 ?_
  refine ev_go 1 (pc1 := 158) (lv1 := [.ref 86, .int a, .int 1, .int o, .int u, .int be, .int k, .int (I 104 k.toNatClampNeg), .int u]) (st1 := [.int (I 105 k.toNatClampNeg), .ref 118, .int (I 105 k.toNatClampNeg), .ref 118]) (h1 := (124, I, J, R)) rfl ?_
  refine ev_ild (n := 2) rfl rfl (fun _ => rfl) n5 m5 ?_
  refine ev_go 2 (pc1 := 162) (lv1 := [.ref 86, .int a, .int 1, .int o, .int u, .int be, .int k, .int (I 104 k.toNatClampNeg), .int u]) (st1 := [.int u, .int 1, .int (I 118 (I 105 k.toNatClampNeg).toNatClampNeg), .int (I 105 k.toNatClampNeg), .ref 118]) (h1 := (124, I, J, R)) rfl ?_
  refine ev_go 2 (pc1 := 164) (lv1 := [.ref 86, .int a, .int 1, .int o, .int u, .int be, .int k, .int (I 104 k.toNatClampNeg), .int u]) (st1 := [.int ((I 118 (I 105 k.toNatClampNeg).toNatClampNeg) ||| (1 <<< (u &&& 31))), .int (I 105 k.toNatClampNeg), .ref 118]) (h1 := (124, I, J, R)) rfl ?_
  refine ev_ist (n := 2) rfl rfl (fun _ => rfl) n6 m6 ?_
  refine ev_go 1 (pc1 := 166) (lv1 := [.ref 86, .int a, .int 1, .int o, .int u, .int be, .int k, .int (I 104 k.toNatClampNeg), .int u]) (st1 := [.ref 86]) (h1 := (124, (uI I 118 (I 105 k.toNatClampNeg).toNatClampNeg ((I 118 (I 105 k.toNatClampNeg).toNatClampNeg) ||| (1 <<< (u &&& 31)))), J, R)) rfl ?_
  refine ev_gf (c := 86) (t := 118) (X := R 86 53) rfl rfl (fun _ => rfl) rfl (hG 86 53 118 rfl rfl) ?_
  refine ev_go 2 (pc1 := 171) (lv1 := [.ref 86, .int a, .int 1, .int o, .int u, .int be, .int k, .int (I 104 k.toNatClampNeg), .int u]) (st1 := [.ref 86, .int 1, .ref 118]) (h1 := (124, (uI I 118 (I 105 k.toNatClampNeg).toNatClampNeg ((I 118 (I 105 k.toNatClampNeg).toNatClampNeg) ||| (1 <<< (u &&& 31)))), J, R)) rfl ?_
  refine ev_gf (c := 86) (t := 105) (X := R 86 32) rfl rfl (fun _ => rfl) rfl (hG 86 32 105 rfl rfl) ?_
  refine ev_go 1 (pc1 := 176) (lv1 := [.ref 86, .int a, .int 1, .int o, .int u, .int be, .int k, .int (I 104 k.toNatClampNeg), .int u]) (st1 := [.int k, .ref 105, .int 1, .ref 118]) (h1 := (124, (uI I 118 (I 105 k.toNatClampNeg).toNatClampNeg ((I 118 (I 105 k.toNatClampNeg).toNatClampNeg) ||| (1 <<< (u &&& 31)))), J, R)) rfl ?_
  refine ev_ild (n := 300) rfl rfl (fun _ => rfl) n7 m7 ?_
  refine ev_go 2 (pc1 := 179) (lv1 := [.ref 86, .int a, .int 1, .int o, .int u, .int be, .int k, .int (I 104 k.toNatClampNeg), .int u]) (st1 := [.int (1 - (I 105 k.toNatClampNeg)), .ref 118, .int (1 - (I 105 k.toNatClampNeg)), .ref 118]) (h1 := (124, (uI I 118 (I 105 k.toNatClampNeg).toNatClampNeg ((I 118 (I 105 k.toNatClampNeg).toNatClampNeg) ||| (1 <<< (u &&& 31)))), J, R)) rfl ?_
  refine ev_ild (n := 2) rfl rfl (fun _ => rfl) n8 m8 ?_
  refine ev_go 2 (pc1 := 183) (lv1 := [.ref 86, .int a, .int 1, .int o, .int u, .int be, .int k, .int (I 104 k.toNatClampNeg), .int u]) (st1 := [.int u, .int 1, .int ((uI I 118 (I 105 k.toNatClampNeg).toNatClampNeg ((I 118 (I 105 k.toNatClampNeg).toNatClampNeg) ||| (1 <<< (u &&& 31)))) 118 (1 - (I 105 k.toNatClampNeg)).toNatClampNeg), .int (1 - (I 105 k.toNatClampNeg)), .ref 118]) (h1 := (124, (uI I 118 (I 105 k.toNatClampNeg).toNatClampNeg ((I 118 (I 105 k.toNatClampNeg).toNatClampNeg) ||| (1 <<< (u &&& 31)))), J, R)) rfl ?_
  refine ev_go 4 (pc1 := 187) (lv1 := [.ref 86, .int a, .int 1, .int o, .int u, .int be, .int k, .int (I 104 k.toNatClampNeg), .int u]) (st1 := [.int (((uI I 118 (I 105 k.toNatClampNeg).toNatClampNeg ((I 118 (I 105 k.toNatClampNeg).toNatClampNeg) ||| (1 <<< (u &&& 31)))) 118 (1 - (I 105 k.toNatClampNeg)).toNatClampNeg) &&& ((1 <<< (u &&& 31)) ^^^ (-1))), .int (1 - (I 105 k.toNatClampNeg)), .ref 118]) (h1 := (124, (uI I 118 (I 105 k.toNatClampNeg).toNatClampNeg ((I 118 (I 105 k.toNatClampNeg).toNatClampNeg) ||| (1 <<< (u &&& 31)))), J, R)) rfl ?_
  refine ev_ist (n := 2) rfl rfl (fun _ => rfl) n9 m9 ?_
  refine ev_go 4 (pc1 := 53) (lv1 := [.ref 86, .int a, .int 1, .int o, .int u, .int (I 104 k.toNatClampNeg), .int (k + 1), .int (I 104 k.toNatClampNeg), .int u]) (st1 := []) (h1 := (124, (uI (uI I 118 (I 105 k.toNatClampNeg).toNatClampNeg ((I 118 (I 105 k.toNatClampNeg).toNatClampNeg) ||| (1 <<< (u &&& 31)))) 118 (1 - (I 105 k.toNatClampNeg)).toNatClampNeg (((uI I 118 (I 105 k.toNatClampNeg).toNatClampNeg ((I 118 (I 105 k.toNatClampNeg).toNatClampNeg) ||| (1 <<< (u &&& 31)))) 118 (1 - (I 105 k.toNatClampNeg)).toNatClampNeg) &&& ((1 <<< (u &&& 31)) ^^^ (-1)))), J, R)) rfl ?_
  exact hk
set_option maxRecDepth 20000 in
theorem be_n {L : Nat} {xs : Nat → Int32} {d : Nat} {I : Nat → Nat → Int32} {J : Nat → Nat → Int64} {R : Nat → Nat → Nat} {a : Int32} (hG : aGd R) (b1 : (I 49 3).toInt = 0) : xEv L xs d 118 0 [.ref 0, .int a] [] (124, I, J, R) (some (.int (-1))) (124, I, J, R) := by
  refine ev_go 1 (pc1 := 1) (lv1 := [.ref 0, .int a]) (st1 := [.ref 0]) (h1 := (124, I, J, R)) rfl ?_
  refine ev_gf (c := 0) (t := 49) (X := R 0 3) rfl rfl (fun _ => rfl) rfl (hG 0 3 49 rfl rfl) ?_
  refine ev_go 1 (pc1 := 7) (lv1 := [.ref 0, .int a]) (st1 := [.int (I 49 3)]) (h1 := (124, I, J, R)) rfl ?_
  refine ev_br (b1 := false) rfl rfl (xcd_nne (x := (I 49 3)) (y := 0) (by rw [show ((0 : Int32)).toInt = 0 from by decide]; first | exact b1 | omega)) ?_
  refine ev_go 1 (pc1 := 11) (lv1 := [.ref 0, .int a]) (st1 := [.int (-1)]) (h1 := (124, I, J, R)) rfl ?_
  exact ev_ret rfl rfl
set_option maxRecDepth 20000 in
theorem be_0 {L : Nat} {xs : Nat → Int32} {d : Nat} {I : Nat → Nat → Int32} {J : Nat → Nat → Int64} {R : Nat → Nat → Nat} {a : Int32} (hG : aGd R) (b1 : (I 49 3).toInt ≠ 0) (b2 : a.toInt = 0) : xEv L xs d 118 0 [.ref 0, .int a] [] (124, I, J, R) (some (.int (I 52 0))) (124, I, J, R) := by
  refine ev_go 1 (pc1 := 1) (lv1 := [.ref 0, .int a]) (st1 := [.ref 0]) (h1 := (124, I, J, R)) rfl ?_
  refine ev_gf (c := 0) (t := 49) (X := R 0 3) rfl rfl (fun _ => rfl) rfl (hG 0 3 49 rfl rfl) ?_
  refine ev_go 1 (pc1 := 7) (lv1 := [.ref 0, .int a]) (st1 := [.int (I 49 3)]) (h1 := (124, I, J, R)) rfl ?_
  refine ev_br (b1 := true) rfl rfl (xcd_ne (x := (I 49 3)) (y := 0) (by rw [show ((0 : Int32)).toInt = 0 from by decide]; first | exact b1 | omega)) ?_
  refine ev_go 1 (pc1 := 13) (lv1 := [.ref 0, .int a]) (st1 := [.int a]) (h1 := (124, I, J, R)) rfl ?_
  refine ev_lk1 (x := a) (z := 0) (t := 40) rfl rfl b2 rfl rfl ?_
  refine ev_go 1 (pc1 := 41) (lv1 := [.ref 0, .int a]) (st1 := [.ref 0]) (h1 := (124, I, J, R)) rfl ?_
  refine ev_gf (c := 0) (t := 49) (X := R 0 3) rfl rfl (fun _ => rfl) rfl (hG 0 3 49 rfl rfl) ?_
  refine ev_gf (c := 49) (t := 52) (X := R 49 2) rfl rfl (fun _ => rfl) rfl (hG 49 2 52 rfl rfl) ?_
  refine ev_go 2 (pc1 := 49) (lv1 := [.ref 0, .int a]) (st1 := [.int (I 52 0)]) (h1 := (124, I, J, R)) rfl ?_
  exact ev_ret rfl rfl
set_option maxRecDepth 20000 in
theorem be_1 {L : Nat} {xs : Nat → Int32} {d : Nat} {I : Nat → Nat → Int32} {J : Nat → Nat → Int64} {R : Nat → Nat → Nat} {a : Int32} (hG : aGd R) (b1 : (I 49 3).toInt ≠ 0) (b2 : a.toInt = 1) : xEv L xs d 118 0 [.ref 0, .int a] [] (124, I, J, R) (some (.int (I 52 1))) (124, I, J, R) := by
  refine ev_go 1 (pc1 := 1) (lv1 := [.ref 0, .int a]) (st1 := [.ref 0]) (h1 := (124, I, J, R)) rfl ?_
  refine ev_gf (c := 0) (t := 49) (X := R 0 3) rfl rfl (fun _ => rfl) rfl (hG 0 3 49 rfl rfl) ?_
  refine ev_go 1 (pc1 := 7) (lv1 := [.ref 0, .int a]) (st1 := [.int (I 49 3)]) (h1 := (124, I, J, R)) rfl ?_
  refine ev_br (b1 := true) rfl rfl (xcd_ne (x := (I 49 3)) (y := 0) (by rw [show ((0 : Int32)).toInt = 0 from by decide]; first | exact b1 | omega)) ?_
  refine ev_go 1 (pc1 := 13) (lv1 := [.ref 0, .int a]) (st1 := [.int a]) (h1 := (124, I, J, R)) rfl ?_
  refine ev_lk1 (x := a) (z := 1) (t := 50) rfl rfl b2 rfl rfl ?_
  refine ev_go 1 (pc1 := 51) (lv1 := [.ref 0, .int a]) (st1 := [.ref 0]) (h1 := (124, I, J, R)) rfl ?_
  refine ev_gf (c := 0) (t := 49) (X := R 0 3) rfl rfl (fun _ => rfl) rfl (hG 0 3 49 rfl rfl) ?_
  refine ev_gf (c := 49) (t := 52) (X := R 49 2) rfl rfl (fun _ => rfl) rfl (hG 49 2 52 rfl rfl) ?_
  refine ev_go 2 (pc1 := 59) (lv1 := [.ref 0, .int a]) (st1 := [.int (I 52 1)]) (h1 := (124, I, J, R)) rfl ?_
  exact ev_ret rfl rfl
set_option maxRecDepth 20000 in
theorem be_d {L : Nat} {xs : Nat → Int32} {d : Nat} {I : Nat → Nat → Int32} {J : Nat → Nat → Int64} {R : Nat → Nat → Nat} {a : Int32} (hG : aGd R) (b1 : (I 49 3).toInt ≠ 0) (b2 : a.toInt ≠ 0 ∧ a.toInt ≠ 1) : xEv L xs d 118 0 [.ref 0, .int a] [] (124, I, J, R) (some (.int (-1))) (124, I, J, R) := by
  refine ev_go 1 (pc1 := 1) (lv1 := [.ref 0, .int a]) (st1 := [.ref 0]) (h1 := (124, I, J, R)) rfl ?_
  refine ev_gf (c := 0) (t := 49) (X := R 0 3) rfl rfl (fun _ => rfl) rfl (hG 0 3 49 rfl rfl) ?_
  refine ev_go 1 (pc1 := 7) (lv1 := [.ref 0, .int a]) (st1 := [.int (I 49 3)]) (h1 := (124, I, J, R)) rfl ?_
  refine ev_br (b1 := true) rfl rfl (xcd_ne (x := (I 49 3)) (y := 0) (by rw [show ((0 : Int32)).toInt = 0 from by decide]; first | exact b1 | omega)) ?_
  refine ev_go 1 (pc1 := 13) (lv1 := [.ref 0, .int a]) (st1 := [.int a]) (h1 := (124, I, J, R)) rfl ?_
  refine ev_lkp (x := a) (t := 60) rfl rfl (fun p hp => by have hp' : p ∈ [((0 : Int), (27 : Int)), (1, 37)] := hp; simp only [List.mem_cons, List.not_mem_nil, or_false] at hp'; rcases hp' with rfl | rfl; exact b2.1; exact b2.2) rfl ?_
  refine ev_go 1 (pc1 := 61) (lv1 := [.ref 0, .int a]) (st1 := [.int (-1)]) (h1 := (124, I, J, R)) rfl ?_
  exact ev_ret rfl rfl
set_option maxRecDepth 20000 in
theorem bm_n {L : Nat} {xs : Nat → Int32} {d : Nat} {I : Nat → Nat → Int32} {J : Nat → Nat → Int64} {R : Nat → Nat → Nat} {a : Int32} (hG : aGd R) (b1 : (I 86 51).toInt = 0) : xEv L xs d 220 0 [.ref 86, .int a] [] (124, I, J, R) (some (.int (-1))) (124, I, J, R) := by
  refine ev_go 2 (pc1 := 4) (lv1 := [.ref 86, .int a]) (st1 := [.int (I 86 51)]) (h1 := (124, I, J, R)) rfl ?_
  refine ev_br (b1 := true) rfl rfl (xcd_eq (x := (I 86 51)) (y := 0) (by rw [show ((0 : Int32)).toInt = 0 from by decide]; first | exact b1 | omega)) ?_
  refine ev_go 1 (pc1 := 26) (lv1 := [.ref 86, .int a]) (st1 := [.int (-1)]) (h1 := (124, I, J, R)) rfl ?_
  exact ev_ret rfl rfl
set_option maxRecDepth 20000 in
theorem bm_x {L : Nat} {xs : Nat → Int32} {d : Nat} {I : Nat → Nat → Int32} {J : Nat → Nat → Int64} {R : Nat → Nat → Nat} {a : Int32} (hG : aGd R) (b1 : (I 86 51).toInt ≠ 0) (c1 : xEv L xs d 160 0 [.int a, .int 0, .int 1] [] (124, I, J, R) (some (.int 0)) (124, I, J, R)) : xEv L xs (d + 1) 220 0 [.ref 86, .int a] [] (124, I, J, R) (some (.int (-1))) (124, I, J, R) := by
  refine ev_go 2 (pc1 := 4) (lv1 := [.ref 86, .int a]) (st1 := [.int (I 86 51)]) (h1 := (124, I, J, R)) rfl ?_
  refine ev_br (b1 := false) rfl rfl (xcd_neq (x := (I 86 51)) (y := 0) (by rw [show ((0 : Int32)).toInt = 0 from by decide]; first | exact b1 | omega)) ?_
  refine ev_go 3 (pc1 := 10) (lv1 := [.ref 86, .int a]) (st1 := [.int 1, .int 0, .int a]) (h1 := (124, I, J, R)) rfl ?_
  refine ev_call (v1 := (some (.int 0))) (h1 := (124, I, J, R)) rfl rfl c1 ?_
  refine ev_go 2 (pc1 := 26) (lv1 := [.ref 86, .int a]) (st1 := [.int (-1)]) (h1 := (124, I, J, R)) rfl ?_
  exact ev_ret rfl rfl
set_option maxRecDepth 20000 in
theorem bm_y {L : Nat} {xs : Nat → Int32} {d : Nat} {I : Nat → Nat → Int32} {J : Nat → Nat → Int64} {R : Nat → Nat → Nat} {a : Int32} (hG : aGd R) (b1 : (I 86 51).toInt ≠ 0) (c1 : xEv L xs d 160 0 [.int a, .int 0, .int 1] [] (124, I, J, R) (some (.int 1)) (124, I, J, R)) (n1 : 0 ≤ a.toInt) (m1 : a.toInt < 2) : xEv L xs (d + 1) 220 0 [.ref 86, .int a] [] (124, I, J, R) (some (.int (I 117 a.toNatClampNeg))) (124, I, J, R) := by
  refine ev_go 2 (pc1 := 4) (lv1 := [.ref 86, .int a]) (st1 := [.int (I 86 51)]) (h1 := (124, I, J, R)) rfl ?_
  refine ev_br (b1 := false) rfl rfl (xcd_neq (x := (I 86 51)) (y := 0) (by rw [show ((0 : Int32)).toInt = 0 from by decide]; first | exact b1 | omega)) ?_
  refine ev_go 3 (pc1 := 10) (lv1 := [.ref 86, .int a]) (st1 := [.int 1, .int 0, .int a]) (h1 := (124, I, J, R)) rfl ?_
  refine ev_call (v1 := (some (.int 1))) (h1 := (124, I, J, R)) rfl rfl c1 ?_
  refine ev_go 2 (pc1 := 17) (lv1 := [.ref 86, .int a]) (st1 := [.ref 86]) (h1 := (124, I, J, R)) rfl ?_
  refine ev_gf (c := 86) (t := 117) (X := R 86 52) rfl rfl (fun _ => rfl) rfl (hG 86 52 117 rfl rfl) ?_
  refine ev_go 1 (pc1 := 21) (lv1 := [.ref 86, .int a]) (st1 := [.int a, .ref 117]) (h1 := (124, I, J, R)) rfl ?_
  refine ev_ild (n := 2) rfl rfl (fun _ => rfl) n1 m1 ?_
  refine ev_go 1 (pc1 := 26) (lv1 := [.ref 86, .int a]) (st1 := [.int (I 117 a.toNatClampNeg)]) (h1 := (124, I, J, R)) rfl ?_
  exact ev_ret rfl rfl
/-- what is believed, in both -/
def blS (I Ir : Nat → Nat → Int32) : Prop := (I 49 3 = 0 ∧ Ir 86 51 = 0) ∨ (I 49 3 = 1 ∧ Ir 86 51 = 1 ∧ I 52 0 = Ir 117 0 ∧ I 52 1 = Ir 117 1)
theorem blv {L : Nat} {xs : Nat → Int32} {d : Nat} {I : Nat → Nat → Int32} {J : Nat → Nat → Int64} {R : Nat → Nat → Nat} {d' : Nat} (hG : aGd R) (hB : blS I I) (a : Int32) : ∃ r : Int32, xEv L xs d 118 0 [.ref 0, .int a] [] (124, I, J, R) (some (.int r)) (124, I, J, R) ∧ xEv L xs (d' + 1) 220 0 [.ref 86, .int a] [] (124, I, J, R) (some (.int r)) (124, I, J, R) := by
  rcases hB with ⟨b1, b2⟩ | ⟨b1, b2, b3, b4⟩
  · exact ⟨-1, be_n hG (by rw [b1]; decide), bm_n hG (by rw [b2]; decide)⟩
  have k1 : (I 49 3).toInt ≠ 0 := by rw [b1]; decide
  have k2 : (I 86 51).toInt ≠ 0 := by rw [b2]; decide
  have i0 := in_ex (L := L) (xs := xs) (d := d') (I := I) (J := J) hG a 0 1
  rw [show (0 : Int32).toInt = 0 from by decide, show (1 : Int32).toInt = 1 from by decide] at i0
  rcases i0 with ⟨h, x⟩ | ⟨h, x⟩
  · have h2 : a = 0 ∨ a = 1 := by
      have h3 : a.toInt = 0 ∨ a.toInt = 1 := by omega
      rcases h3 with h3 | h3
      · exact Or.inl (Int32.toInt_inj.mp h3)
      · exact Or.inr (Int32.toInt_inj.mp h3)
    rcases h2 with rfl | rfl
    · refine ⟨_, be_0 hG k1 (by decide), ?_⟩
      rw [b3]
      exact bm_y hG k2 x (by decide) (by decide)
    · refine ⟨_, be_1 hG k1 (by decide), ?_⟩
      rw [b4]
      exact bm_y hG k2 x (by decide) (by decide)
  · exact ⟨-1, be_d hG k1 ⟨by omega, by omega⟩, bm_x hG k2 x⟩
set_option maxRecDepth 20000 in
theorem ft_y_3 {L : Nat} {xs : Nat → Int32} {d : Nat} {I : Nat → Nat → Int32} {J : Nat → Nat → Int64} {R : Nat → Nat → Nat} {t n : Int32} (hG : aGd R) (b1 : n.toInt < 0) : xEv L xs d 117 0 [.ref 49, .ref 3, .int t, .int n, xmk, xmk, xmk] [] (124, I, J, R) (some (.int 0)) (124, I, J, R) := by
  refine ev_go 1 (pc1 := 1) (lv1 := [.ref 49, .ref 3, .int t, .int n, xmk, xmk, xmk]) (st1 := [.int n]) (h1 := (124, I, J, R)) rfl ?_
  refine ev_br (b1 := true) rfl rfl (xcd_lt (x := n) (y := 0) (by rw [show ((0 : Int32)).toInt = 0 from by decide]; first | exact b1 | omega)) ?_
  refine ev_go 1 (pc1 := 10) (lv1 := [.ref 49, .ref 3, .int t, .int n, xmk, xmk, xmk]) (st1 := [.int 0]) (h1 := (124, I, J, R)) rfl ?_
  exact ev_ret rfl rfl
set_option maxRecDepth 20000 in
theorem ft_x_3 {L : Nat} {xs : Nat → Int32} {d : Nat} {I : Nat → Nat → Int32} {J : Nat → Nat → Int64} {R : Nat → Nat → Nat} {t n : Int32} (hG : aGd R) (b1 : n.toInt ≥ 0) (b2 : n.toInt ≥ 2) : xEv L xs d 117 0 [.ref 49, .ref 3, .int t, .int n, xmk, xmk, xmk] [] (124, I, J, R) (some (.int 0)) (124, I, J, R) := by
  refine ev_go 1 (pc1 := 1) (lv1 := [.ref 49, .ref 3, .int t, .int n, xmk, xmk, xmk]) (st1 := [.int n]) (h1 := (124, I, J, R)) rfl ?_
  refine ev_br (b1 := false) rfl rfl (xcd_nlt (x := n) (y := 0) (by rw [show ((0 : Int32)).toInt = 0 from by decide]; first | exact b1 | omega)) ?_
  refine ev_go 2 (pc1 := 6) (lv1 := [.ref 49, .ref 3, .int t, .int n, xmk, xmk, xmk]) (st1 := [.int 2, .int n]) (h1 := (124, I, J, R)) rfl ?_
  refine ev_br (b1 := false) rfl rfl (xcd_nlt (x := n) (y := 2) (by rw [show ((2 : Int32)).toInt = 2 from by decide]; first | exact b2 | omega)) ?_
  refine ev_go 1 (pc1 := 10) (lv1 := [.ref 49, .ref 3, .int t, .int n, xmk, xmk, xmk]) (st1 := [.int 0]) (h1 := (124, I, J, R)) rfl ?_
  exact ev_ret rfl rfl
set_option maxRecDepth 20000 in
theorem ft_n0_3 {L : Nat} {xs : Nat → Int32} {d : Nat} {I : Nat → Nat → Int32} {J : Nat → Nat → Int64} {R : Nat → Nat → Nat} {t r1 r2 : Int32} (hG : aGd R) (c1 : xEv L xs d 39 0 [.ref 20, .int t] [] (124, I, J, R) (some (.int r1)) (124, I, J, R)) (c2 : xEv L xs d 39 0 [.ref 21, .int t] [] (124, I, J, R) (some (.int r2)) (124, I, J, R)) (b1 : (I 50 0).toInt ≠ r1.toInt) (b2 : (I 50 0).toInt ≠ r2.toInt) : xEv L xs (d + 1) 117 0 [.ref 49, .ref 3, .int t, .int 0, xmk, xmk, xmk] [] (124, I, J, R) (some (.int 0)) (124, I, J, R) := by
  refine ev_go 6 (pc1 := 12) (lv1 := [.ref 49, .ref 3, .int t, .int 0, xmk, xmk, xmk]) (st1 := [.ref 3]) (h1 := (124, I, J, R)) rfl ?_
  refine ev_gf (c := 3) (t := 17) (X := R 3 13) rfl rfl (fun _ => rfl) rfl (hG 3 13 17 rfl rfl) ?_
  refine ev_gf (c := 17) (t := 20) (X := R 17 2) rfl rfl (fun _ => rfl) rfl (hG 17 2 20 rfl rfl) ?_
  refine ev_go 1 (pc1 := 19) (lv1 := [.ref 49, .ref 3, .int t, .int 0, xmk, xmk, xmk]) (st1 := [.int t, .ref 20]) (h1 := (124, I, J, R)) rfl ?_
  refine ev_call (v1 := (some (.int r1))) (h1 := (124, I, J, R)) rfl rfl c1 ?_
  refine ev_go 2 (pc1 := 25) (lv1 := [.ref 49, .ref 3, .int t, .int 0, .int r1, xmk, xmk]) (st1 := [.ref 3]) (h1 := (124, I, J, R)) rfl ?_
  refine ev_gf (c := 3) (t := 17) (X := R 3 13) rfl rfl (fun _ => rfl) rfl (hG 3 13 17 rfl rfl) ?_
  refine ev_gf (c := 17) (t := 21) (X := R 17 3) rfl rfl (fun _ => rfl) rfl (hG 17 3 21 rfl rfl) ?_
  refine ev_go 1 (pc1 := 32) (lv1 := [.ref 49, .ref 3, .int t, .int 0, .int r1, xmk, xmk]) (st1 := [.int t, .ref 21]) (h1 := (124, I, J, R)) rfl ?_
  refine ev_call (v1 := (some (.int r2))) (h1 := (124, I, J, R)) rfl rfl c2 ?_
  refine ev_go 2 (pc1 := 38) (lv1 := [.ref 49, .ref 3, .int t, .int 0, .int r1, .int r2, xmk]) (st1 := [.ref 49]) (h1 := (124, I, J, R)) rfl ?_
  refine ev_gf (c := 49) (t := 50) (X := R 49 0) rfl rfl (fun _ => rfl) rfl (hG 49 0 50 rfl rfl) ?_
  refine ev_go 3 (pc1 := 45) (lv1 := [.ref 49, .ref 3, .int t, .int 0, .int r1, .int r2, xmk]) (st1 := [.int r1, .int (I 50 0)]) (h1 := (124, I, J, R)) rfl ?_
  refine ev_br (b1 := false) rfl rfl (xcd_neq (x := (I 50 0)) (y := r1) (by first | exact b1 | omega)) ?_
  refine ev_go 1 (pc1 := 49) (lv1 := [.ref 49, .ref 3, .int t, .int 0, .int r1, .int r2, xmk]) (st1 := [.ref 49]) (h1 := (124, I, J, R)) rfl ?_
  refine ev_gf (c := 49) (t := 50) (X := R 49 0) rfl rfl (fun _ => rfl) rfl (hG 49 0 50 rfl rfl) ?_
  refine ev_go 3 (pc1 := 56) (lv1 := [.ref 49, .ref 3, .int t, .int 0, .int r1, .int r2, xmk]) (st1 := [.int r2, .int (I 50 0)]) (h1 := (124, I, J, R)) rfl ?_
  refine ev_br (b1 := false) rfl rfl (xcd_neq (x := (I 50 0)) (y := r2) (by first | exact b2 | omega)) ?_
  refine ev_go 1 (pc1 := 60) (lv1 := [.ref 49, .ref 3, .int t, .int 0, .int r1, .int r2, xmk]) (st1 := [.int 0]) (h1 := (124, I, J, R)) rfl ?_
  exact ev_ret rfl rfl
set_option maxRecDepth 20000 in
theorem ft_a0_3 {L : Nat} {xs : Nat → Int32} {d : Nat} {I : Nat → Nat → Int32} {J : Nat → Nat → Int64} {R : Nat → Nat → Nat} {t r1 r2 : Int32} (hG : aGd R) (c1 : xEv L xs d 39 0 [.ref 20, .int t] [] (124, I, J, R) (some (.int r1)) (124, I, J, R)) (c2 : xEv L xs d 39 0 [.ref 21, .int t] [] (124, I, J, R) (some (.int r2)) (124, I, J, R)) (b1 : (I 50 0).toInt = r1.toInt) (b2 : (I 50 0).toInt = r1.toInt) : xEv L xs (d + 1) 117 0 [.ref 49, .ref 3, .int t, .int 0, xmk, xmk, xmk] [] (124, I, J, R) (some (.int 1)) (124, (uI (uI (uI I 50 0 r2) 51 0 ((I 51 0) ||| (1 <<< (r2 &&& 31)))) 51 1 ((I 51 1) &&& ((1 <<< (r2 &&& 31)) ^^^ (-1)))), J, R) := by
  refine ev_go 6 (pc1 := 12) (lv1 := [.ref 49, .ref 3, .int t, .int 0, xmk, xmk, xmk]) (st1 := [.ref 3]) (h1 := (124, I, J, R)) rfl ?_
  refine ev_gf (c := 3) (t := 17) (X := R 3 13) rfl rfl (fun _ => rfl) rfl (hG 3 13 17 rfl rfl) ?_
  refine ev_gf (c := 17) (t := 20) (X := R 17 2) rfl rfl (fun _ => rfl) rfl (hG 17 2 20 rfl rfl) ?_
  refine ev_go 1 (pc1 := 19) (lv1 := [.ref 49, .ref 3, .int t, .int 0, xmk, xmk, xmk]) (st1 := [.int t, .ref 20]) (h1 := (124, I, J, R)) rfl ?_
  refine ev_call (v1 := (some (.int r1))) (h1 := (124, I, J, R)) rfl rfl c1 ?_
  refine ev_go 2 (pc1 := 25) (lv1 := [.ref 49, .ref 3, .int t, .int 0, .int r1, xmk, xmk]) (st1 := [.ref 3]) (h1 := (124, I, J, R)) rfl ?_
  refine ev_gf (c := 3) (t := 17) (X := R 3 13) rfl rfl (fun _ => rfl) rfl (hG 3 13 17 rfl rfl) ?_
  refine ev_gf (c := 17) (t := 21) (X := R 17 3) rfl rfl (fun _ => rfl) rfl (hG 17 3 21 rfl rfl) ?_
  refine ev_go 1 (pc1 := 32) (lv1 := [.ref 49, .ref 3, .int t, .int 0, .int r1, xmk, xmk]) (st1 := [.int t, .ref 21]) (h1 := (124, I, J, R)) rfl ?_
  refine ev_call (v1 := (some (.int r2))) (h1 := (124, I, J, R)) rfl rfl c2 ?_
  refine ev_go 2 (pc1 := 38) (lv1 := [.ref 49, .ref 3, .int t, .int 0, .int r1, .int r2, xmk]) (st1 := [.ref 49]) (h1 := (124, I, J, R)) rfl ?_
  refine ev_gf (c := 49) (t := 50) (X := R 49 0) rfl rfl (fun _ => rfl) rfl (hG 49 0 50 rfl rfl) ?_
  refine ev_go 3 (pc1 := 45) (lv1 := [.ref 49, .ref 3, .int t, .int 0, .int r1, .int r2, xmk]) (st1 := [.int r1, .int (I 50 0)]) (h1 := (124, I, J, R)) rfl ?_
  refine ev_br (b1 := true) rfl rfl (xcd_eq (x := (I 50 0)) (y := r1) (by first | exact b1 | omega)) ?_
  refine ev_go 1 (pc1 := 62) (lv1 := [.ref 49, .ref 3, .int t, .int 0, .int r1, .int r2, xmk]) (st1 := [.ref 49]) (h1 := (124, I, J, R)) rfl ?_
  refine ev_gf (c := 49) (t := 50) (X := R 49 0) rfl rfl (fun _ => rfl) rfl (hG 49 0 50 rfl rfl) ?_
  refine ev_go 3 (pc1 := 69) (lv1 := [.ref 49, .ref 3, .int t, .int 0, .int r1, .int r2, xmk]) (st1 := [.int r1, .int (I 50 0)]) (h1 := (124, I, J, R)) rfl ?_
  refine ev_br (b1 := false) rfl rfl (xcd_nne (x := (I 50 0)) (y := r1) (by first | exact b2 | omega)) ?_
  refine ev_go 4 (pc1 := 82) (lv1 := [.ref 49, .ref 3, .int t, .int 0, .int r1, .int r2, .int r2]) (st1 := [.ref 49]) (h1 := (124, I, J, R)) rfl ?_
  refine ev_gf (c := 49) (t := 50) (X := R 49 0) rfl rfl (fun _ => rfl) rfl (hG 49 0 50 rfl rfl) ?_
  refine ev_go 4 (pc1 := 90) (lv1 := [.ref 49, .ref 3, .int t, .int 0, .int r1, .int r2, .int r2]) (st1 := [.ref 49]) (h1 := (124, (uI I 50 0 r2), J, R)) rfl ?_
  refine ev_gf (c := 49) (t := 51) (X := R 49 1) rfl rfl (fun _ => rfl) rfl (hG 49 1 51 rfl rfl) ?_
  refine ev_go 5 (pc1 := 99) (lv1 := [.ref 49, .ref 3, .int t, .int 0, .int r1, .int r2, .int r2]) (st1 := [.int r2, .int 1, .int (I 51 0), .int 0, .ref 51]) (h1 := (124, (uI I 50 0 r2), J, R)) rfl ?_
  refine ev_go 4 (pc1 := 103) (lv1 := [.ref 49, .ref 3, .int t, .int 0, .int r1, .int r2, .int r2]) (st1 := [.ref 49]) (h1 := (124, (uI (uI I 50 0 r2) 51 0 ((I 51 0) ||| (1 <<< (r2 &&& 31)))), J, R)) rfl ?_
  refine ev_gf (c := 49) (t := 51) (X := R 49 1) rfl rfl (fun _ => rfl) rfl (hG 49 1 51 rfl rfl) ?_
  refine ev_go 7 (pc1 := 114) (lv1 := [.ref 49, .ref 3, .int t, .int 0, .int r1, .int r2, .int r2]) (st1 := [.int r2, .int 1, .int (I 51 1), .int 1, .ref 51]) (h1 := (124, (uI (uI I 50 0 r2) 51 0 ((I 51 0) ||| (1 <<< (r2 &&& 31)))), J, R)) rfl ?_
  refine ev_go 6 (pc1 := 120) (lv1 := [.ref 49, .ref 3, .int t, .int 0, .int r1, .int r2, .int r2]) (st1 := [.int 1]) (h1 := (124, (uI (uI (uI I 50 0 r2) 51 0 ((I 51 0) ||| (1 <<< (r2 &&& 31)))) 51 1 ((I 51 1) &&& ((1 <<< (r2 &&& 31)) ^^^ (-1)))), J, R)) rfl ?_
  exact ev_ret rfl rfl
set_option maxRecDepth 20000 in
theorem ft_b0_3 {L : Nat} {xs : Nat → Int32} {d : Nat} {I : Nat → Nat → Int32} {J : Nat → Nat → Int64} {R : Nat → Nat → Nat} {t r1 r2 : Int32} (hG : aGd R) (c1 : xEv L xs d 39 0 [.ref 20, .int t] [] (124, I, J, R) (some (.int r1)) (124, I, J, R)) (c2 : xEv L xs d 39 0 [.ref 21, .int t] [] (124, I, J, R) (some (.int r2)) (124, I, J, R)) (b1 : (I 50 0).toInt ≠ r1.toInt) (b2 : (I 50 0).toInt = r2.toInt) (b3 : (I 50 0).toInt ≠ r1.toInt) : xEv L xs (d + 1) 117 0 [.ref 49, .ref 3, .int t, .int 0, xmk, xmk, xmk] [] (124, I, J, R) (some (.int 1)) (124, (uI (uI (uI I 50 0 r1) 51 0 ((I 51 0) ||| (1 <<< (r1 &&& 31)))) 51 1 ((I 51 1) &&& ((1 <<< (r1 &&& 31)) ^^^ (-1)))), J, R) := by
  refine ev_go 6 (pc1 := 12) (lv1 := [.ref 49, .ref 3, .int t, .int 0, xmk, xmk, xmk]) (st1 := [.ref 3]) (h1 := (124, I, J, R)) rfl ?_
  refine ev_gf (c := 3) (t := 17) (X := R 3 13) rfl rfl (fun _ => rfl) rfl (hG 3 13 17 rfl rfl) ?_
  refine ev_gf (c := 17) (t := 20) (X := R 17 2) rfl rfl (fun _ => rfl) rfl (hG 17 2 20 rfl rfl) ?_
  refine ev_go 1 (pc1 := 19) (lv1 := [.ref 49, .ref 3, .int t, .int 0, xmk, xmk, xmk]) (st1 := [.int t, .ref 20]) (h1 := (124, I, J, R)) rfl ?_
  refine ev_call (v1 := (some (.int r1))) (h1 := (124, I, J, R)) rfl rfl c1 ?_
  refine ev_go 2 (pc1 := 25) (lv1 := [.ref 49, .ref 3, .int t, .int 0, .int r1, xmk, xmk]) (st1 := [.ref 3]) (h1 := (124, I, J, R)) rfl ?_
  refine ev_gf (c := 3) (t := 17) (X := R 3 13) rfl rfl (fun _ => rfl) rfl (hG 3 13 17 rfl rfl) ?_
  refine ev_gf (c := 17) (t := 21) (X := R 17 3) rfl rfl (fun _ => rfl) rfl (hG 17 3 21 rfl rfl) ?_
  refine ev_go 1 (pc1 := 32) (lv1 := [.ref 49, .ref 3, .int t, .int 0, .int r1, xmk, xmk]) (st1 := [.int t, .ref 21]) (h1 := (124, I, J, R)) rfl ?_
  refine ev_call (v1 := (some (.int r2))) (h1 := (124, I, J, R)) rfl rfl c2 ?_
  refine ev_go 2 (pc1 := 38) (lv1 := [.ref 49, .ref 3, .int t, .int 0, .int r1, .int r2, xmk]) (st1 := [.ref 49]) (h1 := (124, I, J, R)) rfl ?_
  refine ev_gf (c := 49) (t := 50) (X := R 49 0) rfl rfl (fun _ => rfl) rfl (hG 49 0 50 rfl rfl) ?_
  refine ev_go 3 (pc1 := 45) (lv1 := [.ref 49, .ref 3, .int t, .int 0, .int r1, .int r2, xmk]) (st1 := [.int r1, .int (I 50 0)]) (h1 := (124, I, J, R)) rfl ?_
  refine ev_br (b1 := false) rfl rfl (xcd_neq (x := (I 50 0)) (y := r1) (by first | exact b1 | omega)) ?_
  refine ev_go 1 (pc1 := 49) (lv1 := [.ref 49, .ref 3, .int t, .int 0, .int r1, .int r2, xmk]) (st1 := [.ref 49]) (h1 := (124, I, J, R)) rfl ?_
  refine ev_gf (c := 49) (t := 50) (X := R 49 0) rfl rfl (fun _ => rfl) rfl (hG 49 0 50 rfl rfl) ?_
  refine ev_go 3 (pc1 := 56) (lv1 := [.ref 49, .ref 3, .int t, .int 0, .int r1, .int r2, xmk]) (st1 := [.int r2, .int (I 50 0)]) (h1 := (124, I, J, R)) rfl ?_
  refine ev_br (b1 := true) rfl rfl (xcd_eq (x := (I 50 0)) (y := r2) (by first | exact b2 | omega)) ?_
  refine ev_go 1 (pc1 := 62) (lv1 := [.ref 49, .ref 3, .int t, .int 0, .int r1, .int r2, xmk]) (st1 := [.ref 49]) (h1 := (124, I, J, R)) rfl ?_
  refine ev_gf (c := 49) (t := 50) (X := R 49 0) rfl rfl (fun _ => rfl) rfl (hG 49 0 50 rfl rfl) ?_
  refine ev_go 3 (pc1 := 69) (lv1 := [.ref 49, .ref 3, .int t, .int 0, .int r1, .int r2, xmk]) (st1 := [.int r1, .int (I 50 0)]) (h1 := (124, I, J, R)) rfl ?_
  refine ev_br (b1 := true) rfl rfl (xcd_ne (x := (I 50 0)) (y := r1) (by first | exact b3 | omega)) ?_
  refine ev_go 3 (pc1 := 82) (lv1 := [.ref 49, .ref 3, .int t, .int 0, .int r1, .int r2, .int r1]) (st1 := [.ref 49]) (h1 := (124, I, J, R)) rfl ?_
  refine ev_gf (c := 49) (t := 50) (X := R 49 0) rfl rfl (fun _ => rfl) rfl (hG 49 0 50 rfl rfl) ?_
  refine ev_go 4 (pc1 := 90) (lv1 := [.ref 49, .ref 3, .int t, .int 0, .int r1, .int r2, .int r1]) (st1 := [.ref 49]) (h1 := (124, (uI I 50 0 r1), J, R)) rfl ?_
  refine ev_gf (c := 49) (t := 51) (X := R 49 1) rfl rfl (fun _ => rfl) rfl (hG 49 1 51 rfl rfl) ?_
  refine ev_go 5 (pc1 := 99) (lv1 := [.ref 49, .ref 3, .int t, .int 0, .int r1, .int r2, .int r1]) (st1 := [.int r1, .int 1, .int (I 51 0), .int 0, .ref 51]) (h1 := (124, (uI I 50 0 r1), J, R)) rfl ?_
  refine ev_go 4 (pc1 := 103) (lv1 := [.ref 49, .ref 3, .int t, .int 0, .int r1, .int r2, .int r1]) (st1 := [.ref 49]) (h1 := (124, (uI (uI I 50 0 r1) 51 0 ((I 51 0) ||| (1 <<< (r1 &&& 31)))), J, R)) rfl ?_
  refine ev_gf (c := 49) (t := 51) (X := R 49 1) rfl rfl (fun _ => rfl) rfl (hG 49 1 51 rfl rfl) ?_
  refine ev_go 7 (pc1 := 114) (lv1 := [.ref 49, .ref 3, .int t, .int 0, .int r1, .int r2, .int r1]) (st1 := [.int r1, .int 1, .int (I 51 1), .int 1, .ref 51]) (h1 := (124, (uI (uI I 50 0 r1) 51 0 ((I 51 0) ||| (1 <<< (r1 &&& 31)))), J, R)) rfl ?_
  refine ev_go 6 (pc1 := 120) (lv1 := [.ref 49, .ref 3, .int t, .int 0, .int r1, .int r2, .int r1]) (st1 := [.int 1]) (h1 := (124, (uI (uI (uI I 50 0 r1) 51 0 ((I 51 0) ||| (1 <<< (r1 &&& 31)))) 51 1 ((I 51 1) &&& ((1 <<< (r1 &&& 31)) ^^^ (-1)))), J, R)) rfl ?_
  exact ev_ret rfl rfl
set_option maxRecDepth 20000 in
theorem ft_n1_3 {L : Nat} {xs : Nat → Int32} {d : Nat} {I : Nat → Nat → Int32} {J : Nat → Nat → Int64} {R : Nat → Nat → Nat} {t r1 r2 : Int32} (hG : aGd R) (c1 : xEv L xs d 39 0 [.ref 20, .int t] [] (124, I, J, R) (some (.int r1)) (124, I, J, R)) (c2 : xEv L xs d 39 0 [.ref 21, .int t] [] (124, I, J, R) (some (.int r2)) (124, I, J, R)) (b1 : (I 50 1).toInt ≠ r1.toInt) (b2 : (I 50 1).toInt ≠ r2.toInt) : xEv L xs (d + 1) 117 0 [.ref 49, .ref 3, .int t, .int 1, xmk, xmk, xmk] [] (124, I, J, R) (some (.int 0)) (124, I, J, R) := by
  refine ev_go 6 (pc1 := 12) (lv1 := [.ref 49, .ref 3, .int t, .int 1, xmk, xmk, xmk]) (st1 := [.ref 3]) (h1 := (124, I, J, R)) rfl ?_
  refine ev_gf (c := 3) (t := 17) (X := R 3 13) rfl rfl (fun _ => rfl) rfl (hG 3 13 17 rfl rfl) ?_
  refine ev_gf (c := 17) (t := 20) (X := R 17 2) rfl rfl (fun _ => rfl) rfl (hG 17 2 20 rfl rfl) ?_
  refine ev_go 1 (pc1 := 19) (lv1 := [.ref 49, .ref 3, .int t, .int 1, xmk, xmk, xmk]) (st1 := [.int t, .ref 20]) (h1 := (124, I, J, R)) rfl ?_
  refine ev_call (v1 := (some (.int r1))) (h1 := (124, I, J, R)) rfl rfl c1 ?_
  refine ev_go 2 (pc1 := 25) (lv1 := [.ref 49, .ref 3, .int t, .int 1, .int r1, xmk, xmk]) (st1 := [.ref 3]) (h1 := (124, I, J, R)) rfl ?_
  refine ev_gf (c := 3) (t := 17) (X := R 3 13) rfl rfl (fun _ => rfl) rfl (hG 3 13 17 rfl rfl) ?_
  refine ev_gf (c := 17) (t := 21) (X := R 17 3) rfl rfl (fun _ => rfl) rfl (hG 17 3 21 rfl rfl) ?_
  refine ev_go 1 (pc1 := 32) (lv1 := [.ref 49, .ref 3, .int t, .int 1, .int r1, xmk, xmk]) (st1 := [.int t, .ref 21]) (h1 := (124, I, J, R)) rfl ?_
  refine ev_call (v1 := (some (.int r2))) (h1 := (124, I, J, R)) rfl rfl c2 ?_
  refine ev_go 2 (pc1 := 38) (lv1 := [.ref 49, .ref 3, .int t, .int 1, .int r1, .int r2, xmk]) (st1 := [.ref 49]) (h1 := (124, I, J, R)) rfl ?_
  refine ev_gf (c := 49) (t := 50) (X := R 49 0) rfl rfl (fun _ => rfl) rfl (hG 49 0 50 rfl rfl) ?_
  refine ev_go 3 (pc1 := 45) (lv1 := [.ref 49, .ref 3, .int t, .int 1, .int r1, .int r2, xmk]) (st1 := [.int r1, .int (I 50 1)]) (h1 := (124, I, J, R)) rfl ?_
  refine ev_br (b1 := false) rfl rfl (xcd_neq (x := (I 50 1)) (y := r1) (by first | exact b1 | omega)) ?_
  refine ev_go 1 (pc1 := 49) (lv1 := [.ref 49, .ref 3, .int t, .int 1, .int r1, .int r2, xmk]) (st1 := [.ref 49]) (h1 := (124, I, J, R)) rfl ?_
  refine ev_gf (c := 49) (t := 50) (X := R 49 0) rfl rfl (fun _ => rfl) rfl (hG 49 0 50 rfl rfl) ?_
  refine ev_go 3 (pc1 := 56) (lv1 := [.ref 49, .ref 3, .int t, .int 1, .int r1, .int r2, xmk]) (st1 := [.int r2, .int (I 50 1)]) (h1 := (124, I, J, R)) rfl ?_
  refine ev_br (b1 := false) rfl rfl (xcd_neq (x := (I 50 1)) (y := r2) (by first | exact b2 | omega)) ?_
  refine ev_go 1 (pc1 := 60) (lv1 := [.ref 49, .ref 3, .int t, .int 1, .int r1, .int r2, xmk]) (st1 := [.int 0]) (h1 := (124, I, J, R)) rfl ?_
  exact ev_ret rfl rfl
set_option maxRecDepth 20000 in
theorem ft_a1_3 {L : Nat} {xs : Nat → Int32} {d : Nat} {I : Nat → Nat → Int32} {J : Nat → Nat → Int64} {R : Nat → Nat → Nat} {t r1 r2 : Int32} (hG : aGd R) (c1 : xEv L xs d 39 0 [.ref 20, .int t] [] (124, I, J, R) (some (.int r1)) (124, I, J, R)) (c2 : xEv L xs d 39 0 [.ref 21, .int t] [] (124, I, J, R) (some (.int r2)) (124, I, J, R)) (b1 : (I 50 1).toInt = r1.toInt) (b2 : (I 50 1).toInt = r1.toInt) : xEv L xs (d + 1) 117 0 [.ref 49, .ref 3, .int t, .int 1, xmk, xmk, xmk] [] (124, I, J, R) (some (.int 1)) (124, (uI (uI (uI I 50 1 r2) 51 1 ((I 51 1) ||| (1 <<< (r2 &&& 31)))) 51 0 ((I 51 0) &&& ((1 <<< (r2 &&& 31)) ^^^ (-1)))), J, R) := by
  refine ev_go 6 (pc1 := 12) (lv1 := [.ref 49, .ref 3, .int t, .int 1, xmk, xmk, xmk]) (st1 := [.ref 3]) (h1 := (124, I, J, R)) rfl ?_
  refine ev_gf (c := 3) (t := 17) (X := R 3 13) rfl rfl (fun _ => rfl) rfl (hG 3 13 17 rfl rfl) ?_
  refine ev_gf (c := 17) (t := 20) (X := R 17 2) rfl rfl (fun _ => rfl) rfl (hG 17 2 20 rfl rfl) ?_
  refine ev_go 1 (pc1 := 19) (lv1 := [.ref 49, .ref 3, .int t, .int 1, xmk, xmk, xmk]) (st1 := [.int t, .ref 20]) (h1 := (124, I, J, R)) rfl ?_
  refine ev_call (v1 := (some (.int r1))) (h1 := (124, I, J, R)) rfl rfl c1 ?_
  refine ev_go 2 (pc1 := 25) (lv1 := [.ref 49, .ref 3, .int t, .int 1, .int r1, xmk, xmk]) (st1 := [.ref 3]) (h1 := (124, I, J, R)) rfl ?_
  refine ev_gf (c := 3) (t := 17) (X := R 3 13) rfl rfl (fun _ => rfl) rfl (hG 3 13 17 rfl rfl) ?_
  refine ev_gf (c := 17) (t := 21) (X := R 17 3) rfl rfl (fun _ => rfl) rfl (hG 17 3 21 rfl rfl) ?_
  refine ev_go 1 (pc1 := 32) (lv1 := [.ref 49, .ref 3, .int t, .int 1, .int r1, xmk, xmk]) (st1 := [.int t, .ref 21]) (h1 := (124, I, J, R)) rfl ?_
  refine ev_call (v1 := (some (.int r2))) (h1 := (124, I, J, R)) rfl rfl c2 ?_
  refine ev_go 2 (pc1 := 38) (lv1 := [.ref 49, .ref 3, .int t, .int 1, .int r1, .int r2, xmk]) (st1 := [.ref 49]) (h1 := (124, I, J, R)) rfl ?_
  refine ev_gf (c := 49) (t := 50) (X := R 49 0) rfl rfl (fun _ => rfl) rfl (hG 49 0 50 rfl rfl) ?_
  refine ev_go 3 (pc1 := 45) (lv1 := [.ref 49, .ref 3, .int t, .int 1, .int r1, .int r2, xmk]) (st1 := [.int r1, .int (I 50 1)]) (h1 := (124, I, J, R)) rfl ?_
  refine ev_br (b1 := true) rfl rfl (xcd_eq (x := (I 50 1)) (y := r1) (by first | exact b1 | omega)) ?_
  refine ev_go 1 (pc1 := 62) (lv1 := [.ref 49, .ref 3, .int t, .int 1, .int r1, .int r2, xmk]) (st1 := [.ref 49]) (h1 := (124, I, J, R)) rfl ?_
  refine ev_gf (c := 49) (t := 50) (X := R 49 0) rfl rfl (fun _ => rfl) rfl (hG 49 0 50 rfl rfl) ?_
  refine ev_go 3 (pc1 := 69) (lv1 := [.ref 49, .ref 3, .int t, .int 1, .int r1, .int r2, xmk]) (st1 := [.int r1, .int (I 50 1)]) (h1 := (124, I, J, R)) rfl ?_
  refine ev_br (b1 := false) rfl rfl (xcd_nne (x := (I 50 1)) (y := r1) (by first | exact b2 | omega)) ?_
  refine ev_go 4 (pc1 := 82) (lv1 := [.ref 49, .ref 3, .int t, .int 1, .int r1, .int r2, .int r2]) (st1 := [.ref 49]) (h1 := (124, I, J, R)) rfl ?_
  refine ev_gf (c := 49) (t := 50) (X := R 49 0) rfl rfl (fun _ => rfl) rfl (hG 49 0 50 rfl rfl) ?_
  refine ev_go 4 (pc1 := 90) (lv1 := [.ref 49, .ref 3, .int t, .int 1, .int r1, .int r2, .int r2]) (st1 := [.ref 49]) (h1 := (124, (uI I 50 1 r2), J, R)) rfl ?_
  refine ev_gf (c := 49) (t := 51) (X := R 49 1) rfl rfl (fun _ => rfl) rfl (hG 49 1 51 rfl rfl) ?_
  refine ev_go 5 (pc1 := 99) (lv1 := [.ref 49, .ref 3, .int t, .int 1, .int r1, .int r2, .int r2]) (st1 := [.int r2, .int 1, .int (I 51 1), .int 1, .ref 51]) (h1 := (124, (uI I 50 1 r2), J, R)) rfl ?_
  refine ev_go 4 (pc1 := 103) (lv1 := [.ref 49, .ref 3, .int t, .int 1, .int r1, .int r2, .int r2]) (st1 := [.ref 49]) (h1 := (124, (uI (uI I 50 1 r2) 51 1 ((I 51 1) ||| (1 <<< (r2 &&& 31)))), J, R)) rfl ?_
  refine ev_gf (c := 49) (t := 51) (X := R 49 1) rfl rfl (fun _ => rfl) rfl (hG 49 1 51 rfl rfl) ?_
  refine ev_go 7 (pc1 := 114) (lv1 := [.ref 49, .ref 3, .int t, .int 1, .int r1, .int r2, .int r2]) (st1 := [.int r2, .int 1, .int (I 51 0), .int 0, .ref 51]) (h1 := (124, (uI (uI I 50 1 r2) 51 1 ((I 51 1) ||| (1 <<< (r2 &&& 31)))), J, R)) rfl ?_
  refine ev_go 6 (pc1 := 120) (lv1 := [.ref 49, .ref 3, .int t, .int 1, .int r1, .int r2, .int r2]) (st1 := [.int 1]) (h1 := (124, (uI (uI (uI I 50 1 r2) 51 1 ((I 51 1) ||| (1 <<< (r2 &&& 31)))) 51 0 ((I 51 0) &&& ((1 <<< (r2 &&& 31)) ^^^ (-1)))), J, R)) rfl ?_
  exact ev_ret rfl rfl
set_option maxRecDepth 20000 in
theorem ft_b1_3 {L : Nat} {xs : Nat → Int32} {d : Nat} {I : Nat → Nat → Int32} {J : Nat → Nat → Int64} {R : Nat → Nat → Nat} {t r1 r2 : Int32} (hG : aGd R) (c1 : xEv L xs d 39 0 [.ref 20, .int t] [] (124, I, J, R) (some (.int r1)) (124, I, J, R)) (c2 : xEv L xs d 39 0 [.ref 21, .int t] [] (124, I, J, R) (some (.int r2)) (124, I, J, R)) (b1 : (I 50 1).toInt ≠ r1.toInt) (b2 : (I 50 1).toInt = r2.toInt) (b3 : (I 50 1).toInt ≠ r1.toInt) : xEv L xs (d + 1) 117 0 [.ref 49, .ref 3, .int t, .int 1, xmk, xmk, xmk] [] (124, I, J, R) (some (.int 1)) (124, (uI (uI (uI I 50 1 r1) 51 1 ((I 51 1) ||| (1 <<< (r1 &&& 31)))) 51 0 ((I 51 0) &&& ((1 <<< (r1 &&& 31)) ^^^ (-1)))), J, R) := by
  refine ev_go 6 (pc1 := 12) (lv1 := [.ref 49, .ref 3, .int t, .int 1, xmk, xmk, xmk]) (st1 := [.ref 3]) (h1 := (124, I, J, R)) rfl ?_
  refine ev_gf (c := 3) (t := 17) (X := R 3 13) rfl rfl (fun _ => rfl) rfl (hG 3 13 17 rfl rfl) ?_
  refine ev_gf (c := 17) (t := 20) (X := R 17 2) rfl rfl (fun _ => rfl) rfl (hG 17 2 20 rfl rfl) ?_
  refine ev_go 1 (pc1 := 19) (lv1 := [.ref 49, .ref 3, .int t, .int 1, xmk, xmk, xmk]) (st1 := [.int t, .ref 20]) (h1 := (124, I, J, R)) rfl ?_
  refine ev_call (v1 := (some (.int r1))) (h1 := (124, I, J, R)) rfl rfl c1 ?_
  refine ev_go 2 (pc1 := 25) (lv1 := [.ref 49, .ref 3, .int t, .int 1, .int r1, xmk, xmk]) (st1 := [.ref 3]) (h1 := (124, I, J, R)) rfl ?_
  refine ev_gf (c := 3) (t := 17) (X := R 3 13) rfl rfl (fun _ => rfl) rfl (hG 3 13 17 rfl rfl) ?_
  refine ev_gf (c := 17) (t := 21) (X := R 17 3) rfl rfl (fun _ => rfl) rfl (hG 17 3 21 rfl rfl) ?_
  refine ev_go 1 (pc1 := 32) (lv1 := [.ref 49, .ref 3, .int t, .int 1, .int r1, xmk, xmk]) (st1 := [.int t, .ref 21]) (h1 := (124, I, J, R)) rfl ?_
  refine ev_call (v1 := (some (.int r2))) (h1 := (124, I, J, R)) rfl rfl c2 ?_
  refine ev_go 2 (pc1 := 38) (lv1 := [.ref 49, .ref 3, .int t, .int 1, .int r1, .int r2, xmk]) (st1 := [.ref 49]) (h1 := (124, I, J, R)) rfl ?_
  refine ev_gf (c := 49) (t := 50) (X := R 49 0) rfl rfl (fun _ => rfl) rfl (hG 49 0 50 rfl rfl) ?_
  refine ev_go 3 (pc1 := 45) (lv1 := [.ref 49, .ref 3, .int t, .int 1, .int r1, .int r2, xmk]) (st1 := [.int r1, .int (I 50 1)]) (h1 := (124, I, J, R)) rfl ?_
  refine ev_br (b1 := false) rfl rfl (xcd_neq (x := (I 50 1)) (y := r1) (by first | exact b1 | omega)) ?_
  refine ev_go 1 (pc1 := 49) (lv1 := [.ref 49, .ref 3, .int t, .int 1, .int r1, .int r2, xmk]) (st1 := [.ref 49]) (h1 := (124, I, J, R)) rfl ?_
  refine ev_gf (c := 49) (t := 50) (X := R 49 0) rfl rfl (fun _ => rfl) rfl (hG 49 0 50 rfl rfl) ?_
  refine ev_go 3 (pc1 := 56) (lv1 := [.ref 49, .ref 3, .int t, .int 1, .int r1, .int r2, xmk]) (st1 := [.int r2, .int (I 50 1)]) (h1 := (124, I, J, R)) rfl ?_
  refine ev_br (b1 := true) rfl rfl (xcd_eq (x := (I 50 1)) (y := r2) (by first | exact b2 | omega)) ?_
  refine ev_go 1 (pc1 := 62) (lv1 := [.ref 49, .ref 3, .int t, .int 1, .int r1, .int r2, xmk]) (st1 := [.ref 49]) (h1 := (124, I, J, R)) rfl ?_
  refine ev_gf (c := 49) (t := 50) (X := R 49 0) rfl rfl (fun _ => rfl) rfl (hG 49 0 50 rfl rfl) ?_
  refine ev_go 3 (pc1 := 69) (lv1 := [.ref 49, .ref 3, .int t, .int 1, .int r1, .int r2, xmk]) (st1 := [.int r1, .int (I 50 1)]) (h1 := (124, I, J, R)) rfl ?_
  refine ev_br (b1 := true) rfl rfl (xcd_ne (x := (I 50 1)) (y := r1) (by first | exact b3 | omega)) ?_
  refine ev_go 3 (pc1 := 82) (lv1 := [.ref 49, .ref 3, .int t, .int 1, .int r1, .int r2, .int r1]) (st1 := [.ref 49]) (h1 := (124, I, J, R)) rfl ?_
  refine ev_gf (c := 49) (t := 50) (X := R 49 0) rfl rfl (fun _ => rfl) rfl (hG 49 0 50 rfl rfl) ?_
  refine ev_go 4 (pc1 := 90) (lv1 := [.ref 49, .ref 3, .int t, .int 1, .int r1, .int r2, .int r1]) (st1 := [.ref 49]) (h1 := (124, (uI I 50 1 r1), J, R)) rfl ?_
  refine ev_gf (c := 49) (t := 51) (X := R 49 1) rfl rfl (fun _ => rfl) rfl (hG 49 1 51 rfl rfl) ?_
  refine ev_go 5 (pc1 := 99) (lv1 := [.ref 49, .ref 3, .int t, .int 1, .int r1, .int r2, .int r1]) (st1 := [.int r1, .int 1, .int (I 51 1), .int 1, .ref 51]) (h1 := (124, (uI I 50 1 r1), J, R)) rfl ?_
  refine ev_go 4 (pc1 := 103) (lv1 := [.ref 49, .ref 3, .int t, .int 1, .int r1, .int r2, .int r1]) (st1 := [.ref 49]) (h1 := (124, (uI (uI I 50 1 r1) 51 1 ((I 51 1) ||| (1 <<< (r1 &&& 31)))), J, R)) rfl ?_
  refine ev_gf (c := 49) (t := 51) (X := R 49 1) rfl rfl (fun _ => rfl) rfl (hG 49 1 51 rfl rfl) ?_
  refine ev_go 7 (pc1 := 114) (lv1 := [.ref 49, .ref 3, .int t, .int 1, .int r1, .int r2, .int r1]) (st1 := [.int r1, .int 1, .int (I 51 0), .int 0, .ref 51]) (h1 := (124, (uI (uI I 50 1 r1) 51 1 ((I 51 1) ||| (1 <<< (r1 &&& 31)))), J, R)) rfl ?_
  refine ev_go 6 (pc1 := 120) (lv1 := [.ref 49, .ref 3, .int t, .int 1, .int r1, .int r2, .int r1]) (st1 := [.int 1]) (h1 := (124, (uI (uI (uI I 50 1 r1) 51 1 ((I 51 1) ||| (1 <<< (r1 &&& 31)))) 51 0 ((I 51 0) &&& ((1 <<< (r1 &&& 31)) ^^^ (-1)))), J, R)) rfl ?_
  exact ev_ret rfl rfl
set_option maxRecDepth 20000 in
theorem fd_s_3 {L : Nat} {xs : Nat → Int32} {d : Nat} {I : Nat → Nat → Int32} {J : Nat → Nat → Int64} {R : Nat → Nat → Nat} {a : Int32} (hG : aGd R)  {v : Option Value} {h' : xH} (hk : xEv L xs d 116 33 [.ref 49, .ref 3, .ref 44, .int a, .int 0] [] (124, (uI (uI (uI (uI I 50 0 a) 50 1 a) 51 0 (1 <<< (a &&& 31))) 51 1 0), J, R) v h') : xEv L xs d 116 0 [.ref 49, .ref 3, .ref 44, .int a, xmk] [] (124, I, J, R) v h' := by
  refine ev_go 1 (pc1 := 1) (lv1 := [.ref 49, .ref 3, .ref 44, .int a, xmk]) (st1 := [.ref 49]) (h1 := (124, I, J, R)) rfl ?_
  refine ev_gf (c := 49) (t := 50) (X := R 49 0) rfl rfl (fun _ => rfl) rfl (hG 49 0 50 rfl rfl) ?_
  refine ev_go 4 (pc1 := 8) (lv1 := [.ref 49, .ref 3, .ref 44, .int a, xmk]) (st1 := [.ref 49]) (h1 := (124, (uI I 50 0 a), J, R)) rfl ?_
  refine ev_gf (c := 49) (t := 50) (X := R 49 0) rfl rfl (fun _ => rfl) rfl (hG 49 0 50 rfl rfl) ?_
  refine ev_go 4 (pc1 := 15) (lv1 := [.ref 49, .ref 3, .ref 44, .int a, xmk]) (st1 := [.ref 49]) (h1 := (124, (uI (uI I 50 0 a) 50 1 a), J, R)) rfl ?_
  refine ev_gf (c := 49) (t := 51) (X := R 49 1) rfl rfl (fun _ => rfl) rfl (hG 49 1 51 rfl rfl) ?_
  refine ev_go 3 (pc1 := 21) (lv1 := [.ref 49, .ref 3, .ref 44, .int a, xmk]) (st1 := [.int a, .int 1, .int 0, .ref 51]) (h1 := (124, (uI (uI I 50 0 a) 50 1 a), J, R)) rfl ?_
  refine ev_go 3 (pc1 := 24) (lv1 := [.ref 49, .ref 3, .ref 44, .int a, xmk]) (st1 := [.ref 49]) (h1 := (124, (uI (uI (uI I 50 0 a) 50 1 a) 51 0 (1 <<< (a &&& 31))), J, R)) rfl ?_
  refine ev_gf (c := 49) (t := 51) (X := R 49 1) rfl rfl (fun _ => rfl) rfl (hG 49 1 51 rfl rfl) ?_
  refine ev_go 5 (pc1 := 33) (lv1 := [.ref 49, .ref 3, .ref 44, .int a, .int 0]) (st1 := []) (h1 := (124, (uI (uI (uI (uI I 50 0 a) 50 1 a) 51 0 (1 <<< (a &&& 31))) 51 1 0), J, R)) rfl ?_
  exact hk
set_option maxRecDepth 20000 in
theorem fd_e_3 {L : Nat} {xs : Nat → Int32} {d : Nat} {I : Nat → Nat → Int32} {J : Nat → Nat → Int64} {R : Nat → Nat → Nat} {a i : Int32} (hG : aGd R) (b1 : i.toInt ≥ (I 44 4).toInt) : xEv L xs d 116 33 [.ref 49, .ref 3, .ref 44, .int a, .int i] [] (124, I, J, R) (some (.int (I 44 4))) (124, (uI (uI (uI I 52 0 (I 51 0)) 52 1 (I 51 1)) 49 3 1), J, R) := by
  refine ev_go 3 (pc1 := 39) (lv1 := [.ref 49, .ref 3, .ref 44, .int a, .int i]) (st1 := [.int (I 44 4), .int i]) (h1 := (124, I, J, R)) rfl ?_
  refine ev_br (b1 := true) rfl rfl (xcd_ge (x := i) (y := (I 44 4)) (by first | exact b1 | omega)) ?_
  refine ev_go 1 (pc1 := 88) (lv1 := [.ref 49, .ref 3, .ref 44, .int a, .int i]) (st1 := [.ref 49]) (h1 := (124, I, J, R)) rfl ?_
  refine ev_gf (c := 49) (t := 52) (X := R 49 2) rfl rfl (fun _ => rfl) rfl (hG 49 2 52 rfl rfl) ?_
  refine ev_go 2 (pc1 := 93) (lv1 := [.ref 49, .ref 3, .ref 44, .int a, .int i]) (st1 := [.ref 49, .int 0, .ref 52]) (h1 := (124, I, J, R)) rfl ?_
  refine ev_gf (c := 49) (t := 51) (X := R 49 1) rfl rfl (fun _ => rfl) rfl (hG 49 1 51 rfl rfl) ?_
  refine ev_go 4 (pc1 := 100) (lv1 := [.ref 49, .ref 3, .ref 44, .int a, .int i]) (st1 := [.ref 49]) (h1 := (124, (uI I 52 0 (I 51 0)), J, R)) rfl ?_
  refine ev_gf (c := 49) (t := 52) (X := R 49 2) rfl rfl (fun _ => rfl) rfl (hG 49 2 52 rfl rfl) ?_
  refine ev_go 2 (pc1 := 105) (lv1 := [.ref 49, .ref 3, .ref 44, .int a, .int i]) (st1 := [.ref 49, .int 1, .ref 52]) (h1 := (124, (uI I 52 0 (I 51 0)), J, R)) rfl ?_
  refine ev_gf (c := 49) (t := 51) (X := R 49 1) rfl rfl (fun _ => rfl) rfl (hG 49 1 51 rfl rfl) ?_
  refine ev_go 8 (pc1 := 120) (lv1 := [.ref 49, .ref 3, .ref 44, .int a, .int i]) (st1 := [.int (I 44 4)]) (h1 := (124, (uI (uI (uI I 52 0 (I 51 0)) 52 1 (I 51 1)) 49 3 1), J, R)) rfl ?_
  exact ev_ret rfl rfl
set_option maxRecDepth 20000 in
theorem fd_t_3 {L : Nat} {xs : Nat → Int32} {d : Nat} {I : Nat → Nat → Int32} {J : Nat → Nat → Int64} {R : Nat → Nat → Nat} {a i : Int32} (hG : aGd R) (b1 : i.toInt < (I 44 4).toInt) (c1 : xEv L xs d 57 0 [.ref 44, .int i, .ref 3, xmk] [] (124, I, J, R) (some (.int 0)) (124, I, J, R)) : xEv L xs (d + 1) 116 33 [.ref 49, .ref 3, .ref 44, .int a, .int i] [] (124, I, J, R) (some (.int i)) (124, I, J, R) := by
  refine ev_go 3 (pc1 := 39) (lv1 := [.ref 49, .ref 3, .ref 44, .int a, .int i]) (st1 := [.int (I 44 4), .int i]) (h1 := (124, I, J, R)) rfl ?_
  refine ev_br (b1 := false) rfl rfl (xcd_nge (x := i) (y := (I 44 4)) (by first | exact b1 | omega)) ?_
  refine ev_go 3 (pc1 := 46) (lv1 := [.ref 49, .ref 3, .ref 44, .int a, .int i]) (st1 := [.ref 3, .int i, .ref 44]) (h1 := (124, I, J, R)) rfl ?_
  refine ev_call (v1 := (some (.int 0))) (h1 := (124, I, J, R)) rfl rfl c1 ?_
  refine ev_go 2 (pc1 := 80) (lv1 := [.ref 49, .ref 3, .ref 44, .int a, .int i]) (st1 := [.int i]) (h1 := (124, I, J, R)) rfl ?_
  exact ev_ret rfl rfl
set_option maxRecDepth 20000 in
theorem fd_f_3 {L : Nat} {xs : Nat → Int32} {d : Nat} {I : Nat → Nat → Int32} {J : Nat → Nat → Int64} {R : Nat → Nat → Nat} {a i r1 r2 : Int32} (hG : aGd R) (b1 : i.toInt < (I 44 4).toInt) (c1 : xEv L xs d 57 0 [.ref 44, .int i, .ref 3, xmk] [] (124, I, J, R) (some (.int 1)) (124, I, J, R)) (c2 : xEv L xs d 39 0 [.ref 45, .int i] [] (124, I, J, R) (some (.int r1)) (124, I, J, R)) (c3 : xEv L xs d 39 0 [.ref 46, .int i] [] (124, I, J, R) (some (.int r2)) (124, I, J, R)) (c4 : xEv L xs d 117 0 [.ref 49, .ref 3, .int r1, .int r2, xmk, xmk, xmk] [] (124, I, J, R) (some (.int 0)) (124, I, J, R)) : xEv L xs (d + 1) 116 33 [.ref 49, .ref 3, .ref 44, .int a, .int i] [] (124, I, J, R) (some (.int i)) (124, I, J, R) := by
  refine ev_go 3 (pc1 := 39) (lv1 := [.ref 49, .ref 3, .ref 44, .int a, .int i]) (st1 := [.int (I 44 4), .int i]) (h1 := (124, I, J, R)) rfl ?_
  refine ev_br (b1 := false) rfl rfl (xcd_nge (x := i) (y := (I 44 4)) (by first | exact b1 | omega)) ?_
  refine ev_go 3 (pc1 := 46) (lv1 := [.ref 49, .ref 3, .ref 44, .int a, .int i]) (st1 := [.ref 3, .int i, .ref 44]) (h1 := (124, I, J, R)) rfl ?_
  refine ev_call (v1 := (some (.int 1))) (h1 := (124, I, J, R)) rfl rfl c1 ?_
  refine ev_go 4 (pc1 := 55) (lv1 := [.ref 49, .ref 3, .ref 44, .int a, .int i]) (st1 := [.ref 44, .ref 3, .ref 49]) (h1 := (124, I, J, R)) rfl ?_
  refine ev_gf (c := 44) (t := 45) (X := R 44 0) rfl rfl (fun _ => rfl) rfl (hG 44 0 45 rfl rfl) ?_
  refine ev_go 1 (pc1 := 60) (lv1 := [.ref 49, .ref 3, .ref 44, .int a, .int i]) (st1 := [.int i, .ref 45, .ref 3, .ref 49]) (h1 := (124, I, J, R)) rfl ?_
  refine ev_call (v1 := (some (.int r1))) (h1 := (124, I, J, R)) rfl rfl c2 ?_
  refine ev_go 1 (pc1 := 64) (lv1 := [.ref 49, .ref 3, .ref 44, .int a, .int i]) (st1 := [.ref 44, .int r1, .ref 3, .ref 49]) (h1 := (124, I, J, R)) rfl ?_
  refine ev_gf (c := 44) (t := 46) (X := R 44 1) rfl rfl (fun _ => rfl) rfl (hG 44 1 46 rfl rfl) ?_
  refine ev_go 1 (pc1 := 69) (lv1 := [.ref 49, .ref 3, .ref 44, .int a, .int i]) (st1 := [.int i, .ref 46, .int r1, .ref 3, .ref 49]) (h1 := (124, I, J, R)) rfl ?_
  refine ev_call (v1 := (some (.int r2))) (h1 := (124, I, J, R)) rfl rfl c3 ?_
  refine ev_call (v1 := (some (.int 0))) (h1 := (124, I, J, R)) rfl rfl c4 ?_
  refine ev_go 2 (pc1 := 80) (lv1 := [.ref 49, .ref 3, .ref 44, .int a, .int i]) (st1 := [.int i]) (h1 := (124, I, J, R)) rfl ?_
  exact ev_ret rfl rfl
set_option maxRecDepth 20000 in
theorem fd_n_3 {L : Nat} {xs : Nat → Int32} {d : Nat} {I : Nat → Nat → Int32} {J : Nat → Nat → Int64} {R : Nat → Nat → Nat} {I1 : Nat → Nat → Int32} {a i r1 r2 : Int32} (hG : aGd R) (b1 : i.toInt < (I 44 4).toInt) (c1 : xEv L xs d 57 0 [.ref 44, .int i, .ref 3, xmk] [] (124, I, J, R) (some (.int 1)) (124, I, J, R)) (c2 : xEv L xs d 39 0 [.ref 45, .int i] [] (124, I, J, R) (some (.int r1)) (124, I, J, R)) (c3 : xEv L xs d 39 0 [.ref 46, .int i] [] (124, I, J, R) (some (.int r2)) (124, I, J, R)) (c4 : xEv L xs d 117 0 [.ref 49, .ref 3, .int r1, .int r2, xmk, xmk, xmk] [] (124, I, J, R) (some (.int 1)) (124, I1, J, R)) {v : Option Value} {h' : xH} (hk : xEv L xs (d + 1) 116 33 [.ref 49, .ref 3, .ref 44, .int a, .int (i + 1)] [] (124, I1, J, R) v h') : xEv L xs (d + 1) 116 33 [.ref 49, .ref 3, .ref 44, .int a, .int i] [] (124, I, J, R) v h' := by
  refine ev_go 3 (pc1 := 39) (lv1 := [.ref 49, .ref 3, .ref 44, .int a, .int i]) (st1 := [.int (I 44 4), .int i]) (h1 := (124, I, J, R)) rfl ?_
  refine ev_br (b1 := false) rfl rfl (xcd_nge (x := i) (y := (I 44 4)) (by first | exact b1 | omega)) ?_
  refine ev_go 3 (pc1 := 46) (lv1 := [.ref 49, .ref 3, .ref 44, .int a, .int i]) (st1 := [.ref 3, .int i, .ref 44]) (h1 := (124, I, J, R)) rfl ?_
  refine ev_call (v1 := (some (.int 1))) (h1 := (124, I, J, R)) rfl rfl c1 ?_
  refine ev_go 4 (pc1 := 55) (lv1 := [.ref 49, .ref 3, .ref 44, .int a, .int i]) (st1 := [.ref 44, .ref 3, .ref 49]) (h1 := (124, I, J, R)) rfl ?_
  refine ev_gf (c := 44) (t := 45) (X := R 44 0) rfl rfl (fun _ => rfl) rfl (hG 44 0 45 rfl rfl) ?_
  refine ev_go 1 (pc1 := 60) (lv1 := [.ref 49, .ref 3, .ref 44, .int a, .int i]) (st1 := [.int i, .ref 45, .ref 3, .ref 49]) (h1 := (124, I, J, R)) rfl ?_
  refine ev_call (v1 := (some (.int r1))) (h1 := (124, I, J, R)) rfl rfl c2 ?_
  refine ev_go 1 (pc1 := 64) (lv1 := [.ref 49, .ref 3, .ref 44, .int a, .int i]) (st1 := [.ref 44, .int r1, .ref 3, .ref 49]) (h1 := (124, I, J, R)) rfl ?_
  refine ev_gf (c := 44) (t := 46) (X := R 44 1) rfl rfl (fun _ => rfl) rfl (hG 44 1 46 rfl rfl) ?_
  refine ev_go 1 (pc1 := 69) (lv1 := [.ref 49, .ref 3, .ref 44, .int a, .int i]) (st1 := [.int i, .ref 46, .int r1, .ref 3, .ref 49]) (h1 := (124, I, J, R)) rfl ?_
  refine ev_call (v1 := (some (.int r2))) (h1 := (124, I, J, R)) rfl rfl c3 ?_
  refine ev_call (v1 := (some (.int 1))) (h1 := (124, I1, J, R)) rfl rfl c4 ?_
  refine ev_go 3 (pc1 := 33) (lv1 := [.ref 49, .ref 3, .ref 44, .int a, .int (i + 1)]) (st1 := []) (h1 := (124, I1, J, R)) rfl ?_
  exact hk
set_option maxRecDepth 20000 in
theorem fg_p_3 {L : Nat} {xs : Nat → Int32} {d : Nat} {I : Nat → Nat → Int32} {J : Nat → Nat → Int64} {R : Nat → Nat → Nat} {I1 : Nat → Nat → Int32} {J1 : Nat → Nat → Int64} {a g : Int32} (hG : aGd R) (c1 : xEv L xs d 54 0 [.ref 44, .ref 1, xmk, xmk, xmk] [] (124, I, J, R) (some (.int g)) (124, I1, J1, R)) (r_R_0_8 : R 0 8 = 4) (c2 : xEv L xs d 64 0 [.ref 3, .int a] [] (124, (uI I1 1 1 0), J1, R) (some (.int 0)) (124, (uI I1 1 1 0), J1, R)) : xEv L xs (d + 1) 115 0 [.ref 0, .int a, xmk] [] (124, I, J, R) (some (.int (-2000))) (124, (uI I1 1 1 0), J1, R) := by
  refine ev_go 1 (pc1 := 1) (lv1 := [.ref 0, .int a, xmk]) (st1 := [.ref 0]) (h1 := (124, I, J, R)) rfl ?_
  refine ev_gf (c := 0) (t := 44) (X := R 0 2) rfl rfl (fun _ => rfl) rfl (hG 0 2 44 rfl rfl) ?_
  refine ev_go 1 (pc1 := 5) (lv1 := [.ref 0, .int a, xmk]) (st1 := [.ref 0, .ref 44]) (h1 := (124, I, J, R)) rfl ?_
  refine ev_gf (c := 0) (t := 1) (X := R 0 0) rfl rfl (fun _ => rfl) rfl (hG 0 0 1 rfl rfl) ?_
  refine ev_call (v1 := (some (.int g))) (h1 := (124, I1, J1, R)) rfl rfl c1 ?_
  refine ev_go 2 (pc1 := 13) (lv1 := [.ref 0, .int a, .int g]) (st1 := [.ref 0]) (h1 := (124, I1, J1, R)) rfl ?_
  refine ev_gf (c := 0) (t := 1) (X := R 0 0) rfl rfl (fun _ => rfl) rfl (hG 0 0 1 rfl rfl) ?_
  refine ev_go 3 (pc1 := 21) (lv1 := [.ref 0, .int a, .int g]) (st1 := [.ref 0]) (h1 := (124, (uI I1 1 1 0), J1, R)) rfl ?_
  refine ev_gf (c := 0) (t := 3) (X := R 0 8) rfl rfl (fun _ => rfl) rfl r_R_0_8 ?_
  refine ev_go 1 (pc1 := 25) (lv1 := [.ref 0, .int a, .int g]) (st1 := [.int a, .ref 3]) (h1 := (124, (uI I1 1 1 0), J1, R)) rfl ?_
  refine ev_call (v1 := (some (.int 0))) (h1 := (124, (uI I1 1 1 0), J1, R)) rfl rfl c2 ?_
  refine ev_go 2 (pc1 := 34) (lv1 := [.ref 0, .int a, .int g]) (st1 := [.int (-2000)]) (h1 := (124, (uI I1 1 1 0), J1, R)) rfl ?_
  exact ev_ret rfl rfl
set_option maxRecDepth 20000 in
theorem fg_r_3 {L : Nat} {xs : Nat → Int32} {d : Nat} {I : Nat → Nat → Int32} {J : Nat → Nat → Int64} {R : Nat → Nat → Nat} {I1 : Nat → Nat → Int32} {J1 : Nat → Nat → Int64} {a : Int32} (hG : aGd R) (c1 : xEv L xs d 54 0 [.ref 44, .ref 1, xmk, xmk, xmk] [] (124, I, J, R) (some (.int 0)) (124, I1, J1, R)) (r_R_0_8 : R 0 8 = 4) (c2 : xEv L xs d 64 0 [.ref 3, .int a] [] (124, (uI I1 1 1 0), J1, R) (some (.int 1)) (124, (uI I1 1 1 0), J1, R)) : xEv L xs (d + 1) 115 0 [.ref 0, .int a, xmk] [] (124, I, J, R) (some (.int (-1000))) (124, (uI I1 1 1 0), J1, R) := by
  refine ev_go 1 (pc1 := 1) (lv1 := [.ref 0, .int a, xmk]) (st1 := [.ref 0]) (h1 := (124, I, J, R)) rfl ?_
  refine ev_gf (c := 0) (t := 44) (X := R 0 2) rfl rfl (fun _ => rfl) rfl (hG 0 2 44 rfl rfl) ?_
  refine ev_go 1 (pc1 := 5) (lv1 := [.ref 0, .int a, xmk]) (st1 := [.ref 0, .ref 44]) (h1 := (124, I, J, R)) rfl ?_
  refine ev_gf (c := 0) (t := 1) (X := R 0 0) rfl rfl (fun _ => rfl) rfl (hG 0 0 1 rfl rfl) ?_
  refine ev_call (v1 := (some (.int 0))) (h1 := (124, I1, J1, R)) rfl rfl c1 ?_
  refine ev_go 2 (pc1 := 13) (lv1 := [.ref 0, .int a, .int 0]) (st1 := [.ref 0]) (h1 := (124, I1, J1, R)) rfl ?_
  refine ev_gf (c := 0) (t := 1) (X := R 0 0) rfl rfl (fun _ => rfl) rfl (hG 0 0 1 rfl rfl) ?_
  refine ev_go 3 (pc1 := 21) (lv1 := [.ref 0, .int a, .int 0]) (st1 := [.ref 0]) (h1 := (124, (uI I1 1 1 0), J1, R)) rfl ?_
  refine ev_gf (c := 0) (t := 3) (X := R 0 8) rfl rfl (fun _ => rfl) rfl r_R_0_8 ?_
  refine ev_go 1 (pc1 := 25) (lv1 := [.ref 0, .int a, .int 0]) (st1 := [.int a, .ref 3]) (h1 := (124, (uI I1 1 1 0), J1, R)) rfl ?_
  refine ev_call (v1 := (some (.int 1))) (h1 := (124, (uI I1 1 1 0), J1, R)) rfl rfl c2 ?_
  refine ev_go 4 (pc1 := 42) (lv1 := [.ref 0, .int a, .int 0]) (st1 := [.int (-1000)]) (h1 := (124, (uI I1 1 1 0), J1, R)) rfl ?_
  exact ev_ret rfl rfl
set_option maxRecDepth 20000 in
theorem fg_d_3 {L : Nat} {xs : Nat → Int32} {d : Nat} {I : Nat → Nat → Int32} {J : Nat → Nat → Int64} {R : Nat → Nat → Nat} {I1 : Nat → Nat → Int32} {J1 : Nat → Nat → Int64} {I2 : Nat → Nat → Int32} {a r1 r2 : Int32} (hG : aGd R) (c1 : xEv L xs d 54 0 [.ref 44, .ref 1, xmk, xmk, xmk] [] (124, I, J, R) (some (.int 1)) (124, I1, J1, R)) (r_R_0_8 : R 0 8 = 4) (c2 : xEv L xs d 64 0 [.ref 3, .int a] [] (124, (uI I1 1 1 0), J1, R) (some (.int 1)) (124, (uI I1 1 1 0), J1, R)) (c3 : xEv L xs d 116 0 [.ref 49, .ref 3, .ref 44, .int a, xmk] [] (124, (uI I1 1 1 0), J1, R) (some (.int r1)) (124, I2, J1, R)) (c4 : xEv L xs d 61 0 [.ref 0, .int r1] [] (124, I2, J1, R) (some (.int r2)) (124, I2, J1, R)) : xEv L xs (d + 1) 115 0 [.ref 0, .int a, xmk] [] (124, I, J, R) (some (.int r2)) (124, I2, J1, R) := by
  refine ev_go 1 (pc1 := 1) (lv1 := [.ref 0, .int a, xmk]) (st1 := [.ref 0]) (h1 := (124, I, J, R)) rfl ?_
  refine ev_gf (c := 0) (t := 44) (X := R 0 2) rfl rfl (fun _ => rfl) rfl (hG 0 2 44 rfl rfl) ?_
  refine ev_go 1 (pc1 := 5) (lv1 := [.ref 0, .int a, xmk]) (st1 := [.ref 0, .ref 44]) (h1 := (124, I, J, R)) rfl ?_
  refine ev_gf (c := 0) (t := 1) (X := R 0 0) rfl rfl (fun _ => rfl) rfl (hG 0 0 1 rfl rfl) ?_
  refine ev_call (v1 := (some (.int 1))) (h1 := (124, I1, J1, R)) rfl rfl c1 ?_
  refine ev_go 2 (pc1 := 13) (lv1 := [.ref 0, .int a, .int 1]) (st1 := [.ref 0]) (h1 := (124, I1, J1, R)) rfl ?_
  refine ev_gf (c := 0) (t := 1) (X := R 0 0) rfl rfl (fun _ => rfl) rfl (hG 0 0 1 rfl rfl) ?_
  refine ev_go 3 (pc1 := 21) (lv1 := [.ref 0, .int a, .int 1]) (st1 := [.ref 0]) (h1 := (124, (uI I1 1 1 0), J1, R)) rfl ?_
  refine ev_gf (c := 0) (t := 3) (X := R 0 8) rfl rfl (fun _ => rfl) rfl r_R_0_8 ?_
  refine ev_go 1 (pc1 := 25) (lv1 := [.ref 0, .int a, .int 1]) (st1 := [.int a, .ref 3]) (h1 := (124, (uI I1 1 1 0), J1, R)) rfl ?_
  refine ev_call (v1 := (some (.int 1))) (h1 := (124, (uI I1 1 1 0), J1, R)) rfl rfl c2 ?_
  refine ev_go 5 (pc1 := 45) (lv1 := [.ref 0, .int a, .int 1]) (st1 := [.ref 0, .ref 0]) (h1 := (124, (uI I1 1 1 0), J1, R)) rfl ?_
  refine ev_gf (c := 0) (t := 49) (X := R 0 3) rfl rfl (fun _ => rfl) rfl (hG 0 3 49 rfl rfl) ?_
  refine ev_go 1 (pc1 := 49) (lv1 := [.ref 0, .int a, .int 1]) (st1 := [.ref 0, .ref 49, .ref 0]) (h1 := (124, (uI I1 1 1 0), J1, R)) rfl ?_
  refine ev_gf (c := 0) (t := 3) (X := R 0 8) rfl rfl (fun _ => rfl) rfl r_R_0_8 ?_
  refine ev_go 1 (pc1 := 53) (lv1 := [.ref 0, .int a, .int 1]) (st1 := [.ref 0, .ref 3, .ref 49, .ref 0]) (h1 := (124, (uI I1 1 1 0), J1, R)) rfl ?_
  refine ev_gf (c := 0) (t := 44) (X := R 0 2) rfl rfl (fun _ => rfl) rfl (hG 0 2 44 rfl rfl) ?_
  refine ev_go 1 (pc1 := 57) (lv1 := [.ref 0, .int a, .int 1]) (st1 := [.int a, .ref 44, .ref 3, .ref 49, .ref 0]) (h1 := (124, (uI I1 1 1 0), J1, R)) rfl ?_
  refine ev_call (v1 := (some (.int r1))) (h1 := (124, I2, J1, R)) rfl rfl c3 ?_
  refine ev_call (v1 := (some (.int r2))) (h1 := (124, I2, J1, R)) rfl rfl c4 ?_
  exact ev_ret rfl rfl
/-- isTimely says something -/
theorem ti_any_3 {L : Nat} {xs : Nat → Int32} {d : Nat} {I : Nat → Nat → Int32} {J : Nat → Nat → Int64} {R : Nat → Nat → Nat} (hG : aGd R) (i : Int32) : xEv L xs (d + 1) 57 0 [.ref 44, .int i, .ref 3, xmk] [] (124, I, J, R) (some (.int 0)) (124, I, J, R) ∨ xEv L xs (d + 1) 57 0 [.ref 44, .int i, .ref 3, xmk] [] (124, I, J, R) (some (.int 1)) (124, I, J, R) := by
  have a1 := at_run (L := L) (xs := xs) (d := d) (h := (124, I, J, R)) (c := 45) (n := 225) (fun _ => rfl) (by decide) i
  have a2 := at_run (L := L) (xs := xs) (d := d) (h := (124, I, J, R)) (c := 45) (n := 225) (fun _ => rfl) (by decide) (i - 1)
  generalize (if 0 ≤ i.toInt ∧ i.toInt < (225 : Nat) then ((124, I, J, R) : xH).2.1 45 i.toNatClampNeg else 0) = t at a1
  generalize (if 0 ≤ (i - 1).toInt ∧ (i - 1).toInt < (225 : Nat) then ((124, I, J, R) : xH).2.1 45 (i - 1).toNatClampNeg else 0) = u at a2
  by_cases h1 : t.toInt ≥ (I 17 5).toInt
  · exact Or.inl (ti_a_3 hG a1 h1)
  by_cases h2 : i.toInt = 0
  · exact Or.inr (ti_0_3 hG a1 (by omega) h2)
  by_cases h3 : t.toInt < u.toInt
  · exact Or.inl (ti_1_3 hG a1 (by omega) h2 a2 h3)
  · exact Or.inr (ti_2_3 hG a1 (by omega) h2 a2 (by omega))
/-- a telling of a fight says something, and touches no more than what is tried -/
theorem ft_any_3 {L : Nat} {xs : Nat → Int32} {d : Nat} {I : Nat → Nat → Int32} {J : Nat → Nat → Int64} {R : Nat → Nat → Nat} (hG : aGd R) (t n : Int32) : xEv L xs (d + 1) 117 0 [.ref 49, .ref 3, .int t, .int n, xmk, xmk, xmk] [] (124, I, J, R) (some (.int 0)) (124, I, J, R) ∨ (n.toInt < 2 ∧ ∃ I' : Nat → Nat → Int32, xEv L xs (d + 1) 117 0 [.ref 49, .ref 3, .int t, .int n, xmk, xmk, xmk] [] (124, I, J, R) (some (.int 1)) (124, I', J, R) ∧ ∀ c q, c ≠ 50 → c ≠ 51 → I' c q = I c q) := by
  by_cases h1 : n.toInt < 0
  · exact Or.inl (ft_y_3 hG h1)
  by_cases h2 : n.toInt ≥ 2
  · exact Or.inl (ft_x_3 hG (by omega) h2)
  have a1 := at_run (L := L) (xs := xs) (d := d) (h := (124, I, J, R)) (c := 20) (n := 64) (fun _ => rfl) (by decide) t
  have a2 := at_run (L := L) (xs := xs) (d := d) (h := (124, I, J, R)) (c := 21) (n := 64) (fun _ => rfl) (by decide) t
  generalize (if 0 ≤ t.toInt ∧ t.toInt < (64 : Nat) then ((124, I, J, R) : xH).2.1 20 t.toNatClampNeg else 0) = r1 at a1
  generalize (if 0 ≤ t.toInt ∧ t.toInt < (64 : Nat) then ((124, I, J, R) : xH).2.1 21 t.toNatClampNeg else 0) = r2 at a2
  have h3 : n = 0 ∨ n = 1 := by
    have h3 : n.toInt = 0 ∨ n.toInt = 1 := by omega
    rcases h3 with h3 | h3
    · exact Or.inl (Int32.toInt_inj.mp h3)
    · exact Or.inr (Int32.toInt_inj.mp h3)
  rcases h3 with rfl | rfl
  · by_cases g1 : (I 50 0).toInt = r1.toInt
    · exact Or.inr ⟨by decide, _, ft_a0_3 hG a1 a2 g1 g1, fun c q c1 c2 => by rw [uI_c _ _ _ c2, uI_c _ _ _ c2, uI_c _ _ _ c1]⟩
    · by_cases g2 : (I 50 0).toInt = r2.toInt
      · exact Or.inr ⟨by decide, _, ft_b0_3 hG a1 a2 g1 g2 g1, fun c q c1 c2 => by rw [uI_c _ _ _ c2, uI_c _ _ _ c2, uI_c _ _ _ c1]⟩
      · exact Or.inl (ft_n0_3 hG a1 a2 g1 g2)
  · by_cases g1 : (I 50 1).toInt = r1.toInt
    · exact Or.inr ⟨by decide, _, ft_a1_3 hG a1 a2 g1 g1, fun c q c1 c2 => by rw [uI_c _ _ _ c2, uI_c _ _ _ c2, uI_c _ _ _ c1]⟩
    · by_cases g2 : (I 50 1).toInt = r2.toInt
      · exact Or.inr ⟨by decide, _, ft_b1_3 hG a1 a2 g1 g2 g1, fun c q c1 c2 => by rw [uI_c _ _ _ c2, uI_c _ _ _ c2, uI_c _ _ _ c1]⟩
      · exact Or.inl (ft_n1_3 hG a1 a2 g1 g2)
/-- the class alone, up to a telling that can't be -/
theorem fcl_3 {L : Nat} {xs : Nat → Int32} {d : Nat} {J : Nat → Nat → Int64} {R : Nat → Nat → Nat} (hG : aGd R) {m j : Nat} (hm : m ≤ 225) (hj : j < m) {a : Int32} : ∀ (f k : Nat) (i : Int32) (I : Nat → Nat → Int32), k + f = j → i.toInt = k → (I 44 4).toInt = m → 2 ≤ (I 46 j).toInt → ∃ (r : Int32) (I' : Nat → Nat → Int32), xEv L xs (d + 2) 116 33 [.ref 49, .ref 3, .ref 44, .int a, .int i] [] (124, I, J, R) (some (.int r)) (124, I', J, R) ∧ ∀ c q, c ≠ 50 → c ≠ 51 → I' c q = I c q := by
  intro f
  induction f with
  | zero =>
    intro k i I hk hi s1 hb
    have eci := clamp_s (i := i) (by omega)
    have eki : i.toNatClampNeg = j := by omega
    rcases ti_any_3 (L := L) (xs := xs) (d := d) (I := I) (J := J) hG i with x | x
    · exact ⟨i, I, fd_t_3 hG (by omega) x, fun _ _ _ _ => rfl⟩
    · have a1 := at_run (L := L) (xs := xs) (d := d + 1) (h := (124, I, J, R)) (c := 45) (n := 225) (fun _ => rfl) (by decide) i
      have a2 := at_run (L := L) (xs := xs) (d := d + 1) (h := (124, I, J, R)) (c := 46) (n := 225) (fun _ => rfl) (by decide) i
      rw [if_pos ⟨by omega, by omega⟩] at a1 a2
      have hb' : 2 ≤ (I 46 i.toNatClampNeg).toInt := by rw [eki]; exact hb
      exact ⟨i, I, fd_f_3 hG (by omega) x a1 a2 (ft_x_3 hG (show (I 46 i.toNatClampNeg).toInt ≥ 0 by omega) hb'), fun _ _ _ _ => rfl⟩
  | succ f ih =>
    intro k i I hk hi s1 hb
    have hi' : (i + 1).toInt = (k + 1 : Nat) := by rw [i_add1 (by omega)]; omega
    rcases ti_any_3 (L := L) (xs := xs) (d := d) (I := I) (J := J) hG i with x | x
    · exact ⟨i, I, fd_t_3 hG (by omega) x, fun _ _ _ _ => rfl⟩
    · have a1 := at_run (L := L) (xs := xs) (d := d + 1) (h := (124, I, J, R)) (c := 45) (n := 225) (fun _ => rfl) (by decide) i
      have a2 := at_run (L := L) (xs := xs) (d := d + 1) (h := (124, I, J, R)) (c := 46) (n := 225) (fun _ => rfl) (by decide) i
      rw [if_pos ⟨by omega, by omega⟩] at a1 a2
      rcases ft_any_3 (L := L) (xs := xs) (d := d) (I := I) (J := J) hG (I 45 i.toNatClampNeg) (I 46 i.toNatClampNeg) with y | ⟨-, I', y, e⟩
      · exact ⟨i, I, fd_f_3 hG (by omega) x a1 a2 y, fun _ _ _ _ => rfl⟩
      · obtain ⟨r, I2, z1, z2⟩ := ih (k + 1) (i + 1) I' (by omega) hi' (by rw [e 44 4 (by decide) (by decide)]; exact s1) (by rw [e 46 j (by decide) (by decide)]; exact hb)
        exact ⟨r, I2, fd_n_3 hG (by omega) x a1 a2 y z1, fun c q c1 c2 => (z2 c q c1 c2).trans (e c q c1 c2)⟩
set_option maxRecDepth 20000 in
theorem ft_y_23 {L : Nat} {xs : Nat → Int32} {d : Nat} {I : Nat → Nat → Int32} {J : Nat → Nat → Int64} {R : Nat → Nat → Nat} {t n : Int32} (hG : aGd R) (b1 : n.toInt < 0) : xEv L xs d 117 0 [.ref 49, .ref 23, .int t, .int n, xmk, xmk, xmk] [] (124, I, J, R) (some (.int 0)) (124, I, J, R) := by
  refine ev_go 1 (pc1 := 1) (lv1 := [.ref 49, .ref 23, .int t, .int n, xmk, xmk, xmk]) (st1 := [.int n]) (h1 := (124, I, J, R)) rfl ?_
  refine ev_br (b1 := true) rfl rfl (xcd_lt (x := n) (y := 0) (by rw [show ((0 : Int32)).toInt = 0 from by decide]; first | exact b1 | omega)) ?_
  refine ev_go 1 (pc1 := 10) (lv1 := [.ref 49, .ref 23, .int t, .int n, xmk, xmk, xmk]) (st1 := [.int 0]) (h1 := (124, I, J, R)) rfl ?_
  exact ev_ret rfl rfl
set_option maxRecDepth 20000 in
theorem ft_x_23 {L : Nat} {xs : Nat → Int32} {d : Nat} {I : Nat → Nat → Int32} {J : Nat → Nat → Int64} {R : Nat → Nat → Nat} {t n : Int32} (hG : aGd R) (b1 : n.toInt ≥ 0) (b2 : n.toInt ≥ 2) : xEv L xs d 117 0 [.ref 49, .ref 23, .int t, .int n, xmk, xmk, xmk] [] (124, I, J, R) (some (.int 0)) (124, I, J, R) := by
  refine ev_go 1 (pc1 := 1) (lv1 := [.ref 49, .ref 23, .int t, .int n, xmk, xmk, xmk]) (st1 := [.int n]) (h1 := (124, I, J, R)) rfl ?_
  refine ev_br (b1 := false) rfl rfl (xcd_nlt (x := n) (y := 0) (by rw [show ((0 : Int32)).toInt = 0 from by decide]; first | exact b1 | omega)) ?_
  refine ev_go 2 (pc1 := 6) (lv1 := [.ref 49, .ref 23, .int t, .int n, xmk, xmk, xmk]) (st1 := [.int 2, .int n]) (h1 := (124, I, J, R)) rfl ?_
  refine ev_br (b1 := false) rfl rfl (xcd_nlt (x := n) (y := 2) (by rw [show ((2 : Int32)).toInt = 2 from by decide]; first | exact b2 | omega)) ?_
  refine ev_go 1 (pc1 := 10) (lv1 := [.ref 49, .ref 23, .int t, .int n, xmk, xmk, xmk]) (st1 := [.int 0]) (h1 := (124, I, J, R)) rfl ?_
  exact ev_ret rfl rfl
set_option maxRecDepth 20000 in
theorem ft_n0_23 {L : Nat} {xs : Nat → Int32} {d : Nat} {I : Nat → Nat → Int32} {J : Nat → Nat → Int64} {R : Nat → Nat → Nat} {t r1 r2 : Int32} (hG : aGd R) (c1 : xEv L xs d 39 0 [.ref 40, .int t] [] (124, I, J, R) (some (.int r1)) (124, I, J, R)) (c2 : xEv L xs d 39 0 [.ref 41, .int t] [] (124, I, J, R) (some (.int r2)) (124, I, J, R)) (b1 : (I 50 0).toInt ≠ r1.toInt) (b2 : (I 50 0).toInt ≠ r2.toInt) : xEv L xs (d + 1) 117 0 [.ref 49, .ref 23, .int t, .int 0, xmk, xmk, xmk] [] (124, I, J, R) (some (.int 0)) (124, I, J, R) := by
  refine ev_go 6 (pc1 := 12) (lv1 := [.ref 49, .ref 23, .int t, .int 0, xmk, xmk, xmk]) (st1 := [.ref 23]) (h1 := (124, I, J, R)) rfl ?_
  refine ev_gf (c := 23) (t := 37) (X := R 23 13) rfl rfl (fun _ => rfl) rfl (hG 23 13 37 rfl rfl) ?_
  refine ev_gf (c := 37) (t := 40) (X := R 37 2) rfl rfl (fun _ => rfl) rfl (hG 37 2 40 rfl rfl) ?_
  refine ev_go 1 (pc1 := 19) (lv1 := [.ref 49, .ref 23, .int t, .int 0, xmk, xmk, xmk]) (st1 := [.int t, .ref 40]) (h1 := (124, I, J, R)) rfl ?_
  refine ev_call (v1 := (some (.int r1))) (h1 := (124, I, J, R)) rfl rfl c1 ?_
  refine ev_go 2 (pc1 := 25) (lv1 := [.ref 49, .ref 23, .int t, .int 0, .int r1, xmk, xmk]) (st1 := [.ref 23]) (h1 := (124, I, J, R)) rfl ?_
  refine ev_gf (c := 23) (t := 37) (X := R 23 13) rfl rfl (fun _ => rfl) rfl (hG 23 13 37 rfl rfl) ?_
  refine ev_gf (c := 37) (t := 41) (X := R 37 3) rfl rfl (fun _ => rfl) rfl (hG 37 3 41 rfl rfl) ?_
  refine ev_go 1 (pc1 := 32) (lv1 := [.ref 49, .ref 23, .int t, .int 0, .int r1, xmk, xmk]) (st1 := [.int t, .ref 41]) (h1 := (124, I, J, R)) rfl ?_
  refine ev_call (v1 := (some (.int r2))) (h1 := (124, I, J, R)) rfl rfl c2 ?_
  refine ev_go 2 (pc1 := 38) (lv1 := [.ref 49, .ref 23, .int t, .int 0, .int r1, .int r2, xmk]) (st1 := [.ref 49]) (h1 := (124, I, J, R)) rfl ?_
  refine ev_gf (c := 49) (t := 50) (X := R 49 0) rfl rfl (fun _ => rfl) rfl (hG 49 0 50 rfl rfl) ?_
  refine ev_go 3 (pc1 := 45) (lv1 := [.ref 49, .ref 23, .int t, .int 0, .int r1, .int r2, xmk]) (st1 := [.int r1, .int (I 50 0)]) (h1 := (124, I, J, R)) rfl ?_
  refine ev_br (b1 := false) rfl rfl (xcd_neq (x := (I 50 0)) (y := r1) (by first | exact b1 | omega)) ?_
  refine ev_go 1 (pc1 := 49) (lv1 := [.ref 49, .ref 23, .int t, .int 0, .int r1, .int r2, xmk]) (st1 := [.ref 49]) (h1 := (124, I, J, R)) rfl ?_
  refine ev_gf (c := 49) (t := 50) (X := R 49 0) rfl rfl (fun _ => rfl) rfl (hG 49 0 50 rfl rfl) ?_
  refine ev_go 3 (pc1 := 56) (lv1 := [.ref 49, .ref 23, .int t, .int 0, .int r1, .int r2, xmk]) (st1 := [.int r2, .int (I 50 0)]) (h1 := (124, I, J, R)) rfl ?_
  refine ev_br (b1 := false) rfl rfl (xcd_neq (x := (I 50 0)) (y := r2) (by first | exact b2 | omega)) ?_
  refine ev_go 1 (pc1 := 60) (lv1 := [.ref 49, .ref 23, .int t, .int 0, .int r1, .int r2, xmk]) (st1 := [.int 0]) (h1 := (124, I, J, R)) rfl ?_
  exact ev_ret rfl rfl
set_option maxRecDepth 20000 in
theorem ft_a0_23 {L : Nat} {xs : Nat → Int32} {d : Nat} {I : Nat → Nat → Int32} {J : Nat → Nat → Int64} {R : Nat → Nat → Nat} {t r1 r2 : Int32} (hG : aGd R) (c1 : xEv L xs d 39 0 [.ref 40, .int t] [] (124, I, J, R) (some (.int r1)) (124, I, J, R)) (c2 : xEv L xs d 39 0 [.ref 41, .int t] [] (124, I, J, R) (some (.int r2)) (124, I, J, R)) (b1 : (I 50 0).toInt = r1.toInt) (b2 : (I 50 0).toInt = r1.toInt) : xEv L xs (d + 1) 117 0 [.ref 49, .ref 23, .int t, .int 0, xmk, xmk, xmk] [] (124, I, J, R) (some (.int 1)) (124, (uI (uI (uI I 50 0 r2) 51 0 ((I 51 0) ||| (1 <<< (r2 &&& 31)))) 51 1 ((I 51 1) &&& ((1 <<< (r2 &&& 31)) ^^^ (-1)))), J, R) := by
  refine ev_go 6 (pc1 := 12) (lv1 := [.ref 49, .ref 23, .int t, .int 0, xmk, xmk, xmk]) (st1 := [.ref 23]) (h1 := (124, I, J, R)) rfl ?_
  refine ev_gf (c := 23) (t := 37) (X := R 23 13) rfl rfl (fun _ => rfl) rfl (hG 23 13 37 rfl rfl) ?_
  refine ev_gf (c := 37) (t := 40) (X := R 37 2) rfl rfl (fun _ => rfl) rfl (hG 37 2 40 rfl rfl) ?_
  refine ev_go 1 (pc1 := 19) (lv1 := [.ref 49, .ref 23, .int t, .int 0, xmk, xmk, xmk]) (st1 := [.int t, .ref 40]) (h1 := (124, I, J, R)) rfl ?_
  refine ev_call (v1 := (some (.int r1))) (h1 := (124, I, J, R)) rfl rfl c1 ?_
  refine ev_go 2 (pc1 := 25) (lv1 := [.ref 49, .ref 23, .int t, .int 0, .int r1, xmk, xmk]) (st1 := [.ref 23]) (h1 := (124, I, J, R)) rfl ?_
  refine ev_gf (c := 23) (t := 37) (X := R 23 13) rfl rfl (fun _ => rfl) rfl (hG 23 13 37 rfl rfl) ?_
  refine ev_gf (c := 37) (t := 41) (X := R 37 3) rfl rfl (fun _ => rfl) rfl (hG 37 3 41 rfl rfl) ?_
  refine ev_go 1 (pc1 := 32) (lv1 := [.ref 49, .ref 23, .int t, .int 0, .int r1, xmk, xmk]) (st1 := [.int t, .ref 41]) (h1 := (124, I, J, R)) rfl ?_
  refine ev_call (v1 := (some (.int r2))) (h1 := (124, I, J, R)) rfl rfl c2 ?_
  refine ev_go 2 (pc1 := 38) (lv1 := [.ref 49, .ref 23, .int t, .int 0, .int r1, .int r2, xmk]) (st1 := [.ref 49]) (h1 := (124, I, J, R)) rfl ?_
  refine ev_gf (c := 49) (t := 50) (X := R 49 0) rfl rfl (fun _ => rfl) rfl (hG 49 0 50 rfl rfl) ?_
  refine ev_go 3 (pc1 := 45) (lv1 := [.ref 49, .ref 23, .int t, .int 0, .int r1, .int r2, xmk]) (st1 := [.int r1, .int (I 50 0)]) (h1 := (124, I, J, R)) rfl ?_
  refine ev_br (b1 := true) rfl rfl (xcd_eq (x := (I 50 0)) (y := r1) (by first | exact b1 | omega)) ?_
  refine ev_go 1 (pc1 := 62) (lv1 := [.ref 49, .ref 23, .int t, .int 0, .int r1, .int r2, xmk]) (st1 := [.ref 49]) (h1 := (124, I, J, R)) rfl ?_
  refine ev_gf (c := 49) (t := 50) (X := R 49 0) rfl rfl (fun _ => rfl) rfl (hG 49 0 50 rfl rfl) ?_
  refine ev_go 3 (pc1 := 69) (lv1 := [.ref 49, .ref 23, .int t, .int 0, .int r1, .int r2, xmk]) (st1 := [.int r1, .int (I 50 0)]) (h1 := (124, I, J, R)) rfl ?_
  refine ev_br (b1 := false) rfl rfl (xcd_nne (x := (I 50 0)) (y := r1) (by first | exact b2 | omega)) ?_
  refine ev_go 4 (pc1 := 82) (lv1 := [.ref 49, .ref 23, .int t, .int 0, .int r1, .int r2, .int r2]) (st1 := [.ref 49]) (h1 := (124, I, J, R)) rfl ?_
  refine ev_gf (c := 49) (t := 50) (X := R 49 0) rfl rfl (fun _ => rfl) rfl (hG 49 0 50 rfl rfl) ?_
  refine ev_go 4 (pc1 := 90) (lv1 := [.ref 49, .ref 23, .int t, .int 0, .int r1, .int r2, .int r2]) (st1 := [.ref 49]) (h1 := (124, (uI I 50 0 r2), J, R)) rfl ?_
  refine ev_gf (c := 49) (t := 51) (X := R 49 1) rfl rfl (fun _ => rfl) rfl (hG 49 1 51 rfl rfl) ?_
  refine ev_go 5 (pc1 := 99) (lv1 := [.ref 49, .ref 23, .int t, .int 0, .int r1, .int r2, .int r2]) (st1 := [.int r2, .int 1, .int (I 51 0), .int 0, .ref 51]) (h1 := (124, (uI I 50 0 r2), J, R)) rfl ?_
  refine ev_go 4 (pc1 := 103) (lv1 := [.ref 49, .ref 23, .int t, .int 0, .int r1, .int r2, .int r2]) (st1 := [.ref 49]) (h1 := (124, (uI (uI I 50 0 r2) 51 0 ((I 51 0) ||| (1 <<< (r2 &&& 31)))), J, R)) rfl ?_
  refine ev_gf (c := 49) (t := 51) (X := R 49 1) rfl rfl (fun _ => rfl) rfl (hG 49 1 51 rfl rfl) ?_
  refine ev_go 7 (pc1 := 114) (lv1 := [.ref 49, .ref 23, .int t, .int 0, .int r1, .int r2, .int r2]) (st1 := [.int r2, .int 1, .int (I 51 1), .int 1, .ref 51]) (h1 := (124, (uI (uI I 50 0 r2) 51 0 ((I 51 0) ||| (1 <<< (r2 &&& 31)))), J, R)) rfl ?_
  refine ev_go 6 (pc1 := 120) (lv1 := [.ref 49, .ref 23, .int t, .int 0, .int r1, .int r2, .int r2]) (st1 := [.int 1]) (h1 := (124, (uI (uI (uI I 50 0 r2) 51 0 ((I 51 0) ||| (1 <<< (r2 &&& 31)))) 51 1 ((I 51 1) &&& ((1 <<< (r2 &&& 31)) ^^^ (-1)))), J, R)) rfl ?_
  exact ev_ret rfl rfl
set_option maxRecDepth 20000 in
theorem ft_b0_23 {L : Nat} {xs : Nat → Int32} {d : Nat} {I : Nat → Nat → Int32} {J : Nat → Nat → Int64} {R : Nat → Nat → Nat} {t r1 r2 : Int32} (hG : aGd R) (c1 : xEv L xs d 39 0 [.ref 40, .int t] [] (124, I, J, R) (some (.int r1)) (124, I, J, R)) (c2 : xEv L xs d 39 0 [.ref 41, .int t] [] (124, I, J, R) (some (.int r2)) (124, I, J, R)) (b1 : (I 50 0).toInt ≠ r1.toInt) (b2 : (I 50 0).toInt = r2.toInt) (b3 : (I 50 0).toInt ≠ r1.toInt) : xEv L xs (d + 1) 117 0 [.ref 49, .ref 23, .int t, .int 0, xmk, xmk, xmk] [] (124, I, J, R) (some (.int 1)) (124, (uI (uI (uI I 50 0 r1) 51 0 ((I 51 0) ||| (1 <<< (r1 &&& 31)))) 51 1 ((I 51 1) &&& ((1 <<< (r1 &&& 31)) ^^^ (-1)))), J, R) := by
  refine ev_go 6 (pc1 := 12) (lv1 := [.ref 49, .ref 23, .int t, .int 0, xmk, xmk, xmk]) (st1 := [.ref 23]) (h1 := (124, I, J, R)) rfl ?_
  refine ev_gf (c := 23) (t := 37) (X := R 23 13) rfl rfl (fun _ => rfl) rfl (hG 23 13 37 rfl rfl) ?_
  refine ev_gf (c := 37) (t := 40) (X := R 37 2) rfl rfl (fun _ => rfl) rfl (hG 37 2 40 rfl rfl) ?_
  refine ev_go 1 (pc1 := 19) (lv1 := [.ref 49, .ref 23, .int t, .int 0, xmk, xmk, xmk]) (st1 := [.int t, .ref 40]) (h1 := (124, I, J, R)) rfl ?_
  refine ev_call (v1 := (some (.int r1))) (h1 := (124, I, J, R)) rfl rfl c1 ?_
  refine ev_go 2 (pc1 := 25) (lv1 := [.ref 49, .ref 23, .int t, .int 0, .int r1, xmk, xmk]) (st1 := [.ref 23]) (h1 := (124, I, J, R)) rfl ?_
  refine ev_gf (c := 23) (t := 37) (X := R 23 13) rfl rfl (fun _ => rfl) rfl (hG 23 13 37 rfl rfl) ?_
  refine ev_gf (c := 37) (t := 41) (X := R 37 3) rfl rfl (fun _ => rfl) rfl (hG 37 3 41 rfl rfl) ?_
  refine ev_go 1 (pc1 := 32) (lv1 := [.ref 49, .ref 23, .int t, .int 0, .int r1, xmk, xmk]) (st1 := [.int t, .ref 41]) (h1 := (124, I, J, R)) rfl ?_
  refine ev_call (v1 := (some (.int r2))) (h1 := (124, I, J, R)) rfl rfl c2 ?_
  refine ev_go 2 (pc1 := 38) (lv1 := [.ref 49, .ref 23, .int t, .int 0, .int r1, .int r2, xmk]) (st1 := [.ref 49]) (h1 := (124, I, J, R)) rfl ?_
  refine ev_gf (c := 49) (t := 50) (X := R 49 0) rfl rfl (fun _ => rfl) rfl (hG 49 0 50 rfl rfl) ?_
  refine ev_go 3 (pc1 := 45) (lv1 := [.ref 49, .ref 23, .int t, .int 0, .int r1, .int r2, xmk]) (st1 := [.int r1, .int (I 50 0)]) (h1 := (124, I, J, R)) rfl ?_
  refine ev_br (b1 := false) rfl rfl (xcd_neq (x := (I 50 0)) (y := r1) (by first | exact b1 | omega)) ?_
  refine ev_go 1 (pc1 := 49) (lv1 := [.ref 49, .ref 23, .int t, .int 0, .int r1, .int r2, xmk]) (st1 := [.ref 49]) (h1 := (124, I, J, R)) rfl ?_
  refine ev_gf (c := 49) (t := 50) (X := R 49 0) rfl rfl (fun _ => rfl) rfl (hG 49 0 50 rfl rfl) ?_
  refine ev_go 3 (pc1 := 56) (lv1 := [.ref 49, .ref 23, .int t, .int 0, .int r1, .int r2, xmk]) (st1 := [.int r2, .int (I 50 0)]) (h1 := (124, I, J, R)) rfl ?_
  refine ev_br (b1 := true) rfl rfl (xcd_eq (x := (I 50 0)) (y := r2) (by first | exact b2 | omega)) ?_
  refine ev_go 1 (pc1 := 62) (lv1 := [.ref 49, .ref 23, .int t, .int 0, .int r1, .int r2, xmk]) (st1 := [.ref 49]) (h1 := (124, I, J, R)) rfl ?_
  refine ev_gf (c := 49) (t := 50) (X := R 49 0) rfl rfl (fun _ => rfl) rfl (hG 49 0 50 rfl rfl) ?_
  refine ev_go 3 (pc1 := 69) (lv1 := [.ref 49, .ref 23, .int t, .int 0, .int r1, .int r2, xmk]) (st1 := [.int r1, .int (I 50 0)]) (h1 := (124, I, J, R)) rfl ?_
  refine ev_br (b1 := true) rfl rfl (xcd_ne (x := (I 50 0)) (y := r1) (by first | exact b3 | omega)) ?_
  refine ev_go 3 (pc1 := 82) (lv1 := [.ref 49, .ref 23, .int t, .int 0, .int r1, .int r2, .int r1]) (st1 := [.ref 49]) (h1 := (124, I, J, R)) rfl ?_
  refine ev_gf (c := 49) (t := 50) (X := R 49 0) rfl rfl (fun _ => rfl) rfl (hG 49 0 50 rfl rfl) ?_
  refine ev_go 4 (pc1 := 90) (lv1 := [.ref 49, .ref 23, .int t, .int 0, .int r1, .int r2, .int r1]) (st1 := [.ref 49]) (h1 := (124, (uI I 50 0 r1), J, R)) rfl ?_
  refine ev_gf (c := 49) (t := 51) (X := R 49 1) rfl rfl (fun _ => rfl) rfl (hG 49 1 51 rfl rfl) ?_
  refine ev_go 5 (pc1 := 99) (lv1 := [.ref 49, .ref 23, .int t, .int 0, .int r1, .int r2, .int r1]) (st1 := [.int r1, .int 1, .int (I 51 0), .int 0, .ref 51]) (h1 := (124, (uI I 50 0 r1), J, R)) rfl ?_
  refine ev_go 4 (pc1 := 103) (lv1 := [.ref 49, .ref 23, .int t, .int 0, .int r1, .int r2, .int r1]) (st1 := [.ref 49]) (h1 := (124, (uI (uI I 50 0 r1) 51 0 ((I 51 0) ||| (1 <<< (r1 &&& 31)))), J, R)) rfl ?_
  refine ev_gf (c := 49) (t := 51) (X := R 49 1) rfl rfl (fun _ => rfl) rfl (hG 49 1 51 rfl rfl) ?_
  refine ev_go 7 (pc1 := 114) (lv1 := [.ref 49, .ref 23, .int t, .int 0, .int r1, .int r2, .int r1]) (st1 := [.int r1, .int 1, .int (I 51 1), .int 1, .ref 51]) (h1 := (124, (uI (uI I 50 0 r1) 51 0 ((I 51 0) ||| (1 <<< (r1 &&& 31)))), J, R)) rfl ?_
  refine ev_go 6 (pc1 := 120) (lv1 := [.ref 49, .ref 23, .int t, .int 0, .int r1, .int r2, .int r1]) (st1 := [.int 1]) (h1 := (124, (uI (uI (uI I 50 0 r1) 51 0 ((I 51 0) ||| (1 <<< (r1 &&& 31)))) 51 1 ((I 51 1) &&& ((1 <<< (r1 &&& 31)) ^^^ (-1)))), J, R)) rfl ?_
  exact ev_ret rfl rfl
set_option maxRecDepth 20000 in
theorem ft_n1_23 {L : Nat} {xs : Nat → Int32} {d : Nat} {I : Nat → Nat → Int32} {J : Nat → Nat → Int64} {R : Nat → Nat → Nat} {t r1 r2 : Int32} (hG : aGd R) (c1 : xEv L xs d 39 0 [.ref 40, .int t] [] (124, I, J, R) (some (.int r1)) (124, I, J, R)) (c2 : xEv L xs d 39 0 [.ref 41, .int t] [] (124, I, J, R) (some (.int r2)) (124, I, J, R)) (b1 : (I 50 1).toInt ≠ r1.toInt) (b2 : (I 50 1).toInt ≠ r2.toInt) : xEv L xs (d + 1) 117 0 [.ref 49, .ref 23, .int t, .int 1, xmk, xmk, xmk] [] (124, I, J, R) (some (.int 0)) (124, I, J, R) := by
  refine ev_go 6 (pc1 := 12) (lv1 := [.ref 49, .ref 23, .int t, .int 1, xmk, xmk, xmk]) (st1 := [.ref 23]) (h1 := (124, I, J, R)) rfl ?_
  refine ev_gf (c := 23) (t := 37) (X := R 23 13) rfl rfl (fun _ => rfl) rfl (hG 23 13 37 rfl rfl) ?_
  refine ev_gf (c := 37) (t := 40) (X := R 37 2) rfl rfl (fun _ => rfl) rfl (hG 37 2 40 rfl rfl) ?_
  refine ev_go 1 (pc1 := 19) (lv1 := [.ref 49, .ref 23, .int t, .int 1, xmk, xmk, xmk]) (st1 := [.int t, .ref 40]) (h1 := (124, I, J, R)) rfl ?_
  refine ev_call (v1 := (some (.int r1))) (h1 := (124, I, J, R)) rfl rfl c1 ?_
  refine ev_go 2 (pc1 := 25) (lv1 := [.ref 49, .ref 23, .int t, .int 1, .int r1, xmk, xmk]) (st1 := [.ref 23]) (h1 := (124, I, J, R)) rfl ?_
  refine ev_gf (c := 23) (t := 37) (X := R 23 13) rfl rfl (fun _ => rfl) rfl (hG 23 13 37 rfl rfl) ?_
  refine ev_gf (c := 37) (t := 41) (X := R 37 3) rfl rfl (fun _ => rfl) rfl (hG 37 3 41 rfl rfl) ?_
  refine ev_go 1 (pc1 := 32) (lv1 := [.ref 49, .ref 23, .int t, .int 1, .int r1, xmk, xmk]) (st1 := [.int t, .ref 41]) (h1 := (124, I, J, R)) rfl ?_
  refine ev_call (v1 := (some (.int r2))) (h1 := (124, I, J, R)) rfl rfl c2 ?_
  refine ev_go 2 (pc1 := 38) (lv1 := [.ref 49, .ref 23, .int t, .int 1, .int r1, .int r2, xmk]) (st1 := [.ref 49]) (h1 := (124, I, J, R)) rfl ?_
  refine ev_gf (c := 49) (t := 50) (X := R 49 0) rfl rfl (fun _ => rfl) rfl (hG 49 0 50 rfl rfl) ?_
  refine ev_go 3 (pc1 := 45) (lv1 := [.ref 49, .ref 23, .int t, .int 1, .int r1, .int r2, xmk]) (st1 := [.int r1, .int (I 50 1)]) (h1 := (124, I, J, R)) rfl ?_
  refine ev_br (b1 := false) rfl rfl (xcd_neq (x := (I 50 1)) (y := r1) (by first | exact b1 | omega)) ?_
  refine ev_go 1 (pc1 := 49) (lv1 := [.ref 49, .ref 23, .int t, .int 1, .int r1, .int r2, xmk]) (st1 := [.ref 49]) (h1 := (124, I, J, R)) rfl ?_
  refine ev_gf (c := 49) (t := 50) (X := R 49 0) rfl rfl (fun _ => rfl) rfl (hG 49 0 50 rfl rfl) ?_
  refine ev_go 3 (pc1 := 56) (lv1 := [.ref 49, .ref 23, .int t, .int 1, .int r1, .int r2, xmk]) (st1 := [.int r2, .int (I 50 1)]) (h1 := (124, I, J, R)) rfl ?_
  refine ev_br (b1 := false) rfl rfl (xcd_neq (x := (I 50 1)) (y := r2) (by first | exact b2 | omega)) ?_
  refine ev_go 1 (pc1 := 60) (lv1 := [.ref 49, .ref 23, .int t, .int 1, .int r1, .int r2, xmk]) (st1 := [.int 0]) (h1 := (124, I, J, R)) rfl ?_
  exact ev_ret rfl rfl
set_option maxRecDepth 20000 in
theorem ft_a1_23 {L : Nat} {xs : Nat → Int32} {d : Nat} {I : Nat → Nat → Int32} {J : Nat → Nat → Int64} {R : Nat → Nat → Nat} {t r1 r2 : Int32} (hG : aGd R) (c1 : xEv L xs d 39 0 [.ref 40, .int t] [] (124, I, J, R) (some (.int r1)) (124, I, J, R)) (c2 : xEv L xs d 39 0 [.ref 41, .int t] [] (124, I, J, R) (some (.int r2)) (124, I, J, R)) (b1 : (I 50 1).toInt = r1.toInt) (b2 : (I 50 1).toInt = r1.toInt) : xEv L xs (d + 1) 117 0 [.ref 49, .ref 23, .int t, .int 1, xmk, xmk, xmk] [] (124, I, J, R) (some (.int 1)) (124, (uI (uI (uI I 50 1 r2) 51 1 ((I 51 1) ||| (1 <<< (r2 &&& 31)))) 51 0 ((I 51 0) &&& ((1 <<< (r2 &&& 31)) ^^^ (-1)))), J, R) := by
  refine ev_go 6 (pc1 := 12) (lv1 := [.ref 49, .ref 23, .int t, .int 1, xmk, xmk, xmk]) (st1 := [.ref 23]) (h1 := (124, I, J, R)) rfl ?_
  refine ev_gf (c := 23) (t := 37) (X := R 23 13) rfl rfl (fun _ => rfl) rfl (hG 23 13 37 rfl rfl) ?_
  refine ev_gf (c := 37) (t := 40) (X := R 37 2) rfl rfl (fun _ => rfl) rfl (hG 37 2 40 rfl rfl) ?_
  refine ev_go 1 (pc1 := 19) (lv1 := [.ref 49, .ref 23, .int t, .int 1, xmk, xmk, xmk]) (st1 := [.int t, .ref 40]) (h1 := (124, I, J, R)) rfl ?_
  refine ev_call (v1 := (some (.int r1))) (h1 := (124, I, J, R)) rfl rfl c1 ?_
  refine ev_go 2 (pc1 := 25) (lv1 := [.ref 49, .ref 23, .int t, .int 1, .int r1, xmk, xmk]) (st1 := [.ref 23]) (h1 := (124, I, J, R)) rfl ?_
  refine ev_gf (c := 23) (t := 37) (X := R 23 13) rfl rfl (fun _ => rfl) rfl (hG 23 13 37 rfl rfl) ?_
  refine ev_gf (c := 37) (t := 41) (X := R 37 3) rfl rfl (fun _ => rfl) rfl (hG 37 3 41 rfl rfl) ?_
  refine ev_go 1 (pc1 := 32) (lv1 := [.ref 49, .ref 23, .int t, .int 1, .int r1, xmk, xmk]) (st1 := [.int t, .ref 41]) (h1 := (124, I, J, R)) rfl ?_
  refine ev_call (v1 := (some (.int r2))) (h1 := (124, I, J, R)) rfl rfl c2 ?_
  refine ev_go 2 (pc1 := 38) (lv1 := [.ref 49, .ref 23, .int t, .int 1, .int r1, .int r2, xmk]) (st1 := [.ref 49]) (h1 := (124, I, J, R)) rfl ?_
  refine ev_gf (c := 49) (t := 50) (X := R 49 0) rfl rfl (fun _ => rfl) rfl (hG 49 0 50 rfl rfl) ?_
  refine ev_go 3 (pc1 := 45) (lv1 := [.ref 49, .ref 23, .int t, .int 1, .int r1, .int r2, xmk]) (st1 := [.int r1, .int (I 50 1)]) (h1 := (124, I, J, R)) rfl ?_
  refine ev_br (b1 := true) rfl rfl (xcd_eq (x := (I 50 1)) (y := r1) (by first | exact b1 | omega)) ?_
  refine ev_go 1 (pc1 := 62) (lv1 := [.ref 49, .ref 23, .int t, .int 1, .int r1, .int r2, xmk]) (st1 := [.ref 49]) (h1 := (124, I, J, R)) rfl ?_
  refine ev_gf (c := 49) (t := 50) (X := R 49 0) rfl rfl (fun _ => rfl) rfl (hG 49 0 50 rfl rfl) ?_
  refine ev_go 3 (pc1 := 69) (lv1 := [.ref 49, .ref 23, .int t, .int 1, .int r1, .int r2, xmk]) (st1 := [.int r1, .int (I 50 1)]) (h1 := (124, I, J, R)) rfl ?_
  refine ev_br (b1 := false) rfl rfl (xcd_nne (x := (I 50 1)) (y := r1) (by first | exact b2 | omega)) ?_
  refine ev_go 4 (pc1 := 82) (lv1 := [.ref 49, .ref 23, .int t, .int 1, .int r1, .int r2, .int r2]) (st1 := [.ref 49]) (h1 := (124, I, J, R)) rfl ?_
  refine ev_gf (c := 49) (t := 50) (X := R 49 0) rfl rfl (fun _ => rfl) rfl (hG 49 0 50 rfl rfl) ?_
  refine ev_go 4 (pc1 := 90) (lv1 := [.ref 49, .ref 23, .int t, .int 1, .int r1, .int r2, .int r2]) (st1 := [.ref 49]) (h1 := (124, (uI I 50 1 r2), J, R)) rfl ?_
  refine ev_gf (c := 49) (t := 51) (X := R 49 1) rfl rfl (fun _ => rfl) rfl (hG 49 1 51 rfl rfl) ?_
  refine ev_go 5 (pc1 := 99) (lv1 := [.ref 49, .ref 23, .int t, .int 1, .int r1, .int r2, .int r2]) (st1 := [.int r2, .int 1, .int (I 51 1), .int 1, .ref 51]) (h1 := (124, (uI I 50 1 r2), J, R)) rfl ?_
  refine ev_go 4 (pc1 := 103) (lv1 := [.ref 49, .ref 23, .int t, .int 1, .int r1, .int r2, .int r2]) (st1 := [.ref 49]) (h1 := (124, (uI (uI I 50 1 r2) 51 1 ((I 51 1) ||| (1 <<< (r2 &&& 31)))), J, R)) rfl ?_
  refine ev_gf (c := 49) (t := 51) (X := R 49 1) rfl rfl (fun _ => rfl) rfl (hG 49 1 51 rfl rfl) ?_
  refine ev_go 7 (pc1 := 114) (lv1 := [.ref 49, .ref 23, .int t, .int 1, .int r1, .int r2, .int r2]) (st1 := [.int r2, .int 1, .int (I 51 0), .int 0, .ref 51]) (h1 := (124, (uI (uI I 50 1 r2) 51 1 ((I 51 1) ||| (1 <<< (r2 &&& 31)))), J, R)) rfl ?_
  refine ev_go 6 (pc1 := 120) (lv1 := [.ref 49, .ref 23, .int t, .int 1, .int r1, .int r2, .int r2]) (st1 := [.int 1]) (h1 := (124, (uI (uI (uI I 50 1 r2) 51 1 ((I 51 1) ||| (1 <<< (r2 &&& 31)))) 51 0 ((I 51 0) &&& ((1 <<< (r2 &&& 31)) ^^^ (-1)))), J, R)) rfl ?_
  exact ev_ret rfl rfl
set_option maxRecDepth 20000 in
theorem ft_b1_23 {L : Nat} {xs : Nat → Int32} {d : Nat} {I : Nat → Nat → Int32} {J : Nat → Nat → Int64} {R : Nat → Nat → Nat} {t r1 r2 : Int32} (hG : aGd R) (c1 : xEv L xs d 39 0 [.ref 40, .int t] [] (124, I, J, R) (some (.int r1)) (124, I, J, R)) (c2 : xEv L xs d 39 0 [.ref 41, .int t] [] (124, I, J, R) (some (.int r2)) (124, I, J, R)) (b1 : (I 50 1).toInt ≠ r1.toInt) (b2 : (I 50 1).toInt = r2.toInt) (b3 : (I 50 1).toInt ≠ r1.toInt) : xEv L xs (d + 1) 117 0 [.ref 49, .ref 23, .int t, .int 1, xmk, xmk, xmk] [] (124, I, J, R) (some (.int 1)) (124, (uI (uI (uI I 50 1 r1) 51 1 ((I 51 1) ||| (1 <<< (r1 &&& 31)))) 51 0 ((I 51 0) &&& ((1 <<< (r1 &&& 31)) ^^^ (-1)))), J, R) := by
  refine ev_go 6 (pc1 := 12) (lv1 := [.ref 49, .ref 23, .int t, .int 1, xmk, xmk, xmk]) (st1 := [.ref 23]) (h1 := (124, I, J, R)) rfl ?_
  refine ev_gf (c := 23) (t := 37) (X := R 23 13) rfl rfl (fun _ => rfl) rfl (hG 23 13 37 rfl rfl) ?_
  refine ev_gf (c := 37) (t := 40) (X := R 37 2) rfl rfl (fun _ => rfl) rfl (hG 37 2 40 rfl rfl) ?_
  refine ev_go 1 (pc1 := 19) (lv1 := [.ref 49, .ref 23, .int t, .int 1, xmk, xmk, xmk]) (st1 := [.int t, .ref 40]) (h1 := (124, I, J, R)) rfl ?_
  refine ev_call (v1 := (some (.int r1))) (h1 := (124, I, J, R)) rfl rfl c1 ?_
  refine ev_go 2 (pc1 := 25) (lv1 := [.ref 49, .ref 23, .int t, .int 1, .int r1, xmk, xmk]) (st1 := [.ref 23]) (h1 := (124, I, J, R)) rfl ?_
  refine ev_gf (c := 23) (t := 37) (X := R 23 13) rfl rfl (fun _ => rfl) rfl (hG 23 13 37 rfl rfl) ?_
  refine ev_gf (c := 37) (t := 41) (X := R 37 3) rfl rfl (fun _ => rfl) rfl (hG 37 3 41 rfl rfl) ?_
  refine ev_go 1 (pc1 := 32) (lv1 := [.ref 49, .ref 23, .int t, .int 1, .int r1, xmk, xmk]) (st1 := [.int t, .ref 41]) (h1 := (124, I, J, R)) rfl ?_
  refine ev_call (v1 := (some (.int r2))) (h1 := (124, I, J, R)) rfl rfl c2 ?_
  refine ev_go 2 (pc1 := 38) (lv1 := [.ref 49, .ref 23, .int t, .int 1, .int r1, .int r2, xmk]) (st1 := [.ref 49]) (h1 := (124, I, J, R)) rfl ?_
  refine ev_gf (c := 49) (t := 50) (X := R 49 0) rfl rfl (fun _ => rfl) rfl (hG 49 0 50 rfl rfl) ?_
  refine ev_go 3 (pc1 := 45) (lv1 := [.ref 49, .ref 23, .int t, .int 1, .int r1, .int r2, xmk]) (st1 := [.int r1, .int (I 50 1)]) (h1 := (124, I, J, R)) rfl ?_
  refine ev_br (b1 := false) rfl rfl (xcd_neq (x := (I 50 1)) (y := r1) (by first | exact b1 | omega)) ?_
  refine ev_go 1 (pc1 := 49) (lv1 := [.ref 49, .ref 23, .int t, .int 1, .int r1, .int r2, xmk]) (st1 := [.ref 49]) (h1 := (124, I, J, R)) rfl ?_
  refine ev_gf (c := 49) (t := 50) (X := R 49 0) rfl rfl (fun _ => rfl) rfl (hG 49 0 50 rfl rfl) ?_
  refine ev_go 3 (pc1 := 56) (lv1 := [.ref 49, .ref 23, .int t, .int 1, .int r1, .int r2, xmk]) (st1 := [.int r2, .int (I 50 1)]) (h1 := (124, I, J, R)) rfl ?_
  refine ev_br (b1 := true) rfl rfl (xcd_eq (x := (I 50 1)) (y := r2) (by first | exact b2 | omega)) ?_
  refine ev_go 1 (pc1 := 62) (lv1 := [.ref 49, .ref 23, .int t, .int 1, .int r1, .int r2, xmk]) (st1 := [.ref 49]) (h1 := (124, I, J, R)) rfl ?_
  refine ev_gf (c := 49) (t := 50) (X := R 49 0) rfl rfl (fun _ => rfl) rfl (hG 49 0 50 rfl rfl) ?_
  refine ev_go 3 (pc1 := 69) (lv1 := [.ref 49, .ref 23, .int t, .int 1, .int r1, .int r2, xmk]) (st1 := [.int r1, .int (I 50 1)]) (h1 := (124, I, J, R)) rfl ?_
  refine ev_br (b1 := true) rfl rfl (xcd_ne (x := (I 50 1)) (y := r1) (by first | exact b3 | omega)) ?_
  refine ev_go 3 (pc1 := 82) (lv1 := [.ref 49, .ref 23, .int t, .int 1, .int r1, .int r2, .int r1]) (st1 := [.ref 49]) (h1 := (124, I, J, R)) rfl ?_
  refine ev_gf (c := 49) (t := 50) (X := R 49 0) rfl rfl (fun _ => rfl) rfl (hG 49 0 50 rfl rfl) ?_
  refine ev_go 4 (pc1 := 90) (lv1 := [.ref 49, .ref 23, .int t, .int 1, .int r1, .int r2, .int r1]) (st1 := [.ref 49]) (h1 := (124, (uI I 50 1 r1), J, R)) rfl ?_
  refine ev_gf (c := 49) (t := 51) (X := R 49 1) rfl rfl (fun _ => rfl) rfl (hG 49 1 51 rfl rfl) ?_
  refine ev_go 5 (pc1 := 99) (lv1 := [.ref 49, .ref 23, .int t, .int 1, .int r1, .int r2, .int r1]) (st1 := [.int r1, .int 1, .int (I 51 1), .int 1, .ref 51]) (h1 := (124, (uI I 50 1 r1), J, R)) rfl ?_
  refine ev_go 4 (pc1 := 103) (lv1 := [.ref 49, .ref 23, .int t, .int 1, .int r1, .int r2, .int r1]) (st1 := [.ref 49]) (h1 := (124, (uI (uI I 50 1 r1) 51 1 ((I 51 1) ||| (1 <<< (r1 &&& 31)))), J, R)) rfl ?_
  refine ev_gf (c := 49) (t := 51) (X := R 49 1) rfl rfl (fun _ => rfl) rfl (hG 49 1 51 rfl rfl) ?_
  refine ev_go 7 (pc1 := 114) (lv1 := [.ref 49, .ref 23, .int t, .int 1, .int r1, .int r2, .int r1]) (st1 := [.int r1, .int 1, .int (I 51 0), .int 0, .ref 51]) (h1 := (124, (uI (uI I 50 1 r1) 51 1 ((I 51 1) ||| (1 <<< (r1 &&& 31)))), J, R)) rfl ?_
  refine ev_go 6 (pc1 := 120) (lv1 := [.ref 49, .ref 23, .int t, .int 1, .int r1, .int r2, .int r1]) (st1 := [.int 1]) (h1 := (124, (uI (uI (uI I 50 1 r1) 51 1 ((I 51 1) ||| (1 <<< (r1 &&& 31)))) 51 0 ((I 51 0) &&& ((1 <<< (r1 &&& 31)) ^^^ (-1)))), J, R)) rfl ?_
  exact ev_ret rfl rfl
set_option maxRecDepth 20000 in
theorem fd_s_23 {L : Nat} {xs : Nat → Int32} {d : Nat} {I : Nat → Nat → Int32} {J : Nat → Nat → Int64} {R : Nat → Nat → Nat} {a : Int32} (hG : aGd R)  {v : Option Value} {h' : xH} (hk : xEv L xs d 116 33 [.ref 49, .ref 23, .ref 44, .int a, .int 0] [] (124, (uI (uI (uI (uI I 50 0 a) 50 1 a) 51 0 (1 <<< (a &&& 31))) 51 1 0), J, R) v h') : xEv L xs d 116 0 [.ref 49, .ref 23, .ref 44, .int a, xmk] [] (124, I, J, R) v h' := by
  refine ev_go 1 (pc1 := 1) (lv1 := [.ref 49, .ref 23, .ref 44, .int a, xmk]) (st1 := [.ref 49]) (h1 := (124, I, J, R)) rfl ?_
  refine ev_gf (c := 49) (t := 50) (X := R 49 0) rfl rfl (fun _ => rfl) rfl (hG 49 0 50 rfl rfl) ?_
  refine ev_go 4 (pc1 := 8) (lv1 := [.ref 49, .ref 23, .ref 44, .int a, xmk]) (st1 := [.ref 49]) (h1 := (124, (uI I 50 0 a), J, R)) rfl ?_
  refine ev_gf (c := 49) (t := 50) (X := R 49 0) rfl rfl (fun _ => rfl) rfl (hG 49 0 50 rfl rfl) ?_
  refine ev_go 4 (pc1 := 15) (lv1 := [.ref 49, .ref 23, .ref 44, .int a, xmk]) (st1 := [.ref 49]) (h1 := (124, (uI (uI I 50 0 a) 50 1 a), J, R)) rfl ?_
  refine ev_gf (c := 49) (t := 51) (X := R 49 1) rfl rfl (fun _ => rfl) rfl (hG 49 1 51 rfl rfl) ?_
  refine ev_go 3 (pc1 := 21) (lv1 := [.ref 49, .ref 23, .ref 44, .int a, xmk]) (st1 := [.int a, .int 1, .int 0, .ref 51]) (h1 := (124, (uI (uI I 50 0 a) 50 1 a), J, R)) rfl ?_
  refine ev_go 3 (pc1 := 24) (lv1 := [.ref 49, .ref 23, .ref 44, .int a, xmk]) (st1 := [.ref 49]) (h1 := (124, (uI (uI (uI I 50 0 a) 50 1 a) 51 0 (1 <<< (a &&& 31))), J, R)) rfl ?_
  refine ev_gf (c := 49) (t := 51) (X := R 49 1) rfl rfl (fun _ => rfl) rfl (hG 49 1 51 rfl rfl) ?_
  refine ev_go 5 (pc1 := 33) (lv1 := [.ref 49, .ref 23, .ref 44, .int a, .int 0]) (st1 := []) (h1 := (124, (uI (uI (uI (uI I 50 0 a) 50 1 a) 51 0 (1 <<< (a &&& 31))) 51 1 0), J, R)) rfl ?_
  exact hk
set_option maxRecDepth 20000 in
theorem fd_e_23 {L : Nat} {xs : Nat → Int32} {d : Nat} {I : Nat → Nat → Int32} {J : Nat → Nat → Int64} {R : Nat → Nat → Nat} {a i : Int32} (hG : aGd R) (b1 : i.toInt ≥ (I 44 4).toInt) : xEv L xs d 116 33 [.ref 49, .ref 23, .ref 44, .int a, .int i] [] (124, I, J, R) (some (.int (I 44 4))) (124, (uI (uI (uI I 52 0 (I 51 0)) 52 1 (I 51 1)) 49 3 1), J, R) := by
  refine ev_go 3 (pc1 := 39) (lv1 := [.ref 49, .ref 23, .ref 44, .int a, .int i]) (st1 := [.int (I 44 4), .int i]) (h1 := (124, I, J, R)) rfl ?_
  refine ev_br (b1 := true) rfl rfl (xcd_ge (x := i) (y := (I 44 4)) (by first | exact b1 | omega)) ?_
  refine ev_go 1 (pc1 := 88) (lv1 := [.ref 49, .ref 23, .ref 44, .int a, .int i]) (st1 := [.ref 49]) (h1 := (124, I, J, R)) rfl ?_
  refine ev_gf (c := 49) (t := 52) (X := R 49 2) rfl rfl (fun _ => rfl) rfl (hG 49 2 52 rfl rfl) ?_
  refine ev_go 2 (pc1 := 93) (lv1 := [.ref 49, .ref 23, .ref 44, .int a, .int i]) (st1 := [.ref 49, .int 0, .ref 52]) (h1 := (124, I, J, R)) rfl ?_
  refine ev_gf (c := 49) (t := 51) (X := R 49 1) rfl rfl (fun _ => rfl) rfl (hG 49 1 51 rfl rfl) ?_
  refine ev_go 4 (pc1 := 100) (lv1 := [.ref 49, .ref 23, .ref 44, .int a, .int i]) (st1 := [.ref 49]) (h1 := (124, (uI I 52 0 (I 51 0)), J, R)) rfl ?_
  refine ev_gf (c := 49) (t := 52) (X := R 49 2) rfl rfl (fun _ => rfl) rfl (hG 49 2 52 rfl rfl) ?_
  refine ev_go 2 (pc1 := 105) (lv1 := [.ref 49, .ref 23, .ref 44, .int a, .int i]) (st1 := [.ref 49, .int 1, .ref 52]) (h1 := (124, (uI I 52 0 (I 51 0)), J, R)) rfl ?_
  refine ev_gf (c := 49) (t := 51) (X := R 49 1) rfl rfl (fun _ => rfl) rfl (hG 49 1 51 rfl rfl) ?_
  refine ev_go 8 (pc1 := 120) (lv1 := [.ref 49, .ref 23, .ref 44, .int a, .int i]) (st1 := [.int (I 44 4)]) (h1 := (124, (uI (uI (uI I 52 0 (I 51 0)) 52 1 (I 51 1)) 49 3 1), J, R)) rfl ?_
  exact ev_ret rfl rfl
set_option maxRecDepth 20000 in
theorem fd_t_23 {L : Nat} {xs : Nat → Int32} {d : Nat} {I : Nat → Nat → Int32} {J : Nat → Nat → Int64} {R : Nat → Nat → Nat} {a i : Int32} (hG : aGd R) (b1 : i.toInt < (I 44 4).toInt) (c1 : xEv L xs d 57 0 [.ref 44, .int i, .ref 23, xmk] [] (124, I, J, R) (some (.int 0)) (124, I, J, R)) : xEv L xs (d + 1) 116 33 [.ref 49, .ref 23, .ref 44, .int a, .int i] [] (124, I, J, R) (some (.int i)) (124, I, J, R) := by
  refine ev_go 3 (pc1 := 39) (lv1 := [.ref 49, .ref 23, .ref 44, .int a, .int i]) (st1 := [.int (I 44 4), .int i]) (h1 := (124, I, J, R)) rfl ?_
  refine ev_br (b1 := false) rfl rfl (xcd_nge (x := i) (y := (I 44 4)) (by first | exact b1 | omega)) ?_
  refine ev_go 3 (pc1 := 46) (lv1 := [.ref 49, .ref 23, .ref 44, .int a, .int i]) (st1 := [.ref 23, .int i, .ref 44]) (h1 := (124, I, J, R)) rfl ?_
  refine ev_call (v1 := (some (.int 0))) (h1 := (124, I, J, R)) rfl rfl c1 ?_
  refine ev_go 2 (pc1 := 80) (lv1 := [.ref 49, .ref 23, .ref 44, .int a, .int i]) (st1 := [.int i]) (h1 := (124, I, J, R)) rfl ?_
  exact ev_ret rfl rfl
set_option maxRecDepth 20000 in
theorem fd_f_23 {L : Nat} {xs : Nat → Int32} {d : Nat} {I : Nat → Nat → Int32} {J : Nat → Nat → Int64} {R : Nat → Nat → Nat} {a i r1 r2 : Int32} (hG : aGd R) (b1 : i.toInt < (I 44 4).toInt) (c1 : xEv L xs d 57 0 [.ref 44, .int i, .ref 23, xmk] [] (124, I, J, R) (some (.int 1)) (124, I, J, R)) (c2 : xEv L xs d 39 0 [.ref 45, .int i] [] (124, I, J, R) (some (.int r1)) (124, I, J, R)) (c3 : xEv L xs d 39 0 [.ref 46, .int i] [] (124, I, J, R) (some (.int r2)) (124, I, J, R)) (c4 : xEv L xs d 117 0 [.ref 49, .ref 23, .int r1, .int r2, xmk, xmk, xmk] [] (124, I, J, R) (some (.int 0)) (124, I, J, R)) : xEv L xs (d + 1) 116 33 [.ref 49, .ref 23, .ref 44, .int a, .int i] [] (124, I, J, R) (some (.int i)) (124, I, J, R) := by
  refine ev_go 3 (pc1 := 39) (lv1 := [.ref 49, .ref 23, .ref 44, .int a, .int i]) (st1 := [.int (I 44 4), .int i]) (h1 := (124, I, J, R)) rfl ?_
  refine ev_br (b1 := false) rfl rfl (xcd_nge (x := i) (y := (I 44 4)) (by first | exact b1 | omega)) ?_
  refine ev_go 3 (pc1 := 46) (lv1 := [.ref 49, .ref 23, .ref 44, .int a, .int i]) (st1 := [.ref 23, .int i, .ref 44]) (h1 := (124, I, J, R)) rfl ?_
  refine ev_call (v1 := (some (.int 1))) (h1 := (124, I, J, R)) rfl rfl c1 ?_
  refine ev_go 4 (pc1 := 55) (lv1 := [.ref 49, .ref 23, .ref 44, .int a, .int i]) (st1 := [.ref 44, .ref 23, .ref 49]) (h1 := (124, I, J, R)) rfl ?_
  refine ev_gf (c := 44) (t := 45) (X := R 44 0) rfl rfl (fun _ => rfl) rfl (hG 44 0 45 rfl rfl) ?_
  refine ev_go 1 (pc1 := 60) (lv1 := [.ref 49, .ref 23, .ref 44, .int a, .int i]) (st1 := [.int i, .ref 45, .ref 23, .ref 49]) (h1 := (124, I, J, R)) rfl ?_
  refine ev_call (v1 := (some (.int r1))) (h1 := (124, I, J, R)) rfl rfl c2 ?_
  refine ev_go 1 (pc1 := 64) (lv1 := [.ref 49, .ref 23, .ref 44, .int a, .int i]) (st1 := [.ref 44, .int r1, .ref 23, .ref 49]) (h1 := (124, I, J, R)) rfl ?_
  refine ev_gf (c := 44) (t := 46) (X := R 44 1) rfl rfl (fun _ => rfl) rfl (hG 44 1 46 rfl rfl) ?_
  refine ev_go 1 (pc1 := 69) (lv1 := [.ref 49, .ref 23, .ref 44, .int a, .int i]) (st1 := [.int i, .ref 46, .int r1, .ref 23, .ref 49]) (h1 := (124, I, J, R)) rfl ?_
  refine ev_call (v1 := (some (.int r2))) (h1 := (124, I, J, R)) rfl rfl c3 ?_
  refine ev_call (v1 := (some (.int 0))) (h1 := (124, I, J, R)) rfl rfl c4 ?_
  refine ev_go 2 (pc1 := 80) (lv1 := [.ref 49, .ref 23, .ref 44, .int a, .int i]) (st1 := [.int i]) (h1 := (124, I, J, R)) rfl ?_
  exact ev_ret rfl rfl
set_option maxRecDepth 20000 in
theorem fd_n_23 {L : Nat} {xs : Nat → Int32} {d : Nat} {I : Nat → Nat → Int32} {J : Nat → Nat → Int64} {R : Nat → Nat → Nat} {I1 : Nat → Nat → Int32} {a i r1 r2 : Int32} (hG : aGd R) (b1 : i.toInt < (I 44 4).toInt) (c1 : xEv L xs d 57 0 [.ref 44, .int i, .ref 23, xmk] [] (124, I, J, R) (some (.int 1)) (124, I, J, R)) (c2 : xEv L xs d 39 0 [.ref 45, .int i] [] (124, I, J, R) (some (.int r1)) (124, I, J, R)) (c3 : xEv L xs d 39 0 [.ref 46, .int i] [] (124, I, J, R) (some (.int r2)) (124, I, J, R)) (c4 : xEv L xs d 117 0 [.ref 49, .ref 23, .int r1, .int r2, xmk, xmk, xmk] [] (124, I, J, R) (some (.int 1)) (124, I1, J, R)) {v : Option Value} {h' : xH} (hk : xEv L xs (d + 1) 116 33 [.ref 49, .ref 23, .ref 44, .int a, .int (i + 1)] [] (124, I1, J, R) v h') : xEv L xs (d + 1) 116 33 [.ref 49, .ref 23, .ref 44, .int a, .int i] [] (124, I, J, R) v h' := by
  refine ev_go 3 (pc1 := 39) (lv1 := [.ref 49, .ref 23, .ref 44, .int a, .int i]) (st1 := [.int (I 44 4), .int i]) (h1 := (124, I, J, R)) rfl ?_
  refine ev_br (b1 := false) rfl rfl (xcd_nge (x := i) (y := (I 44 4)) (by first | exact b1 | omega)) ?_
  refine ev_go 3 (pc1 := 46) (lv1 := [.ref 49, .ref 23, .ref 44, .int a, .int i]) (st1 := [.ref 23, .int i, .ref 44]) (h1 := (124, I, J, R)) rfl ?_
  refine ev_call (v1 := (some (.int 1))) (h1 := (124, I, J, R)) rfl rfl c1 ?_
  refine ev_go 4 (pc1 := 55) (lv1 := [.ref 49, .ref 23, .ref 44, .int a, .int i]) (st1 := [.ref 44, .ref 23, .ref 49]) (h1 := (124, I, J, R)) rfl ?_
  refine ev_gf (c := 44) (t := 45) (X := R 44 0) rfl rfl (fun _ => rfl) rfl (hG 44 0 45 rfl rfl) ?_
  refine ev_go 1 (pc1 := 60) (lv1 := [.ref 49, .ref 23, .ref 44, .int a, .int i]) (st1 := [.int i, .ref 45, .ref 23, .ref 49]) (h1 := (124, I, J, R)) rfl ?_
  refine ev_call (v1 := (some (.int r1))) (h1 := (124, I, J, R)) rfl rfl c2 ?_
  refine ev_go 1 (pc1 := 64) (lv1 := [.ref 49, .ref 23, .ref 44, .int a, .int i]) (st1 := [.ref 44, .int r1, .ref 23, .ref 49]) (h1 := (124, I, J, R)) rfl ?_
  refine ev_gf (c := 44) (t := 46) (X := R 44 1) rfl rfl (fun _ => rfl) rfl (hG 44 1 46 rfl rfl) ?_
  refine ev_go 1 (pc1 := 69) (lv1 := [.ref 49, .ref 23, .ref 44, .int a, .int i]) (st1 := [.int i, .ref 46, .int r1, .ref 23, .ref 49]) (h1 := (124, I, J, R)) rfl ?_
  refine ev_call (v1 := (some (.int r2))) (h1 := (124, I, J, R)) rfl rfl c3 ?_
  refine ev_call (v1 := (some (.int 1))) (h1 := (124, I1, J, R)) rfl rfl c4 ?_
  refine ev_go 3 (pc1 := 33) (lv1 := [.ref 49, .ref 23, .ref 44, .int a, .int (i + 1)]) (st1 := []) (h1 := (124, I1, J, R)) rfl ?_
  exact hk
set_option maxRecDepth 20000 in
theorem fg_p_23 {L : Nat} {xs : Nat → Int32} {d : Nat} {I : Nat → Nat → Int32} {J : Nat → Nat → Int64} {R : Nat → Nat → Nat} {I1 : Nat → Nat → Int32} {J1 : Nat → Nat → Int64} {a g : Int32} (hG : aGd R) (c1 : xEv L xs d 54 0 [.ref 44, .ref 1, xmk, xmk, xmk] [] (124, I, J, R) (some (.int g)) (124, I1, J1, R)) (r_R_0_8 : R 0 8 = 24) (c2 : xEv L xs d 64 0 [.ref 23, .int a] [] (124, (uI I1 1 1 0), J1, R) (some (.int 0)) (124, (uI I1 1 1 0), J1, R)) : xEv L xs (d + 1) 115 0 [.ref 0, .int a, xmk] [] (124, I, J, R) (some (.int (-2000))) (124, (uI I1 1 1 0), J1, R) := by
  refine ev_go 1 (pc1 := 1) (lv1 := [.ref 0, .int a, xmk]) (st1 := [.ref 0]) (h1 := (124, I, J, R)) rfl ?_
  refine ev_gf (c := 0) (t := 44) (X := R 0 2) rfl rfl (fun _ => rfl) rfl (hG 0 2 44 rfl rfl) ?_
  refine ev_go 1 (pc1 := 5) (lv1 := [.ref 0, .int a, xmk]) (st1 := [.ref 0, .ref 44]) (h1 := (124, I, J, R)) rfl ?_
  refine ev_gf (c := 0) (t := 1) (X := R 0 0) rfl rfl (fun _ => rfl) rfl (hG 0 0 1 rfl rfl) ?_
  refine ev_call (v1 := (some (.int g))) (h1 := (124, I1, J1, R)) rfl rfl c1 ?_
  refine ev_go 2 (pc1 := 13) (lv1 := [.ref 0, .int a, .int g]) (st1 := [.ref 0]) (h1 := (124, I1, J1, R)) rfl ?_
  refine ev_gf (c := 0) (t := 1) (X := R 0 0) rfl rfl (fun _ => rfl) rfl (hG 0 0 1 rfl rfl) ?_
  refine ev_go 3 (pc1 := 21) (lv1 := [.ref 0, .int a, .int g]) (st1 := [.ref 0]) (h1 := (124, (uI I1 1 1 0), J1, R)) rfl ?_
  refine ev_gf (c := 0) (t := 23) (X := R 0 8) rfl rfl (fun _ => rfl) rfl r_R_0_8 ?_
  refine ev_go 1 (pc1 := 25) (lv1 := [.ref 0, .int a, .int g]) (st1 := [.int a, .ref 23]) (h1 := (124, (uI I1 1 1 0), J1, R)) rfl ?_
  refine ev_call (v1 := (some (.int 0))) (h1 := (124, (uI I1 1 1 0), J1, R)) rfl rfl c2 ?_
  refine ev_go 2 (pc1 := 34) (lv1 := [.ref 0, .int a, .int g]) (st1 := [.int (-2000)]) (h1 := (124, (uI I1 1 1 0), J1, R)) rfl ?_
  exact ev_ret rfl rfl
set_option maxRecDepth 20000 in
theorem fg_r_23 {L : Nat} {xs : Nat → Int32} {d : Nat} {I : Nat → Nat → Int32} {J : Nat → Nat → Int64} {R : Nat → Nat → Nat} {I1 : Nat → Nat → Int32} {J1 : Nat → Nat → Int64} {a : Int32} (hG : aGd R) (c1 : xEv L xs d 54 0 [.ref 44, .ref 1, xmk, xmk, xmk] [] (124, I, J, R) (some (.int 0)) (124, I1, J1, R)) (r_R_0_8 : R 0 8 = 24) (c2 : xEv L xs d 64 0 [.ref 23, .int a] [] (124, (uI I1 1 1 0), J1, R) (some (.int 1)) (124, (uI I1 1 1 0), J1, R)) : xEv L xs (d + 1) 115 0 [.ref 0, .int a, xmk] [] (124, I, J, R) (some (.int (-1000))) (124, (uI I1 1 1 0), J1, R) := by
  refine ev_go 1 (pc1 := 1) (lv1 := [.ref 0, .int a, xmk]) (st1 := [.ref 0]) (h1 := (124, I, J, R)) rfl ?_
  refine ev_gf (c := 0) (t := 44) (X := R 0 2) rfl rfl (fun _ => rfl) rfl (hG 0 2 44 rfl rfl) ?_
  refine ev_go 1 (pc1 := 5) (lv1 := [.ref 0, .int a, xmk]) (st1 := [.ref 0, .ref 44]) (h1 := (124, I, J, R)) rfl ?_
  refine ev_gf (c := 0) (t := 1) (X := R 0 0) rfl rfl (fun _ => rfl) rfl (hG 0 0 1 rfl rfl) ?_
  refine ev_call (v1 := (some (.int 0))) (h1 := (124, I1, J1, R)) rfl rfl c1 ?_
  refine ev_go 2 (pc1 := 13) (lv1 := [.ref 0, .int a, .int 0]) (st1 := [.ref 0]) (h1 := (124, I1, J1, R)) rfl ?_
  refine ev_gf (c := 0) (t := 1) (X := R 0 0) rfl rfl (fun _ => rfl) rfl (hG 0 0 1 rfl rfl) ?_
  refine ev_go 3 (pc1 := 21) (lv1 := [.ref 0, .int a, .int 0]) (st1 := [.ref 0]) (h1 := (124, (uI I1 1 1 0), J1, R)) rfl ?_
  refine ev_gf (c := 0) (t := 23) (X := R 0 8) rfl rfl (fun _ => rfl) rfl r_R_0_8 ?_
  refine ev_go 1 (pc1 := 25) (lv1 := [.ref 0, .int a, .int 0]) (st1 := [.int a, .ref 23]) (h1 := (124, (uI I1 1 1 0), J1, R)) rfl ?_
  refine ev_call (v1 := (some (.int 1))) (h1 := (124, (uI I1 1 1 0), J1, R)) rfl rfl c2 ?_
  refine ev_go 4 (pc1 := 42) (lv1 := [.ref 0, .int a, .int 0]) (st1 := [.int (-1000)]) (h1 := (124, (uI I1 1 1 0), J1, R)) rfl ?_
  exact ev_ret rfl rfl
set_option maxRecDepth 20000 in
theorem fg_d_23 {L : Nat} {xs : Nat → Int32} {d : Nat} {I : Nat → Nat → Int32} {J : Nat → Nat → Int64} {R : Nat → Nat → Nat} {I1 : Nat → Nat → Int32} {J1 : Nat → Nat → Int64} {I2 : Nat → Nat → Int32} {a r1 r2 : Int32} (hG : aGd R) (c1 : xEv L xs d 54 0 [.ref 44, .ref 1, xmk, xmk, xmk] [] (124, I, J, R) (some (.int 1)) (124, I1, J1, R)) (r_R_0_8 : R 0 8 = 24) (c2 : xEv L xs d 64 0 [.ref 23, .int a] [] (124, (uI I1 1 1 0), J1, R) (some (.int 1)) (124, (uI I1 1 1 0), J1, R)) (c3 : xEv L xs d 116 0 [.ref 49, .ref 23, .ref 44, .int a, xmk] [] (124, (uI I1 1 1 0), J1, R) (some (.int r1)) (124, I2, J1, R)) (c4 : xEv L xs d 61 0 [.ref 0, .int r1] [] (124, I2, J1, R) (some (.int r2)) (124, I2, J1, R)) : xEv L xs (d + 1) 115 0 [.ref 0, .int a, xmk] [] (124, I, J, R) (some (.int r2)) (124, I2, J1, R) := by
  refine ev_go 1 (pc1 := 1) (lv1 := [.ref 0, .int a, xmk]) (st1 := [.ref 0]) (h1 := (124, I, J, R)) rfl ?_
  refine ev_gf (c := 0) (t := 44) (X := R 0 2) rfl rfl (fun _ => rfl) rfl (hG 0 2 44 rfl rfl) ?_
  refine ev_go 1 (pc1 := 5) (lv1 := [.ref 0, .int a, xmk]) (st1 := [.ref 0, .ref 44]) (h1 := (124, I, J, R)) rfl ?_
  refine ev_gf (c := 0) (t := 1) (X := R 0 0) rfl rfl (fun _ => rfl) rfl (hG 0 0 1 rfl rfl) ?_
  refine ev_call (v1 := (some (.int 1))) (h1 := (124, I1, J1, R)) rfl rfl c1 ?_
  refine ev_go 2 (pc1 := 13) (lv1 := [.ref 0, .int a, .int 1]) (st1 := [.ref 0]) (h1 := (124, I1, J1, R)) rfl ?_
  refine ev_gf (c := 0) (t := 1) (X := R 0 0) rfl rfl (fun _ => rfl) rfl (hG 0 0 1 rfl rfl) ?_
  refine ev_go 3 (pc1 := 21) (lv1 := [.ref 0, .int a, .int 1]) (st1 := [.ref 0]) (h1 := (124, (uI I1 1 1 0), J1, R)) rfl ?_
  refine ev_gf (c := 0) (t := 23) (X := R 0 8) rfl rfl (fun _ => rfl) rfl r_R_0_8 ?_
  refine ev_go 1 (pc1 := 25) (lv1 := [.ref 0, .int a, .int 1]) (st1 := [.int a, .ref 23]) (h1 := (124, (uI I1 1 1 0), J1, R)) rfl ?_
  refine ev_call (v1 := (some (.int 1))) (h1 := (124, (uI I1 1 1 0), J1, R)) rfl rfl c2 ?_
  refine ev_go 5 (pc1 := 45) (lv1 := [.ref 0, .int a, .int 1]) (st1 := [.ref 0, .ref 0]) (h1 := (124, (uI I1 1 1 0), J1, R)) rfl ?_
  refine ev_gf (c := 0) (t := 49) (X := R 0 3) rfl rfl (fun _ => rfl) rfl (hG 0 3 49 rfl rfl) ?_
  refine ev_go 1 (pc1 := 49) (lv1 := [.ref 0, .int a, .int 1]) (st1 := [.ref 0, .ref 49, .ref 0]) (h1 := (124, (uI I1 1 1 0), J1, R)) rfl ?_
  refine ev_gf (c := 0) (t := 23) (X := R 0 8) rfl rfl (fun _ => rfl) rfl r_R_0_8 ?_
  refine ev_go 1 (pc1 := 53) (lv1 := [.ref 0, .int a, .int 1]) (st1 := [.ref 0, .ref 23, .ref 49, .ref 0]) (h1 := (124, (uI I1 1 1 0), J1, R)) rfl ?_
  refine ev_gf (c := 0) (t := 44) (X := R 0 2) rfl rfl (fun _ => rfl) rfl (hG 0 2 44 rfl rfl) ?_
  refine ev_go 1 (pc1 := 57) (lv1 := [.ref 0, .int a, .int 1]) (st1 := [.int a, .ref 44, .ref 23, .ref 49, .ref 0]) (h1 := (124, (uI I1 1 1 0), J1, R)) rfl ?_
  refine ev_call (v1 := (some (.int r1))) (h1 := (124, I2, J1, R)) rfl rfl c3 ?_
  refine ev_call (v1 := (some (.int r2))) (h1 := (124, I2, J1, R)) rfl rfl c4 ?_
  exact ev_ret rfl rfl
/-- isTimely says something -/
theorem ti_any_23 {L : Nat} {xs : Nat → Int32} {d : Nat} {I : Nat → Nat → Int32} {J : Nat → Nat → Int64} {R : Nat → Nat → Nat} (hG : aGd R) (i : Int32) : xEv L xs (d + 1) 57 0 [.ref 44, .int i, .ref 23, xmk] [] (124, I, J, R) (some (.int 0)) (124, I, J, R) ∨ xEv L xs (d + 1) 57 0 [.ref 44, .int i, .ref 23, xmk] [] (124, I, J, R) (some (.int 1)) (124, I, J, R) := by
  have a1 := at_run (L := L) (xs := xs) (d := d) (h := (124, I, J, R)) (c := 45) (n := 225) (fun _ => rfl) (by decide) i
  have a2 := at_run (L := L) (xs := xs) (d := d) (h := (124, I, J, R)) (c := 45) (n := 225) (fun _ => rfl) (by decide) (i - 1)
  generalize (if 0 ≤ i.toInt ∧ i.toInt < (225 : Nat) then ((124, I, J, R) : xH).2.1 45 i.toNatClampNeg else 0) = t at a1
  generalize (if 0 ≤ (i - 1).toInt ∧ (i - 1).toInt < (225 : Nat) then ((124, I, J, R) : xH).2.1 45 (i - 1).toNatClampNeg else 0) = u at a2
  by_cases h1 : t.toInt ≥ (I 37 5).toInt
  · exact Or.inl (ti_a_23 hG a1 h1)
  by_cases h2 : i.toInt = 0
  · exact Or.inr (ti_0_23 hG a1 (by omega) h2)
  by_cases h3 : t.toInt < u.toInt
  · exact Or.inl (ti_1_23 hG a1 (by omega) h2 a2 h3)
  · exact Or.inr (ti_2_23 hG a1 (by omega) h2 a2 (by omega))
/-- a telling of a fight says something, and touches no more than what is tried -/
theorem ft_any_23 {L : Nat} {xs : Nat → Int32} {d : Nat} {I : Nat → Nat → Int32} {J : Nat → Nat → Int64} {R : Nat → Nat → Nat} (hG : aGd R) (t n : Int32) : xEv L xs (d + 1) 117 0 [.ref 49, .ref 23, .int t, .int n, xmk, xmk, xmk] [] (124, I, J, R) (some (.int 0)) (124, I, J, R) ∨ (n.toInt < 2 ∧ ∃ I' : Nat → Nat → Int32, xEv L xs (d + 1) 117 0 [.ref 49, .ref 23, .int t, .int n, xmk, xmk, xmk] [] (124, I, J, R) (some (.int 1)) (124, I', J, R) ∧ ∀ c q, c ≠ 50 → c ≠ 51 → I' c q = I c q) := by
  by_cases h1 : n.toInt < 0
  · exact Or.inl (ft_y_23 hG h1)
  by_cases h2 : n.toInt ≥ 2
  · exact Or.inl (ft_x_23 hG (by omega) h2)
  have a1 := at_run (L := L) (xs := xs) (d := d) (h := (124, I, J, R)) (c := 40) (n := 64) (fun _ => rfl) (by decide) t
  have a2 := at_run (L := L) (xs := xs) (d := d) (h := (124, I, J, R)) (c := 41) (n := 64) (fun _ => rfl) (by decide) t
  generalize (if 0 ≤ t.toInt ∧ t.toInt < (64 : Nat) then ((124, I, J, R) : xH).2.1 40 t.toNatClampNeg else 0) = r1 at a1
  generalize (if 0 ≤ t.toInt ∧ t.toInt < (64 : Nat) then ((124, I, J, R) : xH).2.1 41 t.toNatClampNeg else 0) = r2 at a2
  have h3 : n = 0 ∨ n = 1 := by
    have h3 : n.toInt = 0 ∨ n.toInt = 1 := by omega
    rcases h3 with h3 | h3
    · exact Or.inl (Int32.toInt_inj.mp h3)
    · exact Or.inr (Int32.toInt_inj.mp h3)
  rcases h3 with rfl | rfl
  · by_cases g1 : (I 50 0).toInt = r1.toInt
    · exact Or.inr ⟨by decide, _, ft_a0_23 hG a1 a2 g1 g1, fun c q c1 c2 => by rw [uI_c _ _ _ c2, uI_c _ _ _ c2, uI_c _ _ _ c1]⟩
    · by_cases g2 : (I 50 0).toInt = r2.toInt
      · exact Or.inr ⟨by decide, _, ft_b0_23 hG a1 a2 g1 g2 g1, fun c q c1 c2 => by rw [uI_c _ _ _ c2, uI_c _ _ _ c2, uI_c _ _ _ c1]⟩
      · exact Or.inl (ft_n0_23 hG a1 a2 g1 g2)
  · by_cases g1 : (I 50 1).toInt = r1.toInt
    · exact Or.inr ⟨by decide, _, ft_a1_23 hG a1 a2 g1 g1, fun c q c1 c2 => by rw [uI_c _ _ _ c2, uI_c _ _ _ c2, uI_c _ _ _ c1]⟩
    · by_cases g2 : (I 50 1).toInt = r2.toInt
      · exact Or.inr ⟨by decide, _, ft_b1_23 hG a1 a2 g1 g2 g1, fun c q c1 c2 => by rw [uI_c _ _ _ c2, uI_c _ _ _ c2, uI_c _ _ _ c1]⟩
      · exact Or.inl (ft_n1_23 hG a1 a2 g1 g2)
/-- the class alone, up to a telling that can't be -/
theorem fcl_23 {L : Nat} {xs : Nat → Int32} {d : Nat} {J : Nat → Nat → Int64} {R : Nat → Nat → Nat} (hG : aGd R) {m j : Nat} (hm : m ≤ 225) (hj : j < m) {a : Int32} : ∀ (f k : Nat) (i : Int32) (I : Nat → Nat → Int32), k + f = j → i.toInt = k → (I 44 4).toInt = m → 2 ≤ (I 46 j).toInt → ∃ (r : Int32) (I' : Nat → Nat → Int32), xEv L xs (d + 2) 116 33 [.ref 49, .ref 23, .ref 44, .int a, .int i] [] (124, I, J, R) (some (.int r)) (124, I', J, R) ∧ ∀ c q, c ≠ 50 → c ≠ 51 → I' c q = I c q := by
  intro f
  induction f with
  | zero =>
    intro k i I hk hi s1 hb
    have eci := clamp_s (i := i) (by omega)
    have eki : i.toNatClampNeg = j := by omega
    rcases ti_any_23 (L := L) (xs := xs) (d := d) (I := I) (J := J) hG i with x | x
    · exact ⟨i, I, fd_t_23 hG (by omega) x, fun _ _ _ _ => rfl⟩
    · have a1 := at_run (L := L) (xs := xs) (d := d + 1) (h := (124, I, J, R)) (c := 45) (n := 225) (fun _ => rfl) (by decide) i
      have a2 := at_run (L := L) (xs := xs) (d := d + 1) (h := (124, I, J, R)) (c := 46) (n := 225) (fun _ => rfl) (by decide) i
      rw [if_pos ⟨by omega, by omega⟩] at a1 a2
      have hb' : 2 ≤ (I 46 i.toNatClampNeg).toInt := by rw [eki]; exact hb
      exact ⟨i, I, fd_f_23 hG (by omega) x a1 a2 (ft_x_23 hG (show (I 46 i.toNatClampNeg).toInt ≥ 0 by omega) hb'), fun _ _ _ _ => rfl⟩
  | succ f ih =>
    intro k i I hk hi s1 hb
    have hi' : (i + 1).toInt = (k + 1 : Nat) := by rw [i_add1 (by omega)]; omega
    rcases ti_any_23 (L := L) (xs := xs) (d := d) (I := I) (J := J) hG i with x | x
    · exact ⟨i, I, fd_t_23 hG (by omega) x, fun _ _ _ _ => rfl⟩
    · have a1 := at_run (L := L) (xs := xs) (d := d + 1) (h := (124, I, J, R)) (c := 45) (n := 225) (fun _ => rfl) (by decide) i
      have a2 := at_run (L := L) (xs := xs) (d := d + 1) (h := (124, I, J, R)) (c := 46) (n := 225) (fun _ => rfl) (by decide) i
      rw [if_pos ⟨by omega, by omega⟩] at a1 a2
      rcases ft_any_23 (L := L) (xs := xs) (d := d) (I := I) (J := J) hG (I 45 i.toNatClampNeg) (I 46 i.toNatClampNeg) with y | ⟨-, I', y, e⟩
      · exact ⟨i, I, fd_f_23 hG (by omega) x a1 a2 y, fun _ _ _ _ => rfl⟩
      · obtain ⟨r, I2, z1, z2⟩ := ih (k + 1) (i + 1) I' (by omega) hi' (by rw [e 44 4 (by decide) (by decide)]; exact s1) (by rw [e 46 j (by decide) (by decide)]; exact hb)
        exact ⟨r, I2, fd_n_23 hG (by omega) x a1 a2 y z1, fun c q c1 c2 => (z2 c q c1 c2).trans (e c q c1 c2)⟩
