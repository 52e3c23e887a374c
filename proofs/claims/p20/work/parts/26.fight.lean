set_option maxRecDepth 20000 in
theorem ar_0 {L : Nat} {xs : Nat → Int32} {d : Nat} {I : Nat → Nat → Int32} {J : Nat → Nat → Int64} {R : Nat → Nat → Nat} {I1 : Nat → Nat → Int32} {J1 : Nat → Nat → Int64} {R1 : Nat → Nat → Nat} {most r : Int32} (hG : aGd R) (c1 : xEv L xs d 174 0 [.ref 86, .int most] [] (124, (uI (uI I 86 33 (I 86 8)) 86 34 (I 86 9)), J, R) (some (.int r)) (124, I1, J1, R1)) (hG1 : aGd R1) (z0 : r = 0 ∨ r = 1) : xEv L xs (d + 1) 173 0 [.ref 86, .int most, xmk] [] (124, I, J, R) (some (.int r)) (124, (uI (uI I1 86 8 (I1 86 33)) 86 9 (I1 86 34)), J1, R1) := by
  refine ev_go 10 (pc1 := 18) (lv1 := [.ref 86, .int most, xmk]) (st1 := [.int most, .ref 86]) (h1 := (124, (uI (uI I 86 33 (I 86 8)) 86 34 (I 86 9)), J, R)) rfl ?_
  refine ev_call (v1 := (some (.int r))) (h1 := (124, I1, J1, R1)) rfl rfl c1 ?_
  refine ev_go 10 (pc1 := 39) (lv1 := [.ref 86, .int most, .int r]) (st1 := [.int r]) (h1 := (124, (uI (uI I1 86 8 (I1 86 33)) 86 9 (I1 86 34)), J1, R1)) rfl ?_
  exact ev_retz rfl rfl z0
set_option maxRecDepth 20000 in
theorem fi_1 {L : Nat} {xs : Nat → Int32} {d : Nat} {I : Nat → Nat → Int32} {J : Nat → Nat → Int64} {R : Nat → Nat → Nat} {I1 : Nat → Nat → Int32} {J1 : Nat → Nat → Int64} {R1 : Nat → Nat → Nat} {pn g : Int32} (hG : aGd R) (c1 : xEv L xs d 173 0 [.ref 86, .int 1, xmk] [] (124, I, J, R) (some (.int g)) (124, I1, J1, R1)) (hG1 : aGd R1) (c2 : xEv L xs d 167 0 [.ref 86, .int pn] [] (124, I1, J1, R1) (some (.int 0)) (124, I1, J1, R1)) : xEv L xs (d + 1) 219 0 [.ref 86, .int pn, xmk, xmk, xmk, xmk, xmk, xmk, xmk] [] (124, I, J, R) (some (.int (-2000))) (124, I1, J1, R1) := by
  refine ev_go 2 (pc1 := 2) (lv1 := [.ref 86, .int pn, xmk, xmk, xmk, xmk, xmk, xmk, xmk]) (st1 := [.int 1, .ref 86]) (h1 := (124, I, J, R)) rfl ?_
  refine ev_call (v1 := (some (.int g))) (h1 := (124, I1, J1, R1)) rfl rfl c1 ?_
  refine ev_go 3 (pc1 := 8) (lv1 := [.ref 86, .int pn, .int g, xmk, xmk, xmk, xmk, xmk, xmk]) (st1 := [.int pn, .ref 86]) (h1 := (124, I1, J1, R1)) rfl ?_
  refine ev_call (v1 := (some (.int 0))) (h1 := (124, I1, J1, R1)) rfl rfl c2 ?_
  refine ev_go 2 (pc1 := 17) (lv1 := [.ref 86, .int pn, .int g, xmk, xmk, xmk, xmk, xmk, xmk]) (st1 := [.int (-2000)]) (h1 := (124, I1, J1, R1)) rfl ?_
  exact ev_ret rfl rfl
set_option maxRecDepth 20000 in
theorem fi_2 {L : Nat} {xs : Nat → Int32} {d : Nat} {I : Nat → Nat → Int32} {J : Nat → Nat → Int64} {R : Nat → Nat → Nat} {I1 : Nat → Nat → Int32} {J1 : Nat → Nat → Int64} {R1 : Nat → Nat → Nat} {pn : Int32} (hG : aGd R) (c1 : xEv L xs d 173 0 [.ref 86, .int 1, xmk] [] (124, I, J, R) (some (.int 0)) (124, I1, J1, R1)) (hG1 : aGd R1) (c2 : xEv L xs d 167 0 [.ref 86, .int pn] [] (124, I1, J1, R1) (some (.int 1)) (124, I1, J1, R1)) : xEv L xs (d + 1) 219 0 [.ref 86, .int pn, xmk, xmk, xmk, xmk, xmk, xmk, xmk] [] (124, I, J, R) (some (.int (-1000))) (124, I1, J1, R1) := by
  refine ev_go 2 (pc1 := 2) (lv1 := [.ref 86, .int pn, xmk, xmk, xmk, xmk, xmk, xmk, xmk]) (st1 := [.int 1, .ref 86]) (h1 := (124, I, J, R)) rfl ?_
  refine ev_call (v1 := (some (.int 0))) (h1 := (124, I1, J1, R1)) rfl rfl c1 ?_
  refine ev_go 3 (pc1 := 8) (lv1 := [.ref 86, .int pn, .int 0, xmk, xmk, xmk, xmk, xmk, xmk]) (st1 := [.int pn, .ref 86]) (h1 := (124, I1, J1, R1)) rfl ?_
  refine ev_call (v1 := (some (.int 1))) (h1 := (124, I1, J1, R1)) rfl rfl c2 ?_
  refine ev_go 4 (pc1 := 25) (lv1 := [.ref 86, .int pn, .int 0, xmk, xmk, xmk, xmk, xmk, xmk]) (st1 := [.int (-1000)]) (h1 := (124, I1, J1, R1)) rfl ?_
  exact ev_ret rfl rfl
set_option maxRecDepth 20000 in
theorem fi_3 {L : Nat} {xs : Nat → Int32} {d : Nat} {I : Nat → Nat → Int32} {J : Nat → Nat → Int64} {R : Nat → Nat → Nat} {I1 : Nat → Nat → Int32} {J1 : Nat → Nat → Int64} {R1 : Nat → Nat → Nat} {pn : Int32} (hG : aGd R) (c1 : xEv L xs d 173 0 [.ref 86, .int 1, xmk] [] (124, I, J, R) (some (.int 1)) (124, I1, J1, R1)) (hG1 : aGd R1) (c2 : xEv L xs d 167 0 [.ref 86, .int pn] [] (124, I1, J1, R1) (some (.int 1)) (124, I1, J1, R1)) {v : Option Value} {h' : xH} (hk : xEv L xs (d + 1) 219 53 [.ref 86, .int pn, .int 1, .int pn, .int pn, .int 0, .int 0, xmk, xmk] [] (124, (uI (uI I1 118 0 (1 <<< (pn &&& 31))) 118 1 0), J1, R1) v h') : xEv L xs (d + 1) 219 0 [.ref 86, .int pn, xmk, xmk, xmk, xmk, xmk, xmk, xmk] [] (124, I, J, R) v h' := by
  refine ev_go 2 (pc1 := 2) (lv1 := [.ref 86, .int pn, xmk, xmk, xmk, xmk, xmk, xmk, xmk]) (st1 := [.int 1, .ref 86]) (h1 := (124, I, J, R)) rfl ?_
  refine ev_call (v1 := (some (.int 1))) (h1 := (124, I1, J1, R1)) rfl rfl c1 ?_
  refine ev_go 3 (pc1 := 8) (lv1 := [.ref 86, .int pn, .int 1, xmk, xmk, xmk, xmk, xmk, xmk]) (st1 := [.int pn, .ref 86]) (h1 := (124, I1, J1, R1)) rfl ?_
  refine ev_call (v1 := (some (.int 1))) (h1 := (124, I1, J1, R1)) rfl rfl c2 ?_
  refine ev_go 4 (pc1 := 27) (lv1 := [.ref 86, .int pn, .int 1, xmk, xmk, xmk, xmk, xmk, xmk]) (st1 := [.ref 86]) (h1 := (124, I1, J1, R1)) rfl ?_
  refine ev_gf (c := 86) (t := 118) (X := R1 86 53) rfl rfl (fun _ => rfl) rfl (hG1 86 53 118 rfl rfl) ?_
  refine ev_go 3 (pc1 := 33) (lv1 := [.ref 86, .int pn, .int 1, xmk, xmk, xmk, xmk, xmk, xmk]) (st1 := [.int pn, .int 1, .int 0, .ref 118]) (h1 := (124, I1, J1, R1)) rfl ?_
  refine ev_go 3 (pc1 := 36) (lv1 := [.ref 86, .int pn, .int 1, xmk, xmk, xmk, xmk, xmk, xmk]) (st1 := [.ref 86]) (h1 := (124, (uI I1 118 0 (1 <<< (pn &&& 31))), J1, R1)) rfl ?_
  refine ev_gf (c := 86) (t := 118) (X := R1 86 53) rfl rfl (fun _ => rfl) rfl (hG1 86 53 118 rfl rfl) ?_
  refine ev_go 11 (pc1 := 53) (lv1 := [.ref 86, .int pn, .int 1, .int pn, .int pn, .int 0, .int 0, xmk, xmk]) (st1 := []) (h1 := (124, (uI (uI I1 118 0 (1 <<< (pn &&& 31))) 118 1 0), J1, R1)) rfl ?_
  exact hk
set_option maxRecDepth 20000 in
theorem fi_e {L : Nat} {xs : Nat → Int32} {d : Nat} {I : Nat → Nat → Int32} {J : Nat → Nat → Int64} {R : Nat → Nat → Nat} {pn on tw be k : Int32} {w1 w2 : Value} (hG : aGd R) (b1 : k.toInt ≥ (I 86 30).toInt) : xEv L xs d 219 53 [.ref 86, .int pn, .int 1, .int on, .int tw, .int be, .int k, w1, w2] [] (124, I, J, R) (some (.int (I 86 30))) (124, (uI (uI (uI I 86 51 1) 117 0 (I 118 0)) 117 1 (I 118 1)), J, R) := by
  refine ev_go 3 (pc1 := 59) (lv1 := [.ref 86, .int pn, .int 1, .int on, .int tw, .int be, .int k, w1, w2]) (st1 := [.int (I 86 30), .int k]) (h1 := (124, I, J, R)) rfl ?_
  refine ev_br (b1 := true) rfl rfl (xcd_ge (x := k) (y := (I 86 30)) (by first | exact b1 | omega)) ?_
  refine ev_go 4 (pc1 := 204) (lv1 := [.ref 86, .int pn, .int 1, .int on, .int tw, .int be, .int k, w1, w2]) (st1 := [.ref 86]) (h1 := (124, (uI I 86 51 1), J, R)) rfl ?_
  refine ev_gf (c := 86) (t := 117) (X := R 86 52) rfl rfl (fun _ => rfl) rfl (hG 86 52 117 rfl rfl) ?_
  refine ev_go 2 (pc1 := 209) (lv1 := [.ref 86, .int pn, .int 1, .int on, .int tw, .int be, .int k, w1, w2]) (st1 := [.ref 86, .int 0, .ref 117]) (h1 := (124, (uI I 86 51 1), J, R)) rfl ?_
  refine ev_gf (c := 86) (t := 118) (X := R 86 53) rfl rfl (fun _ => rfl) rfl (hG 86 53 118 rfl rfl) ?_
  refine ev_go 4 (pc1 := 216) (lv1 := [.ref 86, .int pn, .int 1, .int on, .int tw, .int be, .int k, w1, w2]) (st1 := [.ref 86]) (h1 := (124, (uI (uI I 86 51 1) 117 0 (I 118 0)), J, R)) rfl ?_
  refine ev_gf (c := 86) (t := 117) (X := R 86 52) rfl rfl (fun _ => rfl) rfl (hG 86 52 117 rfl rfl) ?_
  refine ev_go 2 (pc1 := 221) (lv1 := [.ref 86, .int pn, .int 1, .int on, .int tw, .int be, .int k, w1, w2]) (st1 := [.ref 86, .int 1, .ref 117]) (h1 := (124, (uI (uI I 86 51 1) 117 0 (I 118 0)), J, R)) rfl ?_
  refine ev_gf (c := 86) (t := 118) (X := R 86 53) rfl rfl (fun _ => rfl) rfl (hG 86 53 118 rfl rfl) ?_
  refine ev_go 5 (pc1 := 231) (lv1 := [.ref 86, .int pn, .int 1, .int on, .int tw, .int be, .int k, w1, w2]) (st1 := [.int (I 86 30)]) (h1 := (124, (uI (uI (uI I 86 51 1) 117 0 (I 118 0)) 117 1 (I 118 1)), J, R)) rfl ?_
  exact ev_ret rfl rfl
set_option maxRecDepth 20000 in
theorem fi_a {L : Nat} {xs : Nat → Int32} {d : Nat} {I : Nat → Nat → Int32} {J : Nat → Nat → Int64} {R : Nat → Nat → Nat} {pn on tw be k : Int32} {w1 w2 : Value} (hG : aGd R) (b1 : k.toInt < (I 86 30).toInt) (n1 : 0 ≤ k.toInt) (m1 : k.toInt < 300) (c1 : xEv L xs d 171 0 [.ref 86, .int (I 104 k.toNatClampNeg)] [] (124, I, J, R) (some (.int 0)) (124, I, J, R)) : xEv L xs (d + 1) 219 53 [.ref 86, .int pn, .int 1, .int on, .int tw, .int be, .int k, w1, w2] [] (124, I, J, R) (some (.int ((-1) - k))) (124, I, J, R) := by
  refine ev_go 3 (pc1 := 59) (lv1 := [.ref 86, .int pn, .int 1, .int on, .int tw, .int be, .int k, w1, w2]) (st1 := [.int (I 86 30), .int k]) (h1 := (124, I, J, R)) rfl ?_
  refine ev_br (b1 := false) rfl rfl (xcd_nge (x := k) (y := (I 86 30)) (by first | exact b1 | omega)) ?_
  refine ev_go 1 (pc1 := 63) (lv1 := [.ref 86, .int pn, .int 1, .int on, .int tw, .int be, .int k, w1, w2]) (st1 := [.ref 86]) (h1 := (124, I, J, R)) rfl ?_
  refine ev_gf (c := 86) (t := 104) (X := R 86 31) rfl rfl (fun _ => rfl) rfl (hG 86 31 104 rfl rfl) ?_
  refine ev_go 1 (pc1 := 68) (lv1 := [.ref 86, .int pn, .int 1, .int on, .int tw, .int be, .int k, w1, w2]) (st1 := [.int k, .ref 104]) (h1 := (124, I, J, R)) rfl ?_
  refine ev_ild (n := 300) rfl rfl (fun _ => rfl) n1 m1 ?_
  refine ev_go 3 (pc1 := 74) (lv1 := [.ref 86, .int pn, .int 1, .int on, .int tw, .int be, .int k, .int (I 104 k.toNatClampNeg), w2]) (st1 := [.int (I 104 k.toNatClampNeg), .ref 86]) (h1 := (124, I, J, R)) rfl ?_
  refine ev_call (v1 := (some (.int 0))) (h1 := (124, I, J, R)) rfl rfl c1 ?_
  refine ev_go 9 (pc1 := 125) (lv1 := [.ref 86, .int pn, .int 1, .int on, .int tw, .int be, .int k, .int (I 104 k.toNatClampNeg), .int (-1)]) (st1 := [.int ((-1) - k)]) (h1 := (124, I, J, R)) rfl ?_
  exact ev_ret rfl rfl
set_option maxRecDepth 20000 in
theorem fi_b {L : Nat} {xs : Nat → Int32} {d : Nat} {I : Nat → Nat → Int32} {J : Nat → Nat → Int64} {R : Nat → Nat → Nat} {pn on tw be k : Int32} {w1 w2 : Value} (hG : aGd R) (b1 : k.toInt < (I 86 30).toInt) (n1 : 0 ≤ k.toInt) (m1 : k.toInt < 300) (c1 : xEv L xs d 171 0 [.ref 86, .int (I 104 k.toNatClampNeg)] [] (124, I, J, R) (some (.int 1)) (124, I, J, R)) (b2 : (I 104 k.toNatClampNeg).toInt < be.toInt) : xEv L xs (d + 1) 219 53 [.ref 86, .int pn, .int 1, .int on, .int tw, .int be, .int k, w1, w2] [] (124, I, J, R) (some (.int ((-1) - k))) (124, I, J, R) := by
  refine ev_go 3 (pc1 := 59) (lv1 := [.ref 86, .int pn, .int 1, .int on, .int tw, .int be, .int k, w1, w2]) (st1 := [.int (I 86 30), .int k]) (h1 := (124, I, J, R)) rfl ?_
  refine ev_br (b1 := false) rfl rfl (xcd_nge (x := k) (y := (I 86 30)) (by first | exact b1 | omega)) ?_
  refine ev_go 1 (pc1 := 63) (lv1 := [.ref 86, .int pn, .int 1, .int on, .int tw, .int be, .int k, w1, w2]) (st1 := [.ref 86]) (h1 := (124, I, J, R)) rfl ?_
  refine ev_gf (c := 86) (t := 104) (X := R 86 31) rfl rfl (fun _ => rfl) rfl (hG 86 31 104 rfl rfl) ?_
  refine ev_go 1 (pc1 := 68) (lv1 := [.ref 86, .int pn, .int 1, .int on, .int tw, .int be, .int k, w1, w2]) (st1 := [.int k, .ref 104]) (h1 := (124, I, J, R)) rfl ?_
  refine ev_ild (n := 300) rfl rfl (fun _ => rfl) n1 m1 ?_
  refine ev_go 3 (pc1 := 74) (lv1 := [.ref 86, .int pn, .int 1, .int on, .int tw, .int be, .int k, .int (I 104 k.toNatClampNeg), w2]) (st1 := [.int (I 104 k.toNatClampNeg), .ref 86]) (h1 := (124, I, J, R)) rfl ?_
  refine ev_call (v1 := (some (.int 1))) (h1 := (124, I, J, R)) rfl rfl c1 ?_
  refine ev_go 3 (pc1 := 84) (lv1 := [.ref 86, .int pn, .int 1, .int on, .int tw, .int be, .int k, .int (I 104 k.toNatClampNeg), w2]) (st1 := [.int be, .int (I 104 k.toNatClampNeg)]) (h1 := (124, I, J, R)) rfl ?_
  refine ev_br (b1 := true) rfl rfl (xcd_lt (x := (I 104 k.toNatClampNeg)) (y := be) (by first | exact b2 | omega)) ?_
  refine ev_go 8 (pc1 := 125) (lv1 := [.ref 86, .int pn, .int 1, .int on, .int tw, .int be, .int k, .int (I 104 k.toNatClampNeg), .int (-1)]) (st1 := [.int ((-1) - k)]) (h1 := (124, I, J, R)) rfl ?_
  exact ev_ret rfl rfl
set_option maxRecDepth 20000 in
theorem fi_c0 {L : Nat} {xs : Nat → Int32} {d : Nat} {I : Nat → Nat → Int32} {J : Nat → Nat → Int64} {R : Nat → Nat → Nat} {pn on tw be k to : Int32} {w1 w2 : Value} (hG : aGd R) (b1 : k.toInt < (I 86 30).toInt) (n1 : 0 ≤ k.toInt) (m1 : k.toInt < 300) (c1 : xEv L xs d 171 0 [.ref 86, .int (I 104 k.toNatClampNeg)] [] (124, I, J, R) (some (.int 1)) (124, I, J, R)) (b2 : (I 104 k.toNatClampNeg).toInt ≥ be.toInt) (n2 : 0 ≤ k.toInt) (m2 : k.toInt < 300) (b3 : (I 105 k.toNatClampNeg).toInt = 0) (c2 : xEv L xs d 176 0 [.ref 86, .int on, .int (I 104 k.toNatClampNeg)] [] (124, I, J, R) (some (.int to)) (124, I, J, R)) (b4 : to.toInt = -1) : xEv L xs (d + 1) 219 53 [.ref 86, .int pn, .int 1, .int on, .int tw, .int be, .int k, w1, w2] [] (124, I, J, R) (some (.int ((-1) - k))) (124, I, J, R) := by
  refine ev_go 3 (pc1 := 59) (lv1 := [.ref 86, .int pn, .int 1, .int on, .int tw, .int be, .int k, w1, w2]) (st1 := [.int (I 86 30), .int k]) (h1 := (124, I, J, R)) rfl ?_
  refine ev_br (b1 := false) rfl rfl (xcd_nge (x := k) (y := (I 86 30)) (by first | exact b1 | omega)) ?_
  refine ev_go 1 (pc1 := 63) (lv1 := [.ref 86, .int pn, .int 1, .int on, .int tw, .int be, .int k, w1, w2]) (st1 := [.ref 86]) (h1 := (124, I, J, R)) rfl ?_
  refine ev_gf (c := 86) (t := 104) (X := R 86 31) rfl rfl (fun _ => rfl) rfl (hG 86 31 104 rfl rfl) ?_
  refine ev_go 1 (pc1 := 68) (lv1 := [.ref 86, .int pn, .int 1, .int on, .int tw, .int be, .int k, w1, w2]) (st1 := [.int k, .ref 104]) (h1 := (124, I, J, R)) rfl ?_
  refine ev_ild (n := 300) rfl rfl (fun _ => rfl) n1 m1 ?_
  refine ev_go 3 (pc1 := 74) (lv1 := [.ref 86, .int pn, .int 1, .int on, .int tw, .int be, .int k, .int (I 104 k.toNatClampNeg), w2]) (st1 := [.int (I 104 k.toNatClampNeg), .ref 86]) (h1 := (124, I, J, R)) rfl ?_
  refine ev_call (v1 := (some (.int 1))) (h1 := (124, I, J, R)) rfl rfl c1 ?_
  refine ev_go 3 (pc1 := 84) (lv1 := [.ref 86, .int pn, .int 1, .int on, .int tw, .int be, .int k, .int (I 104 k.toNatClampNeg), w2]) (st1 := [.int be, .int (I 104 k.toNatClampNeg)]) (h1 := (124, I, J, R)) rfl ?_
  refine ev_br (b1 := false) rfl rfl (xcd_nlt (x := (I 104 k.toNatClampNeg)) (y := be) (by first | exact b2 | omega)) ?_
  refine ev_go 2 (pc1 := 89) (lv1 := [.ref 86, .int pn, .int 1, .int on, .int tw, .int be, .int k, .int (I 104 k.toNatClampNeg), w2]) (st1 := [.ref 86, .ref 86]) (h1 := (124, I, J, R)) rfl ?_
  refine ev_gf (c := 86) (t := 105) (X := R 86 32) rfl rfl (fun _ => rfl) rfl (hG 86 32 105 rfl rfl) ?_
  refine ev_go 1 (pc1 := 94) (lv1 := [.ref 86, .int pn, .int 1, .int on, .int tw, .int be, .int k, .int (I 104 k.toNatClampNeg), w2]) (st1 := [.int k, .ref 105, .ref 86]) (h1 := (124, I, J, R)) rfl ?_
  refine ev_ild (n := 300) rfl rfl (fun _ => rfl) n2 m2 ?_
  refine ev_br (b1 := false) rfl rfl (xcd_nne (x := (I 105 k.toNatClampNeg)) (y := 0) (by rw [show ((0 : Int32)).toInt = 0 from by decide]; first | exact b3 | omega)) ?_
  refine ev_go 3 (pc1 := 106) (lv1 := [.ref 86, .int pn, .int 1, .int on, .int tw, .int be, .int k, .int (I 104 k.toNatClampNeg), w2]) (st1 := [.int (I 104 k.toNatClampNeg), .int on, .ref 86]) (h1 := (124, I, J, R)) rfl ?_
  refine ev_call (v1 := (some (.int to))) (h1 := (124, I, J, R)) rfl rfl c2 ?_
  refine ev_go 4 (pc1 := 118) (lv1 := [.ref 86, .int pn, .int 1, .int on, .int tw, .int be, .int k, .int (I 104 k.toNatClampNeg), .int to]) (st1 := [.int (-1), .int to]) (h1 := (124, I, J, R)) rfl ?_
  refine ev_br (b1 := false) rfl rfl (xcd_nne (x := to) (y := (-1)) (by rw [show ((-1 : Int32)).toInt = -1 from by decide]; first | exact b4 | omega)) ?_
  refine ev_go 3 (pc1 := 125) (lv1 := [.ref 86, .int pn, .int 1, .int on, .int tw, .int be, .int k, .int (I 104 k.toNatClampNeg), .int to]) (st1 := [.int ((-1) - k)]) (h1 := (124, I, J, R)) rfl ?_
  exact ev_ret rfl rfl
set_option maxRecDepth 20000 in
theorem fi_c1 {L : Nat} {xs : Nat → Int32} {d : Nat} {I : Nat → Nat → Int32} {J : Nat → Nat → Int64} {R : Nat → Nat → Nat} {pn on tw be k to : Int32} {w1 w2 : Value} (hG : aGd R) (b1 : k.toInt < (I 86 30).toInt) (n1 : 0 ≤ k.toInt) (m1 : k.toInt < 300) (c1 : xEv L xs d 171 0 [.ref 86, .int (I 104 k.toNatClampNeg)] [] (124, I, J, R) (some (.int 1)) (124, I, J, R)) (b2 : (I 104 k.toNatClampNeg).toInt ≥ be.toInt) (n2 : 0 ≤ k.toInt) (m2 : k.toInt < 300) (b3 : (I 105 k.toNatClampNeg).toInt ≠ 0) (c2 : xEv L xs d 176 0 [.ref 86, .int tw, .int (I 104 k.toNatClampNeg)] [] (124, I, J, R) (some (.int to)) (124, I, J, R)) (b4 : to.toInt = -1) : xEv L xs (d + 1) 219 53 [.ref 86, .int pn, .int 1, .int on, .int tw, .int be, .int k, w1, w2] [] (124, I, J, R) (some (.int ((-1) - k))) (124, I, J, R) := by
  refine ev_go 3 (pc1 := 59) (lv1 := [.ref 86, .int pn, .int 1, .int on, .int tw, .int be, .int k, w1, w2]) (st1 := [.int (I 86 30), .int k]) (h1 := (124, I, J, R)) rfl ?_
  refine ev_br (b1 := false) rfl rfl (xcd_nge (x := k) (y := (I 86 30)) (by first | exact b1 | omega)) ?_
  refine ev_go 1 (pc1 := 63) (lv1 := [.ref 86, .int pn, .int 1, .int on, .int tw, .int be, .int k, w1, w2]) (st1 := [.ref 86]) (h1 := (124, I, J, R)) rfl ?_
  refine ev_gf (c := 86) (t := 104) (X := R 86 31) rfl rfl (fun _ => rfl) rfl (hG 86 31 104 rfl rfl) ?_
  refine ev_go 1 (pc1 := 68) (lv1 := [.ref 86, .int pn, .int 1, .int on, .int tw, .int be, .int k, w1, w2]) (st1 := [.int k, .ref 104]) (h1 := (124, I, J, R)) rfl ?_
  refine ev_ild (n := 300) rfl rfl (fun _ => rfl) n1 m1 ?_
  refine ev_go 3 (pc1 := 74) (lv1 := [.ref 86, .int pn, .int 1, .int on, .int tw, .int be, .int k, .int (I 104 k.toNatClampNeg), w2]) (st1 := [.int (I 104 k.toNatClampNeg), .ref 86]) (h1 := (124, I, J, R)) rfl ?_
  refine ev_call (v1 := (some (.int 1))) (h1 := (124, I, J, R)) rfl rfl c1 ?_
  refine ev_go 3 (pc1 := 84) (lv1 := [.ref 86, .int pn, .int 1, .int on, .int tw, .int be, .int k, .int (I 104 k.toNatClampNeg), w2]) (st1 := [.int be, .int (I 104 k.toNatClampNeg)]) (h1 := (124, I, J, R)) rfl ?_
  refine ev_br (b1 := false) rfl rfl (xcd_nlt (x := (I 104 k.toNatClampNeg)) (y := be) (by first | exact b2 | omega)) ?_
  refine ev_go 2 (pc1 := 89) (lv1 := [.ref 86, .int pn, .int 1, .int on, .int tw, .int be, .int k, .int (I 104 k.toNatClampNeg), w2]) (st1 := [.ref 86, .ref 86]) (h1 := (124, I, J, R)) rfl ?_
  refine ev_gf (c := 86) (t := 105) (X := R 86 32) rfl rfl (fun _ => rfl) rfl (hG 86 32 105 rfl rfl) ?_
  refine ev_go 1 (pc1 := 94) (lv1 := [.ref 86, .int pn, .int 1, .int on, .int tw, .int be, .int k, .int (I 104 k.toNatClampNeg), w2]) (st1 := [.int k, .ref 105, .ref 86]) (h1 := (124, I, J, R)) rfl ?_
  refine ev_ild (n := 300) rfl rfl (fun _ => rfl) n2 m2 ?_
  refine ev_br (b1 := true) rfl rfl (xcd_ne (x := (I 105 k.toNatClampNeg)) (y := 0) (by rw [show ((0 : Int32)).toInt = 0 from by decide]; first | exact b3 | omega)) ?_
  refine ev_go 2 (pc1 := 106) (lv1 := [.ref 86, .int pn, .int 1, .int on, .int tw, .int be, .int k, .int (I 104 k.toNatClampNeg), w2]) (st1 := [.int (I 104 k.toNatClampNeg), .int tw, .ref 86]) (h1 := (124, I, J, R)) rfl ?_
  refine ev_call (v1 := (some (.int to))) (h1 := (124, I, J, R)) rfl rfl c2 ?_
  refine ev_go 4 (pc1 := 118) (lv1 := [.ref 86, .int pn, .int 1, .int on, .int tw, .int be, .int k, .int (I 104 k.toNatClampNeg), .int to]) (st1 := [.int (-1), .int to]) (h1 := (124, I, J, R)) rfl ?_
  refine ev_br (b1 := false) rfl rfl (xcd_nne (x := to) (y := (-1)) (by rw [show ((-1 : Int32)).toInt = -1 from by decide]; first | exact b4 | omega)) ?_
  refine ev_go 3 (pc1 := 125) (lv1 := [.ref 86, .int pn, .int 1, .int on, .int tw, .int be, .int k, .int (I 104 k.toNatClampNeg), .int to]) (st1 := [.int ((-1) - k)]) (h1 := (124, I, J, R)) rfl ?_
  exact ev_ret rfl rfl
set_option maxRecDepth 20000 in
theorem fi_d0 {L : Nat} {xs : Nat → Int32} {d : Nat} {I : Nat → Nat → Int32} {J : Nat → Nat → Int64} {R : Nat → Nat → Nat} {pn on tw be k to : Int32} {w1 w2 : Value} (hG : aGd R) (b1 : k.toInt < (I 86 30).toInt) (n1 : 0 ≤ k.toInt) (m1 : k.toInt < 300) (c1 : xEv L xs d 171 0 [.ref 86, .int (I 104 k.toNatClampNeg)] [] (124, I, J, R) (some (.int 1)) (124, I, J, R)) (b2 : (I 104 k.toNatClampNeg).toInt ≥ be.toInt) (n2 : 0 ≤ k.toInt) (m2 : k.toInt < 300) (b3 : (I 105 k.toNatClampNeg).toInt = 0) (c2 : xEv L xs d 176 0 [.ref 86, .int on, .int (I 104 k.toNatClampNeg)] [] (124, I, J, R) (some (.int to)) (124, I, J, R)) (b4 : to.toInt ≠ -1) (n3 : 0 ≤ k.toInt) (m3 : k.toInt < 300) (b5 : (I 105 k.toNatClampNeg).toInt = 0) (n4 : 0 ≤ k.toInt) (m4 : k.toInt < 300) (n5 : 0 ≤ (I 105 k.toNatClampNeg).toInt) (m5 : (I 105 k.toNatClampNeg).toInt < 2) (n6 : 0 ≤ (I 105 k.toNatClampNeg).toInt) (m6 : (I 105 k.toNatClampNeg).toInt < 2) (n7 : 0 ≤ k.toInt) (m7 : k.toInt < 300) (n8 : 0 ≤ (1 - (I 105 k.toNatClampNeg)).toInt) (m8 : (1 - (I 105 k.toNatClampNeg)).toInt < 2) (n9 : 0 ≤ (1 - (I 105 k.toNatClampNeg)).toInt) (m9 : (1 - (I 105 k.toNatClampNeg)).toInt < 2) {v : Option Value} {h' : xH} (hk : xEv L xs (d + 1) 219 53 [.ref 86, .int pn, .int 1, .int to, .int tw, .int (I 104 k.toNatClampNeg), .int (k + 1), .int (I 104 k.toNatClampNeg), .int to] [] (124, (uI (uI I 118 (I 105 k.toNatClampNeg).toNatClampNeg ((I 118 (I 105 k.toNatClampNeg).toNatClampNeg) ||| (1 <<< (to &&& 31)))) 118 (1 - (I 105 k.toNatClampNeg)).toNatClampNeg (((uI I 118 (I 105 k.toNatClampNeg).toNatClampNeg ((I 118 (I 105 k.toNatClampNeg).toNatClampNeg) ||| (1 <<< (to &&& 31)))) 118 (1 - (I 105 k.toNatClampNeg)).toNatClampNeg) &&& ((1 <<< (to &&& 31)) ^^^ (-1)))), J, R) v h') : xEv L xs (d + 1) 219 53 [.ref 86, .int pn, .int 1, .int on, .int tw, .int be, .int k, w1, w2] [] (124, I, J, R) v h' := by
  refine ev_go 3 (pc1 := 59) (lv1 := [.ref 86, .int pn, .int 1, .int on, .int tw, .int be, .int k, w1, w2]) (st1 := [.int (I 86 30), .int k]) (h1 := (124, I, J, R)) rfl ?_
  refine ev_br (b1 := false) rfl rfl (xcd_nge (x := k) (y := (I 86 30)) (by first | exact b1 | omega)) ?_
  refine ev_go 1 (pc1 := 63) (lv1 := [.ref 86, .int pn, .int 1, .int on, .int tw, .int be, .int k, w1, w2]) (st1 := [.ref 86]) (h1 := (124, I, J, R)) rfl ?_
  refine ev_gf (c := 86) (t := 104) (X := R 86 31) rfl rfl (fun _ => rfl) rfl (hG 86 31 104 rfl rfl) ?_
  refine ev_go 1 (pc1 := 68) (lv1 := [.ref 86, .int pn, .int 1, .int on, .int tw, .int be, .int k, w1, w2]) (st1 := [.int k, .ref 104]) (h1 := (124, I, J, R)) rfl ?_
  refine ev_ild (n := 300) rfl rfl (fun _ => rfl) n1 m1 ?_
  refine ev_go 3 (pc1 := 74) (lv1 := [.ref 86, .int pn, .int 1, .int on, .int tw, .int be, .int k, .int (I 104 k.toNatClampNeg), w2]) (st1 := [.int (I 104 k.toNatClampNeg), .ref 86]) (h1 := (124, I, J, R)) rfl ?_
  refine ev_call (v1 := (some (.int 1))) (h1 := (124, I, J, R)) rfl rfl c1 ?_
  refine ev_go 3 (pc1 := 84) (lv1 := [.ref 86, .int pn, .int 1, .int on, .int tw, .int be, .int k, .int (I 104 k.toNatClampNeg), w2]) (st1 := [.int be, .int (I 104 k.toNatClampNeg)]) (h1 := (124, I, J, R)) rfl ?_
  refine ev_br (b1 := false) rfl rfl (xcd_nlt (x := (I 104 k.toNatClampNeg)) (y := be) (by first | exact b2 | omega)) ?_
  refine ev_go 2 (pc1 := 89) (lv1 := [.ref 86, .int pn, .int 1, .int on, .int tw, .int be, .int k, .int (I 104 k.toNatClampNeg), w2]) (st1 := [.ref 86, .ref 86]) (h1 := (124, I, J, R)) rfl ?_
  refine ev_gf (c := 86) (t := 105) (X := R 86 32) rfl rfl (fun _ => rfl) rfl (hG 86 32 105 rfl rfl) ?_
  refine ev_go 1 (pc1 := 94) (lv1 := [.ref 86, .int pn, .int 1, .int on, .int tw, .int be, .int k, .int (I 104 k.toNatClampNeg), w2]) (st1 := [.int k, .ref 105, .ref 86]) (h1 := (124, I, J, R)) rfl ?_
  refine ev_ild (n := 300) rfl rfl (fun _ => rfl) n2 m2 ?_
  refine ev_br (b1 := false) rfl rfl (xcd_nne (x := (I 105 k.toNatClampNeg)) (y := 0) (by rw [show ((0 : Int32)).toInt = 0 from by decide]; first | exact b3 | omega)) ?_
  refine ev_go 3 (pc1 := 106) (lv1 := [.ref 86, .int pn, .int 1, .int on, .int tw, .int be, .int k, .int (I 104 k.toNatClampNeg), w2]) (st1 := [.int (I 104 k.toNatClampNeg), .int on, .ref 86]) (h1 := (124, I, J, R)) rfl ?_
  refine ev_call (v1 := (some (.int to))) (h1 := (124, I, J, R)) rfl rfl c2 ?_
  refine ev_go 4 (pc1 := 118) (lv1 := [.ref 86, .int pn, .int 1, .int on, .int tw, .int be, .int k, .int (I 104 k.toNatClampNeg), .int to]) (st1 := [.int (-1), .int to]) (h1 := (124, I, J, R)) rfl ?_
  refine ev_br (b1 := true) rfl rfl (xcd_ne (x := to) (y := (-1)) (by rw [show ((-1 : Int32)).toInt = -1 from by decide]; first | exact b4 | omega)) ?_
  refine ev_go 1 (pc1 := 127) (lv1 := [.ref 86, .int pn, .int 1, .int on, .int tw, .int be, .int k, .int (I 104 k.toNatClampNeg), .int to]) (st1 := [.ref 86]) (h1 := (124, I, J, R)) rfl ?_
  refine ev_gf (c := 86) (t := 105) (X := R 86 32) rfl rfl (fun _ => rfl) rfl (hG 86 32 105 rfl rfl) ?_
  refine ev_go 1 (pc1 := 132) (lv1 := [.ref 86, .int pn, .int 1, .int on, .int tw, .int be, .int k, .int (I 104 k.toNatClampNeg), .int to]) (st1 := [.int k, .ref 105]) (h1 := (124, I, J, R)) rfl ?_
  refine ev_ild (n := 300) rfl rfl (fun _ => rfl) n3 m3 ?_
  refine ev_br (b1 := false) rfl rfl (xcd_nne (x := (I 105 k.toNatClampNeg)) (y := 0) (by rw [show ((0 : Int32)).toInt = 0 from by decide]; first | exact b5 | omega)) ?_
  refine ev_go 4 (pc1 := 147) (lv1 := [.ref 86, .int pn, .int 1, .int to, .int tw, .int be, .int k, .int (I 104 k.toNatClampNeg), .int to]) (st1 := [.ref 86]) (h1 := (124, I, J, R)) rfl ?_
  refine ev_gf (c := 86) (t := 118) (X := R 86 53) rfl rfl (fun _ => rfl) rfl (hG 86 53 118 rfl rfl) ?_
  refine ev_go 1 (pc1 := 151) (lv1 := [.ref 86, .int pn, .int 1, .int to, .int tw, .int be, .int k, .int (I 104 k.toNatClampNeg), .int to]) (st1 := [.ref 86, .ref 118]) (h1 := (124, I, J, R)) rfl ?_
  refine ev_gf (c := 86) (t := 105) (X := R 86 32) rfl rfl (fun _ => rfl) rfl (hG 86 32 105 rfl rfl) ?_
  refine ev_go 1 (pc1 := 156) (lv1 := [.ref 86, .int pn, .int 1, .int to, .int tw, .int be, .int k, .int (I 104 k.toNatClampNeg), .int to]) (st1 := [.int k, .ref 105, .ref 118]) (h1 := (124, I, J, R)) rfl ?_
  refine ev_ild (n := 300) rfl rfl (fun _ => rfl) n4 m4 ?_
  refine ev_go 1 (pc1 := 158) (lv1 := [.ref 86, .int pn, .int 1, .int to, .int tw, .int be, .int k, .int (I 104 k.toNatClampNeg), .int to]) (st1 := [.int (I 105 k.toNatClampNeg), .ref 118, .int (I 105 k.toNatClampNeg), .ref 118]) (h1 := (124, I, J, R)) rfl ?_
  refine ev_ild (n := 2) rfl rfl (fun _ => rfl) n5 m5 ?_
  refine ev_go 2 (pc1 := 162) (lv1 := [.ref 86, .int pn, .int 1, .int to, .int tw, .int be, .int k, .int (I 104 k.toNatClampNeg), .int to]) (st1 := [.int to, .int 1, .int (I 118 (I 105 k.toNatClampNeg).toNatClampNeg), .int (I 105 k.toNatClampNeg), .ref 118]) (h1 := (124, I, J, R)) rfl ?_
  refine ev_go 2 (pc1 := 164) (lv1 := [.ref 86, .int pn, .int 1, .int to, .int tw, .int be, .int k, .int (I 104 k.toNatClampNeg), .int to]) (st1 := [.int ((I 118 (I 105 k.toNatClampNeg).toNatClampNeg) ||| (1 <<< (to &&& 31))), .int (I 105 k.toNatClampNeg), .ref 118]) (h1 := (124, I, J, R)) rfl ?_
  refine ev_ist (n := 2) rfl rfl (fun _ => rfl) n6 m6 ?_
  refine ev_go 1 (pc1 := 166) (lv1 := [.ref 86, .int pn, .int 1, .int to, .int tw, .int be, .int k, .int (I 104 k.toNatClampNeg), .int to]) (st1 := [.ref 86]) (h1 := (124, (uI I 118 (I 105 k.toNatClampNeg).toNatClampNeg ((I 118 (I 105 k.toNatClampNeg).toNatClampNeg) ||| (1 <<< (to &&& 31)))), J, R)) rfl ?_
  refine ev_gf (c := 86) (t := 118) (X := R 86 53) rfl rfl (fun _ => rfl) rfl (hG 86 53 118 rfl rfl) ?_
  refine ev_go 2 (pc1 := 171) (lv1 := [.ref 86, .int pn, .int 1, .int to, .int tw, .int be, .int k, .int (I 104 k.toNatClampNeg), .int to]) (st1 := [.ref 86, .int 1, .ref 118]) (h1 := (124, (uI I 118 (I 105 k.toNatClampNeg).toNatClampNeg ((I 118 (I 105 k.toNatClampNeg).toNatClampNeg) ||| (1 <<< (to &&& 31)))), J, R)) rfl ?_
  refine ev_gf (c := 86) (t := 105) (X := R 86 32) rfl rfl (fun _ => rfl) rfl (hG 86 32 105 rfl rfl) ?_
  refine ev_go 1 (pc1 := 176) (lv1 := [.ref 86, .int pn, .int 1, .int to, .int tw, .int be, .int k, .int (I 104 k.toNatClampNeg), .int to]) (st1 := [.int k, .ref 105, .int 1, .ref 118]) (h1 := (124, (uI I 118 (I 105 k.toNatClampNeg).toNatClampNeg ((I 118 (I 105 k.toNatClampNeg).toNatClampNeg) ||| (1 <<< (to &&& 31)))), J, R)) rfl ?_
  refine ev_ild (n := 300) rfl rfl (fun _ => rfl) n7 m7 ?_
  refine ev_go 2 (pc1 := 179) (lv1 := [.ref 86, .int pn, .int 1, .int to, .int tw, .int be, .int k, .int (I 104 k.toNatClampNeg), .int to]) (st1 := [.int (1 - (I 105 k.toNatClampNeg)), .ref 118, .int (1 - (I 105 k.toNatClampNeg)), .ref 118]) (h1 := (124, (uI I 118 (I 105 k.toNatClampNeg).toNatClampNeg ((I 118 (I 105 k.toNatClampNeg).toNatClampNeg) ||| (1 <<< (to &&& 31)))), J, R)) rfl ?_
  refine ev_ild (n := 2) rfl rfl (fun _ => rfl) n8 m8 ?_
  refine ev_go 2 (pc1 := 183) (lv1 := [.ref 86, .int pn, .int 1, .int to, .int tw, .int be, .int k, .int (I 104 k.toNatClampNeg), .int to]) (st1 := [.int to, .int 1, .int ((uI I 118 (I 105 k.toNatClampNeg).toNatClampNeg ((I 118 (I 105 k.toNatClampNeg).toNatClampNeg) ||| (1 <<< (to &&& 31)))) 118 (1 - (I 105 k.toNatClampNeg)).toNatClampNeg), .int (1 - (I 105 k.toNatClampNeg)), .ref 118]) (h1 := (124, (uI I 118 (I 105 k.toNatClampNeg).toNatClampNeg ((I 118 (I 105 k.toNatClampNeg).toNatClampNeg) ||| (1 <<< (to &&& 31)))), J, R)) rfl ?_
  refine ev_go 4 (pc1 := 187) (lv1 := [.ref 86, .int pn, .int 1, .int to, .int tw, .int be, .int k, .int (I 104 k.toNatClampNeg), .int to]) (st1 := [.int (((uI I 118 (I 105 k.toNatClampNeg).toNatClampNeg ((I 118 (I 105 k.toNatClampNeg).toNatClampNeg) ||| (1 <<< (to &&& 31)))) 118 (1 - (I 105 k.toNatClampNeg)).toNatClampNeg) &&& ((1 <<< (to &&& 31)) ^^^ (-1))), .int (1 - (I 105 k.toNatClampNeg)), .ref 118]) (h1 := (124, (uI I 118 (I 105 k.toNatClampNeg).toNatClampNeg ((I 118 (I 105 k.toNatClampNeg).toNatClampNeg) ||| (1 <<< (to &&& 31)))), J, R)) rfl ?_
  refine ev_ist (n := 2) rfl rfl (fun _ => rfl) n9 m9 ?_
  refine ev_go 4 (pc1 := 53) (lv1 := [.ref 86, .int pn, .int 1, .int to, .int tw, .int (I 104 k.toNatClampNeg), .int (k + 1), .int (I 104 k.toNatClampNeg), .int to]) (st1 := []) (h1 := (124, (uI (uI I 118 (I 105 k.toNatClampNeg).toNatClampNeg ((I 118 (I 105 k.toNatClampNeg).toNatClampNeg) ||| (1 <<< (to &&& 31)))) 118 (1 - (I 105 k.toNatClampNeg)).toNatClampNeg (((uI I 118 (I 105 k.toNatClampNeg).toNatClampNeg ((I 118 (I 105 k.toNatClampNeg).toNatClampNeg) ||| (1 <<< (to &&& 31)))) 118 (1 - (I 105 k.toNatClampNeg)).toNatClampNeg) &&& ((1 <<< (to &&& 31)) ^^^ (-1)))), J, R)) rfl ?_
  exact hk
set_option maxRecDepth 20000 in
theorem fi_d1 {L : Nat} {xs : Nat → Int32} {d : Nat} {I : Nat → Nat → Int32} {J : Nat → Nat → Int64} {R : Nat → Nat → Nat} {pn on tw be k to : Int32} {w1 w2 : Value} (hG : aGd R) (b1 : k.toInt < (I 86 30).toInt) (n1 : 0 ≤ k.toInt) (m1 : k.toInt < 300) (c1 : xEv L xs d 171 0 [.ref 86, .int (I 104 k.toNatClampNeg)] [] (124, I, J, R) (some (.int 1)) (124, I, J, R)) (b2 : (I 104 k.toNatClampNeg).toInt ≥ be.toInt) (n2 : 0 ≤ k.toInt) (m2 : k.toInt < 300) (b3 : (I 105 k.toNatClampNeg).toInt ≠ 0) (c2 : xEv L xs d 176 0 [.ref 86, .int tw, .int (I 104 k.toNatClampNeg)] [] (124, I, J, R) (some (.int to)) (124, I, J, R)) (b4 : to.toInt ≠ -1) (n3 : 0 ≤ k.toInt) (m3 : k.toInt < 300) (b5 : (I 105 k.toNatClampNeg).toInt ≠ 0) (n4 : 0 ≤ k.toInt) (m4 : k.toInt < 300) (n5 : 0 ≤ (I 105 k.toNatClampNeg).toInt) (m5 : (I 105 k.toNatClampNeg).toInt < 2) (n6 : 0 ≤ (I 105 k.toNatClampNeg).toInt) (m6 : (I 105 k.toNatClampNeg).toInt < 2) (n7 : 0 ≤ k.toInt) (m7 : k.toInt < 300) (n8 : 0 ≤ (1 - (I 105 k.toNatClampNeg)).toInt) (m8 : (1 - (I 105 k.toNatClampNeg)).toInt < 2) (n9 : 0 ≤ (1 - (I 105 k.toNatClampNeg)).toInt) (m9 : (1 - (I 105 k.toNatClampNeg)).toInt < 2) {v : Option Value} {h' : xH} (hk : xEv L xs (d + 1) 219 53 [.ref 86, .int pn, .int 1, .int on, .int to, .int (I 104 k.toNatClampNeg), .int (k + 1), .int (I 104 k.toNatClampNeg), .int to] [] (124, (uI (uI I 118 (I 105 k.toNatClampNeg).toNatClampNeg ((I 118 (I 105 k.toNatClampNeg).toNatClampNeg) ||| (1 <<< (to &&& 31)))) 118 (1 - (I 105 k.toNatClampNeg)).toNatClampNeg (((uI I 118 (I 105 k.toNatClampNeg).toNatClampNeg ((I 118 (I 105 k.toNatClampNeg).toNatClampNeg) ||| (1 <<< (to &&& 31)))) 118 (1 - (I 105 k.toNatClampNeg)).toNatClampNeg) &&& ((1 <<< (to &&& 31)) ^^^ (-1)))), J, R) v h') : xEv L xs (d + 1) 219 53 [.ref 86, .int pn, .int 1, .int on, .int tw, .int be, .int k, w1, w2] [] (124, I, J, R) v h' := by
  refine ev_go 3 (pc1 := 59) (lv1 := [.ref 86, .int pn, .int 1, .int on, .int tw, .int be, .int k, w1, w2]) (st1 := [.int (I 86 30), .int k]) (h1 := (124, I, J, R)) rfl ?_
  refine ev_br (b1 := false) rfl rfl (xcd_nge (x := k) (y := (I 86 30)) (by first | exact b1 | omega)) ?_
  refine ev_go 1 (pc1 := 63) (lv1 := [.ref 86, .int pn, .int 1, .int on, .int tw, .int be, .int k, w1, w2]) (st1 := [.ref 86]) (h1 := (124, I, J, R)) rfl ?_
  refine ev_gf (c := 86) (t := 104) (X := R 86 31) rfl rfl (fun _ => rfl) rfl (hG 86 31 104 rfl rfl) ?_
  refine ev_go 1 (pc1 := 68) (lv1 := [.ref 86, .int pn, .int 1, .int on, .int tw, .int be, .int k, w1, w2]) (st1 := [.int k, .ref 104]) (h1 := (124, I, J, R)) rfl ?_
  refine ev_ild (n := 300) rfl rfl (fun _ => rfl) n1 m1 ?_
  refine ev_go 3 (pc1 := 74) (lv1 := [.ref 86, .int pn, .int 1, .int on, .int tw, .int be, .int k, .int (I 104 k.toNatClampNeg), w2]) (st1 := [.int (I 104 k.toNatClampNeg), .ref 86]) (h1 := (124, I, J, R)) rfl ?_
  refine ev_call (v1 := (some (.int 1))) (h1 := (124, I, J, R)) rfl rfl c1 ?_
  refine ev_go 3 (pc1 := 84) (lv1 := [.ref 86, .int pn, .int 1, .int on, .int tw, .int be, .int k, .int (I 104 k.toNatClampNeg), w2]) (st1 := [.int be, .int (I 104 k.toNatClampNeg)]) (h1 := (124, I, J, R)) rfl ?_
  refine ev_br (b1 := false) rfl rfl (xcd_nlt (x := (I 104 k.toNatClampNeg)) (y := be) (by first | exact b2 | omega)) ?_
  refine ev_go 2 (pc1 := 89) (lv1 := [.ref 86, .int pn, .int 1, .int on, .int tw, .int be, .int k, .int (I 104 k.toNatClampNeg), w2]) (st1 := [.ref 86, .ref 86]) (h1 := (124, I, J, R)) rfl ?_
  refine ev_gf (c := 86) (t := 105) (X := R 86 32) rfl rfl (fun _ => rfl) rfl (hG 86 32 105 rfl rfl) ?_
  refine ev_go 1 (pc1 := 94) (lv1 := [.ref 86, .int pn, .int 1, .int on, .int tw, .int be, .int k, .int (I 104 k.toNatClampNeg), w2]) (st1 := [.int k, .ref 105, .ref 86]) (h1 := (124, I, J, R)) rfl ?_
  refine ev_ild (n := 300) rfl rfl (fun _ => rfl) n2 m2 ?_
  refine ev_br (b1 := true) rfl rfl (xcd_ne (x := (I 105 k.toNatClampNeg)) (y := 0) (by rw [show ((0 : Int32)).toInt = 0 from by decide]; first | exact b3 | omega)) ?_
  refine ev_go 2 (pc1 := 106) (lv1 := [.ref 86, .int pn, .int 1, .int on, .int tw, .int be, .int k, .int (I 104 k.toNatClampNeg), w2]) (st1 := [.int (I 104 k.toNatClampNeg), .int tw, .ref 86]) (h1 := (124, I, J, R)) rfl ?_
  refine ev_call (v1 := (some (.int to))) (h1 := (124, I, J, R)) rfl rfl c2 ?_
  refine ev_go 4 (pc1 := 118) (lv1 := [.ref 86, .int pn, .int 1, .int on, .int tw, .int be, .int k, .int (I 104 k.toNatClampNeg), .int to]) (st1 := [.int (-1), .int to]) (h1 := (124, I, J, R)) rfl ?_
  refine ev_br (b1 := true) rfl rfl (xcd_ne (x := to) (y := (-1)) (by rw [show ((-1 : Int32)).toInt = -1 from by decide]; first | exact b4 | omega)) ?_
  refine ev_go 1 (pc1 := 127) (lv1 := [.ref 86, .int pn, .int 1, .int on, .int tw, .int be, .int k, .int (I 104 k.toNatClampNeg), .int to]) (st1 := [.ref 86]) (h1 := (124, I, J, R)) rfl ?_
  refine ev_gf (c := 86) (t := 105) (X := R 86 32) rfl rfl (fun _ => rfl) rfl (hG 86 32 105 rfl rfl) ?_
  refine ev_go 1 (pc1 := 132) (lv1 := [.ref 86, .int pn, .int 1, .int on, .int tw, .int be, .int k, .int (I 104 k.toNatClampNeg), .int to]) (st1 := [.int k, .ref 105]) (h1 := (124, I, J, R)) rfl ?_
  refine ev_ild (n := 300) rfl rfl (fun _ => rfl) n3 m3 ?_
  refine ev_br (b1 := true) rfl rfl (xcd_ne (x := (I 105 k.toNatClampNeg)) (y := 0) (by rw [show ((0 : Int32)).toInt = 0 from by decide]; first | exact b5 | omega)) ?_
  refine ev_go 3 (pc1 := 147) (lv1 := [.ref 86, .int pn, .int 1, .int on, .int to, .int be, .int k, .int (I 104 k.toNatClampNeg), .int to]) (st1 := [.ref 86]) (h1 := (124, I, J, R)) rfl ?_
  refine ev_gf (c := 86) (t := 118) (X := R 86 53) rfl rfl (fun _ => rfl) rfl (hG 86 53 118 rfl rfl) ?_
  refine ev_go 1 (pc1 := 151) (lv1 := [.ref 86, .int pn, .int 1, .int on, .int to, .int be, .int k, .int (I 104 k.toNatClampNeg), .int to]) (st1 := [.ref 86, .ref 118]) (h1 := (124, I, J, R)) rfl ?_
  refine ev_gf (c := 86) (t := 105) (X := R 86 32) rfl rfl (fun _ => rfl) rfl (hG 86 32 105 rfl rfl) ?_
  refine ev_go 1 (pc1 := 156) (lv1 := [.ref 86, .int pn, .int 1, .int on, .int to, .int be, .int k, .int (I 104 k.toNatClampNeg), .int to]) (st1 := [.int k, .ref 105, .ref 118]) (h1 := (124, I, J, R)) rfl ?_
  refine ev_ild (n := 300) rfl rfl (fun _ => rfl) n4 m4 ?_
  refine ev_go 1 (pc1 := 158) (lv1 := [.ref 86, .int pn, .int 1, .int on, .int to, .int be, .int k, .int (I 104 k.toNatClampNeg), .int to]) (st1 := [.int (I 105 k.toNatClampNeg), .ref 118, .int (I 105 k.toNatClampNeg), .ref 118]) (h1 := (124, I, J, R)) rfl ?_
  refine ev_ild (n := 2) rfl rfl (fun _ => rfl) n5 m5 ?_
  refine ev_go 2 (pc1 := 162) (lv1 := [.ref 86, .int pn, .int 1, .int on, .int to, .int be, .int k, .int (I 104 k.toNatClampNeg), .int to]) (st1 := [.int to, .int 1, .int (I 118 (I 105 k.toNatClampNeg).toNatClampNeg), .int (I 105 k.toNatClampNeg), .ref 118]) (h1 := (124, I, J, R)) rfl ?_
  refine ev_go 2 (pc1 := 164) (lv1 := [.ref 86, .int pn, .int 1, .int on, .int to, .int be, .int k, .int (I 104 k.toNatClampNeg), .int to]) (st1 := [.int ((I 118 (I 105 k.toNatClampNeg).toNatClampNeg) ||| (1 <<< (to &&& 31))), .int (I 105 k.toNatClampNeg), .ref 118]) (h1 := (124, I, J, R)) rfl ?_
  refine ev_ist (n := 2) rfl rfl (fun _ => rfl) n6 m6 ?_
  refine ev_go 1 (pc1 := 166) (lv1 := [.ref 86, .int pn, .int 1, .int on, .int to, .int be, .int k, .int (I 104 k.toNatClampNeg), .int to]) (st1 := [.ref 86]) (h1 := (124, (uI I 118 (I 105 k.toNatClampNeg).toNatClampNeg ((I 118 (I 105 k.toNatClampNeg).toNatClampNeg) ||| (1 <<< (to &&& 31)))), J, R)) rfl ?_
  refine ev_gf (c := 86) (t := 118) (X := R 86 53) rfl rfl (fun _ => rfl) rfl (hG 86 53 118 rfl rfl) ?_
  refine ev_go 2 (pc1 := 171) (lv1 := [.ref 86, .int pn, .int 1, .int on, .int to, .int be, .int k, .int (I 104 k.toNatClampNeg), .int to]) (st1 := [.ref 86, .int 1, .ref 118]) (h1 := (124, (uI I 118 (I 105 k.toNatClampNeg).toNatClampNeg ((I 118 (I 105 k.toNatClampNeg).toNatClampNeg) ||| (1 <<< (to &&& 31)))), J, R)) rfl ?_
  refine ev_gf (c := 86) (t := 105) (X := R 86 32) rfl rfl (fun _ => rfl) rfl (hG 86 32 105 rfl rfl) ?_
  refine ev_go 1 (pc1 := 176) (lv1 := [.ref 86, .int pn, .int 1, .int on, .int to, .int be, .int k, .int (I 104 k.toNatClampNeg), .int to]) (st1 := [.int k, .ref 105, .int 1, .ref 118]) (h1 := (124, (uI I 118 (I 105 k.toNatClampNeg).toNatClampNeg ((I 118 (I 105 k.toNatClampNeg).toNatClampNeg) ||| (1 <<< (to &&& 31)))), J, R)) rfl ?_
  refine ev_ild (n := 300) rfl rfl (fun _ => rfl) n7 m7 ?_
  refine ev_go 2 (pc1 := 179) (lv1 := [.ref 86, .int pn, .int 1, .int on, .int to, .int be, .int k, .int (I 104 k.toNatClampNeg), .int to]) (st1 := [.int (1 - (I 105 k.toNatClampNeg)), .ref 118, .int (1 - (I 105 k.toNatClampNeg)), .ref 118]) (h1 := (124, (uI I 118 (I 105 k.toNatClampNeg).toNatClampNeg ((I 118 (I 105 k.toNatClampNeg).toNatClampNeg) ||| (1 <<< (to &&& 31)))), J, R)) rfl ?_
  refine ev_ild (n := 2) rfl rfl (fun _ => rfl) n8 m8 ?_
  refine ev_go 2 (pc1 := 183) (lv1 := [.ref 86, .int pn, .int 1, .int on, .int to, .int be, .int k, .int (I 104 k.toNatClampNeg), .int to]) (st1 := [.int to, .int 1, .int ((uI I 118 (I 105 k.toNatClampNeg).toNatClampNeg ((I 118 (I 105 k.toNatClampNeg).toNatClampNeg) ||| (1 <<< (to &&& 31)))) 118 (1 - (I 105 k.toNatClampNeg)).toNatClampNeg), .int (1 - (I 105 k.toNatClampNeg)), .ref 118]) (h1 := (124, (uI I 118 (I 105 k.toNatClampNeg).toNatClampNeg ((I 118 (I 105 k.toNatClampNeg).toNatClampNeg) ||| (1 <<< (to &&& 31)))), J, R)) rfl ?_
  refine ev_go 4 (pc1 := 187) (lv1 := [.ref 86, .int pn, .int 1, .int on, .int to, .int be, .int k, .int (I 104 k.toNatClampNeg), .int to]) (st1 := [.int (((uI I 118 (I 105 k.toNatClampNeg).toNatClampNeg ((I 118 (I 105 k.toNatClampNeg).toNatClampNeg) ||| (1 <<< (to &&& 31)))) 118 (1 - (I 105 k.toNatClampNeg)).toNatClampNeg) &&& ((1 <<< (to &&& 31)) ^^^ (-1))), .int (1 - (I 105 k.toNatClampNeg)), .ref 118]) (h1 := (124, (uI I 118 (I 105 k.toNatClampNeg).toNatClampNeg ((I 118 (I 105 k.toNatClampNeg).toNatClampNeg) ||| (1 <<< (to &&& 31)))), J, R)) rfl ?_
  refine ev_ist (n := 2) rfl rfl (fun _ => rfl) n9 m9 ?_
  refine ev_go 4 (pc1 := 53) (lv1 := [.ref 86, .int pn, .int 1, .int on, .int to, .int (I 104 k.toNatClampNeg), .int (k + 1), .int (I 104 k.toNatClampNeg), .int to]) (st1 := []) (h1 := (124, (uI (uI I 118 (I 105 k.toNatClampNeg).toNatClampNeg ((I 118 (I 105 k.toNatClampNeg).toNatClampNeg) ||| (1 <<< (to &&& 31)))) 118 (1 - (I 105 k.toNatClampNeg)).toNatClampNeg (((uI I 118 (I 105 k.toNatClampNeg).toNatClampNeg ((I 118 (I 105 k.toNatClampNeg).toNatClampNeg) ||| (1 <<< (to &&& 31)))) 118 (1 - (I 105 k.toNatClampNeg)).toNatClampNeg) &&& ((1 <<< (to &&& 31)) ^^^ (-1)))), J, R)) rfl ?_
  exact hk
/-- a pure call by its contract: the same heap -/
theorem pure_call {w : Nat} (hk : aOK w) (hm : aMod w = 0) {L : Nat} {xs : Nat → Int32} {d : Nat} {I : Nat → Nat → Int32} {J : Nat → Nat → Int64} {R : Nat → Nat → Nat} {vs : List Value} (hd : aDep w ≤ d) (hg : aGood (124, I, J, R)) (hA : aArgs (aIns w) vs) (hp : aPre w = []) : ∃ v, xEv L xs d (aJ w) 0 (xent vs (xml (aJ w))) [] (124, I, J, R) v (124, I, J, R) ∧ ∃ cs ∈ aOut w, aCok ((124, I, J, R), vs) v (124, I, J, R) cs := by
  obtain ⟨v1, h1, he, hg1, hf1, cs, hcs, hc⟩ := hk L xs d vs (124, I, J, R) hd hg hA (by rw [hp]; exact fok0)
  rw [hm] at hf1
  have e := fr0 hf1 hg1.1
  subst e
  exact ⟨v1, he, cs, hcs, hc⟩
theorem isP_run (hk : aOK 30) {L : Nat} {xs : Nat → Int32} {d : Nat} (hd : 1 ≤ d) {I : Nat → Nat → Int32} {J : Nat → Nat → Int64} {R : Nat → Nat → Nat} (hg : aGood (124, I, J, R)) (x : Int32) : xEv L xs d 167 0 [.ref 86, .int x] [] (124, I, J, R) (some (.int 0)) (124, I, J, R) ∨ (xEv L xs d 167 0 [.ref 86, .int x] [] (124, I, J, R) (some (.int 1)) (124, I, J, R) ∧ 0 ≤ x.toInt ∧ x.toInt ≤ 6) := by
  obtain ⟨v, he, cs, hcs, hc⟩ := pure_call hk rfl (L := L) (xs := xs) (d := d) (vs := [.ref 86, .int x]) hd hg ⟨g0_r (by decide), g0_i (aw _).1 (aw _).2, rfl⟩ rfl
  rcases List.mem_cons.mp hcs with e | hcs
  · subst e
    obtain ⟨⟨v2, q1, y, q2, q3, q4⟩, -, -, -⟩ := hc
    subst q1
    subst q2
    have ey : y = 0 := Int32.toInt_inj.mp (by rw [show (0 : Int32).toInt = 0 from by decide]; omega)
    subst ey
    exact Or.inl he
  · rcases List.mem_cons.mp hcs with e | hcs
    · subst e
      obtain ⟨⟨v2, q1, y, q2, q3, q4⟩, q5, -, -⟩ := hc
      subst q1
      subst q2
      have ey : y = 1 := Int32.toInt_inj.mp (by rw [show (1 : Int32).toInt = 1 from by decide]; omega)
      subst ey
      obtain ⟨z, q6, q7, q8⟩ := q5 (1, 0, 6) List.mem_cons_self
      cases q6
      exact Or.inr ⟨he, q7, q8⟩
    · cases hcs
theorem isT_run (hk : aOK 32) {L : Nat} {xs : Nat → Int32} {d : Nat} (hd : 1 ≤ d) {I : Nat → Nat → Int32} {J : Nat → Nat → Int64} {R : Nat → Nat → Nat} (hg : aGood (124, I, J, R)) (x : Int32) : xEv L xs d 171 0 [.ref 86, .int x] [] (124, I, J, R) (some (.int 0)) (124, I, J, R) ∨ (xEv L xs d 171 0 [.ref 86, .int x] [] (124, I, J, R) (some (.int 1)) (124, I, J, R) ∧ 0 ≤ x.toInt ∧ x.toInt ≤ 63) := by
  obtain ⟨v, he, cs, hcs, hc⟩ := pure_call hk rfl (L := L) (xs := xs) (d := d) (vs := [.ref 86, .int x]) hd hg ⟨g0_r (by decide), g0_i (aw _).1 (aw _).2, rfl⟩ rfl
  rcases List.mem_cons.mp hcs with e | hcs
  · subst e
    obtain ⟨⟨v2, q1, y, q2, q3, q4⟩, -, -, -⟩ := hc
    subst q1
    subst q2
    have ey : y = 0 := Int32.toInt_inj.mp (by rw [show (0 : Int32).toInt = 0 from by decide]; omega)
    subst ey
    exact Or.inl he
  · rcases List.mem_cons.mp hcs with e | hcs
    · subst e
      obtain ⟨⟨v2, q1, y, q2, q3, q4⟩, q5, -, -⟩ := hc
      subst q1
      subst q2
      have ey : y = 1 := Int32.toInt_inj.mp (by rw [show (1 : Int32).toInt = 1 from by decide]; omega)
      subst ey
      obtain ⟨z, q6, q7, q8⟩ := q5 (1, 0, 63) List.mem_cons_self
      cases q6
      exact Or.inr ⟨he, q7, q8⟩
    · cases hcs
theorem met_run (hk : aOK 35) {L : Nat} {xs : Nat → Int32} {d : Nat} (hd : 1 ≤ d) {I : Nat → Nat → Int32} {J : Nat → Nat → Int64} {R : Nat → Nat → Nat} (hg : aGood (124, I, J, R)) (x t : Int32) (h0 : 0 ≤ t.toInt) (h1 : t.toInt ≤ 63) : ∃ y : Int32, xEv L xs d 176 0 [.ref 86, .int x, .int t] [] (124, I, J, R) (some (.int y)) (124, I, J, R) := by
  obtain ⟨v, he, cs, hcs, hc⟩ := pure_call hk rfl (L := L) (xs := xs) (d := d) (vs := [.ref 86, .int x, .int t]) hd hg ⟨g0_r (by decide), g0_i (aw _).1 (aw _).2, g0_i h0 h1, rfl⟩ rfl
  rcases List.mem_cons.mp hcs with e | hcs
  · subst e
    obtain ⟨⟨v2, q1, y, q2, q3, q4⟩, -, -, -⟩ := hc
    subst q1
    subst q2
    exact ⟨y, he⟩
  · rcases List.mem_cons.mp hcs with e | hcs
    · subst e
      obtain ⟨⟨v2, q1, y, q2, q3, q4⟩, q5, -, -⟩ := hc
      subst q1
      subst q2
      exact ⟨y, he⟩
    · cases hcs
theorem fiL (hT : aOK 32) (hMe : aOK 35) {L : Nat} {xs : Nat → Int32} {d : Nat} (hd : 1 ≤ d) {h0 : aE} {pn : Int32} : ∀ (q : Nat) (k on tw be : Int32) (w1 w2 : Value) (I : Nat → Nat → Int32) (J : Nat → Nat → Int64) (R : Nat → Nat → Nat), (300 - k.toInt).toNat = q → 0 ≤ k.toInt → aGood (124, I, J, R) → aFr (aMod 499) h0.1 (124, I, J, R) → (I 86 1).toInt = 0 → (∀ k : Nat, (k : Int) < (I 86 30).toInt → 0 ≤ (I 105 k).toInt ∧ (I 105 k).toInt ≤ 1) → aT L xs (d + 1) 499 h0 53 [.ref 86, .int pn, .int 1, .int on, .int tw, .int be, .int k, w1, w2] [] (124, I, J, R) := by
  intro q
  induction q with
  | zero =>
    intro k on tw be w1 w2 I J R hq hk0 hg hf ht hc
    have hy := good_int hg 86 30 rfl
    have hy2 : (aRng 86 30) = (0, 300) := rfl
    rw [hy2] at hy
    dsimp only at hy
    refine ⟨_, _, fi_e (gd_of hg) (by omega), post1 (cs := (some (Sum.inr (Sum.inl ((-2147483648), 2147483647, none))), [], [(86, 1, 0, 0)], [])) (List.mem_singleton.mpr rfl) ?_ ?_ (cok_i (aw _).1 (aw _).2 (fok1 rfl (by show (0 : Int) ≤ (I 86 1).toInt; omega) (by show (I 86 1).toInt ≤ 0; omega)))⟩
    · exact gd_I (gd_I (gd_I hg (by decide) (by decide)) (aw _).1 (aw _).2) (aw _).1 (aw _).2
    · exact fr_uI (fr_uI (fr_uI hf rfl) rfl) rfl
  | succ q ih =>
    intro k on tw be w1 w2 I J R hq hk0 hg hf ht hc
    have hG := gd_of hg
    have hy := good_int hg 86 30 rfl
    have hy2 : (aRng 86 30) = (0, 300) := rfl
    rw [hy2] at hy
    dsimp only at hy
    have ful : ∀ x : Int32, aPost 499 h0 (some (.int x)) (124, I, J, R) := fun x => post1 (cs := (some (Sum.inr (Sum.inl ((-2147483648), 2147483647, none))), [], [(86, 1, 0, 0)], [])) (List.mem_singleton.mpr rfl) hg hf (cok_i (aw _).1 (aw _).2 (fok1 rfl (by show (0 : Int) ≤ (I 86 1).toInt; omega) (by show (I 86 1).toInt ≤ 0; omega)))
    by_cases hk : k.toInt ≥ (I 86 30).toInt
    · refine ⟨_, _, fi_e (gd_of hg) hk, post1 (cs := (some (Sum.inr (Sum.inl ((-2147483648), 2147483647, none))), [], [(86, 1, 0, 0)], [])) (List.mem_singleton.mpr rfl) ?_ ?_ (cok_i (aw _).1 (aw _).2 (fok1 rfl (by show (0 : Int) ≤ (I 86 1).toInt; omega) (by show (I 86 1).toInt ≤ 0; omega)))⟩
      · exact gd_I (gd_I (gd_I hg (by decide) (by decide)) (aw _).1 (aw _).2) (aw _).1 (aw _).2
      · exact fr_uI (fr_uI (fr_uI hf rfl) rfl) rfl
    have ec := clamp_s (i := k) hk0
    have ei := i_add1 (x := k) (by omega)
    obtain ⟨n0, n1⟩ := hc k.toNatClampNeg (by omega)
    have x0 : k.toInt < (I 86 30).toInt := by omega
    have x1 : k.toInt < 300 := by omega
    rcases isT_run hT (L := L) (xs := xs) (d := d) hd hg (I 104 k.toNatClampNeg) with c1 | ⟨c1, t0, t1⟩
    · exact ⟨_, _, fi_a hG x0 hk0 x1 c1, ful _⟩
    by_cases hb : (I 104 k.toNatClampNeg).toInt < be.toInt
    · exact ⟨_, _, fi_b hG x0 hk0 x1 c1 hb, ful _⟩
    have hb' : (I 104 k.toNatClampNeg).toInt ≥ be.toInt := by omega
    have es : (1 - I 105 k.toNatClampNeg).toInt = 1 - (I 105 k.toNatClampNeg).toInt := i_sub (by rw [show (1 : Int32).toInt = 1 from by decide]; omega) (by rw [show (1 : Int32).toInt = 1 from by decide]; omega)
    have nx : ∀ (x1 x2 : Int32) (on tw be : Int32) (w1 w2 : Value), aT L xs (d + 1) 499 h0 53 [.ref 86, .int pn, .int 1, .int on, .int tw, .int be, .int (k + 1), w1, w2] [] (124, uI (uI I 118 (I 105 k.toNatClampNeg).toNatClampNeg x1) 118 (1 - I 105 k.toNatClampNeg).toNatClampNeg x2, J, R) := fun x1 x2 on tw be w1 w2 => ih (k + 1) on tw be w1 w2 _ J R (by omega) (by omega) (gd_I (gd_I hg (aw _).1 (aw _).2) (aw _).1 (aw _).2) (fr_uI (fr_uI hf (md (n := 301) rfl rfl)) (md (n := 301) rfl rfl)) ht hc
    by_cases hz : (I 105 k.toNatClampNeg).toInt = 0
    · obtain ⟨to, c2⟩ := met_run hMe (L := L) (xs := xs) (d := d) hd hg on _ t0 t1
      by_cases ht2 : to.toInt = -1
      · exact ⟨_, _, fi_c0 hG x0 hk0 x1 c1 hb' hk0 x1 hz c2 ht2, ful _⟩
      · exact aT_of (fun hk => fi_d0 hG x0 hk0 x1 c1 hb' hk0 x1 hz c2 ht2 hk0 x1 hz hk0 x1 n0 (by omega) n0 (by omega) hk0 x1 (by omega) (by omega) (by omega) (by omega) hk) (nx _ _ _ _ _ _ _)
    · obtain ⟨to, c2⟩ := met_run hMe (L := L) (xs := xs) (d := d) hd hg tw _ t0 t1
      by_cases ht2 : to.toInt = -1
      · exact ⟨_, _, fi_c1 hG x0 hk0 x1 c1 hb' hk0 x1 hz c2 ht2, ful _⟩
      · exact aT_of (fun hk => fi_d1 hG x0 hk0 x1 c1 hb' hk0 x1 hz c2 ht2 hk0 x1 hz hk0 x1 n0 (by omega) n0 (by omega) hk0 x1 (by omega) (by omega) (by omega) (by omega) hk) (nx _ _ _ _ _ _ _)
theorem okh_499 (hkn : ∀ n, n < 499 → aOK n) : aOK 499 := by
  intro L xs d vs h hd hg hA hF
  obtain ⟨n0, I, J, R⟩ := h
  have e1 : n0 = 124 := hg.1
  subst e1
  obtain ⟨pn, rfl, -, -⟩ := args_RI (c := 86) hA
  have hd10 : 10 ≤ d := hd
  obtain ⟨d, rfl⟩ : ∃ e, d = e + 2 := ⟨d - 2, by omega⟩
  have hG := gd_of hg
  have gk : aGood (124, uI (uI I 86 33 (I 86 8)) 86 34 (I 86 9), J, R) := gd_I (gd_I hg (aw _).1 (aw _).2) (aw _).1 (aw _).2
  have fk : aFr (aMod 499) (124, I, J, R) (124, uI (uI I 86 33 (I 86 8)) 86 34 (I 86 9), J, R) := fr_uI (fr_uI (aFr_refl _ _) rfl) rfl
  obtain ⟨v, I1, J1, R1, z1, z2, z3, z4, z5⟩ := rr_run (hkn 20 (by decide)) (L := L) (xs := xs) (d := d) (by omega) gk 1
  have ca := ar_0 hG z1 (gd_of z2) (by rcases z5 with h | ⟨h, -⟩; exact Or.inl h; exact Or.inr h)
  have g2 : aGood (124, uI (uI I1 86 8 (I1 86 33)) 86 9 (I1 86 34), J1, R1) := gd_I (gd_I z2 (aw _).1 (aw _).2) (aw _).1 (aw _).2
  have f2 : aFr (aMod 499) (124, I, J, R) (124, uI (uI I1 86 8 (I1 86 33)) 86 9 (I1 86 34), J1, R1) := fr_uI (fr_uI (aFr_trans rfl fk z3) rfl) rfl
  have G2 := gd_of g2
  have ful : ∀ x : Int32, aPost 499 ((124, I, J, R), [.ref 86, .int pn]) (some (.int x)) (124, uI (uI I1 86 8 (I1 86 33)) 86 9 (I1 86 34), J1, R1) := fun x => post1 (cs := (some (Sum.inr (Sum.inl ((-2147483648), 2147483647, none))), [], [(86, 1, 0, 0)], [])) (List.mem_singleton.mpr rfl) g2 f2 (cok_i (aw _).1 (aw _).2 (fok1 rfl (by show (0 : Int) ≤ (I1 86 1).toInt; omega) (by show (I1 86 1).toInt ≤ 0; omega)))
  rcases isP_run (hkn 30 (by decide)) (L := L) (xs := xs) (d := d + 1) (by omega) g2 pn with c2 | ⟨c2, -, -⟩
  · exact ⟨_, _, fi_1 hG ca G2 c2, ful _⟩
  · rcases z5 with rfl | ⟨rfl, hc⟩
    · exact ⟨_, _, fi_2 hG ca G2 c2, ful _⟩
    · exact aT_of (fun hk => fi_3 hG ca G2 c2 hk) (fiL (hkn 32 (by decide)) (hkn 35 (by decide)) (by omega) _ 0 pn pn 0 xmk xmk _ J1 R1 rfl (by decide) (gd_I (gd_I g2 (aw _).1 (aw _).2) (by decide) (by decide)) (fr_uI (fr_uI f2 rfl) rfl) z4 hc)
