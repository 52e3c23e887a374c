set_option maxRecDepth 20000 in
theorem brD21_3 {L : Nat} {xs : Nat → Int32} {d : Nat} {I : Nat → Nat → Int32} {J : Nat → Nat → Int64} {R : Nat → Nat → Nat} {a m : Int32} (hG : aGd R) (b1 : (I 43 2).toInt ≠ 0) (b2 : (I 43 2).toInt ≠ 0) : xEv L xs d 41 21 [.ref 43, .int a, .int m] [] (124, I, J, R) none (124, I, J, R) := by
  refine ev_go 2 (pc1 := 25) (lv1 := [.ref 43, .int a, .int m]) (st1 := [.int (I 43 2)]) (h1 := (124, I, J, R)) rfl ?_
  refine ev_br (b1 := true) rfl rfl (xcd_ne (x := (I 43 2)) (y := 0) (by rw [show ((0 : Int32)).toInt = 0 from by decide]; first | exact b1 | omega)) ?_
  refine ev_go 2 (pc1 := 71) (lv1 := [.ref 43, .int a, .int m]) (st1 := [.int (I 43 2)]) (h1 := (124, I, J, R)) rfl ?_
  refine ev_br (b1 := true) rfl rfl (xcd_ne (x := (I 43 2)) (y := 0) (by rw [show ((0 : Int32)).toInt = 0 from by decide]; first | exact b2 | omega)) ?_
  exact ev_ret rfl rfl
set_option maxRecDepth 20000 in
theorem brD6_3 {L : Nat} {xs : Nat → Int32} {d : Nat} {I : Nat → Nat → Int32} {J : Nat → Nat → Int64} {R : Nat → Nat → Nat} {a m : Int32} {u2 : Value} (hG : aGd R) (r_R_43_1 : R 43 1 = 4) (c1 : xEv L xs d 30 0 [.ref 43, .int 0, .int ((I 3 16) - 1), xmk, xmk] [] (124, I, J, R) (some (.int m)) (124, I, J, R)) {v : Option Value} {h' : xH} (hk : xEv L xs (d + 1) 41 21 [.ref 43, .int a, .int m] [] (124, I, J, R) v h') : xEv L xs (d + 1) 41 6 [.ref 43, .int a, u2] [] (124, I, J, R) v h' := by
  refine ev_go 3 (pc1 := 9) (lv1 := [.ref 43, .int a, u2]) (st1 := [.ref 43, .int 0, .ref 43]) (h1 := (124, I, J, R)) rfl ?_
  refine ev_gf (c := 43) (t := 3) (X := R 43 1) rfl rfl (fun _ => rfl) rfl r_R_43_1 ?_
  refine ev_go 3 (pc1 := 17) (lv1 := [.ref 43, .int a, u2]) (st1 := [.int ((I 3 16) - 1), .int 0, .ref 43]) (h1 := (124, I, J, R)) rfl ?_
  refine ev_call (v1 := (some (.int m))) (h1 := (124, I, J, R)) rfl rfl c1 ?_
  refine ev_go 1 (pc1 := 21) (lv1 := [.ref 43, .int a, .int m]) (st1 := []) (h1 := (124, I, J, R)) rfl ?_
  exact hk
set_option maxRecDepth 20000 in
theorem brA0_3 {L : Nat} {xs : Nat → Int32} {d : Nat} {I : Nat → Nat → Int32} {J : Nat → Nat → Int64} {R : Nat → Nat → Nat} {I1 : Nat → Nat → Int32} {J1 : Nat → Nat → Int64} {a : Int32} (hG : aGd R) (c1 : xEv L xs d 35 0 [.ref 43, .int (-1), xmk] [] (124, I, J, R) (some (.int a)) (124, I1, J1, R)) {v : Option Value} {h' : xH} (hk : xEv L xs (d + 1) 41 6 [.ref 43, .int a, xmk] [] (124, I1, J1, R) v h') : xEv L xs (d + 1) 41 0 [.ref 43, xmk, xmk] [] (124, I, J, R) v h' := by
  refine ev_go 2 (pc1 := 2) (lv1 := [.ref 43, xmk, xmk]) (st1 := [.int (-1), .ref 43]) (h1 := (124, I, J, R)) rfl ?_
  refine ev_call (v1 := (some (.int a))) (h1 := (124, I1, J1, R)) rfl rfl c1 ?_
  refine ev_go 1 (pc1 := 6) (lv1 := [.ref 43, .int a, xmk]) (st1 := []) (h1 := (124, I1, J1, R)) rfl ?_
  exact hk
set_option maxRecDepth 20000 in
theorem brA6_3 {L : Nat} {xs : Nat → Int32} {d : Nat} {I : Nat → Nat → Int32} {J : Nat → Nat → Int64} {R : Nat → Nat → Nat} {I1 : Nat → Nat → Int32} {J1 : Nat → Nat → Int64} {a m : Int32} (hG : aGd R) (r_R_43_1 : R 43 1 = 4) (c1 : xEv L xs d 30 0 [.ref 43, .int 0, .int ((I 3 16) - 1), xmk, xmk] [] (124, I, J, R) (some (.int m)) (124, I1, J1, R)) {v : Option Value} {h' : xH} (hk : xEv L xs (d + 1) 41 21 [.ref 43, .int a, .int m] [] (124, I1, J1, R) v h') : xEv L xs (d + 1) 41 6 [.ref 43, .int a, xmk] [] (124, I, J, R) v h' := by
  refine ev_go 3 (pc1 := 9) (lv1 := [.ref 43, .int a, xmk]) (st1 := [.ref 43, .int 0, .ref 43]) (h1 := (124, I, J, R)) rfl ?_
  refine ev_gf (c := 43) (t := 3) (X := R 43 1) rfl rfl (fun _ => rfl) rfl r_R_43_1 ?_
  refine ev_go 3 (pc1 := 17) (lv1 := [.ref 43, .int a, xmk]) (st1 := [.int ((I 3 16) - 1), .int 0, .ref 43]) (h1 := (124, I, J, R)) rfl ?_
  refine ev_call (v1 := (some (.int m))) (h1 := (124, I1, J1, R)) rfl rfl c1 ?_
  refine ev_go 1 (pc1 := 21) (lv1 := [.ref 43, .int a, .int m]) (st1 := []) (h1 := (124, I1, J1, R)) rfl ?_
  exact hk
set_option maxRecDepth 20000 in
theorem brA21a_3 {L : Nat} {xs : Nat → Int32} {d : Nat} {I : Nat → Nat → Int32} {J : Nat → Nat → Int64} {R : Nat → Nat → Nat} {a m f : Int32} (hG : aGd R) (b1 : (I 43 2).toInt = 0) (r_R_43_1 : R 43 1 = 4) (c1 : xEv L xs d 39 0 [.ref 11, .int m] [] (124, I, J, R) (some (.int f)) (124, I, J, R)) (b2 : f.toInt = a.toInt) (c2 : xEv L xs d 27 0 [.ref 43, .int 3] [] (124, I, J, R) none (124, (uI (uI I 43 2 3) 43 3 (I 1 4)), J, R)) : xEv L xs (d + 1) 41 21 [.ref 43, .int a, .int m] [] (124, I, J, R) none (124, (uI (uI I 43 2 3) 43 3 (I 1 4)), J, R) := by
  refine ev_go 2 (pc1 := 25) (lv1 := [.ref 43, .int a, .int m]) (st1 := [.int (I 43 2)]) (h1 := (124, I, J, R)) rfl ?_
  refine ev_br (b1 := false) rfl rfl (xcd_nne (x := (I 43 2)) (y := 0) (by rw [show ((0 : Int32)).toInt = 0 from by decide]; first | exact b1 | omega)) ?_
  refine ev_go 1 (pc1 := 29) (lv1 := [.ref 43, .int a, .int m]) (st1 := [.ref 43]) (h1 := (124, I, J, R)) rfl ?_
  refine ev_gf (c := 43) (t := 3) (X := R 43 1) rfl rfl (fun _ => rfl) rfl r_R_43_1 ?_
  refine ev_gf (c := 3) (t := 11) (X := R 3 7) rfl rfl (fun _ => rfl) rfl (hG 3 7 11 rfl rfl) ?_
  refine ev_go 1 (pc1 := 36) (lv1 := [.ref 43, .int a, .int m]) (st1 := [.int m, .ref 11]) (h1 := (124, I, J, R)) rfl ?_
  refine ev_call (v1 := (some (.int f))) (h1 := (124, I, J, R)) rfl rfl c1 ?_
  refine ev_go 1 (pc1 := 40) (lv1 := [.ref 43, .int a, .int m]) (st1 := [.int a, .int f]) (h1 := (124, I, J, R)) rfl ?_
  refine ev_br (b1 := true) rfl rfl (xcd_eq (x := f) (y := a) (by first | exact b2 | omega)) ?_
  refine ev_go 2 (pc1 := 64) (lv1 := [.ref 43, .int a, .int m]) (st1 := [.int 3, .ref 43]) (h1 := (124, I, J, R)) rfl ?_
  refine ev_call (v1 := none) (h1 := (124, (uI (uI I 43 2 3) 43 3 (I 1 4)), J, R)) rfl rfl c2 ?_
  refine ev_go 3 (pc1 := 107) (lv1 := [.ref 43, .int a, .int m]) (st1 := []) (h1 := (124, (uI (uI I 43 2 3) 43 3 (I 1 4)), J, R)) rfl ?_
  exact ev_ret rfl rfl
set_option maxRecDepth 20000 in
theorem brA21b_3 {L : Nat} {xs : Nat → Int32} {d : Nat} {I : Nat → Nat → Int32} {J : Nat → Nat → Int64} {R : Nat → Nat → Nat} {a m f g : Int32} (hG : aGd R) (b1 : (I 43 2).toInt = 0) (r_R_43_1 : R 43 1 = 4) (c1 : xEv L xs d 39 0 [.ref 11, .int m] [] (124, I, J, R) (some (.int f)) (124, I, J, R)) (b2 : f.toInt ≠ a.toInt) (c2 : xEv L xs d 39 0 [.ref 15, .int m] [] (124, I, J, R) (some (.int g)) (124, I, J, R)) (b3 : ((g >>> (a &&& 31)) &&& 1).toInt = 1) (c3 : xEv L xs d 27 0 [.ref 43, .int 3] [] (124, I, J, R) none (124, (uI (uI I 43 2 3) 43 3 (I 1 4)), J, R)) : xEv L xs (d + 1) 41 21 [.ref 43, .int a, .int m] [] (124, I, J, R) none (124, (uI (uI I 43 2 3) 43 3 (I 1 4)), J, R) := by
  refine ev_go 2 (pc1 := 25) (lv1 := [.ref 43, .int a, .int m]) (st1 := [.int (I 43 2)]) (h1 := (124, I, J, R)) rfl ?_
  refine ev_br (b1 := false) rfl rfl (xcd_nne (x := (I 43 2)) (y := 0) (by rw [show ((0 : Int32)).toInt = 0 from by decide]; first | exact b1 | omega)) ?_
  refine ev_go 1 (pc1 := 29) (lv1 := [.ref 43, .int a, .int m]) (st1 := [.ref 43]) (h1 := (124, I, J, R)) rfl ?_
  refine ev_gf (c := 43) (t := 3) (X := R 43 1) rfl rfl (fun _ => rfl) rfl r_R_43_1 ?_
  refine ev_gf (c := 3) (t := 11) (X := R 3 7) rfl rfl (fun _ => rfl) rfl (hG 3 7 11 rfl rfl) ?_
  refine ev_go 1 (pc1 := 36) (lv1 := [.ref 43, .int a, .int m]) (st1 := [.int m, .ref 11]) (h1 := (124, I, J, R)) rfl ?_
  refine ev_call (v1 := (some (.int f))) (h1 := (124, I, J, R)) rfl rfl c1 ?_
  refine ev_go 1 (pc1 := 40) (lv1 := [.ref 43, .int a, .int m]) (st1 := [.int a, .int f]) (h1 := (124, I, J, R)) rfl ?_
  refine ev_br (b1 := false) rfl rfl (xcd_neq (x := f) (y := a) (by first | exact b2 | omega)) ?_
  refine ev_go 1 (pc1 := 44) (lv1 := [.ref 43, .int a, .int m]) (st1 := [.ref 43]) (h1 := (124, I, J, R)) rfl ?_
  refine ev_gf (c := 43) (t := 3) (X := R 43 1) rfl rfl (fun _ => rfl) rfl r_R_43_1 ?_
  refine ev_gf (c := 3) (t := 15) (X := R 3 11) rfl rfl (fun _ => rfl) rfl (hG 3 11 15 rfl rfl) ?_
  refine ev_go 1 (pc1 := 51) (lv1 := [.ref 43, .int a, .int m]) (st1 := [.int m, .ref 15]) (h1 := (124, I, J, R)) rfl ?_
  refine ev_call (v1 := (some (.int g))) (h1 := (124, I, J, R)) rfl rfl c2 ?_
  refine ev_go 1 (pc1 := 55) (lv1 := [.ref 43, .int a, .int m]) (st1 := [.int a, .int g]) (h1 := (124, I, J, R)) rfl ?_
  refine ev_go 4 (pc1 := 59) (lv1 := [.ref 43, .int a, .int m]) (st1 := [.int 1, .int ((g >>> (a &&& 31)) &&& 1)]) (h1 := (124, I, J, R)) rfl ?_
  refine ev_br (b1 := false) rfl rfl (xcd_nne (x := ((g >>> (a &&& 31)) &&& 1)) (y := 1) (by rw [show ((1 : Int32)).toInt = 1 from by decide]; first | exact b3 | omega)) ?_
  refine ev_go 2 (pc1 := 64) (lv1 := [.ref 43, .int a, .int m]) (st1 := [.int 3, .ref 43]) (h1 := (124, I, J, R)) rfl ?_
  refine ev_call (v1 := none) (h1 := (124, (uI (uI I 43 2 3) 43 3 (I 1 4)), J, R)) rfl rfl c3 ?_
  refine ev_go 3 (pc1 := 107) (lv1 := [.ref 43, .int a, .int m]) (st1 := []) (h1 := (124, (uI (uI I 43 2 3) 43 3 (I 1 4)), J, R)) rfl ?_
  exact ev_ret rfl rfl
set_option maxRecDepth 20000 in
theorem brA21c_3 {L : Nat} {xs : Nat → Int32} {d : Nat} {I : Nat → Nat → Int32} {J : Nat → Nat → Int64} {R : Nat → Nat → Nat} {I1 : Nat → Nat → Int32} {J1 : Nat → Nat → Int64} {a m f g : Int32} (hG : aGd R) (b1 : (I 43 2).toInt = 0) (r_R_43_1 : R 43 1 = 4) (c1 : xEv L xs d 39 0 [.ref 11, .int m] [] (124, I, J, R) (some (.int f)) (124, I, J, R)) (b2 : f.toInt ≠ a.toInt) (c2 : xEv L xs d 39 0 [.ref 15, .int m] [] (124, I, J, R) (some (.int g)) (124, I, J, R)) (b3 : ((g >>> (a &&& 31)) &&& 1).toInt ≠ 1) (b4 : (I 43 2).toInt = 0) (c3 : xEv L xs d 39 0 [.ref 15, .int m] [] (124, I, J, R) (some (.int g)) (124, I, J, R)) (c4 : xEv L xs d 33 0 [.ref 15, .int m, .int (g ||| (1 <<< (a &&& 31)))] [] (124, I, J, R) none (124, (uI I 15 m.toNatClampNeg (g ||| (1 <<< (a &&& 31)))), J, R)) (c5 : xEv L xs d 21 0 [.ref 1] [] (124, (uI I 15 m.toNatClampNeg (g ||| (1 <<< (a &&& 31)))), J, R) none (124, I1, J1, R)) : xEv L xs (d + 1) 41 21 [.ref 43, .int a, .int m] [] (124, I, J, R) none (124, I1, J1, R) := by
  refine ev_go 2 (pc1 := 25) (lv1 := [.ref 43, .int a, .int m]) (st1 := [.int (I 43 2)]) (h1 := (124, I, J, R)) rfl ?_
  refine ev_br (b1 := false) rfl rfl (xcd_nne (x := (I 43 2)) (y := 0) (by rw [show ((0 : Int32)).toInt = 0 from by decide]; first | exact b1 | omega)) ?_
  refine ev_go 1 (pc1 := 29) (lv1 := [.ref 43, .int a, .int m]) (st1 := [.ref 43]) (h1 := (124, I, J, R)) rfl ?_
  refine ev_gf (c := 43) (t := 3) (X := R 43 1) rfl rfl (fun _ => rfl) rfl r_R_43_1 ?_
  refine ev_gf (c := 3) (t := 11) (X := R 3 7) rfl rfl (fun _ => rfl) rfl (hG 3 7 11 rfl rfl) ?_
  refine ev_go 1 (pc1 := 36) (lv1 := [.ref 43, .int a, .int m]) (st1 := [.int m, .ref 11]) (h1 := (124, I, J, R)) rfl ?_
  refine ev_call (v1 := (some (.int f))) (h1 := (124, I, J, R)) rfl rfl c1 ?_
  refine ev_go 1 (pc1 := 40) (lv1 := [.ref 43, .int a, .int m]) (st1 := [.int a, .int f]) (h1 := (124, I, J, R)) rfl ?_
  refine ev_br (b1 := false) rfl rfl (xcd_neq (x := f) (y := a) (by first | exact b2 | omega)) ?_
  refine ev_go 1 (pc1 := 44) (lv1 := [.ref 43, .int a, .int m]) (st1 := [.ref 43]) (h1 := (124, I, J, R)) rfl ?_
  refine ev_gf (c := 43) (t := 3) (X := R 43 1) rfl rfl (fun _ => rfl) rfl r_R_43_1 ?_
  refine ev_gf (c := 3) (t := 15) (X := R 3 11) rfl rfl (fun _ => rfl) rfl (hG 3 11 15 rfl rfl) ?_
  refine ev_go 1 (pc1 := 51) (lv1 := [.ref 43, .int a, .int m]) (st1 := [.int m, .ref 15]) (h1 := (124, I, J, R)) rfl ?_
  refine ev_call (v1 := (some (.int g))) (h1 := (124, I, J, R)) rfl rfl c2 ?_
  refine ev_go 1 (pc1 := 55) (lv1 := [.ref 43, .int a, .int m]) (st1 := [.int a, .int g]) (h1 := (124, I, J, R)) rfl ?_
  refine ev_go 4 (pc1 := 59) (lv1 := [.ref 43, .int a, .int m]) (st1 := [.int 1, .int ((g >>> (a &&& 31)) &&& 1)]) (h1 := (124, I, J, R)) rfl ?_
  refine ev_br (b1 := true) rfl rfl (xcd_ne (x := ((g >>> (a &&& 31)) &&& 1)) (y := 1) (by rw [show ((1 : Int32)).toInt = 1 from by decide]; first | exact b3 | omega)) ?_
  refine ev_go 2 (pc1 := 71) (lv1 := [.ref 43, .int a, .int m]) (st1 := [.int (I 43 2)]) (h1 := (124, I, J, R)) rfl ?_
  refine ev_br (b1 := false) rfl rfl (xcd_nne (x := (I 43 2)) (y := 0) (by rw [show ((0 : Int32)).toInt = 0 from by decide]; first | exact b4 | omega)) ?_
  refine ev_go 1 (pc1 := 75) (lv1 := [.ref 43, .int a, .int m]) (st1 := [.ref 43]) (h1 := (124, I, J, R)) rfl ?_
  refine ev_gf (c := 43) (t := 3) (X := R 43 1) rfl rfl (fun _ => rfl) rfl r_R_43_1 ?_
  refine ev_gf (c := 3) (t := 15) (X := R 3 11) rfl rfl (fun _ => rfl) rfl (hG 3 11 15 rfl rfl) ?_
  refine ev_go 2 (pc1 := 83) (lv1 := [.ref 43, .int a, .int m]) (st1 := [.ref 43, .int m, .ref 15]) (h1 := (124, I, J, R)) rfl ?_
  refine ev_gf (c := 43) (t := 3) (X := R 43 1) rfl rfl (fun _ => rfl) rfl r_R_43_1 ?_
  refine ev_gf (c := 3) (t := 15) (X := R 3 11) rfl rfl (fun _ => rfl) rfl (hG 3 11 15 rfl rfl) ?_
  refine ev_go 1 (pc1 := 90) (lv1 := [.ref 43, .int a, .int m]) (st1 := [.int m, .ref 15, .int m, .ref 15]) (h1 := (124, I, J, R)) rfl ?_
  refine ev_call (v1 := (some (.int g))) (h1 := (124, I, J, R)) rfl rfl c3 ?_
  refine ev_go 2 (pc1 := 95) (lv1 := [.ref 43, .int a, .int m]) (st1 := [.int a, .int 1, .int g, .int m, .ref 15]) (h1 := (124, I, J, R)) rfl ?_
  refine ev_go 2 (pc1 := 97) (lv1 := [.ref 43, .int a, .int m]) (st1 := [.int (g ||| (1 <<< (a &&& 31))), .int m, .ref 15]) (h1 := (124, I, J, R)) rfl ?_
  refine ev_call (v1 := none) (h1 := (124, (uI I 15 m.toNatClampNeg (g ||| (1 <<< (a &&& 31)))), J, R)) rfl rfl c4 ?_
  refine ev_go 1 (pc1 := 101) (lv1 := [.ref 43, .int a, .int m]) (st1 := [.ref 43]) (h1 := (124, (uI I 15 m.toNatClampNeg (g ||| (1 <<< (a &&& 31)))), J, R)) rfl ?_
  refine ev_gf (c := 43) (t := 1) (X := R 43 0) rfl rfl (fun _ => rfl) rfl (hG 43 0 1 rfl rfl) ?_
  refine ev_call (v1 := none) (h1 := (124, I1, J1, R)) rfl rfl c5 ?_
  exact ev_ret rfl rfl
set_option maxRecDepth 20000 in
theorem brD21_23 {L : Nat} {xs : Nat → Int32} {d : Nat} {I : Nat → Nat → Int32} {J : Nat → Nat → Int64} {R : Nat → Nat → Nat} {a m : Int32} (hG : aGd R) (b1 : (I 43 2).toInt ≠ 0) (b2 : (I 43 2).toInt ≠ 0) : xEv L xs d 41 21 [.ref 43, .int a, .int m] [] (124, I, J, R) none (124, I, J, R) := by
  refine ev_go 2 (pc1 := 25) (lv1 := [.ref 43, .int a, .int m]) (st1 := [.int (I 43 2)]) (h1 := (124, I, J, R)) rfl ?_
  refine ev_br (b1 := true) rfl rfl (xcd_ne (x := (I 43 2)) (y := 0) (by rw [show ((0 : Int32)).toInt = 0 from by decide]; first | exact b1 | omega)) ?_
  refine ev_go 2 (pc1 := 71) (lv1 := [.ref 43, .int a, .int m]) (st1 := [.int (I 43 2)]) (h1 := (124, I, J, R)) rfl ?_
  refine ev_br (b1 := true) rfl rfl (xcd_ne (x := (I 43 2)) (y := 0) (by rw [show ((0 : Int32)).toInt = 0 from by decide]; first | exact b2 | omega)) ?_
  exact ev_ret rfl rfl
set_option maxRecDepth 20000 in
theorem brD6_23 {L : Nat} {xs : Nat → Int32} {d : Nat} {I : Nat → Nat → Int32} {J : Nat → Nat → Int64} {R : Nat → Nat → Nat} {a m : Int32} {u2 : Value} (hG : aGd R) (r_R_43_1 : R 43 1 = 24) (c1 : xEv L xs d 30 0 [.ref 43, .int 0, .int ((I 23 16) - 1), xmk, xmk] [] (124, I, J, R) (some (.int m)) (124, I, J, R)) {v : Option Value} {h' : xH} (hk : xEv L xs (d + 1) 41 21 [.ref 43, .int a, .int m] [] (124, I, J, R) v h') : xEv L xs (d + 1) 41 6 [.ref 43, .int a, u2] [] (124, I, J, R) v h' := by
  refine ev_go 3 (pc1 := 9) (lv1 := [.ref 43, .int a, u2]) (st1 := [.ref 43, .int 0, .ref 43]) (h1 := (124, I, J, R)) rfl ?_
  refine ev_gf (c := 43) (t := 23) (X := R 43 1) rfl rfl (fun _ => rfl) rfl r_R_43_1 ?_
  refine ev_go 3 (pc1 := 17) (lv1 := [.ref 43, .int a, u2]) (st1 := [.int ((I 23 16) - 1), .int 0, .ref 43]) (h1 := (124, I, J, R)) rfl ?_
  refine ev_call (v1 := (some (.int m))) (h1 := (124, I, J, R)) rfl rfl c1 ?_
  refine ev_go 1 (pc1 := 21) (lv1 := [.ref 43, .int a, .int m]) (st1 := []) (h1 := (124, I, J, R)) rfl ?_
  exact hk
set_option maxRecDepth 20000 in
theorem brA0_23 {L : Nat} {xs : Nat → Int32} {d : Nat} {I : Nat → Nat → Int32} {J : Nat → Nat → Int64} {R : Nat → Nat → Nat} {I1 : Nat → Nat → Int32} {J1 : Nat → Nat → Int64} {a : Int32} (hG : aGd R) (c1 : xEv L xs d 35 0 [.ref 43, .int (-1), xmk] [] (124, I, J, R) (some (.int a)) (124, I1, J1, R)) {v : Option Value} {h' : xH} (hk : xEv L xs (d + 1) 41 6 [.ref 43, .int a, xmk] [] (124, I1, J1, R) v h') : xEv L xs (d + 1) 41 0 [.ref 43, xmk, xmk] [] (124, I, J, R) v h' := by
  refine ev_go 2 (pc1 := 2) (lv1 := [.ref 43, xmk, xmk]) (st1 := [.int (-1), .ref 43]) (h1 := (124, I, J, R)) rfl ?_
  refine ev_call (v1 := (some (.int a))) (h1 := (124, I1, J1, R)) rfl rfl c1 ?_
  refine ev_go 1 (pc1 := 6) (lv1 := [.ref 43, .int a, xmk]) (st1 := []) (h1 := (124, I1, J1, R)) rfl ?_
  exact hk
set_option maxRecDepth 20000 in
theorem brA6_23 {L : Nat} {xs : Nat → Int32} {d : Nat} {I : Nat → Nat → Int32} {J : Nat → Nat → Int64} {R : Nat → Nat → Nat} {I1 : Nat → Nat → Int32} {J1 : Nat → Nat → Int64} {a m : Int32} (hG : aGd R) (r_R_43_1 : R 43 1 = 24) (c1 : xEv L xs d 30 0 [.ref 43, .int 0, .int ((I 23 16) - 1), xmk, xmk] [] (124, I, J, R) (some (.int m)) (124, I1, J1, R)) {v : Option Value} {h' : xH} (hk : xEv L xs (d + 1) 41 21 [.ref 43, .int a, .int m] [] (124, I1, J1, R) v h') : xEv L xs (d + 1) 41 6 [.ref 43, .int a, xmk] [] (124, I, J, R) v h' := by
  refine ev_go 3 (pc1 := 9) (lv1 := [.ref 43, .int a, xmk]) (st1 := [.ref 43, .int 0, .ref 43]) (h1 := (124, I, J, R)) rfl ?_
  refine ev_gf (c := 43) (t := 23) (X := R 43 1) rfl rfl (fun _ => rfl) rfl r_R_43_1 ?_
  refine ev_go 3 (pc1 := 17) (lv1 := [.ref 43, .int a, xmk]) (st1 := [.int ((I 23 16) - 1), .int 0, .ref 43]) (h1 := (124, I, J, R)) rfl ?_
  refine ev_call (v1 := (some (.int m))) (h1 := (124, I1, J1, R)) rfl rfl c1 ?_
  refine ev_go 1 (pc1 := 21) (lv1 := [.ref 43, .int a, .int m]) (st1 := []) (h1 := (124, I1, J1, R)) rfl ?_
  exact hk
set_option maxRecDepth 20000 in
theorem brA21a_23 {L : Nat} {xs : Nat → Int32} {d : Nat} {I : Nat → Nat → Int32} {J : Nat → Nat → Int64} {R : Nat → Nat → Nat} {a m f : Int32} (hG : aGd R) (b1 : (I 43 2).toInt = 0) (r_R_43_1 : R 43 1 = 24) (c1 : xEv L xs d 39 0 [.ref 31, .int m] [] (124, I, J, R) (some (.int f)) (124, I, J, R)) (b2 : f.toInt = a.toInt) (c2 : xEv L xs d 27 0 [.ref 43, .int 3] [] (124, I, J, R) none (124, (uI (uI I 43 2 3) 43 3 (I 1 4)), J, R)) : xEv L xs (d + 1) 41 21 [.ref 43, .int a, .int m] [] (124, I, J, R) none (124, (uI (uI I 43 2 3) 43 3 (I 1 4)), J, R) := by
  refine ev_go 2 (pc1 := 25) (lv1 := [.ref 43, .int a, .int m]) (st1 := [.int (I 43 2)]) (h1 := (124, I, J, R)) rfl ?_
  refine ev_br (b1 := false) rfl rfl (xcd_nne (x := (I 43 2)) (y := 0) (by rw [show ((0 : Int32)).toInt = 0 from by decide]; first | exact b1 | omega)) ?_
  refine ev_go 1 (pc1 := 29) (lv1 := [.ref 43, .int a, .int m]) (st1 := [.ref 43]) (h1 := (124, I, J, R)) rfl ?_
  refine ev_gf (c := 43) (t := 23) (X := R 43 1) rfl rfl (fun _ => rfl) rfl r_R_43_1 ?_
  refine ev_gf (c := 23) (t := 31) (X := R 23 7) rfl rfl (fun _ => rfl) rfl (hG 23 7 31 rfl rfl) ?_
  refine ev_go 1 (pc1 := 36) (lv1 := [.ref 43, .int a, .int m]) (st1 := [.int m, .ref 31]) (h1 := (124, I, J, R)) rfl ?_
  refine ev_call (v1 := (some (.int f))) (h1 := (124, I, J, R)) rfl rfl c1 ?_
  refine ev_go 1 (pc1 := 40) (lv1 := [.ref 43, .int a, .int m]) (st1 := [.int a, .int f]) (h1 := (124, I, J, R)) rfl ?_
  refine ev_br (b1 := true) rfl rfl (xcd_eq (x := f) (y := a) (by first | exact b2 | omega)) ?_
  refine ev_go 2 (pc1 := 64) (lv1 := [.ref 43, .int a, .int m]) (st1 := [.int 3, .ref 43]) (h1 := (124, I, J, R)) rfl ?_
  refine ev_call (v1 := none) (h1 := (124, (uI (uI I 43 2 3) 43 3 (I 1 4)), J, R)) rfl rfl c2 ?_
  refine ev_go 3 (pc1 := 107) (lv1 := [.ref 43, .int a, .int m]) (st1 := []) (h1 := (124, (uI (uI I 43 2 3) 43 3 (I 1 4)), J, R)) rfl ?_
  exact ev_ret rfl rfl
set_option maxRecDepth 20000 in
theorem brA21b_23 {L : Nat} {xs : Nat → Int32} {d : Nat} {I : Nat → Nat → Int32} {J : Nat → Nat → Int64} {R : Nat → Nat → Nat} {a m f g : Int32} (hG : aGd R) (b1 : (I 43 2).toInt = 0) (r_R_43_1 : R 43 1 = 24) (c1 : xEv L xs d 39 0 [.ref 31, .int m] [] (124, I, J, R) (some (.int f)) (124, I, J, R)) (b2 : f.toInt ≠ a.toInt) (c2 : xEv L xs d 39 0 [.ref 35, .int m] [] (124, I, J, R) (some (.int g)) (124, I, J, R)) (b3 : ((g >>> (a &&& 31)) &&& 1).toInt = 1) (c3 : xEv L xs d 27 0 [.ref 43, .int 3] [] (124, I, J, R) none (124, (uI (uI I 43 2 3) 43 3 (I 1 4)), J, R)) : xEv L xs (d + 1) 41 21 [.ref 43, .int a, .int m] [] (124, I, J, R) none (124, (uI (uI I 43 2 3) 43 3 (I 1 4)), J, R) := by
  refine ev_go 2 (pc1 := 25) (lv1 := [.ref 43, .int a, .int m]) (st1 := [.int (I 43 2)]) (h1 := (124, I, J, R)) rfl ?_
  refine ev_br (b1 := false) rfl rfl (xcd_nne (x := (I 43 2)) (y := 0) (by rw [show ((0 : Int32)).toInt = 0 from by decide]; first | exact b1 | omega)) ?_
  refine ev_go 1 (pc1 := 29) (lv1 := [.ref 43, .int a, .int m]) (st1 := [.ref 43]) (h1 := (124, I, J, R)) rfl ?_
  refine ev_gf (c := 43) (t := 23) (X := R 43 1) rfl rfl (fun _ => rfl) rfl r_R_43_1 ?_
  refine ev_gf (c := 23) (t := 31) (X := R 23 7) rfl rfl (fun _ => rfl) rfl (hG 23 7 31 rfl rfl) ?_
  refine ev_go 1 (pc1 := 36) (lv1 := [.ref 43, .int a, .int m]) (st1 := [.int m, .ref 31]) (h1 := (124, I, J, R)) rfl ?_
  refine ev_call (v1 := (some (.int f))) (h1 := (124, I, J, R)) rfl rfl c1 ?_
  refine ev_go 1 (pc1 := 40) (lv1 := [.ref 43, .int a, .int m]) (st1 := [.int a, .int f]) (h1 := (124, I, J, R)) rfl ?_
  refine ev_br (b1 := false) rfl rfl (xcd_neq (x := f) (y := a) (by first | exact b2 | omega)) ?_
  refine ev_go 1 (pc1 := 44) (lv1 := [.ref 43, .int a, .int m]) (st1 := [.ref 43]) (h1 := (124, I, J, R)) rfl ?_
  refine ev_gf (c := 43) (t := 23) (X := R 43 1) rfl rfl (fun _ => rfl) rfl r_R_43_1 ?_
  refine ev_gf (c := 23) (t := 35) (X := R 23 11) rfl rfl (fun _ => rfl) rfl (hG 23 11 35 rfl rfl) ?_
  refine ev_go 1 (pc1 := 51) (lv1 := [.ref 43, .int a, .int m]) (st1 := [.int m, .ref 35]) (h1 := (124, I, J, R)) rfl ?_
  refine ev_call (v1 := (some (.int g))) (h1 := (124, I, J, R)) rfl rfl c2 ?_
  refine ev_go 1 (pc1 := 55) (lv1 := [.ref 43, .int a, .int m]) (st1 := [.int a, .int g]) (h1 := (124, I, J, R)) rfl ?_
  refine ev_go 4 (pc1 := 59) (lv1 := [.ref 43, .int a, .int m]) (st1 := [.int 1, .int ((g >>> (a &&& 31)) &&& 1)]) (h1 := (124, I, J, R)) rfl ?_
  refine ev_br (b1 := false) rfl rfl (xcd_nne (x := ((g >>> (a &&& 31)) &&& 1)) (y := 1) (by rw [show ((1 : Int32)).toInt = 1 from by decide]; first | exact b3 | omega)) ?_
  refine ev_go 2 (pc1 := 64) (lv1 := [.ref 43, .int a, .int m]) (st1 := [.int 3, .ref 43]) (h1 := (124, I, J, R)) rfl ?_
  refine ev_call (v1 := none) (h1 := (124, (uI (uI I 43 2 3) 43 3 (I 1 4)), J, R)) rfl rfl c3 ?_
  refine ev_go 3 (pc1 := 107) (lv1 := [.ref 43, .int a, .int m]) (st1 := []) (h1 := (124, (uI (uI I 43 2 3) 43 3 (I 1 4)), J, R)) rfl ?_
  exact ev_ret rfl rfl
set_option maxRecDepth 20000 in
theorem brA21c_23 {L : Nat} {xs : Nat → Int32} {d : Nat} {I : Nat → Nat → Int32} {J : Nat → Nat → Int64} {R : Nat → Nat → Nat} {I1 : Nat → Nat → Int32} {J1 : Nat → Nat → Int64} {a m f g : Int32} (hG : aGd R) (b1 : (I 43 2).toInt = 0) (r_R_43_1 : R 43 1 = 24) (c1 : xEv L xs d 39 0 [.ref 31, .int m] [] (124, I, J, R) (some (.int f)) (124, I, J, R)) (b2 : f.toInt ≠ a.toInt) (c2 : xEv L xs d 39 0 [.ref 35, .int m] [] (124, I, J, R) (some (.int g)) (124, I, J, R)) (b3 : ((g >>> (a &&& 31)) &&& 1).toInt ≠ 1) (b4 : (I 43 2).toInt = 0) (c3 : xEv L xs d 39 0 [.ref 35, .int m] [] (124, I, J, R) (some (.int g)) (124, I, J, R)) (c4 : xEv L xs d 33 0 [.ref 35, .int m, .int (g ||| (1 <<< (a &&& 31)))] [] (124, I, J, R) none (124, (uI I 35 m.toNatClampNeg (g ||| (1 <<< (a &&& 31)))), J, R)) (c5 : xEv L xs d 21 0 [.ref 1] [] (124, (uI I 35 m.toNatClampNeg (g ||| (1 <<< (a &&& 31)))), J, R) none (124, I1, J1, R)) : xEv L xs (d + 1) 41 21 [.ref 43, .int a, .int m] [] (124, I, J, R) none (124, I1, J1, R) := by
  refine ev_go 2 (pc1 := 25) (lv1 := [.ref 43, .int a, .int m]) (st1 := [.int (I 43 2)]) (h1 := (124, I, J, R)) rfl ?_
  refine ev_br (b1 := false) rfl rfl (xcd_nne (x := (I 43 2)) (y := 0) (by rw [show ((0 : Int32)).toInt = 0 from by decide]; first | exact b1 | omega)) ?_
  refine ev_go 1 (pc1 := 29) (lv1 := [.ref 43, .int a, .int m]) (st1 := [.ref 43]) (h1 := (124, I, J, R)) rfl ?_
  refine ev_gf (c := 43) (t := 23) (X := R 43 1) rfl rfl (fun _ => rfl) rfl r_R_43_1 ?_
  refine ev_gf (c := 23) (t := 31) (X := R 23 7) rfl rfl (fun _ => rfl) rfl (hG 23 7 31 rfl rfl) ?_
  refine ev_go 1 (pc1 := 36) (lv1 := [.ref 43, .int a, .int m]) (st1 := [.int m, .ref 31]) (h1 := (124, I, J, R)) rfl ?_
  refine ev_call (v1 := (some (.int f))) (h1 := (124, I, J, R)) rfl rfl c1 ?_
  refine ev_go 1 (pc1 := 40) (lv1 := [.ref 43, .int a, .int m]) (st1 := [.int a, .int f]) (h1 := (124, I, J, R)) rfl ?_
  refine ev_br (b1 := false) rfl rfl (xcd_neq (x := f) (y := a) (by first | exact b2 | omega)) ?_
  refine ev_go 1 (pc1 := 44) (lv1 := [.ref 43, .int a, .int m]) (st1 := [.ref 43]) (h1 := (124, I, J, R)) rfl ?_
  refine ev_gf (c := 43) (t := 23) (X := R 43 1) rfl rfl (fun _ => rfl) rfl r_R_43_1 ?_
  refine ev_gf (c := 23) (t := 35) (X := R 23 11) rfl rfl (fun _ => rfl) rfl (hG 23 11 35 rfl rfl) ?_
  refine ev_go 1 (pc1 := 51) (lv1 := [.ref 43, .int a, .int m]) (st1 := [.int m, .ref 35]) (h1 := (124, I, J, R)) rfl ?_
  refine ev_call (v1 := (some (.int g))) (h1 := (124, I, J, R)) rfl rfl c2 ?_
  refine ev_go 1 (pc1 := 55) (lv1 := [.ref 43, .int a, .int m]) (st1 := [.int a, .int g]) (h1 := (124, I, J, R)) rfl ?_
  refine ev_go 4 (pc1 := 59) (lv1 := [.ref 43, .int a, .int m]) (st1 := [.int 1, .int ((g >>> (a &&& 31)) &&& 1)]) (h1 := (124, I, J, R)) rfl ?_
  refine ev_br (b1 := true) rfl rfl (xcd_ne (x := ((g >>> (a &&& 31)) &&& 1)) (y := 1) (by rw [show ((1 : Int32)).toInt = 1 from by decide]; first | exact b3 | omega)) ?_
  refine ev_go 2 (pc1 := 71) (lv1 := [.ref 43, .int a, .int m]) (st1 := [.int (I 43 2)]) (h1 := (124, I, J, R)) rfl ?_
  refine ev_br (b1 := false) rfl rfl (xcd_nne (x := (I 43 2)) (y := 0) (by rw [show ((0 : Int32)).toInt = 0 from by decide]; first | exact b4 | omega)) ?_
  refine ev_go 1 (pc1 := 75) (lv1 := [.ref 43, .int a, .int m]) (st1 := [.ref 43]) (h1 := (124, I, J, R)) rfl ?_
  refine ev_gf (c := 43) (t := 23) (X := R 43 1) rfl rfl (fun _ => rfl) rfl r_R_43_1 ?_
  refine ev_gf (c := 23) (t := 35) (X := R 23 11) rfl rfl (fun _ => rfl) rfl (hG 23 11 35 rfl rfl) ?_
  refine ev_go 2 (pc1 := 83) (lv1 := [.ref 43, .int a, .int m]) (st1 := [.ref 43, .int m, .ref 35]) (h1 := (124, I, J, R)) rfl ?_
  refine ev_gf (c := 43) (t := 23) (X := R 43 1) rfl rfl (fun _ => rfl) rfl r_R_43_1 ?_
  refine ev_gf (c := 23) (t := 35) (X := R 23 11) rfl rfl (fun _ => rfl) rfl (hG 23 11 35 rfl rfl) ?_
  refine ev_go 1 (pc1 := 90) (lv1 := [.ref 43, .int a, .int m]) (st1 := [.int m, .ref 35, .int m, .ref 35]) (h1 := (124, I, J, R)) rfl ?_
  refine ev_call (v1 := (some (.int g))) (h1 := (124, I, J, R)) rfl rfl c3 ?_
  refine ev_go 2 (pc1 := 95) (lv1 := [.ref 43, .int a, .int m]) (st1 := [.int a, .int 1, .int g, .int m, .ref 35]) (h1 := (124, I, J, R)) rfl ?_
  refine ev_go 2 (pc1 := 97) (lv1 := [.ref 43, .int a, .int m]) (st1 := [.int (g ||| (1 <<< (a &&& 31))), .int m, .ref 35]) (h1 := (124, I, J, R)) rfl ?_
  refine ev_call (v1 := none) (h1 := (124, (uI I 35 m.toNatClampNeg (g ||| (1 <<< (a &&& 31)))), J, R)) rfl rfl c4 ?_
  refine ev_go 1 (pc1 := 101) (lv1 := [.ref 43, .int a, .int m]) (st1 := [.ref 43]) (h1 := (124, (uI I 35 m.toNatClampNeg (g ||| (1 <<< (a &&& 31)))), J, R)) rfl ?_
  refine ev_gf (c := 43) (t := 1) (X := R 43 0) rfl rfl (fun _ => rfl) rfl (hG 43 0 1 rfl rfl) ?_
  refine ev_call (v1 := none) (h1 := (124, I1, J1, R)) rfl rfl c5 ?_
  exact ev_ret rfl rfl
set_option maxRecDepth 20000 in
theorem mb_1 {L : Nat} {xs : Nat → Int32} {d : Nat} {I : Nat → Nat → Int32} {J : Nat → Nat → Int64} {R : Nat → Nat → Nat} {I1 : Nat → Nat → Int32} {J1 : Nat → Nat → Int64} (hG : aGd R) (c1 : xEv L xs d 150 0 [.ref 86, xmk, xmk, xmk] [] (124, I, J, R) none (124, I1, J1, R)) (b1 : (I1 86 3).toInt ≠ 1) (c2 : xEv L xs d 157 0 [.ref 86, .int 1] [] (124, I1, J1, R) (some (.int 0)) (124, (uI (uI I1 86 8 1) 86 9 (I1 86 5)), J1, R)) : xEv L xs (d + 1) 165 0 [.ref 86, xmk] [] (124, I, J, R) (some (.int 0)) (124, (uI (uI I1 86 8 1) 86 9 (I1 86 5)), J1, R) := by
  refine ev_go 1 (pc1 := 1) (lv1 := [.ref 86, xmk]) (st1 := [.ref 86]) (h1 := (124, I, J, R)) rfl ?_
  refine ev_call (v1 := none) (h1 := (124, I1, J1, R)) rfl rfl c1 ?_
  refine ev_go 3 (pc1 := 9) (lv1 := [.ref 86, xmk]) (st1 := [.int 1, .int (I1 86 3)]) (h1 := (124, I1, J1, R)) rfl ?_
  refine ev_br (b1 := false) rfl rfl (xcd_neq (x := (I1 86 3)) (y := 1) (by rw [show ((1 : Int32)).toInt = 1 from by decide]; first | exact b1 | omega)) ?_
  refine ev_go 2 (pc1 := 14) (lv1 := [.ref 86, xmk]) (st1 := [.int 1, .ref 86]) (h1 := (124, I1, J1, R)) rfl ?_
  refine ev_call (v1 := (some (.int 0))) (h1 := (124, (uI (uI I1 86 8 1) 86 9 (I1 86 5)), J1, R)) rfl rfl c2 ?_
  exact ev_ret rfl rfl
set_option maxRecDepth 20000 in
theorem mb_2 {L : Nat} {xs : Nat → Int32} {d : Nat} {I : Nat → Nat → Int32} {J : Nat → Nat → Int64} {R : Nat → Nat → Nat} {I1 : Nat → Nat → Int32} {J1 : Nat → Nat → Int64} {a : Int32} (hG : aGd R) (c1 : xEv L xs d 150 0 [.ref 86, xmk, xmk, xmk] [] (124, I, J, R) none (124, I1, J1, R)) (b1 : (I1 86 3).toInt = 1) (c2 : xEv L xs d 158 0 [.ref 86, xmk] [] (124, I1, J1, R) (some (.int a)) (124, I1, J1, R)) (b2 : a.toInt = -1) (c3 : xEv L xs d 157 0 [.ref 86, .int 5] [] (124, I1, J1, R) (some (.int 0)) (124, (uI (uI I1 86 8 5) 86 9 (I1 86 5)), J1, R)) : xEv L xs (d + 1) 165 0 [.ref 86, xmk] [] (124, I, J, R) (some (.int 0)) (124, (uI (uI I1 86 8 5) 86 9 (I1 86 5)), J1, R) := by
  refine ev_go 1 (pc1 := 1) (lv1 := [.ref 86, xmk]) (st1 := [.ref 86]) (h1 := (124, I, J, R)) rfl ?_
  refine ev_call (v1 := none) (h1 := (124, I1, J1, R)) rfl rfl c1 ?_
  refine ev_go 3 (pc1 := 9) (lv1 := [.ref 86, xmk]) (st1 := [.int 1, .int (I1 86 3)]) (h1 := (124, I1, J1, R)) rfl ?_
  refine ev_br (b1 := true) rfl rfl (xcd_eq (x := (I1 86 3)) (y := 1) (by rw [show ((1 : Int32)).toInt = 1 from by decide]; first | exact b1 | omega)) ?_
  refine ev_go 1 (pc1 := 19) (lv1 := [.ref 86, xmk]) (st1 := [.ref 86]) (h1 := (124, I1, J1, R)) rfl ?_
  refine ev_call (v1 := (some (.int a))) (h1 := (124, I1, J1, R)) rfl rfl c2 ?_
  refine ev_go 3 (pc1 := 25) (lv1 := [.ref 86, .int a]) (st1 := [.int (-1), .int a]) (h1 := (124, I1, J1, R)) rfl ?_
  refine ev_br (b1 := false) rfl rfl (xcd_nne (x := a) (y := (-1)) (by rw [show ((-1 : Int32)).toInt = -1 from by decide]; first | exact b2 | omega)) ?_
  refine ev_go 2 (pc1 := 30) (lv1 := [.ref 86, .int a]) (st1 := [.int 5, .ref 86]) (h1 := (124, I1, J1, R)) rfl ?_
  refine ev_call (v1 := (some (.int 0))) (h1 := (124, (uI (uI I1 86 8 5) 86 9 (I1 86 5)), J1, R)) rfl rfl c3 ?_
  exact ev_ret rfl rfl
set_option maxRecDepth 20000 in
theorem mb_3 {L : Nat} {xs : Nat → Int32} {d : Nat} {I : Nat → Nat → Int32} {J : Nat → Nat → Int64} {R : Nat → Nat → Nat} {I1 : Nat → Nat → Int32} {J1 : Nat → Nat → Int64} {I2 : Nat → Nat → Int32} {J2 : Nat → Nat → Int64} {a : Int32} (hG : aGd R) (c1 : xEv L xs d 150 0 [.ref 86, xmk, xmk, xmk] [] (124, I, J, R) none (124, I1, J1, R)) (b1 : (I1 86 3).toInt = 1) (c2 : xEv L xs d 158 0 [.ref 86, xmk] [] (124, I1, J1, R) (some (.int a)) (124, I1, J1, R)) (b2 : a.toInt ≠ -1) (c3 : xEv L xs d 150 0 [.ref 86, xmk, xmk, xmk] [] (124, I1, J1, R) none (124, I2, J2, R)) (b3 : (I2 86 3).toInt ≠ 2) (c4 : xEv L xs d 157 0 [.ref 86, .int 1] [] (124, I2, J2, R) (some (.int 0)) (124, (uI (uI I2 86 8 1) 86 9 (I2 86 5)), J2, R)) : xEv L xs (d + 1) 165 0 [.ref 86, xmk] [] (124, I, J, R) (some (.int 0)) (124, (uI (uI I2 86 8 1) 86 9 (I2 86 5)), J2, R) := by
  refine ev_go 1 (pc1 := 1) (lv1 := [.ref 86, xmk]) (st1 := [.ref 86]) (h1 := (124, I, J, R)) rfl ?_
  refine ev_call (v1 := none) (h1 := (124, I1, J1, R)) rfl rfl c1 ?_
  refine ev_go 3 (pc1 := 9) (lv1 := [.ref 86, xmk]) (st1 := [.int 1, .int (I1 86 3)]) (h1 := (124, I1, J1, R)) rfl ?_
  refine ev_br (b1 := true) rfl rfl (xcd_eq (x := (I1 86 3)) (y := 1) (by rw [show ((1 : Int32)).toInt = 1 from by decide]; first | exact b1 | omega)) ?_
  refine ev_go 1 (pc1 := 19) (lv1 := [.ref 86, xmk]) (st1 := [.ref 86]) (h1 := (124, I1, J1, R)) rfl ?_
  refine ev_call (v1 := (some (.int a))) (h1 := (124, I1, J1, R)) rfl rfl c2 ?_
  refine ev_go 3 (pc1 := 25) (lv1 := [.ref 86, .int a]) (st1 := [.int (-1), .int a]) (h1 := (124, I1, J1, R)) rfl ?_
  refine ev_br (b1 := true) rfl rfl (xcd_ne (x := a) (y := (-1)) (by rw [show ((-1 : Int32)).toInt = -1 from by decide]; first | exact b2 | omega)) ?_
  refine ev_go 1 (pc1 := 35) (lv1 := [.ref 86, .int a]) (st1 := [.ref 86]) (h1 := (124, I1, J1, R)) rfl ?_
  refine ev_call (v1 := none) (h1 := (124, I2, J2, R)) rfl rfl c3 ?_
  refine ev_go 3 (pc1 := 43) (lv1 := [.ref 86, .int a]) (st1 := [.int 2, .int (I2 86 3)]) (h1 := (124, I2, J2, R)) rfl ?_
  refine ev_br (b1 := false) rfl rfl (xcd_neq (x := (I2 86 3)) (y := 2) (by rw [show ((2 : Int32)).toInt = 2 from by decide]; first | exact b3 | omega)) ?_
  refine ev_go 2 (pc1 := 48) (lv1 := [.ref 86, .int a]) (st1 := [.int 1, .ref 86]) (h1 := (124, I2, J2, R)) rfl ?_
  refine ev_call (v1 := (some (.int 0))) (h1 := (124, (uI (uI I2 86 8 1) 86 9 (I2 86 5)), J2, R)) rfl rfl c4 ?_
  exact ev_ret rfl rfl
set_option maxRecDepth 20000 in
theorem mb_4 {L : Nat} {xs : Nat → Int32} {d : Nat} {I : Nat → Nat → Int32} {J : Nat → Nat → Int64} {R : Nat → Nat → Nat} {I1 : Nat → Nat → Int32} {J1 : Nat → Nat → Int64} {I2 : Nat → Nat → Int32} {J2 : Nat → Nat → Int64} {a : Int32} (hG : aGd R) (c1 : xEv L xs d 150 0 [.ref 86, xmk, xmk, xmk] [] (124, I, J, R) none (124, I1, J1, R)) (b1 : (I1 86 3).toInt = 1) (c2 : xEv L xs d 158 0 [.ref 86, xmk] [] (124, I1, J1, R) (some (.int a)) (124, I1, J1, R)) (b2 : a.toInt ≠ -1) (c3 : xEv L xs d 150 0 [.ref 86, xmk, xmk, xmk] [] (124, I1, J1, R) none (124, I2, J2, R)) (b3 : (I2 86 3).toInt = 2) (c4 : xEv L xs d 160 0 [.int (I2 86 7), .int 0, .int ((I2 88 5) - 1)] [] (124, I2, J2, R) (some (.int 0)) (124, I2, J2, R)) (c5 : xEv L xs d 157 0 [.ref 86, .int 2] [] (124, I2, J2, R) (some (.int 0)) (124, (uI (uI I2 86 8 2) 86 9 (I2 86 5)), J2, R)) : xEv L xs (d + 1) 165 0 [.ref 86, xmk] [] (124, I, J, R) (some (.int 0)) (124, (uI (uI I2 86 8 2) 86 9 (I2 86 5)), J2, R) := by
  refine ev_go 1 (pc1 := 1) (lv1 := [.ref 86, xmk]) (st1 := [.ref 86]) (h1 := (124, I, J, R)) rfl ?_
  refine ev_call (v1 := none) (h1 := (124, I1, J1, R)) rfl rfl c1 ?_
  refine ev_go 3 (pc1 := 9) (lv1 := [.ref 86, xmk]) (st1 := [.int 1, .int (I1 86 3)]) (h1 := (124, I1, J1, R)) rfl ?_
  refine ev_br (b1 := true) rfl rfl (xcd_eq (x := (I1 86 3)) (y := 1) (by rw [show ((1 : Int32)).toInt = 1 from by decide]; first | exact b1 | omega)) ?_
  refine ev_go 1 (pc1 := 19) (lv1 := [.ref 86, xmk]) (st1 := [.ref 86]) (h1 := (124, I1, J1, R)) rfl ?_
  refine ev_call (v1 := (some (.int a))) (h1 := (124, I1, J1, R)) rfl rfl c2 ?_
  refine ev_go 3 (pc1 := 25) (lv1 := [.ref 86, .int a]) (st1 := [.int (-1), .int a]) (h1 := (124, I1, J1, R)) rfl ?_
  refine ev_br (b1 := true) rfl rfl (xcd_ne (x := a) (y := (-1)) (by rw [show ((-1 : Int32)).toInt = -1 from by decide]; first | exact b2 | omega)) ?_
  refine ev_go 1 (pc1 := 35) (lv1 := [.ref 86, .int a]) (st1 := [.ref 86]) (h1 := (124, I1, J1, R)) rfl ?_
  refine ev_call (v1 := none) (h1 := (124, I2, J2, R)) rfl rfl c3 ?_
  refine ev_go 3 (pc1 := 43) (lv1 := [.ref 86, .int a]) (st1 := [.int 2, .int (I2 86 3)]) (h1 := (124, I2, J2, R)) rfl ?_
  refine ev_br (b1 := true) rfl rfl (xcd_eq (x := (I2 86 3)) (y := 2) (by rw [show ((2 : Int32)).toInt = 2 from by decide]; first | exact b3 | omega)) ?_
  refine ev_go 4 (pc1 := 58) (lv1 := [.ref 86, .int a]) (st1 := [.ref 86, .int 0, .int (I2 86 7)]) (h1 := (124, I2, J2, R)) rfl ?_
  refine ev_gf (c := 86) (t := 88) (X := R 86 12) rfl rfl (fun _ => rfl) rfl (hG 86 12 88 rfl rfl) ?_
  refine ev_go 4 (pc1 := 65) (lv1 := [.ref 86, .int a]) (st1 := [.int ((I2 88 5) - 1), .int 0, .int (I2 86 7)]) (h1 := (124, I2, J2, R)) rfl ?_
  refine ev_call (v1 := (some (.int 0))) (h1 := (124, I2, J2, R)) rfl rfl c4 ?_
  refine ev_go 3 (pc1 := 73) (lv1 := [.ref 86, .int a]) (st1 := [.int 2, .ref 86]) (h1 := (124, I2, J2, R)) rfl ?_
  refine ev_call (v1 := (some (.int 0))) (h1 := (124, (uI (uI I2 86 8 2) 86 9 (I2 86 5)), J2, R)) rfl rfl c5 ?_
  exact ev_ret rfl rfl
set_option maxRecDepth 20000 in
theorem mb_5 {L : Nat} {xs : Nat → Int32} {d : Nat} {I : Nat → Nat → Int32} {J : Nat → Nat → Int64} {R : Nat → Nat → Nat} {I1 : Nat → Nat → Int32} {J1 : Nat → Nat → Int64} {I2 : Nat → Nat → Int32} {J2 : Nat → Nat → Int64} {a : Int32} (hG : aGd R) (c1 : xEv L xs d 150 0 [.ref 86, xmk, xmk, xmk] [] (124, I, J, R) none (124, I1, J1, R)) (b1 : (I1 86 3).toInt = 1) (c2 : xEv L xs d 158 0 [.ref 86, xmk] [] (124, I1, J1, R) (some (.int a)) (124, I1, J1, R)) (b2 : a.toInt ≠ -1) (c3 : xEv L xs d 150 0 [.ref 86, xmk, xmk, xmk] [] (124, I1, J1, R) none (124, I2, J2, R)) (b3 : (I2 86 3).toInt = 2) (c4 : xEv L xs d 160 0 [.int (I2 86 7), .int 0, .int ((I2 88 5) - 1)] [] (124, I2, J2, R) (some (.int 1)) (124, I2, J2, R)) (n1 : 0 ≤ (4 + (I2 86 7)).toInt) (m1 : (4 + (I2 86 7)).toInt < 8) (b4 : (I2 96 (4 + (I2 86 7)).toNatClampNeg).toInt = a.toInt) (c5 : xEv L xs d 157 0 [.ref 86, .int 3] [] (124, I2, J2, R) (some (.int 0)) (124, (uI (uI I2 86 8 3) 86 9 (I2 86 5)), J2, R)) : xEv L xs (d + 1) 165 0 [.ref 86, xmk] [] (124, I, J, R) (some (.int 0)) (124, (uI (uI I2 86 8 3) 86 9 (I2 86 5)), J2, R) := by
  refine ev_go 1 (pc1 := 1) (lv1 := [.ref 86, xmk]) (st1 := [.ref 86]) (h1 := (124, I, J, R)) rfl ?_
  refine ev_call (v1 := none) (h1 := (124, I1, J1, R)) rfl rfl c1 ?_
  refine ev_go 3 (pc1 := 9) (lv1 := [.ref 86, xmk]) (st1 := [.int 1, .int (I1 86 3)]) (h1 := (124, I1, J1, R)) rfl ?_
  refine ev_br (b1 := true) rfl rfl (xcd_eq (x := (I1 86 3)) (y := 1) (by rw [show ((1 : Int32)).toInt = 1 from by decide]; first | exact b1 | omega)) ?_
  refine ev_go 1 (pc1 := 19) (lv1 := [.ref 86, xmk]) (st1 := [.ref 86]) (h1 := (124, I1, J1, R)) rfl ?_
  refine ev_call (v1 := (some (.int a))) (h1 := (124, I1, J1, R)) rfl rfl c2 ?_
  refine ev_go 3 (pc1 := 25) (lv1 := [.ref 86, .int a]) (st1 := [.int (-1), .int a]) (h1 := (124, I1, J1, R)) rfl ?_
  refine ev_br (b1 := true) rfl rfl (xcd_ne (x := a) (y := (-1)) (by rw [show ((-1 : Int32)).toInt = -1 from by decide]; first | exact b2 | omega)) ?_
  refine ev_go 1 (pc1 := 35) (lv1 := [.ref 86, .int a]) (st1 := [.ref 86]) (h1 := (124, I1, J1, R)) rfl ?_
  refine ev_call (v1 := none) (h1 := (124, I2, J2, R)) rfl rfl c3 ?_
  refine ev_go 3 (pc1 := 43) (lv1 := [.ref 86, .int a]) (st1 := [.int 2, .int (I2 86 3)]) (h1 := (124, I2, J2, R)) rfl ?_
  refine ev_br (b1 := true) rfl rfl (xcd_eq (x := (I2 86 3)) (y := 2) (by rw [show ((2 : Int32)).toInt = 2 from by decide]; first | exact b3 | omega)) ?_
  refine ev_go 4 (pc1 := 58) (lv1 := [.ref 86, .int a]) (st1 := [.ref 86, .int 0, .int (I2 86 7)]) (h1 := (124, I2, J2, R)) rfl ?_
  refine ev_gf (c := 86) (t := 88) (X := R 86 12) rfl rfl (fun _ => rfl) rfl (hG 86 12 88 rfl rfl) ?_
  refine ev_go 4 (pc1 := 65) (lv1 := [.ref 86, .int a]) (st1 := [.int ((I2 88 5) - 1), .int 0, .int (I2 86 7)]) (h1 := (124, I2, J2, R)) rfl ?_
  refine ev_call (v1 := (some (.int 1))) (h1 := (124, I2, J2, R)) rfl rfl c4 ?_
  refine ev_go 2 (pc1 := 78) (lv1 := [.ref 86, .int a]) (st1 := [.ref 86]) (h1 := (124, I2, J2, R)) rfl ?_
  refine ev_gf (c := 86) (t := 96) (X := R 86 20) rfl rfl (fun _ => rfl) rfl (hG 86 20 96 rfl rfl) ?_
  refine ev_go 4 (pc1 := 87) (lv1 := [.ref 86, .int a]) (st1 := [.int (4 + (I2 86 7)), .ref 96]) (h1 := (124, I2, J2, R)) rfl ?_
  refine ev_ild (n := 8) rfl rfl (fun _ => rfl) n1 m1 ?_
  refine ev_go 1 (pc1 := 89) (lv1 := [.ref 86, .int a]) (st1 := [.int a, .int (I2 96 (4 + (I2 86 7)).toNatClampNeg)]) (h1 := (124, I2, J2, R)) rfl ?_
  refine ev_br (b1 := true) rfl rfl (xcd_eq (x := (I2 96 (4 + (I2 86 7)).toNatClampNeg)) (y := a) (by first | exact b4 | omega)) ?_
  refine ev_go 2 (pc1 := 113) (lv1 := [.ref 86, .int a]) (st1 := [.int 3, .ref 86]) (h1 := (124, I2, J2, R)) rfl ?_
  refine ev_call (v1 := (some (.int 0))) (h1 := (124, (uI (uI I2 86 8 3) 86 9 (I2 86 5)), J2, R)) rfl rfl c5 ?_
  exact ev_ret rfl rfl
set_option maxRecDepth 20000 in
theorem mb_6 {L : Nat} {xs : Nat → Int32} {d : Nat} {I : Nat → Nat → Int32} {J : Nat → Nat → Int64} {R : Nat → Nat → Nat} {I1 : Nat → Nat → Int32} {J1 : Nat → Nat → Int64} {I2 : Nat → Nat → Int32} {J2 : Nat → Nat → Int64} {a : Int32} (hG : aGd R) (c1 : xEv L xs d 150 0 [.ref 86, xmk, xmk, xmk] [] (124, I, J, R) none (124, I1, J1, R)) (b1 : (I1 86 3).toInt = 1) (c2 : xEv L xs d 158 0 [.ref 86, xmk] [] (124, I1, J1, R) (some (.int a)) (124, I1, J1, R)) (b2 : a.toInt ≠ -1) (c3 : xEv L xs d 150 0 [.ref 86, xmk, xmk, xmk] [] (124, I1, J1, R) none (124, I2, J2, R)) (b3 : (I2 86 3).toInt = 2) (c4 : xEv L xs d 160 0 [.int (I2 86 7), .int 0, .int ((I2 88 5) - 1)] [] (124, I2, J2, R) (some (.int 1)) (124, I2, J2, R)) (n1 : 0 ≤ (4 + (I2 86 7)).toInt) (m1 : (4 + (I2 86 7)).toInt < 8) (b4 : (I2 96 (4 + (I2 86 7)).toNatClampNeg).toInt ≠ a.toInt) (n2 : 0 ≤ (4 + (I2 86 7)).toInt) (m2 : (4 + (I2 86 7)).toInt < 8) (b5 : (((I2 100 (4 + (I2 86 7)).toNatClampNeg) >>> (a &&& 31)) &&& 1).toInt = 1) (c5 : xEv L xs d 157 0 [.ref 86, .int 3] [] (124, I2, J2, R) (some (.int 0)) (124, (uI (uI I2 86 8 3) 86 9 (I2 86 5)), J2, R)) : xEv L xs (d + 1) 165 0 [.ref 86, xmk] [] (124, I, J, R) (some (.int 0)) (124, (uI (uI I2 86 8 3) 86 9 (I2 86 5)), J2, R) := by
  refine ev_go 1 (pc1 := 1) (lv1 := [.ref 86, xmk]) (st1 := [.ref 86]) (h1 := (124, I, J, R)) rfl ?_
  refine ev_call (v1 := none) (h1 := (124, I1, J1, R)) rfl rfl c1 ?_
  refine ev_go 3 (pc1 := 9) (lv1 := [.ref 86, xmk]) (st1 := [.int 1, .int (I1 86 3)]) (h1 := (124, I1, J1, R)) rfl ?_
  refine ev_br (b1 := true) rfl rfl (xcd_eq (x := (I1 86 3)) (y := 1) (by rw [show ((1 : Int32)).toInt = 1 from by decide]; first | exact b1 | omega)) ?_
  refine ev_go 1 (pc1 := 19) (lv1 := [.ref 86, xmk]) (st1 := [.ref 86]) (h1 := (124, I1, J1, R)) rfl ?_
  refine ev_call (v1 := (some (.int a))) (h1 := (124, I1, J1, R)) rfl rfl c2 ?_
  refine ev_go 3 (pc1 := 25) (lv1 := [.ref 86, .int a]) (st1 := [.int (-1), .int a]) (h1 := (124, I1, J1, R)) rfl ?_
  refine ev_br (b1 := true) rfl rfl (xcd_ne (x := a) (y := (-1)) (by rw [show ((-1 : Int32)).toInt = -1 from by decide]; first | exact b2 | omega)) ?_
  refine ev_go 1 (pc1 := 35) (lv1 := [.ref 86, .int a]) (st1 := [.ref 86]) (h1 := (124, I1, J1, R)) rfl ?_
  refine ev_call (v1 := none) (h1 := (124, I2, J2, R)) rfl rfl c3 ?_
  refine ev_go 3 (pc1 := 43) (lv1 := [.ref 86, .int a]) (st1 := [.int 2, .int (I2 86 3)]) (h1 := (124, I2, J2, R)) rfl ?_
  refine ev_br (b1 := true) rfl rfl (xcd_eq (x := (I2 86 3)) (y := 2) (by rw [show ((2 : Int32)).toInt = 2 from by decide]; first | exact b3 | omega)) ?_
  refine ev_go 4 (pc1 := 58) (lv1 := [.ref 86, .int a]) (st1 := [.ref 86, .int 0, .int (I2 86 7)]) (h1 := (124, I2, J2, R)) rfl ?_
  refine ev_gf (c := 86) (t := 88) (X := R 86 12) rfl rfl (fun _ => rfl) rfl (hG 86 12 88 rfl rfl) ?_
  refine ev_go 4 (pc1 := 65) (lv1 := [.ref 86, .int a]) (st1 := [.int ((I2 88 5) - 1), .int 0, .int (I2 86 7)]) (h1 := (124, I2, J2, R)) rfl ?_
  refine ev_call (v1 := (some (.int 1))) (h1 := (124, I2, J2, R)) rfl rfl c4 ?_
  refine ev_go 2 (pc1 := 78) (lv1 := [.ref 86, .int a]) (st1 := [.ref 86]) (h1 := (124, I2, J2, R)) rfl ?_
  refine ev_gf (c := 86) (t := 96) (X := R 86 20) rfl rfl (fun _ => rfl) rfl (hG 86 20 96 rfl rfl) ?_
  refine ev_go 4 (pc1 := 87) (lv1 := [.ref 86, .int a]) (st1 := [.int (4 + (I2 86 7)), .ref 96]) (h1 := (124, I2, J2, R)) rfl ?_
  refine ev_ild (n := 8) rfl rfl (fun _ => rfl) n1 m1 ?_
  refine ev_go 1 (pc1 := 89) (lv1 := [.ref 86, .int a]) (st1 := [.int a, .int (I2 96 (4 + (I2 86 7)).toNatClampNeg)]) (h1 := (124, I2, J2, R)) rfl ?_
  refine ev_br (b1 := false) rfl rfl (xcd_neq (x := (I2 96 (4 + (I2 86 7)).toNatClampNeg)) (y := a) (by first | exact b4 | omega)) ?_
  refine ev_go 1 (pc1 := 93) (lv1 := [.ref 86, .int a]) (st1 := [.ref 86]) (h1 := (124, I2, J2, R)) rfl ?_
  refine ev_gf (c := 86) (t := 100) (X := R 86 24) rfl rfl (fun _ => rfl) rfl (hG 86 24 100 rfl rfl) ?_
  refine ev_go 4 (pc1 := 102) (lv1 := [.ref 86, .int a]) (st1 := [.int (4 + (I2 86 7)), .ref 100]) (h1 := (124, I2, J2, R)) rfl ?_
  refine ev_ild (n := 8) rfl rfl (fun _ => rfl) n2 m2 ?_
  refine ev_go 1 (pc1 := 104) (lv1 := [.ref 86, .int a]) (st1 := [.int a, .int (I2 100 (4 + (I2 86 7)).toNatClampNeg)]) (h1 := (124, I2, J2, R)) rfl ?_
  refine ev_go 4 (pc1 := 108) (lv1 := [.ref 86, .int a]) (st1 := [.int 1, .int (((I2 100 (4 + (I2 86 7)).toNatClampNeg) >>> (a &&& 31)) &&& 1)]) (h1 := (124, I2, J2, R)) rfl ?_
  refine ev_br (b1 := false) rfl rfl (xcd_nne (x := (((I2 100 (4 + (I2 86 7)).toNatClampNeg) >>> (a &&& 31)) &&& 1)) (y := 1) (by rw [show ((1 : Int32)).toInt = 1 from by decide]; first | exact b5 | omega)) ?_
  refine ev_go 2 (pc1 := 113) (lv1 := [.ref 86, .int a]) (st1 := [.int 3, .ref 86]) (h1 := (124, I2, J2, R)) rfl ?_
  refine ev_call (v1 := (some (.int 0))) (h1 := (124, (uI (uI I2 86 8 3) 86 9 (I2 86 5)), J2, R)) rfl rfl c5 ?_
  exact ev_ret rfl rfl
set_option maxRecDepth 20000 in
theorem mb_7 {L : Nat} {xs : Nat → Int32} {d : Nat} {I : Nat → Nat → Int32} {J : Nat → Nat → Int64} {R : Nat → Nat → Nat} {I1 : Nat → Nat → Int32} {J1 : Nat → Nat → Int64} {I2 : Nat → Nat → Int32} {J2 : Nat → Nat → Int64} {I3 : Nat → Nat → Int32} {J3 : Nat → Nat → Int64} {a : Int32} (hG : aGd R) (c1 : xEv L xs d 150 0 [.ref 86, xmk, xmk, xmk] [] (124, I, J, R) none (124, I1, J1, R)) (b1 : (I1 86 3).toInt = 1) (c2 : xEv L xs d 158 0 [.ref 86, xmk] [] (124, I1, J1, R) (some (.int a)) (124, I1, J1, R)) (b2 : a.toInt ≠ -1) (c3 : xEv L xs d 150 0 [.ref 86, xmk, xmk, xmk] [] (124, I1, J1, R) none (124, I2, J2, R)) (b3 : (I2 86 3).toInt = 2) (c4 : xEv L xs d 160 0 [.int (I2 86 7), .int 0, .int ((I2 88 5) - 1)] [] (124, I2, J2, R) (some (.int 1)) (124, I2, J2, R)) (n1 : 0 ≤ (4 + (I2 86 7)).toInt) (m1 : (4 + (I2 86 7)).toInt < 8) (b4 : (I2 96 (4 + (I2 86 7)).toNatClampNeg).toInt ≠ a.toInt) (n2 : 0 ≤ (4 + (I2 86 7)).toInt) (m2 : (4 + (I2 86 7)).toInt < 8) (b5 : (((I2 100 (4 + (I2 86 7)).toNatClampNeg) >>> (a &&& 31)) &&& 1).toInt ≠ 1) (n3 : 0 ≤ (4 + (I2 86 7)).toInt) (m3 : (4 + (I2 86 7)).toInt < 8) (n4 : 0 ≤ (4 + (I2 86 7)).toInt) (m4 : (4 + (I2 86 7)).toInt < 8) (c5 : xEv L xs d 150 0 [.ref 86, xmk, xmk, xmk] [] (124, (uI I2 100 (4 + (I2 86 7)).toNatClampNeg ((I2 100 (4 + (I2 86 7)).toNatClampNeg) ||| (1 <<< (a &&& 31)))), J2, R) none (124, I3, J3, R)) : xEv L xs (d + 1) 165 0 [.ref 86, xmk] [] (124, I, J, R) (some (.int 1)) (124, I3, J3, R) := by
  refine ev_go 1 (pc1 := 1) (lv1 := [.ref 86, xmk]) (st1 := [.ref 86]) (h1 := (124, I, J, R)) rfl ?_
  refine ev_call (v1 := none) (h1 := (124, I1, J1, R)) rfl rfl c1 ?_
  refine ev_go 3 (pc1 := 9) (lv1 := [.ref 86, xmk]) (st1 := [.int 1, .int (I1 86 3)]) (h1 := (124, I1, J1, R)) rfl ?_
  refine ev_br (b1 := true) rfl rfl (xcd_eq (x := (I1 86 3)) (y := 1) (by rw [show ((1 : Int32)).toInt = 1 from by decide]; first | exact b1 | omega)) ?_
  refine ev_go 1 (pc1 := 19) (lv1 := [.ref 86, xmk]) (st1 := [.ref 86]) (h1 := (124, I1, J1, R)) rfl ?_
  refine ev_call (v1 := (some (.int a))) (h1 := (124, I1, J1, R)) rfl rfl c2 ?_
  refine ev_go 3 (pc1 := 25) (lv1 := [.ref 86, .int a]) (st1 := [.int (-1), .int a]) (h1 := (124, I1, J1, R)) rfl ?_
  refine ev_br (b1 := true) rfl rfl (xcd_ne (x := a) (y := (-1)) (by rw [show ((-1 : Int32)).toInt = -1 from by decide]; first | exact b2 | omega)) ?_
  refine ev_go 1 (pc1 := 35) (lv1 := [.ref 86, .int a]) (st1 := [.ref 86]) (h1 := (124, I1, J1, R)) rfl ?_
  refine ev_call (v1 := none) (h1 := (124, I2, J2, R)) rfl rfl c3 ?_
  refine ev_go 3 (pc1 := 43) (lv1 := [.ref 86, .int a]) (st1 := [.int 2, .int (I2 86 3)]) (h1 := (124, I2, J2, R)) rfl ?_
  refine ev_br (b1 := true) rfl rfl (xcd_eq (x := (I2 86 3)) (y := 2) (by rw [show ((2 : Int32)).toInt = 2 from by decide]; first | exact b3 | omega)) ?_
  refine ev_go 4 (pc1 := 58) (lv1 := [.ref 86, .int a]) (st1 := [.ref 86, .int 0, .int (I2 86 7)]) (h1 := (124, I2, J2, R)) rfl ?_
  refine ev_gf (c := 86) (t := 88) (X := R 86 12) rfl rfl (fun _ => rfl) rfl (hG 86 12 88 rfl rfl) ?_
  refine ev_go 4 (pc1 := 65) (lv1 := [.ref 86, .int a]) (st1 := [.int ((I2 88 5) - 1), .int 0, .int (I2 86 7)]) (h1 := (124, I2, J2, R)) rfl ?_
  refine ev_call (v1 := (some (.int 1))) (h1 := (124, I2, J2, R)) rfl rfl c4 ?_
  refine ev_go 2 (pc1 := 78) (lv1 := [.ref 86, .int a]) (st1 := [.ref 86]) (h1 := (124, I2, J2, R)) rfl ?_
  refine ev_gf (c := 86) (t := 96) (X := R 86 20) rfl rfl (fun _ => rfl) rfl (hG 86 20 96 rfl rfl) ?_
  refine ev_go 4 (pc1 := 87) (lv1 := [.ref 86, .int a]) (st1 := [.int (4 + (I2 86 7)), .ref 96]) (h1 := (124, I2, J2, R)) rfl ?_
  refine ev_ild (n := 8) rfl rfl (fun _ => rfl) n1 m1 ?_
  refine ev_go 1 (pc1 := 89) (lv1 := [.ref 86, .int a]) (st1 := [.int a, .int (I2 96 (4 + (I2 86 7)).toNatClampNeg)]) (h1 := (124, I2, J2, R)) rfl ?_
  refine ev_br (b1 := false) rfl rfl (xcd_neq (x := (I2 96 (4 + (I2 86 7)).toNatClampNeg)) (y := a) (by first | exact b4 | omega)) ?_
  refine ev_go 1 (pc1 := 93) (lv1 := [.ref 86, .int a]) (st1 := [.ref 86]) (h1 := (124, I2, J2, R)) rfl ?_
  refine ev_gf (c := 86) (t := 100) (X := R 86 24) rfl rfl (fun _ => rfl) rfl (hG 86 24 100 rfl rfl) ?_
  refine ev_go 4 (pc1 := 102) (lv1 := [.ref 86, .int a]) (st1 := [.int (4 + (I2 86 7)), .ref 100]) (h1 := (124, I2, J2, R)) rfl ?_
  refine ev_ild (n := 8) rfl rfl (fun _ => rfl) n2 m2 ?_
  refine ev_go 1 (pc1 := 104) (lv1 := [.ref 86, .int a]) (st1 := [.int a, .int (I2 100 (4 + (I2 86 7)).toNatClampNeg)]) (h1 := (124, I2, J2, R)) rfl ?_
  refine ev_go 4 (pc1 := 108) (lv1 := [.ref 86, .int a]) (st1 := [.int 1, .int (((I2 100 (4 + (I2 86 7)).toNatClampNeg) >>> (a &&& 31)) &&& 1)]) (h1 := (124, I2, J2, R)) rfl ?_
  refine ev_br (b1 := true) rfl rfl (xcd_ne (x := (((I2 100 (4 + (I2 86 7)).toNatClampNeg) >>> (a &&& 31)) &&& 1)) (y := 1) (by rw [show ((1 : Int32)).toInt = 1 from by decide]; first | exact b5 | omega)) ?_
  refine ev_go 1 (pc1 := 118) (lv1 := [.ref 86, .int a]) (st1 := [.ref 86]) (h1 := (124, I2, J2, R)) rfl ?_
  refine ev_gf (c := 86) (t := 100) (X := R 86 24) rfl rfl (fun _ => rfl) rfl (hG 86 24 100 rfl rfl) ?_
  refine ev_go 5 (pc1 := 128) (lv1 := [.ref 86, .int a]) (st1 := [.int (4 + (I2 86 7)), .ref 100, .int (4 + (I2 86 7)), .ref 100]) (h1 := (124, I2, J2, R)) rfl ?_
  refine ev_ild (n := 8) rfl rfl (fun _ => rfl) n3 m3 ?_
  refine ev_go 2 (pc1 := 131) (lv1 := [.ref 86, .int a]) (st1 := [.int a, .int 1, .int (I2 100 (4 + (I2 86 7)).toNatClampNeg), .int (4 + (I2 86 7)), .ref 100]) (h1 := (124, I2, J2, R)) rfl ?_
  refine ev_go 2 (pc1 := 133) (lv1 := [.ref 86, .int a]) (st1 := [.int ((I2 100 (4 + (I2 86 7)).toNatClampNeg) ||| (1 <<< (a &&& 31))), .int (4 + (I2 86 7)), .ref 100]) (h1 := (124, I2, J2, R)) rfl ?_
  refine ev_ist (n := 8) rfl rfl (fun _ => rfl) n4 m4 ?_
  refine ev_go 1 (pc1 := 135) (lv1 := [.ref 86, .int a]) (st1 := [.ref 86]) (h1 := (124, (uI I2 100 (4 + (I2 86 7)).toNatClampNeg ((I2 100 (4 + (I2 86 7)).toNatClampNeg) ||| (1 <<< (a &&& 31)))), J2, R)) rfl ?_
  refine ev_call (v1 := none) (h1 := (124, I3, J3, R)) rfl rfl c5 ?_
  refine ev_go 1 (pc1 := 139) (lv1 := [.ref 86, .int a]) (st1 := [.int 1]) (h1 := (124, I3, J3, R)) rfl ?_
  exact ev_ret rfl rfl
theorem in_ex {L : Nat} {xs : Nat → Int32} {d : Nat} {I : Nat → Nat → Int32} {J : Nat → Nat → Int64} {R : Nat → Nat → Nat} (hG : aGd R) (x lo hi : Int32) : ((lo.toInt ≤ x.toInt ∧ x.toInt ≤ hi.toInt) ∧ xEv L xs d 160 0 [.int x, .int lo, .int hi] [] (124, I, J, R) (some (.int 1)) (124, I, J, R)) ∨ (¬ (lo.toInt ≤ x.toInt ∧ x.toInt ≤ hi.toInt) ∧ xEv L xs d 160 0 [.int x, .int lo, .int hi] [] (124, I, J, R) (some (.int 0)) (124, I, J, R)) := by
  by_cases h1 : x.toInt < lo.toInt
  · exact Or.inr ⟨by omega, sg_in1 hG h1⟩
  by_cases h2 : x.toInt > hi.toInt
  · exact Or.inr ⟨by omega, sg_in2 hG (by omega) h2⟩
  · exact Or.inl ⟨⟨by omega, by omega⟩, sg_in3 hG (by omega) (by omega)⟩
section BA3
variable {L : Nat} {xs : Nat → Int32} {d d' : Nat} {R Rr : Nat → Nat → Nat}
theorem brd6_3 {I : Nat → Nat → Int32} {J : Nat → Nat → Int64} (hG : aGd R) (hR : R 43 1 = 4) (h0 : (I 43 2).toInt ≠ 0) (a : Int32) (u2 : Value) : xEv L xs (d + 2) 41 6 [.ref 43, .int a, u2] [] (124, I, J, R) none (124, I, J, R) := by
  obtain ⟨z, c1⟩ := nu_dead (L := L) (xs := xs) (d := d) (I := I) (J := J) hG h0 0 (I 3 16 - 1)
  exact brD6_3 hG hR c1 (brD21_3 hG h0 h0)
theorem PR_b_3 {b : Nat → Int32} {np nm nn M : Nat} {Ic Ir : Nat → Nat → Int32} {Jc Jr : Nat → Nat → Int64} {Ic' Ir' : Nat → Nat → Int32} {Jc' Jr' : Nat → Nat → Int64} (h : PR_3 b np nm nn Ic Jc Ir Jr) (w : Int32) (e1 : Ic' 3 = Ic 3) (e4 : ∀ i, Ic' 15 i = if i = M then w else Ic 15 i) (e8 : ∀ q, 3 + 2 ≤ q → q ≤ 14 → Ic' q = Ic q) (e9 : Jc' 4 = Jc 4) (r1 : Ir' 88 = Ir 88) (r4 : ∀ i, i < nn → Ir' 100 (4 + i) = if i = M then w else Ir 100 (4 + i)) (r8 : ∀ q, 90 ≤ q → q ≤ 99 → Ir' q = Ir q) (r9 : Jr' 89 = Jr 89) : PR_3 b np nm nn Ic' Jc' Ir' Jr' := by
  unfold PR_3 at h ⊢
  rw [e1, r1, e8 5 (by decide) (by decide), e8 6 (by decide) (by decide), e8 7 (by decide) (by decide), e8 8 (by decide) (by decide), e8 9 (by decide) (by decide), e8 10 (by decide) (by decide), e8 11 (by decide) (by decide), e8 12 (by decide) (by decide), e8 13 (by decide) (by decide), e8 14 (by decide) (by decide), r8 90 (by decide) (by decide), r8 91 (by decide) (by decide), r8 92 (by decide) (by decide), r8 93 (by decide) (by decide), r8 94 (by decide) (by decide), r8 95 (by decide) (by decide), r8 96 (by decide) (by decide), r8 97 (by decide) (by decide), r8 98 (by decide) (by decide), r8 99 (by decide) (by decide), e9, r9]
  obtain ⟨p, q1, q3, q5, q7, q8, q9, q10, q11, q12⟩ := h
  refine ⟨p, q1, q3, q5, q7, q8, ?_, q10, q11, q12⟩
  intro i hi
  obtain ⟨w1, w2, w3, w4, w5⟩ := q9 i hi
  refine ⟨w1, w2, w3, w4, ?_⟩
  rw [e4, r4 i hi]
  by_cases g : i = M
  · rw [if_pos g, if_pos g]
  · rw [if_neg g, if_neg g]; exact w5
theorem bar_3 (hG : aGd R) (hR : R 43 1 = 4) (hGr : aGd Rr) (h4 : 4 ≤ d' + 1) {b : Nat → Int32} {n st0 k0 e0 np nm nn : Nat} (hn9 : n ≤ 900) {Ic Ir : Nat → Nat → Int32} {Jc Jr : Nat → Nat → Int64} (h0 : (Ic 43 2).toInt = 0) (hc : cTok b n Ic Jc st0 k0 e0) (hr : rTok b n Ir Jr st0 k0 e0) (hP : PR_3 b np nm nn Ic Jc Ir Jr) : ∃ (Ic' : Nat → Nat → Int32) (Jc' : Nat → Nat → Int64) (Ir' : Nat → Nat → Int32) (Jr' : Nat → Nat → Int64) (w : Int32), xEv L xs (d + 6) 41 0 [.ref 43, xmk, xmk] [] (124, Ic, Jc, R) none (124, Ic', Jc', R) ∧ xEv L xs (d' + 4) 165 0 [.ref 86, xmk] [] (124, Ir, Jr, Rr) (some (.int w)) (124, Ir', Jr', Rr) ∧ CL_3 b n e0 Ic Ir Ic' Jc' Ir' Jr' w := by
  have hP0 := hP
  obtain ⟨⟨p1, p2, p3⟩, ⟨q1, q2⟩, ⟨q3, q4⟩, ⟨q5, q6⟩, q7, q8, q9, q10, q11, q12⟩ := hP
  obtain ⟨x1, x2, x3, x4, x5, x6, x7, x8⟩ := hc
  obtain ⟨y1, y2, y3, y4, y5, y6, y7, y8, y9, y10⟩ := hr
  have alc : ∀ {I I' : Nat → Nat → Int32} {J J' : Nat → Nat → Int64}, alX I I' J J' → I' 3 17 = I 3 17 ∧ I' 17 5 = I 17 5 ∧ FRc_3 I I' := fun al => ⟨al.1 3 17 (by omega) (by omega), al.1 17 5 (by omega) (by omega), fun c q t1 t2 t3 => al.1 c q (by omega) (by omega)⟩
  obtain ⟨st1, k1, e1, Ic1, Jc1, a, Ir1, Jr1, c1, d1, tk1, b1, al1, ar1, rt1, hh1⟩ := perl_3 (L := L) (xs := xs) (d := d + 2) (d' := d') hG hR hGr h4 hn9 h0 x1 x2 x7 x6 y1 y2 y8 hP0 (-1)
  have cA := fun {v : Option Value} {h' : xH} (hk : xEv L xs (d + 6) 41 6 [.ref 43, .int a, xmk] [] (124, Ic1, Jc1, R) v h') => brA0_3 hG c1 hk
  rcases hh1 with ⟨f1, f2, f3⟩ | ⟨f1, fk1, dz1, f2, f3⟩
  · exact ⟨_, _, _, _, 0, cA (brd6_3 (d := d + 4) hG hR (by omega) _ _), mb_1 hGr d1 f1 (fa_run hGr), ⟨alc al1, (by intro c q t1 t2 t3 t4 t5; repeat (first | rw [uI_n _ _ (by omega)] | rw [ar7.1 c q (by omega)] | rw [ar6.1 c q (by omega)] | rw [ar5.1 c q (by omega)] | rw [ar4.1 c q (by omega)] | rw [ar3.1 c q (by omega)] | rw [ar2.1 c q (by omega)] | rw [ar1.1 c q (by omega)] | rw [w0.1 c q (by omega)] | rw [u0.1 c q (by omega)] | rw [v2.1 c q (by omega)] | rw [z2.1 c q (by omega)]))⟩, Or.inl ⟨rfl, by omega, by show _ = ((1 : Int32)).toInt; rw [f2]; rfl, f3⟩⟩
  rcases f3 with ⟨g1, g2, g3⟩ | ⟨g1, g2, g3, -⟩ | ⟨g1, g2, g3, g5, g6, ct1⟩
  · exact ⟨_, _, _, _, 0, cA (brd6_3 (d := d + 4) hG hR (by omega) _ _), mb_2 hGr d1 f1 dz1 g1 (fa_run hGr), ⟨alc al1, (by intro c q t1 t2 t3 t4 t5; repeat (first | rw [uI_n _ _ (by omega)] | rw [ar7.1 c q (by omega)] | rw [ar6.1 c q (by omega)] | rw [ar5.1 c q (by omega)] | rw [ar4.1 c q (by omega)] | rw [ar3.1 c q (by omega)] | rw [ar2.1 c q (by omega)] | rw [ar1.1 c q (by omega)] | rw [w0.1 c q (by omega)] | rw [u0.1 c q (by omega)] | rw [v2.1 c q (by omega)] | rw [z2.1 c q (by omega)]))⟩, Or.inl ⟨rfl, by omega, by show _ = ((5 : Int32)).toInt; rw [g2]; rfl, by show _ = (Ir1 86 5).toInt; omega⟩⟩
  · have : (-1 : Int32).toInt = -1 := by decide
    omega
  have ha1 : a.toInt ≠ -1 := by omega
  have hP1 := PR_m_3 (PR_x_3 hP0 al1) (alM_S ar1)
  have h16 : (Ic1 3 16).toInt = nn := by rw [al1.1 3 16 (by omega) (by omega)]; exact q5
  have e16 : (Ic1 3 16 - 1).toInt = (nn : Int) - 1 := by
    rw [i_sub (by rw [show (1 : Int32).toInt = 1 from by decide]; omega) (by rw [show (1 : Int32).toInt = 1 from by decide]; omega), show (1 : Int32).toInt = 1 from by decide]
    omega
  obtain ⟨st2, k2, e2, Ir2, Jr2, d2, tk2, rt2, ar2⟩ := sk_run (L := L) (xs := xs) (d := d' + 1) (R := Rr) (b := b) (n := n) (p := e1) (I := Ir1) (J := Jr1) hGr (by omega) hn9 rt1.1 rt1.2.1 b1 rt1.2.2.2.2.2.2.2.1
  obtain ⟨st2', k2', e2', Ic2, Jc2, m, c2, tk2', b3, b2, al2, hh2⟩ := nu_run (L := L) (xs := xs) (d := d + 2) (R := R) (J := Jc1) hG hn9 g5 ct1.1 ct1.2.1 b1 ct1.2.2.2.2.2.1 0 (Ic1 3 16 - 1)
  obtain ⟨t1, t2, t3⟩ := isTok_u tk2' tk2
  subst t1
  subst t2
  subst t3
  have cB := fun {v : Option Value} {h' : xH} (hk : xEv L xs (d + 6) 41 21 [.ref 43, .int a, .int m] [] (124, Ic2, Jc2, R) v h') => cA (brA6_3 hG hR c2 hk)
  have al12 := alX_t al1 al2
  have hval : cKd k2' (e2' - st2') = 2 → (vF b st2' (e2' - st2')).toInt = (nF b st2' (e2' - st2')).toInt := by
    intro hk
    obtain ⟨u1, u2⟩ := ck_2.mp hk
    subst u1
    obtain ⟨u3, u4⟩ := tok_n tk2
    exact (num_eq u3 u2 u4).1
  have hkr : cKd k2' (e2' - st2') = 2 ↔ rSo k2' (e2' - st2') = 2 := by rw [ck_2, rs_2]
  have er3 : (Ir2 86 3).toInt = rSo k2' (e2' - st2') := rt2.2.2.1
  have er5 : (Ir2 86 5).toInt = st2' := rt2.2.2.2.1
  have rnn : (Ir2 88 5).toInt = nn := by rw [ar2.1 88 5 (by omega), ar1.1 88 5 (by omega)]; exact q6
  have ern : (Ir2 88 5 - 1).toInt = (nn : Int) - 1 := by
    rw [i_sub (by rw [show (1 : Int32).toInt = 1 from by decide]; omega) (by rw [show (1 : Int32).toInt = 1 from by decide]; omega), show (1 : Int32).toInt = 1 from by decide]
    omega
  rcases hh2 with ⟨h1, h2, h3, h5, h6, h7, h8⟩ | ⟨h1, h2, h3, h5⟩ | ⟨h1, h2, h3⟩
  rotate_left
  · have es : (Ir2 86 3).toInt = 2 := by rw [er3, hkr.mp h1]; rfl
    have en : Ir2 86 7 = nF b st2' (e2' - st2') := rt2.2.2.2.2.2.1 (ck_2.mp h1).1
    rcases in_ex (L := L) (xs := xs) (d := d' + 3) (I := Ir2) (J := Jr2) hGr (Ir2 86 7) 0 (Ir2 88 5 - 1) with ⟨w1, d3⟩ | ⟨w1, d3⟩
    · rw [en, ← hval h1, ern] at w1
      rw [e16] at h2
      exact absurd w1 h2
    · exact ⟨_, _, _, _, 0, cB (brD21_3 hG (by omega) (by omega)), mb_4 hGr d1 f1 dz1 ha1 d2 es d3 (fa_run hGr), ⟨alc al12, (by intro c q t1 t2 t3 t4 t5; repeat (first | rw [uI_n _ _ (by omega)] | rw [ar7.1 c q (by omega)] | rw [ar6.1 c q (by omega)] | rw [ar5.1 c q (by omega)] | rw [ar4.1 c q (by omega)] | rw [ar3.1 c q (by omega)] | rw [ar2.1 c q (by omega)] | rw [ar1.1 c q (by omega)] | rw [w0.1 c q (by omega)] | rw [u0.1 c q (by omega)] | rw [v2.1 c q (by omega)] | rw [z2.1 c q (by omega)]))⟩, Or.inl ⟨rfl, by omega, by show _ = ((2 : Int32)).toInt; rw [h3]; rfl, by show _ = (Ir2 86 5).toInt; omega⟩⟩
  · exact ⟨_, _, _, _, 0, cB (brD21_3 hG (by omega) (by omega)), mb_3 hGr d1 f1 dz1 ha1 d2 (by rw [er3]; intro z; exact h1 (hkr.mpr (by omega))) (fa_run hGr), ⟨alc al12, (by intro c q t1 t2 t3 t4 t5; repeat (first | rw [uI_n _ _ (by omega)] | rw [ar7.1 c q (by omega)] | rw [ar6.1 c q (by omega)] | rw [ar5.1 c q (by omega)] | rw [ar4.1 c q (by omega)] | rw [ar3.1 c q (by omega)] | rw [ar2.1 c q (by omega)] | rw [ar1.1 c q (by omega)] | rw [w0.1 c q (by omega)] | rw [u0.1 c q (by omega)] | rw [v2.1 c q (by omega)] | rw [z2.1 c q (by omega)]))⟩, Or.inl ⟨rfl, by omega, by show _ = ((1 : Int32)).toInt; rw [h2]; rfl, by show _ = (Ir2 86 5).toInt; omega⟩⟩
  have es : (Ir2 86 3).toInt = 2 := by rw [er3, hkr.mp h1]; rfl
  have en : Ir2 86 7 = nF b st2' (e2' - st2') := rt2.2.2.2.2.2.1 (ck_2.mp h1).1
  have ev2 : Jc2 1 5 = vF b st2' (e2' - st2') := h7.2.2.2.2.1 (Or.inr (ck_2.mp h1).1)
  rw [ev2] at h2 h3 h8
  have em : m = Ir2 86 7 := by rw [h8, en]; exact l2i_n (hval h1)
  have hm0 : 0 ≤ m.toInt := by rw [em, en, ← hval h1]; exact h2
  have hm1 : m.toInt ≤ (nn : Int) - 1 := by rw [em, en, ← hval h1]; rw [e16] at h3; exact h3
  obtain ⟨M, hM⟩ := Int.eq_ofNat_of_zero_le hm0
  have hMn : M < nn := by omega
  have ecm := clamp_s (i := m) hm0
  have ekm : m.toNatClampNeg = M := by omega
  rcases in_ex (L := L) (xs := xs) (d := d' + 3) (I := Ir2) (J := Jr2) hGr (Ir2 86 7) 0 (Ir2 88 5 - 1) with ⟨w1, d3⟩ | ⟨w1, d3⟩
  rotate_left
  · rw [ern, ← em] at w1
    exact absurd ⟨hm0, hm1⟩ w1
  have hP2 := PR_m_3 (PR_x_3 hP1 al2) (alM_S ar2)
  have e4 : (4 + Ir2 86 7).toInt = ((4 + M : Nat) : Int) := by
    rw [← em, i_add (by rw [show (4 : Int32).toInt = 4 from by decide]; omega) (by rw [show (4 : Int32).toInt = 4 from by decide]; omega), show (4 : Int32).toInt = 4 from by decide]
    omega
  have ec4 := clamp_s (i := 4 + Ir2 86 7) (by omega)
  have ek4 : (4 + Ir2 86 7).toNatClampNeg = 4 + M := by omega
  have m0 : 0 ≤ (4 + Ir2 86 7).toInt := by omega
  have m1 : (4 + Ir2 86 7).toInt < 8 := by omega
  obtain ⟨w2, -, -, -, w3⟩ := hP2.2.2.2.2.2.2.1 M hMn
  have at1 : ∀ q, (∀ g : FieldType → Nat → Option xR, xarr (124, Ic2, Jc2, R) q g = g .int 4) → xEv L xs (d + 5) 39 0 [.ref q, .int m] [] (124, Ic2, Jc2, R) (some (.int (Ic2 q M))) (124, Ic2, Jc2, R) := by
    intro q ho
    have h9 := at_run (L := L) (xs := xs) (d := d + 5) (h := (124, Ic2, Jc2, R)) ho (by decide) m
    rw [if_pos ⟨by omega, by omega⟩, ekm] at h9
    exact h9
  have cfl := fl_a (L := L) (xs := xs) (d := d + 5) (I := Ic2) (J := Jc2) (k := 3) hG h5
  have ep : (Ic2 1 4).toInt = (Ir2 86 5).toInt := by rw [h7.2.2.2.1, er5]
  by_cases hf : (Ic2 11 M).toInt = a.toInt
  · exact ⟨_, _, _, _, 0, cB (brA21a_3 hG h5 hR (at1 11 (fun _ => rfl)) hf cfl), mb_5 hGr d1 f1 dz1 ha1 d2 es d3 m0 m1 (by rw [ek4, ← w2]; exact hf) (fa_run hGr), ⟨alc (alX_t al12 (alX_F (J := Jc2) _ _)), (by intro c q t1 t2 t3 t4 t5; repeat (first | rw [uI_n _ _ (by omega)] | rw [ar7.1 c q (by omega)] | rw [ar6.1 c q (by omega)] | rw [ar5.1 c q (by omega)] | rw [ar4.1 c q (by omega)] | rw [ar3.1 c q (by omega)] | rw [ar2.1 c q (by omega)] | rw [ar1.1 c q (by omega)] | rw [w0.1 c q (by omega)] | rw [u0.1 c q (by omega)] | rw [v2.1 c q (by omega)] | rw [z2.1 c q (by omega)]))⟩, Or.inl ⟨rfl, by show ((3 : Int32)).toInt ≠ 0; decide, rfl, ep⟩⟩
  by_cases hg : ((Ic2 15 M >>> (a &&& 31)) &&& 1).toInt = 1
  · exact ⟨_, _, _, _, 0, cB (brA21b_3 hG h5 hR (at1 11 (fun _ => rfl)) hf (at1 15 (fun _ => rfl)) hg cfl), mb_6 hGr d1 f1 dz1 ha1 d2 es d3 m0 m1 (by rw [ek4, ← w2]; exact hf) m0 m1 (by rw [ek4, ← w3]; exact hg) (fa_run hGr), ⟨alc (alX_t al12 (alX_F (J := Jc2) _ _)), (by intro c q t1 t2 t3 t4 t5; repeat (first | rw [uI_n _ _ (by omega)] | rw [ar7.1 c q (by omega)] | rw [ar6.1 c q (by omega)] | rw [ar5.1 c q (by omega)] | rw [ar4.1 c q (by omega)] | rw [ar3.1 c q (by omega)] | rw [ar2.1 c q (by omega)] | rw [ar1.1 c q (by omega)] | rw [w0.1 c q (by omega)] | rw [u0.1 c q (by omega)] | rw [v2.1 c q (by omega)] | rw [z2.1 c q (by omega)]))⟩, Or.inl ⟨rfl, by show ((3 : Int32)).toInt ≠ 0; decide, rfl, ep⟩⟩
  -- barred
  have cput := put_in (L := L) (xs := xs) (d := d + 5) (I := Ic2) (J := Jc2) (R := R) (c := 15) (n := 4) (fun _ => rfl) (by decide) (i := m) (Ic2 15 M ||| (1 <<< (a &&& 31))) hm0 (by omega)
  have e2n : e2' ≤ n := b2
  obtain ⟨st6, k6, e6, Ic6, Jc6, c6, tk6, o1, o2, o3, o4, o5, o6, o7, al6⟩ := ad_run (L := L) (xs := xs) (d := d + 4) (R := R) hG hn9 (I := uI Ic2 15 m.toNatClampNeg (Ic2 15 M ||| (1 <<< (a &&& 31)))) (J := Jc2) h7.1 h7.2.1 e2n
  have hbA : bX (uI Ic2 15 m.toNatClampNeg (Ic2 15 M ||| (1 <<< (a &&& 31)))) n = b := by rw [← h7.2.2.2.2.2.1]; rfl
  rw [hbA] at tk6 o7
  have rtS : rTok b n (uI Ir2 100 (4 + Ir2 86 7).toNatClampNeg (Ir2 100 (4 + Ir2 86 7).toNatClampNeg ||| (1 <<< (a &&& 31)))) Jr2 st2' k2' e2' := rTok_c rt2 (fun _ => rfl) (fun _ => rfl) rfl
  obtain ⟨st7, k7, e7, Ir7, Jr7, d7, tk7, rt7, ar7⟩ := sk_run (L := L) (xs := xs) (d := d' + 1) (R := Rr) (b := b) (n := n) (p := e2') (I := uI Ir2 100 (4 + Ir2 86 7).toNatClampNeg (Ir2 100 (4 + Ir2 86 7).toNatClampNeg ||| (1 <<< (a &&& 31)))) (J := Jr2) hGr (by omega) hn9 rtS.1 rtS.2.1 e2n rtS.2.2.2.2.2.2.2.1
  obtain ⟨t1, t2, t3⟩ := isTok_u tk7 tk6
  subst t1
  subst t2
  subst t3
  have p5 : e0 ≤ e7 := by
    have j1 := tok_prog tk1 (by omega)
    have j2 := tok_prog tk2 (by have := (ck_2.mp h1).1; omega)
    have j5 := tk7.1.1
    omega
  refine ⟨Ic6, Jc6, Ir7, Jr7, 1, cB (brA21c_3 hG h5 hR (at1 11 (fun _ => rfl)) hf (at1 15 (fun _ => rfl)) hg h5 (at1 15 (fun _ => rfl)) cput c6), mb_7 hGr d1 f1 dz1 ha1 d2 es d3 m0 m1 (by rw [ek4, ← w2]; exact hf) m0 m1 (by rw [ek4, ← w3]; exact hg) m0 m1 m0 m1 d7, ?_⟩
  rw [ekm] at al6
  rw [ek4] at ar7
  have eI : ∀ q, (3 ≤ q ∧ q ≤ 17) → Ic2 q = Ic q := fun q hq => funext fun i => al12.1 q i (by omega) (by omega)
  have eR : ∀ q, q ≠ 86 → Ir2 q = Ir q := fun q hq => funext fun i => by rw [ar2.1 q i (by omega), ar1.1 q i (by omega)]
  have f6 : ∀ q, (3 ≤ q ∧ q ≤ 17) → Ic6 q = (uI Ic2 15 M (Ic2 15 M ||| (1 <<< (a &&& 31)))) q := fun q hq => funext fun i => al6.1 q i (by omega)
  have f7 : ∀ q, q ≠ 86 → Ir7 q = (uI Ir2 100 (4 + M) (Ir2 100 (4 + M) ||| (1 <<< (a &&& 31)))) q := fun q hq => funext fun i => ar7.1 q i (by omega)
  refine ⟨⟨⟨?_, ?_, fun c q t1 t2 t3 => by rw [al6.1 c q (by omega), uI_n _ _ (by omega), al12.1 c q (by omega) (by omega)]⟩, (by intro c q t1 t2 t3 t4 t5; repeat (first | rw [uI_n _ _ (by omega)] | rw [ar7.1 c q (by omega)] | rw [ar6.1 c q (by omega)] | rw [ar5.1 c q (by omega)] | rw [ar4.1 c q (by omega)] | rw [ar3.1 c q (by omega)] | rw [ar2.1 c q (by omega)] | rw [ar1.1 c q (by omega)] | rw [w0.1 c q (by omega)] | rw [u0.1 c q (by omega)] | rw [v2.1 c q (by omega)] | rw [z2.1 c q (by omega)]))⟩, Or.inr ⟨rfl, ?_, ?_, ?_, ?_, st7, k7, e7, np, nm, nn, p5, ⟨?_, o4, o5, o6, o7, by rw [alT_b al6, ← ekm]; exact hbA, o2, o3⟩, rt7, ?_⟩⟩
  · rw [f6 3 (by decide)]; show Ic2 3 17 = _; rw [eI 3 (by decide)]
  · rw [f6 17 (by decide)]; show Ic2 17 5 = _; rw [eI 17 (by decide)]
  · rw [al6.1 43 2 (by omega)]; exact h5
  · rw [al6.1 43 3 (by omega)]; show Ic2 43 3 = _; rw [h6, g6]
  · rw [ar7.1 86 8 (by omega)]; show Ir2 86 8 = _; rw [ar2.1 86 8 (by omega), ar1.1 86 8 (by omega)]
  · rw [ar7.1 86 9 (by omega)]; show Ir2 86 9 = _; rw [ar2.1 86 9 (by omega), ar1.1 86 9 (by omega)]
  · rw [al6.1 1 1 (by omega)]; exact h7.1
  refine PR_b_3 (M := M) hP0 (Ic2 15 M ||| (1 <<< (a &&& 31))) ?_ ?_ ?_ ?_ ?_ ?_ ?_ ?_
  · rw [f6 3 (by decide), ← eI 3 (by decide)]
    funext i
    rw [uI_n _ _ (by omega)]
  · intro i
    rw [f6 15 (by decide)]
    by_cases g : i = M
    · rw [if_pos g, g, uI_s]
    · rw [if_neg g, uI_n _ _ (by omega), eI 15 (by decide)]
  · intro q k1 k2
    rw [f6 q (by omega), ← eI q (by omega)]
    funext i
    rw [uI_n _ _ (by omega)]
  · funext i
    rw [al6.2 4 i (by omega), al12.2 4 i (by omega)]
  · rw [f7 88 (by decide), ← eR 88 (by decide)]
    funext i
    rw [uI_n _ _ (by omega)]
  · intro i hi
    rw [f7 100 (by decide)]
    by_cases g : i = M
    · rw [if_pos g, g, uI_s, w3]
    · rw [if_neg g, uI_n _ _ (by omega), eR 100 (by decide)]
  · intro q k1 k2
    rw [f7 q (by omega), ← eR q (by omega)]
    funext i
    rw [uI_n _ _ (by omega)]
  · funext i
    rw [ar7.2 89 i (by omega), ar2.2 89 i (by omega), ar1.2 89 i (by omega)]
end BA3
section BA23
variable {L : Nat} {xs : Nat → Int32} {d d' : Nat} {R Rr : Nat → Nat → Nat}
theorem brd6_23 {I : Nat → Nat → Int32} {J : Nat → Nat → Int64} (hG : aGd R) (hR : R 43 1 = 24) (h0 : (I 43 2).toInt ≠ 0) (a : Int32) (u2 : Value) : xEv L xs (d + 2) 41 6 [.ref 43, .int a, u2] [] (124, I, J, R) none (124, I, J, R) := by
  obtain ⟨z, c1⟩ := nu_dead (L := L) (xs := xs) (d := d) (I := I) (J := J) hG h0 0 (I 23 16 - 1)
  exact brD6_23 hG hR c1 (brD21_23 hG h0 h0)
theorem PR_b_23 {b : Nat → Int32} {np nm nn M : Nat} {Ic Ir : Nat → Nat → Int32} {Jc Jr : Nat → Nat → Int64} {Ic' Ir' : Nat → Nat → Int32} {Jc' Jr' : Nat → Nat → Int64} (h : PR_23 b np nm nn Ic Jc Ir Jr) (w : Int32) (e1 : Ic' 23 = Ic 23) (e4 : ∀ i, Ic' 35 i = if i = M then w else Ic 35 i) (e8 : ∀ q, 23 + 2 ≤ q → q ≤ 34 → Ic' q = Ic q) (e9 : Jc' 24 = Jc 24) (r1 : Ir' 88 = Ir 88) (r4 : ∀ i, i < nn → Ir' 100 (4 + i) = if i = M then w else Ir 100 (4 + i)) (r8 : ∀ q, 90 ≤ q → q ≤ 99 → Ir' q = Ir q) (r9 : Jr' 89 = Jr 89) : PR_23 b np nm nn Ic' Jc' Ir' Jr' := by
  unfold PR_23 at h ⊢
  rw [e1, r1, e8 25 (by decide) (by decide), e8 26 (by decide) (by decide), e8 27 (by decide) (by decide), e8 28 (by decide) (by decide), e8 29 (by decide) (by decide), e8 30 (by decide) (by decide), e8 31 (by decide) (by decide), e8 32 (by decide) (by decide), e8 33 (by decide) (by decide), e8 34 (by decide) (by decide), r8 90 (by decide) (by decide), r8 91 (by decide) (by decide), r8 92 (by decide) (by decide), r8 93 (by decide) (by decide), r8 94 (by decide) (by decide), r8 95 (by decide) (by decide), r8 96 (by decide) (by decide), r8 97 (by decide) (by decide), r8 98 (by decide) (by decide), r8 99 (by decide) (by decide), e9, r9]
  obtain ⟨p, q1, q3, q5, q7, q8, q9, q10, q11, q12⟩ := h
  refine ⟨p, q1, q3, q5, q7, q8, ?_, q10, q11, q12⟩
  intro i hi
  obtain ⟨w1, w2, w3, w4, w5⟩ := q9 i hi
  refine ⟨w1, w2, w3, w4, ?_⟩
  rw [e4, r4 i hi]
  by_cases g : i = M
  · rw [if_pos g, if_pos g]
  · rw [if_neg g, if_neg g]; exact w5
theorem bar_23 (hG : aGd R) (hR : R 43 1 = 24) (hGr : aGd Rr) (h4 : 4 ≤ d' + 1) {b : Nat → Int32} {n st0 k0 e0 np nm nn : Nat} (hn9 : n ≤ 900) {Ic Ir : Nat → Nat → Int32} {Jc Jr : Nat → Nat → Int64} (h0 : (Ic 43 2).toInt = 0) (hc : cTok b n Ic Jc st0 k0 e0) (hr : rTok b n Ir Jr st0 k0 e0) (hP : PR_23 b np nm nn Ic Jc Ir Jr) : ∃ (Ic' : Nat → Nat → Int32) (Jc' : Nat → Nat → Int64) (Ir' : Nat → Nat → Int32) (Jr' : Nat → Nat → Int64) (w : Int32), xEv L xs (d + 6) 41 0 [.ref 43, xmk, xmk] [] (124, Ic, Jc, R) none (124, Ic', Jc', R) ∧ xEv L xs (d' + 4) 165 0 [.ref 86, xmk] [] (124, Ir, Jr, Rr) (some (.int w)) (124, Ir', Jr', Rr) ∧ CL_23 b n e0 Ic Ir Ic' Jc' Ir' Jr' w := by
  have hP0 := hP
  obtain ⟨⟨p1, p2, p3⟩, ⟨q1, q2⟩, ⟨q3, q4⟩, ⟨q5, q6⟩, q7, q8, q9, q10, q11, q12⟩ := hP
  obtain ⟨x1, x2, x3, x4, x5, x6, x7, x8⟩ := hc
  obtain ⟨y1, y2, y3, y4, y5, y6, y7, y8, y9, y10⟩ := hr
  have alc : ∀ {I I' : Nat → Nat → Int32} {J J' : Nat → Nat → Int64}, alX I I' J J' → I' 23 17 = I 23 17 ∧ I' 37 5 = I 37 5 ∧ FRc_23 I I' := fun al => ⟨al.1 23 17 (by omega) (by omega), al.1 37 5 (by omega) (by omega), fun c q t1 t2 t3 => al.1 c q (by omega) (by omega)⟩
  obtain ⟨st1, k1, e1, Ic1, Jc1, a, Ir1, Jr1, c1, d1, tk1, b1, al1, ar1, rt1, hh1⟩ := perl_23 (L := L) (xs := xs) (d := d + 2) (d' := d') hG hR hGr h4 hn9 h0 x1 x2 x7 x6 y1 y2 y8 hP0 (-1)
  have cA := fun {v : Option Value} {h' : xH} (hk : xEv L xs (d + 6) 41 6 [.ref 43, .int a, xmk] [] (124, Ic1, Jc1, R) v h') => brA0_23 hG c1 hk
  rcases hh1 with ⟨f1, f2, f3⟩ | ⟨f1, fk1, dz1, f2, f3⟩
  · exact ⟨_, _, _, _, 0, cA (brd6_23 (d := d + 4) hG hR (by omega) _ _), mb_1 hGr d1 f1 (fa_run hGr), ⟨alc al1, (by intro c q t1 t2 t3 t4 t5; repeat (first | rw [uI_n _ _ (by omega)] | rw [ar7.1 c q (by omega)] | rw [ar6.1 c q (by omega)] | rw [ar5.1 c q (by omega)] | rw [ar4.1 c q (by omega)] | rw [ar3.1 c q (by omega)] | rw [ar2.1 c q (by omega)] | rw [ar1.1 c q (by omega)] | rw [w0.1 c q (by omega)] | rw [u0.1 c q (by omega)] | rw [v2.1 c q (by omega)] | rw [z2.1 c q (by omega)]))⟩, Or.inl ⟨rfl, by omega, by show _ = ((1 : Int32)).toInt; rw [f2]; rfl, f3⟩⟩
  rcases f3 with ⟨g1, g2, g3⟩ | ⟨g1, g2, g3, -⟩ | ⟨g1, g2, g3, g5, g6, ct1⟩
  · exact ⟨_, _, _, _, 0, cA (brd6_23 (d := d + 4) hG hR (by omega) _ _), mb_2 hGr d1 f1 dz1 g1 (fa_run hGr), ⟨alc al1, (by intro c q t1 t2 t3 t4 t5; repeat (first | rw [uI_n _ _ (by omega)] | rw [ar7.1 c q (by omega)] | rw [ar6.1 c q (by omega)] | rw [ar5.1 c q (by omega)] | rw [ar4.1 c q (by omega)] | rw [ar3.1 c q (by omega)] | rw [ar2.1 c q (by omega)] | rw [ar1.1 c q (by omega)] | rw [w0.1 c q (by omega)] | rw [u0.1 c q (by omega)] | rw [v2.1 c q (by omega)] | rw [z2.1 c q (by omega)]))⟩, Or.inl ⟨rfl, by omega, by show _ = ((5 : Int32)).toInt; rw [g2]; rfl, by show _ = (Ir1 86 5).toInt; omega⟩⟩
  · have : (-1 : Int32).toInt = -1 := by decide
    omega
  have ha1 : a.toInt ≠ -1 := by omega
  have hP1 := PR_m_23 (PR_x_23 hP0 al1) (alM_S ar1)
  have h16 : (Ic1 23 16).toInt = nn := by rw [al1.1 23 16 (by omega) (by omega)]; exact q5
  have e16 : (Ic1 23 16 - 1).toInt = (nn : Int) - 1 := by
    rw [i_sub (by rw [show (1 : Int32).toInt = 1 from by decide]; omega) (by rw [show (1 : Int32).toInt = 1 from by decide]; omega), show (1 : Int32).toInt = 1 from by decide]
    omega
  obtain ⟨st2, k2, e2, Ir2, Jr2, d2, tk2, rt2, ar2⟩ := sk_run (L := L) (xs := xs) (d := d' + 1) (R := Rr) (b := b) (n := n) (p := e1) (I := Ir1) (J := Jr1) hGr (by omega) hn9 rt1.1 rt1.2.1 b1 rt1.2.2.2.2.2.2.2.1
  obtain ⟨st2', k2', e2', Ic2, Jc2, m, c2, tk2', b3, b2, al2, hh2⟩ := nu_run (L := L) (xs := xs) (d := d + 2) (R := R) (J := Jc1) hG hn9 g5 ct1.1 ct1.2.1 b1 ct1.2.2.2.2.2.1 0 (Ic1 23 16 - 1)
  obtain ⟨t1, t2, t3⟩ := isTok_u tk2' tk2
  subst t1
  subst t2
  subst t3
  have cB := fun {v : Option Value} {h' : xH} (hk : xEv L xs (d + 6) 41 21 [.ref 43, .int a, .int m] [] (124, Ic2, Jc2, R) v h') => cA (brA6_23 hG hR c2 hk)
  have al12 := alX_t al1 al2
  have hval : cKd k2' (e2' - st2') = 2 → (vF b st2' (e2' - st2')).toInt = (nF b st2' (e2' - st2')).toInt := by
    intro hk
    obtain ⟨u1, u2⟩ := ck_2.mp hk
    subst u1
    obtain ⟨u3, u4⟩ := tok_n tk2
    exact (num_eq u3 u2 u4).1
  have hkr : cKd k2' (e2' - st2') = 2 ↔ rSo k2' (e2' - st2') = 2 := by rw [ck_2, rs_2]
  have er3 : (Ir2 86 3).toInt = rSo k2' (e2' - st2') := rt2.2.2.1
  have er5 : (Ir2 86 5).toInt = st2' := rt2.2.2.2.1
  have rnn : (Ir2 88 5).toInt = nn := by rw [ar2.1 88 5 (by omega), ar1.1 88 5 (by omega)]; exact q6
  have ern : (Ir2 88 5 - 1).toInt = (nn : Int) - 1 := by
    rw [i_sub (by rw [show (1 : Int32).toInt = 1 from by decide]; omega) (by rw [show (1 : Int32).toInt = 1 from by decide]; omega), show (1 : Int32).toInt = 1 from by decide]
    omega
  rcases hh2 with ⟨h1, h2, h3, h5, h6, h7, h8⟩ | ⟨h1, h2, h3, h5⟩ | ⟨h1, h2, h3⟩
  rotate_left
  · have es : (Ir2 86 3).toInt = 2 := by rw [er3, hkr.mp h1]; rfl
    have en : Ir2 86 7 = nF b st2' (e2' - st2') := rt2.2.2.2.2.2.1 (ck_2.mp h1).1
    rcases in_ex (L := L) (xs := xs) (d := d' + 3) (I := Ir2) (J := Jr2) hGr (Ir2 86 7) 0 (Ir2 88 5 - 1) with ⟨w1, d3⟩ | ⟨w1, d3⟩
    · rw [en, ← hval h1, ern] at w1
      rw [e16] at h2
      exact absurd w1 h2
    · exact ⟨_, _, _, _, 0, cB (brD21_23 hG (by omega) (by omega)), mb_4 hGr d1 f1 dz1 ha1 d2 es d3 (fa_run hGr), ⟨alc al12, (by intro c q t1 t2 t3 t4 t5; repeat (first | rw [uI_n _ _ (by omega)] | rw [ar7.1 c q (by omega)] | rw [ar6.1 c q (by omega)] | rw [ar5.1 c q (by omega)] | rw [ar4.1 c q (by omega)] | rw [ar3.1 c q (by omega)] | rw [ar2.1 c q (by omega)] | rw [ar1.1 c q (by omega)] | rw [w0.1 c q (by omega)] | rw [u0.1 c q (by omega)] | rw [v2.1 c q (by omega)] | rw [z2.1 c q (by omega)]))⟩, Or.inl ⟨rfl, by omega, by show _ = ((2 : Int32)).toInt; rw [h3]; rfl, by show _ = (Ir2 86 5).toInt; omega⟩⟩
  · exact ⟨_, _, _, _, 0, cB (brD21_23 hG (by omega) (by omega)), mb_3 hGr d1 f1 dz1 ha1 d2 (by rw [er3]; intro z; exact h1 (hkr.mpr (by omega))) (fa_run hGr), ⟨alc al12, (by intro c q t1 t2 t3 t4 t5; repeat (first | rw [uI_n _ _ (by omega)] | rw [ar7.1 c q (by omega)] | rw [ar6.1 c q (by omega)] | rw [ar5.1 c q (by omega)] | rw [ar4.1 c q (by omega)] | rw [ar3.1 c q (by omega)] | rw [ar2.1 c q (by omega)] | rw [ar1.1 c q (by omega)] | rw [w0.1 c q (by omega)] | rw [u0.1 c q (by omega)] | rw [v2.1 c q (by omega)] | rw [z2.1 c q (by omega)]))⟩, Or.inl ⟨rfl, by omega, by show _ = ((1 : Int32)).toInt; rw [h2]; rfl, by show _ = (Ir2 86 5).toInt; omega⟩⟩
  have es : (Ir2 86 3).toInt = 2 := by rw [er3, hkr.mp h1]; rfl
  have en : Ir2 86 7 = nF b st2' (e2' - st2') := rt2.2.2.2.2.2.1 (ck_2.mp h1).1
  have ev2 : Jc2 1 5 = vF b st2' (e2' - st2') := h7.2.2.2.2.1 (Or.inr (ck_2.mp h1).1)
  rw [ev2] at h2 h3 h8
  have em : m = Ir2 86 7 := by rw [h8, en]; exact l2i_n (hval h1)
  have hm0 : 0 ≤ m.toInt := by rw [em, en, ← hval h1]; exact h2
  have hm1 : m.toInt ≤ (nn : Int) - 1 := by rw [em, en, ← hval h1]; rw [e16] at h3; exact h3
  obtain ⟨M, hM⟩ := Int.eq_ofNat_of_zero_le hm0
  have hMn : M < nn := by omega
  have ecm := clamp_s (i := m) hm0
  have ekm : m.toNatClampNeg = M := by omega
  rcases in_ex (L := L) (xs := xs) (d := d' + 3) (I := Ir2) (J := Jr2) hGr (Ir2 86 7) 0 (Ir2 88 5 - 1) with ⟨w1, d3⟩ | ⟨w1, d3⟩
  rotate_left
  · rw [ern, ← em] at w1
    exact absurd ⟨hm0, hm1⟩ w1
  have hP2 := PR_m_23 (PR_x_23 hP1 al2) (alM_S ar2)
  have e4 : (4 + Ir2 86 7).toInt = ((4 + M : Nat) : Int) := by
    rw [← em, i_add (by rw [show (4 : Int32).toInt = 4 from by decide]; omega) (by rw [show (4 : Int32).toInt = 4 from by decide]; omega), show (4 : Int32).toInt = 4 from by decide]
    omega
  have ec4 := clamp_s (i := 4 + Ir2 86 7) (by omega)
  have ek4 : (4 + Ir2 86 7).toNatClampNeg = 4 + M := by omega
  have m0 : 0 ≤ (4 + Ir2 86 7).toInt := by omega
  have m1 : (4 + Ir2 86 7).toInt < 8 := by omega
  obtain ⟨w2, -, -, -, w3⟩ := hP2.2.2.2.2.2.2.1 M hMn
  have at1 : ∀ q, (∀ g : FieldType → Nat → Option xR, xarr (124, Ic2, Jc2, R) q g = g .int 4) → xEv L xs (d + 5) 39 0 [.ref q, .int m] [] (124, Ic2, Jc2, R) (some (.int (Ic2 q M))) (124, Ic2, Jc2, R) := by
    intro q ho
    have h9 := at_run (L := L) (xs := xs) (d := d + 5) (h := (124, Ic2, Jc2, R)) ho (by decide) m
    rw [if_pos ⟨by omega, by omega⟩, ekm] at h9
    exact h9
  have cfl := fl_a (L := L) (xs := xs) (d := d + 5) (I := Ic2) (J := Jc2) (k := 3) hG h5
  have ep : (Ic2 1 4).toInt = (Ir2 86 5).toInt := by rw [h7.2.2.2.1, er5]
  by_cases hf : (Ic2 31 M).toInt = a.toInt
  · exact ⟨_, _, _, _, 0, cB (brA21a_23 hG h5 hR (at1 31 (fun _ => rfl)) hf cfl), mb_5 hGr d1 f1 dz1 ha1 d2 es d3 m0 m1 (by rw [ek4, ← w2]; exact hf) (fa_run hGr), ⟨alc (alX_t al12 (alX_F (J := Jc2) _ _)), (by intro c q t1 t2 t3 t4 t5; repeat (first | rw [uI_n _ _ (by omega)] | rw [ar7.1 c q (by omega)] | rw [ar6.1 c q (by omega)] | rw [ar5.1 c q (by omega)] | rw [ar4.1 c q (by omega)] | rw [ar3.1 c q (by omega)] | rw [ar2.1 c q (by omega)] | rw [ar1.1 c q (by omega)] | rw [w0.1 c q (by omega)] | rw [u0.1 c q (by omega)] | rw [v2.1 c q (by omega)] | rw [z2.1 c q (by omega)]))⟩, Or.inl ⟨rfl, by show ((3 : Int32)).toInt ≠ 0; decide, rfl, ep⟩⟩
  by_cases hg : ((Ic2 35 M >>> (a &&& 31)) &&& 1).toInt = 1
  · exact ⟨_, _, _, _, 0, cB (brA21b_23 hG h5 hR (at1 31 (fun _ => rfl)) hf (at1 35 (fun _ => rfl)) hg cfl), mb_6 hGr d1 f1 dz1 ha1 d2 es d3 m0 m1 (by rw [ek4, ← w2]; exact hf) m0 m1 (by rw [ek4, ← w3]; exact hg) (fa_run hGr), ⟨alc (alX_t al12 (alX_F (J := Jc2) _ _)), (by intro c q t1 t2 t3 t4 t5; repeat (first | rw [uI_n _ _ (by omega)] | rw [ar7.1 c q (by omega)] | rw [ar6.1 c q (by omega)] | rw [ar5.1 c q (by omega)] | rw [ar4.1 c q (by omega)] | rw [ar3.1 c q (by omega)] | rw [ar2.1 c q (by omega)] | rw [ar1.1 c q (by omega)] | rw [w0.1 c q (by omega)] | rw [u0.1 c q (by omega)] | rw [v2.1 c q (by omega)] | rw [z2.1 c q (by omega)]))⟩, Or.inl ⟨rfl, by show ((3 : Int32)).toInt ≠ 0; decide, rfl, ep⟩⟩
  -- barred
  have cput := put_in (L := L) (xs := xs) (d := d + 5) (I := Ic2) (J := Jc2) (R := R) (c := 35) (n := 4) (fun _ => rfl) (by decide) (i := m) (Ic2 35 M ||| (1 <<< (a &&& 31))) hm0 (by omega)
  have e2n : e2' ≤ n := b2
  obtain ⟨st6, k6, e6, Ic6, Jc6, c6, tk6, o1, o2, o3, o4, o5, o6, o7, al6⟩ := ad_run (L := L) (xs := xs) (d := d + 4) (R := R) hG hn9 (I := uI Ic2 35 m.toNatClampNeg (Ic2 35 M ||| (1 <<< (a &&& 31)))) (J := Jc2) h7.1 h7.2.1 e2n
  have hbA : bX (uI Ic2 35 m.toNatClampNeg (Ic2 35 M ||| (1 <<< (a &&& 31)))) n = b := by rw [← h7.2.2.2.2.2.1]; rfl
  rw [hbA] at tk6 o7
  have rtS : rTok b n (uI Ir2 100 (4 + Ir2 86 7).toNatClampNeg (Ir2 100 (4 + Ir2 86 7).toNatClampNeg ||| (1 <<< (a &&& 31)))) Jr2 st2' k2' e2' := rTok_c rt2 (fun _ => rfl) (fun _ => rfl) rfl
  obtain ⟨st7, k7, e7, Ir7, Jr7, d7, tk7, rt7, ar7⟩ := sk_run (L := L) (xs := xs) (d := d' + 1) (R := Rr) (b := b) (n := n) (p := e2') (I := uI Ir2 100 (4 + Ir2 86 7).toNatClampNeg (Ir2 100 (4 + Ir2 86 7).toNatClampNeg ||| (1 <<< (a &&& 31)))) (J := Jr2) hGr (by omega) hn9 rtS.1 rtS.2.1 e2n rtS.2.2.2.2.2.2.2.1
  obtain ⟨t1, t2, t3⟩ := isTok_u tk7 tk6
  subst t1
  subst t2
  subst t3
  have p5 : e0 ≤ e7 := by
    have j1 := tok_prog tk1 (by omega)
    have j2 := tok_prog tk2 (by have := (ck_2.mp h1).1; omega)
    have j5 := tk7.1.1
    omega
  refine ⟨Ic6, Jc6, Ir7, Jr7, 1, cB (brA21c_23 hG h5 hR (at1 31 (fun _ => rfl)) hf (at1 35 (fun _ => rfl)) hg h5 (at1 35 (fun _ => rfl)) cput c6), mb_7 hGr d1 f1 dz1 ha1 d2 es d3 m0 m1 (by rw [ek4, ← w2]; exact hf) m0 m1 (by rw [ek4, ← w3]; exact hg) m0 m1 m0 m1 d7, ?_⟩
  rw [ekm] at al6
  rw [ek4] at ar7
  have eI : ∀ q, (23 ≤ q ∧ q ≤ 37) → Ic2 q = Ic q := fun q hq => funext fun i => al12.1 q i (by omega) (by omega)
  have eR : ∀ q, q ≠ 86 → Ir2 q = Ir q := fun q hq => funext fun i => by rw [ar2.1 q i (by omega), ar1.1 q i (by omega)]
  have f6 : ∀ q, (23 ≤ q ∧ q ≤ 37) → Ic6 q = (uI Ic2 35 M (Ic2 35 M ||| (1 <<< (a &&& 31)))) q := fun q hq => funext fun i => al6.1 q i (by omega)
  have f7 : ∀ q, q ≠ 86 → Ir7 q = (uI Ir2 100 (4 + M) (Ir2 100 (4 + M) ||| (1 <<< (a &&& 31)))) q := fun q hq => funext fun i => ar7.1 q i (by omega)
  refine ⟨⟨⟨?_, ?_, fun c q t1 t2 t3 => by rw [al6.1 c q (by omega), uI_n _ _ (by omega), al12.1 c q (by omega) (by omega)]⟩, (by intro c q t1 t2 t3 t4 t5; repeat (first | rw [uI_n _ _ (by omega)] | rw [ar7.1 c q (by omega)] | rw [ar6.1 c q (by omega)] | rw [ar5.1 c q (by omega)] | rw [ar4.1 c q (by omega)] | rw [ar3.1 c q (by omega)] | rw [ar2.1 c q (by omega)] | rw [ar1.1 c q (by omega)] | rw [w0.1 c q (by omega)] | rw [u0.1 c q (by omega)] | rw [v2.1 c q (by omega)] | rw [z2.1 c q (by omega)]))⟩, Or.inr ⟨rfl, ?_, ?_, ?_, ?_, st7, k7, e7, np, nm, nn, p5, ⟨?_, o4, o5, o6, o7, by rw [alT_b al6, ← ekm]; exact hbA, o2, o3⟩, rt7, ?_⟩⟩
  · rw [f6 23 (by decide)]; show Ic2 23 17 = _; rw [eI 23 (by decide)]
  · rw [f6 37 (by decide)]; show Ic2 37 5 = _; rw [eI 37 (by decide)]
  · rw [al6.1 43 2 (by omega)]; exact h5
  · rw [al6.1 43 3 (by omega)]; show Ic2 43 3 = _; rw [h6, g6]
  · rw [ar7.1 86 8 (by omega)]; show Ir2 86 8 = _; rw [ar2.1 86 8 (by omega), ar1.1 86 8 (by omega)]
  · rw [ar7.1 86 9 (by omega)]; show Ir2 86 9 = _; rw [ar2.1 86 9 (by omega), ar1.1 86 9 (by omega)]
  · rw [al6.1 1 1 (by omega)]; exact h7.1
  refine PR_b_23 (M := M) hP0 (Ic2 35 M ||| (1 <<< (a &&& 31))) ?_ ?_ ?_ ?_ ?_ ?_ ?_ ?_
  · rw [f6 23 (by decide), ← eI 23 (by decide)]
    funext i
    rw [uI_n _ _ (by omega)]
  · intro i
    rw [f6 35 (by decide)]
    by_cases g : i = M
    · rw [if_pos g, g, uI_s]
    · rw [if_neg g, uI_n _ _ (by omega), eI 35 (by decide)]
  · intro q k1 k2
    rw [f6 q (by omega), ← eI q (by omega)]
    funext i
    rw [uI_n _ _ (by omega)]
  · funext i
    rw [al6.2 24 i (by omega), al12.2 24 i (by omega)]
  · rw [f7 88 (by decide), ← eR 88 (by decide)]
    funext i
    rw [uI_n _ _ (by omega)]
  · intro i hi
    rw [f7 100 (by decide)]
    by_cases g : i = M
    · rw [if_pos g, g, uI_s, w3]
    · rw [if_neg g, uI_n _ _ (by omega), eR 100 (by decide)]
  · intro q k1 k2
    rw [f7 q (by omega), ← eR q (by omega)]
    funext i
    rw [uI_n _ _ (by omega)]
  · funext i
    rw [ar7.2 89 i (by omega), ar2.2 89 i (by omega), ar1.2 89 i (by omega)]
end BA23
