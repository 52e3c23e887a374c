set_option maxRecDepth 20000 in
theorem rl_0_3 {L : Nat} {xs : Nat → Int32} {d : Nat} {I : Nat → Nat → Int32} {J : Nat → Nat → Int64} {R : Nat → Nat → Nat} {I1 : Nat → Nat → Int32} {J1 : Nat → Nat → Int64} {I2 : Nat → Nat → Int32} {J2 : Nat → Nat → Int64} {i : Int32} (hG : aGd R) (b1 : i.toInt < 900) (b2 : (I 43 2).toInt = 0) (b3 : (I 1 3).toInt ≠ 0) (c1 : xEv L xs d 25 0 [.ref 1, .retAddr 2, xmk, xmk, xmk] [] (124, I, J, R) (some (.int 1)) (124, I, J, R)) (c2 : xEv L xs d 26 0 [.ref 43, xmk, xmk, xmk, xmk] [] (124, I, J, R) none (124, I1, J1, R)) (c3 : xEv L xs d 42 0 [.ref 43] [] (124, I1, J1, R) none (124, I2, J2, R)) {v : Option Value} {h' : xH} (hk : xEv L xs (d + 1) 18 28 [.ref 43, .ref 3, .int (i + 1)] [] (124, I2, J2, R) v h') : xEv L xs (d + 1) 18 28 [.ref 43, .ref 3, .int i] [] (124, I, J, R) v h' := by
  refine ev_go 2 (pc1 := 32) (lv1 := [.ref 43, .ref 3, .int i]) (st1 := [.int 900, .int i]) (h1 := (124, I, J, R)) rfl ?_
  refine ev_br (b1 := false) rfl rfl (xcd_nge (x := i) (y := 900) (by rw [show ((900 : Int32)).toInt = 900 from by decide]; first | exact b1 | omega)) ?_
  refine ev_go 2 (pc1 := 39) (lv1 := [.ref 43, .ref 3, .int i]) (st1 := [.int (I 43 2)]) (h1 := (124, I, J, R)) rfl ?_
  refine ev_br (b1 := false) rfl rfl (xcd_nne (x := (I 43 2)) (y := 0) (by rw [show ((0 : Int32)).toInt = 0 from by decide]; first | exact b2 | omega)) ?_
  refine ev_go 1 (pc1 := 43) (lv1 := [.ref 43, .ref 3, .int i]) (st1 := [.ref 43]) (h1 := (124, I, J, R)) rfl ?_
  refine ev_gf (c := 43) (t := 1) (X := R 43 0) rfl rfl (fun _ => rfl) rfl (hG 43 0 1 rfl rfl) ?_
  refine ev_go 1 (pc1 := 49) (lv1 := [.ref 43, .ref 3, .int i]) (st1 := [.int (I 1 3)]) (h1 := (124, I, J, R)) rfl ?_
  refine ev_br (b1 := false) rfl rfl (xcd_neq (x := (I 1 3)) (y := 0) (by rw [show ((0 : Int32)).toInt = 0 from by decide]; first | exact b3 | omega)) ?_
  refine ev_go 1 (pc1 := 53) (lv1 := [.ref 43, .ref 3, .int i]) (st1 := [.ref 43]) (h1 := (124, I, J, R)) rfl ?_
  refine ev_gf (c := 43) (t := 1) (X := R 43 0) rfl rfl (fun _ => rfl) rfl (hG 43 0 1 rfl rfl) ?_
  refine ev_go 1 (pc1 := 58) (lv1 := [.ref 43, .ref 3, .int i]) (st1 := [.retAddr 2, .ref 1]) (h1 := (124, I, J, R)) rfl ?_
  refine ev_call (v1 := (some (.int 1))) (h1 := (124, I, J, R)) rfl rfl c1 ?_
  refine ev_go 2 (pc1 := 65) (lv1 := [.ref 43, .ref 3, .int i]) (st1 := [.ref 43]) (h1 := (124, I, J, R)) rfl ?_
  refine ev_call (v1 := none) (h1 := (124, I1, J1, R)) rfl rfl c2 ?_
  refine ev_go 2 (pc1 := 134) (lv1 := [.ref 43, .ref 3, .int i]) (st1 := [.ref 43]) (h1 := (124, I1, J1, R)) rfl ?_
  refine ev_call (v1 := none) (h1 := (124, I2, J2, R)) rfl rfl c3 ?_
  refine ev_go 2 (pc1 := 28) (lv1 := [.ref 43, .ref 3, .int (i + 1)]) (st1 := []) (h1 := (124, I2, J2, R)) rfl ?_
  exact hk
set_option maxRecDepth 20000 in
theorem rl_1_3 {L : Nat} {xs : Nat → Int32} {d : Nat} {I : Nat → Nat → Int32} {J : Nat → Nat → Int64} {R : Nat → Nat → Nat} {I1 : Nat → Nat → Int32} {J1 : Nat → Nat → Int64} {I2 : Nat → Nat → Int32} {J2 : Nat → Nat → Int64} {i : Int32} (hG : aGd R) (b1 : i.toInt < 900) (b2 : (I 43 2).toInt = 0) (b3 : (I 1 3).toInt ≠ 0) (c1 : xEv L xs d 25 0 [.ref 1, .retAddr 2, xmk, xmk, xmk] [] (124, I, J, R) (some (.int 0)) (124, I, J, R)) (c2 : xEv L xs d 25 0 [.ref 1, .retAddr 4, xmk, xmk, xmk] [] (124, I, J, R) (some (.int 1)) (124, I, J, R)) (c3 : xEv L xs d 34 0 [.ref 43, xmk, xmk, xmk, xmk] [] (124, I, J, R) none (124, I1, J1, R)) (c4 : xEv L xs d 42 0 [.ref 43] [] (124, I1, J1, R) none (124, I2, J2, R)) {v : Option Value} {h' : xH} (hk : xEv L xs (d + 1) 18 28 [.ref 43, .ref 3, .int (i + 1)] [] (124, I2, J2, R) v h') : xEv L xs (d + 1) 18 28 [.ref 43, .ref 3, .int i] [] (124, I, J, R) v h' := by
  refine ev_go 2 (pc1 := 32) (lv1 := [.ref 43, .ref 3, .int i]) (st1 := [.int 900, .int i]) (h1 := (124, I, J, R)) rfl ?_
  refine ev_br (b1 := false) rfl rfl (xcd_nge (x := i) (y := 900) (by rw [show ((900 : Int32)).toInt = 900 from by decide]; first | exact b1 | omega)) ?_
  refine ev_go 2 (pc1 := 39) (lv1 := [.ref 43, .ref 3, .int i]) (st1 := [.int (I 43 2)]) (h1 := (124, I, J, R)) rfl ?_
  refine ev_br (b1 := false) rfl rfl (xcd_nne (x := (I 43 2)) (y := 0) (by rw [show ((0 : Int32)).toInt = 0 from by decide]; first | exact b2 | omega)) ?_
  refine ev_go 1 (pc1 := 43) (lv1 := [.ref 43, .ref 3, .int i]) (st1 := [.ref 43]) (h1 := (124, I, J, R)) rfl ?_
  refine ev_gf (c := 43) (t := 1) (X := R 43 0) rfl rfl (fun _ => rfl) rfl (hG 43 0 1 rfl rfl) ?_
  refine ev_go 1 (pc1 := 49) (lv1 := [.ref 43, .ref 3, .int i]) (st1 := [.int (I 1 3)]) (h1 := (124, I, J, R)) rfl ?_
  refine ev_br (b1 := false) rfl rfl (xcd_neq (x := (I 1 3)) (y := 0) (by rw [show ((0 : Int32)).toInt = 0 from by decide]; first | exact b3 | omega)) ?_
  refine ev_go 1 (pc1 := 53) (lv1 := [.ref 43, .ref 3, .int i]) (st1 := [.ref 43]) (h1 := (124, I, J, R)) rfl ?_
  refine ev_gf (c := 43) (t := 1) (X := R 43 0) rfl rfl (fun _ => rfl) rfl (hG 43 0 1 rfl rfl) ?_
  refine ev_go 1 (pc1 := 58) (lv1 := [.ref 43, .ref 3, .int i]) (st1 := [.retAddr 2, .ref 1]) (h1 := (124, I, J, R)) rfl ?_
  refine ev_call (v1 := (some (.int 0))) (h1 := (124, I, J, R)) rfl rfl c1 ?_
  refine ev_go 2 (pc1 := 72) (lv1 := [.ref 43, .ref 3, .int i]) (st1 := [.ref 43]) (h1 := (124, I, J, R)) rfl ?_
  refine ev_gf (c := 43) (t := 1) (X := R 43 0) rfl rfl (fun _ => rfl) rfl (hG 43 0 1 rfl rfl) ?_
  refine ev_go 1 (pc1 := 77) (lv1 := [.ref 43, .ref 3, .int i]) (st1 := [.retAddr 4, .ref 1]) (h1 := (124, I, J, R)) rfl ?_
  refine ev_call (v1 := (some (.int 1))) (h1 := (124, I, J, R)) rfl rfl c2 ?_
  refine ev_go 2 (pc1 := 84) (lv1 := [.ref 43, .ref 3, .int i]) (st1 := [.ref 43]) (h1 := (124, I, J, R)) rfl ?_
  refine ev_call (v1 := none) (h1 := (124, I1, J1, R)) rfl rfl c3 ?_
  refine ev_go 2 (pc1 := 134) (lv1 := [.ref 43, .ref 3, .int i]) (st1 := [.ref 43]) (h1 := (124, I1, J1, R)) rfl ?_
  refine ev_call (v1 := none) (h1 := (124, I2, J2, R)) rfl rfl c4 ?_
  refine ev_go 2 (pc1 := 28) (lv1 := [.ref 43, .ref 3, .int (i + 1)]) (st1 := []) (h1 := (124, I2, J2, R)) rfl ?_
  exact hk
set_option maxRecDepth 20000 in
theorem rl_2_3 {L : Nat} {xs : Nat → Int32} {d : Nat} {I : Nat → Nat → Int32} {J : Nat → Nat → Int64} {R : Nat → Nat → Nat} {I1 : Nat → Nat → Int32} {J1 : Nat → Nat → Int64} {I2 : Nat → Nat → Int32} {J2 : Nat → Nat → Int64} {i : Int32} (hG : aGd R) (b1 : i.toInt < 900) (b2 : (I 43 2).toInt = 0) (b3 : (I 1 3).toInt ≠ 0) (c1 : xEv L xs d 25 0 [.ref 1, .retAddr 2, xmk, xmk, xmk] [] (124, I, J, R) (some (.int 0)) (124, I, J, R)) (c2 : xEv L xs d 25 0 [.ref 1, .retAddr 4, xmk, xmk, xmk] [] (124, I, J, R) (some (.int 0)) (124, I, J, R)) (c3 : xEv L xs d 25 0 [.ref 1, .retAddr 6, xmk, xmk, xmk] [] (124, I, J, R) (some (.int 1)) (124, I, J, R)) (c4 : xEv L xs d 37 0 [.ref 43, xmk, xmk, xmk, xmk] [] (124, I, J, R) none (124, I1, J1, R)) (c5 : xEv L xs d 42 0 [.ref 43] [] (124, I1, J1, R) none (124, I2, J2, R)) {v : Option Value} {h' : xH} (hk : xEv L xs (d + 1) 18 28 [.ref 43, .ref 3, .int (i + 1)] [] (124, I2, J2, R) v h') : xEv L xs (d + 1) 18 28 [.ref 43, .ref 3, .int i] [] (124, I, J, R) v h' := by
  refine ev_go 2 (pc1 := 32) (lv1 := [.ref 43, .ref 3, .int i]) (st1 := [.int 900, .int i]) (h1 := (124, I, J, R)) rfl ?_
  refine ev_br (b1 := false) rfl rfl (xcd_nge (x := i) (y := 900) (by rw [show ((900 : Int32)).toInt = 900 from by decide]; first | exact b1 | omega)) ?_
  refine ev_go 2 (pc1 := 39) (lv1 := [.ref 43, .ref 3, .int i]) (st1 := [.int (I 43 2)]) (h1 := (124, I, J, R)) rfl ?_
  refine ev_br (b1 := false) rfl rfl (xcd_nne (x := (I 43 2)) (y := 0) (by rw [show ((0 : Int32)).toInt = 0 from by decide]; first | exact b2 | omega)) ?_
  refine ev_go 1 (pc1 := 43) (lv1 := [.ref 43, .ref 3, .int i]) (st1 := [.ref 43]) (h1 := (124, I, J, R)) rfl ?_
  refine ev_gf (c := 43) (t := 1) (X := R 43 0) rfl rfl (fun _ => rfl) rfl (hG 43 0 1 rfl rfl) ?_
  refine ev_go 1 (pc1 := 49) (lv1 := [.ref 43, .ref 3, .int i]) (st1 := [.int (I 1 3)]) (h1 := (124, I, J, R)) rfl ?_
  refine ev_br (b1 := false) rfl rfl (xcd_neq (x := (I 1 3)) (y := 0) (by rw [show ((0 : Int32)).toInt = 0 from by decide]; first | exact b3 | omega)) ?_
  refine ev_go 1 (pc1 := 53) (lv1 := [.ref 43, .ref 3, .int i]) (st1 := [.ref 43]) (h1 := (124, I, J, R)) rfl ?_
  refine ev_gf (c := 43) (t := 1) (X := R 43 0) rfl rfl (fun _ => rfl) rfl (hG 43 0 1 rfl rfl) ?_
  refine ev_go 1 (pc1 := 58) (lv1 := [.ref 43, .ref 3, .int i]) (st1 := [.retAddr 2, .ref 1]) (h1 := (124, I, J, R)) rfl ?_
  refine ev_call (v1 := (some (.int 0))) (h1 := (124, I, J, R)) rfl rfl c1 ?_
  refine ev_go 2 (pc1 := 72) (lv1 := [.ref 43, .ref 3, .int i]) (st1 := [.ref 43]) (h1 := (124, I, J, R)) rfl ?_
  refine ev_gf (c := 43) (t := 1) (X := R 43 0) rfl rfl (fun _ => rfl) rfl (hG 43 0 1 rfl rfl) ?_
  refine ev_go 1 (pc1 := 77) (lv1 := [.ref 43, .ref 3, .int i]) (st1 := [.retAddr 4, .ref 1]) (h1 := (124, I, J, R)) rfl ?_
  refine ev_call (v1 := (some (.int 0))) (h1 := (124, I, J, R)) rfl rfl c2 ?_
  refine ev_go 2 (pc1 := 91) (lv1 := [.ref 43, .ref 3, .int i]) (st1 := [.ref 43]) (h1 := (124, I, J, R)) rfl ?_
  refine ev_gf (c := 43) (t := 1) (X := R 43 0) rfl rfl (fun _ => rfl) rfl (hG 43 0 1 rfl rfl) ?_
  refine ev_go 1 (pc1 := 96) (lv1 := [.ref 43, .ref 3, .int i]) (st1 := [.retAddr 6, .ref 1]) (h1 := (124, I, J, R)) rfl ?_
  refine ev_call (v1 := (some (.int 1))) (h1 := (124, I, J, R)) rfl rfl c3 ?_
  refine ev_go 2 (pc1 := 103) (lv1 := [.ref 43, .ref 3, .int i]) (st1 := [.ref 43]) (h1 := (124, I, J, R)) rfl ?_
  refine ev_call (v1 := none) (h1 := (124, I1, J1, R)) rfl rfl c4 ?_
  refine ev_go 2 (pc1 := 134) (lv1 := [.ref 43, .ref 3, .int i]) (st1 := [.ref 43]) (h1 := (124, I1, J1, R)) rfl ?_
  refine ev_call (v1 := none) (h1 := (124, I2, J2, R)) rfl rfl c5 ?_
  refine ev_go 2 (pc1 := 28) (lv1 := [.ref 43, .ref 3, .int (i + 1)]) (st1 := []) (h1 := (124, I2, J2, R)) rfl ?_
  exact hk
set_option maxRecDepth 20000 in
theorem rl_3_3 {L : Nat} {xs : Nat → Int32} {d : Nat} {I : Nat → Nat → Int32} {J : Nat → Nat → Int64} {R : Nat → Nat → Nat} {I1 : Nat → Nat → Int32} {J1 : Nat → Nat → Int64} {I2 : Nat → Nat → Int32} {J2 : Nat → Nat → Int64} {i : Int32} (hG : aGd R) (b1 : i.toInt < 900) (b2 : (I 43 2).toInt = 0) (b3 : (I 1 3).toInt ≠ 0) (c1 : xEv L xs d 25 0 [.ref 1, .retAddr 2, xmk, xmk, xmk] [] (124, I, J, R) (some (.int 0)) (124, I, J, R)) (c2 : xEv L xs d 25 0 [.ref 1, .retAddr 4, xmk, xmk, xmk] [] (124, I, J, R) (some (.int 0)) (124, I, J, R)) (c3 : xEv L xs d 25 0 [.ref 1, .retAddr 6, xmk, xmk, xmk] [] (124, I, J, R) (some (.int 0)) (124, I, J, R)) (c4 : xEv L xs d 25 0 [.ref 1, .retAddr 7, xmk, xmk, xmk] [] (124, I, J, R) (some (.int 1)) (124, I, J, R)) (c5 : xEv L xs d 41 0 [.ref 43, xmk, xmk] [] (124, I, J, R) none (124, I1, J1, R)) (c6 : xEv L xs d 42 0 [.ref 43] [] (124, I1, J1, R) none (124, I2, J2, R)) {v : Option Value} {h' : xH} (hk : xEv L xs (d + 1) 18 28 [.ref 43, .ref 3, .int (i + 1)] [] (124, I2, J2, R) v h') : xEv L xs (d + 1) 18 28 [.ref 43, .ref 3, .int i] [] (124, I, J, R) v h' := by
  refine ev_go 2 (pc1 := 32) (lv1 := [.ref 43, .ref 3, .int i]) (st1 := [.int 900, .int i]) (h1 := (124, I, J, R)) rfl ?_
  refine ev_br (b1 := false) rfl rfl (xcd_nge (x := i) (y := 900) (by rw [show ((900 : Int32)).toInt = 900 from by decide]; first | exact b1 | omega)) ?_
  refine ev_go 2 (pc1 := 39) (lv1 := [.ref 43, .ref 3, .int i]) (st1 := [.int (I 43 2)]) (h1 := (124, I, J, R)) rfl ?_
  refine ev_br (b1 := false) rfl rfl (xcd_nne (x := (I 43 2)) (y := 0) (by rw [show ((0 : Int32)).toInt = 0 from by decide]; first | exact b2 | omega)) ?_
  refine ev_go 1 (pc1 := 43) (lv1 := [.ref 43, .ref 3, .int i]) (st1 := [.ref 43]) (h1 := (124, I, J, R)) rfl ?_
  refine ev_gf (c := 43) (t := 1) (X := R 43 0) rfl rfl (fun _ => rfl) rfl (hG 43 0 1 rfl rfl) ?_
  refine ev_go 1 (pc1 := 49) (lv1 := [.ref 43, .ref 3, .int i]) (st1 := [.int (I 1 3)]) (h1 := (124, I, J, R)) rfl ?_
  refine ev_br (b1 := false) rfl rfl (xcd_neq (x := (I 1 3)) (y := 0) (by rw [show ((0 : Int32)).toInt = 0 from by decide]; first | exact b3 | omega)) ?_
  refine ev_go 1 (pc1 := 53) (lv1 := [.ref 43, .ref 3, .int i]) (st1 := [.ref 43]) (h1 := (124, I, J, R)) rfl ?_
  refine ev_gf (c := 43) (t := 1) (X := R 43 0) rfl rfl (fun _ => rfl) rfl (hG 43 0 1 rfl rfl) ?_
  refine ev_go 1 (pc1 := 58) (lv1 := [.ref 43, .ref 3, .int i]) (st1 := [.retAddr 2, .ref 1]) (h1 := (124, I, J, R)) rfl ?_
  refine ev_call (v1 := (some (.int 0))) (h1 := (124, I, J, R)) rfl rfl c1 ?_
  refine ev_go 2 (pc1 := 72) (lv1 := [.ref 43, .ref 3, .int i]) (st1 := [.ref 43]) (h1 := (124, I, J, R)) rfl ?_
  refine ev_gf (c := 43) (t := 1) (X := R 43 0) rfl rfl (fun _ => rfl) rfl (hG 43 0 1 rfl rfl) ?_
  refine ev_go 1 (pc1 := 77) (lv1 := [.ref 43, .ref 3, .int i]) (st1 := [.retAddr 4, .ref 1]) (h1 := (124, I, J, R)) rfl ?_
  refine ev_call (v1 := (some (.int 0))) (h1 := (124, I, J, R)) rfl rfl c2 ?_
  refine ev_go 2 (pc1 := 91) (lv1 := [.ref 43, .ref 3, .int i]) (st1 := [.ref 43]) (h1 := (124, I, J, R)) rfl ?_
  refine ev_gf (c := 43) (t := 1) (X := R 43 0) rfl rfl (fun _ => rfl) rfl (hG 43 0 1 rfl rfl) ?_
  refine ev_go 1 (pc1 := 96) (lv1 := [.ref 43, .ref 3, .int i]) (st1 := [.retAddr 6, .ref 1]) (h1 := (124, I, J, R)) rfl ?_
  refine ev_call (v1 := (some (.int 0))) (h1 := (124, I, J, R)) rfl rfl c3 ?_
  refine ev_go 2 (pc1 := 110) (lv1 := [.ref 43, .ref 3, .int i]) (st1 := [.ref 43]) (h1 := (124, I, J, R)) rfl ?_
  refine ev_gf (c := 43) (t := 1) (X := R 43 0) rfl rfl (fun _ => rfl) rfl (hG 43 0 1 rfl rfl) ?_
  refine ev_go 1 (pc1 := 115) (lv1 := [.ref 43, .ref 3, .int i]) (st1 := [.retAddr 7, .ref 1]) (h1 := (124, I, J, R)) rfl ?_
  refine ev_call (v1 := (some (.int 1))) (h1 := (124, I, J, R)) rfl rfl c4 ?_
  refine ev_go 2 (pc1 := 122) (lv1 := [.ref 43, .ref 3, .int i]) (st1 := [.ref 43]) (h1 := (124, I, J, R)) rfl ?_
  refine ev_call (v1 := none) (h1 := (124, I1, J1, R)) rfl rfl c5 ?_
  refine ev_go 2 (pc1 := 134) (lv1 := [.ref 43, .ref 3, .int i]) (st1 := [.ref 43]) (h1 := (124, I1, J1, R)) rfl ?_
  refine ev_call (v1 := none) (h1 := (124, I2, J2, R)) rfl rfl c6 ?_
  refine ev_go 2 (pc1 := 28) (lv1 := [.ref 43, .ref 3, .int (i + 1)]) (st1 := []) (h1 := (124, I2, J2, R)) rfl ?_
  exact hk
set_option maxRecDepth 20000 in
theorem rl_4_3 {L : Nat} {xs : Nat → Int32} {d : Nat} {I : Nat → Nat → Int32} {J : Nat → Nat → Int64} {R : Nat → Nat → Nat} {I2 : Nat → Nat → Int32} {J2 : Nat → Nat → Int64} {i : Int32} (hG : aGd R) (b1 : i.toInt < 900) (b2 : (I 43 2).toInt = 0) (b3 : (I 1 3).toInt ≠ 0) (c1 : xEv L xs d 25 0 [.ref 1, .retAddr 2, xmk, xmk, xmk] [] (124, I, J, R) (some (.int 0)) (124, I, J, R)) (c2 : xEv L xs d 25 0 [.ref 1, .retAddr 4, xmk, xmk, xmk] [] (124, I, J, R) (some (.int 0)) (124, I, J, R)) (c3 : xEv L xs d 25 0 [.ref 1, .retAddr 6, xmk, xmk, xmk] [] (124, I, J, R) (some (.int 0)) (124, I, J, R)) (c4 : xEv L xs d 25 0 [.ref 1, .retAddr 7, xmk, xmk, xmk] [] (124, I, J, R) (some (.int 0)) (124, I, J, R)) (c5 : xEv L xs d 27 0 [.ref 43, .int 1] [] (124, I, J, R) none (124, (uI (uI I 43 2 1) 43 3 (I 1 4)), J, R)) (c6 : xEv L xs d 42 0 [.ref 43] [] (124, (uI (uI I 43 2 1) 43 3 (I 1 4)), J, R) none (124, I2, J2, R)) {v : Option Value} {h' : xH} (hk : xEv L xs (d + 1) 18 28 [.ref 43, .ref 3, .int (i + 1)] [] (124, I2, J2, R) v h') : xEv L xs (d + 1) 18 28 [.ref 43, .ref 3, .int i] [] (124, I, J, R) v h' := by
  refine ev_go 2 (pc1 := 32) (lv1 := [.ref 43, .ref 3, .int i]) (st1 := [.int 900, .int i]) (h1 := (124, I, J, R)) rfl ?_
  refine ev_br (b1 := false) rfl rfl (xcd_nge (x := i) (y := 900) (by rw [show ((900 : Int32)).toInt = 900 from by decide]; first | exact b1 | omega)) ?_
  refine ev_go 2 (pc1 := 39) (lv1 := [.ref 43, .ref 3, .int i]) (st1 := [.int (I 43 2)]) (h1 := (124, I, J, R)) rfl ?_
  refine ev_br (b1 := false) rfl rfl (xcd_nne (x := (I 43 2)) (y := 0) (by rw [show ((0 : Int32)).toInt = 0 from by decide]; first | exact b2 | omega)) ?_
  refine ev_go 1 (pc1 := 43) (lv1 := [.ref 43, .ref 3, .int i]) (st1 := [.ref 43]) (h1 := (124, I, J, R)) rfl ?_
  refine ev_gf (c := 43) (t := 1) (X := R 43 0) rfl rfl (fun _ => rfl) rfl (hG 43 0 1 rfl rfl) ?_
  refine ev_go 1 (pc1 := 49) (lv1 := [.ref 43, .ref 3, .int i]) (st1 := [.int (I 1 3)]) (h1 := (124, I, J, R)) rfl ?_
  refine ev_br (b1 := false) rfl rfl (xcd_neq (x := (I 1 3)) (y := 0) (by rw [show ((0 : Int32)).toInt = 0 from by decide]; first | exact b3 | omega)) ?_
  refine ev_go 1 (pc1 := 53) (lv1 := [.ref 43, .ref 3, .int i]) (st1 := [.ref 43]) (h1 := (124, I, J, R)) rfl ?_
  refine ev_gf (c := 43) (t := 1) (X := R 43 0) rfl rfl (fun _ => rfl) rfl (hG 43 0 1 rfl rfl) ?_
  refine ev_go 1 (pc1 := 58) (lv1 := [.ref 43, .ref 3, .int i]) (st1 := [.retAddr 2, .ref 1]) (h1 := (124, I, J, R)) rfl ?_
  refine ev_call (v1 := (some (.int 0))) (h1 := (124, I, J, R)) rfl rfl c1 ?_
  refine ev_go 2 (pc1 := 72) (lv1 := [.ref 43, .ref 3, .int i]) (st1 := [.ref 43]) (h1 := (124, I, J, R)) rfl ?_
  refine ev_gf (c := 43) (t := 1) (X := R 43 0) rfl rfl (fun _ => rfl) rfl (hG 43 0 1 rfl rfl) ?_
  refine ev_go 1 (pc1 := 77) (lv1 := [.ref 43, .ref 3, .int i]) (st1 := [.retAddr 4, .ref 1]) (h1 := (124, I, J, R)) rfl ?_
  refine ev_call (v1 := (some (.int 0))) (h1 := (124, I, J, R)) rfl rfl c2 ?_
  refine ev_go 2 (pc1 := 91) (lv1 := [.ref 43, .ref 3, .int i]) (st1 := [.ref 43]) (h1 := (124, I, J, R)) rfl ?_
  refine ev_gf (c := 43) (t := 1) (X := R 43 0) rfl rfl (fun _ => rfl) rfl (hG 43 0 1 rfl rfl) ?_
  refine ev_go 1 (pc1 := 96) (lv1 := [.ref 43, .ref 3, .int i]) (st1 := [.retAddr 6, .ref 1]) (h1 := (124, I, J, R)) rfl ?_
  refine ev_call (v1 := (some (.int 0))) (h1 := (124, I, J, R)) rfl rfl c3 ?_
  refine ev_go 2 (pc1 := 110) (lv1 := [.ref 43, .ref 3, .int i]) (st1 := [.ref 43]) (h1 := (124, I, J, R)) rfl ?_
  refine ev_gf (c := 43) (t := 1) (X := R 43 0) rfl rfl (fun _ => rfl) rfl (hG 43 0 1 rfl rfl) ?_
  refine ev_go 1 (pc1 := 115) (lv1 := [.ref 43, .ref 3, .int i]) (st1 := [.retAddr 7, .ref 1]) (h1 := (124, I, J, R)) rfl ?_
  refine ev_call (v1 := (some (.int 0))) (h1 := (124, I, J, R)) rfl rfl c4 ?_
  refine ev_go 3 (pc1 := 130) (lv1 := [.ref 43, .ref 3, .int i]) (st1 := [.int 1, .ref 43]) (h1 := (124, I, J, R)) rfl ?_
  refine ev_call (v1 := none) (h1 := (124, (uI (uI I 43 2 1) 43 3 (I 1 4)), J, R)) rfl rfl c5 ?_
  refine ev_go 1 (pc1 := 134) (lv1 := [.ref 43, .ref 3, .int i]) (st1 := [.ref 43]) (h1 := (124, (uI (uI I 43 2 1) 43 3 (I 1 4)), J, R)) rfl ?_
  refine ev_call (v1 := none) (h1 := (124, I2, J2, R)) rfl rfl c6 ?_
  refine ev_go 2 (pc1 := 28) (lv1 := [.ref 43, .ref 3, .int (i + 1)]) (st1 := []) (h1 := (124, I2, J2, R)) rfl ?_
  exact hk
set_option maxRecDepth 20000 in
theorem rl_f_3 {L : Nat} {xs : Nat → Int32} {d : Nat} {I : Nat → Nat → Int32} {J : Nat → Nat → Int64} {R : Nat → Nat → Nat} {i : Int32} (hG : aGd R) (b1 : i.toInt < 900) (b2 : (I 43 2).toInt ≠ 0) (b3 : (I 43 2).toInt ≠ 0) : xEv L xs d 18 28 [.ref 43, .ref 3, .int i] [] (124, I, J, R) (some (.int (-1))) (124, I, J, R) := by
  refine ev_go 2 (pc1 := 32) (lv1 := [.ref 43, .ref 3, .int i]) (st1 := [.int 900, .int i]) (h1 := (124, I, J, R)) rfl ?_
  refine ev_br (b1 := false) rfl rfl (xcd_nge (x := i) (y := 900) (by rw [show ((900 : Int32)).toInt = 900 from by decide]; first | exact b1 | omega)) ?_
  refine ev_go 2 (pc1 := 39) (lv1 := [.ref 43, .ref 3, .int i]) (st1 := [.int (I 43 2)]) (h1 := (124, I, J, R)) rfl ?_
  refine ev_br (b1 := true) rfl rfl (xcd_ne (x := (I 43 2)) (y := 0) (by rw [show ((0 : Int32)).toInt = 0 from by decide]; first | exact b2 | omega)) ?_
  refine ev_go 2 (pc1 := 147) (lv1 := [.ref 43, .ref 3, .int i]) (st1 := [.int (I 43 2)]) (h1 := (124, I, J, R)) rfl ?_
  refine ev_br (b1 := false) rfl rfl (xcd_neq (x := (I 43 2)) (y := 0) (by rw [show ((0 : Int32)).toInt = 0 from by decide]; first | exact b3 | omega)) ?_
  refine ev_go 1 (pc1 := 151) (lv1 := [.ref 43, .ref 3, .int i]) (st1 := [.int (-1)]) (h1 := (124, I, J, R)) rfl ?_
  exact ev_ret rfl rfl
set_option maxRecDepth 20000 in
theorem rl_e_3 {L : Nat} {xs : Nat → Int32} {d : Nat} {I : Nat → Nat → Int32} {J : Nat → Nat → Int64} {R : Nat → Nat → Nat} {i : Int32} (hG : aGd R) (b1 : i.toInt < 900) (b2 : (I 43 2).toInt = 0) (b3 : (I 1 3).toInt = 0) (b4 : (I 43 2).toInt = 0) {v : Option Value} {h' : xH} (hk : xEv L xs d 18 152 [.ref 43, .ref 3, .int i] [] (124, I, J, R) v h') : xEv L xs d 18 28 [.ref 43, .ref 3, .int i] [] (124, I, J, R) v h' := by
  refine ev_go 2 (pc1 := 32) (lv1 := [.ref 43, .ref 3, .int i]) (st1 := [.int 900, .int i]) (h1 := (124, I, J, R)) rfl ?_
  refine ev_br (b1 := false) rfl rfl (xcd_nge (x := i) (y := 900) (by rw [show ((900 : Int32)).toInt = 900 from by decide]; first | exact b1 | omega)) ?_
  refine ev_go 2 (pc1 := 39) (lv1 := [.ref 43, .ref 3, .int i]) (st1 := [.int (I 43 2)]) (h1 := (124, I, J, R)) rfl ?_
  refine ev_br (b1 := false) rfl rfl (xcd_nne (x := (I 43 2)) (y := 0) (by rw [show ((0 : Int32)).toInt = 0 from by decide]; first | exact b2 | omega)) ?_
  refine ev_go 1 (pc1 := 43) (lv1 := [.ref 43, .ref 3, .int i]) (st1 := [.ref 43]) (h1 := (124, I, J, R)) rfl ?_
  refine ev_gf (c := 43) (t := 1) (X := R 43 0) rfl rfl (fun _ => rfl) rfl (hG 43 0 1 rfl rfl) ?_
  refine ev_go 1 (pc1 := 49) (lv1 := [.ref 43, .ref 3, .int i]) (st1 := [.int (I 1 3)]) (h1 := (124, I, J, R)) rfl ?_
  refine ev_br (b1 := true) rfl rfl (xcd_eq (x := (I 1 3)) (y := 0) (by rw [show ((0 : Int32)).toInt = 0 from by decide]; first | exact b3 | omega)) ?_
  refine ev_go 2 (pc1 := 147) (lv1 := [.ref 43, .ref 3, .int i]) (st1 := [.int (I 43 2)]) (h1 := (124, I, J, R)) rfl ?_
  refine ev_br (b1 := true) rfl rfl (xcd_eq (x := (I 43 2)) (y := 0) (by rw [show ((0 : Int32)).toInt = 0 from by decide]; first | exact b4 | omega)) ?_
  exact hk
set_option maxRecDepth 20000 in
theorem cc_1_3 {L : Nat} {xs : Nat → Int32} {d : Nat} {I : Nat → Nat → Int32} {J : Nat → Nat → Int64} {R : Nat → Nat → Nat} (hG : aGd R) (b1 : (I 1 3).toInt ≠ 3) (c1 : xEv L xs d 27 0 [.ref 43, .int 1] [] (124, I, J, R) none (124, (uI (uI I 43 2 1) 43 3 (I 1 4)), J, R)) : xEv L xs (d + 1) 42 0 [.ref 43] [] (124, I, J, R) none (124, (uI (uI I 43 2 1) 43 3 (I 1 4)), J, R) := by
  refine ev_go 1 (pc1 := 1) (lv1 := [.ref 43]) (st1 := [.ref 43]) (h1 := (124, I, J, R)) rfl ?_
  refine ev_gf (c := 43) (t := 1) (X := R 43 0) rfl rfl (fun _ => rfl) rfl (hG 43 0 1 rfl rfl) ?_
  refine ev_go 2 (pc1 := 8) (lv1 := [.ref 43]) (st1 := [.int 3, .int (I 1 3)]) (h1 := (124, I, J, R)) rfl ?_
  refine ev_br (b1 := false) rfl rfl (xcd_neq (x := (I 1 3)) (y := 3) (by rw [show ((3 : Int32)).toInt = 3 from by decide]; first | exact b1 | omega)) ?_
  refine ev_go 2 (pc1 := 13) (lv1 := [.ref 43]) (st1 := [.int 1, .ref 43]) (h1 := (124, I, J, R)) rfl ?_
  refine ev_call (v1 := none) (h1 := (124, (uI (uI I 43 2 1) 43 3 (I 1 4)), J, R)) rfl rfl c1 ?_
  refine ev_go 3 (pc1 := 43) (lv1 := [.ref 43]) (st1 := []) (h1 := (124, (uI (uI I 43 2 1) 43 3 (I 1 4)), J, R)) rfl ?_
  exact ev_ret rfl rfl
set_option maxRecDepth 20000 in
theorem cc_d1_3 {L : Nat} {xs : Nat → Int32} {d : Nat} {I : Nat → Nat → Int32} {J : Nat → Nat → Int64} {R : Nat → Nat → Nat} (hG : aGd R) (b1 : (I 1 3).toInt ≠ 3) (c1 : xEv L xs d 27 0 [.ref 43, .int 1] [] (124, I, J, R) none (124, I, J, R)) (b2 : (I 43 2).toInt ≠ 0) : xEv L xs (d + 1) 42 0 [.ref 43] [] (124, I, J, R) none (124, I, J, R) := by
  refine ev_go 1 (pc1 := 1) (lv1 := [.ref 43]) (st1 := [.ref 43]) (h1 := (124, I, J, R)) rfl ?_
  refine ev_gf (c := 43) (t := 1) (X := R 43 0) rfl rfl (fun _ => rfl) rfl (hG 43 0 1 rfl rfl) ?_
  refine ev_go 2 (pc1 := 8) (lv1 := [.ref 43]) (st1 := [.int 3, .int (I 1 3)]) (h1 := (124, I, J, R)) rfl ?_
  refine ev_br (b1 := false) rfl rfl (xcd_neq (x := (I 1 3)) (y := 3) (by rw [show ((3 : Int32)).toInt = 3 from by decide]; first | exact b1 | omega)) ?_
  refine ev_go 2 (pc1 := 13) (lv1 := [.ref 43]) (st1 := [.int 1, .ref 43]) (h1 := (124, I, J, R)) rfl ?_
  refine ev_call (v1 := none) (h1 := (124, I, J, R)) rfl rfl c1 ?_
  refine ev_go 2 (pc1 := 20) (lv1 := [.ref 43]) (st1 := [.int (I 43 2)]) (h1 := (124, I, J, R)) rfl ?_
  refine ev_br (b1 := true) rfl rfl (xcd_ne (x := (I 43 2)) (y := 0) (by rw [show ((0 : Int32)).toInt = 0 from by decide]; first | exact b2 | omega)) ?_
  exact ev_ret rfl rfl
set_option maxRecDepth 20000 in
theorem cc_d2_3 {L : Nat} {xs : Nat → Int32} {d : Nat} {I : Nat → Nat → Int32} {J : Nat → Nat → Int64} {R : Nat → Nat → Nat} (hG : aGd R) (b1 : (I 1 3).toInt = 3) (b2 : (I 43 2).toInt ≠ 0) : xEv L xs d 42 0 [.ref 43] [] (124, I, J, R) none (124, I, J, R) := by
  refine ev_go 1 (pc1 := 1) (lv1 := [.ref 43]) (st1 := [.ref 43]) (h1 := (124, I, J, R)) rfl ?_
  refine ev_gf (c := 43) (t := 1) (X := R 43 0) rfl rfl (fun _ => rfl) rfl (hG 43 0 1 rfl rfl) ?_
  refine ev_go 2 (pc1 := 8) (lv1 := [.ref 43]) (st1 := [.int 3, .int (I 1 3)]) (h1 := (124, I, J, R)) rfl ?_
  refine ev_br (b1 := true) rfl rfl (xcd_eq (x := (I 1 3)) (y := 3) (by rw [show ((3 : Int32)).toInt = 3 from by decide]; first | exact b1 | omega)) ?_
  refine ev_go 2 (pc1 := 20) (lv1 := [.ref 43]) (st1 := [.int (I 43 2)]) (h1 := (124, I, J, R)) rfl ?_
  refine ev_br (b1 := true) rfl rfl (xcd_ne (x := (I 43 2)) (y := 0) (by rw [show ((0 : Int32)).toInt = 0 from by decide]; first | exact b2 | omega)) ?_
  exact ev_ret rfl rfl
set_option maxRecDepth 20000 in
theorem cc_2_3 {L : Nat} {xs : Nat → Int32} {d : Nat} {I : Nat → Nat → Int32} {J : Nat → Nat → Int64} {R : Nat → Nat → Nat} {I1 : Nat → Nat → Int32} {J1 : Nat → Nat → Int64} (hG : aGd R) (b1 : (I 1 3).toInt = 3) (b2 : (I 43 2).toInt = 0) (r_R_43_1 : R 43 1 = 4) (c1 : xEv L xs d 21 0 [.ref 1] [] (124, (uI I 3 17 ((I 3 17) + 1)), J, R) none (124, I1, J1, R)) : xEv L xs (d + 1) 42 0 [.ref 43] [] (124, I, J, R) none (124, I1, J1, R) := by
  refine ev_go 1 (pc1 := 1) (lv1 := [.ref 43]) (st1 := [.ref 43]) (h1 := (124, I, J, R)) rfl ?_
  refine ev_gf (c := 43) (t := 1) (X := R 43 0) rfl rfl (fun _ => rfl) rfl (hG 43 0 1 rfl rfl) ?_
  refine ev_go 2 (pc1 := 8) (lv1 := [.ref 43]) (st1 := [.int 3, .int (I 1 3)]) (h1 := (124, I, J, R)) rfl ?_
  refine ev_br (b1 := true) rfl rfl (xcd_eq (x := (I 1 3)) (y := 3) (by rw [show ((3 : Int32)).toInt = 3 from by decide]; first | exact b1 | omega)) ?_
  refine ev_go 2 (pc1 := 20) (lv1 := [.ref 43]) (st1 := [.int (I 43 2)]) (h1 := (124, I, J, R)) rfl ?_
  refine ev_br (b1 := false) rfl rfl (xcd_nne (x := (I 43 2)) (y := 0) (by rw [show ((0 : Int32)).toInt = 0 from by decide]; first | exact b2 | omega)) ?_
  refine ev_go 1 (pc1 := 24) (lv1 := [.ref 43]) (st1 := [.ref 43]) (h1 := (124, I, J, R)) rfl ?_
  refine ev_gf (c := 43) (t := 3) (X := R 43 1) rfl rfl (fun _ => rfl) rfl r_R_43_1 ?_
  refine ev_go 6 (pc1 := 37) (lv1 := [.ref 43]) (st1 := [.ref 43]) (h1 := (124, (uI I 3 17 ((I 3 17) + 1)), J, R)) rfl ?_
  refine ev_gf (c := 43) (t := 1) (X := R 43 0) rfl rfl (fun _ => rfl) rfl (hG 43 0 1 rfl rfl) ?_
  refine ev_call (v1 := none) (h1 := (124, I1, J1, R)) rfl rfl c1 ?_
  exact ev_ret rfl rfl
set_option maxRecDepth 20000 in
theorem rl_0_23 {L : Nat} {xs : Nat → Int32} {d : Nat} {I : Nat → Nat → Int32} {J : Nat → Nat → Int64} {R : Nat → Nat → Nat} {I1 : Nat → Nat → Int32} {J1 : Nat → Nat → Int64} {I2 : Nat → Nat → Int32} {J2 : Nat → Nat → Int64} {i : Int32} (hG : aGd R) (b1 : i.toInt < 900) (b2 : (I 43 2).toInt = 0) (b3 : (I 1 3).toInt ≠ 0) (c1 : xEv L xs d 25 0 [.ref 1, .retAddr 2, xmk, xmk, xmk] [] (124, I, J, R) (some (.int 1)) (124, I, J, R)) (c2 : xEv L xs d 26 0 [.ref 43, xmk, xmk, xmk, xmk] [] (124, I, J, R) none (124, I1, J1, R)) (c3 : xEv L xs d 42 0 [.ref 43] [] (124, I1, J1, R) none (124, I2, J2, R)) {v : Option Value} {h' : xH} (hk : xEv L xs (d + 1) 18 28 [.ref 43, .ref 23, .int (i + 1)] [] (124, I2, J2, R) v h') : xEv L xs (d + 1) 18 28 [.ref 43, .ref 23, .int i] [] (124, I, J, R) v h' := by
  refine ev_go 2 (pc1 := 32) (lv1 := [.ref 43, .ref 23, .int i]) (st1 := [.int 900, .int i]) (h1 := (124, I, J, R)) rfl ?_
  refine ev_br (b1 := false) rfl rfl (xcd_nge (x := i) (y := 900) (by rw [show ((900 : Int32)).toInt = 900 from by decide]; first | exact b1 | omega)) ?_
  refine ev_go 2 (pc1 := 39) (lv1 := [.ref 43, .ref 23, .int i]) (st1 := [.int (I 43 2)]) (h1 := (124, I, J, R)) rfl ?_
  refine ev_br (b1 := false) rfl rfl (xcd_nne (x := (I 43 2)) (y := 0) (by rw [show ((0 : Int32)).toInt = 0 from by decide]; first | exact b2 | omega)) ?_
  refine ev_go 1 (pc1 := 43) (lv1 := [.ref 43, .ref 23, .int i]) (st1 := [.ref 43]) (h1 := (124, I, J, R)) rfl ?_
  refine ev_gf (c := 43) (t := 1) (X := R 43 0) rfl rfl (fun _ => rfl) rfl (hG 43 0 1 rfl rfl) ?_
  refine ev_go 1 (pc1 := 49) (lv1 := [.ref 43, .ref 23, .int i]) (st1 := [.int (I 1 3)]) (h1 := (124, I, J, R)) rfl ?_
  refine ev_br (b1 := false) rfl rfl (xcd_neq (x := (I 1 3)) (y := 0) (by rw [show ((0 : Int32)).toInt = 0 from by decide]; first | exact b3 | omega)) ?_
  refine ev_go 1 (pc1 := 53) (lv1 := [.ref 43, .ref 23, .int i]) (st1 := [.ref 43]) (h1 := (124, I, J, R)) rfl ?_
  refine ev_gf (c := 43) (t := 1) (X := R 43 0) rfl rfl (fun _ => rfl) rfl (hG 43 0 1 rfl rfl) ?_
  refine ev_go 1 (pc1 := 58) (lv1 := [.ref 43, .ref 23, .int i]) (st1 := [.retAddr 2, .ref 1]) (h1 := (124, I, J, R)) rfl ?_
  refine ev_call (v1 := (some (.int 1))) (h1 := (124, I, J, R)) rfl rfl c1 ?_
  refine ev_go 2 (pc1 := 65) (lv1 := [.ref 43, .ref 23, .int i]) (st1 := [.ref 43]) (h1 := (124, I, J, R)) rfl ?_
  refine ev_call (v1 := none) (h1 := (124, I1, J1, R)) rfl rfl c2 ?_
  refine ev_go 2 (pc1 := 134) (lv1 := [.ref 43, .ref 23, .int i]) (st1 := [.ref 43]) (h1 := (124, I1, J1, R)) rfl ?_
  refine ev_call (v1 := none) (h1 := (124, I2, J2, R)) rfl rfl c3 ?_
  refine ev_go 2 (pc1 := 28) (lv1 := [.ref 43, .ref 23, .int (i + 1)]) (st1 := []) (h1 := (124, I2, J2, R)) rfl ?_
  exact hk
set_option maxRecDepth 20000 in
theorem rl_1_23 {L : Nat} {xs : Nat → Int32} {d : Nat} {I : Nat → Nat → Int32} {J : Nat → Nat → Int64} {R : Nat → Nat → Nat} {I1 : Nat → Nat → Int32} {J1 : Nat → Nat → Int64} {I2 : Nat → Nat → Int32} {J2 : Nat → Nat → Int64} {i : Int32} (hG : aGd R) (b1 : i.toInt < 900) (b2 : (I 43 2).toInt = 0) (b3 : (I 1 3).toInt ≠ 0) (c1 : xEv L xs d 25 0 [.ref 1, .retAddr 2, xmk, xmk, xmk] [] (124, I, J, R) (some (.int 0)) (124, I, J, R)) (c2 : xEv L xs d 25 0 [.ref 1, .retAddr 4, xmk, xmk, xmk] [] (124, I, J, R) (some (.int 1)) (124, I, J, R)) (c3 : xEv L xs d 34 0 [.ref 43, xmk, xmk, xmk, xmk] [] (124, I, J, R) none (124, I1, J1, R)) (c4 : xEv L xs d 42 0 [.ref 43] [] (124, I1, J1, R) none (124, I2, J2, R)) {v : Option Value} {h' : xH} (hk : xEv L xs (d + 1) 18 28 [.ref 43, .ref 23, .int (i + 1)] [] (124, I2, J2, R) v h') : xEv L xs (d + 1) 18 28 [.ref 43, .ref 23, .int i] [] (124, I, J, R) v h' := by
  refine ev_go 2 (pc1 := 32) (lv1 := [.ref 43, .ref 23, .int i]) (st1 := [.int 900, .int i]) (h1 := (124, I, J, R)) rfl ?_
  refine ev_br (b1 := false) rfl rfl (xcd_nge (x := i) (y := 900) (by rw [show ((900 : Int32)).toInt = 900 from by decide]; first | exact b1 | omega)) ?_
  refine ev_go 2 (pc1 := 39) (lv1 := [.ref 43, .ref 23, .int i]) (st1 := [.int (I 43 2)]) (h1 := (124, I, J, R)) rfl ?_
  refine ev_br (b1 := false) rfl rfl (xcd_nne (x := (I 43 2)) (y := 0) (by rw [show ((0 : Int32)).toInt = 0 from by decide]; first | exact b2 | omega)) ?_
  refine ev_go 1 (pc1 := 43) (lv1 := [.ref 43, .ref 23, .int i]) (st1 := [.ref 43]) (h1 := (124, I, J, R)) rfl ?_
  refine ev_gf (c := 43) (t := 1) (X := R 43 0) rfl rfl (fun _ => rfl) rfl (hG 43 0 1 rfl rfl) ?_
  refine ev_go 1 (pc1 := 49) (lv1 := [.ref 43, .ref 23, .int i]) (st1 := [.int (I 1 3)]) (h1 := (124, I, J, R)) rfl ?_
  refine ev_br (b1 := false) rfl rfl (xcd_neq (x := (I 1 3)) (y := 0) (by rw [show ((0 : Int32)).toInt = 0 from by decide]; first | exact b3 | omega)) ?_
  refine ev_go 1 (pc1 := 53) (lv1 := [.ref 43, .ref 23, .int i]) (st1 := [.ref 43]) (h1 := (124, I, J, R)) rfl ?_
  refine ev_gf (c := 43) (t := 1) (X := R 43 0) rfl rfl (fun _ => rfl) rfl (hG 43 0 1 rfl rfl) ?_
  refine ev_go 1 (pc1 := 58) (lv1 := [.ref 43, .ref 23, .int i]) (st1 := [.retAddr 2, .ref 1]) (h1 := (124, I, J, R)) rfl ?_
  refine ev_call (v1 := (some (.int 0))) (h1 := (124, I, J, R)) rfl rfl c1 ?_
  refine ev_go 2 (pc1 := 72) (lv1 := [.ref 43, .ref 23, .int i]) (st1 := [.ref 43]) (h1 := (124, I, J, R)) rfl ?_
  refine ev_gf (c := 43) (t := 1) (X := R 43 0) rfl rfl (fun _ => rfl) rfl (hG 43 0 1 rfl rfl) ?_
  refine ev_go 1 (pc1 := 77) (lv1 := [.ref 43, .ref 23, .int i]) (st1 := [.retAddr 4, .ref 1]) (h1 := (124, I, J, R)) rfl ?_
  refine ev_call (v1 := (some (.int 1))) (h1 := (124, I, J, R)) rfl rfl c2 ?_
  refine ev_go 2 (pc1 := 84) (lv1 := [.ref 43, .ref 23, .int i]) (st1 := [.ref 43]) (h1 := (124, I, J, R)) rfl ?_
  refine ev_call (v1 := none) (h1 := (124, I1, J1, R)) rfl rfl c3 ?_
  refine ev_go 2 (pc1 := 134) (lv1 := [.ref 43, .ref 23, .int i]) (st1 := [.ref 43]) (h1 := (124, I1, J1, R)) rfl ?_
  refine ev_call (v1 := none) (h1 := (124, I2, J2, R)) rfl rfl c4 ?_
  refine ev_go 2 (pc1 := 28) (lv1 := [.ref 43, .ref 23, .int (i + 1)]) (st1 := []) (h1 := (124, I2, J2, R)) rfl ?_
  exact hk
set_option maxRecDepth 20000 in
theorem rl_2_23 {L : Nat} {xs : Nat → Int32} {d : Nat} {I : Nat → Nat → Int32} {J : Nat → Nat → Int64} {R : Nat → Nat → Nat} {I1 : Nat → Nat → Int32} {J1 : Nat → Nat → Int64} {I2 : Nat → Nat → Int32} {J2 : Nat → Nat → Int64} {i : Int32} (hG : aGd R) (b1 : i.toInt < 900) (b2 : (I 43 2).toInt = 0) (b3 : (I 1 3).toInt ≠ 0) (c1 : xEv L xs d 25 0 [.ref 1, .retAddr 2, xmk, xmk, xmk] [] (124, I, J, R) (some (.int 0)) (124, I, J, R)) (c2 : xEv L xs d 25 0 [.ref 1, .retAddr 4, xmk, xmk, xmk] [] (124, I, J, R) (some (.int 0)) (124, I, J, R)) (c3 : xEv L xs d 25 0 [.ref 1, .retAddr 6, xmk, xmk, xmk] [] (124, I, J, R) (some (.int 1)) (124, I, J, R)) (c4 : xEv L xs d 37 0 [.ref 43, xmk, xmk, xmk, xmk] [] (124, I, J, R) none (124, I1, J1, R)) (c5 : xEv L xs d 42 0 [.ref 43] [] (124, I1, J1, R) none (124, I2, J2, R)) {v : Option Value} {h' : xH} (hk : xEv L xs (d + 1) 18 28 [.ref 43, .ref 23, .int (i + 1)] [] (124, I2, J2, R) v h') : xEv L xs (d + 1) 18 28 [.ref 43, .ref 23, .int i] [] (124, I, J, R) v h' := by
  refine ev_go 2 (pc1 := 32) (lv1 := [.ref 43, .ref 23, .int i]) (st1 := [.int 900, .int i]) (h1 := (124, I, J, R)) rfl ?_
  refine ev_br (b1 := false) rfl rfl (xcd_nge (x := i) (y := 900) (by rw [show ((900 : Int32)).toInt = 900 from by decide]; first | exact b1 | omega)) ?_
  refine ev_go 2 (pc1 := 39) (lv1 := [.ref 43, .ref 23, .int i]) (st1 := [.int (I 43 2)]) (h1 := (124, I, J, R)) rfl ?_
  refine ev_br (b1 := false) rfl rfl (xcd_nne (x := (I 43 2)) (y := 0) (by rw [show ((0 : Int32)).toInt = 0 from by decide]; first | exact b2 | omega)) ?_
  refine ev_go 1 (pc1 := 43) (lv1 := [.ref 43, .ref 23, .int i]) (st1 := [.ref 43]) (h1 := (124, I, J, R)) rfl ?_
  refine ev_gf (c := 43) (t := 1) (X := R 43 0) rfl rfl (fun _ => rfl) rfl (hG 43 0 1 rfl rfl) ?_
  refine ev_go 1 (pc1 := 49) (lv1 := [.ref 43, .ref 23, .int i]) (st1 := [.int (I 1 3)]) (h1 := (124, I, J, R)) rfl ?_
  refine ev_br (b1 := false) rfl rfl (xcd_neq (x := (I 1 3)) (y := 0) (by rw [show ((0 : Int32)).toInt = 0 from by decide]; first | exact b3 | omega)) ?_
  refine ev_go 1 (pc1 := 53) (lv1 := [.ref 43, .ref 23, .int i]) (st1 := [.ref 43]) (h1 := (124, I, J, R)) rfl ?_
  refine ev_gf (c := 43) (t := 1) (X := R 43 0) rfl rfl (fun _ => rfl) rfl (hG 43 0 1 rfl rfl) ?_
  refine ev_go 1 (pc1 := 58) (lv1 := [.ref 43, .ref 23, .int i]) (st1 := [.retAddr 2, .ref 1]) (h1 := (124, I, J, R)) rfl ?_
  refine ev_call (v1 := (some (.int 0))) (h1 := (124, I, J, R)) rfl rfl c1 ?_
  refine ev_go 2 (pc1 := 72) (lv1 := [.ref 43, .ref 23, .int i]) (st1 := [.ref 43]) (h1 := (124, I, J, R)) rfl ?_
  refine ev_gf (c := 43) (t := 1) (X := R 43 0) rfl rfl (fun _ => rfl) rfl (hG 43 0 1 rfl rfl) ?_
  refine ev_go 1 (pc1 := 77) (lv1 := [.ref 43, .ref 23, .int i]) (st1 := [.retAddr 4, .ref 1]) (h1 := (124, I, J, R)) rfl ?_
  refine ev_call (v1 := (some (.int 0))) (h1 := (124, I, J, R)) rfl rfl c2 ?_
  refine ev_go 2 (pc1 := 91) (lv1 := [.ref 43, .ref 23, .int i]) (st1 := [.ref 43]) (h1 := (124, I, J, R)) rfl ?_
  refine ev_gf (c := 43) (t := 1) (X := R 43 0) rfl rfl (fun _ => rfl) rfl (hG 43 0 1 rfl rfl) ?_
  refine ev_go 1 (pc1 := 96) (lv1 := [.ref 43, .ref 23, .int i]) (st1 := [.retAddr 6, .ref 1]) (h1 := (124, I, J, R)) rfl ?_
  refine ev_call (v1 := (some (.int 1))) (h1 := (124, I, J, R)) rfl rfl c3 ?_
  refine ev_go 2 (pc1 := 103) (lv1 := [.ref 43, .ref 23, .int i]) (st1 := [.ref 43]) (h1 := (124, I, J, R)) rfl ?_
  refine ev_call (v1 := none) (h1 := (124, I1, J1, R)) rfl rfl c4 ?_
  refine ev_go 2 (pc1 := 134) (lv1 := [.ref 43, .ref 23, .int i]) (st1 := [.ref 43]) (h1 := (124, I1, J1, R)) rfl ?_
  refine ev_call (v1 := none) (h1 := (124, I2, J2, R)) rfl rfl c5 ?_
  refine ev_go 2 (pc1 := 28) (lv1 := [.ref 43, .ref 23, .int (i + 1)]) (st1 := []) (h1 := (124, I2, J2, R)) rfl ?_
  exact hk
set_option maxRecDepth 20000 in
theorem rl_3_23 {L : Nat} {xs : Nat → Int32} {d : Nat} {I : Nat → Nat → Int32} {J : Nat → Nat → Int64} {R : Nat → Nat → Nat} {I1 : Nat → Nat → Int32} {J1 : Nat → Nat → Int64} {I2 : Nat → Nat → Int32} {J2 : Nat → Nat → Int64} {i : Int32} (hG : aGd R) (b1 : i.toInt < 900) (b2 : (I 43 2).toInt = 0) (b3 : (I 1 3).toInt ≠ 0) (c1 : xEv L xs d 25 0 [.ref 1, .retAddr 2, xmk, xmk, xmk] [] (124, I, J, R) (some (.int 0)) (124, I, J, R)) (c2 : xEv L xs d 25 0 [.ref 1, .retAddr 4, xmk, xmk, xmk] [] (124, I, J, R) (some (.int 0)) (124, I, J, R)) (c3 : xEv L xs d 25 0 [.ref 1, .retAddr 6, xmk, xmk, xmk] [] (124, I, J, R) (some (.int 0)) (124, I, J, R)) (c4 : xEv L xs d 25 0 [.ref 1, .retAddr 7, xmk, xmk, xmk] [] (124, I, J, R) (some (.int 1)) (124, I, J, R)) (c5 : xEv L xs d 41 0 [.ref 43, xmk, xmk] [] (124, I, J, R) none (124, I1, J1, R)) (c6 : xEv L xs d 42 0 [.ref 43] [] (124, I1, J1, R) none (124, I2, J2, R)) {v : Option Value} {h' : xH} (hk : xEv L xs (d + 1) 18 28 [.ref 43, .ref 23, .int (i + 1)] [] (124, I2, J2, R) v h') : xEv L xs (d + 1) 18 28 [.ref 43, .ref 23, .int i] [] (124, I, J, R) v h' := by
  refine ev_go 2 (pc1 := 32) (lv1 := [.ref 43, .ref 23, .int i]) (st1 := [.int 900, .int i]) (h1 := (124, I, J, R)) rfl ?_
  refine ev_br (b1 := false) rfl rfl (xcd_nge (x := i) (y := 900) (by rw [show ((900 : Int32)).toInt = 900 from by decide]; first | exact b1 | omega)) ?_
  refine ev_go 2 (pc1 := 39) (lv1 := [.ref 43, .ref 23, .int i]) (st1 := [.int (I 43 2)]) (h1 := (124, I, J, R)) rfl ?_
  refine ev_br (b1 := false) rfl rfl (xcd_nne (x := (I 43 2)) (y := 0) (by rw [show ((0 : Int32)).toInt = 0 from by decide]; first | exact b2 | omega)) ?_
  refine ev_go 1 (pc1 := 43) (lv1 := [.ref 43, .ref 23, .int i]) (st1 := [.ref 43]) (h1 := (124, I, J, R)) rfl ?_
  refine ev_gf (c := 43) (t := 1) (X := R 43 0) rfl rfl (fun _ => rfl) rfl (hG 43 0 1 rfl rfl) ?_
  refine ev_go 1 (pc1 := 49) (lv1 := [.ref 43, .ref 23, .int i]) (st1 := [.int (I 1 3)]) (h1 := (124, I, J, R)) rfl ?_
  refine ev_br (b1 := false) rfl rfl (xcd_neq (x := (I 1 3)) (y := 0) (by rw [show ((0 : Int32)).toInt = 0 from by decide]; first | exact b3 | omega)) ?_
  refine ev_go 1 (pc1 := 53) (lv1 := [.ref 43, .ref 23, .int i]) (st1 := [.ref 43]) (h1 := (124, I, J, R)) rfl ?_
  refine ev_gf (c := 43) (t := 1) (X := R 43 0) rfl rfl (fun _ => rfl) rfl (hG 43 0 1 rfl rfl) ?_
  refine ev_go 1 (pc1 := 58) (lv1 := [.ref 43, .ref 23, .int i]) (st1 := [.retAddr 2, .ref 1]) (h1 := (124, I, J, R)) rfl ?_
  refine ev_call (v1 := (some (.int 0))) (h1 := (124, I, J, R)) rfl rfl c1 ?_
  refine ev_go 2 (pc1 := 72) (lv1 := [.ref 43, .ref 23, .int i]) (st1 := [.ref 43]) (h1 := (124, I, J, R)) rfl ?_
  refine ev_gf (c := 43) (t := 1) (X := R 43 0) rfl rfl (fun _ => rfl) rfl (hG 43 0 1 rfl rfl) ?_
  refine ev_go 1 (pc1 := 77) (lv1 := [.ref 43, .ref 23, .int i]) (st1 := [.retAddr 4, .ref 1]) (h1 := (124, I, J, R)) rfl ?_
  refine ev_call (v1 := (some (.int 0))) (h1 := (124, I, J, R)) rfl rfl c2 ?_
  refine ev_go 2 (pc1 := 91) (lv1 := [.ref 43, .ref 23, .int i]) (st1 := [.ref 43]) (h1 := (124, I, J, R)) rfl ?_
  refine ev_gf (c := 43) (t := 1) (X := R 43 0) rfl rfl (fun _ => rfl) rfl (hG 43 0 1 rfl rfl) ?_
  refine ev_go 1 (pc1 := 96) (lv1 := [.ref 43, .ref 23, .int i]) (st1 := [.retAddr 6, .ref 1]) (h1 := (124, I, J, R)) rfl ?_
  refine ev_call (v1 := (some (.int 0))) (h1 := (124, I, J, R)) rfl rfl c3 ?_
  refine ev_go 2 (pc1 := 110) (lv1 := [.ref 43, .ref 23, .int i]) (st1 := [.ref 43]) (h1 := (124, I, J, R)) rfl ?_
  refine ev_gf (c := 43) (t := 1) (X := R 43 0) rfl rfl (fun _ => rfl) rfl (hG 43 0 1 rfl rfl) ?_
  refine ev_go 1 (pc1 := 115) (lv1 := [.ref 43, .ref 23, .int i]) (st1 := [.retAddr 7, .ref 1]) (h1 := (124, I, J, R)) rfl ?_
  refine ev_call (v1 := (some (.int 1))) (h1 := (124, I, J, R)) rfl rfl c4 ?_
  refine ev_go 2 (pc1 := 122) (lv1 := [.ref 43, .ref 23, .int i]) (st1 := [.ref 43]) (h1 := (124, I, J, R)) rfl ?_
  refine ev_call (v1 := none) (h1 := (124, I1, J1, R)) rfl rfl c5 ?_
  refine ev_go 2 (pc1 := 134) (lv1 := [.ref 43, .ref 23, .int i]) (st1 := [.ref 43]) (h1 := (124, I1, J1, R)) rfl ?_
  refine ev_call (v1 := none) (h1 := (124, I2, J2, R)) rfl rfl c6 ?_
  refine ev_go 2 (pc1 := 28) (lv1 := [.ref 43, .ref 23, .int (i + 1)]) (st1 := []) (h1 := (124, I2, J2, R)) rfl ?_
  exact hk
set_option maxRecDepth 20000 in
theorem rl_4_23 {L : Nat} {xs : Nat → Int32} {d : Nat} {I : Nat → Nat → Int32} {J : Nat → Nat → Int64} {R : Nat → Nat → Nat} {I2 : Nat → Nat → Int32} {J2 : Nat → Nat → Int64} {i : Int32} (hG : aGd R) (b1 : i.toInt < 900) (b2 : (I 43 2).toInt = 0) (b3 : (I 1 3).toInt ≠ 0) (c1 : xEv L xs d 25 0 [.ref 1, .retAddr 2, xmk, xmk, xmk] [] (124, I, J, R) (some (.int 0)) (124, I, J, R)) (c2 : xEv L xs d 25 0 [.ref 1, .retAddr 4, xmk, xmk, xmk] [] (124, I, J, R) (some (.int 0)) (124, I, J, R)) (c3 : xEv L xs d 25 0 [.ref 1, .retAddr 6, xmk, xmk, xmk] [] (124, I, J, R) (some (.int 0)) (124, I, J, R)) (c4 : xEv L xs d 25 0 [.ref 1, .retAddr 7, xmk, xmk, xmk] [] (124, I, J, R) (some (.int 0)) (124, I, J, R)) (c5 : xEv L xs d 27 0 [.ref 43, .int 1] [] (124, I, J, R) none (124, (uI (uI I 43 2 1) 43 3 (I 1 4)), J, R)) (c6 : xEv L xs d 42 0 [.ref 43] [] (124, (uI (uI I 43 2 1) 43 3 (I 1 4)), J, R) none (124, I2, J2, R)) {v : Option Value} {h' : xH} (hk : xEv L xs (d + 1) 18 28 [.ref 43, .ref 23, .int (i + 1)] [] (124, I2, J2, R) v h') : xEv L xs (d + 1) 18 28 [.ref 43, .ref 23, .int i] [] (124, I, J, R) v h' := by
  refine ev_go 2 (pc1 := 32) (lv1 := [.ref 43, .ref 23, .int i]) (st1 := [.int 900, .int i]) (h1 := (124, I, J, R)) rfl ?_
  refine ev_br (b1 := false) rfl rfl (xcd_nge (x := i) (y := 900) (by rw [show ((900 : Int32)).toInt = 900 from by decide]; first | exact b1 | omega)) ?_
  refine ev_go 2 (pc1 := 39) (lv1 := [.ref 43, .ref 23, .int i]) (st1 := [.int (I 43 2)]) (h1 := (124, I, J, R)) rfl ?_
  refine ev_br (b1 := false) rfl rfl (xcd_nne (x := (I 43 2)) (y := 0) (by rw [show ((0 : Int32)).toInt = 0 from by decide]; first | exact b2 | omega)) ?_
  refine ev_go 1 (pc1 := 43) (lv1 := [.ref 43, .ref 23, .int i]) (st1 := [.ref 43]) (h1 := (124, I, J, R)) rfl ?_
  refine ev_gf (c := 43) (t := 1) (X := R 43 0) rfl rfl (fun _ => rfl) rfl (hG 43 0 1 rfl rfl) ?_
  refine ev_go 1 (pc1 := 49) (lv1 := [.ref 43, .ref 23, .int i]) (st1 := [.int (I 1 3)]) (h1 := (124, I, J, R)) rfl ?_
  refine ev_br (b1 := false) rfl rfl (xcd_neq (x := (I 1 3)) (y := 0) (by rw [show ((0 : Int32)).toInt = 0 from by decide]; first | exact b3 | omega)) ?_
  refine ev_go 1 (pc1 := 53) (lv1 := [.ref 43, .ref 23, .int i]) (st1 := [.ref 43]) (h1 := (124, I, J, R)) rfl ?_
  refine ev_gf (c := 43) (t := 1) (X := R 43 0) rfl rfl (fun _ => rfl) rfl (hG 43 0 1 rfl rfl) ?_
  refine ev_go 1 (pc1 := 58) (lv1 := [.ref 43, .ref 23, .int i]) (st1 := [.retAddr 2, .ref 1]) (h1 := (124, I, J, R)) rfl ?_
  refine ev_call (v1 := (some (.int 0))) (h1 := (124, I, J, R)) rfl rfl c1 ?_
  refine ev_go 2 (pc1 := 72) (lv1 := [.ref 43, .ref 23, .int i]) (st1 := [.ref 43]) (h1 := (124, I, J, R)) rfl ?_
  refine ev_gf (c := 43) (t := 1) (X := R 43 0) rfl rfl (fun _ => rfl) rfl (hG 43 0 1 rfl rfl) ?_
  refine ev_go 1 (pc1 := 77) (lv1 := [.ref 43, .ref 23, .int i]) (st1 := [.retAddr 4, .ref 1]) (h1 := (124, I, J, R)) rfl ?_
  refine ev_call (v1 := (some (.int 0))) (h1 := (124, I, J, R)) rfl rfl c2 ?_
  refine ev_go 2 (pc1 := 91) (lv1 := [.ref 43, .ref 23, .int i]) (st1 := [.ref 43]) (h1 := (124, I, J, R)) rfl ?_
  refine ev_gf (c := 43) (t := 1) (X := R 43 0) rfl rfl (fun _ => rfl) rfl (hG 43 0 1 rfl rfl) ?_
  refine ev_go 1 (pc1 := 96) (lv1 := [.ref 43, .ref 23, .int i]) (st1 := [.retAddr 6, .ref 1]) (h1 := (124, I, J, R)) rfl ?_
  refine ev_call (v1 := (some (.int 0))) (h1 := (124, I, J, R)) rfl rfl c3 ?_
  refine ev_go 2 (pc1 := 110) (lv1 := [.ref 43, .ref 23, .int i]) (st1 := [.ref 43]) (h1 := (124, I, J, R)) rfl ?_
  refine ev_gf (c := 43) (t := 1) (X := R 43 0) rfl rfl (fun _ => rfl) rfl (hG 43 0 1 rfl rfl) ?_
  refine ev_go 1 (pc1 := 115) (lv1 := [.ref 43, .ref 23, .int i]) (st1 := [.retAddr 7, .ref 1]) (h1 := (124, I, J, R)) rfl ?_
  refine ev_call (v1 := (some (.int 0))) (h1 := (124, I, J, R)) rfl rfl c4 ?_
  refine ev_go 3 (pc1 := 130) (lv1 := [.ref 43, .ref 23, .int i]) (st1 := [.int 1, .ref 43]) (h1 := (124, I, J, R)) rfl ?_
  refine ev_call (v1 := none) (h1 := (124, (uI (uI I 43 2 1) 43 3 (I 1 4)), J, R)) rfl rfl c5 ?_
  refine ev_go 1 (pc1 := 134) (lv1 := [.ref 43, .ref 23, .int i]) (st1 := [.ref 43]) (h1 := (124, (uI (uI I 43 2 1) 43 3 (I 1 4)), J, R)) rfl ?_
  refine ev_call (v1 := none) (h1 := (124, I2, J2, R)) rfl rfl c6 ?_
  refine ev_go 2 (pc1 := 28) (lv1 := [.ref 43, .ref 23, .int (i + 1)]) (st1 := []) (h1 := (124, I2, J2, R)) rfl ?_
  exact hk
set_option maxRecDepth 20000 in
theorem rl_f_23 {L : Nat} {xs : Nat → Int32} {d : Nat} {I : Nat → Nat → Int32} {J : Nat → Nat → Int64} {R : Nat → Nat → Nat} {i : Int32} (hG : aGd R) (b1 : i.toInt < 900) (b2 : (I 43 2).toInt ≠ 0) (b3 : (I 43 2).toInt ≠ 0) : xEv L xs d 18 28 [.ref 43, .ref 23, .int i] [] (124, I, J, R) (some (.int (-1))) (124, I, J, R) := by
  refine ev_go 2 (pc1 := 32) (lv1 := [.ref 43, .ref 23, .int i]) (st1 := [.int 900, .int i]) (h1 := (124, I, J, R)) rfl ?_
  refine ev_br (b1 := false) rfl rfl (xcd_nge (x := i) (y := 900) (by rw [show ((900 : Int32)).toInt = 900 from by decide]; first | exact b1 | omega)) ?_
  refine ev_go 2 (pc1 := 39) (lv1 := [.ref 43, .ref 23, .int i]) (st1 := [.int (I 43 2)]) (h1 := (124, I, J, R)) rfl ?_
  refine ev_br (b1 := true) rfl rfl (xcd_ne (x := (I 43 2)) (y := 0) (by rw [show ((0 : Int32)).toInt = 0 from by decide]; first | exact b2 | omega)) ?_
  refine ev_go 2 (pc1 := 147) (lv1 := [.ref 43, .ref 23, .int i]) (st1 := [.int (I 43 2)]) (h1 := (124, I, J, R)) rfl ?_
  refine ev_br (b1 := false) rfl rfl (xcd_neq (x := (I 43 2)) (y := 0) (by rw [show ((0 : Int32)).toInt = 0 from by decide]; first | exact b3 | omega)) ?_
  refine ev_go 1 (pc1 := 151) (lv1 := [.ref 43, .ref 23, .int i]) (st1 := [.int (-1)]) (h1 := (124, I, J, R)) rfl ?_
  exact ev_ret rfl rfl
set_option maxRecDepth 20000 in
theorem rl_e_23 {L : Nat} {xs : Nat → Int32} {d : Nat} {I : Nat → Nat → Int32} {J : Nat → Nat → Int64} {R : Nat → Nat → Nat} {i : Int32} (hG : aGd R) (b1 : i.toInt < 900) (b2 : (I 43 2).toInt = 0) (b3 : (I 1 3).toInt = 0) (b4 : (I 43 2).toInt = 0) {v : Option Value} {h' : xH} (hk : xEv L xs d 18 152 [.ref 43, .ref 23, .int i] [] (124, I, J, R) v h') : xEv L xs d 18 28 [.ref 43, .ref 23, .int i] [] (124, I, J, R) v h' := by
  refine ev_go 2 (pc1 := 32) (lv1 := [.ref 43, .ref 23, .int i]) (st1 := [.int 900, .int i]) (h1 := (124, I, J, R)) rfl ?_
  refine ev_br (b1 := false) rfl rfl (xcd_nge (x := i) (y := 900) (by rw [show ((900 : Int32)).toInt = 900 from by decide]; first | exact b1 | omega)) ?_
  refine ev_go 2 (pc1 := 39) (lv1 := [.ref 43, .ref 23, .int i]) (st1 := [.int (I 43 2)]) (h1 := (124, I, J, R)) rfl ?_
  refine ev_br (b1 := false) rfl rfl (xcd_nne (x := (I 43 2)) (y := 0) (by rw [show ((0 : Int32)).toInt = 0 from by decide]; first | exact b2 | omega)) ?_
  refine ev_go 1 (pc1 := 43) (lv1 := [.ref 43, .ref 23, .int i]) (st1 := [.ref 43]) (h1 := (124, I, J, R)) rfl ?_
  refine ev_gf (c := 43) (t := 1) (X := R 43 0) rfl rfl (fun _ => rfl) rfl (hG 43 0 1 rfl rfl) ?_
  refine ev_go 1 (pc1 := 49) (lv1 := [.ref 43, .ref 23, .int i]) (st1 := [.int (I 1 3)]) (h1 := (124, I, J, R)) rfl ?_
  refine ev_br (b1 := true) rfl rfl (xcd_eq (x := (I 1 3)) (y := 0) (by rw [show ((0 : Int32)).toInt = 0 from by decide]; first | exact b3 | omega)) ?_
  refine ev_go 2 (pc1 := 147) (lv1 := [.ref 43, .ref 23, .int i]) (st1 := [.int (I 43 2)]) (h1 := (124, I, J, R)) rfl ?_
  refine ev_br (b1 := true) rfl rfl (xcd_eq (x := (I 43 2)) (y := 0) (by rw [show ((0 : Int32)).toInt = 0 from by decide]; first | exact b4 | omega)) ?_
  exact hk
set_option maxRecDepth 20000 in
theorem cc_1_23 {L : Nat} {xs : Nat → Int32} {d : Nat} {I : Nat → Nat → Int32} {J : Nat → Nat → Int64} {R : Nat → Nat → Nat} (hG : aGd R) (b1 : (I 1 3).toInt ≠ 3) (c1 : xEv L xs d 27 0 [.ref 43, .int 1] [] (124, I, J, R) none (124, (uI (uI I 43 2 1) 43 3 (I 1 4)), J, R)) : xEv L xs (d + 1) 42 0 [.ref 43] [] (124, I, J, R) none (124, (uI (uI I 43 2 1) 43 3 (I 1 4)), J, R) := by
  refine ev_go 1 (pc1 := 1) (lv1 := [.ref 43]) (st1 := [.ref 43]) (h1 := (124, I, J, R)) rfl ?_
  refine ev_gf (c := 43) (t := 1) (X := R 43 0) rfl rfl (fun _ => rfl) rfl (hG 43 0 1 rfl rfl) ?_
  refine ev_go 2 (pc1 := 8) (lv1 := [.ref 43]) (st1 := [.int 3, .int (I 1 3)]) (h1 := (124, I, J, R)) rfl ?_
  refine ev_br (b1 := false) rfl rfl (xcd_neq (x := (I 1 3)) (y := 3) (by rw [show ((3 : Int32)).toInt = 3 from by decide]; first | exact b1 | omega)) ?_
  refine ev_go 2 (pc1 := 13) (lv1 := [.ref 43]) (st1 := [.int 1, .ref 43]) (h1 := (124, I, J, R)) rfl ?_
  refine ev_call (v1 := none) (h1 := (124, (uI (uI I 43 2 1) 43 3 (I 1 4)), J, R)) rfl rfl c1 ?_
  refine ev_go 3 (pc1 := 43) (lv1 := [.ref 43]) (st1 := []) (h1 := (124, (uI (uI I 43 2 1) 43 3 (I 1 4)), J, R)) rfl ?_
  exact ev_ret rfl rfl
set_option maxRecDepth 20000 in
theorem cc_d1_23 {L : Nat} {xs : Nat → Int32} {d : Nat} {I : Nat → Nat → Int32} {J : Nat → Nat → Int64} {R : Nat → Nat → Nat} (hG : aGd R) (b1 : (I 1 3).toInt ≠ 3) (c1 : xEv L xs d 27 0 [.ref 43, .int 1] [] (124, I, J, R) none (124, I, J, R)) (b2 : (I 43 2).toInt ≠ 0) : xEv L xs (d + 1) 42 0 [.ref 43] [] (124, I, J, R) none (124, I, J, R) := by
  refine ev_go 1 (pc1 := 1) (lv1 := [.ref 43]) (st1 := [.ref 43]) (h1 := (124, I, J, R)) rfl ?_
  refine ev_gf (c := 43) (t := 1) (X := R 43 0) rfl rfl (fun _ => rfl) rfl (hG 43 0 1 rfl rfl) ?_
  refine ev_go 2 (pc1 := 8) (lv1 := [.ref 43]) (st1 := [.int 3, .int (I 1 3)]) (h1 := (124, I, J, R)) rfl ?_
  refine ev_br (b1 := false) rfl rfl (xcd_neq (x := (I 1 3)) (y := 3) (by rw [show ((3 : Int32)).toInt = 3 from by decide]; first | exact b1 | omega)) ?_
  refine ev_go 2 (pc1 := 13) (lv1 := [.ref 43]) (st1 := [.int 1, .ref 43]) (h1 := (124, I, J, R)) rfl ?_
  refine ev_call (v1 := none) (h1 := (124, I, J, R)) rfl rfl c1 ?_
  refine ev_go 2 (pc1 := 20) (lv1 := [.ref 43]) (st1 := [.int (I 43 2)]) (h1 := (124, I, J, R)) rfl ?_
  refine ev_br (b1 := true) rfl rfl (xcd_ne (x := (I 43 2)) (y := 0) (by rw [show ((0 : Int32)).toInt = 0 from by decide]; first | exact b2 | omega)) ?_
  exact ev_ret rfl rfl
set_option maxRecDepth 20000 in
theorem cc_d2_23 {L : Nat} {xs : Nat → Int32} {d : Nat} {I : Nat → Nat → Int32} {J : Nat → Nat → Int64} {R : Nat → Nat → Nat} (hG : aGd R) (b1 : (I 1 3).toInt = 3) (b2 : (I 43 2).toInt ≠ 0) : xEv L xs d 42 0 [.ref 43] [] (124, I, J, R) none (124, I, J, R) := by
  refine ev_go 1 (pc1 := 1) (lv1 := [.ref 43]) (st1 := [.ref 43]) (h1 := (124, I, J, R)) rfl ?_
  refine ev_gf (c := 43) (t := 1) (X := R 43 0) rfl rfl (fun _ => rfl) rfl (hG 43 0 1 rfl rfl) ?_
  refine ev_go 2 (pc1 := 8) (lv1 := [.ref 43]) (st1 := [.int 3, .int (I 1 3)]) (h1 := (124, I, J, R)) rfl ?_
  refine ev_br (b1 := true) rfl rfl (xcd_eq (x := (I 1 3)) (y := 3) (by rw [show ((3 : Int32)).toInt = 3 from by decide]; first | exact b1 | omega)) ?_
  refine ev_go 2 (pc1 := 20) (lv1 := [.ref 43]) (st1 := [.int (I 43 2)]) (h1 := (124, I, J, R)) rfl ?_
  refine ev_br (b1 := true) rfl rfl (xcd_ne (x := (I 43 2)) (y := 0) (by rw [show ((0 : Int32)).toInt = 0 from by decide]; first | exact b2 | omega)) ?_
  exact ev_ret rfl rfl
set_option maxRecDepth 20000 in
theorem cc_2_23 {L : Nat} {xs : Nat → Int32} {d : Nat} {I : Nat → Nat → Int32} {J : Nat → Nat → Int64} {R : Nat → Nat → Nat} {I1 : Nat → Nat → Int32} {J1 : Nat → Nat → Int64} (hG : aGd R) (b1 : (I 1 3).toInt = 3) (b2 : (I 43 2).toInt = 0) (r_R_43_1 : R 43 1 = 24) (c1 : xEv L xs d 21 0 [.ref 1] [] (124, (uI I 23 17 ((I 23 17) + 1)), J, R) none (124, I1, J1, R)) : xEv L xs (d + 1) 42 0 [.ref 43] [] (124, I, J, R) none (124, I1, J1, R) := by
  refine ev_go 1 (pc1 := 1) (lv1 := [.ref 43]) (st1 := [.ref 43]) (h1 := (124, I, J, R)) rfl ?_
  refine ev_gf (c := 43) (t := 1) (X := R 43 0) rfl rfl (fun _ => rfl) rfl (hG 43 0 1 rfl rfl) ?_
  refine ev_go 2 (pc1 := 8) (lv1 := [.ref 43]) (st1 := [.int 3, .int (I 1 3)]) (h1 := (124, I, J, R)) rfl ?_
  refine ev_br (b1 := true) rfl rfl (xcd_eq (x := (I 1 3)) (y := 3) (by rw [show ((3 : Int32)).toInt = 3 from by decide]; first | exact b1 | omega)) ?_
  refine ev_go 2 (pc1 := 20) (lv1 := [.ref 43]) (st1 := [.int (I 43 2)]) (h1 := (124, I, J, R)) rfl ?_
  refine ev_br (b1 := false) rfl rfl (xcd_nne (x := (I 43 2)) (y := 0) (by rw [show ((0 : Int32)).toInt = 0 from by decide]; first | exact b2 | omega)) ?_
  refine ev_go 1 (pc1 := 24) (lv1 := [.ref 43]) (st1 := [.ref 43]) (h1 := (124, I, J, R)) rfl ?_
  refine ev_gf (c := 43) (t := 23) (X := R 43 1) rfl rfl (fun _ => rfl) rfl r_R_43_1 ?_
  refine ev_go 6 (pc1 := 37) (lv1 := [.ref 43]) (st1 := [.ref 43]) (h1 := (124, (uI I 23 17 ((I 23 17) + 1)), J, R)) rfl ?_
  refine ev_gf (c := 43) (t := 1) (X := R 43 0) rfl rfl (fun _ => rfl) rfl (hG 43 0 1 rfl rfl) ?_
  refine ev_call (v1 := none) (h1 := (124, I1, J1, R)) rfl rfl c1 ?_
  exact ev_ret rfl rfl
set_option maxRecDepth 20000 in
theorem rc_0 {L : Nat} {xs : Nat → Int32} {d : Nat} {I : Nat → Nat → Int32} {J : Nat → Nat → Int64} {R : Nat → Nat → Nat} {I1 : Nat → Nat → Int32} {J1 : Nat → Nat → Int64} {w : Int32} (hG : aGd R) (b1 : (I 86 3).toInt = 1) (b2 : (I 86 4).toInt = 0) (c1 : xEv L xs d 156 0 [.ref 86, xmk] [] (124, I, J, R) (some (.int w)) (124, I1, J1, R)) (z0 : w = 0 ∨ w = 1) : xEv L xs (d + 1) 155 0 [.ref 86, xmk] [] (124, I, J, R) (some (.int w)) (124, I1, J1, R) := by
  refine ev_go 3 (pc1 := 5) (lv1 := [.ref 86, xmk]) (st1 := [.int 1, .int (I 86 3)]) (h1 := (124, I, J, R)) rfl ?_
  refine ev_br (b1 := false) rfl rfl (xcd_nne (x := (I 86 3)) (y := 1) (by rw [show ((1 : Int32)).toInt = 1 from by decide]; first | exact b1 | omega)) ?_
  refine ev_go 5 (pc1 := 18) (lv1 := [.ref 86, .int (I 86 4)]) (st1 := [.int (I 86 4)]) (h1 := (124, I, J, R)) rfl ?_
  refine ev_br (b1 := false) rfl rfl (xcd_nne (x := (I 86 4)) (y := 0) (by rw [show ((0 : Int32)).toInt = 0 from by decide]; first | exact b2 | omega)) ?_
  refine ev_go 1 (pc1 := 22) (lv1 := [.ref 86, .int (I 86 4)]) (st1 := [.ref 86]) (h1 := (124, I, J, R)) rfl ?_
  refine ev_call (v1 := (some (.int w))) (h1 := (124, I1, J1, R)) rfl rfl c1 ?_
  refine ev_go 1 (pc1 := 69) (lv1 := [.ref 86, .int (I 86 4)]) (st1 := [.int w]) (h1 := (124, I1, J1, R)) rfl ?_
  exact ev_retz rfl rfl z0
set_option maxRecDepth 20000 in
theorem rc_1 {L : Nat} {xs : Nat → Int32} {d : Nat} {I : Nat → Nat → Int32} {J : Nat → Nat → Int64} {R : Nat → Nat → Nat} {I1 : Nat → Nat → Int32} {J1 : Nat → Nat → Int64} {w : Int32} (hG : aGd R) (b1 : (I 86 3).toInt = 1) (b2 : (I 86 4).toInt ≠ 0) (b3 : (I 86 4).toInt = 1) (c1 : xEv L xs d 162 0 [.ref 86, xmk, xmk, xmk] [] (124, I, J, R) (some (.int w)) (124, I1, J1, R)) (z0 : w = 0 ∨ w = 1) : xEv L xs (d + 1) 155 0 [.ref 86, xmk] [] (124, I, J, R) (some (.int w)) (124, I1, J1, R) := by
  refine ev_go 3 (pc1 := 5) (lv1 := [.ref 86, xmk]) (st1 := [.int 1, .int (I 86 3)]) (h1 := (124, I, J, R)) rfl ?_
  refine ev_br (b1 := false) rfl rfl (xcd_nne (x := (I 86 3)) (y := 1) (by rw [show ((1 : Int32)).toInt = 1 from by decide]; first | exact b1 | omega)) ?_
  refine ev_go 5 (pc1 := 18) (lv1 := [.ref 86, .int (I 86 4)]) (st1 := [.int (I 86 4)]) (h1 := (124, I, J, R)) rfl ?_
  refine ev_br (b1 := true) rfl rfl (xcd_ne (x := (I 86 4)) (y := 0) (by rw [show ((0 : Int32)).toInt = 0 from by decide]; first | exact b2 | omega)) ?_
  refine ev_go 2 (pc1 := 30) (lv1 := [.ref 86, .int (I 86 4)]) (st1 := [.int 1, .int (I 86 4)]) (h1 := (124, I, J, R)) rfl ?_
  refine ev_br (b1 := false) rfl rfl (xcd_nne (x := (I 86 4)) (y := 1) (by rw [show ((1 : Int32)).toInt = 1 from by decide]; first | exact b3 | omega)) ?_
  refine ev_go 1 (pc1 := 34) (lv1 := [.ref 86, .int (I 86 4)]) (st1 := [.ref 86]) (h1 := (124, I, J, R)) rfl ?_
  refine ev_call (v1 := (some (.int w))) (h1 := (124, I1, J1, R)) rfl rfl c1 ?_
  refine ev_go 1 (pc1 := 69) (lv1 := [.ref 86, .int (I 86 4)]) (st1 := [.int w]) (h1 := (124, I1, J1, R)) rfl ?_
  exact ev_retz rfl rfl z0
set_option maxRecDepth 20000 in
theorem rc_2 {L : Nat} {xs : Nat → Int32} {d : Nat} {I : Nat → Nat → Int32} {J : Nat → Nat → Int64} {R : Nat → Nat → Nat} {I1 : Nat → Nat → Int32} {J1 : Nat → Nat → Int64} {w : Int32} (hG : aGd R) (b1 : (I 86 3).toInt = 1) (b2 : (I 86 4).toInt ≠ 0) (b3 : (I 86 4).toInt ≠ 1) (b4 : (I 86 4).toInt = 2) (c1 : xEv L xs d 163 0 [.ref 86, xmk, xmk, xmk] [] (124, I, J, R) (some (.int w)) (124, I1, J1, R)) (z0 : w = 0 ∨ w = 1) : xEv L xs (d + 1) 155 0 [.ref 86, xmk] [] (124, I, J, R) (some (.int w)) (124, I1, J1, R) := by
  refine ev_go 3 (pc1 := 5) (lv1 := [.ref 86, xmk]) (st1 := [.int 1, .int (I 86 3)]) (h1 := (124, I, J, R)) rfl ?_
  refine ev_br (b1 := false) rfl rfl (xcd_nne (x := (I 86 3)) (y := 1) (by rw [show ((1 : Int32)).toInt = 1 from by decide]; first | exact b1 | omega)) ?_
  refine ev_go 5 (pc1 := 18) (lv1 := [.ref 86, .int (I 86 4)]) (st1 := [.int (I 86 4)]) (h1 := (124, I, J, R)) rfl ?_
  refine ev_br (b1 := true) rfl rfl (xcd_ne (x := (I 86 4)) (y := 0) (by rw [show ((0 : Int32)).toInt = 0 from by decide]; first | exact b2 | omega)) ?_
  refine ev_go 2 (pc1 := 30) (lv1 := [.ref 86, .int (I 86 4)]) (st1 := [.int 1, .int (I 86 4)]) (h1 := (124, I, J, R)) rfl ?_
  refine ev_br (b1 := true) rfl rfl (xcd_ne (x := (I 86 4)) (y := 1) (by rw [show ((1 : Int32)).toInt = 1 from by decide]; first | exact b3 | omega)) ?_
  refine ev_go 2 (pc1 := 42) (lv1 := [.ref 86, .int (I 86 4)]) (st1 := [.int 2, .int (I 86 4)]) (h1 := (124, I, J, R)) rfl ?_
  refine ev_br (b1 := false) rfl rfl (xcd_nne (x := (I 86 4)) (y := 2) (by rw [show ((2 : Int32)).toInt = 2 from by decide]; first | exact b4 | omega)) ?_
  refine ev_go 1 (pc1 := 46) (lv1 := [.ref 86, .int (I 86 4)]) (st1 := [.ref 86]) (h1 := (124, I, J, R)) rfl ?_
  refine ev_call (v1 := (some (.int w))) (h1 := (124, I1, J1, R)) rfl rfl c1 ?_
  refine ev_go 1 (pc1 := 69) (lv1 := [.ref 86, .int (I 86 4)]) (st1 := [.int w]) (h1 := (124, I1, J1, R)) rfl ?_
  exact ev_retz rfl rfl z0
set_option maxRecDepth 20000 in
theorem rc_3 {L : Nat} {xs : Nat → Int32} {d : Nat} {I : Nat → Nat → Int32} {J : Nat → Nat → Int64} {R : Nat → Nat → Nat} {I1 : Nat → Nat → Int32} {J1 : Nat → Nat → Int64} {w : Int32} (hG : aGd R) (b1 : (I 86 3).toInt = 1) (b2 : (I 86 4).toInt ≠ 0) (b3 : (I 86 4).toInt ≠ 1) (b4 : (I 86 4).toInt ≠ 2) (b5 : (I 86 4).toInt = 3) (c1 : xEv L xs d 165 0 [.ref 86, xmk] [] (124, I, J, R) (some (.int w)) (124, I1, J1, R)) (z0 : w = 0 ∨ w = 1) : xEv L xs (d + 1) 155 0 [.ref 86, xmk] [] (124, I, J, R) (some (.int w)) (124, I1, J1, R) := by
  refine ev_go 3 (pc1 := 5) (lv1 := [.ref 86, xmk]) (st1 := [.int 1, .int (I 86 3)]) (h1 := (124, I, J, R)) rfl ?_
  refine ev_br (b1 := false) rfl rfl (xcd_nne (x := (I 86 3)) (y := 1) (by rw [show ((1 : Int32)).toInt = 1 from by decide]; first | exact b1 | omega)) ?_
  refine ev_go 5 (pc1 := 18) (lv1 := [.ref 86, .int (I 86 4)]) (st1 := [.int (I 86 4)]) (h1 := (124, I, J, R)) rfl ?_
  refine ev_br (b1 := true) rfl rfl (xcd_ne (x := (I 86 4)) (y := 0) (by rw [show ((0 : Int32)).toInt = 0 from by decide]; first | exact b2 | omega)) ?_
  refine ev_go 2 (pc1 := 30) (lv1 := [.ref 86, .int (I 86 4)]) (st1 := [.int 1, .int (I 86 4)]) (h1 := (124, I, J, R)) rfl ?_
  refine ev_br (b1 := true) rfl rfl (xcd_ne (x := (I 86 4)) (y := 1) (by rw [show ((1 : Int32)).toInt = 1 from by decide]; first | exact b3 | omega)) ?_
  refine ev_go 2 (pc1 := 42) (lv1 := [.ref 86, .int (I 86 4)]) (st1 := [.int 2, .int (I 86 4)]) (h1 := (124, I, J, R)) rfl ?_
  refine ev_br (b1 := true) rfl rfl (xcd_ne (x := (I 86 4)) (y := 2) (by rw [show ((2 : Int32)).toInt = 2 from by decide]; first | exact b4 | omega)) ?_
  refine ev_go 2 (pc1 := 54) (lv1 := [.ref 86, .int (I 86 4)]) (st1 := [.int 3, .int (I 86 4)]) (h1 := (124, I, J, R)) rfl ?_
  refine ev_br (b1 := false) rfl rfl (xcd_nne (x := (I 86 4)) (y := 3) (by rw [show ((3 : Int32)).toInt = 3 from by decide]; first | exact b5 | omega)) ?_
  refine ev_go 1 (pc1 := 58) (lv1 := [.ref 86, .int (I 86 4)]) (st1 := [.ref 86]) (h1 := (124, I, J, R)) rfl ?_
  refine ev_call (v1 := (some (.int w))) (h1 := (124, I1, J1, R)) rfl rfl c1 ?_
  refine ev_go 1 (pc1 := 69) (lv1 := [.ref 86, .int (I 86 4)]) (st1 := [.int w]) (h1 := (124, I1, J1, R)) rfl ?_
  exact ev_retz rfl rfl z0
set_option maxRecDepth 20000 in
theorem rc_4 {L : Nat} {xs : Nat → Int32} {d : Nat} {I : Nat → Nat → Int32} {J : Nat → Nat → Int64} {R : Nat → Nat → Nat} (hG : aGd R) (b1 : (I 86 3).toInt = 1) (b2 : (I 86 4).toInt ≠ 0) (b3 : (I 86 4).toInt ≠ 1) (b4 : (I 86 4).toInt ≠ 2) (b5 : (I 86 4).toInt ≠ 3) (c1 : xEv L xs d 157 0 [.ref 86, .int 1] [] (124, I, J, R) (some (.int 0)) (124, (uI (uI I 86 8 1) 86 9 (I 86 5)), J, R)) : xEv L xs (d + 1) 155 0 [.ref 86, xmk] [] (124, I, J, R) (some (.int 0)) (124, (uI (uI I 86 8 1) 86 9 (I 86 5)), J, R) := by
  refine ev_go 3 (pc1 := 5) (lv1 := [.ref 86, xmk]) (st1 := [.int 1, .int (I 86 3)]) (h1 := (124, I, J, R)) rfl ?_
  refine ev_br (b1 := false) rfl rfl (xcd_nne (x := (I 86 3)) (y := 1) (by rw [show ((1 : Int32)).toInt = 1 from by decide]; first | exact b1 | omega)) ?_
  refine ev_go 5 (pc1 := 18) (lv1 := [.ref 86, .int (I 86 4)]) (st1 := [.int (I 86 4)]) (h1 := (124, I, J, R)) rfl ?_
  refine ev_br (b1 := true) rfl rfl (xcd_ne (x := (I 86 4)) (y := 0) (by rw [show ((0 : Int32)).toInt = 0 from by decide]; first | exact b2 | omega)) ?_
  refine ev_go 2 (pc1 := 30) (lv1 := [.ref 86, .int (I 86 4)]) (st1 := [.int 1, .int (I 86 4)]) (h1 := (124, I, J, R)) rfl ?_
  refine ev_br (b1 := true) rfl rfl (xcd_ne (x := (I 86 4)) (y := 1) (by rw [show ((1 : Int32)).toInt = 1 from by decide]; first | exact b3 | omega)) ?_
  refine ev_go 2 (pc1 := 42) (lv1 := [.ref 86, .int (I 86 4)]) (st1 := [.int 2, .int (I 86 4)]) (h1 := (124, I, J, R)) rfl ?_
  refine ev_br (b1 := true) rfl rfl (xcd_ne (x := (I 86 4)) (y := 2) (by rw [show ((2 : Int32)).toInt = 2 from by decide]; first | exact b4 | omega)) ?_
  refine ev_go 2 (pc1 := 54) (lv1 := [.ref 86, .int (I 86 4)]) (st1 := [.int 3, .int (I 86 4)]) (h1 := (124, I, J, R)) rfl ?_
  refine ev_br (b1 := true) rfl rfl (xcd_ne (x := (I 86 4)) (y := 3) (by rw [show ((3 : Int32)).toInt = 3 from by decide]; first | exact b5 | omega)) ?_
  refine ev_go 2 (pc1 := 66) (lv1 := [.ref 86, .int (I 86 4)]) (st1 := [.int 1, .ref 86]) (h1 := (124, I, J, R)) rfl ?_
  refine ev_call (v1 := (some (.int 0))) (h1 := (124, (uI (uI I 86 8 1) 86 9 (I 86 5)), J, R)) rfl rfl c1 ?_
  exact ev_ret rfl rfl
set_option maxRecDepth 20000 in
theorem rc_5 {L : Nat} {xs : Nat → Int32} {d : Nat} {I : Nat → Nat → Int32} {J : Nat → Nat → Int64} {R : Nat → Nat → Nat} (hG : aGd R) (b1 : (I 86 3).toInt ≠ 1) (c1 : xEv L xs d 157 0 [.ref 86, .int 1] [] (124, I, J, R) (some (.int 0)) (124, (uI (uI I 86 8 1) 86 9 (I 86 5)), J, R)) : xEv L xs (d + 1) 155 0 [.ref 86, xmk] [] (124, I, J, R) (some (.int 0)) (124, (uI (uI I 86 8 1) 86 9 (I 86 5)), J, R) := by
  refine ev_go 3 (pc1 := 5) (lv1 := [.ref 86, xmk]) (st1 := [.int 1, .int (I 86 3)]) (h1 := (124, I, J, R)) rfl ?_
  refine ev_br (b1 := true) rfl rfl (xcd_ne (x := (I 86 3)) (y := 1) (by rw [show ((1 : Int32)).toInt = 1 from by decide]; first | exact b1 | omega)) ?_
  refine ev_go 15 (pc1 := 66) (lv1 := [.ref 86, .int (-1)]) (st1 := [.int 1, .ref 86]) (h1 := (124, I, J, R)) rfl ?_
  refine ev_call (v1 := (some (.int 0))) (h1 := (124, (uI (uI I 86 8 1) 86 9 (I 86 5)), J, R)) rfl rfl c1 ?_
  exact ev_ret rfl rfl
set_option maxRecDepth 20000 in
theorem vl_e {L : Nat} {xs : Nat → Int32} {d : Nat} {I : Nat → Nat → Int32} {J : Nat → Nat → Int64} {R : Nat → Nat → Nat} {m : Int32} (hG : aGd R) (b1 : (I 86 3).toInt = 4) {v : Option Value} {h' : xH} (hk : xEv L xs d 148 63 [.ref 86, .int m] [] (124, I, J, R) v h') : xEv L xs d 148 20 [.ref 86, .int m] [] (124, I, J, R) v h' := by
  refine ev_go 3 (pc1 := 25) (lv1 := [.ref 86, .int m]) (st1 := [.int 4, .int (I 86 3)]) (h1 := (124, I, J, R)) rfl ?_
  refine ev_br (b1 := true) rfl rfl (xcd_eq (x := (I 86 3)) (y := 4) (by rw [show ((4 : Int32)).toInt = 4 from by decide]; first | exact b1 | omega)) ?_
  exact hk
set_option maxRecDepth 20000 in
theorem vl_0 {L : Nat} {xs : Nat → Int32} {d : Nat} {I : Nat → Nat → Int32} {J : Nat → Nat → Int64} {R : Nat → Nat → Nat} {I1 : Nat → Nat → Int32} {J1 : Nat → Nat → Int64} {m : Int32} (hG : aGd R) (b1 : (I 86 3).toInt ≠ 4) (c1 : xEv L xs d 155 0 [.ref 86, xmk] [] (124, I, J, R) (some (.int 0)) (124, I1, J1, R)) : xEv L xs (d + 1) 148 20 [.ref 86, .int m] [] (124, I, J, R) (some (.int (-1))) (124, I1, J1, R) := by
  refine ev_go 3 (pc1 := 25) (lv1 := [.ref 86, .int m]) (st1 := [.int 4, .int (I 86 3)]) (h1 := (124, I, J, R)) rfl ?_
  refine ev_br (b1 := false) rfl rfl (xcd_neq (x := (I 86 3)) (y := 4) (by rw [show ((4 : Int32)).toInt = 4 from by decide]; first | exact b1 | omega)) ?_
  refine ev_go 1 (pc1 := 29) (lv1 := [.ref 86, .int m]) (st1 := [.ref 86]) (h1 := (124, I, J, R)) rfl ?_
  refine ev_call (v1 := (some (.int 0))) (h1 := (124, I1, J1, R)) rfl rfl c1 ?_
  refine ev_go 2 (pc1 := 36) (lv1 := [.ref 86, .int m]) (st1 := [.int (-1)]) (h1 := (124, I1, J1, R)) rfl ?_
  exact ev_ret rfl rfl
set_option maxRecDepth 20000 in
theorem vl_1 {L : Nat} {xs : Nat → Int32} {d : Nat} {I : Nat → Nat → Int32} {J : Nat → Nat → Int64} {R : Nat → Nat → Nat} {I1 : Nat → Nat → Int32} {J1 : Nat → Nat → Int64} {m : Int32} (hG : aGd R) (b1 : (I 86 3).toInt ≠ 4) (c1 : xEv L xs d 155 0 [.ref 86, xmk] [] (124, I, J, R) (some (.int 1)) (124, I1, J1, R)) (b2 : (I1 86 3).toInt ≠ 3) (c2 : xEv L xs d 157 0 [.ref 86, .int 1] [] (124, I1, J1, R) (some (.int 0)) (124, (uI (uI I1 86 8 1) 86 9 (I1 86 5)), J1, R)) : xEv L xs (d + 1) 148 20 [.ref 86, .int m] [] (124, I, J, R) (some (.int (-1))) (124, (uI (uI I1 86 8 1) 86 9 (I1 86 5)), J1, R) := by
  refine ev_go 3 (pc1 := 25) (lv1 := [.ref 86, .int m]) (st1 := [.int 4, .int (I 86 3)]) (h1 := (124, I, J, R)) rfl ?_
  refine ev_br (b1 := false) rfl rfl (xcd_neq (x := (I 86 3)) (y := 4) (by rw [show ((4 : Int32)).toInt = 4 from by decide]; first | exact b1 | omega)) ?_
  refine ev_go 1 (pc1 := 29) (lv1 := [.ref 86, .int m]) (st1 := [.ref 86]) (h1 := (124, I, J, R)) rfl ?_
  refine ev_call (v1 := (some (.int 1))) (h1 := (124, I1, J1, R)) rfl rfl c1 ?_
  refine ev_go 4 (pc1 := 42) (lv1 := [.ref 86, .int m]) (st1 := [.int 3, .int (I1 86 3)]) (h1 := (124, I1, J1, R)) rfl ?_
  refine ev_br (b1 := false) rfl rfl (xcd_neq (x := (I1 86 3)) (y := 3) (by rw [show ((3 : Int32)).toInt = 3 from by decide]; first | exact b2 | omega)) ?_
  refine ev_go 2 (pc1 := 47) (lv1 := [.ref 86, .int m]) (st1 := [.int 1, .ref 86]) (h1 := (124, I1, J1, R)) rfl ?_
  refine ev_call (v1 := (some (.int 0))) (h1 := (124, (uI (uI I1 86 8 1) 86 9 (I1 86 5)), J1, R)) rfl rfl c2 ?_
  refine ev_go 2 (pc1 := 52) (lv1 := [.ref 86, .int m]) (st1 := [.int (-1)]) (h1 := (124, (uI (uI I1 86 8 1) 86 9 (I1 86 5)), J1, R)) rfl ?_
  exact ev_ret rfl rfl
set_option maxRecDepth 20000 in
theorem vl_2 {L : Nat} {xs : Nat → Int32} {d : Nat} {I : Nat → Nat → Int32} {J : Nat → Nat → Int64} {R : Nat → Nat → Nat} {I1 : Nat → Nat → Int32} {J1 : Nat → Nat → Int64} {I2 : Nat → Nat → Int32} {J2 : Nat → Nat → Int64} {m : Int32} (hG : aGd R) (b1 : (I 86 3).toInt ≠ 4) (c1 : xEv L xs d 155 0 [.ref 86, xmk] [] (124, I, J, R) (some (.int 1)) (124, I1, J1, R)) (b2 : (I1 86 3).toInt = 3) (c2 : xEv L xs d 150 0 [.ref 86, xmk, xmk, xmk] [] (124, I1, J1, R) none (124, I2, J2, R)) {v : Option Value} {h' : xH} (hk : xEv L xs (d + 1) 148 20 [.ref 86, .int (m + 1)] [] (124, I2, J2, R) v h') : xEv L xs (d + 1) 148 20 [.ref 86, .int m] [] (124, I, J, R) v h' := by
  refine ev_go 3 (pc1 := 25) (lv1 := [.ref 86, .int m]) (st1 := [.int 4, .int (I 86 3)]) (h1 := (124, I, J, R)) rfl ?_
  refine ev_br (b1 := false) rfl rfl (xcd_neq (x := (I 86 3)) (y := 4) (by rw [show ((4 : Int32)).toInt = 4 from by decide]; first | exact b1 | omega)) ?_
  refine ev_go 1 (pc1 := 29) (lv1 := [.ref 86, .int m]) (st1 := [.ref 86]) (h1 := (124, I, J, R)) rfl ?_
  refine ev_call (v1 := (some (.int 1))) (h1 := (124, I1, J1, R)) rfl rfl c1 ?_
  refine ev_go 4 (pc1 := 42) (lv1 := [.ref 86, .int m]) (st1 := [.int 3, .int (I1 86 3)]) (h1 := (124, I1, J1, R)) rfl ?_
  refine ev_br (b1 := true) rfl rfl (xcd_eq (x := (I1 86 3)) (y := 3) (by rw [show ((3 : Int32)).toInt = 3 from by decide]; first | exact b2 | omega)) ?_
  refine ev_go 1 (pc1 := 54) (lv1 := [.ref 86, .int m]) (st1 := [.ref 86]) (h1 := (124, I1, J1, R)) rfl ?_
  refine ev_call (v1 := none) (h1 := (124, I2, J2, R)) rfl rfl c2 ?_
  refine ev_go 2 (pc1 := 20) (lv1 := [.ref 86, .int (m + 1)]) (st1 := []) (h1 := (124, I2, J2, R)) rfl ?_
  exact hk
theorem iwk_0 {L : Nat} {xs : Nat → Int32} {d : Nat} {I : Nat → Nat → Int32} {J : Nat → Nat → Int64} {R : Nat → Nat → Nat} {b : Nat → Int32} {n p st k e : Nat} (hG : aGd R) (h4 : 4 ≤ d + 1) (tk : isTok b p st k e) (ct : cTok b n I J st k e) : ((cKd k (e - st) = 1 ∧ isKw b st (e - st) 0) ∧ xEv L xs (d + 1) 25 0 [.ref 1, .retAddr 2, xmk, xmk, xmk] [] (124, I, J, R) (some (.int 1)) (124, I, J, R)) ∨ (¬ (cKd k (e - st) = 1 ∧ isKw b st (e - st) 0) ∧ xEv L xs (d + 1) 25 0 [.ref 1, .retAddr 2, xmk, xmk, xmk] [] (124, I, J, R) (some (.int 0)) (124, I, J, R)) := by
  obtain ⟨a1, a2, a3, a4, a5, a6, a7, a8⟩ := ct
  have iff : ((I 1 3).toInt = 1 ∧ J 1 5 = vF (kb 0) 0 (kwl 0)) ↔ (cKd k (e - st) = 1 ∧ isKw b st (e - st) 0) := by
    constructor
    · rintro ⟨g1, g2⟩
      have g3 : cKd k (e - st) = 1 := by omega
      obtain ⟨g4, g5⟩ := ck_1.mp g3
      subst g4
      rw [a5 (Or.inl rfl)] at g2
      exact ⟨g3, (kw_iff (by decide) g5 (tok_w tk).2).mp g2⟩
    · rintro ⟨g1, g2⟩
      obtain ⟨g4, g5⟩ := ck_1.mp g1
      subst g4
      exact ⟨by omega, by rw [a5 (Or.inl rfl)]; exact (kw_iff (by decide) g5 (tok_w tk).2).mpr g2⟩
  rcases iw_run_0 (L := L) (xs := xs) (d := d) (I := I) (J := J) hG h4 with ⟨g1, g2, c2⟩ | ⟨g1, c2⟩
  · exact Or.inl ⟨iff.mp ⟨g1, g2⟩, c2⟩
  · exact Or.inr ⟨fun z => g1 (iff.mpr z), c2⟩
theorem iwk_1 {L : Nat} {xs : Nat → Int32} {d : Nat} {I : Nat → Nat → Int32} {J : Nat → Nat → Int64} {R : Nat → Nat → Nat} {b : Nat → Int32} {n p st k e : Nat} (hG : aGd R) (h4 : 4 ≤ d + 1) (tk : isTok b p st k e) (ct : cTok b n I J st k e) : ((cKd k (e - st) = 1 ∧ isKw b st (e - st) 1) ∧ xEv L xs (d + 1) 25 0 [.ref 1, .retAddr 4, xmk, xmk, xmk] [] (124, I, J, R) (some (.int 1)) (124, I, J, R)) ∨ (¬ (cKd k (e - st) = 1 ∧ isKw b st (e - st) 1) ∧ xEv L xs (d + 1) 25 0 [.ref 1, .retAddr 4, xmk, xmk, xmk] [] (124, I, J, R) (some (.int 0)) (124, I, J, R)) := by
  obtain ⟨a1, a2, a3, a4, a5, a6, a7, a8⟩ := ct
  have iff : ((I 1 3).toInt = 1 ∧ J 1 5 = vF (kb 1) 0 (kwl 1)) ↔ (cKd k (e - st) = 1 ∧ isKw b st (e - st) 1) := by
    constructor
    · rintro ⟨g1, g2⟩
      have g3 : cKd k (e - st) = 1 := by omega
      obtain ⟨g4, g5⟩ := ck_1.mp g3
      subst g4
      rw [a5 (Or.inl rfl)] at g2
      exact ⟨g3, (kw_iff (by decide) g5 (tok_w tk).2).mp g2⟩
    · rintro ⟨g1, g2⟩
      obtain ⟨g4, g5⟩ := ck_1.mp g1
      subst g4
      exact ⟨by omega, by rw [a5 (Or.inl rfl)]; exact (kw_iff (by decide) g5 (tok_w tk).2).mpr g2⟩
  rcases iw_run_1 (L := L) (xs := xs) (d := d) (I := I) (J := J) hG h4 with ⟨g1, g2, c2⟩ | ⟨g1, c2⟩
  · exact Or.inl ⟨iff.mp ⟨g1, g2⟩, c2⟩
  · exact Or.inr ⟨fun z => g1 (iff.mpr z), c2⟩
theorem iwk_2 {L : Nat} {xs : Nat → Int32} {d : Nat} {I : Nat → Nat → Int32} {J : Nat → Nat → Int64} {R : Nat → Nat → Nat} {b : Nat → Int32} {n p st k e : Nat} (hG : aGd R) (h4 : 4 ≤ d + 1) (tk : isTok b p st k e) (ct : cTok b n I J st k e) : ((cKd k (e - st) = 1 ∧ isKw b st (e - st) 2) ∧ xEv L xs (d + 1) 25 0 [.ref 1, .retAddr 6, xmk, xmk, xmk] [] (124, I, J, R) (some (.int 1)) (124, I, J, R)) ∨ (¬ (cKd k (e - st) = 1 ∧ isKw b st (e - st) 2) ∧ xEv L xs (d + 1) 25 0 [.ref 1, .retAddr 6, xmk, xmk, xmk] [] (124, I, J, R) (some (.int 0)) (124, I, J, R)) := by
  obtain ⟨a1, a2, a3, a4, a5, a6, a7, a8⟩ := ct
  have iff : ((I 1 3).toInt = 1 ∧ J 1 5 = vF (kb 2) 0 (kwl 2)) ↔ (cKd k (e - st) = 1 ∧ isKw b st (e - st) 2) := by
    constructor
    · rintro ⟨g1, g2⟩
      have g3 : cKd k (e - st) = 1 := by omega
      obtain ⟨g4, g5⟩ := ck_1.mp g3
      subst g4
      rw [a5 (Or.inl rfl)] at g2
      exact ⟨g3, (kw_iff (by decide) g5 (tok_w tk).2).mp g2⟩
    · rintro ⟨g1, g2⟩
      obtain ⟨g4, g5⟩ := ck_1.mp g1
      subst g4
      exact ⟨by omega, by rw [a5 (Or.inl rfl)]; exact (kw_iff (by decide) g5 (tok_w tk).2).mpr g2⟩
  rcases iw_run_2 (L := L) (xs := xs) (d := d) (I := I) (J := J) hG h4 with ⟨g1, g2, c2⟩ | ⟨g1, c2⟩
  · exact Or.inl ⟨iff.mp ⟨g1, g2⟩, c2⟩
  · exact Or.inr ⟨fun z => g1 (iff.mpr z), c2⟩
theorem iwk_3 {L : Nat} {xs : Nat → Int32} {d : Nat} {I : Nat → Nat → Int32} {J : Nat → Nat → Int64} {R : Nat → Nat → Nat} {b : Nat → Int32} {n p st k e : Nat} (hG : aGd R) (h4 : 4 ≤ d + 1) (tk : isTok b p st k e) (ct : cTok b n I J st k e) : ((cKd k (e - st) = 1 ∧ isKw b st (e - st) 3) ∧ xEv L xs (d + 1) 25 0 [.ref 1, .retAddr 7, xmk, xmk, xmk] [] (124, I, J, R) (some (.int 1)) (124, I, J, R)) ∨ (¬ (cKd k (e - st) = 1 ∧ isKw b st (e - st) 3) ∧ xEv L xs (d + 1) 25 0 [.ref 1, .retAddr 7, xmk, xmk, xmk] [] (124, I, J, R) (some (.int 0)) (124, I, J, R)) := by
  obtain ⟨a1, a2, a3, a4, a5, a6, a7, a8⟩ := ct
  have iff : ((I 1 3).toInt = 1 ∧ J 1 5 = vF (kb 3) 0 (kwl 3)) ↔ (cKd k (e - st) = 1 ∧ isKw b st (e - st) 3) := by
    constructor
    · rintro ⟨g1, g2⟩
      have g3 : cKd k (e - st) = 1 := by omega
      obtain ⟨g4, g5⟩ := ck_1.mp g3
      subst g4
      rw [a5 (Or.inl rfl)] at g2
      exact ⟨g3, (kw_iff (by decide) g5 (tok_w tk).2).mp g2⟩
    · rintro ⟨g1, g2⟩
      obtain ⟨g4, g5⟩ := ck_1.mp g1
      subst g4
      exact ⟨by omega, by rw [a5 (Or.inl rfl)]; exact (kw_iff (by decide) g5 (tok_w tk).2).mpr g2⟩
  rcases iw_run_3 (L := L) (xs := xs) (d := d) (I := I) (J := J) hG h4 with ⟨g1, g2, c2⟩ | ⟨g1, c2⟩
  · exact Or.inl ⟨iff.mp ⟨g1, g2⟩, c2⟩
  · exact Or.inr ⟨fun z => g1 (iff.mpr z), c2⟩
theorem kw_uni : ∀ i, i < 6 → ∀ j, j < 6 → kwl i = kwl j → (∀ q, q < kwl i → kwc i q = kwc j q) → i = j := by decide +kernel
theorem isKw_u {b : Nat → Int32} {st m i j : Nat} (hi : i < 6) (hj : j < 6) (h : isKw b st m i) (h' : isKw b st m j) : i = j := kw_uni i hi j hj (h.1.symm.trans h'.1) (fun q hq => (h.2 q hq).symm.trans (h'.2 q (by have := h.1; have := h'.1; omega)))
