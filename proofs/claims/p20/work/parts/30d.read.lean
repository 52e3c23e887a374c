set_option maxRecDepth 20000 in
theorem fl_a {L : Nat} {xs : Nat → Int32} {d : Nat} {I : Nat → Nat → Int32} {J : Nat → Nat → Int64} {R : Nat → Nat → Nat} {k : Int32} (hG : aGd R) (b1 : (I 43 2).toInt = 0) : xEv L xs d 27 0 [.ref 43, .int k] [] (124, I, J, R) none (124, (uI (uI I 43 2 k) 43 3 (I 1 4)), J, R) := by
  refine ev_go 2 (pc1 := 4) (lv1 := [.ref 43, .int k]) (st1 := [.int (I 43 2)]) (h1 := (124, I, J, R)) rfl ?_
  refine ev_br (b1 := false) rfl rfl (xcd_nne (x := (I 43 2)) (y := 0) (by rw [show ((0 : Int32)).toInt = 0 from by decide]; first | exact b1 | omega)) ?_
  refine ev_go 5 (pc1 := 14) (lv1 := [.ref 43, .int k]) (st1 := [.ref 43, .ref 43]) (h1 := (124, (uI I 43 2 k), J, R)) rfl ?_
  refine ev_gf (c := 43) (t := 1) (X := R 43 0) rfl rfl (fun _ => rfl) rfl (hG 43 0 1 rfl rfl) ?_
  refine ev_go 2 (pc1 := 23) (lv1 := [.ref 43, .int k]) (st1 := []) (h1 := (124, (uI (uI I 43 2 k) 43 3 (I 1 4)), J, R)) rfl ?_
  exact ev_ret rfl rfl
set_option maxRecDepth 20000 in
theorem fl_d {L : Nat} {xs : Nat → Int32} {d : Nat} {I : Nat → Nat → Int32} {J : Nat → Nat → Int64} {R : Nat → Nat → Nat} {k : Int32} (hG : aGd R) (b1 : (I 43 2).toInt ≠ 0) : xEv L xs d 27 0 [.ref 43, .int k] [] (124, I, J, R) none (124, I, J, R) := by
  refine ev_go 2 (pc1 := 4) (lv1 := [.ref 43, .int k]) (st1 := [.int (I 43 2)]) (h1 := (124, I, J, R)) rfl ?_
  refine ev_br (b1 := true) rfl rfl (xcd_ne (x := (I 43 2)) (y := 0) (by rw [show ((0 : Int32)).toInt = 0 from by decide]; first | exact b1 | omega)) ?_
  exact ev_ret rfl rfl
set_option maxRecDepth 20000 in
theorem tk_d {L : Nat} {xs : Nat → Int32} {d : Nat} {I : Nat → Nat → Int32} {J : Nat → Nat → Int64} {R : Nat → Nat → Nat} {k : Int32} (hG : aGd R) (b1 : (I 43 2).toInt ≠ 0) : xEv L xs d 28 0 [.ref 43, .int k] [] (124, I, J, R) (some (.long (-1))) (124, I, J, R) := by
  refine ev_go 2 (pc1 := 4) (lv1 := [.ref 43, .int k]) (st1 := [.int (I 43 2)]) (h1 := (124, I, J, R)) rfl ?_
  refine ev_br (b1 := false) rfl rfl (xcd_neq (x := (I 43 2)) (y := 0) (by rw [show ((0 : Int32)).toInt = 0 from by decide]; first | exact b1 | omega)) ?_
  refine ev_go 1 (pc1 := 10) (lv1 := [.ref 43, .int k]) (st1 := [.long (-1)]) (h1 := (124, I, J, R)) rfl ?_
  exact ev_ret rfl rfl
set_option maxRecDepth 20000 in
theorem tk_1 {L : Nat} {xs : Nat → Int32} {d : Nat} {I : Nat → Nat → Int32} {J : Nat → Nat → Int64} {R : Nat → Nat → Nat} {I1 : Nat → Nat → Int32} {J1 : Nat → Nat → Int64} {k : Int32} (hG : aGd R) (b1 : (I 43 2).toInt = 0) (c1 : xEv L xs d 21 0 [.ref 1] [] (124, I, J, R) none (124, I1, J1, R)) (b2 : (I1 1 3).toInt = k.toInt) : xEv L xs (d + 1) 28 0 [.ref 43, .int k] [] (124, I, J, R) (some (.long (J1 1 5))) (124, I1, J1, R) := by
  refine ev_go 2 (pc1 := 4) (lv1 := [.ref 43, .int k]) (st1 := [.int (I 43 2)]) (h1 := (124, I, J, R)) rfl ?_
  refine ev_br (b1 := true) rfl rfl (xcd_eq (x := (I 43 2)) (y := 0) (by rw [show ((0 : Int32)).toInt = 0 from by decide]; first | exact b1 | omega)) ?_
  refine ev_go 1 (pc1 := 12) (lv1 := [.ref 43, .int k]) (st1 := [.ref 43]) (h1 := (124, I, J, R)) rfl ?_
  refine ev_gf (c := 43) (t := 1) (X := R 43 0) rfl rfl (fun _ => rfl) rfl (hG 43 0 1 rfl rfl) ?_
  refine ev_call (v1 := none) (h1 := (124, I1, J1, R)) rfl rfl c1 ?_
  refine ev_go 1 (pc1 := 19) (lv1 := [.ref 43, .int k]) (st1 := [.ref 43]) (h1 := (124, I1, J1, R)) rfl ?_
  refine ev_gf (c := 43) (t := 1) (X := R 43 0) rfl rfl (fun _ => rfl) rfl (hG 43 0 1 rfl rfl) ?_
  refine ev_go 2 (pc1 := 26) (lv1 := [.ref 43, .int k]) (st1 := [.int k, .int (I1 1 3)]) (h1 := (124, I1, J1, R)) rfl ?_
  refine ev_br (b1 := true) rfl rfl (xcd_eq (x := (I1 1 3)) (y := k) (by first | exact b2 | omega)) ?_
  refine ev_go 1 (pc1 := 35) (lv1 := [.ref 43, .int k]) (st1 := [.ref 43]) (h1 := (124, I1, J1, R)) rfl ?_
  refine ev_gf (c := 43) (t := 1) (X := R 43 0) rfl rfl (fun _ => rfl) rfl (hG 43 0 1 rfl rfl) ?_
  refine ev_go 1 (pc1 := 41) (lv1 := [.ref 43, .int k]) (st1 := [.long (J1 1 5)]) (h1 := (124, I1, J1, R)) rfl ?_
  exact ev_ret rfl rfl
set_option maxRecDepth 20000 in
theorem tk_2 {L : Nat} {xs : Nat → Int32} {d : Nat} {I : Nat → Nat → Int32} {J : Nat → Nat → Int64} {R : Nat → Nat → Nat} {I1 : Nat → Nat → Int32} {J1 : Nat → Nat → Int64} {k : Int32} (hG : aGd R) (b1 : (I 43 2).toInt = 0) (c1 : xEv L xs d 21 0 [.ref 1] [] (124, I, J, R) none (124, I1, J1, R)) (b2 : (I1 1 3).toInt ≠ k.toInt) (c2 : xEv L xs d 27 0 [.ref 43, .int 1] [] (124, I1, J1, R) none (124, (uI (uI I1 43 2 1) 43 3 (I1 1 4)), J1, R)) : xEv L xs (d + 1) 28 0 [.ref 43, .int k] [] (124, I, J, R) (some (.long (J1 1 5))) (124, (uI (uI I1 43 2 1) 43 3 (I1 1 4)), J1, R) := by
  refine ev_go 2 (pc1 := 4) (lv1 := [.ref 43, .int k]) (st1 := [.int (I 43 2)]) (h1 := (124, I, J, R)) rfl ?_
  refine ev_br (b1 := true) rfl rfl (xcd_eq (x := (I 43 2)) (y := 0) (by rw [show ((0 : Int32)).toInt = 0 from by decide]; first | exact b1 | omega)) ?_
  refine ev_go 1 (pc1 := 12) (lv1 := [.ref 43, .int k]) (st1 := [.ref 43]) (h1 := (124, I, J, R)) rfl ?_
  refine ev_gf (c := 43) (t := 1) (X := R 43 0) rfl rfl (fun _ => rfl) rfl (hG 43 0 1 rfl rfl) ?_
  refine ev_call (v1 := none) (h1 := (124, I1, J1, R)) rfl rfl c1 ?_
  refine ev_go 1 (pc1 := 19) (lv1 := [.ref 43, .int k]) (st1 := [.ref 43]) (h1 := (124, I1, J1, R)) rfl ?_
  refine ev_gf (c := 43) (t := 1) (X := R 43 0) rfl rfl (fun _ => rfl) rfl (hG 43 0 1 rfl rfl) ?_
  refine ev_go 2 (pc1 := 26) (lv1 := [.ref 43, .int k]) (st1 := [.int k, .int (I1 1 3)]) (h1 := (124, I1, J1, R)) rfl ?_
  refine ev_br (b1 := false) rfl rfl (xcd_neq (x := (I1 1 3)) (y := k) (by first | exact b2 | omega)) ?_
  refine ev_go 2 (pc1 := 31) (lv1 := [.ref 43, .int k]) (st1 := [.int 1, .ref 43]) (h1 := (124, I1, J1, R)) rfl ?_
  refine ev_call (v1 := none) (h1 := (124, (uI (uI I1 43 2 1) 43 3 (I1 1 4)), J1, R)) rfl rfl c2 ?_
  refine ev_go 1 (pc1 := 35) (lv1 := [.ref 43, .int k]) (st1 := [.ref 43]) (h1 := (124, (uI (uI I1 43 2 1) 43 3 (I1 1 4)), J1, R)) rfl ?_
  refine ev_gf (c := 43) (t := 1) (X := R 43 0) rfl rfl (fun _ => rfl) rfl (hG 43 0 1 rfl rfl) ?_
  refine ev_go 1 (pc1 := 41) (lv1 := [.ref 43, .int k]) (st1 := [.long (J1 1 5)]) (h1 := (124, (uI (uI I1 43 2 1) 43 3 (I1 1 4)), J1, R)) rfl ?_
  exact ev_ret rfl rfl
set_option maxRecDepth 20000 in
theorem nu_1 {L : Nat} {xs : Nat → Int32} {d : Nat} {I : Nat → Nat → Int32} {J : Nat → Nat → Int64} {R : Nat → Nat → Nat} {I1 : Nat → Nat → Int32} {J1 : Nat → Nat → Int64} {lo hi : Int32} {vv : Int64} (hG : aGd R) (c1 : xEv L xs d 28 0 [.ref 43, .int 2] [] (124, I, J, R) (some (.long vv)) (124, I1, J1, R)) (b1 : (lg_cmp vv lo.toInt64).toInt < 0) (c2 : xEv L xs d 27 0 [.ref 43, .int 2] [] (124, I1, J1, R) none (124, (uI (uI I1 43 2 2) 43 3 (I1 1 4)), J1, R)) : xEv L xs (d + 1) 30 0 [.ref 43, .int lo, .int hi, xmk, xmk] [] (124, I, J, R) (some (.int vv.toInt32)) (124, (uI (uI I1 43 2 2) 43 3 (I1 1 4)), J1, R) := by
  refine ev_go 2 (pc1 := 2) (lv1 := [.ref 43, .int lo, .int hi, xmk, xmk]) (st1 := [.int 2, .ref 43]) (h1 := (124, I, J, R)) rfl ?_
  refine ev_call (v1 := (some (.long vv))) (h1 := (124, I1, J1, R)) rfl rfl c1 ?_
  refine ev_go 5 (pc1 := 10) (lv1 := [.ref 43, .int lo, .int hi, .long vv, xmk]) (st1 := [.int (lg_cmp vv lo.toInt64)]) (h1 := (124, I1, J1, R)) rfl ?_
  refine ev_br (b1 := true) rfl rfl (xcd_lt (x := (lg_cmp vv lo.toInt64)) (y := 0) (by rw [show ((0 : Int32)).toInt = 0 from by decide]; first | exact b1 | omega)) ?_
  refine ev_go 2 (pc1 := 22) (lv1 := [.ref 43, .int lo, .int hi, .long vv, xmk]) (st1 := [.int 2, .ref 43]) (h1 := (124, I1, J1, R)) rfl ?_
  refine ev_call (v1 := none) (h1 := (124, (uI (uI I1 43 2 2) 43 3 (I1 1 4)), J1, R)) rfl rfl c2 ?_
  refine ev_go 2 (pc1 := 27) (lv1 := [.ref 43, .int lo, .int hi, .long vv, xmk]) (st1 := [.int vv.toInt32]) (h1 := (124, (uI (uI I1 43 2 2) 43 3 (I1 1 4)), J1, R)) rfl ?_
  exact ev_ret rfl rfl
set_option maxRecDepth 20000 in
theorem nu_2 {L : Nat} {xs : Nat → Int32} {d : Nat} {I : Nat → Nat → Int32} {J : Nat → Nat → Int64} {R : Nat → Nat → Nat} {I1 : Nat → Nat → Int32} {J1 : Nat → Nat → Int64} {lo hi : Int32} {vv : Int64} (hG : aGd R) (c1 : xEv L xs d 28 0 [.ref 43, .int 2] [] (124, I, J, R) (some (.long vv)) (124, I1, J1, R)) (b1 : (lg_cmp vv lo.toInt64).toInt ≥ 0) (b2 : (lg_cmp vv hi.toInt64).toInt > 0) (c2 : xEv L xs d 27 0 [.ref 43, .int 2] [] (124, I1, J1, R) none (124, (uI (uI I1 43 2 2) 43 3 (I1 1 4)), J1, R)) : xEv L xs (d + 1) 30 0 [.ref 43, .int lo, .int hi, xmk, xmk] [] (124, I, J, R) (some (.int vv.toInt32)) (124, (uI (uI I1 43 2 2) 43 3 (I1 1 4)), J1, R) := by
  refine ev_go 2 (pc1 := 2) (lv1 := [.ref 43, .int lo, .int hi, xmk, xmk]) (st1 := [.int 2, .ref 43]) (h1 := (124, I, J, R)) rfl ?_
  refine ev_call (v1 := (some (.long vv))) (h1 := (124, I1, J1, R)) rfl rfl c1 ?_
  refine ev_go 5 (pc1 := 10) (lv1 := [.ref 43, .int lo, .int hi, .long vv, xmk]) (st1 := [.int (lg_cmp vv lo.toInt64)]) (h1 := (124, I1, J1, R)) rfl ?_
  refine ev_br (b1 := false) rfl rfl (xcd_nlt (x := (lg_cmp vv lo.toInt64)) (y := 0) (by rw [show ((0 : Int32)).toInt = 0 from by decide]; first | exact b1 | omega)) ?_
  refine ev_go 4 (pc1 := 17) (lv1 := [.ref 43, .int lo, .int hi, .long vv, xmk]) (st1 := [.int (lg_cmp vv hi.toInt64)]) (h1 := (124, I1, J1, R)) rfl ?_
  refine ev_br (b1 := false) rfl rfl (xcd_nle (x := (lg_cmp vv hi.toInt64)) (y := 0) (by rw [show ((0 : Int32)).toInt = 0 from by decide]; first | exact b2 | omega)) ?_
  refine ev_go 2 (pc1 := 22) (lv1 := [.ref 43, .int lo, .int hi, .long vv, xmk]) (st1 := [.int 2, .ref 43]) (h1 := (124, I1, J1, R)) rfl ?_
  refine ev_call (v1 := none) (h1 := (124, (uI (uI I1 43 2 2) 43 3 (I1 1 4)), J1, R)) rfl rfl c2 ?_
  refine ev_go 2 (pc1 := 27) (lv1 := [.ref 43, .int lo, .int hi, .long vv, xmk]) (st1 := [.int vv.toInt32]) (h1 := (124, (uI (uI I1 43 2 2) 43 3 (I1 1 4)), J1, R)) rfl ?_
  exact ev_ret rfl rfl
set_option maxRecDepth 20000 in
theorem nu_3 {L : Nat} {xs : Nat → Int32} {d : Nat} {I : Nat → Nat → Int32} {J : Nat → Nat → Int64} {R : Nat → Nat → Nat} {I1 : Nat → Nat → Int32} {J1 : Nat → Nat → Int64} {lo hi : Int32} {vv : Int64} (hG : aGd R) (c1 : xEv L xs d 28 0 [.ref 43, .int 2] [] (124, I, J, R) (some (.long vv)) (124, I1, J1, R)) (b1 : (lg_cmp vv lo.toInt64).toInt ≥ 0) (b2 : (lg_cmp vv hi.toInt64).toInt ≤ 0) : xEv L xs (d + 1) 30 0 [.ref 43, .int lo, .int hi, xmk, xmk] [] (124, I, J, R) (some (.int vv.toInt32)) (124, I1, J1, R) := by
  refine ev_go 2 (pc1 := 2) (lv1 := [.ref 43, .int lo, .int hi, xmk, xmk]) (st1 := [.int 2, .ref 43]) (h1 := (124, I, J, R)) rfl ?_
  refine ev_call (v1 := (some (.long vv))) (h1 := (124, I1, J1, R)) rfl rfl c1 ?_
  refine ev_go 5 (pc1 := 10) (lv1 := [.ref 43, .int lo, .int hi, .long vv, xmk]) (st1 := [.int (lg_cmp vv lo.toInt64)]) (h1 := (124, I1, J1, R)) rfl ?_
  refine ev_br (b1 := false) rfl rfl (xcd_nlt (x := (lg_cmp vv lo.toInt64)) (y := 0) (by rw [show ((0 : Int32)).toInt = 0 from by decide]; first | exact b1 | omega)) ?_
  refine ev_go 4 (pc1 := 17) (lv1 := [.ref 43, .int lo, .int hi, .long vv, xmk]) (st1 := [.int (lg_cmp vv hi.toInt64)]) (h1 := (124, I1, J1, R)) rfl ?_
  refine ev_br (b1 := true) rfl rfl (xcd_le (x := (lg_cmp vv hi.toInt64)) (y := 0) (by rw [show ((0 : Int32)).toInt = 0 from by decide]; first | exact b2 | omega)) ?_
  refine ev_go 2 (pc1 := 27) (lv1 := [.ref 43, .int lo, .int hi, .long vv, xmk]) (st1 := [.int vv.toInt32]) (h1 := (124, I1, J1, R)) rfl ?_
  exact ev_ret rfl rfl
set_option maxRecDepth 20000 in
theorem nu_1d {L : Nat} {xs : Nat → Int32} {d : Nat} {I : Nat → Nat → Int32} {J : Nat → Nat → Int64} {R : Nat → Nat → Nat} {I1 : Nat → Nat → Int32} {J1 : Nat → Nat → Int64} {lo hi : Int32} {vv : Int64} (hG : aGd R) (c1 : xEv L xs d 28 0 [.ref 43, .int 2] [] (124, I, J, R) (some (.long vv)) (124, I1, J1, R)) (b1 : (lg_cmp vv lo.toInt64).toInt < 0) (c2 : xEv L xs d 27 0 [.ref 43, .int 2] [] (124, I1, J1, R) none (124, I1, J1, R)) : xEv L xs (d + 1) 30 0 [.ref 43, .int lo, .int hi, xmk, xmk] [] (124, I, J, R) (some (.int vv.toInt32)) (124, I1, J1, R) := by
  refine ev_go 2 (pc1 := 2) (lv1 := [.ref 43, .int lo, .int hi, xmk, xmk]) (st1 := [.int 2, .ref 43]) (h1 := (124, I, J, R)) rfl ?_
  refine ev_call (v1 := (some (.long vv))) (h1 := (124, I1, J1, R)) rfl rfl c1 ?_
  refine ev_go 5 (pc1 := 10) (lv1 := [.ref 43, .int lo, .int hi, .long vv, xmk]) (st1 := [.int (lg_cmp vv lo.toInt64)]) (h1 := (124, I1, J1, R)) rfl ?_
  refine ev_br (b1 := true) rfl rfl (xcd_lt (x := (lg_cmp vv lo.toInt64)) (y := 0) (by rw [show ((0 : Int32)).toInt = 0 from by decide]; first | exact b1 | omega)) ?_
  refine ev_go 2 (pc1 := 22) (lv1 := [.ref 43, .int lo, .int hi, .long vv, xmk]) (st1 := [.int 2, .ref 43]) (h1 := (124, I1, J1, R)) rfl ?_
  refine ev_call (v1 := none) (h1 := (124, I1, J1, R)) rfl rfl c2 ?_
  refine ev_go 2 (pc1 := 27) (lv1 := [.ref 43, .int lo, .int hi, .long vv, xmk]) (st1 := [.int vv.toInt32]) (h1 := (124, I1, J1, R)) rfl ?_
  exact ev_ret rfl rfl
set_option maxRecDepth 20000 in
theorem nu_2d {L : Nat} {xs : Nat → Int32} {d : Nat} {I : Nat → Nat → Int32} {J : Nat → Nat → Int64} {R : Nat → Nat → Nat} {I1 : Nat → Nat → Int32} {J1 : Nat → Nat → Int64} {lo hi : Int32} {vv : Int64} (hG : aGd R) (c1 : xEv L xs d 28 0 [.ref 43, .int 2] [] (124, I, J, R) (some (.long vv)) (124, I1, J1, R)) (b1 : (lg_cmp vv lo.toInt64).toInt ≥ 0) (b2 : (lg_cmp vv hi.toInt64).toInt > 0) (c2 : xEv L xs d 27 0 [.ref 43, .int 2] [] (124, I1, J1, R) none (124, I1, J1, R)) : xEv L xs (d + 1) 30 0 [.ref 43, .int lo, .int hi, xmk, xmk] [] (124, I, J, R) (some (.int vv.toInt32)) (124, I1, J1, R) := by
  refine ev_go 2 (pc1 := 2) (lv1 := [.ref 43, .int lo, .int hi, xmk, xmk]) (st1 := [.int 2, .ref 43]) (h1 := (124, I, J, R)) rfl ?_
  refine ev_call (v1 := (some (.long vv))) (h1 := (124, I1, J1, R)) rfl rfl c1 ?_
  refine ev_go 5 (pc1 := 10) (lv1 := [.ref 43, .int lo, .int hi, .long vv, xmk]) (st1 := [.int (lg_cmp vv lo.toInt64)]) (h1 := (124, I1, J1, R)) rfl ?_
  refine ev_br (b1 := false) rfl rfl (xcd_nlt (x := (lg_cmp vv lo.toInt64)) (y := 0) (by rw [show ((0 : Int32)).toInt = 0 from by decide]; first | exact b1 | omega)) ?_
  refine ev_go 4 (pc1 := 17) (lv1 := [.ref 43, .int lo, .int hi, .long vv, xmk]) (st1 := [.int (lg_cmp vv hi.toInt64)]) (h1 := (124, I1, J1, R)) rfl ?_
  refine ev_br (b1 := false) rfl rfl (xcd_nle (x := (lg_cmp vv hi.toInt64)) (y := 0) (by rw [show ((0 : Int32)).toInt = 0 from by decide]; first | exact b2 | omega)) ?_
  refine ev_go 2 (pc1 := 22) (lv1 := [.ref 43, .int lo, .int hi, .long vv, xmk]) (st1 := [.int 2, .ref 43]) (h1 := (124, I1, J1, R)) rfl ?_
  refine ev_call (v1 := none) (h1 := (124, I1, J1, R)) rfl rfl c2 ?_
  refine ev_go 2 (pc1 := 27) (lv1 := [.ref 43, .int lo, .int hi, .long vv, xmk]) (st1 := [.int vv.toInt32]) (h1 := (124, I1, J1, R)) rfl ?_
  exact ev_ret rfl rfl
set_option maxRecDepth 20000 in
theorem pn_1_3 {L : Nat} {xs : Nat → Int32} {d : Nat} {I : Nat → Nat → Int32} {J : Nat → Nat → Int64} {R : Nat → Nat → Nat} {q : Int32} {vv : Int64} (hG : aGd R) (b1 : q.toInt ≥ (I 3 14).toInt) : xEv L xs d 29 2 [.ref 3, .long vv, xmk, .int q] [] (124, I, J, R) (some (.int (-1))) (124, I, J, R) := by
  refine ev_go 3 (pc1 := 7) (lv1 := [.ref 3, .long vv, xmk, .int q]) (st1 := [.int (I 3 14), .int q]) (h1 := (124, I, J, R)) rfl ?_
  refine ev_br (b1 := true) rfl rfl (xcd_ge (x := q) (y := (I 3 14)) (by first | exact b1 | omega)) ?_
  refine ev_go 1 (pc1 := 39) (lv1 := [.ref 3, .long vv, xmk, .int q]) (st1 := [.int (-1)]) (h1 := (124, I, J, R)) rfl ?_
  exact ev_ret rfl rfl
set_option maxRecDepth 20000 in
theorem pn_3_3 {L : Nat} {xs : Nat → Int32} {d : Nat} {I : Nat → Nat → Int32} {J : Nat → Nat → Int64} {R : Nat → Nat → Nat} {q : Int32} {vv : Int64} (hG : aGd R) (b1 : q.toInt < (I 3 14).toInt) (b2 : q.toInt < 7) (n1 : 0 ≤ q.toInt) (m1 : q.toInt < 7) (b3 : (lg_cmp (J 4 q.toNatClampNeg) vv).toInt = 0) : xEv L xs d 29 2 [.ref 3, .long vv, xmk, .int q] [] (124, I, J, R) (some (.int q)) (124, I, J, R) := by
  refine ev_go 3 (pc1 := 7) (lv1 := [.ref 3, .long vv, xmk, .int q]) (st1 := [.int (I 3 14), .int q]) (h1 := (124, I, J, R)) rfl ?_
  refine ev_br (b1 := false) rfl rfl (xcd_nge (x := q) (y := (I 3 14)) (by first | exact b1 | omega)) ?_
  refine ev_go 2 (pc1 := 12) (lv1 := [.ref 3, .long vv, xmk, .int q]) (st1 := [.ref 3, .int q]) (h1 := (124, I, J, R)) rfl ?_
  refine ev_gf (c := 3) (t := 4) (X := R 3 0) rfl rfl (fun _ => rfl) rfl (hG 3 0 4 rfl rfl) ?_
  refine ev_go 1 (pc1 := 16) (lv1 := [.ref 3, .long vv, xmk, .int q]) (st1 := [.int 7, .int q]) (h1 := (124, I, J, R)) rfl ?_
  refine ev_br (b1 := false) rfl rfl (xcd_nge (x := q) (y := 7) (by rw [show ((7 : Int32)).toInt = 7 from by decide]; first | exact b2 | omega)) ?_
  refine ev_go 1 (pc1 := 20) (lv1 := [.ref 3, .long vv, xmk, .int q]) (st1 := [.ref 3]) (h1 := (124, I, J, R)) rfl ?_
  refine ev_gf (c := 3) (t := 4) (X := R 3 0) rfl rfl (fun _ => rfl) rfl (hG 3 0 4 rfl rfl) ?_
  refine ev_go 1 (pc1 := 24) (lv1 := [.ref 3, .long vv, xmk, .int q]) (st1 := [.int q, .ref 4]) (h1 := (124, I, J, R)) rfl ?_
  refine ev_lld (n := 7) rfl rfl (fun _ => rfl) n1 m1 ?_
  refine ev_go 2 (pc1 := 27) (lv1 := [.ref 3, .long vv, xmk, .int q]) (st1 := [.int (lg_cmp (J 4 q.toNatClampNeg) vv)]) (h1 := (124, I, J, R)) rfl ?_
  refine ev_br (b1 := false) rfl rfl (xcd_nne (x := (lg_cmp (J 4 q.toNatClampNeg) vv)) (y := 0) (by rw [show ((0 : Int32)).toInt = 0 from by decide]; first | exact b3 | omega)) ?_
  refine ev_go 1 (pc1 := 31) (lv1 := [.ref 3, .long vv, xmk, .int q]) (st1 := [.int q]) (h1 := (124, I, J, R)) rfl ?_
  exact ev_ret rfl rfl
set_option maxRecDepth 20000 in
theorem pn_4_3 {L : Nat} {xs : Nat → Int32} {d : Nat} {I : Nat → Nat → Int32} {J : Nat → Nat → Int64} {R : Nat → Nat → Nat} {q : Int32} {vv : Int64} (hG : aGd R) (b1 : q.toInt < (I 3 14).toInt) (b2 : q.toInt < 7) (n1 : 0 ≤ q.toInt) (m1 : q.toInt < 7) (b3 : (lg_cmp (J 4 q.toNatClampNeg) vv).toInt ≠ 0) {v : Option Value} {h' : xH} (hk : xEv L xs d 29 2 [.ref 3, .long vv, xmk, .int (q + 1)] [] (124, I, J, R) v h') : xEv L xs d 29 2 [.ref 3, .long vv, xmk, .int q] [] (124, I, J, R) v h' := by
  refine ev_go 3 (pc1 := 7) (lv1 := [.ref 3, .long vv, xmk, .int q]) (st1 := [.int (I 3 14), .int q]) (h1 := (124, I, J, R)) rfl ?_
  refine ev_br (b1 := false) rfl rfl (xcd_nge (x := q) (y := (I 3 14)) (by first | exact b1 | omega)) ?_
  refine ev_go 2 (pc1 := 12) (lv1 := [.ref 3, .long vv, xmk, .int q]) (st1 := [.ref 3, .int q]) (h1 := (124, I, J, R)) rfl ?_
  refine ev_gf (c := 3) (t := 4) (X := R 3 0) rfl rfl (fun _ => rfl) rfl (hG 3 0 4 rfl rfl) ?_
  refine ev_go 1 (pc1 := 16) (lv1 := [.ref 3, .long vv, xmk, .int q]) (st1 := [.int 7, .int q]) (h1 := (124, I, J, R)) rfl ?_
  refine ev_br (b1 := false) rfl rfl (xcd_nge (x := q) (y := 7) (by rw [show ((7 : Int32)).toInt = 7 from by decide]; first | exact b2 | omega)) ?_
  refine ev_go 1 (pc1 := 20) (lv1 := [.ref 3, .long vv, xmk, .int q]) (st1 := [.ref 3]) (h1 := (124, I, J, R)) rfl ?_
  refine ev_gf (c := 3) (t := 4) (X := R 3 0) rfl rfl (fun _ => rfl) rfl (hG 3 0 4 rfl rfl) ?_
  refine ev_go 1 (pc1 := 24) (lv1 := [.ref 3, .long vv, xmk, .int q]) (st1 := [.int q, .ref 4]) (h1 := (124, I, J, R)) rfl ?_
  refine ev_lld (n := 7) rfl rfl (fun _ => rfl) n1 m1 ?_
  refine ev_go 2 (pc1 := 27) (lv1 := [.ref 3, .long vv, xmk, .int q]) (st1 := [.int (lg_cmp (J 4 q.toNatClampNeg) vv)]) (h1 := (124, I, J, R)) rfl ?_
  refine ev_br (b1 := true) rfl rfl (xcd_ne (x := (lg_cmp (J 4 q.toNatClampNeg) vv)) (y := 0) (by rw [show ((0 : Int32)).toInt = 0 from by decide]; first | exact b3 | omega)) ?_
  refine ev_go 2 (pc1 := 2) (lv1 := [.ref 3, .long vv, xmk, .int (q + 1)]) (st1 := []) (h1 := (124, I, J, R)) rfl ?_
  exact hk
set_option maxRecDepth 20000 in
theorem pb_1_3 {L : Nat} {xs : Nat → Int32} {d : Nat} {I : Nat → Nat → Int32} {J : Nat → Nat → Int64} {R : Nat → Nat → Nat} {I1 : Nat → Nat → Int32} {J1 : Nat → Nat → Int64} {f z : Int32} {vv : Int64} (hG : aGd R) (r_R_43_1 : R 43 1 = 4) (c1 : xEv L xs d 28 0 [.ref 43, .int 1] [] (124, I, J, R) (some (.long vv)) (124, I1, J1, R)) (c2 : xEv L xs d 29 0 [.ref 3, .long vv, xmk, xmk] [] (124, I1, J1, R) (some (.int z)) (124, I1, J1, R)) (b1 : z.toInt = -1) (c3 : xEv L xs d 27 0 [.ref 43, .int 5] [] (124, I1, J1, R) none (124, (uI (uI I1 43 2 5) 43 3 (I1 1 4)), J1, R)) : xEv L xs (d + 1) 35 0 [.ref 43, .int f, xmk] [] (124, I, J, R) (some (.int z)) (124, (uI (uI I1 43 2 5) 43 3 (I1 1 4)), J1, R) := by
  refine ev_go 1 (pc1 := 1) (lv1 := [.ref 43, .int f, xmk]) (st1 := [.ref 43]) (h1 := (124, I, J, R)) rfl ?_
  refine ev_gf (c := 43) (t := 3) (X := R 43 1) rfl rfl (fun _ => rfl) rfl r_R_43_1 ?_
  refine ev_go 2 (pc1 := 6) (lv1 := [.ref 43, .int f, xmk]) (st1 := [.int 1, .ref 43, .ref 3]) (h1 := (124, I, J, R)) rfl ?_
  refine ev_call (v1 := (some (.long vv))) (h1 := (124, I1, J1, R)) rfl rfl c1 ?_
  refine ev_call (v1 := (some (.int z))) (h1 := (124, I1, J1, R)) rfl rfl c2 ?_
  refine ev_go 3 (pc1 := 15) (lv1 := [.ref 43, .int f, .int z]) (st1 := [.int (-1), .int z]) (h1 := (124, I1, J1, R)) rfl ?_
  refine ev_br (b1 := false) rfl rfl (xcd_nne (x := z) (y := (-1)) (by rw [show ((-1 : Int32)).toInt = -1 from by decide]; first | exact b1 | omega)) ?_
  refine ev_go 2 (pc1 := 20) (lv1 := [.ref 43, .int f, .int z]) (st1 := [.int 5, .ref 43]) (h1 := (124, I1, J1, R)) rfl ?_
  refine ev_call (v1 := none) (h1 := (124, (uI (uI I1 43 2 5) 43 3 (I1 1 4)), J1, R)) rfl rfl c3 ?_
  refine ev_go 2 (pc1 := 37) (lv1 := [.ref 43, .int f, .int z]) (st1 := [.int z]) (h1 := (124, (uI (uI I1 43 2 5) 43 3 (I1 1 4)), J1, R)) rfl ?_
  exact ev_ret rfl rfl
set_option maxRecDepth 20000 in
theorem pb_1d_3 {L : Nat} {xs : Nat → Int32} {d : Nat} {I : Nat → Nat → Int32} {J : Nat → Nat → Int64} {R : Nat → Nat → Nat} {I1 : Nat → Nat → Int32} {J1 : Nat → Nat → Int64} {f z : Int32} {vv : Int64} (hG : aGd R) (r_R_43_1 : R 43 1 = 4) (c1 : xEv L xs d 28 0 [.ref 43, .int 1] [] (124, I, J, R) (some (.long vv)) (124, I1, J1, R)) (c2 : xEv L xs d 29 0 [.ref 3, .long vv, xmk, xmk] [] (124, I1, J1, R) (some (.int z)) (124, I1, J1, R)) (b1 : z.toInt = -1) (c3 : xEv L xs d 27 0 [.ref 43, .int 5] [] (124, I1, J1, R) none (124, I1, J1, R)) : xEv L xs (d + 1) 35 0 [.ref 43, .int f, xmk] [] (124, I, J, R) (some (.int z)) (124, I1, J1, R) := by
  refine ev_go 1 (pc1 := 1) (lv1 := [.ref 43, .int f, xmk]) (st1 := [.ref 43]) (h1 := (124, I, J, R)) rfl ?_
  refine ev_gf (c := 43) (t := 3) (X := R 43 1) rfl rfl (fun _ => rfl) rfl r_R_43_1 ?_
  refine ev_go 2 (pc1 := 6) (lv1 := [.ref 43, .int f, xmk]) (st1 := [.int 1, .ref 43, .ref 3]) (h1 := (124, I, J, R)) rfl ?_
  refine ev_call (v1 := (some (.long vv))) (h1 := (124, I1, J1, R)) rfl rfl c1 ?_
  refine ev_call (v1 := (some (.int z))) (h1 := (124, I1, J1, R)) rfl rfl c2 ?_
  refine ev_go 3 (pc1 := 15) (lv1 := [.ref 43, .int f, .int z]) (st1 := [.int (-1), .int z]) (h1 := (124, I1, J1, R)) rfl ?_
  refine ev_br (b1 := false) rfl rfl (xcd_nne (x := z) (y := (-1)) (by rw [show ((-1 : Int32)).toInt = -1 from by decide]; first | exact b1 | omega)) ?_
  refine ev_go 2 (pc1 := 20) (lv1 := [.ref 43, .int f, .int z]) (st1 := [.int 5, .ref 43]) (h1 := (124, I1, J1, R)) rfl ?_
  refine ev_call (v1 := none) (h1 := (124, I1, J1, R)) rfl rfl c3 ?_
  refine ev_go 2 (pc1 := 37) (lv1 := [.ref 43, .int f, .int z]) (st1 := [.int z]) (h1 := (124, I1, J1, R)) rfl ?_
  exact ev_ret rfl rfl
set_option maxRecDepth 20000 in
theorem pb_2_3 {L : Nat} {xs : Nat → Int32} {d : Nat} {I : Nat → Nat → Int32} {J : Nat → Nat → Int64} {R : Nat → Nat → Nat} {I1 : Nat → Nat → Int32} {J1 : Nat → Nat → Int64} {f z : Int32} {vv : Int64} (hG : aGd R) (r_R_43_1 : R 43 1 = 4) (c1 : xEv L xs d 28 0 [.ref 43, .int 1] [] (124, I, J, R) (some (.long vv)) (124, I1, J1, R)) (c2 : xEv L xs d 29 0 [.ref 3, .long vv, xmk, xmk] [] (124, I1, J1, R) (some (.int z)) (124, I1, J1, R)) (b1 : z.toInt ≠ -1) (b2 : z.toInt = f.toInt) (c3 : xEv L xs d 27 0 [.ref 43, .int 3] [] (124, I1, J1, R) none (124, (uI (uI I1 43 2 3) 43 3 (I1 1 4)), J1, R)) : xEv L xs (d + 1) 35 0 [.ref 43, .int f, xmk] [] (124, I, J, R) (some (.int z)) (124, (uI (uI I1 43 2 3) 43 3 (I1 1 4)), J1, R) := by
  refine ev_go 1 (pc1 := 1) (lv1 := [.ref 43, .int f, xmk]) (st1 := [.ref 43]) (h1 := (124, I, J, R)) rfl ?_
  refine ev_gf (c := 43) (t := 3) (X := R 43 1) rfl rfl (fun _ => rfl) rfl r_R_43_1 ?_
  refine ev_go 2 (pc1 := 6) (lv1 := [.ref 43, .int f, xmk]) (st1 := [.int 1, .ref 43, .ref 3]) (h1 := (124, I, J, R)) rfl ?_
  refine ev_call (v1 := (some (.long vv))) (h1 := (124, I1, J1, R)) rfl rfl c1 ?_
  refine ev_call (v1 := (some (.int z))) (h1 := (124, I1, J1, R)) rfl rfl c2 ?_
  refine ev_go 3 (pc1 := 15) (lv1 := [.ref 43, .int f, .int z]) (st1 := [.int (-1), .int z]) (h1 := (124, I1, J1, R)) rfl ?_
  refine ev_br (b1 := true) rfl rfl (xcd_ne (x := z) (y := (-1)) (by rw [show ((-1 : Int32)).toInt = -1 from by decide]; first | exact b1 | omega)) ?_
  refine ev_go 2 (pc1 := 28) (lv1 := [.ref 43, .int f, .int z]) (st1 := [.int f, .int z]) (h1 := (124, I1, J1, R)) rfl ?_
  refine ev_br (b1 := false) rfl rfl (xcd_nne (x := z) (y := f) (by first | exact b2 | omega)) ?_
  refine ev_go 2 (pc1 := 33) (lv1 := [.ref 43, .int f, .int z]) (st1 := [.int 3, .ref 43]) (h1 := (124, I1, J1, R)) rfl ?_
  refine ev_call (v1 := none) (h1 := (124, (uI (uI I1 43 2 3) 43 3 (I1 1 4)), J1, R)) rfl rfl c3 ?_
  refine ev_go 1 (pc1 := 37) (lv1 := [.ref 43, .int f, .int z]) (st1 := [.int z]) (h1 := (124, (uI (uI I1 43 2 3) 43 3 (I1 1 4)), J1, R)) rfl ?_
  exact ev_ret rfl rfl
set_option maxRecDepth 20000 in
theorem pb_2d_3 {L : Nat} {xs : Nat → Int32} {d : Nat} {I : Nat → Nat → Int32} {J : Nat → Nat → Int64} {R : Nat → Nat → Nat} {I1 : Nat → Nat → Int32} {J1 : Nat → Nat → Int64} {f z : Int32} {vv : Int64} (hG : aGd R) (r_R_43_1 : R 43 1 = 4) (c1 : xEv L xs d 28 0 [.ref 43, .int 1] [] (124, I, J, R) (some (.long vv)) (124, I1, J1, R)) (c2 : xEv L xs d 29 0 [.ref 3, .long vv, xmk, xmk] [] (124, I1, J1, R) (some (.int z)) (124, I1, J1, R)) (b1 : z.toInt ≠ -1) (b2 : z.toInt = f.toInt) (c3 : xEv L xs d 27 0 [.ref 43, .int 3] [] (124, I1, J1, R) none (124, I1, J1, R)) : xEv L xs (d + 1) 35 0 [.ref 43, .int f, xmk] [] (124, I, J, R) (some (.int z)) (124, I1, J1, R) := by
  refine ev_go 1 (pc1 := 1) (lv1 := [.ref 43, .int f, xmk]) (st1 := [.ref 43]) (h1 := (124, I, J, R)) rfl ?_
  refine ev_gf (c := 43) (t := 3) (X := R 43 1) rfl rfl (fun _ => rfl) rfl r_R_43_1 ?_
  refine ev_go 2 (pc1 := 6) (lv1 := [.ref 43, .int f, xmk]) (st1 := [.int 1, .ref 43, .ref 3]) (h1 := (124, I, J, R)) rfl ?_
  refine ev_call (v1 := (some (.long vv))) (h1 := (124, I1, J1, R)) rfl rfl c1 ?_
  refine ev_call (v1 := (some (.int z))) (h1 := (124, I1, J1, R)) rfl rfl c2 ?_
  refine ev_go 3 (pc1 := 15) (lv1 := [.ref 43, .int f, .int z]) (st1 := [.int (-1), .int z]) (h1 := (124, I1, J1, R)) rfl ?_
  refine ev_br (b1 := true) rfl rfl (xcd_ne (x := z) (y := (-1)) (by rw [show ((-1 : Int32)).toInt = -1 from by decide]; first | exact b1 | omega)) ?_
  refine ev_go 2 (pc1 := 28) (lv1 := [.ref 43, .int f, .int z]) (st1 := [.int f, .int z]) (h1 := (124, I1, J1, R)) rfl ?_
  refine ev_br (b1 := false) rfl rfl (xcd_nne (x := z) (y := f) (by first | exact b2 | omega)) ?_
  refine ev_go 2 (pc1 := 33) (lv1 := [.ref 43, .int f, .int z]) (st1 := [.int 3, .ref 43]) (h1 := (124, I1, J1, R)) rfl ?_
  refine ev_call (v1 := none) (h1 := (124, I1, J1, R)) rfl rfl c3 ?_
  refine ev_go 1 (pc1 := 37) (lv1 := [.ref 43, .int f, .int z]) (st1 := [.int z]) (h1 := (124, I1, J1, R)) rfl ?_
  exact ev_ret rfl rfl
set_option maxRecDepth 20000 in
theorem pb_3_3 {L : Nat} {xs : Nat → Int32} {d : Nat} {I : Nat → Nat → Int32} {J : Nat → Nat → Int64} {R : Nat → Nat → Nat} {I1 : Nat → Nat → Int32} {J1 : Nat → Nat → Int64} {f z : Int32} {vv : Int64} (hG : aGd R) (r_R_43_1 : R 43 1 = 4) (c1 : xEv L xs d 28 0 [.ref 43, .int 1] [] (124, I, J, R) (some (.long vv)) (124, I1, J1, R)) (c2 : xEv L xs d 29 0 [.ref 3, .long vv, xmk, xmk] [] (124, I1, J1, R) (some (.int z)) (124, I1, J1, R)) (b1 : z.toInt ≠ -1) (b2 : z.toInt ≠ f.toInt) : xEv L xs (d + 1) 35 0 [.ref 43, .int f, xmk] [] (124, I, J, R) (some (.int z)) (124, I1, J1, R) := by
  refine ev_go 1 (pc1 := 1) (lv1 := [.ref 43, .int f, xmk]) (st1 := [.ref 43]) (h1 := (124, I, J, R)) rfl ?_
  refine ev_gf (c := 43) (t := 3) (X := R 43 1) rfl rfl (fun _ => rfl) rfl r_R_43_1 ?_
  refine ev_go 2 (pc1 := 6) (lv1 := [.ref 43, .int f, xmk]) (st1 := [.int 1, .ref 43, .ref 3]) (h1 := (124, I, J, R)) rfl ?_
  refine ev_call (v1 := (some (.long vv))) (h1 := (124, I1, J1, R)) rfl rfl c1 ?_
  refine ev_call (v1 := (some (.int z))) (h1 := (124, I1, J1, R)) rfl rfl c2 ?_
  refine ev_go 3 (pc1 := 15) (lv1 := [.ref 43, .int f, .int z]) (st1 := [.int (-1), .int z]) (h1 := (124, I1, J1, R)) rfl ?_
  refine ev_br (b1 := true) rfl rfl (xcd_ne (x := z) (y := (-1)) (by rw [show ((-1 : Int32)).toInt = -1 from by decide]; first | exact b1 | omega)) ?_
  refine ev_go 2 (pc1 := 28) (lv1 := [.ref 43, .int f, .int z]) (st1 := [.int f, .int z]) (h1 := (124, I1, J1, R)) rfl ?_
  refine ev_br (b1 := true) rfl rfl (xcd_ne (x := z) (y := f) (by first | exact b2 | omega)) ?_
  refine ev_go 1 (pc1 := 37) (lv1 := [.ref 43, .int f, .int z]) (st1 := [.int z]) (h1 := (124, I1, J1, R)) rfl ?_
  exact ev_ret rfl rfl
set_option maxRecDepth 20000 in
theorem pn_1_23 {L : Nat} {xs : Nat → Int32} {d : Nat} {I : Nat → Nat → Int32} {J : Nat → Nat → Int64} {R : Nat → Nat → Nat} {q : Int32} {vv : Int64} (hG : aGd R) (b1 : q.toInt ≥ (I 23 14).toInt) : xEv L xs d 29 2 [.ref 23, .long vv, xmk, .int q] [] (124, I, J, R) (some (.int (-1))) (124, I, J, R) := by
  refine ev_go 3 (pc1 := 7) (lv1 := [.ref 23, .long vv, xmk, .int q]) (st1 := [.int (I 23 14), .int q]) (h1 := (124, I, J, R)) rfl ?_
  refine ev_br (b1 := true) rfl rfl (xcd_ge (x := q) (y := (I 23 14)) (by first | exact b1 | omega)) ?_
  refine ev_go 1 (pc1 := 39) (lv1 := [.ref 23, .long vv, xmk, .int q]) (st1 := [.int (-1)]) (h1 := (124, I, J, R)) rfl ?_
  exact ev_ret rfl rfl
set_option maxRecDepth 20000 in
theorem pn_3_23 {L : Nat} {xs : Nat → Int32} {d : Nat} {I : Nat → Nat → Int32} {J : Nat → Nat → Int64} {R : Nat → Nat → Nat} {q : Int32} {vv : Int64} (hG : aGd R) (b1 : q.toInt < (I 23 14).toInt) (b2 : q.toInt < 7) (n1 : 0 ≤ q.toInt) (m1 : q.toInt < 7) (b3 : (lg_cmp (J 24 q.toNatClampNeg) vv).toInt = 0) : xEv L xs d 29 2 [.ref 23, .long vv, xmk, .int q] [] (124, I, J, R) (some (.int q)) (124, I, J, R) := by
  refine ev_go 3 (pc1 := 7) (lv1 := [.ref 23, .long vv, xmk, .int q]) (st1 := [.int (I 23 14), .int q]) (h1 := (124, I, J, R)) rfl ?_
  refine ev_br (b1 := false) rfl rfl (xcd_nge (x := q) (y := (I 23 14)) (by first | exact b1 | omega)) ?_
  refine ev_go 2 (pc1 := 12) (lv1 := [.ref 23, .long vv, xmk, .int q]) (st1 := [.ref 23, .int q]) (h1 := (124, I, J, R)) rfl ?_
  refine ev_gf (c := 23) (t := 24) (X := R 23 0) rfl rfl (fun _ => rfl) rfl (hG 23 0 24 rfl rfl) ?_
  refine ev_go 1 (pc1 := 16) (lv1 := [.ref 23, .long vv, xmk, .int q]) (st1 := [.int 7, .int q]) (h1 := (124, I, J, R)) rfl ?_
  refine ev_br (b1 := false) rfl rfl (xcd_nge (x := q) (y := 7) (by rw [show ((7 : Int32)).toInt = 7 from by decide]; first | exact b2 | omega)) ?_
  refine ev_go 1 (pc1 := 20) (lv1 := [.ref 23, .long vv, xmk, .int q]) (st1 := [.ref 23]) (h1 := (124, I, J, R)) rfl ?_
  refine ev_gf (c := 23) (t := 24) (X := R 23 0) rfl rfl (fun _ => rfl) rfl (hG 23 0 24 rfl rfl) ?_
  refine ev_go 1 (pc1 := 24) (lv1 := [.ref 23, .long vv, xmk, .int q]) (st1 := [.int q, .ref 24]) (h1 := (124, I, J, R)) rfl ?_
  refine ev_lld (n := 7) rfl rfl (fun _ => rfl) n1 m1 ?_
  refine ev_go 2 (pc1 := 27) (lv1 := [.ref 23, .long vv, xmk, .int q]) (st1 := [.int (lg_cmp (J 24 q.toNatClampNeg) vv)]) (h1 := (124, I, J, R)) rfl ?_
  refine ev_br (b1 := false) rfl rfl (xcd_nne (x := (lg_cmp (J 24 q.toNatClampNeg) vv)) (y := 0) (by rw [show ((0 : Int32)).toInt = 0 from by decide]; first | exact b3 | omega)) ?_
  refine ev_go 1 (pc1 := 31) (lv1 := [.ref 23, .long vv, xmk, .int q]) (st1 := [.int q]) (h1 := (124, I, J, R)) rfl ?_
  exact ev_ret rfl rfl
set_option maxRecDepth 20000 in
theorem pn_4_23 {L : Nat} {xs : Nat → Int32} {d : Nat} {I : Nat → Nat → Int32} {J : Nat → Nat → Int64} {R : Nat → Nat → Nat} {q : Int32} {vv : Int64} (hG : aGd R) (b1 : q.toInt < (I 23 14).toInt) (b2 : q.toInt < 7) (n1 : 0 ≤ q.toInt) (m1 : q.toInt < 7) (b3 : (lg_cmp (J 24 q.toNatClampNeg) vv).toInt ≠ 0) {v : Option Value} {h' : xH} (hk : xEv L xs d 29 2 [.ref 23, .long vv, xmk, .int (q + 1)] [] (124, I, J, R) v h') : xEv L xs d 29 2 [.ref 23, .long vv, xmk, .int q] [] (124, I, J, R) v h' := by
  refine ev_go 3 (pc1 := 7) (lv1 := [.ref 23, .long vv, xmk, .int q]) (st1 := [.int (I 23 14), .int q]) (h1 := (124, I, J, R)) rfl ?_
  refine ev_br (b1 := false) rfl rfl (xcd_nge (x := q) (y := (I 23 14)) (by first | exact b1 | omega)) ?_
  refine ev_go 2 (pc1 := 12) (lv1 := [.ref 23, .long vv, xmk, .int q]) (st1 := [.ref 23, .int q]) (h1 := (124, I, J, R)) rfl ?_
  refine ev_gf (c := 23) (t := 24) (X := R 23 0) rfl rfl (fun _ => rfl) rfl (hG 23 0 24 rfl rfl) ?_
  refine ev_go 1 (pc1 := 16) (lv1 := [.ref 23, .long vv, xmk, .int q]) (st1 := [.int 7, .int q]) (h1 := (124, I, J, R)) rfl ?_
  refine ev_br (b1 := false) rfl rfl (xcd_nge (x := q) (y := 7) (by rw [show ((7 : Int32)).toInt = 7 from by decide]; first | exact b2 | omega)) ?_
  refine ev_go 1 (pc1 := 20) (lv1 := [.ref 23, .long vv, xmk, .int q]) (st1 := [.ref 23]) (h1 := (124, I, J, R)) rfl ?_
  refine ev_gf (c := 23) (t := 24) (X := R 23 0) rfl rfl (fun _ => rfl) rfl (hG 23 0 24 rfl rfl) ?_
  refine ev_go 1 (pc1 := 24) (lv1 := [.ref 23, .long vv, xmk, .int q]) (st1 := [.int q, .ref 24]) (h1 := (124, I, J, R)) rfl ?_
  refine ev_lld (n := 7) rfl rfl (fun _ => rfl) n1 m1 ?_
  refine ev_go 2 (pc1 := 27) (lv1 := [.ref 23, .long vv, xmk, .int q]) (st1 := [.int (lg_cmp (J 24 q.toNatClampNeg) vv)]) (h1 := (124, I, J, R)) rfl ?_
  refine ev_br (b1 := true) rfl rfl (xcd_ne (x := (lg_cmp (J 24 q.toNatClampNeg) vv)) (y := 0) (by rw [show ((0 : Int32)).toInt = 0 from by decide]; first | exact b3 | omega)) ?_
  refine ev_go 2 (pc1 := 2) (lv1 := [.ref 23, .long vv, xmk, .int (q + 1)]) (st1 := []) (h1 := (124, I, J, R)) rfl ?_
  exact hk
set_option maxRecDepth 20000 in
theorem pb_1_23 {L : Nat} {xs : Nat → Int32} {d : Nat} {I : Nat → Nat → Int32} {J : Nat → Nat → Int64} {R : Nat → Nat → Nat} {I1 : Nat → Nat → Int32} {J1 : Nat → Nat → Int64} {f z : Int32} {vv : Int64} (hG : aGd R) (r_R_43_1 : R 43 1 = 24) (c1 : xEv L xs d 28 0 [.ref 43, .int 1] [] (124, I, J, R) (some (.long vv)) (124, I1, J1, R)) (c2 : xEv L xs d 29 0 [.ref 23, .long vv, xmk, xmk] [] (124, I1, J1, R) (some (.int z)) (124, I1, J1, R)) (b1 : z.toInt = -1) (c3 : xEv L xs d 27 0 [.ref 43, .int 5] [] (124, I1, J1, R) none (124, (uI (uI I1 43 2 5) 43 3 (I1 1 4)), J1, R)) : xEv L xs (d + 1) 35 0 [.ref 43, .int f, xmk] [] (124, I, J, R) (some (.int z)) (124, (uI (uI I1 43 2 5) 43 3 (I1 1 4)), J1, R) := by
  refine ev_go 1 (pc1 := 1) (lv1 := [.ref 43, .int f, xmk]) (st1 := [.ref 43]) (h1 := (124, I, J, R)) rfl ?_
  refine ev_gf (c := 43) (t := 23) (X := R 43 1) rfl rfl (fun _ => rfl) rfl r_R_43_1 ?_
  refine ev_go 2 (pc1 := 6) (lv1 := [.ref 43, .int f, xmk]) (st1 := [.int 1, .ref 43, .ref 23]) (h1 := (124, I, J, R)) rfl ?_
  refine ev_call (v1 := (some (.long vv))) (h1 := (124, I1, J1, R)) rfl rfl c1 ?_
  refine ev_call (v1 := (some (.int z))) (h1 := (124, I1, J1, R)) rfl rfl c2 ?_
  refine ev_go 3 (pc1 := 15) (lv1 := [.ref 43, .int f, .int z]) (st1 := [.int (-1), .int z]) (h1 := (124, I1, J1, R)) rfl ?_
  refine ev_br (b1 := false) rfl rfl (xcd_nne (x := z) (y := (-1)) (by rw [show ((-1 : Int32)).toInt = -1 from by decide]; first | exact b1 | omega)) ?_
  refine ev_go 2 (pc1 := 20) (lv1 := [.ref 43, .int f, .int z]) (st1 := [.int 5, .ref 43]) (h1 := (124, I1, J1, R)) rfl ?_
  refine ev_call (v1 := none) (h1 := (124, (uI (uI I1 43 2 5) 43 3 (I1 1 4)), J1, R)) rfl rfl c3 ?_
  refine ev_go 2 (pc1 := 37) (lv1 := [.ref 43, .int f, .int z]) (st1 := [.int z]) (h1 := (124, (uI (uI I1 43 2 5) 43 3 (I1 1 4)), J1, R)) rfl ?_
  exact ev_ret rfl rfl
set_option maxRecDepth 20000 in
theorem pb_1d_23 {L : Nat} {xs : Nat → Int32} {d : Nat} {I : Nat → Nat → Int32} {J : Nat → Nat → Int64} {R : Nat → Nat → Nat} {I1 : Nat → Nat → Int32} {J1 : Nat → Nat → Int64} {f z : Int32} {vv : Int64} (hG : aGd R) (r_R_43_1 : R 43 1 = 24) (c1 : xEv L xs d 28 0 [.ref 43, .int 1] [] (124, I, J, R) (some (.long vv)) (124, I1, J1, R)) (c2 : xEv L xs d 29 0 [.ref 23, .long vv, xmk, xmk] [] (124, I1, J1, R) (some (.int z)) (124, I1, J1, R)) (b1 : z.toInt = -1) (c3 : xEv L xs d 27 0 [.ref 43, .int 5] [] (124, I1, J1, R) none (124, I1, J1, R)) : xEv L xs (d + 1) 35 0 [.ref 43, .int f, xmk] [] (124, I, J, R) (some (.int z)) (124, I1, J1, R) := by
  refine ev_go 1 (pc1 := 1) (lv1 := [.ref 43, .int f, xmk]) (st1 := [.ref 43]) (h1 := (124, I, J, R)) rfl ?_
  refine ev_gf (c := 43) (t := 23) (X := R 43 1) rfl rfl (fun _ => rfl) rfl r_R_43_1 ?_
  refine ev_go 2 (pc1 := 6) (lv1 := [.ref 43, .int f, xmk]) (st1 := [.int 1, .ref 43, .ref 23]) (h1 := (124, I, J, R)) rfl ?_
  refine ev_call (v1 := (some (.long vv))) (h1 := (124, I1, J1, R)) rfl rfl c1 ?_
  refine ev_call (v1 := (some (.int z))) (h1 := (124, I1, J1, R)) rfl rfl c2 ?_
  refine ev_go 3 (pc1 := 15) (lv1 := [.ref 43, .int f, .int z]) (st1 := [.int (-1), .int z]) (h1 := (124, I1, J1, R)) rfl ?_
  refine ev_br (b1 := false) rfl rfl (xcd_nne (x := z) (y := (-1)) (by rw [show ((-1 : Int32)).toInt = -1 from by decide]; first | exact b1 | omega)) ?_
  refine ev_go 2 (pc1 := 20) (lv1 := [.ref 43, .int f, .int z]) (st1 := [.int 5, .ref 43]) (h1 := (124, I1, J1, R)) rfl ?_
  refine ev_call (v1 := none) (h1 := (124, I1, J1, R)) rfl rfl c3 ?_
  refine ev_go 2 (pc1 := 37) (lv1 := [.ref 43, .int f, .int z]) (st1 := [.int z]) (h1 := (124, I1, J1, R)) rfl ?_
  exact ev_ret rfl rfl
set_option maxRecDepth 20000 in
theorem pb_2_23 {L : Nat} {xs : Nat → Int32} {d : Nat} {I : Nat → Nat → Int32} {J : Nat → Nat → Int64} {R : Nat → Nat → Nat} {I1 : Nat → Nat → Int32} {J1 : Nat → Nat → Int64} {f z : Int32} {vv : Int64} (hG : aGd R) (r_R_43_1 : R 43 1 = 24) (c1 : xEv L xs d 28 0 [.ref 43, .int 1] [] (124, I, J, R) (some (.long vv)) (124, I1, J1, R)) (c2 : xEv L xs d 29 0 [.ref 23, .long vv, xmk, xmk] [] (124, I1, J1, R) (some (.int z)) (124, I1, J1, R)) (b1 : z.toInt ≠ -1) (b2 : z.toInt = f.toInt) (c3 : xEv L xs d 27 0 [.ref 43, .int 3] [] (124, I1, J1, R) none (124, (uI (uI I1 43 2 3) 43 3 (I1 1 4)), J1, R)) : xEv L xs (d + 1) 35 0 [.ref 43, .int f, xmk] [] (124, I, J, R) (some (.int z)) (124, (uI (uI I1 43 2 3) 43 3 (I1 1 4)), J1, R) := by
  refine ev_go 1 (pc1 := 1) (lv1 := [.ref 43, .int f, xmk]) (st1 := [.ref 43]) (h1 := (124, I, J, R)) rfl ?_
  refine ev_gf (c := 43) (t := 23) (X := R 43 1) rfl rfl (fun _ => rfl) rfl r_R_43_1 ?_
  refine ev_go 2 (pc1 := 6) (lv1 := [.ref 43, .int f, xmk]) (st1 := [.int 1, .ref 43, .ref 23]) (h1 := (124, I, J, R)) rfl ?_
  refine ev_call (v1 := (some (.long vv))) (h1 := (124, I1, J1, R)) rfl rfl c1 ?_
  refine ev_call (v1 := (some (.int z))) (h1 := (124, I1, J1, R)) rfl rfl c2 ?_
  refine ev_go 3 (pc1 := 15) (lv1 := [.ref 43, .int f, .int z]) (st1 := [.int (-1), .int z]) (h1 := (124, I1, J1, R)) rfl ?_
  refine ev_br (b1 := true) rfl rfl (xcd_ne (x := z) (y := (-1)) (by rw [show ((-1 : Int32)).toInt = -1 from by decide]; first | exact b1 | omega)) ?_
  refine ev_go 2 (pc1 := 28) (lv1 := [.ref 43, .int f, .int z]) (st1 := [.int f, .int z]) (h1 := (124, I1, J1, R)) rfl ?_
  refine ev_br (b1 := false) rfl rfl (xcd_nne (x := z) (y := f) (by first | exact b2 | omega)) ?_
  refine ev_go 2 (pc1 := 33) (lv1 := [.ref 43, .int f, .int z]) (st1 := [.int 3, .ref 43]) (h1 := (124, I1, J1, R)) rfl ?_
  refine ev_call (v1 := none) (h1 := (124, (uI (uI I1 43 2 3) 43 3 (I1 1 4)), J1, R)) rfl rfl c3 ?_
  refine ev_go 1 (pc1 := 37) (lv1 := [.ref 43, .int f, .int z]) (st1 := [.int z]) (h1 := (124, (uI (uI I1 43 2 3) 43 3 (I1 1 4)), J1, R)) rfl ?_
  exact ev_ret rfl rfl
set_option maxRecDepth 20000 in
theorem pb_2d_23 {L : Nat} {xs : Nat → Int32} {d : Nat} {I : Nat → Nat → Int32} {J : Nat → Nat → Int64} {R : Nat → Nat → Nat} {I1 : Nat → Nat → Int32} {J1 : Nat → Nat → Int64} {f z : Int32} {vv : Int64} (hG : aGd R) (r_R_43_1 : R 43 1 = 24) (c1 : xEv L xs d 28 0 [.ref 43, .int 1] [] (124, I, J, R) (some (.long vv)) (124, I1, J1, R)) (c2 : xEv L xs d 29 0 [.ref 23, .long vv, xmk, xmk] [] (124, I1, J1, R) (some (.int z)) (124, I1, J1, R)) (b1 : z.toInt ≠ -1) (b2 : z.toInt = f.toInt) (c3 : xEv L xs d 27 0 [.ref 43, .int 3] [] (124, I1, J1, R) none (124, I1, J1, R)) : xEv L xs (d + 1) 35 0 [.ref 43, .int f, xmk] [] (124, I, J, R) (some (.int z)) (124, I1, J1, R) := by
  refine ev_go 1 (pc1 := 1) (lv1 := [.ref 43, .int f, xmk]) (st1 := [.ref 43]) (h1 := (124, I, J, R)) rfl ?_
  refine ev_gf (c := 43) (t := 23) (X := R 43 1) rfl rfl (fun _ => rfl) rfl r_R_43_1 ?_
  refine ev_go 2 (pc1 := 6) (lv1 := [.ref 43, .int f, xmk]) (st1 := [.int 1, .ref 43, .ref 23]) (h1 := (124, I, J, R)) rfl ?_
  refine ev_call (v1 := (some (.long vv))) (h1 := (124, I1, J1, R)) rfl rfl c1 ?_
  refine ev_call (v1 := (some (.int z))) (h1 := (124, I1, J1, R)) rfl rfl c2 ?_
  refine ev_go 3 (pc1 := 15) (lv1 := [.ref 43, .int f, .int z]) (st1 := [.int (-1), .int z]) (h1 := (124, I1, J1, R)) rfl ?_
  refine ev_br (b1 := true) rfl rfl (xcd_ne (x := z) (y := (-1)) (by rw [show ((-1 : Int32)).toInt = -1 from by decide]; first | exact b1 | omega)) ?_
  refine ev_go 2 (pc1 := 28) (lv1 := [.ref 43, .int f, .int z]) (st1 := [.int f, .int z]) (h1 := (124, I1, J1, R)) rfl ?_
  refine ev_br (b1 := false) rfl rfl (xcd_nne (x := z) (y := f) (by first | exact b2 | omega)) ?_
  refine ev_go 2 (pc1 := 33) (lv1 := [.ref 43, .int f, .int z]) (st1 := [.int 3, .ref 43]) (h1 := (124, I1, J1, R)) rfl ?_
  refine ev_call (v1 := none) (h1 := (124, I1, J1, R)) rfl rfl c3 ?_
  refine ev_go 1 (pc1 := 37) (lv1 := [.ref 43, .int f, .int z]) (st1 := [.int z]) (h1 := (124, I1, J1, R)) rfl ?_
  exact ev_ret rfl rfl
set_option maxRecDepth 20000 in
theorem pb_3_23 {L : Nat} {xs : Nat → Int32} {d : Nat} {I : Nat → Nat → Int32} {J : Nat → Nat → Int64} {R : Nat → Nat → Nat} {I1 : Nat → Nat → Int32} {J1 : Nat → Nat → Int64} {f z : Int32} {vv : Int64} (hG : aGd R) (r_R_43_1 : R 43 1 = 24) (c1 : xEv L xs d 28 0 [.ref 43, .int 1] [] (124, I, J, R) (some (.long vv)) (124, I1, J1, R)) (c2 : xEv L xs d 29 0 [.ref 23, .long vv, xmk, xmk] [] (124, I1, J1, R) (some (.int z)) (124, I1, J1, R)) (b1 : z.toInt ≠ -1) (b2 : z.toInt ≠ f.toInt) : xEv L xs (d + 1) 35 0 [.ref 43, .int f, xmk] [] (124, I, J, R) (some (.int z)) (124, I1, J1, R) := by
  refine ev_go 1 (pc1 := 1) (lv1 := [.ref 43, .int f, xmk]) (st1 := [.ref 43]) (h1 := (124, I, J, R)) rfl ?_
  refine ev_gf (c := 43) (t := 23) (X := R 43 1) rfl rfl (fun _ => rfl) rfl r_R_43_1 ?_
  refine ev_go 2 (pc1 := 6) (lv1 := [.ref 43, .int f, xmk]) (st1 := [.int 1, .ref 43, .ref 23]) (h1 := (124, I, J, R)) rfl ?_
  refine ev_call (v1 := (some (.long vv))) (h1 := (124, I1, J1, R)) rfl rfl c1 ?_
  refine ev_call (v1 := (some (.int z))) (h1 := (124, I1, J1, R)) rfl rfl c2 ?_
  refine ev_go 3 (pc1 := 15) (lv1 := [.ref 43, .int f, .int z]) (st1 := [.int (-1), .int z]) (h1 := (124, I1, J1, R)) rfl ?_
  refine ev_br (b1 := true) rfl rfl (xcd_ne (x := z) (y := (-1)) (by rw [show ((-1 : Int32)).toInt = -1 from by decide]; first | exact b1 | omega)) ?_
  refine ev_go 2 (pc1 := 28) (lv1 := [.ref 43, .int f, .int z]) (st1 := [.int f, .int z]) (h1 := (124, I1, J1, R)) rfl ?_
  refine ev_br (b1 := true) rfl rfl (xcd_ne (x := z) (y := f) (by first | exact b2 | omega)) ?_
  refine ev_go 1 (pc1 := 37) (lv1 := [.ref 43, .int f, .int z]) (st1 := [.int z]) (h1 := (124, I1, J1, R)) rfl ?_
  exact ev_ret rfl rfl
/-- the class's token -/
def cTok (b : Nat → Int32) (n : Nat) (I : Nat → Nat → Int32) (J : Nat → Nat → Int64) (st k e : Nat) : Prop := (I 1 1).toInt = n ∧ (I 1 2).toInt = e ∧ (I 1 3).toInt = cKd k (e - st) ∧ (I 1 4).toInt = st ∧ (k = 1 ∨ k = 2 → J 1 5 = vF b st (e - st)) ∧ bX I n = b ∧ e ≤ n ∧ st ≤ e
/-- heaps alike but for the token and the fault -/
def alX (I I' : Nat → Nat → Int32) (J J' : Nat → Nat → Int64) : Prop := (∀ c q, ¬ (c = 1 ∧ (q = 2 ∨ q = 3 ∨ q = 4)) → ¬ (c = 43 ∧ (q = 2 ∨ q = 3)) → I' c q = I c q) ∧ (∀ c q, ¬ (c = 1 ∧ q = 5) → J' c q = J c q)
theorem alX_r (I : Nat → Nat → Int32) (J : Nat → Nat → Int64) : alX I I J J := ⟨fun _ _ _ _ => rfl, fun _ _ _ => rfl⟩
theorem alX_t {I I' I2 : Nat → Nat → Int32} {J J' J2 : Nat → Nat → Int64} (h : alX I I' J J') (h' : alX I' I2 J' J2) : alX I I2 J J2 := ⟨fun c q hq hr => (h'.1 c q hq hr).trans (h.1 c q hq hr), fun c q hq => (h'.2 c q hq).trans (h.2 c q hq)⟩
theorem alX_T {I I' : Nat → Nat → Int32} {J J' : Nat → Nat → Int64} (h : alT I I' J J') : alX I I' J J' := ⟨fun c q hq _ => h.1 c q hq, h.2⟩
theorem alX_F {I : Nat → Nat → Int32} {J : Nat → Nat → Int64} (k x : Int32) : alX I (uI (uI I 43 2 k) 43 3 x) J J := ⟨fun c q _ hr => by rw [uI_n _ _ (fun z => hr ⟨z.1, Or.inr z.2⟩), uI_n _ _ (fun z => hr ⟨z.1, Or.inl z.2⟩)], fun _ _ _ => rfl⟩
theorem alX_b {I I' : Nat → Nat → Int32} {J J' : Nat → Nat → Int64} (h : alX I I' J J') (n : Nat) : bX I' n = bX I n := by
  funext q
  unfold bX
  by_cases e : q < n
  · rw [if_pos e, if_pos e, h.1 2 q (fun z => absurd z.1 (by decide)) (fun z => absurd z.1 (by decide))]
  · rw [if_neg e, if_neg e]
section RT
variable {L : Nat} {xs : Nat → Int32} {d : Nat} {R : Nat → Nat → Nat} {b : Nat → Int32} {n p : Nat} {I : Nat → Nat → Int32} {J : Nat → Nat → Int64}
theorem tk_run (hG : aGd R) (hn9 : n ≤ 900) (h0 : (I 43 2).toInt = 0) (hn : (I 1 1).toInt = n) (hp : (I 1 2).toInt = p) (hpn : p ≤ n) (hb : bX I n = b) {K : Int32} {K' : Nat} (hK : K.toInt = K') : ∃ (st k e : Nat) (I' : Nat → Nat → Int32) (J' : Nat → Nat → Int64) (val : Int64), xEv L xs (d + 2) 28 0 [.ref 43, .int K] [] (124, I, J, R) (some (.long val)) (124, I', J', R) ∧ isTok b p st k e ∧ st ≤ e ∧ e ≤ n ∧ alX I I' J J' ∧ ((cKd k (e - st) = K' ∧ (I' 43 2).toInt = 0 ∧ I' 43 3 = I 43 3 ∧ cTok b n I' J' st k e ∧ val = J' 1 5) ∨ (cKd k (e - st) ≠ K' ∧ (I' 43 2).toInt = 1 ∧ (I' 43 3).toInt = st)) := by
  obtain ⟨st, k, e, I1, J1, c1, tk, a1, a2, a3, a4, a5, a6, a7, a8⟩ := ad_run (L := L) (xs := xs) (d := d) (R := R) hG hn9 (J := J) hn hp hpn
  rw [hb] at tk a7
  have e43 : I1 43 2 = I 43 2 := a8.1 43 2 (by omega)
  have e433 : I1 43 3 = I 43 3 := a8.1 43 3 (by omega)
  have e11 : I1 1 1 = I 1 1 := a8.1 1 1 (by omega)
  by_cases hk : cKd k (e - st) = K'
  · exact ⟨st, k, e, I1, J1, _, tk_1 hG h0 c1 (by omega), tk, a3, a2, alX_T a8, Or.inl ⟨hk, by rw [e43]; exact h0, e433, ⟨by rw [e11]; exact hn, a4, a5, a6, a7, by rw [alX_b (alX_T a8)]; exact hb, a2, a3⟩, rfl⟩⟩
  · have c2 := fl_a (L := L) (xs := xs) (d := d + 1) (I := I1) (J := J1) (k := 1) hG (by rw [e43]; exact h0)
    exact ⟨st, k, e, uI (uI I1 43 2 1) 43 3 (I1 1 4), J1, _, tk_2 hG h0 c1 (by omega) c2, tk, a3, a2, alX_t (alX_T a8) (alX_F _ _), Or.inr ⟨hk, rfl, a6⟩⟩
theorem tk_dead (hG : aGd R) (h0 : (I 43 2).toInt ≠ 0) {K : Int32} : xEv L xs d 28 0 [.ref 43, .int K] [] (124, I, J, R) (some (.long (-1))) (124, I, J, R) := tk_d hG h0
theorem lg_lt {x y : Int64} : (lg_cmp x y).toInt < 0 ↔ x.toInt < y.toInt := by
  unfold lg_cmp
  by_cases h1 : x > y
  · have := Int64.lt_iff_toInt_lt.mp h1
    rw [if_pos h1]
    constructor
    · intro h; exact absurd h (by decide)
    · intro h; omega
  · rw [if_neg h1]
    by_cases h2 : x = y
    · rw [if_pos h2, h2]
      constructor
      · intro h; exact absurd h (by decide)
      · intro h; omega
    · rw [if_neg h2]
      have h3 : ¬ y.toInt < x.toInt := fun z => h1 (Int64.lt_iff_toInt_lt.mpr z)
      have h4 : x.toInt ≠ y.toInt := fun z => h2 (Int64.toInt_inj.mp z)
      constructor
      · intro _; omega
      · intro _; decide
theorem lg_gt {x y : Int64} : (lg_cmp x y).toInt > 0 ↔ y.toInt < x.toInt := by
  unfold lg_cmp
  by_cases h1 : x > y
  · have := Int64.lt_iff_toInt_lt.mp h1
    rw [if_pos h1]
    exact ⟨fun _ => this, fun _ => by decide⟩
  · rw [if_neg h1]
    have h3 : ¬ y.toInt < x.toInt := fun z => h1 (Int64.lt_iff_toInt_lt.mpr z)
    by_cases h2 : x = y
    · rw [if_pos h2]
      exact ⟨fun h => absurd h (by decide), fun h => absurd h h3⟩
    · rw [if_neg h2]
      exact ⟨fun h => absurd h (by decide), fun h => absurd h h3⟩
theorem i2l_t (x : Int32) : x.toInt64.toInt = x.toInt := Int32.toInt_toInt64 x
/-- readNumber, no fault yet -/
theorem nu_run (hG : aGd R) (hn9 : n ≤ 900) (h0 : (I 43 2).toInt = 0) (hn : (I 1 1).toInt = n) (hp : (I 1 2).toInt = p) (hpn : p ≤ n) (hb : bX I n = b) (lo hi : Int32) : ∃ (st k e : Nat) (I' : Nat → Nat → Int32) (J' : Nat → Nat → Int64) (z : Int32), xEv L xs (d + 3) 30 0 [.ref 43, .int lo, .int hi, xmk, xmk] [] (124, I, J, R) (some (.int z)) (124, I', J', R) ∧ isTok b p st k e ∧ st ≤ e ∧ e ≤ n ∧ alX I I' J J' ∧ ((cKd k (e - st) = 2 ∧ lo.toInt ≤ (J' 1 5).toInt ∧ (J' 1 5).toInt ≤ hi.toInt ∧ (I' 43 2).toInt = 0 ∧ I' 43 3 = I 43 3 ∧ cTok b n I' J' st k e ∧ z = (J' 1 5).toInt32) ∨ (cKd k (e - st) = 2 ∧ ¬ (lo.toInt ≤ (vF b st (e - st)).toInt ∧ (vF b st (e - st)).toInt ≤ hi.toInt) ∧ (I' 43 2).toInt = 2 ∧ (I' 43 3).toInt = st) ∨ (cKd k (e - st) ≠ 2 ∧ (I' 43 2).toInt = 1 ∧ (I' 43 3).toInt = st)) := by
  obtain ⟨st, k, e, I1, J1, val, c1, tk, a1, a2, al, hh⟩ := tk_run (L := L) (xs := xs) (d := d) (R := R) (J := J) hG hn9 h0 hn hp hpn hb (K := 2) (K' := 2) (by decide)
  rcases hh with ⟨hk, f1, f2, f3, f4⟩ | ⟨hk, f1, f2⟩
  · have hv : k = 1 ∨ k = 2 := by
      unfold cKd at hk
      split at hk
      · omega
      · exact Or.inr hk
    have ev : J1 1 5 = vF b st (e - st) := f3.2.2.2.2.1 hv
    have c2 := fl_a (L := L) (xs := xs) (d := d + 2) (I := I1) (J := J1) (k := 2) hG f1
    by_cases g1 : val.toInt < lo.toInt
    · refine ⟨st, k, e, _, J1, _, nu_1 hG c1 (lg_lt.mpr (by rw [i2l_t]; exact g1)) c2, tk, a1, a2, alX_t al (alX_F _ _), Or.inr (Or.inl ⟨hk, ?_, rfl, f3.2.2.2.1⟩)⟩
      rw [← ev, ← f4]
      omega
    · by_cases g2 : val.toInt > hi.toInt
      · refine ⟨st, k, e, _, J1, _, nu_2 hG c1 (by have := mt (lg_lt (x := val) (y := lo.toInt64)).mp (by rw [i2l_t]; omega); omega) (lg_gt.mpr (by rw [i2l_t]; exact g2)) c2, tk, a1, a2, alX_t al (alX_F _ _), Or.inr (Or.inl ⟨hk, ?_, rfl, f3.2.2.2.1⟩)⟩
        rw [← ev, ← f4]
        omega
      · refine ⟨st, k, e, I1, J1, _, nu_3 hG c1 (by have := mt (lg_lt (x := val) (y := lo.toInt64)).mp (by rw [i2l_t]; omega); omega) (by have := mt (lg_gt (x := val) (y := hi.toInt64)).mp (by rw [i2l_t]; omega); omega), tk, a1, a2, al, Or.inl ⟨hk, by rw [← f4]; omega, by rw [← f4]; omega, f1, f2, f3, by rw [← f4]⟩⟩
  · have c2 := fl_d (L := L) (xs := xs) (d := d + 2) (I := I1) (J := J1) (k := 2) hG (by omega)
    by_cases g1 : (lg_cmp val lo.toInt64).toInt < 0
    · exact ⟨st, k, e, I1, J1, _, nu_1d hG c1 g1 c2, tk, a1, a2, al, Or.inr (Or.inr ⟨hk, f1, f2⟩)⟩
    · by_cases g2 : (lg_cmp val hi.toInt64).toInt > 0
      · exact ⟨st, k, e, I1, J1, _, nu_2d hG c1 (by omega) g2 c2, tk, a1, a2, al, Or.inr (Or.inr ⟨hk, f1, f2⟩)⟩
      · exact ⟨st, k, e, I1, J1, _, nu_3 hG c1 (by omega) (by omega), tk, a1, a2, al, Or.inr (Or.inr ⟨hk, f1, f2⟩)⟩
theorem nu_dead (hG : aGd R) (h0 : (I 43 2).toInt ≠ 0) (lo hi : Int32) : ∃ z : Int32, xEv L xs (d + 1) 30 0 [.ref 43, .int lo, .int hi, xmk, xmk] [] (124, I, J, R) (some (.int z)) (124, I, J, R) := by
  have c1 := tk_d (L := L) (xs := xs) (d := d) (I := I) (J := J) (k := 2) hG h0
  have c2 := fl_d (L := L) (xs := xs) (d := d) (I := I) (J := J) (k := 2) hG h0
  by_cases g1 : (lg_cmp (-1) lo.toInt64).toInt < 0
  · exact ⟨_, nu_1d hG c1 g1 c2⟩
  · by_cases g2 : (lg_cmp (-1) hi.toInt64).toInt > 0
    · exact ⟨_, nu_2d hG c1 (by omega) g2 c2⟩
    · exact ⟨_, nu_3 hG c1 (by omega) (by omega)⟩
end RT
section PN3
variable {L : Nat} {xs : Nat → Int32} {d : Nat} {R : Nat → Nat → Nat} {I : Nat → Nat → Int32} {J : Nat → Nat → Int64}
theorem pn_l_3 (hG : aGd R) {m : Nat} (hm : (I 3 14).toInt = m) (hm7 : m ≤ 7) (val : Int64) : ∀ (f : Nat) (q : Int32) (Q : Nat), m - Q = f → q.toInt = Q → Q ≤ m → (∀ i, i < Q → J 4 i ≠ val) → ∃ z : Int32, xEv L xs d 29 2 [.ref 3, .long val, xmk, .int q] [] (124, I, J, R) (some (.int z)) (124, I, J, R) ∧ ((z.toInt = -1 ∧ ∀ i, i < m → J 4 i ≠ val) ∨ (∃ i : Nat, i < m ∧ z.toInt = i ∧ J 4 i = val ∧ ∀ i', i' < i → J 4 i' ≠ val)) := by
  intro f
  induction f with
  | zero =>
    intro q Q hf hq hQ hl
    have e : Q = m := by omega
    subst e
    exact ⟨_, pn_1_3 hG (by omega), Or.inl ⟨by decide, hl⟩⟩
  | succ f ih =>
    intro q Q hf hq hQ hl
    have ei := i_add1 (x := q) (by omega)
    have ec := clamp_s (i := q) (by omega)
    have e : q.toNatClampNeg = Q := by omega
    have hcmp : (lg_cmp (J 4 Q) val).toInt = 0 ↔ J 4 Q = val := by
      unfold lg_cmp
      by_cases h1 : J 4 Q > val
      · rw [if_pos h1]
        exact ⟨fun h => absurd h (by decide), fun h => absurd (Int64.lt_iff_toInt_lt.mp h1) (by rw [h]; omega)⟩
      · rw [if_neg h1]
        by_cases h2 : J 4 Q = val
        · rw [if_pos h2]; exact ⟨fun _ => h2, fun _ => by decide⟩
        · rw [if_neg h2]; exact ⟨fun h => absurd h (by decide), fun h => absurd h h2⟩
    by_cases hv : J 4 Q = val
    · exact ⟨q, pn_3_3 hG (by omega) (by omega) (by omega) (by omega) (by rw [e]; exact hcmp.mpr hv), Or.inr ⟨Q, by omega, hq, hv, hl⟩⟩
    · obtain ⟨z, z1, z2⟩ := ih (q + 1) (Q + 1) (by omega) (by omega) (by omega) (by
        intro i hi
        by_cases ei : i = Q
        · rw [ei]; exact hv
        · exact hl i (by omega))
      exact ⟨z, pn_4_3 hG (by omega) (by omega) (by omega) (by omega) (by rw [e]; exact fun h => hv (hcmp.mp h)) z1, z2⟩
theorem pn_run_3 (hG : aGd R) {m : Nat} (hm : (I 3 14).toInt = m) (hm7 : m ≤ 7) (val : Int64) : ∃ z : Int32, xEv L xs d 29 0 [.ref 3, .long val, xmk, xmk] [] (124, I, J, R) (some (.int z)) (124, I, J, R) ∧ ((z.toInt = -1 ∧ ∀ i, i < m → J 4 i ≠ val) ∨ (∃ i : Nat, i < m ∧ z.toInt = i ∧ J 4 i = val ∧ ∀ i', i' < i → J 4 i' ≠ val)) := by
  obtain ⟨z, z1, z2⟩ := pn_l_3 (L := L) (xs := xs) (d := d) (J := J) hG hm hm7 val _ 0 0 rfl rfl (Nat.zero_le _) (fun i hi => by omega)
  exact ⟨z, ev_go 2 (pc1 := 2) (lv1 := [.ref 3, .long val, xmk, .int 0]) (st1 := []) (h1 := (124, I, J, R)) rfl z1, z2⟩
/-- readPersonBut behind a fault -/
theorem pb_dead_3 (hG : aGd R) (hR : R 43 1 = 4) {m : Nat} (hm : (I 3 14).toInt = m) (hm7 : m ≤ 7) (h0 : (I 43 2).toInt ≠ 0) (f : Int32) : ∃ z : Int32, xEv L xs (d + 1) 35 0 [.ref 43, .int f, xmk] [] (124, I, J, R) (some (.int z)) (124, I, J, R) := by
  have c1 := tk_d (L := L) (xs := xs) (d := d) (I := I) (J := J) (k := 1) hG h0
  obtain ⟨z, c2, -⟩ := pn_run_3 (L := L) (xs := xs) (d := d) (J := J) hG hm hm7 (-1)
  by_cases g1 : z.toInt = -1
  · exact ⟨z, pb_1d_3 hG hR c1 c2 g1 (fl_d hG h0)⟩
  · by_cases g2 : z.toInt = f.toInt
    · exact ⟨z, pb_2d_3 hG hR c1 c2 g1 g2 (fl_d hG h0)⟩
    · exact ⟨z, pb_3_3 hG hR c1 c2 g1 g2⟩
end PN3
section PN23
variable {L : Nat} {xs : Nat → Int32} {d : Nat} {R : Nat → Nat → Nat} {I : Nat → Nat → Int32} {J : Nat → Nat → Int64}
theorem pn_l_23 (hG : aGd R) {m : Nat} (hm : (I 23 14).toInt = m) (hm7 : m ≤ 7) (val : Int64) : ∀ (f : Nat) (q : Int32) (Q : Nat), m - Q = f → q.toInt = Q → Q ≤ m → (∀ i, i < Q → J 24 i ≠ val) → ∃ z : Int32, xEv L xs d 29 2 [.ref 23, .long val, xmk, .int q] [] (124, I, J, R) (some (.int z)) (124, I, J, R) ∧ ((z.toInt = -1 ∧ ∀ i, i < m → J 24 i ≠ val) ∨ (∃ i : Nat, i < m ∧ z.toInt = i ∧ J 24 i = val ∧ ∀ i', i' < i → J 24 i' ≠ val)) := by
  intro f
  induction f with
  | zero =>
    intro q Q hf hq hQ hl
    have e : Q = m := by omega
    subst e
    exact ⟨_, pn_1_23 hG (by omega), Or.inl ⟨by decide, hl⟩⟩
  | succ f ih =>
    intro q Q hf hq hQ hl
    have ei := i_add1 (x := q) (by omega)
    have ec := clamp_s (i := q) (by omega)
    have e : q.toNatClampNeg = Q := by omega
    have hcmp : (lg_cmp (J 24 Q) val).toInt = 0 ↔ J 24 Q = val := by
      unfold lg_cmp
      by_cases h1 : J 24 Q > val
      · rw [if_pos h1]
        exact ⟨fun h => absurd h (by decide), fun h => absurd (Int64.lt_iff_toInt_lt.mp h1) (by rw [h]; omega)⟩
      · rw [if_neg h1]
        by_cases h2 : J 24 Q = val
        · rw [if_pos h2]; exact ⟨fun _ => h2, fun _ => by decide⟩
        · rw [if_neg h2]; exact ⟨fun h => absurd h (by decide), fun h => absurd h h2⟩
    by_cases hv : J 24 Q = val
    · exact ⟨q, pn_3_23 hG (by omega) (by omega) (by omega) (by omega) (by rw [e]; exact hcmp.mpr hv), Or.inr ⟨Q, by omega, hq, hv, hl⟩⟩
    · obtain ⟨z, z1, z2⟩ := ih (q + 1) (Q + 1) (by omega) (by omega) (by omega) (by
        intro i hi
        by_cases ei : i = Q
        · rw [ei]; exact hv
        · exact hl i (by omega))
      exact ⟨z, pn_4_23 hG (by omega) (by omega) (by omega) (by omega) (by rw [e]; exact fun h => hv (hcmp.mp h)) z1, z2⟩
theorem pn_run_23 (hG : aGd R) {m : Nat} (hm : (I 23 14).toInt = m) (hm7 : m ≤ 7) (val : Int64) : ∃ z : Int32, xEv L xs d 29 0 [.ref 23, .long val, xmk, xmk] [] (124, I, J, R) (some (.int z)) (124, I, J, R) ∧ ((z.toInt = -1 ∧ ∀ i, i < m → J 24 i ≠ val) ∨ (∃ i : Nat, i < m ∧ z.toInt = i ∧ J 24 i = val ∧ ∀ i', i' < i → J 24 i' ≠ val)) := by
  obtain ⟨z, z1, z2⟩ := pn_l_23 (L := L) (xs := xs) (d := d) (J := J) hG hm hm7 val _ 0 0 rfl rfl (Nat.zero_le _) (fun i hi => by omega)
  exact ⟨z, ev_go 2 (pc1 := 2) (lv1 := [.ref 23, .long val, xmk, .int 0]) (st1 := []) (h1 := (124, I, J, R)) rfl z1, z2⟩
/-- readPersonBut behind a fault -/
theorem pb_dead_23 (hG : aGd R) (hR : R 43 1 = 24) {m : Nat} (hm : (I 23 14).toInt = m) (hm7 : m ≤ 7) (h0 : (I 43 2).toInt ≠ 0) (f : Int32) : ∃ z : Int32, xEv L xs (d + 1) 35 0 [.ref 43, .int f, xmk] [] (124, I, J, R) (some (.int z)) (124, I, J, R) := by
  have c1 := tk_d (L := L) (xs := xs) (d := d) (I := I) (J := J) (k := 1) hG h0
  obtain ⟨z, c2, -⟩ := pn_run_23 (L := L) (xs := xs) (d := d) (J := J) hG hm hm7 (-1)
  by_cases g1 : z.toInt = -1
  · exact ⟨z, pb_1d_23 hG hR c1 c2 g1 (fl_d hG h0)⟩
  · by_cases g2 : z.toInt = f.toInt
    · exact ⟨z, pb_2d_23 hG hR c1 c2 g1 g2 (fl_d hG h0)⟩
    · exact ⟨z, pb_3_23 hG hR c1 c2 g1 g2⟩
end PN23
