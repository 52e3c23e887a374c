set_option maxRecDepth 20000 in
theorem rp_s0 {L : Nat} {xs : Nat → Int32} {d : Nat} {I : Nat → Nat → Int32} {J : Nat → Nat → Int64} {R : Nat → Nat → Nat} (hG : aGd R)  {v : Option Value} {h' : xH} (hk : xEv L xs d 211 18 [.ref 86, .int 2, .int 0, .int 0, .int 0] [] (124, (uI (uI I 86 48 (I 86 1)) 86 1 0), J, R) v h') : xEv L xs d 211 0 [.ref 86, .int 2, .int 0, xmk, xmk] [] (124, I, J, R) v h' := by
  refine ev_go 11 (pc1 := 18) (lv1 := [.ref 86, .int 2, .int 0, .int 0, .int 0]) (st1 := []) (h1 := (124, (uI (uI I 86 48 (I 86 1)) 86 1 0), J, R)) rfl ?_
  exact hk
set_option maxRecDepth 20000 in
theorem rp_y0 {L : Nat} {xs : Nat → Int32} {d : Nat} {I : Nat → Nat → Int32} {J : Nat → Nat → Int64} {R : Nat → Nat → Nat} {hd k : Int32} (hG : aGd R) (b1 : k.toInt ≥ (I 86 48).toInt) (b2 : (I 86 48).toInt ≥ 2) : xEv L xs d 211 18 [.ref 86, .int 2, .int 0, .int hd, .int k] [] (124, I, J, R) (some (.int 1)) (124, I, J, R) := by
  refine ev_go 3 (pc1 := 24) (lv1 := [.ref 86, .int 2, .int 0, .int hd, .int k]) (st1 := [.int (I 86 48), .int k]) (h1 := (124, I, J, R)) rfl ?_
  refine ev_br (b1 := true) rfl rfl (xcd_ge (x := k) (y := (I 86 48)) (by first | exact b1 | omega)) ?_
  refine ev_go 3 (pc1 := 129) (lv1 := [.ref 86, .int 2, .int 0, .int hd, .int k]) (st1 := [.int 2, .int (I 86 48)]) (h1 := (124, I, J, R)) rfl ?_
  refine ev_br (b1 := false) rfl rfl (xcd_nlt (x := (I 86 48)) (y := 2) (by rw [show ((2 : Int32)).toInt = 2 from by decide]; first | exact b2 | omega)) ?_
  refine ev_go 2 (pc1 := 137) (lv1 := [.ref 86, .int 2, .int 0, .int hd, .int k]) (st1 := [.int 1]) (h1 := (124, I, J, R)) rfl ?_
  exact ev_ret rfl rfl
set_option maxRecDepth 20000 in
theorem rp_z0 {L : Nat} {xs : Nat → Int32} {d : Nat} {I : Nat → Nat → Int32} {J : Nat → Nat → Int64} {R : Nat → Nat → Nat} {hd k : Int32} (hG : aGd R) (b1 : k.toInt ≥ (I 86 48).toInt) (b2 : (I 86 48).toInt < 2) : xEv L xs d 211 18 [.ref 86, .int 2, .int 0, .int hd, .int k] [] (124, I, J, R) (some (.int 0)) (124, I, J, R) := by
  refine ev_go 3 (pc1 := 24) (lv1 := [.ref 86, .int 2, .int 0, .int hd, .int k]) (st1 := [.int (I 86 48), .int k]) (h1 := (124, I, J, R)) rfl ?_
  refine ev_br (b1 := true) rfl rfl (xcd_ge (x := k) (y := (I 86 48)) (by first | exact b1 | omega)) ?_
  refine ev_go 3 (pc1 := 129) (lv1 := [.ref 86, .int 2, .int 0, .int hd, .int k]) (st1 := [.int 2, .int (I 86 48)]) (h1 := (124, I, J, R)) rfl ?_
  refine ev_br (b1 := true) rfl rfl (xcd_lt (x := (I 86 48)) (y := 2) (by rw [show ((2 : Int32)).toInt = 2 from by decide]; first | exact b2 | omega)) ?_
  refine ev_go 1 (pc1 := 137) (lv1 := [.ref 86, .int 2, .int 0, .int hd, .int k]) (st1 := [.int 0]) (h1 := (124, I, J, R)) rfl ?_
  exact ev_ret rfl rfl
set_option maxRecDepth 20000 in
theorem rp_x0 {L : Nat} {xs : Nat → Int32} {d : Nat} {I : Nat → Nat → Int32} {J : Nat → Nat → Int64} {R : Nat → Nat → Nat} {hd k : Int32} (hG : aGd R) (b1 : k.toInt < (I 86 48).toInt) (n1 : 0 ≤ k.toInt) (m1 : k.toInt < 900) (n2 : 0 ≤ k.toInt) (m2 : k.toInt < 900) (n3 : 0 ≤ k.toInt) (m3 : k.toInt < 900) (c1 : xEv L xs d 167 0 [.ref 86, .int ((uI I 115 k.toNatClampNeg ((I 87 k.toNatClampNeg) - 48)) 115 k.toNatClampNeg)] [] (124, (uI I 115 k.toNatClampNeg ((I 87 k.toNatClampNeg) - 48)), J, R) (some (.int 0)) (124, (uI I 115 k.toNatClampNeg ((I 87 k.toNatClampNeg) - 48)), J, R)) : xEv L xs (d + 1) 211 18 [.ref 86, .int 2, .int 0, .int hd, .int k] [] (124, I, J, R) (some (.int 0)) (124, (uI I 115 k.toNatClampNeg ((I 87 k.toNatClampNeg) - 48)), J, R) := by
  refine ev_go 3 (pc1 := 24) (lv1 := [.ref 86, .int 2, .int 0, .int hd, .int k]) (st1 := [.int (I 86 48), .int k]) (h1 := (124, I, J, R)) rfl ?_
  refine ev_br (b1 := false) rfl rfl (xcd_nge (x := k) (y := (I 86 48)) (by first | exact b1 | omega)) ?_
  refine ev_go 1 (pc1 := 28) (lv1 := [.ref 86, .int 2, .int 0, .int hd, .int k]) (st1 := [.ref 86]) (h1 := (124, I, J, R)) rfl ?_
  refine ev_gf (c := 86) (t := 115) (X := R 86 49) rfl rfl (fun _ => rfl) rfl (hG 86 49 115 rfl rfl) ?_
  refine ev_go 2 (pc1 := 34) (lv1 := [.ref 86, .int 2, .int 0, .int hd, .int k]) (st1 := [.ref 86, .int k, .ref 115]) (h1 := (124, I, J, R)) rfl ?_
  refine ev_gf (c := 86) (t := 87) (X := R 86 0) rfl rfl (fun _ => rfl) rfl (hG 86 0 87 rfl rfl) ?_
  refine ev_go 1 (pc1 := 39) (lv1 := [.ref 86, .int 2, .int 0, .int hd, .int k]) (st1 := [.int k, .ref 87, .int k, .ref 115]) (h1 := (124, I, J, R)) rfl ?_
  refine ev_bld (n := 900) (t := .byte) rfl rfl (fun _ => rfl) rfl n1 m1 ?_
  refine ev_go 2 (pc1 := 43) (lv1 := [.ref 86, .int 2, .int 0, .int hd, .int k]) (st1 := [.int ((I 87 k.toNatClampNeg) - 48), .int k, .ref 115]) (h1 := (124, I, J, R)) rfl ?_
  refine ev_ist (n := 900) rfl rfl (fun _ => rfl) n2 m2 ?_
  refine ev_go 2 (pc1 := 46) (lv1 := [.ref 86, .int 2, .int 0, .int hd, .int k]) (st1 := [.ref 86, .ref 86]) (h1 := (124, (uI I 115 k.toNatClampNeg ((I 87 k.toNatClampNeg) - 48)), J, R)) rfl ?_
  refine ev_gf (c := 86) (t := 115) (X := R 86 49) rfl rfl (fun _ => rfl) rfl (hG 86 49 115 rfl rfl) ?_
  refine ev_go 1 (pc1 := 51) (lv1 := [.ref 86, .int 2, .int 0, .int hd, .int k]) (st1 := [.int k, .ref 115, .ref 86]) (h1 := (124, (uI I 115 k.toNatClampNeg ((I 87 k.toNatClampNeg) - 48)), J, R)) rfl ?_
  refine ev_ild (n := 900) rfl rfl (fun _ => rfl) n3 m3 ?_
  refine ev_call (v1 := (some (.int 0))) (h1 := (124, (uI I 115 k.toNatClampNeg ((I 87 k.toNatClampNeg) - 48)), J, R)) rfl rfl c1 ?_
  refine ev_go 2 (pc1 := 105) (lv1 := [.ref 86, .int 2, .int 0, .int hd, .int k]) (st1 := [.int 0]) (h1 := (124, (uI I 115 k.toNatClampNeg ((I 87 k.toNatClampNeg) - 48)), J, R)) rfl ?_
  exact ev_ret rfl rfl
set_option maxRecDepth 20000 in
theorem rp_f0 {L : Nat} {xs : Nat → Int32} {d : Nat} {I : Nat → Nat → Int32} {J : Nat → Nat → Int64} {R : Nat → Nat → Nat} {hd k : Int32} (hG : aGd R) (b1 : k.toInt < (I 86 48).toInt) (n1 : 0 ≤ k.toInt) (m1 : k.toInt < 900) (n2 : 0 ≤ k.toInt) (m2 : k.toInt < 900) (n3 : 0 ≤ k.toInt) (m3 : k.toInt < 900) (c1 : xEv L xs d 167 0 [.ref 86, .int ((uI I 115 k.toNatClampNeg ((I 87 k.toNatClampNeg) - 48)) 115 k.toNatClampNeg)] [] (124, (uI I 115 k.toNatClampNeg ((I 87 k.toNatClampNeg) - 48)), J, R) (some (.int 1)) (124, (uI I 115 k.toNatClampNeg ((I 87 k.toNatClampNeg) - 48)), J, R)) (b2 : k.toInt ≤ 0) (n4 : 0 ≤ k.toInt) (m4 : k.toInt < 900) {v : Option Value} {h' : xH} (hk : xEv L xs (d + 1) 211 18 [.ref 86, .int 2, .int 0, .int (hd ||| (1 <<< (((uI I 115 k.toNatClampNeg ((I 87 k.toNatClampNeg) - 48)) 115 k.toNatClampNeg) &&& 31))), .int (k + 1)] [] (124, (uI I 115 k.toNatClampNeg ((I 87 k.toNatClampNeg) - 48)), J, R) v h') : xEv L xs (d + 1) 211 18 [.ref 86, .int 2, .int 0, .int hd, .int k] [] (124, I, J, R) v h' := by
  refine ev_go 3 (pc1 := 24) (lv1 := [.ref 86, .int 2, .int 0, .int hd, .int k]) (st1 := [.int (I 86 48), .int k]) (h1 := (124, I, J, R)) rfl ?_
  refine ev_br (b1 := false) rfl rfl (xcd_nge (x := k) (y := (I 86 48)) (by first | exact b1 | omega)) ?_
  refine ev_go 1 (pc1 := 28) (lv1 := [.ref 86, .int 2, .int 0, .int hd, .int k]) (st1 := [.ref 86]) (h1 := (124, I, J, R)) rfl ?_
  refine ev_gf (c := 86) (t := 115) (X := R 86 49) rfl rfl (fun _ => rfl) rfl (hG 86 49 115 rfl rfl) ?_
  refine ev_go 2 (pc1 := 34) (lv1 := [.ref 86, .int 2, .int 0, .int hd, .int k]) (st1 := [.ref 86, .int k, .ref 115]) (h1 := (124, I, J, R)) rfl ?_
  refine ev_gf (c := 86) (t := 87) (X := R 86 0) rfl rfl (fun _ => rfl) rfl (hG 86 0 87 rfl rfl) ?_
  refine ev_go 1 (pc1 := 39) (lv1 := [.ref 86, .int 2, .int 0, .int hd, .int k]) (st1 := [.int k, .ref 87, .int k, .ref 115]) (h1 := (124, I, J, R)) rfl ?_
  refine ev_bld (n := 900) (t := .byte) rfl rfl (fun _ => rfl) rfl n1 m1 ?_
  refine ev_go 2 (pc1 := 43) (lv1 := [.ref 86, .int 2, .int 0, .int hd, .int k]) (st1 := [.int ((I 87 k.toNatClampNeg) - 48), .int k, .ref 115]) (h1 := (124, I, J, R)) rfl ?_
  refine ev_ist (n := 900) rfl rfl (fun _ => rfl) n2 m2 ?_
  refine ev_go 2 (pc1 := 46) (lv1 := [.ref 86, .int 2, .int 0, .int hd, .int k]) (st1 := [.ref 86, .ref 86]) (h1 := (124, (uI I 115 k.toNatClampNeg ((I 87 k.toNatClampNeg) - 48)), J, R)) rfl ?_
  refine ev_gf (c := 86) (t := 115) (X := R 86 49) rfl rfl (fun _ => rfl) rfl (hG 86 49 115 rfl rfl) ?_
  refine ev_go 1 (pc1 := 51) (lv1 := [.ref 86, .int 2, .int 0, .int hd, .int k]) (st1 := [.int k, .ref 115, .ref 86]) (h1 := (124, (uI I 115 k.toNatClampNeg ((I 87 k.toNatClampNeg) - 48)), J, R)) rfl ?_
  refine ev_ild (n := 900) rfl rfl (fun _ => rfl) n3 m3 ?_
  refine ev_call (v1 := (some (.int 1))) (h1 := (124, (uI I 115 k.toNatClampNeg ((I 87 k.toNatClampNeg) - 48)), J, R)) rfl rfl c1 ?_
  refine ev_go 4 (pc1 := 82) (lv1 := [.ref 86, .int 2, .int 0, .int hd, .int k]) (st1 := [.int k]) (h1 := (124, (uI I 115 k.toNatClampNeg ((I 87 k.toNatClampNeg) - 48)), J, R)) rfl ?_
  refine ev_br (b1 := true) rfl rfl (xcd_le (x := k) (y := 0) (by rw [show ((0 : Int32)).toInt = 0 from by decide]; first | exact b2 | omega)) ?_
  refine ev_go 3 (pc1 := 109) (lv1 := [.ref 86, .int 2, .int 0, .int hd, .int k]) (st1 := [.ref 86, .int 1, .int hd]) (h1 := (124, (uI I 115 k.toNatClampNeg ((I 87 k.toNatClampNeg) - 48)), J, R)) rfl ?_
  refine ev_gf (c := 86) (t := 115) (X := R 86 49) rfl rfl (fun _ => rfl) rfl (hG 86 49 115 rfl rfl) ?_
  refine ev_go 1 (pc1 := 114) (lv1 := [.ref 86, .int 2, .int 0, .int hd, .int k]) (st1 := [.int k, .ref 115, .int 1, .int hd]) (h1 := (124, (uI I 115 k.toNatClampNeg ((I 87 k.toNatClampNeg) - 48)), J, R)) rfl ?_
  refine ev_ild (n := 900) rfl rfl (fun _ => rfl) n4 m4 ?_
  refine ev_go 5 (pc1 := 18) (lv1 := [.ref 86, .int 2, .int 0, .int (hd ||| (1 <<< (((uI I 115 k.toNatClampNeg ((I 87 k.toNatClampNeg) - 48)) 115 k.toNatClampNeg) &&& 31))), .int (k + 1)]) (st1 := []) (h1 := (124, (uI I 115 k.toNatClampNeg ((I 87 k.toNatClampNeg) - 48)), J, R)) rfl ?_
  exact hk
set_option maxRecDepth 20000 in
theorem rp_g0 {L : Nat} {xs : Nat → Int32} {d : Nat} {I : Nat → Nat → Int32} {J : Nat → Nat → Int64} {R : Nat → Nat → Nat} {hd k : Int32} (hG : aGd R) (b1 : k.toInt < (I 86 48).toInt) (n1 : 0 ≤ k.toInt) (m1 : k.toInt < 900) (n2 : 0 ≤ k.toInt) (m2 : k.toInt < 900) (n3 : 0 ≤ k.toInt) (m3 : k.toInt < 900) (c1 : xEv L xs d 167 0 [.ref 86, .int ((uI I 115 k.toNatClampNeg ((I 87 k.toNatClampNeg) - 48)) 115 k.toNatClampNeg)] [] (124, (uI I 115 k.toNatClampNeg ((I 87 k.toNatClampNeg) - 48)), J, R) (some (.int 1)) (124, (uI I 115 k.toNatClampNeg ((I 87 k.toNatClampNeg) - 48)), J, R)) (b2 : k.toInt > 0) (n4 : 0 ≤ (k - 1).toInt) (m4 : (k - 1).toInt < 900) (n5 : 0 ≤ k.toInt) (m5 : k.toInt < 900) (b3 : ((uI I 115 k.toNatClampNeg ((I 87 k.toNatClampNeg) - 48)) 115 (k - 1).toNatClampNeg).toInt ≠ ((uI I 115 k.toNatClampNeg ((I 87 k.toNatClampNeg) - 48)) 115 k.toNatClampNeg).toInt) (n6 : 0 ≤ k.toInt) (m6 : k.toInt < 900) {v : Option Value} {h' : xH} (hk : xEv L xs (d + 1) 211 18 [.ref 86, .int 2, .int 0, .int (hd ||| (1 <<< (((uI I 115 k.toNatClampNeg ((I 87 k.toNatClampNeg) - 48)) 115 k.toNatClampNeg) &&& 31))), .int (k + 1)] [] (124, (uI I 115 k.toNatClampNeg ((I 87 k.toNatClampNeg) - 48)), J, R) v h') : xEv L xs (d + 1) 211 18 [.ref 86, .int 2, .int 0, .int hd, .int k] [] (124, I, J, R) v h' := by
  refine ev_go 3 (pc1 := 24) (lv1 := [.ref 86, .int 2, .int 0, .int hd, .int k]) (st1 := [.int (I 86 48), .int k]) (h1 := (124, I, J, R)) rfl ?_
  refine ev_br (b1 := false) rfl rfl (xcd_nge (x := k) (y := (I 86 48)) (by first | exact b1 | omega)) ?_
  refine ev_go 1 (pc1 := 28) (lv1 := [.ref 86, .int 2, .int 0, .int hd, .int k]) (st1 := [.ref 86]) (h1 := (124, I, J, R)) rfl ?_
  refine ev_gf (c := 86) (t := 115) (X := R 86 49) rfl rfl (fun _ => rfl) rfl (hG 86 49 115 rfl rfl) ?_
  refine ev_go 2 (pc1 := 34) (lv1 := [.ref 86, .int 2, .int 0, .int hd, .int k]) (st1 := [.ref 86, .int k, .ref 115]) (h1 := (124, I, J, R)) rfl ?_
  refine ev_gf (c := 86) (t := 87) (X := R 86 0) rfl rfl (fun _ => rfl) rfl (hG 86 0 87 rfl rfl) ?_
  refine ev_go 1 (pc1 := 39) (lv1 := [.ref 86, .int 2, .int 0, .int hd, .int k]) (st1 := [.int k, .ref 87, .int k, .ref 115]) (h1 := (124, I, J, R)) rfl ?_
  refine ev_bld (n := 900) (t := .byte) rfl rfl (fun _ => rfl) rfl n1 m1 ?_
  refine ev_go 2 (pc1 := 43) (lv1 := [.ref 86, .int 2, .int 0, .int hd, .int k]) (st1 := [.int ((I 87 k.toNatClampNeg) - 48), .int k, .ref 115]) (h1 := (124, I, J, R)) rfl ?_
  refine ev_ist (n := 900) rfl rfl (fun _ => rfl) n2 m2 ?_
  refine ev_go 2 (pc1 := 46) (lv1 := [.ref 86, .int 2, .int 0, .int hd, .int k]) (st1 := [.ref 86, .ref 86]) (h1 := (124, (uI I 115 k.toNatClampNeg ((I 87 k.toNatClampNeg) - 48)), J, R)) rfl ?_
  refine ev_gf (c := 86) (t := 115) (X := R 86 49) rfl rfl (fun _ => rfl) rfl (hG 86 49 115 rfl rfl) ?_
  refine ev_go 1 (pc1 := 51) (lv1 := [.ref 86, .int 2, .int 0, .int hd, .int k]) (st1 := [.int k, .ref 115, .ref 86]) (h1 := (124, (uI I 115 k.toNatClampNeg ((I 87 k.toNatClampNeg) - 48)), J, R)) rfl ?_
  refine ev_ild (n := 900) rfl rfl (fun _ => rfl) n3 m3 ?_
  refine ev_call (v1 := (some (.int 1))) (h1 := (124, (uI I 115 k.toNatClampNeg ((I 87 k.toNatClampNeg) - 48)), J, R)) rfl rfl c1 ?_
  refine ev_go 4 (pc1 := 82) (lv1 := [.ref 86, .int 2, .int 0, .int hd, .int k]) (st1 := [.int k]) (h1 := (124, (uI I 115 k.toNatClampNeg ((I 87 k.toNatClampNeg) - 48)), J, R)) rfl ?_
  refine ev_br (b1 := false) rfl rfl (xcd_nle (x := k) (y := 0) (by rw [show ((0 : Int32)).toInt = 0 from by decide]; first | exact b2 | omega)) ?_
  refine ev_go 1 (pc1 := 86) (lv1 := [.ref 86, .int 2, .int 0, .int hd, .int k]) (st1 := [.ref 86]) (h1 := (124, (uI I 115 k.toNatClampNeg ((I 87 k.toNatClampNeg) - 48)), J, R)) rfl ?_
  refine ev_gf (c := 86) (t := 115) (X := R 86 49) rfl rfl (fun _ => rfl) rfl (hG 86 49 115 rfl rfl) ?_
  refine ev_go 3 (pc1 := 93) (lv1 := [.ref 86, .int 2, .int 0, .int hd, .int k]) (st1 := [.int (k - 1), .ref 115]) (h1 := (124, (uI I 115 k.toNatClampNeg ((I 87 k.toNatClampNeg) - 48)), J, R)) rfl ?_
  refine ev_ild (n := 900) rfl rfl (fun _ => rfl) n4 m4 ?_
  refine ev_go 1 (pc1 := 95) (lv1 := [.ref 86, .int 2, .int 0, .int hd, .int k]) (st1 := [.ref 86, .int ((uI I 115 k.toNatClampNeg ((I 87 k.toNatClampNeg) - 48)) 115 (k - 1).toNatClampNeg)]) (h1 := (124, (uI I 115 k.toNatClampNeg ((I 87 k.toNatClampNeg) - 48)), J, R)) rfl ?_
  refine ev_gf (c := 86) (t := 115) (X := R 86 49) rfl rfl (fun _ => rfl) rfl (hG 86 49 115 rfl rfl) ?_
  refine ev_go 1 (pc1 := 100) (lv1 := [.ref 86, .int 2, .int 0, .int hd, .int k]) (st1 := [.int k, .ref 115, .int ((uI I 115 k.toNatClampNeg ((I 87 k.toNatClampNeg) - 48)) 115 (k - 1).toNatClampNeg)]) (h1 := (124, (uI I 115 k.toNatClampNeg ((I 87 k.toNatClampNeg) - 48)), J, R)) rfl ?_
  refine ev_ild (n := 900) rfl rfl (fun _ => rfl) n5 m5 ?_
  refine ev_br (b1 := true) rfl rfl (xcd_ne (x := ((uI I 115 k.toNatClampNeg ((I 87 k.toNatClampNeg) - 48)) 115 (k - 1).toNatClampNeg)) (y := ((uI I 115 k.toNatClampNeg ((I 87 k.toNatClampNeg) - 48)) 115 k.toNatClampNeg)) (by first | exact b3 | omega)) ?_
  refine ev_go 3 (pc1 := 109) (lv1 := [.ref 86, .int 2, .int 0, .int hd, .int k]) (st1 := [.ref 86, .int 1, .int hd]) (h1 := (124, (uI I 115 k.toNatClampNeg ((I 87 k.toNatClampNeg) - 48)), J, R)) rfl ?_
  refine ev_gf (c := 86) (t := 115) (X := R 86 49) rfl rfl (fun _ => rfl) rfl (hG 86 49 115 rfl rfl) ?_
  refine ev_go 1 (pc1 := 114) (lv1 := [.ref 86, .int 2, .int 0, .int hd, .int k]) (st1 := [.int k, .ref 115, .int 1, .int hd]) (h1 := (124, (uI I 115 k.toNatClampNeg ((I 87 k.toNatClampNeg) - 48)), J, R)) rfl ?_
  refine ev_ild (n := 900) rfl rfl (fun _ => rfl) n6 m6 ?_
  refine ev_go 5 (pc1 := 18) (lv1 := [.ref 86, .int 2, .int 0, .int (hd ||| (1 <<< (((uI I 115 k.toNatClampNeg ((I 87 k.toNatClampNeg) - 48)) 115 k.toNatClampNeg) &&& 31))), .int (k + 1)]) (st1 := []) (h1 := (124, (uI I 115 k.toNatClampNeg ((I 87 k.toNatClampNeg) - 48)), J, R)) rfl ?_
  exact hk
set_option maxRecDepth 20000 in
theorem rp_h0 {L : Nat} {xs : Nat → Int32} {d : Nat} {I : Nat → Nat → Int32} {J : Nat → Nat → Int64} {R : Nat → Nat → Nat} {hd k : Int32} (hG : aGd R) (b1 : k.toInt < (I 86 48).toInt) (n1 : 0 ≤ k.toInt) (m1 : k.toInt < 900) (n2 : 0 ≤ k.toInt) (m2 : k.toInt < 900) (n3 : 0 ≤ k.toInt) (m3 : k.toInt < 900) (c1 : xEv L xs d 167 0 [.ref 86, .int ((uI I 115 k.toNatClampNeg ((I 87 k.toNatClampNeg) - 48)) 115 k.toNatClampNeg)] [] (124, (uI I 115 k.toNatClampNeg ((I 87 k.toNatClampNeg) - 48)), J, R) (some (.int 1)) (124, (uI I 115 k.toNatClampNeg ((I 87 k.toNatClampNeg) - 48)), J, R)) (b2 : k.toInt > 0) (n4 : 0 ≤ (k - 1).toInt) (m4 : (k - 1).toInt < 900) (n5 : 0 ≤ k.toInt) (m5 : k.toInt < 900) (b3 : ((uI I 115 k.toNatClampNeg ((I 87 k.toNatClampNeg) - 48)) 115 (k - 1).toNatClampNeg).toInt = ((uI I 115 k.toNatClampNeg ((I 87 k.toNatClampNeg) - 48)) 115 k.toNatClampNeg).toInt) : xEv L xs (d + 1) 211 18 [.ref 86, .int 2, .int 0, .int hd, .int k] [] (124, I, J, R) (some (.int 0)) (124, (uI I 115 k.toNatClampNeg ((I 87 k.toNatClampNeg) - 48)), J, R) := by
  refine ev_go 3 (pc1 := 24) (lv1 := [.ref 86, .int 2, .int 0, .int hd, .int k]) (st1 := [.int (I 86 48), .int k]) (h1 := (124, I, J, R)) rfl ?_
  refine ev_br (b1 := false) rfl rfl (xcd_nge (x := k) (y := (I 86 48)) (by first | exact b1 | omega)) ?_
  refine ev_go 1 (pc1 := 28) (lv1 := [.ref 86, .int 2, .int 0, .int hd, .int k]) (st1 := [.ref 86]) (h1 := (124, I, J, R)) rfl ?_
  refine ev_gf (c := 86) (t := 115) (X := R 86 49) rfl rfl (fun _ => rfl) rfl (hG 86 49 115 rfl rfl) ?_
  refine ev_go 2 (pc1 := 34) (lv1 := [.ref 86, .int 2, .int 0, .int hd, .int k]) (st1 := [.ref 86, .int k, .ref 115]) (h1 := (124, I, J, R)) rfl ?_
  refine ev_gf (c := 86) (t := 87) (X := R 86 0) rfl rfl (fun _ => rfl) rfl (hG 86 0 87 rfl rfl) ?_
  refine ev_go 1 (pc1 := 39) (lv1 := [.ref 86, .int 2, .int 0, .int hd, .int k]) (st1 := [.int k, .ref 87, .int k, .ref 115]) (h1 := (124, I, J, R)) rfl ?_
  refine ev_bld (n := 900) (t := .byte) rfl rfl (fun _ => rfl) rfl n1 m1 ?_
  refine ev_go 2 (pc1 := 43) (lv1 := [.ref 86, .int 2, .int 0, .int hd, .int k]) (st1 := [.int ((I 87 k.toNatClampNeg) - 48), .int k, .ref 115]) (h1 := (124, I, J, R)) rfl ?_
  refine ev_ist (n := 900) rfl rfl (fun _ => rfl) n2 m2 ?_
  refine ev_go 2 (pc1 := 46) (lv1 := [.ref 86, .int 2, .int 0, .int hd, .int k]) (st1 := [.ref 86, .ref 86]) (h1 := (124, (uI I 115 k.toNatClampNeg ((I 87 k.toNatClampNeg) - 48)), J, R)) rfl ?_
  refine ev_gf (c := 86) (t := 115) (X := R 86 49) rfl rfl (fun _ => rfl) rfl (hG 86 49 115 rfl rfl) ?_
  refine ev_go 1 (pc1 := 51) (lv1 := [.ref 86, .int 2, .int 0, .int hd, .int k]) (st1 := [.int k, .ref 115, .ref 86]) (h1 := (124, (uI I 115 k.toNatClampNeg ((I 87 k.toNatClampNeg) - 48)), J, R)) rfl ?_
  refine ev_ild (n := 900) rfl rfl (fun _ => rfl) n3 m3 ?_
  refine ev_call (v1 := (some (.int 1))) (h1 := (124, (uI I 115 k.toNatClampNeg ((I 87 k.toNatClampNeg) - 48)), J, R)) rfl rfl c1 ?_
  refine ev_go 4 (pc1 := 82) (lv1 := [.ref 86, .int 2, .int 0, .int hd, .int k]) (st1 := [.int k]) (h1 := (124, (uI I 115 k.toNatClampNeg ((I 87 k.toNatClampNeg) - 48)), J, R)) rfl ?_
  refine ev_br (b1 := false) rfl rfl (xcd_nle (x := k) (y := 0) (by rw [show ((0 : Int32)).toInt = 0 from by decide]; first | exact b2 | omega)) ?_
  refine ev_go 1 (pc1 := 86) (lv1 := [.ref 86, .int 2, .int 0, .int hd, .int k]) (st1 := [.ref 86]) (h1 := (124, (uI I 115 k.toNatClampNeg ((I 87 k.toNatClampNeg) - 48)), J, R)) rfl ?_
  refine ev_gf (c := 86) (t := 115) (X := R 86 49) rfl rfl (fun _ => rfl) rfl (hG 86 49 115 rfl rfl) ?_
  refine ev_go 3 (pc1 := 93) (lv1 := [.ref 86, .int 2, .int 0, .int hd, .int k]) (st1 := [.int (k - 1), .ref 115]) (h1 := (124, (uI I 115 k.toNatClampNeg ((I 87 k.toNatClampNeg) - 48)), J, R)) rfl ?_
  refine ev_ild (n := 900) rfl rfl (fun _ => rfl) n4 m4 ?_
  refine ev_go 1 (pc1 := 95) (lv1 := [.ref 86, .int 2, .int 0, .int hd, .int k]) (st1 := [.ref 86, .int ((uI I 115 k.toNatClampNeg ((I 87 k.toNatClampNeg) - 48)) 115 (k - 1).toNatClampNeg)]) (h1 := (124, (uI I 115 k.toNatClampNeg ((I 87 k.toNatClampNeg) - 48)), J, R)) rfl ?_
  refine ev_gf (c := 86) (t := 115) (X := R 86 49) rfl rfl (fun _ => rfl) rfl (hG 86 49 115 rfl rfl) ?_
  refine ev_go 1 (pc1 := 100) (lv1 := [.ref 86, .int 2, .int 0, .int hd, .int k]) (st1 := [.int k, .ref 115, .int ((uI I 115 k.toNatClampNeg ((I 87 k.toNatClampNeg) - 48)) 115 (k - 1).toNatClampNeg)]) (h1 := (124, (uI I 115 k.toNatClampNeg ((I 87 k.toNatClampNeg) - 48)), J, R)) rfl ?_
  refine ev_ild (n := 900) rfl rfl (fun _ => rfl) n5 m5 ?_
  refine ev_br (b1 := false) rfl rfl (xcd_nne (x := ((uI I 115 k.toNatClampNeg ((I 87 k.toNatClampNeg) - 48)) 115 (k - 1).toNatClampNeg)) (y := ((uI I 115 k.toNatClampNeg ((I 87 k.toNatClampNeg) - 48)) 115 k.toNatClampNeg)) (by first | exact b3 | omega)) ?_
  refine ev_go 1 (pc1 := 105) (lv1 := [.ref 86, .int 2, .int 0, .int hd, .int k]) (st1 := [.int 0]) (h1 := (124, (uI I 115 k.toNatClampNeg ((I 87 k.toNatClampNeg) - 48)), J, R)) rfl ?_
  exact ev_ret rfl rfl
set_option maxRecDepth 20000 in
theorem rp_s1 {L : Nat} {xs : Nat → Int32} {d : Nat} {I : Nat → Nat → Int32} {J : Nat → Nat → Int64} {R : Nat → Nat → Nat} (hG : aGd R)  {v : Option Value} {h' : xH} (hk : xEv L xs d 211 18 [.ref 86, .int 1, .int 1, .int 0, .int 0] [] (124, (uI (uI I 86 48 (I 86 1)) 86 1 0), J, R) v h') : xEv L xs d 211 0 [.ref 86, .int 1, .int 1, xmk, xmk] [] (124, I, J, R) v h' := by
  refine ev_go 11 (pc1 := 18) (lv1 := [.ref 86, .int 1, .int 1, .int 0, .int 0]) (st1 := []) (h1 := (124, (uI (uI I 86 48 (I 86 1)) 86 1 0), J, R)) rfl ?_
  exact hk
set_option maxRecDepth 20000 in
theorem rp_y1 {L : Nat} {xs : Nat → Int32} {d : Nat} {I : Nat → Nat → Int32} {J : Nat → Nat → Int64} {R : Nat → Nat → Nat} {hd k : Int32} (hG : aGd R) (b1 : k.toInt ≥ (I 86 48).toInt) (b2 : (I 86 48).toInt ≥ 1) : xEv L xs d 211 18 [.ref 86, .int 1, .int 1, .int hd, .int k] [] (124, I, J, R) (some (.int 1)) (124, I, J, R) := by
  refine ev_go 3 (pc1 := 24) (lv1 := [.ref 86, .int 1, .int 1, .int hd, .int k]) (st1 := [.int (I 86 48), .int k]) (h1 := (124, I, J, R)) rfl ?_
  refine ev_br (b1 := true) rfl rfl (xcd_ge (x := k) (y := (I 86 48)) (by first | exact b1 | omega)) ?_
  refine ev_go 3 (pc1 := 129) (lv1 := [.ref 86, .int 1, .int 1, .int hd, .int k]) (st1 := [.int 1, .int (I 86 48)]) (h1 := (124, I, J, R)) rfl ?_
  refine ev_br (b1 := false) rfl rfl (xcd_nlt (x := (I 86 48)) (y := 1) (by rw [show ((1 : Int32)).toInt = 1 from by decide]; first | exact b2 | omega)) ?_
  refine ev_go 2 (pc1 := 137) (lv1 := [.ref 86, .int 1, .int 1, .int hd, .int k]) (st1 := [.int 1]) (h1 := (124, I, J, R)) rfl ?_
  exact ev_ret rfl rfl
set_option maxRecDepth 20000 in
theorem rp_z1 {L : Nat} {xs : Nat → Int32} {d : Nat} {I : Nat → Nat → Int32} {J : Nat → Nat → Int64} {R : Nat → Nat → Nat} {hd k : Int32} (hG : aGd R) (b1 : k.toInt ≥ (I 86 48).toInt) (b2 : (I 86 48).toInt < 1) : xEv L xs d 211 18 [.ref 86, .int 1, .int 1, .int hd, .int k] [] (124, I, J, R) (some (.int 0)) (124, I, J, R) := by
  refine ev_go 3 (pc1 := 24) (lv1 := [.ref 86, .int 1, .int 1, .int hd, .int k]) (st1 := [.int (I 86 48), .int k]) (h1 := (124, I, J, R)) rfl ?_
  refine ev_br (b1 := true) rfl rfl (xcd_ge (x := k) (y := (I 86 48)) (by first | exact b1 | omega)) ?_
  refine ev_go 3 (pc1 := 129) (lv1 := [.ref 86, .int 1, .int 1, .int hd, .int k]) (st1 := [.int 1, .int (I 86 48)]) (h1 := (124, I, J, R)) rfl ?_
  refine ev_br (b1 := true) rfl rfl (xcd_lt (x := (I 86 48)) (y := 1) (by rw [show ((1 : Int32)).toInt = 1 from by decide]; first | exact b2 | omega)) ?_
  refine ev_go 1 (pc1 := 137) (lv1 := [.ref 86, .int 1, .int 1, .int hd, .int k]) (st1 := [.int 0]) (h1 := (124, I, J, R)) rfl ?_
  exact ev_ret rfl rfl
set_option maxRecDepth 20000 in
theorem rp_x1 {L : Nat} {xs : Nat → Int32} {d : Nat} {I : Nat → Nat → Int32} {J : Nat → Nat → Int64} {R : Nat → Nat → Nat} {hd k : Int32} (hG : aGd R) (b1 : k.toInt < (I 86 48).toInt) (n1 : 0 ≤ k.toInt) (m1 : k.toInt < 900) (n2 : 0 ≤ k.toInt) (m2 : k.toInt < 900) (n3 : 0 ≤ k.toInt) (m3 : k.toInt < 900) (c1 : xEv L xs d 167 0 [.ref 86, .int ((uI I 115 k.toNatClampNeg ((I 87 k.toNatClampNeg) - 48)) 115 k.toNatClampNeg)] [] (124, (uI I 115 k.toNatClampNeg ((I 87 k.toNatClampNeg) - 48)), J, R) (some (.int 0)) (124, (uI I 115 k.toNatClampNeg ((I 87 k.toNatClampNeg) - 48)), J, R)) : xEv L xs (d + 1) 211 18 [.ref 86, .int 1, .int 1, .int hd, .int k] [] (124, I, J, R) (some (.int 0)) (124, (uI I 115 k.toNatClampNeg ((I 87 k.toNatClampNeg) - 48)), J, R) := by
  refine ev_go 3 (pc1 := 24) (lv1 := [.ref 86, .int 1, .int 1, .int hd, .int k]) (st1 := [.int (I 86 48), .int k]) (h1 := (124, I, J, R)) rfl ?_
  refine ev_br (b1 := false) rfl rfl (xcd_nge (x := k) (y := (I 86 48)) (by first | exact b1 | omega)) ?_
  refine ev_go 1 (pc1 := 28) (lv1 := [.ref 86, .int 1, .int 1, .int hd, .int k]) (st1 := [.ref 86]) (h1 := (124, I, J, R)) rfl ?_
  refine ev_gf (c := 86) (t := 115) (X := R 86 49) rfl rfl (fun _ => rfl) rfl (hG 86 49 115 rfl rfl) ?_
  refine ev_go 2 (pc1 := 34) (lv1 := [.ref 86, .int 1, .int 1, .int hd, .int k]) (st1 := [.ref 86, .int k, .ref 115]) (h1 := (124, I, J, R)) rfl ?_
  refine ev_gf (c := 86) (t := 87) (X := R 86 0) rfl rfl (fun _ => rfl) rfl (hG 86 0 87 rfl rfl) ?_
  refine ev_go 1 (pc1 := 39) (lv1 := [.ref 86, .int 1, .int 1, .int hd, .int k]) (st1 := [.int k, .ref 87, .int k, .ref 115]) (h1 := (124, I, J, R)) rfl ?_
  refine ev_bld (n := 900) (t := .byte) rfl rfl (fun _ => rfl) rfl n1 m1 ?_
  refine ev_go 2 (pc1 := 43) (lv1 := [.ref 86, .int 1, .int 1, .int hd, .int k]) (st1 := [.int ((I 87 k.toNatClampNeg) - 48), .int k, .ref 115]) (h1 := (124, I, J, R)) rfl ?_
  refine ev_ist (n := 900) rfl rfl (fun _ => rfl) n2 m2 ?_
  refine ev_go 2 (pc1 := 46) (lv1 := [.ref 86, .int 1, .int 1, .int hd, .int k]) (st1 := [.ref 86, .ref 86]) (h1 := (124, (uI I 115 k.toNatClampNeg ((I 87 k.toNatClampNeg) - 48)), J, R)) rfl ?_
  refine ev_gf (c := 86) (t := 115) (X := R 86 49) rfl rfl (fun _ => rfl) rfl (hG 86 49 115 rfl rfl) ?_
  refine ev_go 1 (pc1 := 51) (lv1 := [.ref 86, .int 1, .int 1, .int hd, .int k]) (st1 := [.int k, .ref 115, .ref 86]) (h1 := (124, (uI I 115 k.toNatClampNeg ((I 87 k.toNatClampNeg) - 48)), J, R)) rfl ?_
  refine ev_ild (n := 900) rfl rfl (fun _ => rfl) n3 m3 ?_
  refine ev_call (v1 := (some (.int 0))) (h1 := (124, (uI I 115 k.toNatClampNeg ((I 87 k.toNatClampNeg) - 48)), J, R)) rfl rfl c1 ?_
  refine ev_go 2 (pc1 := 105) (lv1 := [.ref 86, .int 1, .int 1, .int hd, .int k]) (st1 := [.int 0]) (h1 := (124, (uI I 115 k.toNatClampNeg ((I 87 k.toNatClampNeg) - 48)), J, R)) rfl ?_
  exact ev_ret rfl rfl
set_option maxRecDepth 20000 in
theorem rp_f1 {L : Nat} {xs : Nat → Int32} {d : Nat} {I : Nat → Nat → Int32} {J : Nat → Nat → Int64} {R : Nat → Nat → Nat} {hd k : Int32} (hG : aGd R) (b1 : k.toInt < (I 86 48).toInt) (n1 : 0 ≤ k.toInt) (m1 : k.toInt < 900) (n2 : 0 ≤ k.toInt) (m2 : k.toInt < 900) (n3 : 0 ≤ k.toInt) (m3 : k.toInt < 900) (c1 : xEv L xs d 167 0 [.ref 86, .int ((uI I 115 k.toNatClampNeg ((I 87 k.toNatClampNeg) - 48)) 115 k.toNatClampNeg)] [] (124, (uI I 115 k.toNatClampNeg ((I 87 k.toNatClampNeg) - 48)), J, R) (some (.int 1)) (124, (uI I 115 k.toNatClampNeg ((I 87 k.toNatClampNeg) - 48)), J, R)) (n4 : 0 ≤ k.toInt) (m4 : k.toInt < 900) (b2 : ((hd >>> (((uI I 115 k.toNatClampNeg ((I 87 k.toNatClampNeg) - 48)) 115 k.toNatClampNeg) &&& 31)) &&& 1).toInt ≠ 1) (n5 : 0 ≤ k.toInt) (m5 : k.toInt < 900) {v : Option Value} {h' : xH} (hk : xEv L xs (d + 1) 211 18 [.ref 86, .int 1, .int 1, .int (hd ||| (1 <<< (((uI I 115 k.toNatClampNeg ((I 87 k.toNatClampNeg) - 48)) 115 k.toNatClampNeg) &&& 31))), .int (k + 1)] [] (124, (uI I 115 k.toNatClampNeg ((I 87 k.toNatClampNeg) - 48)), J, R) v h') : xEv L xs (d + 1) 211 18 [.ref 86, .int 1, .int 1, .int hd, .int k] [] (124, I, J, R) v h' := by
  refine ev_go 3 (pc1 := 24) (lv1 := [.ref 86, .int 1, .int 1, .int hd, .int k]) (st1 := [.int (I 86 48), .int k]) (h1 := (124, I, J, R)) rfl ?_
  refine ev_br (b1 := false) rfl rfl (xcd_nge (x := k) (y := (I 86 48)) (by first | exact b1 | omega)) ?_
  refine ev_go 1 (pc1 := 28) (lv1 := [.ref 86, .int 1, .int 1, .int hd, .int k]) (st1 := [.ref 86]) (h1 := (124, I, J, R)) rfl ?_
  refine ev_gf (c := 86) (t := 115) (X := R 86 49) rfl rfl (fun _ => rfl) rfl (hG 86 49 115 rfl rfl) ?_
  refine ev_go 2 (pc1 := 34) (lv1 := [.ref 86, .int 1, .int 1, .int hd, .int k]) (st1 := [.ref 86, .int k, .ref 115]) (h1 := (124, I, J, R)) rfl ?_
  refine ev_gf (c := 86) (t := 87) (X := R 86 0) rfl rfl (fun _ => rfl) rfl (hG 86 0 87 rfl rfl) ?_
  refine ev_go 1 (pc1 := 39) (lv1 := [.ref 86, .int 1, .int 1, .int hd, .int k]) (st1 := [.int k, .ref 87, .int k, .ref 115]) (h1 := (124, I, J, R)) rfl ?_
  refine ev_bld (n := 900) (t := .byte) rfl rfl (fun _ => rfl) rfl n1 m1 ?_
  refine ev_go 2 (pc1 := 43) (lv1 := [.ref 86, .int 1, .int 1, .int hd, .int k]) (st1 := [.int ((I 87 k.toNatClampNeg) - 48), .int k, .ref 115]) (h1 := (124, I, J, R)) rfl ?_
  refine ev_ist (n := 900) rfl rfl (fun _ => rfl) n2 m2 ?_
  refine ev_go 2 (pc1 := 46) (lv1 := [.ref 86, .int 1, .int 1, .int hd, .int k]) (st1 := [.ref 86, .ref 86]) (h1 := (124, (uI I 115 k.toNatClampNeg ((I 87 k.toNatClampNeg) - 48)), J, R)) rfl ?_
  refine ev_gf (c := 86) (t := 115) (X := R 86 49) rfl rfl (fun _ => rfl) rfl (hG 86 49 115 rfl rfl) ?_
  refine ev_go 1 (pc1 := 51) (lv1 := [.ref 86, .int 1, .int 1, .int hd, .int k]) (st1 := [.int k, .ref 115, .ref 86]) (h1 := (124, (uI I 115 k.toNatClampNeg ((I 87 k.toNatClampNeg) - 48)), J, R)) rfl ?_
  refine ev_ild (n := 900) rfl rfl (fun _ => rfl) n3 m3 ?_
  refine ev_call (v1 := (some (.int 1))) (h1 := (124, (uI I 115 k.toNatClampNeg ((I 87 k.toNatClampNeg) - 48)), J, R)) rfl rfl c1 ?_
  refine ev_go 5 (pc1 := 64) (lv1 := [.ref 86, .int 1, .int 1, .int hd, .int k]) (st1 := [.ref 86, .int hd]) (h1 := (124, (uI I 115 k.toNatClampNeg ((I 87 k.toNatClampNeg) - 48)), J, R)) rfl ?_
  refine ev_gf (c := 86) (t := 115) (X := R 86 49) rfl rfl (fun _ => rfl) rfl (hG 86 49 115 rfl rfl) ?_
  refine ev_go 1 (pc1 := 69) (lv1 := [.ref 86, .int 1, .int 1, .int hd, .int k]) (st1 := [.int k, .ref 115, .int hd]) (h1 := (124, (uI I 115 k.toNatClampNeg ((I 87 k.toNatClampNeg) - 48)), J, R)) rfl ?_
  refine ev_ild (n := 900) rfl rfl (fun _ => rfl) n4 m4 ?_
  refine ev_go 4 (pc1 := 74) (lv1 := [.ref 86, .int 1, .int 1, .int hd, .int k]) (st1 := [.int 1, .int ((hd >>> (((uI I 115 k.toNatClampNeg ((I 87 k.toNatClampNeg) - 48)) 115 k.toNatClampNeg) &&& 31)) &&& 1)]) (h1 := (124, (uI I 115 k.toNatClampNeg ((I 87 k.toNatClampNeg) - 48)), J, R)) rfl ?_
  refine ev_br (b1 := true) rfl rfl (xcd_ne (x := ((hd >>> (((uI I 115 k.toNatClampNeg ((I 87 k.toNatClampNeg) - 48)) 115 k.toNatClampNeg) &&& 31)) &&& 1)) (y := 1) (by rw [show ((1 : Int32)).toInt = 1 from by decide]; first | exact b2 | omega)) ?_
  refine ev_go 3 (pc1 := 109) (lv1 := [.ref 86, .int 1, .int 1, .int hd, .int k]) (st1 := [.ref 86, .int 1, .int hd]) (h1 := (124, (uI I 115 k.toNatClampNeg ((I 87 k.toNatClampNeg) - 48)), J, R)) rfl ?_
  refine ev_gf (c := 86) (t := 115) (X := R 86 49) rfl rfl (fun _ => rfl) rfl (hG 86 49 115 rfl rfl) ?_
  refine ev_go 1 (pc1 := 114) (lv1 := [.ref 86, .int 1, .int 1, .int hd, .int k]) (st1 := [.int k, .ref 115, .int 1, .int hd]) (h1 := (124, (uI I 115 k.toNatClampNeg ((I 87 k.toNatClampNeg) - 48)), J, R)) rfl ?_
  refine ev_ild (n := 900) rfl rfl (fun _ => rfl) n5 m5 ?_
  refine ev_go 5 (pc1 := 18) (lv1 := [.ref 86, .int 1, .int 1, .int (hd ||| (1 <<< (((uI I 115 k.toNatClampNeg ((I 87 k.toNatClampNeg) - 48)) 115 k.toNatClampNeg) &&& 31))), .int (k + 1)]) (st1 := []) (h1 := (124, (uI I 115 k.toNatClampNeg ((I 87 k.toNatClampNeg) - 48)), J, R)) rfl ?_
  exact hk
set_option maxRecDepth 20000 in
theorem rp_h1 {L : Nat} {xs : Nat → Int32} {d : Nat} {I : Nat → Nat → Int32} {J : Nat → Nat → Int64} {R : Nat → Nat → Nat} {hd k : Int32} (hG : aGd R) (b1 : k.toInt < (I 86 48).toInt) (n1 : 0 ≤ k.toInt) (m1 : k.toInt < 900) (n2 : 0 ≤ k.toInt) (m2 : k.toInt < 900) (n3 : 0 ≤ k.toInt) (m3 : k.toInt < 900) (c1 : xEv L xs d 167 0 [.ref 86, .int ((uI I 115 k.toNatClampNeg ((I 87 k.toNatClampNeg) - 48)) 115 k.toNatClampNeg)] [] (124, (uI I 115 k.toNatClampNeg ((I 87 k.toNatClampNeg) - 48)), J, R) (some (.int 1)) (124, (uI I 115 k.toNatClampNeg ((I 87 k.toNatClampNeg) - 48)), J, R)) (n4 : 0 ≤ k.toInt) (m4 : k.toInt < 900) (b2 : ((hd >>> (((uI I 115 k.toNatClampNeg ((I 87 k.toNatClampNeg) - 48)) 115 k.toNatClampNeg) &&& 31)) &&& 1).toInt = 1) : xEv L xs (d + 1) 211 18 [.ref 86, .int 1, .int 1, .int hd, .int k] [] (124, I, J, R) (some (.int 0)) (124, (uI I 115 k.toNatClampNeg ((I 87 k.toNatClampNeg) - 48)), J, R) := by
  refine ev_go 3 (pc1 := 24) (lv1 := [.ref 86, .int 1, .int 1, .int hd, .int k]) (st1 := [.int (I 86 48), .int k]) (h1 := (124, I, J, R)) rfl ?_
  refine ev_br (b1 := false) rfl rfl (xcd_nge (x := k) (y := (I 86 48)) (by first | exact b1 | omega)) ?_
  refine ev_go 1 (pc1 := 28) (lv1 := [.ref 86, .int 1, .int 1, .int hd, .int k]) (st1 := [.ref 86]) (h1 := (124, I, J, R)) rfl ?_
  refine ev_gf (c := 86) (t := 115) (X := R 86 49) rfl rfl (fun _ => rfl) rfl (hG 86 49 115 rfl rfl) ?_
  refine ev_go 2 (pc1 := 34) (lv1 := [.ref 86, .int 1, .int 1, .int hd, .int k]) (st1 := [.ref 86, .int k, .ref 115]) (h1 := (124, I, J, R)) rfl ?_
  refine ev_gf (c := 86) (t := 87) (X := R 86 0) rfl rfl (fun _ => rfl) rfl (hG 86 0 87 rfl rfl) ?_
  refine ev_go 1 (pc1 := 39) (lv1 := [.ref 86, .int 1, .int 1, .int hd, .int k]) (st1 := [.int k, .ref 87, .int k, .ref 115]) (h1 := (124, I, J, R)) rfl ?_
  refine ev_bld (n := 900) (t := .byte) rfl rfl (fun _ => rfl) rfl n1 m1 ?_
  refine ev_go 2 (pc1 := 43) (lv1 := [.ref 86, .int 1, .int 1, .int hd, .int k]) (st1 := [.int ((I 87 k.toNatClampNeg) - 48), .int k, .ref 115]) (h1 := (124, I, J, R)) rfl ?_
  refine ev_ist (n := 900) rfl rfl (fun _ => rfl) n2 m2 ?_
  refine ev_go 2 (pc1 := 46) (lv1 := [.ref 86, .int 1, .int 1, .int hd, .int k]) (st1 := [.ref 86, .ref 86]) (h1 := (124, (uI I 115 k.toNatClampNeg ((I 87 k.toNatClampNeg) - 48)), J, R)) rfl ?_
  refine ev_gf (c := 86) (t := 115) (X := R 86 49) rfl rfl (fun _ => rfl) rfl (hG 86 49 115 rfl rfl) ?_
  refine ev_go 1 (pc1 := 51) (lv1 := [.ref 86, .int 1, .int 1, .int hd, .int k]) (st1 := [.int k, .ref 115, .ref 86]) (h1 := (124, (uI I 115 k.toNatClampNeg ((I 87 k.toNatClampNeg) - 48)), J, R)) rfl ?_
  refine ev_ild (n := 900) rfl rfl (fun _ => rfl) n3 m3 ?_
  refine ev_call (v1 := (some (.int 1))) (h1 := (124, (uI I 115 k.toNatClampNeg ((I 87 k.toNatClampNeg) - 48)), J, R)) rfl rfl c1 ?_
  refine ev_go 5 (pc1 := 64) (lv1 := [.ref 86, .int 1, .int 1, .int hd, .int k]) (st1 := [.ref 86, .int hd]) (h1 := (124, (uI I 115 k.toNatClampNeg ((I 87 k.toNatClampNeg) - 48)), J, R)) rfl ?_
  refine ev_gf (c := 86) (t := 115) (X := R 86 49) rfl rfl (fun _ => rfl) rfl (hG 86 49 115 rfl rfl) ?_
  refine ev_go 1 (pc1 := 69) (lv1 := [.ref 86, .int 1, .int 1, .int hd, .int k]) (st1 := [.int k, .ref 115, .int hd]) (h1 := (124, (uI I 115 k.toNatClampNeg ((I 87 k.toNatClampNeg) - 48)), J, R)) rfl ?_
  refine ev_ild (n := 900) rfl rfl (fun _ => rfl) n4 m4 ?_
  refine ev_go 4 (pc1 := 74) (lv1 := [.ref 86, .int 1, .int 1, .int hd, .int k]) (st1 := [.int 1, .int ((hd >>> (((uI I 115 k.toNatClampNeg ((I 87 k.toNatClampNeg) - 48)) 115 k.toNatClampNeg) &&& 31)) &&& 1)]) (h1 := (124, (uI I 115 k.toNatClampNeg ((I 87 k.toNatClampNeg) - 48)), J, R)) rfl ?_
  refine ev_br (b1 := false) rfl rfl (xcd_nne (x := ((hd >>> (((uI I 115 k.toNatClampNeg ((I 87 k.toNatClampNeg) - 48)) 115 k.toNatClampNeg) &&& 31)) &&& 1)) (y := 1) (by rw [show ((1 : Int32)).toInt = 1 from by decide]; first | exact b2 | omega)) ?_
  refine ev_go 2 (pc1 := 105) (lv1 := [.ref 86, .int 1, .int 1, .int hd, .int k]) (st1 := [.int 0]) (h1 := (124, (uI I 115 k.toNatClampNeg ((I 87 k.toNatClampNeg) - 48)), J, R)) rfl ?_
  exact ev_ret rfl rfl
set_option maxRecDepth 20000 in
theorem wa_s {L : Nat} {xs : Nat → Int32} {d : Nat} {I : Nat → Nat → Int32} {J : Nat → Nat → Int64} {R : Nat → Nat → Nat} (hG : aGd R)  {v : Option Value} {h' : xH} (hk : xEv L xs d 96 2 [.ref 0, .int 0, xmk] [] (124, I, J, R) v h') : xEv L xs d 96 0 [.ref 0, xmk, xmk] [] (124, I, J, R) v h' := by
  refine ev_go 2 (pc1 := 2) (lv1 := [.ref 0, .int 0, xmk]) (st1 := []) (h1 := (124, I, J, R)) rfl ?_
  exact hk
set_option maxRecDepth 20000 in
theorem wa_y {L : Nat} {xs : Nat → Int32} {d : Nat} {I : Nat → Nat → Int32} {J : Nat → Nat → Int64} {R : Nat → Nat → Nat} {i : Int32} {w2 : Value} (hG : aGd R) (b1 : i.toInt ≥ (I 1 1).toInt) (b2 : (I 1 1).toInt ≥ 2) : xEv L xs d 96 2 [.ref 0, .int i, w2] [] (124, I, J, R) (some (.int 1)) (124, I, J, R) := by
  refine ev_go 2 (pc1 := 4) (lv1 := [.ref 0, .int i, w2]) (st1 := [.ref 0, .int i]) (h1 := (124, I, J, R)) rfl ?_
  refine ev_gf (c := 0) (t := 1) (X := R 0 0) rfl rfl (fun _ => rfl) rfl (hG 0 0 1 rfl rfl) ?_
  refine ev_go 1 (pc1 := 10) (lv1 := [.ref 0, .int i, w2]) (st1 := [.int (I 1 1), .int i]) (h1 := (124, I, J, R)) rfl ?_
  refine ev_br (b1 := true) rfl rfl (xcd_ge (x := i) (y := (I 1 1)) (by first | exact b1 | omega)) ?_
  refine ev_go 1 (pc1 := 48) (lv1 := [.ref 0, .int i, w2]) (st1 := [.ref 0]) (h1 := (124, I, J, R)) rfl ?_
  refine ev_gf (c := 0) (t := 1) (X := R 0 0) rfl rfl (fun _ => rfl) rfl (hG 0 0 1 rfl rfl) ?_
  refine ev_go 2 (pc1 := 55) (lv1 := [.ref 0, .int i, w2]) (st1 := [.int 2, .int (I 1 1)]) (h1 := (124, I, J, R)) rfl ?_
  refine ev_br (b1 := false) rfl rfl (xcd_nlt (x := (I 1 1)) (y := 2) (by rw [show ((2 : Int32)).toInt = 2 from by decide]; first | exact b2 | omega)) ?_
  refine ev_go 2 (pc1 := 63) (lv1 := [.ref 0, .int i, w2]) (st1 := [.int 1]) (h1 := (124, I, J, R)) rfl ?_
  exact ev_ret rfl rfl
set_option maxRecDepth 20000 in
theorem wa_z {L : Nat} {xs : Nat → Int32} {d : Nat} {I : Nat → Nat → Int32} {J : Nat → Nat → Int64} {R : Nat → Nat → Nat} {i : Int32} {w2 : Value} (hG : aGd R) (b1 : i.toInt ≥ (I 1 1).toInt) (b2 : (I 1 1).toInt < 2) : xEv L xs d 96 2 [.ref 0, .int i, w2] [] (124, I, J, R) (some (.int 0)) (124, I, J, R) := by
  refine ev_go 2 (pc1 := 4) (lv1 := [.ref 0, .int i, w2]) (st1 := [.ref 0, .int i]) (h1 := (124, I, J, R)) rfl ?_
  refine ev_gf (c := 0) (t := 1) (X := R 0 0) rfl rfl (fun _ => rfl) rfl (hG 0 0 1 rfl rfl) ?_
  refine ev_go 1 (pc1 := 10) (lv1 := [.ref 0, .int i, w2]) (st1 := [.int (I 1 1), .int i]) (h1 := (124, I, J, R)) rfl ?_
  refine ev_br (b1 := true) rfl rfl (xcd_ge (x := i) (y := (I 1 1)) (by first | exact b1 | omega)) ?_
  refine ev_go 1 (pc1 := 48) (lv1 := [.ref 0, .int i, w2]) (st1 := [.ref 0]) (h1 := (124, I, J, R)) rfl ?_
  refine ev_gf (c := 0) (t := 1) (X := R 0 0) rfl rfl (fun _ => rfl) rfl (hG 0 0 1 rfl rfl) ?_
  refine ev_go 2 (pc1 := 55) (lv1 := [.ref 0, .int i, w2]) (st1 := [.int 2, .int (I 1 1)]) (h1 := (124, I, J, R)) rfl ?_
  refine ev_br (b1 := true) rfl rfl (xcd_lt (x := (I 1 1)) (y := 2) (by rw [show ((2 : Int32)).toInt = 2 from by decide]; first | exact b2 | omega)) ?_
  refine ev_go 1 (pc1 := 63) (lv1 := [.ref 0, .int i, w2]) (st1 := [.int 0]) (h1 := (124, I, J, R)) rfl ?_
  exact ev_ret rfl rfl
set_option maxRecDepth 20000 in
theorem wa_x {L : Nat} {xs : Nat → Int32} {d : Nat} {I : Nat → Nat → Int32} {J : Nat → Nat → Int64} {R : Nat → Nat → Nat} {i r1 : Int32} {w2 : Value} (hG : aGd R) (b1 : i.toInt < (I 1 1).toInt) (c1 : xEv L xs d 97 0 [.ref 0, .int i, xmk] [] (124, I, J, R) (some (.int r1)) (124, I, J, R)) (b2 : r1.toInt = -1) : xEv L xs (d + 1) 96 2 [.ref 0, .int i, w2] [] (124, I, J, R) (some (.int 0)) (124, I, J, R) := by
  refine ev_go 2 (pc1 := 4) (lv1 := [.ref 0, .int i, w2]) (st1 := [.ref 0, .int i]) (h1 := (124, I, J, R)) rfl ?_
  refine ev_gf (c := 0) (t := 1) (X := R 0 0) rfl rfl (fun _ => rfl) rfl (hG 0 0 1 rfl rfl) ?_
  refine ev_go 1 (pc1 := 10) (lv1 := [.ref 0, .int i, w2]) (st1 := [.int (I 1 1), .int i]) (h1 := (124, I, J, R)) rfl ?_
  refine ev_br (b1 := false) rfl rfl (xcd_nge (x := i) (y := (I 1 1)) (by first | exact b1 | omega)) ?_
  refine ev_go 2 (pc1 := 15) (lv1 := [.ref 0, .int i, w2]) (st1 := [.int i, .ref 0]) (h1 := (124, I, J, R)) rfl ?_
  refine ev_call (v1 := (some (.int r1))) (h1 := (124, I, J, R)) rfl rfl c1 ?_
  refine ev_go 3 (pc1 := 21) (lv1 := [.ref 0, .int i, .int r1]) (st1 := [.int (-1), .int r1]) (h1 := (124, I, J, R)) rfl ?_
  refine ev_br (b1 := true) rfl rfl (xcd_eq (x := r1) (y := (-1)) (by rw [show ((-1 : Int32)).toInt = -1 from by decide]; first | exact b2 | omega)) ?_
  refine ev_go 1 (pc1 := 40) (lv1 := [.ref 0, .int i, .int r1]) (st1 := [.int 0]) (h1 := (124, I, J, R)) rfl ?_
  exact ev_ret rfl rfl
set_option maxRecDepth 20000 in
theorem wa_f {L : Nat} {xs : Nat → Int32} {d : Nat} {I : Nat → Nat → Int32} {J : Nat → Nat → Int64} {R : Nat → Nat → Nat} {i r1 : Int32} {w2 : Value} (hG : aGd R) (b1 : i.toInt < (I 1 1).toInt) (c1 : xEv L xs d 97 0 [.ref 0, .int i, xmk] [] (124, I, J, R) (some (.int r1)) (124, I, J, R)) (b2 : r1.toInt ≠ -1) (b3 : i.toInt ≤ 0) {v : Option Value} {h' : xH} (hk : xEv L xs (d + 1) 96 2 [.ref 0, .int (i + 1), .int r1] [] (124, I, J, R) v h') : xEv L xs (d + 1) 96 2 [.ref 0, .int i, w2] [] (124, I, J, R) v h' := by
  refine ev_go 2 (pc1 := 4) (lv1 := [.ref 0, .int i, w2]) (st1 := [.ref 0, .int i]) (h1 := (124, I, J, R)) rfl ?_
  refine ev_gf (c := 0) (t := 1) (X := R 0 0) rfl rfl (fun _ => rfl) rfl (hG 0 0 1 rfl rfl) ?_
  refine ev_go 1 (pc1 := 10) (lv1 := [.ref 0, .int i, w2]) (st1 := [.int (I 1 1), .int i]) (h1 := (124, I, J, R)) rfl ?_
  refine ev_br (b1 := false) rfl rfl (xcd_nge (x := i) (y := (I 1 1)) (by first | exact b1 | omega)) ?_
  refine ev_go 2 (pc1 := 15) (lv1 := [.ref 0, .int i, w2]) (st1 := [.int i, .ref 0]) (h1 := (124, I, J, R)) rfl ?_
  refine ev_call (v1 := (some (.int r1))) (h1 := (124, I, J, R)) rfl rfl c1 ?_
  refine ev_go 3 (pc1 := 21) (lv1 := [.ref 0, .int i, .int r1]) (st1 := [.int (-1), .int r1]) (h1 := (124, I, J, R)) rfl ?_
  refine ev_br (b1 := false) rfl rfl (xcd_neq (x := r1) (y := (-1)) (by rw [show ((-1 : Int32)).toInt = -1 from by decide]; first | exact b2 | omega)) ?_
  refine ev_go 1 (pc1 := 25) (lv1 := [.ref 0, .int i, .int r1]) (st1 := [.int i]) (h1 := (124, I, J, R)) rfl ?_
  refine ev_br (b1 := true) rfl rfl (xcd_le (x := i) (y := 0) (by rw [show ((0 : Int32)).toInt = 0 from by decide]; first | exact b3 | omega)) ?_
  refine ev_go 2 (pc1 := 2) (lv1 := [.ref 0, .int (i + 1), .int r1]) (st1 := []) (h1 := (124, I, J, R)) rfl ?_
  exact hk
set_option maxRecDepth 20000 in
theorem wa_g {L : Nat} {xs : Nat → Int32} {d : Nat} {I : Nat → Nat → Int32} {J : Nat → Nat → Int64} {R : Nat → Nat → Nat} {i r1 r2 : Int32} {w2 : Value} (hG : aGd R) (b1 : i.toInt < (I 1 1).toInt) (c1 : xEv L xs d 97 0 [.ref 0, .int i, xmk] [] (124, I, J, R) (some (.int r1)) (124, I, J, R)) (b2 : r1.toInt ≠ -1) (b3 : i.toInt > 0) (c2 : xEv L xs d 97 0 [.ref 0, .int (i - 1), xmk] [] (124, I, J, R) (some (.int r2)) (124, I, J, R)) (b4 : r1.toInt ≠ r2.toInt) {v : Option Value} {h' : xH} (hk : xEv L xs (d + 1) 96 2 [.ref 0, .int (i + 1), .int r1] [] (124, I, J, R) v h') : xEv L xs (d + 1) 96 2 [.ref 0, .int i, w2] [] (124, I, J, R) v h' := by
  refine ev_go 2 (pc1 := 4) (lv1 := [.ref 0, .int i, w2]) (st1 := [.ref 0, .int i]) (h1 := (124, I, J, R)) rfl ?_
  refine ev_gf (c := 0) (t := 1) (X := R 0 0) rfl rfl (fun _ => rfl) rfl (hG 0 0 1 rfl rfl) ?_
  refine ev_go 1 (pc1 := 10) (lv1 := [.ref 0, .int i, w2]) (st1 := [.int (I 1 1), .int i]) (h1 := (124, I, J, R)) rfl ?_
  refine ev_br (b1 := false) rfl rfl (xcd_nge (x := i) (y := (I 1 1)) (by first | exact b1 | omega)) ?_
  refine ev_go 2 (pc1 := 15) (lv1 := [.ref 0, .int i, w2]) (st1 := [.int i, .ref 0]) (h1 := (124, I, J, R)) rfl ?_
  refine ev_call (v1 := (some (.int r1))) (h1 := (124, I, J, R)) rfl rfl c1 ?_
  refine ev_go 3 (pc1 := 21) (lv1 := [.ref 0, .int i, .int r1]) (st1 := [.int (-1), .int r1]) (h1 := (124, I, J, R)) rfl ?_
  refine ev_br (b1 := false) rfl rfl (xcd_neq (x := r1) (y := (-1)) (by rw [show ((-1 : Int32)).toInt = -1 from by decide]; first | exact b2 | omega)) ?_
  refine ev_go 1 (pc1 := 25) (lv1 := [.ref 0, .int i, .int r1]) (st1 := [.int i]) (h1 := (124, I, J, R)) rfl ?_
  refine ev_br (b1 := false) rfl rfl (xcd_nle (x := i) (y := 0) (by rw [show ((0 : Int32)).toInt = 0 from by decide]; first | exact b3 | omega)) ?_
  refine ev_go 5 (pc1 := 33) (lv1 := [.ref 0, .int i, .int r1]) (st1 := [.int (i - 1), .ref 0, .int r1]) (h1 := (124, I, J, R)) rfl ?_
  refine ev_call (v1 := (some (.int r2))) (h1 := (124, I, J, R)) rfl rfl c2 ?_
  refine ev_br (b1 := true) rfl rfl (xcd_ne (x := r1) (y := r2) (by first | exact b4 | omega)) ?_
  refine ev_go 2 (pc1 := 2) (lv1 := [.ref 0, .int (i + 1), .int r1]) (st1 := []) (h1 := (124, I, J, R)) rfl ?_
  exact hk
set_option maxRecDepth 20000 in
theorem wa_h {L : Nat} {xs : Nat → Int32} {d : Nat} {I : Nat → Nat → Int32} {J : Nat → Nat → Int64} {R : Nat → Nat → Nat} {i r1 r2 : Int32} {w2 : Value} (hG : aGd R) (b1 : i.toInt < (I 1 1).toInt) (c1 : xEv L xs d 97 0 [.ref 0, .int i, xmk] [] (124, I, J, R) (some (.int r1)) (124, I, J, R)) (b2 : r1.toInt ≠ -1) (b3 : i.toInt > 0) (c2 : xEv L xs d 97 0 [.ref 0, .int (i - 1), xmk] [] (124, I, J, R) (some (.int r2)) (124, I, J, R)) (b4 : r1.toInt = r2.toInt) : xEv L xs (d + 1) 96 2 [.ref 0, .int i, w2] [] (124, I, J, R) (some (.int 0)) (124, I, J, R) := by
  refine ev_go 2 (pc1 := 4) (lv1 := [.ref 0, .int i, w2]) (st1 := [.ref 0, .int i]) (h1 := (124, I, J, R)) rfl ?_
  refine ev_gf (c := 0) (t := 1) (X := R 0 0) rfl rfl (fun _ => rfl) rfl (hG 0 0 1 rfl rfl) ?_
  refine ev_go 1 (pc1 := 10) (lv1 := [.ref 0, .int i, w2]) (st1 := [.int (I 1 1), .int i]) (h1 := (124, I, J, R)) rfl ?_
  refine ev_br (b1 := false) rfl rfl (xcd_nge (x := i) (y := (I 1 1)) (by first | exact b1 | omega)) ?_
  refine ev_go 2 (pc1 := 15) (lv1 := [.ref 0, .int i, w2]) (st1 := [.int i, .ref 0]) (h1 := (124, I, J, R)) rfl ?_
  refine ev_call (v1 := (some (.int r1))) (h1 := (124, I, J, R)) rfl rfl c1 ?_
  refine ev_go 3 (pc1 := 21) (lv1 := [.ref 0, .int i, .int r1]) (st1 := [.int (-1), .int r1]) (h1 := (124, I, J, R)) rfl ?_
  refine ev_br (b1 := false) rfl rfl (xcd_neq (x := r1) (y := (-1)) (by rw [show ((-1 : Int32)).toInt = -1 from by decide]; first | exact b2 | omega)) ?_
  refine ev_go 1 (pc1 := 25) (lv1 := [.ref 0, .int i, .int r1]) (st1 := [.int i]) (h1 := (124, I, J, R)) rfl ?_
  refine ev_br (b1 := false) rfl rfl (xcd_nle (x := i) (y := 0) (by rw [show ((0 : Int32)).toInt = 0 from by decide]; first | exact b3 | omega)) ?_
  refine ev_go 5 (pc1 := 33) (lv1 := [.ref 0, .int i, .int r1]) (st1 := [.int (i - 1), .ref 0, .int r1]) (h1 := (124, I, J, R)) rfl ?_
  refine ev_call (v1 := (some (.int r2))) (h1 := (124, I, J, R)) rfl rfl c2 ?_
  refine ev_br (b1 := false) rfl rfl (xcd_nne (x := r1) (y := r2) (by first | exact b4 | omega)) ?_
  refine ev_go 1 (pc1 := 40) (lv1 := [.ref 0, .int i, .int r1]) (st1 := [.int 0]) (h1 := (124, I, J, R)) rfl ?_
  exact ev_ret rfl rfl
set_option maxRecDepth 20000 in
theorem rg_s {L : Nat} {xs : Nat → Int32} {d : Nat} {I : Nat → Nat → Int32} {J : Nat → Nat → Int64} {R : Nat → Nat → Nat} (hG : aGd R)  {v : Option Value} {h' : xH} (hk : xEv L xs d 101 4 [.ref 0, .int 0, .int 0, xmk] [] (124, I, J, R) v h') : xEv L xs d 101 0 [.ref 0, xmk, xmk, xmk] [] (124, I, J, R) v h' := by
  refine ev_go 4 (pc1 := 4) (lv1 := [.ref 0, .int 0, .int 0, xmk]) (st1 := []) (h1 := (124, I, J, R)) rfl ?_
  exact hk
set_option maxRecDepth 20000 in
theorem rg_y {L : Nat} {xs : Nat → Int32} {d : Nat} {I : Nat → Nat → Int32} {J : Nat → Nat → Int64} {R : Nat → Nat → Nat} {sn i : Int32} {w3 : Value} (hG : aGd R) (b1 : i.toInt ≥ (I 1 1).toInt) (b2 : (I 1 1).toInt ≥ 1) : xEv L xs d 101 4 [.ref 0, .int sn, .int i, w3] [] (124, I, J, R) (some (.int 1)) (124, I, J, R) := by
  refine ev_go 2 (pc1 := 6) (lv1 := [.ref 0, .int sn, .int i, w3]) (st1 := [.ref 0, .int i]) (h1 := (124, I, J, R)) rfl ?_
  refine ev_gf (c := 0) (t := 1) (X := R 0 0) rfl rfl (fun _ => rfl) rfl (hG 0 0 1 rfl rfl) ?_
  refine ev_go 1 (pc1 := 12) (lv1 := [.ref 0, .int sn, .int i, w3]) (st1 := [.int (I 1 1), .int i]) (h1 := (124, I, J, R)) rfl ?_
  refine ev_br (b1 := true) rfl rfl (xcd_ge (x := i) (y := (I 1 1)) (by first | exact b1 | omega)) ?_
  refine ev_go 1 (pc1 := 50) (lv1 := [.ref 0, .int sn, .int i, w3]) (st1 := [.ref 0]) (h1 := (124, I, J, R)) rfl ?_
  refine ev_gf (c := 0) (t := 1) (X := R 0 0) rfl rfl (fun _ => rfl) rfl (hG 0 0 1 rfl rfl) ?_
  refine ev_go 2 (pc1 := 57) (lv1 := [.ref 0, .int sn, .int i, w3]) (st1 := [.int 1, .int (I 1 1)]) (h1 := (124, I, J, R)) rfl ?_
  refine ev_br (b1 := false) rfl rfl (xcd_nlt (x := (I 1 1)) (y := 1) (by rw [show ((1 : Int32)).toInt = 1 from by decide]; first | exact b2 | omega)) ?_
  refine ev_go 2 (pc1 := 65) (lv1 := [.ref 0, .int sn, .int i, w3]) (st1 := [.int 1]) (h1 := (124, I, J, R)) rfl ?_
  exact ev_ret rfl rfl
set_option maxRecDepth 20000 in
theorem rg_z {L : Nat} {xs : Nat → Int32} {d : Nat} {I : Nat → Nat → Int32} {J : Nat → Nat → Int64} {R : Nat → Nat → Nat} {sn i : Int32} {w3 : Value} (hG : aGd R) (b1 : i.toInt ≥ (I 1 1).toInt) (b2 : (I 1 1).toInt < 1) : xEv L xs d 101 4 [.ref 0, .int sn, .int i, w3] [] (124, I, J, R) (some (.int 0)) (124, I, J, R) := by
  refine ev_go 2 (pc1 := 6) (lv1 := [.ref 0, .int sn, .int i, w3]) (st1 := [.ref 0, .int i]) (h1 := (124, I, J, R)) rfl ?_
  refine ev_gf (c := 0) (t := 1) (X := R 0 0) rfl rfl (fun _ => rfl) rfl (hG 0 0 1 rfl rfl) ?_
  refine ev_go 1 (pc1 := 12) (lv1 := [.ref 0, .int sn, .int i, w3]) (st1 := [.int (I 1 1), .int i]) (h1 := (124, I, J, R)) rfl ?_
  refine ev_br (b1 := true) rfl rfl (xcd_ge (x := i) (y := (I 1 1)) (by first | exact b1 | omega)) ?_
  refine ev_go 1 (pc1 := 50) (lv1 := [.ref 0, .int sn, .int i, w3]) (st1 := [.ref 0]) (h1 := (124, I, J, R)) rfl ?_
  refine ev_gf (c := 0) (t := 1) (X := R 0 0) rfl rfl (fun _ => rfl) rfl (hG 0 0 1 rfl rfl) ?_
  refine ev_go 2 (pc1 := 57) (lv1 := [.ref 0, .int sn, .int i, w3]) (st1 := [.int 1, .int (I 1 1)]) (h1 := (124, I, J, R)) rfl ?_
  refine ev_br (b1 := true) rfl rfl (xcd_lt (x := (I 1 1)) (y := 1) (by rw [show ((1 : Int32)).toInt = 1 from by decide]; first | exact b2 | omega)) ?_
  refine ev_go 1 (pc1 := 65) (lv1 := [.ref 0, .int sn, .int i, w3]) (st1 := [.int 0]) (h1 := (124, I, J, R)) rfl ?_
  exact ev_ret rfl rfl
set_option maxRecDepth 20000 in
theorem rg_x {L : Nat} {xs : Nat → Int32} {d : Nat} {I : Nat → Nat → Int32} {J : Nat → Nat → Int64} {R : Nat → Nat → Nat} {sn i r1 : Int32} {w3 : Value} (hG : aGd R) (b1 : i.toInt < (I 1 1).toInt) (c1 : xEv L xs d 97 0 [.ref 0, .int i, xmk] [] (124, I, J, R) (some (.int r1)) (124, I, J, R)) (b2 : r1.toInt = -1) : xEv L xs (d + 1) 101 4 [.ref 0, .int sn, .int i, w3] [] (124, I, J, R) (some (.int 0)) (124, I, J, R) := by
  refine ev_go 2 (pc1 := 6) (lv1 := [.ref 0, .int sn, .int i, w3]) (st1 := [.ref 0, .int i]) (h1 := (124, I, J, R)) rfl ?_
  refine ev_gf (c := 0) (t := 1) (X := R 0 0) rfl rfl (fun _ => rfl) rfl (hG 0 0 1 rfl rfl) ?_
  refine ev_go 1 (pc1 := 12) (lv1 := [.ref 0, .int sn, .int i, w3]) (st1 := [.int (I 1 1), .int i]) (h1 := (124, I, J, R)) rfl ?_
  refine ev_br (b1 := false) rfl rfl (xcd_nge (x := i) (y := (I 1 1)) (by first | exact b1 | omega)) ?_
  refine ev_go 2 (pc1 := 17) (lv1 := [.ref 0, .int sn, .int i, w3]) (st1 := [.int i, .ref 0]) (h1 := (124, I, J, R)) rfl ?_
  refine ev_call (v1 := (some (.int r1))) (h1 := (124, I, J, R)) rfl rfl c1 ?_
  refine ev_go 3 (pc1 := 23) (lv1 := [.ref 0, .int sn, .int i, .int r1]) (st1 := [.int (-1), .int r1]) (h1 := (124, I, J, R)) rfl ?_
  refine ev_br (b1 := true) rfl rfl (xcd_eq (x := r1) (y := (-1)) (by rw [show ((-1 : Int32)).toInt = -1 from by decide]; first | exact b2 | omega)) ?_
  refine ev_go 1 (pc1 := 36) (lv1 := [.ref 0, .int sn, .int i, .int r1]) (st1 := [.int 0]) (h1 := (124, I, J, R)) rfl ?_
  exact ev_ret rfl rfl
set_option maxRecDepth 20000 in
theorem rg_f {L : Nat} {xs : Nat → Int32} {d : Nat} {I : Nat → Nat → Int32} {J : Nat → Nat → Int64} {R : Nat → Nat → Nat} {sn i r1 : Int32} {w3 : Value} (hG : aGd R) (b1 : i.toInt < (I 1 1).toInt) (c1 : xEv L xs d 97 0 [.ref 0, .int i, xmk] [] (124, I, J, R) (some (.int r1)) (124, I, J, R)) (b2 : r1.toInt ≠ -1) (b3 : ((sn >>> (r1 &&& 31)) &&& 1).toInt ≠ 1) {v : Option Value} {h' : xH} (hk : xEv L xs (d + 1) 101 4 [.ref 0, .int (sn ||| (1 <<< (r1 &&& 31))), .int (i + 1), .int r1] [] (124, I, J, R) v h') : xEv L xs (d + 1) 101 4 [.ref 0, .int sn, .int i, w3] [] (124, I, J, R) v h' := by
  refine ev_go 2 (pc1 := 6) (lv1 := [.ref 0, .int sn, .int i, w3]) (st1 := [.ref 0, .int i]) (h1 := (124, I, J, R)) rfl ?_
  refine ev_gf (c := 0) (t := 1) (X := R 0 0) rfl rfl (fun _ => rfl) rfl (hG 0 0 1 rfl rfl) ?_
  refine ev_go 1 (pc1 := 12) (lv1 := [.ref 0, .int sn, .int i, w3]) (st1 := [.int (I 1 1), .int i]) (h1 := (124, I, J, R)) rfl ?_
  refine ev_br (b1 := false) rfl rfl (xcd_nge (x := i) (y := (I 1 1)) (by first | exact b1 | omega)) ?_
  refine ev_go 2 (pc1 := 17) (lv1 := [.ref 0, .int sn, .int i, w3]) (st1 := [.int i, .ref 0]) (h1 := (124, I, J, R)) rfl ?_
  refine ev_call (v1 := (some (.int r1))) (h1 := (124, I, J, R)) rfl rfl c1 ?_
  refine ev_go 3 (pc1 := 23) (lv1 := [.ref 0, .int sn, .int i, .int r1]) (st1 := [.int (-1), .int r1]) (h1 := (124, I, J, R)) rfl ?_
  refine ev_br (b1 := false) rfl rfl (xcd_neq (x := r1) (y := (-1)) (by rw [show ((-1 : Int32)).toInt = -1 from by decide]; first | exact b2 | omega)) ?_
  refine ev_go 2 (pc1 := 28) (lv1 := [.ref 0, .int sn, .int i, .int r1]) (st1 := [.int r1, .int sn]) (h1 := (124, I, J, R)) rfl ?_
  refine ev_go 4 (pc1 := 32) (lv1 := [.ref 0, .int sn, .int i, .int r1]) (st1 := [.int 1, .int ((sn >>> (r1 &&& 31)) &&& 1)]) (h1 := (124, I, J, R)) rfl ?_
  refine ev_br (b1 := true) rfl rfl (xcd_ne (x := ((sn >>> (r1 &&& 31)) &&& 1)) (y := 1) (by rw [show ((1 : Int32)).toInt = 1 from by decide]; first | exact b3 | omega)) ?_
  refine ev_go 3 (pc1 := 40) (lv1 := [.ref 0, .int sn, .int i, .int r1]) (st1 := [.int r1, .int 1, .int sn]) (h1 := (124, I, J, R)) rfl ?_
  refine ev_go 5 (pc1 := 4) (lv1 := [.ref 0, .int (sn ||| (1 <<< (r1 &&& 31))), .int (i + 1), .int r1]) (st1 := []) (h1 := (124, I, J, R)) rfl ?_
  exact hk
set_option maxRecDepth 20000 in
theorem rg_h {L : Nat} {xs : Nat → Int32} {d : Nat} {I : Nat → Nat → Int32} {J : Nat → Nat → Int64} {R : Nat → Nat → Nat} {sn i r1 : Int32} {w3 : Value} (hG : aGd R) (b1 : i.toInt < (I 1 1).toInt) (c1 : xEv L xs d 97 0 [.ref 0, .int i, xmk] [] (124, I, J, R) (some (.int r1)) (124, I, J, R)) (b2 : r1.toInt ≠ -1) (b3 : ((sn >>> (r1 &&& 31)) &&& 1).toInt = 1) : xEv L xs (d + 1) 101 4 [.ref 0, .int sn, .int i, w3] [] (124, I, J, R) (some (.int 0)) (124, I, J, R) := by
  refine ev_go 2 (pc1 := 6) (lv1 := [.ref 0, .int sn, .int i, w3]) (st1 := [.ref 0, .int i]) (h1 := (124, I, J, R)) rfl ?_
  refine ev_gf (c := 0) (t := 1) (X := R 0 0) rfl rfl (fun _ => rfl) rfl (hG 0 0 1 rfl rfl) ?_
  refine ev_go 1 (pc1 := 12) (lv1 := [.ref 0, .int sn, .int i, w3]) (st1 := [.int (I 1 1), .int i]) (h1 := (124, I, J, R)) rfl ?_
  refine ev_br (b1 := false) rfl rfl (xcd_nge (x := i) (y := (I 1 1)) (by first | exact b1 | omega)) ?_
  refine ev_go 2 (pc1 := 17) (lv1 := [.ref 0, .int sn, .int i, w3]) (st1 := [.int i, .ref 0]) (h1 := (124, I, J, R)) rfl ?_
  refine ev_call (v1 := (some (.int r1))) (h1 := (124, I, J, R)) rfl rfl c1 ?_
  refine ev_go 3 (pc1 := 23) (lv1 := [.ref 0, .int sn, .int i, .int r1]) (st1 := [.int (-1), .int r1]) (h1 := (124, I, J, R)) rfl ?_
  refine ev_br (b1 := false) rfl rfl (xcd_neq (x := r1) (y := (-1)) (by rw [show ((-1 : Int32)).toInt = -1 from by decide]; first | exact b2 | omega)) ?_
  refine ev_go 2 (pc1 := 28) (lv1 := [.ref 0, .int sn, .int i, .int r1]) (st1 := [.int r1, .int sn]) (h1 := (124, I, J, R)) rfl ?_
  refine ev_go 4 (pc1 := 32) (lv1 := [.ref 0, .int sn, .int i, .int r1]) (st1 := [.int 1, .int ((sn >>> (r1 &&& 31)) &&& 1)]) (h1 := (124, I, J, R)) rfl ?_
  refine ev_br (b1 := false) rfl rfl (xcd_nne (x := ((sn >>> (r1 &&& 31)) &&& 1)) (y := 1) (by rw [show ((1 : Int32)).toInt = 1 from by decide]; first | exact b3 | omega)) ?_
  refine ev_go 1 (pc1 := 36) (lv1 := [.ref 0, .int sn, .int i, .int r1]) (st1 := [.int 0]) (h1 := (124, I, J, R)) rfl ?_
  exact ev_ret rfl rfl
theorem pq_tab : ∀ k : Nat, k < 256 → ((0 ≤ (Int32.ofInt ((k : Int) - 128) - 48).toInt ∧ (Int32.ofInt ((k : Int) - 128) - 48).toInt < 7) ∨ (0 ≤ ((Int32.ofInt ((k : Int) - 128) &&& 255) - 48).toInt ∧ ((Int32.ofInt ((k : Int) - 128) &&& 255) - 48).toInt < 7)) → Int32.ofInt ((k : Int) - 128) &&& 255 = Int32.ofInt ((k : Int) - 128) := by decide +kernel
theorem pq_eq {x y : Int32} (hxy : y &&& 255 = x) (h1 : -128 ≤ y.toInt) (h2 : y.toInt ≤ 127) (h : (0 ≤ (y - 48).toInt ∧ (y - 48).toInt < 7) ∨ (0 ≤ (x - 48).toInt ∧ (x - 48).toInt < 7)) : y = x := by
  obtain ⟨k, hk⟩ := Int.eq_ofNat_of_zero_le (show 0 ≤ y.toInt + 128 by omega)
  have e : y = Int32.ofInt ((k : Int) - 128) := by
    rw [← Int32.ofInt_toInt (x := y)]
    congr 1
    omega
  have t := pq_tab k (by omega)
  rw [← e] at t
  rw [← hxy]
  rw [← hxy] at h
  exact (t h).symm
/-- who stands at a place of the tape, in the class -/
def pX (np : Nat) (I : Nat → Nat → Int32) (q : Nat) : Int32 := if 0 ≤ (I 2 q - 48).toInt ∧ (I 2 q - 48).toInt < np then I 2 q - 48 else -1
set_option maxRecDepth 20000 in
theorem po_0_3 {L : Nat} {xs : Nat → Int32} {d : Nat} {I : Nat → Nat → Int32} {J : Nat → Nat → Int64} {R : Nat → Nat → Nat} {i b : Int32} (hG : aGd R) (c1 : xEv L xs d 22 0 [.ref 1, .int i] [] (124, I, J, R) (some (.int b)) (124, I, J, R)) (r_R_0_8 : R 0 8 = 4) (c2 : xEv L xs d 64 0 [.ref 3, .int (b - 48)] [] (124, I, J, R) (some (.int 0)) (124, I, J, R)) : xEv L xs (d + 1) 97 0 [.ref 0, .int i, xmk] [] (124, I, J, R) (some (.int (-1))) (124, I, J, R) := by
  refine ev_go 1 (pc1 := 1) (lv1 := [.ref 0, .int i, xmk]) (st1 := [.ref 0]) (h1 := (124, I, J, R)) rfl ?_
  refine ev_gf (c := 0) (t := 1) (X := R 0 0) rfl rfl (fun _ => rfl) rfl (hG 0 0 1 rfl rfl) ?_
  refine ev_go 1 (pc1 := 5) (lv1 := [.ref 0, .int i, xmk]) (st1 := [.int i, .ref 1]) (h1 := (124, I, J, R)) rfl ?_
  refine ev_call (v1 := (some (.int b))) (h1 := (124, I, J, R)) rfl rfl c1 ?_
  refine ev_go 4 (pc1 := 13) (lv1 := [.ref 0, .int i, .int (b - 48)]) (st1 := [.ref 0]) (h1 := (124, I, J, R)) rfl ?_
  refine ev_gf (c := 0) (t := 3) (X := R 0 8) rfl rfl (fun _ => rfl) rfl r_R_0_8 ?_
  refine ev_go 1 (pc1 := 17) (lv1 := [.ref 0, .int i, .int (b - 48)]) (st1 := [.int (b - 48), .ref 3]) (h1 := (124, I, J, R)) rfl ?_
  refine ev_call (v1 := (some (.int 0))) (h1 := (124, I, J, R)) rfl rfl c2 ?_
  refine ev_go 2 (pc1 := 28) (lv1 := [.ref 0, .int i, .int (b - 48)]) (st1 := [.int (-1)]) (h1 := (124, I, J, R)) rfl ?_
  exact ev_ret rfl rfl
set_option maxRecDepth 20000 in
theorem po_1_3 {L : Nat} {xs : Nat → Int32} {d : Nat} {I : Nat → Nat → Int32} {J : Nat → Nat → Int64} {R : Nat → Nat → Nat} {i b : Int32} (hG : aGd R) (c1 : xEv L xs d 22 0 [.ref 1, .int i] [] (124, I, J, R) (some (.int b)) (124, I, J, R)) (r_R_0_8 : R 0 8 = 4) (c2 : xEv L xs d 64 0 [.ref 3, .int (b - 48)] [] (124, I, J, R) (some (.int 1)) (124, I, J, R)) : xEv L xs (d + 1) 97 0 [.ref 0, .int i, xmk] [] (124, I, J, R) (some (.int (b - 48))) (124, I, J, R) := by
  refine ev_go 1 (pc1 := 1) (lv1 := [.ref 0, .int i, xmk]) (st1 := [.ref 0]) (h1 := (124, I, J, R)) rfl ?_
  refine ev_gf (c := 0) (t := 1) (X := R 0 0) rfl rfl (fun _ => rfl) rfl (hG 0 0 1 rfl rfl) ?_
  refine ev_go 1 (pc1 := 5) (lv1 := [.ref 0, .int i, xmk]) (st1 := [.int i, .ref 1]) (h1 := (124, I, J, R)) rfl ?_
  refine ev_call (v1 := (some (.int b))) (h1 := (124, I, J, R)) rfl rfl c1 ?_
  refine ev_go 4 (pc1 := 13) (lv1 := [.ref 0, .int i, .int (b - 48)]) (st1 := [.ref 0]) (h1 := (124, I, J, R)) rfl ?_
  refine ev_gf (c := 0) (t := 3) (X := R 0 8) rfl rfl (fun _ => rfl) rfl r_R_0_8 ?_
  refine ev_go 1 (pc1 := 17) (lv1 := [.ref 0, .int i, .int (b - 48)]) (st1 := [.int (b - 48), .ref 3]) (h1 := (124, I, J, R)) rfl ?_
  refine ev_call (v1 := (some (.int 1))) (h1 := (124, I, J, R)) rfl rfl c2 ?_
  refine ev_go 3 (pc1 := 28) (lv1 := [.ref 0, .int i, .int (b - 48)]) (st1 := [.int (b - 48)]) (h1 := (124, I, J, R)) rfl ?_
  exact ev_ret rfl rfl
theorem po_run_3 {L : Nat} {xs : Nat → Int32} {d : Nat} {I : Nat → Nat → Int32} {J : Nat → Nat → Int64} {R : Nat → Nat → Nat} (hG : aGd R) (h8 : R 0 8 = 4) {np n q : Nat} (q1 : (I 3 14).toInt = np) (hn : (I 1 1).toInt = n) (hn9 : n ≤ 900) (hq : q < n) {i : Int32} (hi : i.toInt = q) : xEv L xs (d + 1) 97 0 [.ref 0, .int i, xmk] [] (124, I, J, R) (some (.int (pX np I q))) (124, I, J, R) := by
  have b := bx_run (L := L) (xs := xs) (d := d) (I := I) (J := J) hG hn hn9 hi
  unfold bX at b
  rw [if_pos hq] at b
  unfold pX
  rcases hp_run_3 (L := L) (xs := xs) (d := d) (I := I) (J := J) hG q1 (I 2 q - 48) with ⟨h, x⟩ | ⟨h, x⟩
  · rw [if_pos h]
    exact po_1_3 hG b h8 x
  · rw [if_neg h]
    exact po_0_3 hG b h8 x
/-- the row as both have it, up to k -/
def rdE_3 (np k : Nat) (I Ir : Nat → Nat → Int32) : Prop := ∀ q, q < k → Ir 115 q = I 2 q - 48 ∧ pX np I q = I 2 q - 48 ∧ 0 ≤ (I 2 q - 48).toInt ∧ (I 2 q - 48).toInt < np
theorem rdE_s_3 {np k : Nat} {I Ir : Nat → Nat → Int32} {x : Int32} (h : rdE_3 np k I Ir) (hx : x = I 2 k - 48) (h1 : 0 ≤ (I 2 k - 48).toInt ∧ (I 2 k - 48).toInt < np) : rdE_3 np (k + 1) I (uI Ir 115 k x) := by
  intro q hq
  by_cases e : q = k
  · subst e
    rw [uI_s]
    exact ⟨hx, if_pos h1, h1⟩
  · rw [uI_n _ _ (fun z => e z.2)]
    exact h q (by omega)
theorem rdw_3 {L : Nat} {xs : Nat → Int32} {d d' : Nat} {I : Nat → Nat → Int32} {J Jr : Nat → Nat → Int64} {R Rr : Nat → Nat → Nat} (hG : aGd R) (hGr : aGd Rr) (h8 : R 0 8 = 4) {np n : Nat} (hp7 : np ≤ 7) (q1 : (I 3 14).toInt = np) (hn : (I 1 1).toInt = n) (hn9 : n ≤ 900) : ∀ (f k : Nat) (i hd : Int32) (w2 : Value) (Ir : Nat → Nat → Int32), k + f = n → i.toInt = k → (Ir 86 48).toInt = n → (Ir 88 0).toInt = np → (∀ q, q < n → Ir 87 q &&& 255 = I 2 q ∧ -128 ≤ (Ir 87 q).toInt ∧ (Ir 87 q).toInt ≤ 127) → rdE_3 np k I Ir → (∀ q, q + 1 < k → I 2 (q + 1) ≠ I 2 q) →
    ∃ (r : Int32) (Ir' : Nat → Nat → Int32), xEv L xs (d + 2) 96 2 [.ref 0, .int i, w2] [] (124, I, J, R) (some (.int r)) (124, I, J, R) ∧ xEv L xs (d' + 2) 211 18 [.ref 86, .int 2, .int 0, .int hd, .int i] [] (124, Ir, Jr, Rr) (some (.int r)) (124, Ir', Jr, Rr) ∧ (∀ c q, c ≠ 115 → Ir' c q = Ir c q) ∧ (r = 0 ∨ (r = 1 ∧ 2 ≤ n ∧ rdE_3 np n I Ir' ∧ ∀ q, q + 1 < n → I 2 (q + 1) ≠ I 2 q)) := by
  intro f
  induction f with
  | zero =>
    intro k i hd w2 Ir hk hi m1 q2 hB hE hU
    have e : k = n := by omega
    by_cases h2 : n < 2
    · exact ⟨0, Ir, wa_z hG (by omega) (by omega), rp_z0 hGr (by omega) (by omega), fun _ _ _ => rfl, Or.inl rfl⟩
    · exact ⟨1, Ir, wa_y hG (by omega) (by omega), rp_y0 hGr (by omega) (by omega), fun _ _ _ => rfl, Or.inr ⟨rfl, by omega, by rw [← e]; exact hE, by rw [← e]; exact hU⟩⟩
  | succ f ih =>
    intro k i hd w2 Ir hk hi m1 q2 hB hE hU
    have eci := clamp_s (i := i) (by omega)
    have eki : i.toNatClampNeg = k := by omega
    have hi' : (i + 1).toInt = (k + 1 : Nat) := by rw [i_add1 (by omega)]; omega
    obtain ⟨b1, b2, b3⟩ := hB k (by omega)
    have xp := po_run_3 (L := L) (xs := xs) (d := d) (I := I) (J := J) hG h8 q1 hn hn9 (q := k) (by omega) hi
    have xr := ip_run (L := L) (xs := xs) (d := d') (I := uI Ir 115 i.toNatClampNeg (Ir 87 i.toNatClampNeg - 48)) (J := Jr) (R := Rr) hGr (m := np) (by rw [uI_c _ _ _ (by decide)]; exact q2) ((uI Ir 115 i.toNatClampNeg (Ir 87 i.toNatClampNeg - 48)) 115 i.toNatClampNeg)
    rw [uI_s, eki] at xr
    by_cases hp : 0 ≤ (I 2 k - 48).toInt ∧ (I 2 k - 48).toInt < np
    rotate_left
    · rw [show pX np I k = -1 from if_neg hp] at xp
      rcases xr with ⟨z, -⟩ | ⟨-, z⟩
      · have ye := pq_eq b1 b2 b3 (Or.inl ⟨z.1, by omega⟩)
        rw [ye] at z
        exact absurd z hp
      · refine ⟨0, _, wa_x hG (by omega) xp (by decide), rp_x0 hGr (by omega) (by omega) (by omega) (by omega) (by omega) (by omega) (by omega) (by rw [uI_s, eki]; exact z), fun c q hc => uI_c _ _ _ hc, Or.inl rfl⟩
    have ye := pq_eq b1 b2 b3 (Or.inr ⟨hp.1, by omega⟩)
    rw [ye] at xr
    rw [show pX np I k = I 2 k - 48 from if_pos hp] at xp
    have xz : xEv L xs (d' + 1) 167 0 [.ref 86, .int (I 2 k - 48)] [] (124, uI Ir 115 k (I 2 k - 48), Jr, Rr) (some (.int 1)) (124, uI Ir 115 k (I 2 k - 48), Jr, Rr) := by
      rcases xr with ⟨-, z⟩ | ⟨z, -⟩
      · exact z
      · exact absurd hp z
    have hx : uI Ir 115 i.toNatClampNeg (Ir 87 i.toNatClampNeg - 48) = uI Ir 115 k (I 2 k - 48) := by rw [eki, ye]
    have xz' : xEv L xs (d' + 1) 167 0 [.ref 86, .int ((uI Ir 115 i.toNatClampNeg (Ir 87 i.toNatClampNeg - 48)) 115 i.toNatClampNeg)] [] (124, uI Ir 115 i.toNatClampNeg (Ir 87 i.toNatClampNeg - 48), Jr, Rr) (some (.int 1)) (124, uI Ir 115 i.toNatClampNeg (Ir 87 i.toNatClampNeg - 48), Jr, Rr) := by
      rw [hx, eki, uI_s]
      exact xz
    have pne : (I 2 k - 48).toInt ≠ -1 := by omega
    have go : ∀ hd', (∀ q, q + 1 < k + 1 → I 2 (q + 1) ≠ I 2 q) → ∃ (r : Int32) (Ir' : Nat → Nat → Int32), xEv L xs (d + 2) 96 2 [.ref 0, .int (i + 1), .int (I 2 k - 48)] [] (124, I, J, R) (some (.int r)) (124, I, J, R) ∧ xEv L xs (d' + 2) 211 18 [.ref 86, .int 2, .int 0, .int hd', .int (i + 1)] [] (124, uI Ir 115 i.toNatClampNeg (Ir 87 i.toNatClampNeg - 48), Jr, Rr) (some (.int r)) (124, Ir', Jr, Rr) ∧ (∀ c q, c ≠ 115 → Ir' c q = Ir c q) ∧ (r = 0 ∨ (r = 1 ∧ 2 ≤ n ∧ rdE_3 np n I Ir' ∧ ∀ q, q + 1 < n → I 2 (q + 1) ≠ I 2 q)) := by
      intro hd' hU'
      rw [hx]
      obtain ⟨r, Ir', y1, y2, y3, y4⟩ := ih (k + 1) (i + 1) hd' (.int (I 2 k - 48)) (uI Ir 115 k (I 2 k - 48)) (by omega) hi' (by rw [uI_c _ _ _ (by decide)]; exact m1) (by rw [uI_c _ _ _ (by decide)]; exact q2) (fun q hq => by rw [uI_c _ _ _ (by decide)]; exact hB q hq) (rdE_s_3 hE rfl hp) hU'
      exact ⟨r, Ir', y1, y2, fun c q hc => by rw [y3 c q hc, uI_c _ _ _ hc], y4⟩
    by_cases k0 : k = 0
    · obtain ⟨r, Ir', y1, y2, y3, y4⟩ := go _ (fun q hq => absurd hq (by omega))
      exact ⟨r, Ir', wa_f hG (by omega) xp pne (by omega) y1, rp_f0 hGr (by omega) (by omega) (by omega) (by omega) (by omega) (by omega) (by omega) xz' (by omega) (by omega) (by omega) y2, y3, y4⟩
    · have ei1 : (i - 1).toInt = (k - 1 : Nat) := by rw [i_sub (by rw [show (1 : Int32).toInt = 1 from by decide]; omega) (by rw [show (1 : Int32).toInt = 1 from by decide]; omega), show (1 : Int32).toInt = 1 from by decide]; omega
      have ec1 := clamp_s (i := i - 1) (by omega)
      have ek1 : (i - 1).toNatClampNeg = k - 1 := by omega
      obtain ⟨r1, r2, r3, r4⟩ := hE (k - 1) (by omega)
      have xp1 := po_run_3 (L := L) (xs := xs) (d := d) (I := I) (J := J) hG h8 q1 hn hn9 (q := k - 1) (by omega) ei1
      rw [r2] at xp1
      have o1 : (uI Ir 115 i.toNatClampNeg (Ir 87 i.toNatClampNeg - 48)) 115 (i - 1).toNatClampNeg = I 2 (k - 1) - 48 := by rw [ek1, uI_n _ _ (by omega)]; exact r1
      have o2 : (uI Ir 115 i.toNatClampNeg (Ir 87 i.toNatClampNeg - 48)) 115 i.toNatClampNeg = I 2 k - 48 := by rw [uI_s, eki, ye]
      by_cases he : (I 2 k - 48).toInt = (I 2 (k - 1) - 48).toInt
      · exact ⟨0, _, wa_h hG (by omega) xp pne (by omega) xp1 he, rp_h0 hGr (by omega) (by omega) (by omega) (by omega) (by omega) (by omega) (by omega) xz' (by omega) (by omega) (by omega) (by omega) (by omega) (by rw [o1, o2]; exact he.symm), fun c q hc => uI_c _ _ _ hc, Or.inl rfl⟩
      · obtain ⟨r, Ir', y1, y2, y3, y4⟩ := go _ (fun q hq => by
          by_cases e : q + 1 = k
          · intro z
            rw [e, show q = k - 1 from by omega] at z
            exact he (by rw [z])
          · exact hU q (by omega))
        exact ⟨r, Ir', wa_g hG (by omega) xp pne (by omega) xp1 he y1, rp_g0 hGr (by omega) (by omega) (by omega) (by omega) (by omega) (by omega) (by omega) xz' (by omega) (by omega) (by omega) (by omega) (by omega) (by rw [o1, o2]; exact fun z => he z.symm) (by omega) (by omega) y2, y3, y4⟩
set_option maxRecDepth 20000 in
theorem po_0_23 {L : Nat} {xs : Nat → Int32} {d : Nat} {I : Nat → Nat → Int32} {J : Nat → Nat → Int64} {R : Nat → Nat → Nat} {i b : Int32} (hG : aGd R) (c1 : xEv L xs d 22 0 [.ref 1, .int i] [] (124, I, J, R) (some (.int b)) (124, I, J, R)) (r_R_0_8 : R 0 8 = 24) (c2 : xEv L xs d 64 0 [.ref 23, .int (b - 48)] [] (124, I, J, R) (some (.int 0)) (124, I, J, R)) : xEv L xs (d + 1) 97 0 [.ref 0, .int i, xmk] [] (124, I, J, R) (some (.int (-1))) (124, I, J, R) := by
  refine ev_go 1 (pc1 := 1) (lv1 := [.ref 0, .int i, xmk]) (st1 := [.ref 0]) (h1 := (124, I, J, R)) rfl ?_
  refine ev_gf (c := 0) (t := 1) (X := R 0 0) rfl rfl (fun _ => rfl) rfl (hG 0 0 1 rfl rfl) ?_
  refine ev_go 1 (pc1 := 5) (lv1 := [.ref 0, .int i, xmk]) (st1 := [.int i, .ref 1]) (h1 := (124, I, J, R)) rfl ?_
  refine ev_call (v1 := (some (.int b))) (h1 := (124, I, J, R)) rfl rfl c1 ?_
  refine ev_go 4 (pc1 := 13) (lv1 := [.ref 0, .int i, .int (b - 48)]) (st1 := [.ref 0]) (h1 := (124, I, J, R)) rfl ?_
  refine ev_gf (c := 0) (t := 23) (X := R 0 8) rfl rfl (fun _ => rfl) rfl r_R_0_8 ?_
  refine ev_go 1 (pc1 := 17) (lv1 := [.ref 0, .int i, .int (b - 48)]) (st1 := [.int (b - 48), .ref 23]) (h1 := (124, I, J, R)) rfl ?_
  refine ev_call (v1 := (some (.int 0))) (h1 := (124, I, J, R)) rfl rfl c2 ?_
  refine ev_go 2 (pc1 := 28) (lv1 := [.ref 0, .int i, .int (b - 48)]) (st1 := [.int (-1)]) (h1 := (124, I, J, R)) rfl ?_
  exact ev_ret rfl rfl
set_option maxRecDepth 20000 in
theorem po_1_23 {L : Nat} {xs : Nat → Int32} {d : Nat} {I : Nat → Nat → Int32} {J : Nat → Nat → Int64} {R : Nat → Nat → Nat} {i b : Int32} (hG : aGd R) (c1 : xEv L xs d 22 0 [.ref 1, .int i] [] (124, I, J, R) (some (.int b)) (124, I, J, R)) (r_R_0_8 : R 0 8 = 24) (c2 : xEv L xs d 64 0 [.ref 23, .int (b - 48)] [] (124, I, J, R) (some (.int 1)) (124, I, J, R)) : xEv L xs (d + 1) 97 0 [.ref 0, .int i, xmk] [] (124, I, J, R) (some (.int (b - 48))) (124, I, J, R) := by
  refine ev_go 1 (pc1 := 1) (lv1 := [.ref 0, .int i, xmk]) (st1 := [.ref 0]) (h1 := (124, I, J, R)) rfl ?_
  refine ev_gf (c := 0) (t := 1) (X := R 0 0) rfl rfl (fun _ => rfl) rfl (hG 0 0 1 rfl rfl) ?_
  refine ev_go 1 (pc1 := 5) (lv1 := [.ref 0, .int i, xmk]) (st1 := [.int i, .ref 1]) (h1 := (124, I, J, R)) rfl ?_
  refine ev_call (v1 := (some (.int b))) (h1 := (124, I, J, R)) rfl rfl c1 ?_
  refine ev_go 4 (pc1 := 13) (lv1 := [.ref 0, .int i, .int (b - 48)]) (st1 := [.ref 0]) (h1 := (124, I, J, R)) rfl ?_
  refine ev_gf (c := 0) (t := 23) (X := R 0 8) rfl rfl (fun _ => rfl) rfl r_R_0_8 ?_
  refine ev_go 1 (pc1 := 17) (lv1 := [.ref 0, .int i, .int (b - 48)]) (st1 := [.int (b - 48), .ref 23]) (h1 := (124, I, J, R)) rfl ?_
  refine ev_call (v1 := (some (.int 1))) (h1 := (124, I, J, R)) rfl rfl c2 ?_
  refine ev_go 3 (pc1 := 28) (lv1 := [.ref 0, .int i, .int (b - 48)]) (st1 := [.int (b - 48)]) (h1 := (124, I, J, R)) rfl ?_
  exact ev_ret rfl rfl
theorem po_run_23 {L : Nat} {xs : Nat → Int32} {d : Nat} {I : Nat → Nat → Int32} {J : Nat → Nat → Int64} {R : Nat → Nat → Nat} (hG : aGd R) (h8 : R 0 8 = 24) {np n q : Nat} (q1 : (I 23 14).toInt = np) (hn : (I 1 1).toInt = n) (hn9 : n ≤ 900) (hq : q < n) {i : Int32} (hi : i.toInt = q) : xEv L xs (d + 1) 97 0 [.ref 0, .int i, xmk] [] (124, I, J, R) (some (.int (pX np I q))) (124, I, J, R) := by
  have b := bx_run (L := L) (xs := xs) (d := d) (I := I) (J := J) hG hn hn9 hi
  unfold bX at b
  rw [if_pos hq] at b
  unfold pX
  rcases hp_run_23 (L := L) (xs := xs) (d := d) (I := I) (J := J) hG q1 (I 2 q - 48) with ⟨h, x⟩ | ⟨h, x⟩
  · rw [if_pos h]
    exact po_1_23 hG b h8 x
  · rw [if_neg h]
    exact po_0_23 hG b h8 x
/-- the row as both have it, up to k -/
def rdE_23 (np k : Nat) (I Ir : Nat → Nat → Int32) : Prop := ∀ q, q < k → Ir 115 q = I 2 q - 48 ∧ pX np I q = I 2 q - 48 ∧ 0 ≤ (I 2 q - 48).toInt ∧ (I 2 q - 48).toInt < np
theorem rdE_s_23 {np k : Nat} {I Ir : Nat → Nat → Int32} {x : Int32} (h : rdE_23 np k I Ir) (hx : x = I 2 k - 48) (h1 : 0 ≤ (I 2 k - 48).toInt ∧ (I 2 k - 48).toInt < np) : rdE_23 np (k + 1) I (uI Ir 115 k x) := by
  intro q hq
  by_cases e : q = k
  · subst e
    rw [uI_s]
    exact ⟨hx, if_pos h1, h1⟩
  · rw [uI_n _ _ (fun z => e z.2)]
    exact h q (by omega)
theorem rdw_23 {L : Nat} {xs : Nat → Int32} {d d' : Nat} {I : Nat → Nat → Int32} {J Jr : Nat → Nat → Int64} {R Rr : Nat → Nat → Nat} (hG : aGd R) (hGr : aGd Rr) (h8 : R 0 8 = 24) {np n : Nat} (hp7 : np ≤ 7) (q1 : (I 23 14).toInt = np) (hn : (I 1 1).toInt = n) (hn9 : n ≤ 900) : ∀ (f k : Nat) (i hd : Int32) (w2 : Value) (Ir : Nat → Nat → Int32), k + f = n → i.toInt = k → (Ir 86 48).toInt = n → (Ir 88 0).toInt = np → (∀ q, q < n → Ir 87 q &&& 255 = I 2 q ∧ -128 ≤ (Ir 87 q).toInt ∧ (Ir 87 q).toInt ≤ 127) → rdE_23 np k I Ir → (∀ q, q + 1 < k → I 2 (q + 1) ≠ I 2 q) →
    ∃ (r : Int32) (Ir' : Nat → Nat → Int32), xEv L xs (d + 2) 96 2 [.ref 0, .int i, w2] [] (124, I, J, R) (some (.int r)) (124, I, J, R) ∧ xEv L xs (d' + 2) 211 18 [.ref 86, .int 2, .int 0, .int hd, .int i] [] (124, Ir, Jr, Rr) (some (.int r)) (124, Ir', Jr, Rr) ∧ (∀ c q, c ≠ 115 → Ir' c q = Ir c q) ∧ (r = 0 ∨ (r = 1 ∧ 2 ≤ n ∧ rdE_23 np n I Ir' ∧ ∀ q, q + 1 < n → I 2 (q + 1) ≠ I 2 q)) := by
  intro f
  induction f with
  | zero =>
    intro k i hd w2 Ir hk hi m1 q2 hB hE hU
    have e : k = n := by omega
    by_cases h2 : n < 2
    · exact ⟨0, Ir, wa_z hG (by omega) (by omega), rp_z0 hGr (by omega) (by omega), fun _ _ _ => rfl, Or.inl rfl⟩
    · exact ⟨1, Ir, wa_y hG (by omega) (by omega), rp_y0 hGr (by omega) (by omega), fun _ _ _ => rfl, Or.inr ⟨rfl, by omega, by rw [← e]; exact hE, by rw [← e]; exact hU⟩⟩
  | succ f ih =>
    intro k i hd w2 Ir hk hi m1 q2 hB hE hU
    have eci := clamp_s (i := i) (by omega)
    have eki : i.toNatClampNeg = k := by omega
    have hi' : (i + 1).toInt = (k + 1 : Nat) := by rw [i_add1 (by omega)]; omega
    obtain ⟨b1, b2, b3⟩ := hB k (by omega)
    have xp := po_run_23 (L := L) (xs := xs) (d := d) (I := I) (J := J) hG h8 q1 hn hn9 (q := k) (by omega) hi
    have xr := ip_run (L := L) (xs := xs) (d := d') (I := uI Ir 115 i.toNatClampNeg (Ir 87 i.toNatClampNeg - 48)) (J := Jr) (R := Rr) hGr (m := np) (by rw [uI_c _ _ _ (by decide)]; exact q2) ((uI Ir 115 i.toNatClampNeg (Ir 87 i.toNatClampNeg - 48)) 115 i.toNatClampNeg)
    rw [uI_s, eki] at xr
    by_cases hp : 0 ≤ (I 2 k - 48).toInt ∧ (I 2 k - 48).toInt < np
    rotate_left
    · rw [show pX np I k = -1 from if_neg hp] at xp
      rcases xr with ⟨z, -⟩ | ⟨-, z⟩
      · have ye := pq_eq b1 b2 b3 (Or.inl ⟨z.1, by omega⟩)
        rw [ye] at z
        exact absurd z hp
      · refine ⟨0, _, wa_x hG (by omega) xp (by decide), rp_x0 hGr (by omega) (by omega) (by omega) (by omega) (by omega) (by omega) (by omega) (by rw [uI_s, eki]; exact z), fun c q hc => uI_c _ _ _ hc, Or.inl rfl⟩
    have ye := pq_eq b1 b2 b3 (Or.inr ⟨hp.1, by omega⟩)
    rw [ye] at xr
    rw [show pX np I k = I 2 k - 48 from if_pos hp] at xp
    have xz : xEv L xs (d' + 1) 167 0 [.ref 86, .int (I 2 k - 48)] [] (124, uI Ir 115 k (I 2 k - 48), Jr, Rr) (some (.int 1)) (124, uI Ir 115 k (I 2 k - 48), Jr, Rr) := by
      rcases xr with ⟨-, z⟩ | ⟨z, -⟩
      · exact z
      · exact absurd hp z
    have hx : uI Ir 115 i.toNatClampNeg (Ir 87 i.toNatClampNeg - 48) = uI Ir 115 k (I 2 k - 48) := by rw [eki, ye]
    have xz' : xEv L xs (d' + 1) 167 0 [.ref 86, .int ((uI Ir 115 i.toNatClampNeg (Ir 87 i.toNatClampNeg - 48)) 115 i.toNatClampNeg)] [] (124, uI Ir 115 i.toNatClampNeg (Ir 87 i.toNatClampNeg - 48), Jr, Rr) (some (.int 1)) (124, uI Ir 115 i.toNatClampNeg (Ir 87 i.toNatClampNeg - 48), Jr, Rr) := by
      rw [hx, eki, uI_s]
      exact xz
    have pne : (I 2 k - 48).toInt ≠ -1 := by omega
    have go : ∀ hd', (∀ q, q + 1 < k + 1 → I 2 (q + 1) ≠ I 2 q) → ∃ (r : Int32) (Ir' : Nat → Nat → Int32), xEv L xs (d + 2) 96 2 [.ref 0, .int (i + 1), .int (I 2 k - 48)] [] (124, I, J, R) (some (.int r)) (124, I, J, R) ∧ xEv L xs (d' + 2) 211 18 [.ref 86, .int 2, .int 0, .int hd', .int (i + 1)] [] (124, uI Ir 115 i.toNatClampNeg (Ir 87 i.toNatClampNeg - 48), Jr, Rr) (some (.int r)) (124, Ir', Jr, Rr) ∧ (∀ c q, c ≠ 115 → Ir' c q = Ir c q) ∧ (r = 0 ∨ (r = 1 ∧ 2 ≤ n ∧ rdE_23 np n I Ir' ∧ ∀ q, q + 1 < n → I 2 (q + 1) ≠ I 2 q)) := by
      intro hd' hU'
      rw [hx]
      obtain ⟨r, Ir', y1, y2, y3, y4⟩ := ih (k + 1) (i + 1) hd' (.int (I 2 k - 48)) (uI Ir 115 k (I 2 k - 48)) (by omega) hi' (by rw [uI_c _ _ _ (by decide)]; exact m1) (by rw [uI_c _ _ _ (by decide)]; exact q2) (fun q hq => by rw [uI_c _ _ _ (by decide)]; exact hB q hq) (rdE_s_23 hE rfl hp) hU'
      exact ⟨r, Ir', y1, y2, fun c q hc => by rw [y3 c q hc, uI_c _ _ _ hc], y4⟩
    by_cases k0 : k = 0
    · obtain ⟨r, Ir', y1, y2, y3, y4⟩ := go _ (fun q hq => absurd hq (by omega))
      exact ⟨r, Ir', wa_f hG (by omega) xp pne (by omega) y1, rp_f0 hGr (by omega) (by omega) (by omega) (by omega) (by omega) (by omega) (by omega) xz' (by omega) (by omega) (by omega) y2, y3, y4⟩
    · have ei1 : (i - 1).toInt = (k - 1 : Nat) := by rw [i_sub (by rw [show (1 : Int32).toInt = 1 from by decide]; omega) (by rw [show (1 : Int32).toInt = 1 from by decide]; omega), show (1 : Int32).toInt = 1 from by decide]; omega
      have ec1 := clamp_s (i := i - 1) (by omega)
      have ek1 : (i - 1).toNatClampNeg = k - 1 := by omega
      obtain ⟨r1, r2, r3, r4⟩ := hE (k - 1) (by omega)
      have xp1 := po_run_23 (L := L) (xs := xs) (d := d) (I := I) (J := J) hG h8 q1 hn hn9 (q := k - 1) (by omega) ei1
      rw [r2] at xp1
      have o1 : (uI Ir 115 i.toNatClampNeg (Ir 87 i.toNatClampNeg - 48)) 115 (i - 1).toNatClampNeg = I 2 (k - 1) - 48 := by rw [ek1, uI_n _ _ (by omega)]; exact r1
      have o2 : (uI Ir 115 i.toNatClampNeg (Ir 87 i.toNatClampNeg - 48)) 115 i.toNatClampNeg = I 2 k - 48 := by rw [uI_s, eki, ye]
      by_cases he : (I 2 k - 48).toInt = (I 2 (k - 1) - 48).toInt
      · exact ⟨0, _, wa_h hG (by omega) xp pne (by omega) xp1 he, rp_h0 hGr (by omega) (by omega) (by omega) (by omega) (by omega) (by omega) (by omega) xz' (by omega) (by omega) (by omega) (by omega) (by omega) (by rw [o1, o2]; exact he.symm), fun c q hc => uI_c _ _ _ hc, Or.inl rfl⟩
      · obtain ⟨r, Ir', y1, y2, y3, y4⟩ := go _ (fun q hq => by
          by_cases e : q + 1 = k
          · intro z
            rw [e, show q = k - 1 from by omega] at z
            exact he (by rw [z])
          · exact hU q (by omega))
        exact ⟨r, Ir', wa_g hG (by omega) xp pne (by omega) xp1 he y1, rp_g0 hGr (by omega) (by omega) (by omega) (by omega) (by omega) (by omega) (by omega) xz' (by omega) (by omega) (by omega) (by omega) (by omega) (by rw [o1, o2]; exact fun z => he z.symm) (by omega) (by omega) y2, y3, y4⟩
