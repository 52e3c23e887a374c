set_option maxRecDepth 20000 in
theorem rp_0 {L : Nat} {xs : Nat → Int32} {d : Nat} {I : Nat → Nat → Int32} {J : Nat → Nat → Int64} {R : Nat → Nat → Nat} (hG : aGd R)  {v : Option Value} {h' : xH} (hk : xEv L xs d 211 18 [.ref 86, .int 1, .int 1, .int 0, .int 0] [] (124, (uI (uI I 86 48 (I 86 1)) 86 1 0), J, R) v h') : xEv L xs d 211 0 [.ref 86, .int 1, .int 1, xmk, xmk] [] (124, I, J, R) v h' := by
  refine ev_go 11 (pc1 := 18) (lv1 := [.ref 86, .int 1, .int 1, .int 0, .int 0]) (st1 := []) (h1 := (124, (uI (uI I 86 48 (I 86 1)) 86 1 0), J, R)) rfl ?_
  exact hk
set_option maxRecDepth 20000 in
theorem rp_e1 {L : Nat} {xs : Nat → Int32} {d : Nat} {I : Nat → Nat → Int32} {J : Nat → Nat → Int64} {R : Nat → Nat → Nat} {had k : Int32} (hG : aGd R) (b1 : k.toInt ≥ (I 86 48).toInt) (b2 : (I 86 48).toInt < 1) : xEv L xs d 211 18 [.ref 86, .int 1, .int 1, .int had, .int k] [] (124, I, J, R) (some (.int 0)) (124, I, J, R) := by
  refine ev_go 3 (pc1 := 24) (lv1 := [.ref 86, .int 1, .int 1, .int had, .int k]) (st1 := [.int (I 86 48), .int k]) (h1 := (124, I, J, R)) rfl ?_
  refine ev_br (b1 := true) rfl rfl (xcd_ge (x := k) (y := (I 86 48)) (by first | exact b1 | omega)) ?_
  refine ev_go 3 (pc1 := 129) (lv1 := [.ref 86, .int 1, .int 1, .int had, .int k]) (st1 := [.int 1, .int (I 86 48)]) (h1 := (124, I, J, R)) rfl ?_
  refine ev_br (b1 := true) rfl rfl (xcd_lt (x := (I 86 48)) (y := 1) (by rw [show ((1 : Int32)).toInt = 1 from by decide]; first | exact b2 | omega)) ?_
  refine ev_go 1 (pc1 := 137) (lv1 := [.ref 86, .int 1, .int 1, .int had, .int k]) (st1 := [.int 0]) (h1 := (124, I, J, R)) rfl ?_
  exact ev_ret rfl rfl
set_option maxRecDepth 20000 in
theorem rp_e2 {L : Nat} {xs : Nat → Int32} {d : Nat} {I : Nat → Nat → Int32} {J : Nat → Nat → Int64} {R : Nat → Nat → Nat} {had k : Int32} (hG : aGd R) (b1 : k.toInt ≥ (I 86 48).toInt) (b2 : (I 86 48).toInt ≥ 1) : xEv L xs d 211 18 [.ref 86, .int 1, .int 1, .int had, .int k] [] (124, I, J, R) (some (.int 1)) (124, I, J, R) := by
  refine ev_go 3 (pc1 := 24) (lv1 := [.ref 86, .int 1, .int 1, .int had, .int k]) (st1 := [.int (I 86 48), .int k]) (h1 := (124, I, J, R)) rfl ?_
  refine ev_br (b1 := true) rfl rfl (xcd_ge (x := k) (y := (I 86 48)) (by first | exact b1 | omega)) ?_
  refine ev_go 3 (pc1 := 129) (lv1 := [.ref 86, .int 1, .int 1, .int had, .int k]) (st1 := [.int 1, .int (I 86 48)]) (h1 := (124, I, J, R)) rfl ?_
  refine ev_br (b1 := false) rfl rfl (xcd_nlt (x := (I 86 48)) (y := 1) (by rw [show ((1 : Int32)).toInt = 1 from by decide]; first | exact b2 | omega)) ?_
  refine ev_go 2 (pc1 := 137) (lv1 := [.ref 86, .int 1, .int 1, .int had, .int k]) (st1 := [.int 1]) (h1 := (124, I, J, R)) rfl ?_
  exact ev_ret rfl rfl
set_option maxRecDepth 20000 in
theorem rp_a {L : Nat} {xs : Nat → Int32} {d : Nat} {I : Nat → Nat → Int32} {J : Nat → Nat → Int64} {R : Nat → Nat → Nat} {had k : Int32} (hG : aGd R) (b1 : k.toInt < (I 86 48).toInt) (n1 : 0 ≤ k.toInt) (m1 : k.toInt < 900) (n2 : 0 ≤ k.toInt) (m2 : k.toInt < 900) (n3 : 0 ≤ k.toInt) (m3 : k.toInt < 900) (c1 : xEv L xs d 167 0 [.ref 86, .int ((uI I 115 k.toNatClampNeg ((I 87 k.toNatClampNeg) - 48)) 115 k.toNatClampNeg)] [] (124, (uI I 115 k.toNatClampNeg ((I 87 k.toNatClampNeg) - 48)), J, R) (some (.int 0)) (124, (uI I 115 k.toNatClampNeg ((I 87 k.toNatClampNeg) - 48)), J, R)) : xEv L xs (d + 1) 211 18 [.ref 86, .int 1, .int 1, .int had, .int k] [] (124, I, J, R) (some (.int 0)) (124, (uI I 115 k.toNatClampNeg ((I 87 k.toNatClampNeg) - 48)), J, R) := by
  refine ev_go 3 (pc1 := 24) (lv1 := [.ref 86, .int 1, .int 1, .int had, .int k]) (st1 := [.int (I 86 48), .int k]) (h1 := (124, I, J, R)) rfl ?_
  refine ev_br (b1 := false) rfl rfl (xcd_nge (x := k) (y := (I 86 48)) (by first | exact b1 | omega)) ?_
  refine ev_go 1 (pc1 := 28) (lv1 := [.ref 86, .int 1, .int 1, .int had, .int k]) (st1 := [.ref 86]) (h1 := (124, I, J, R)) rfl ?_
  refine ev_gf (c := 86) (t := 115) (X := R 86 49) rfl rfl (fun _ => rfl) rfl (hG 86 49 115 rfl rfl) ?_
  refine ev_go 2 (pc1 := 34) (lv1 := [.ref 86, .int 1, .int 1, .int had, .int k]) (st1 := [.ref 86, .int k, .ref 115]) (h1 := (124, I, J, R)) rfl ?_
  refine ev_gf (c := 86) (t := 87) (X := R 86 0) rfl rfl (fun _ => rfl) rfl (hG 86 0 87 rfl rfl) ?_
  refine ev_go 1 (pc1 := 39) (lv1 := [.ref 86, .int 1, .int 1, .int had, .int k]) (st1 := [.int k, .ref 87, .int k, .ref 115]) (h1 := (124, I, J, R)) rfl ?_
  refine ev_bld (n := 900) (t := .byte) rfl rfl (fun _ => rfl) rfl n1 m1 ?_
  refine ev_go 2 (pc1 := 43) (lv1 := [.ref 86, .int 1, .int 1, .int had, .int k]) (st1 := [.int ((I 87 k.toNatClampNeg) - 48), .int k, .ref 115]) (h1 := (124, I, J, R)) rfl ?_
  refine ev_ist (n := 900) rfl rfl (fun _ => rfl) n2 m2 ?_
  refine ev_go 2 (pc1 := 46) (lv1 := [.ref 86, .int 1, .int 1, .int had, .int k]) (st1 := [.ref 86, .ref 86]) (h1 := (124, (uI I 115 k.toNatClampNeg ((I 87 k.toNatClampNeg) - 48)), J, R)) rfl ?_
  refine ev_gf (c := 86) (t := 115) (X := R 86 49) rfl rfl (fun _ => rfl) rfl (hG 86 49 115 rfl rfl) ?_
  refine ev_go 1 (pc1 := 51) (lv1 := [.ref 86, .int 1, .int 1, .int had, .int k]) (st1 := [.int k, .ref 115, .ref 86]) (h1 := (124, (uI I 115 k.toNatClampNeg ((I 87 k.toNatClampNeg) - 48)), J, R)) rfl ?_
  refine ev_ild (n := 900) rfl rfl (fun _ => rfl) n3 m3 ?_
  refine ev_call (v1 := (some (.int 0))) (h1 := (124, (uI I 115 k.toNatClampNeg ((I 87 k.toNatClampNeg) - 48)), J, R)) rfl rfl c1 ?_
  refine ev_go 2 (pc1 := 105) (lv1 := [.ref 86, .int 1, .int 1, .int had, .int k]) (st1 := [.int 0]) (h1 := (124, (uI I 115 k.toNatClampNeg ((I 87 k.toNatClampNeg) - 48)), J, R)) rfl ?_
  exact ev_ret rfl rfl
set_option maxRecDepth 20000 in
theorem rp_b {L : Nat} {xs : Nat → Int32} {d : Nat} {I : Nat → Nat → Int32} {J : Nat → Nat → Int64} {R : Nat → Nat → Nat} {had k : Int32} (hG : aGd R) (b1 : k.toInt < (I 86 48).toInt) (n1 : 0 ≤ k.toInt) (m1 : k.toInt < 900) (n2 : 0 ≤ k.toInt) (m2 : k.toInt < 900) (n3 : 0 ≤ k.toInt) (m3 : k.toInt < 900) (c1 : xEv L xs d 167 0 [.ref 86, .int ((uI I 115 k.toNatClampNeg ((I 87 k.toNatClampNeg) - 48)) 115 k.toNatClampNeg)] [] (124, (uI I 115 k.toNatClampNeg ((I 87 k.toNatClampNeg) - 48)), J, R) (some (.int 1)) (124, (uI I 115 k.toNatClampNeg ((I 87 k.toNatClampNeg) - 48)), J, R)) (n4 : 0 ≤ k.toInt) (m4 : k.toInt < 900) (b2 : ((had >>> (((uI I 115 k.toNatClampNeg ((I 87 k.toNatClampNeg) - 48)) 115 k.toNatClampNeg) &&& 31)) &&& 1).toInt = 1) : xEv L xs (d + 1) 211 18 [.ref 86, .int 1, .int 1, .int had, .int k] [] (124, I, J, R) (some (.int 0)) (124, (uI I 115 k.toNatClampNeg ((I 87 k.toNatClampNeg) - 48)), J, R) := by
  refine ev_go 3 (pc1 := 24) (lv1 := [.ref 86, .int 1, .int 1, .int had, .int k]) (st1 := [.int (I 86 48), .int k]) (h1 := (124, I, J, R)) rfl ?_
  refine ev_br (b1 := false) rfl rfl (xcd_nge (x := k) (y := (I 86 48)) (by first | exact b1 | omega)) ?_
  refine ev_go 1 (pc1 := 28) (lv1 := [.ref 86, .int 1, .int 1, .int had, .int k]) (st1 := [.ref 86]) (h1 := (124, I, J, R)) rfl ?_
  refine ev_gf (c := 86) (t := 115) (X := R 86 49) rfl rfl (fun _ => rfl) rfl (hG 86 49 115 rfl rfl) ?_
  refine ev_go 2 (pc1 := 34) (lv1 := [.ref 86, .int 1, .int 1, .int had, .int k]) (st1 := [.ref 86, .int k, .ref 115]) (h1 := (124, I, J, R)) rfl ?_
  refine ev_gf (c := 86) (t := 87) (X := R 86 0) rfl rfl (fun _ => rfl) rfl (hG 86 0 87 rfl rfl) ?_
  refine ev_go 1 (pc1 := 39) (lv1 := [.ref 86, .int 1, .int 1, .int had, .int k]) (st1 := [.int k, .ref 87, .int k, .ref 115]) (h1 := (124, I, J, R)) rfl ?_
  refine ev_bld (n := 900) (t := .byte) rfl rfl (fun _ => rfl) rfl n1 m1 ?_
  refine ev_go 2 (pc1 := 43) (lv1 := [.ref 86, .int 1, .int 1, .int had, .int k]) (st1 := [.int ((I 87 k.toNatClampNeg) - 48), .int k, .ref 115]) (h1 := (124, I, J, R)) rfl ?_
  refine ev_ist (n := 900) rfl rfl (fun _ => rfl) n2 m2 ?_
  refine ev_go 2 (pc1 := 46) (lv1 := [.ref 86, .int 1, .int 1, .int had, .int k]) (st1 := [.ref 86, .ref 86]) (h1 := (124, (uI I 115 k.toNatClampNeg ((I 87 k.toNatClampNeg) - 48)), J, R)) rfl ?_
  refine ev_gf (c := 86) (t := 115) (X := R 86 49) rfl rfl (fun _ => rfl) rfl (hG 86 49 115 rfl rfl) ?_
  refine ev_go 1 (pc1 := 51) (lv1 := [.ref 86, .int 1, .int 1, .int had, .int k]) (st1 := [.int k, .ref 115, .ref 86]) (h1 := (124, (uI I 115 k.toNatClampNeg ((I 87 k.toNatClampNeg) - 48)), J, R)) rfl ?_
  refine ev_ild (n := 900) rfl rfl (fun _ => rfl) n3 m3 ?_
  refine ev_call (v1 := (some (.int 1))) (h1 := (124, (uI I 115 k.toNatClampNeg ((I 87 k.toNatClampNeg) - 48)), J, R)) rfl rfl c1 ?_
  refine ev_go 5 (pc1 := 64) (lv1 := [.ref 86, .int 1, .int 1, .int had, .int k]) (st1 := [.ref 86, .int had]) (h1 := (124, (uI I 115 k.toNatClampNeg ((I 87 k.toNatClampNeg) - 48)), J, R)) rfl ?_
  refine ev_gf (c := 86) (t := 115) (X := R 86 49) rfl rfl (fun _ => rfl) rfl (hG 86 49 115 rfl rfl) ?_
  refine ev_go 1 (pc1 := 69) (lv1 := [.ref 86, .int 1, .int 1, .int had, .int k]) (st1 := [.int k, .ref 115, .int had]) (h1 := (124, (uI I 115 k.toNatClampNeg ((I 87 k.toNatClampNeg) - 48)), J, R)) rfl ?_
  refine ev_ild (n := 900) rfl rfl (fun _ => rfl) n4 m4 ?_
  refine ev_go 4 (pc1 := 74) (lv1 := [.ref 86, .int 1, .int 1, .int had, .int k]) (st1 := [.int 1, .int ((had >>> (((uI I 115 k.toNatClampNeg ((I 87 k.toNatClampNeg) - 48)) 115 k.toNatClampNeg) &&& 31)) &&& 1)]) (h1 := (124, (uI I 115 k.toNatClampNeg ((I 87 k.toNatClampNeg) - 48)), J, R)) rfl ?_
  refine ev_br (b1 := false) rfl rfl (xcd_nne (x := ((had >>> (((uI I 115 k.toNatClampNeg ((I 87 k.toNatClampNeg) - 48)) 115 k.toNatClampNeg) &&& 31)) &&& 1)) (y := 1) (by rw [show ((1 : Int32)).toInt = 1 from by decide]; first | exact b2 | omega)) ?_
  refine ev_go 2 (pc1 := 105) (lv1 := [.ref 86, .int 1, .int 1, .int had, .int k]) (st1 := [.int 0]) (h1 := (124, (uI I 115 k.toNatClampNeg ((I 87 k.toNatClampNeg) - 48)), J, R)) rfl ?_
  exact ev_ret rfl rfl
set_option maxRecDepth 20000 in
theorem rp_c {L : Nat} {xs : Nat → Int32} {d : Nat} {I : Nat → Nat → Int32} {J : Nat → Nat → Int64} {R : Nat → Nat → Nat} {had k : Int32} (hG : aGd R) (b1 : k.toInt < (I 86 48).toInt) (n1 : 0 ≤ k.toInt) (m1 : k.toInt < 900) (n2 : 0 ≤ k.toInt) (m2 : k.toInt < 900) (n3 : 0 ≤ k.toInt) (m3 : k.toInt < 900) (c1 : xEv L xs d 167 0 [.ref 86, .int ((uI I 115 k.toNatClampNeg ((I 87 k.toNatClampNeg) - 48)) 115 k.toNatClampNeg)] [] (124, (uI I 115 k.toNatClampNeg ((I 87 k.toNatClampNeg) - 48)), J, R) (some (.int 1)) (124, (uI I 115 k.toNatClampNeg ((I 87 k.toNatClampNeg) - 48)), J, R)) (n4 : 0 ≤ k.toInt) (m4 : k.toInt < 900) (b2 : ((had >>> (((uI I 115 k.toNatClampNeg ((I 87 k.toNatClampNeg) - 48)) 115 k.toNatClampNeg) &&& 31)) &&& 1).toInt ≠ 1) (n5 : 0 ≤ k.toInt) (m5 : k.toInt < 900) {v : Option Value} {h' : xH} (hk : xEv L xs (d + 1) 211 18 [.ref 86, .int 1, .int 1, .int (had ||| (1 <<< (((uI I 115 k.toNatClampNeg ((I 87 k.toNatClampNeg) - 48)) 115 k.toNatClampNeg) &&& 31))), .int (k + 1)] [] (124, (uI I 115 k.toNatClampNeg ((I 87 k.toNatClampNeg) - 48)), J, R) v h') : xEv L xs (d + 1) 211 18 [.ref 86, .int 1, .int 1, .int had, .int k] [] (124, I, J, R) v h' := by
  refine ev_go 3 (pc1 := 24) (lv1 := [.ref 86, .int 1, .int 1, .int had, .int k]) (st1 := [.int (I 86 48), .int k]) (h1 := (124, I, J, R)) rfl ?_
  refine ev_br (b1 := false) rfl rfl (xcd_nge (x := k) (y := (I 86 48)) (by first | exact b1 | omega)) ?_
  refine ev_go 1 (pc1 := 28) (lv1 := [.ref 86, .int 1, .int 1, .int had, .int k]) (st1 := [.ref 86]) (h1 := (124, I, J, R)) rfl ?_
  refine ev_gf (c := 86) (t := 115) (X := R 86 49) rfl rfl (fun _ => rfl) rfl (hG 86 49 115 rfl rfl) ?_
  refine ev_go 2 (pc1 := 34) (lv1 := [.ref 86, .int 1, .int 1, .int had, .int k]) (st1 := [.ref 86, .int k, .ref 115]) (h1 := (124, I, J, R)) rfl ?_
  refine ev_gf (c := 86) (t := 87) (X := R 86 0) rfl rfl (fun _ => rfl) rfl (hG 86 0 87 rfl rfl) ?_
  refine ev_go 1 (pc1 := 39) (lv1 := [.ref 86, .int 1, .int 1, .int had, .int k]) (st1 := [.int k, .ref 87, .int k, .ref 115]) (h1 := (124, I, J, R)) rfl ?_
  refine ev_bld (n := 900) (t := .byte) rfl rfl (fun _ => rfl) rfl n1 m1 ?_
  refine ev_go 2 (pc1 := 43) (lv1 := [.ref 86, .int 1, .int 1, .int had, .int k]) (st1 := [.int ((I 87 k.toNatClampNeg) - 48), .int k, .ref 115]) (h1 := (124, I, J, R)) rfl ?_
  refine ev_ist (n := 900) rfl rfl (fun _ => rfl) n2 m2 ?_
  refine ev_go 2 (pc1 := 46) (lv1 := [.ref 86, .int 1, .int 1, .int had, .int k]) (st1 := [.ref 86, .ref 86]) (h1 := (124, (uI I 115 k.toNatClampNeg ((I 87 k.toNatClampNeg) - 48)), J, R)) rfl ?_
  refine ev_gf (c := 86) (t := 115) (X := R 86 49) rfl rfl (fun _ => rfl) rfl (hG 86 49 115 rfl rfl) ?_
  refine ev_go 1 (pc1 := 51) (lv1 := [.ref 86, .int 1, .int 1, .int had, .int k]) (st1 := [.int k, .ref 115, .ref 86]) (h1 := (124, (uI I 115 k.toNatClampNeg ((I 87 k.toNatClampNeg) - 48)), J, R)) rfl ?_
  refine ev_ild (n := 900) rfl rfl (fun _ => rfl) n3 m3 ?_
  refine ev_call (v1 := (some (.int 1))) (h1 := (124, (uI I 115 k.toNatClampNeg ((I 87 k.toNatClampNeg) - 48)), J, R)) rfl rfl c1 ?_
  refine ev_go 5 (pc1 := 64) (lv1 := [.ref 86, .int 1, .int 1, .int had, .int k]) (st1 := [.ref 86, .int had]) (h1 := (124, (uI I 115 k.toNatClampNeg ((I 87 k.toNatClampNeg) - 48)), J, R)) rfl ?_
  refine ev_gf (c := 86) (t := 115) (X := R 86 49) rfl rfl (fun _ => rfl) rfl (hG 86 49 115 rfl rfl) ?_
  refine ev_go 1 (pc1 := 69) (lv1 := [.ref 86, .int 1, .int 1, .int had, .int k]) (st1 := [.int k, .ref 115, .int had]) (h1 := (124, (uI I 115 k.toNatClampNeg ((I 87 k.toNatClampNeg) - 48)), J, R)) rfl ?_
  refine ev_ild (n := 900) rfl rfl (fun _ => rfl) n4 m4 ?_
  refine ev_go 4 (pc1 := 74) (lv1 := [.ref 86, .int 1, .int 1, .int had, .int k]) (st1 := [.int 1, .int ((had >>> (((uI I 115 k.toNatClampNeg ((I 87 k.toNatClampNeg) - 48)) 115 k.toNatClampNeg) &&& 31)) &&& 1)]) (h1 := (124, (uI I 115 k.toNatClampNeg ((I 87 k.toNatClampNeg) - 48)), J, R)) rfl ?_
  refine ev_br (b1 := true) rfl rfl (xcd_ne (x := ((had >>> (((uI I 115 k.toNatClampNeg ((I 87 k.toNatClampNeg) - 48)) 115 k.toNatClampNeg) &&& 31)) &&& 1)) (y := 1) (by rw [show ((1 : Int32)).toInt = 1 from by decide]; first | exact b2 | omega)) ?_
  refine ev_go 3 (pc1 := 109) (lv1 := [.ref 86, .int 1, .int 1, .int had, .int k]) (st1 := [.ref 86, .int 1, .int had]) (h1 := (124, (uI I 115 k.toNatClampNeg ((I 87 k.toNatClampNeg) - 48)), J, R)) rfl ?_
  refine ev_gf (c := 86) (t := 115) (X := R 86 49) rfl rfl (fun _ => rfl) rfl (hG 86 49 115 rfl rfl) ?_
  refine ev_go 1 (pc1 := 114) (lv1 := [.ref 86, .int 1, .int 1, .int had, .int k]) (st1 := [.int k, .ref 115, .int 1, .int had]) (h1 := (124, (uI I 115 k.toNatClampNeg ((I 87 k.toNatClampNeg) - 48)), J, R)) rfl ?_
  refine ev_ild (n := 900) rfl rfl (fun _ => rfl) n5 m5 ?_
  refine ev_go 5 (pc1 := 18) (lv1 := [.ref 86, .int 1, .int 1, .int (had ||| (1 <<< (((uI I 115 k.toNatClampNeg ((I 87 k.toNatClampNeg) - 48)) 115 k.toNatClampNeg) &&& 31))), .int (k + 1)]) (st1 := []) (h1 := (124, (uI I 115 k.toNatClampNeg ((I 87 k.toNatClampNeg) - 48)), J, R)) rfl ?_
  exact hk
set_option maxRecDepth 20000 in
theorem ri_1 {L : Nat} {xs : Nat → Int32} {d : Nat} {I : Nat → Nat → Int32} {J : Nat → Nat → Int64} {R : Nat → Nat → Nat} {I1 : Nat → Nat → Int32} {J1 : Nat → Nat → Int64} {R1 : Nat → Nat → Nat} {n g : Int32} (hG : aGd R) (c1 : xEv L xs d 211 0 [.ref 86, .int 1, .int 1, xmk, xmk] [] (124, I, J, R) (some (.int g)) (124, I1, J1, R1)) (hG1 : aGd R1) (c2 : xEv L xs d 160 0 [.int n, .int 0, .int 400] [] (124, I1, J1, R1) (some (.int 0)) (124, I1, J1, R1)) : xEv L xs (d + 1) 212 0 [.ref 86, .int n, xmk, xmk] [] (124, I, J, R) (some (.int (-2))) (124, I1, J1, R1) := by
  refine ev_go 3 (pc1 := 3) (lv1 := [.ref 86, .int n, xmk, xmk]) (st1 := [.int 1, .int 1, .ref 86]) (h1 := (124, I, J, R)) rfl ?_
  refine ev_call (v1 := (some (.int g))) (h1 := (124, I1, J1, R1)) rfl rfl c1 ?_
  refine ev_go 4 (pc1 := 12) (lv1 := [.ref 86, .int n, .int g, xmk]) (st1 := [.int 400, .int 0, .int n]) (h1 := (124, I1, J1, R1)) rfl ?_
  refine ev_call (v1 := (some (.int 0))) (h1 := (124, I1, J1, R1)) rfl rfl c2 ?_
  refine ev_go 2 (pc1 := 20) (lv1 := [.ref 86, .int n, .int g, xmk]) (st1 := [.int (-2)]) (h1 := (124, I1, J1, R1)) rfl ?_
  exact ev_ret rfl rfl
set_option maxRecDepth 20000 in
theorem ri_2 {L : Nat} {xs : Nat → Int32} {d : Nat} {I : Nat → Nat → Int32} {J : Nat → Nat → Int64} {R : Nat → Nat → Nat} {I1 : Nat → Nat → Int32} {J1 : Nat → Nat → Int64} {R1 : Nat → Nat → Nat} {n : Int32} (hG : aGd R) (c1 : xEv L xs d 211 0 [.ref 86, .int 1, .int 1, xmk, xmk] [] (124, I, J, R) (some (.int 0)) (124, I1, J1, R1)) (hG1 : aGd R1) (c2 : xEv L xs d 160 0 [.int n, .int 0, .int 400] [] (124, I1, J1, R1) (some (.int 1)) (124, I1, J1, R1)) : xEv L xs (d + 1) 212 0 [.ref 86, .int n, xmk, xmk] [] (124, I, J, R) (some (.int (-1))) (124, I1, J1, R1) := by
  refine ev_go 3 (pc1 := 3) (lv1 := [.ref 86, .int n, xmk, xmk]) (st1 := [.int 1, .int 1, .ref 86]) (h1 := (124, I, J, R)) rfl ?_
  refine ev_call (v1 := (some (.int 0))) (h1 := (124, I1, J1, R1)) rfl rfl c1 ?_
  refine ev_go 4 (pc1 := 12) (lv1 := [.ref 86, .int n, .int 0, xmk]) (st1 := [.int 400, .int 0, .int n]) (h1 := (124, I1, J1, R1)) rfl ?_
  refine ev_call (v1 := (some (.int 1))) (h1 := (124, I1, J1, R1)) rfl rfl c2 ?_
  refine ev_go 4 (pc1 := 26) (lv1 := [.ref 86, .int n, .int 0, xmk]) (st1 := [.int (-1)]) (h1 := (124, I1, J1, R1)) rfl ?_
  exact ev_ret rfl rfl
set_option maxRecDepth 20000 in
theorem ri_3 {L : Nat} {xs : Nat → Int32} {d : Nat} {I : Nat → Nat → Int32} {J : Nat → Nat → Int64} {R : Nat → Nat → Nat} {I1 : Nat → Nat → Int32} {J1 : Nat → Nat → Int64} {R1 : Nat → Nat → Nat} {n : Int32} (hG : aGd R) (c1 : xEv L xs d 211 0 [.ref 86, .int 1, .int 1, xmk, xmk] [] (124, I, J, R) (some (.int 1)) (124, I1, J1, R1)) (hG1 : aGd R1) (c2 : xEv L xs d 160 0 [.int n, .int 0, .int 400] [] (124, I1, J1, R1) (some (.int 1)) (124, I1, J1, R1)) {v : Option Value} {h' : xH} (hk : xEv L xs (d + 1) 212 29 [.ref 86, .int n, .int 1, .int 0] [] (124, I1, J1, R1) v h') : xEv L xs (d + 1) 212 0 [.ref 86, .int n, xmk, xmk] [] (124, I, J, R) v h' := by
  refine ev_go 3 (pc1 := 3) (lv1 := [.ref 86, .int n, xmk, xmk]) (st1 := [.int 1, .int 1, .ref 86]) (h1 := (124, I, J, R)) rfl ?_
  refine ev_call (v1 := (some (.int 1))) (h1 := (124, I1, J1, R1)) rfl rfl c1 ?_
  refine ev_go 4 (pc1 := 12) (lv1 := [.ref 86, .int n, .int 1, xmk]) (st1 := [.int 400, .int 0, .int n]) (h1 := (124, I1, J1, R1)) rfl ?_
  refine ev_call (v1 := (some (.int 1))) (h1 := (124, I1, J1, R1)) rfl rfl c2 ?_
  refine ev_go 5 (pc1 := 29) (lv1 := [.ref 86, .int n, .int 1, .int 0]) (st1 := []) (h1 := (124, I1, J1, R1)) rfl ?_
  exact hk
set_option maxRecDepth 20000 in
theorem ri_fe {L : Nat} {xs : Nat → Int32} {d : Nat} {I : Nat → Nat → Int32} {J : Nat → Nat → Int64} {R : Nat → Nat → Nat} {n k : Int32} (hG : aGd R) (b1 : k.toInt ≥ 402) {v : Option Value} {h' : xH} (hk : xEv L xs d 212 59 [.ref 86, .int n, .int 1, .int 0] [] (124, I, J, R) v h') : xEv L xs d 212 29 [.ref 86, .int n, .int 1, .int k] [] (124, I, J, R) v h' := by
  refine ev_go 2 (pc1 := 33) (lv1 := [.ref 86, .int n, .int 1, .int k]) (st1 := [.int 402, .int k]) (h1 := (124, I, J, R)) rfl ?_
  refine ev_br (b1 := true) rfl rfl (xcd_ge (x := k) (y := 402) (by rw [show ((402 : Int32)).toInt = 402 from by decide]; first | exact b1 | omega)) ?_
  refine ev_go 2 (pc1 := 59) (lv1 := [.ref 86, .int n, .int 1, .int 0]) (st1 := []) (h1 := (124, I, J, R)) rfl ?_
  exact hk
set_option maxRecDepth 20000 in
theorem ri_f0 {L : Nat} {xs : Nat → Int32} {d : Nat} {I : Nat → Nat → Int32} {J : Nat → Nat → Int64} {R : Nat → Nat → Nat} {n k : Int32} (hG : aGd R) (b1 : k.toInt < 402) (b2 : k.toInt = 0) (n1 : 0 ≤ k.toInt) (m1 : k.toInt < 402) {v : Option Value} {h' : xH} (hk : xEv L xs d 212 29 [.ref 86, .int n, .int 1, .int (k + 1)] [] (124, (uI I 116 k.toNatClampNeg 1), J, R) v h') : xEv L xs d 212 29 [.ref 86, .int n, .int 1, .int k] [] (124, I, J, R) v h' := by
  refine ev_go 2 (pc1 := 33) (lv1 := [.ref 86, .int n, .int 1, .int k]) (st1 := [.int 402, .int k]) (h1 := (124, I, J, R)) rfl ?_
  refine ev_br (b1 := false) rfl rfl (xcd_nge (x := k) (y := 402) (by rw [show ((402 : Int32)).toInt = 402 from by decide]; first | exact b1 | omega)) ?_
  refine ev_go 1 (pc1 := 37) (lv1 := [.ref 86, .int n, .int 1, .int k]) (st1 := [.ref 86]) (h1 := (124, I, J, R)) rfl ?_
  refine ev_gf (c := 86) (t := 116) (X := R 86 50) rfl rfl (fun _ => rfl) rfl (hG 86 50 116 rfl rfl) ?_
  refine ev_go 2 (pc1 := 42) (lv1 := [.ref 86, .int n, .int 1, .int k]) (st1 := [.int k, .int k, .ref 116]) (h1 := (124, I, J, R)) rfl ?_
  refine ev_br (b1 := false) rfl rfl (xcd_nne (x := k) (y := 0) (by rw [show ((0 : Int32)).toInt = 0 from by decide]; first | exact b2 | omega)) ?_
  refine ev_go 2 (pc1 := 50) (lv1 := [.ref 86, .int n, .int 1, .int k]) (st1 := [.int 1, .int k, .ref 116]) (h1 := (124, I, J, R)) rfl ?_
  refine ev_ist (n := 402) rfl rfl (fun _ => rfl) n1 m1 ?_
  refine ev_go 2 (pc1 := 29) (lv1 := [.ref 86, .int n, .int 1, .int (k + 1)]) (st1 := []) (h1 := (124, (uI I 116 k.toNatClampNeg 1), J, R)) rfl ?_
  exact hk
set_option maxRecDepth 20000 in
theorem ri_f1 {L : Nat} {xs : Nat → Int32} {d : Nat} {I : Nat → Nat → Int32} {J : Nat → Nat → Int64} {R : Nat → Nat → Nat} {n k : Int32} (hG : aGd R) (b1 : k.toInt < 402) (b2 : k.toInt ≠ 0) (n1 : 0 ≤ k.toInt) (m1 : k.toInt < 402) {v : Option Value} {h' : xH} (hk : xEv L xs d 212 29 [.ref 86, .int n, .int 1, .int (k + 1)] [] (124, (uI I 116 k.toNatClampNeg 0), J, R) v h') : xEv L xs d 212 29 [.ref 86, .int n, .int 1, .int k] [] (124, I, J, R) v h' := by
  refine ev_go 2 (pc1 := 33) (lv1 := [.ref 86, .int n, .int 1, .int k]) (st1 := [.int 402, .int k]) (h1 := (124, I, J, R)) rfl ?_
  refine ev_br (b1 := false) rfl rfl (xcd_nge (x := k) (y := 402) (by rw [show ((402 : Int32)).toInt = 402 from by decide]; first | exact b1 | omega)) ?_
  refine ev_go 1 (pc1 := 37) (lv1 := [.ref 86, .int n, .int 1, .int k]) (st1 := [.ref 86]) (h1 := (124, I, J, R)) rfl ?_
  refine ev_gf (c := 86) (t := 116) (X := R 86 50) rfl rfl (fun _ => rfl) rfl (hG 86 50 116 rfl rfl) ?_
  refine ev_go 2 (pc1 := 42) (lv1 := [.ref 86, .int n, .int 1, .int k]) (st1 := [.int k, .int k, .ref 116]) (h1 := (124, I, J, R)) rfl ?_
  refine ev_br (b1 := true) rfl rfl (xcd_ne (x := k) (y := 0) (by rw [show ((0 : Int32)).toInt = 0 from by decide]; first | exact b2 | omega)) ?_
  refine ev_go 1 (pc1 := 50) (lv1 := [.ref 86, .int n, .int 1, .int k]) (st1 := [.int 0, .int k, .ref 116]) (h1 := (124, I, J, R)) rfl ?_
  refine ev_ist (n := 402) rfl rfl (fun _ => rfl) n1 m1 ?_
  refine ev_go 2 (pc1 := 29) (lv1 := [.ref 86, .int n, .int 1, .int (k + 1)]) (st1 := []) (h1 := (124, (uI I 116 k.toNatClampNeg 0), J, R)) rfl ?_
  exact hk
set_option maxRecDepth 20000 in
theorem ri_le {L : Nat} {xs : Nat → Int32} {d : Nat} {I : Nat → Nat → Int32} {J : Nat → Nat → Int64} {R : Nat → Nat → Nat} {n k : Int32} (hG : aGd R) (b1 : k.toInt ≥ n.toInt) {v : Option Value} {h' : xH} (hk : xEv L xs d 212 97 [.ref 86, .int n, .int 1, .int k] [] (124, I, J, R) v h') : xEv L xs d 212 59 [.ref 86, .int n, .int 1, .int k] [] (124, I, J, R) v h' := by
  refine ev_go 2 (pc1 := 61) (lv1 := [.ref 86, .int n, .int 1, .int k]) (st1 := [.int n, .int k]) (h1 := (124, I, J, R)) rfl ?_
  refine ev_br (b1 := true) rfl rfl (xcd_ge (x := k) (y := n) (by first | exact b1 | omega)) ?_
  exact hk
set_option maxRecDepth 20000 in
theorem ri_ll {L : Nat} {xs : Nat → Int32} {d : Nat} {I : Nat → Nat → Int32} {J : Nat → Nat → Int64} {R : Nat → Nat → Nat} {I1 : Nat → Nat → Int32} {J1 : Nat → Nat → Int64} {R1 : Nat → Nat → Nat} {n k : Int32} (hG : aGd R) (b1 : k.toInt < n.toInt) (n1 : (I 86 48) ≠ 0) (n2 : 0 ≤ (k - k / (I 86 48) * (I 86 48)).toInt) (m2 : (k - k / (I 86 48) * (I 86 48)).toInt < 900) (n3 : 0 ≤ (I 115 (k - k / (I 86 48) * (I 86 48)).toNatClampNeg).toInt) (m3 : (I 115 (k - k / (I 86 48) * (I 86 48)).toNatClampNeg).toInt < 14) (c1 : xEv L xs d 213 0 [.ref 86, .int (1000 - (I 91 (I 115 (k - k / (I 86 48) * (I 86 48)).toNatClampNeg).toNatClampNeg)), .int (k + 2), xmk, xmk, xmk] [] (124, I, J, R) none (124, I1, J1, R1)) (hG1 : aGd R1) {v : Option Value} {h' : xH} (hk : xEv L xs (d + 1) 212 59 [.ref 86, .int n, .int 1, .int (k + 1)] [] (124, I1, J1, R1) v h') : xEv L xs (d + 1) 212 59 [.ref 86, .int n, .int 1, .int k] [] (124, I, J, R) v h' := by
  refine ev_go 2 (pc1 := 61) (lv1 := [.ref 86, .int n, .int 1, .int k]) (st1 := [.int n, .int k]) (h1 := (124, I, J, R)) rfl ?_
  refine ev_br (b1 := false) rfl rfl (xcd_nge (x := k) (y := n) (by first | exact b1 | omega)) ?_
  refine ev_go 3 (pc1 := 69) (lv1 := [.ref 86, .int n, .int 1, .int k]) (st1 := [.ref 86, .int 1000, .ref 86]) (h1 := (124, I, J, R)) rfl ?_
  refine ev_gf (c := 86) (t := 91) (X := R 86 15) rfl rfl (fun _ => rfl) rfl (hG 86 15 91 rfl rfl) ?_
  refine ev_go 1 (pc1 := 73) (lv1 := [.ref 86, .int n, .int 1, .int k]) (st1 := [.ref 86, .ref 91, .int 1000, .ref 86]) (h1 := (124, I, J, R)) rfl ?_
  refine ev_gf (c := 86) (t := 115) (X := R 86 49) rfl rfl (fun _ => rfl) rfl (hG 86 49 115 rfl rfl) ?_
  refine ev_go 3 (pc1 := 81) (lv1 := [.ref 86, .int n, .int 1, .int k]) (st1 := [.int (I 86 48), .int k, .ref 115, .ref 91, .int 1000, .ref 86]) (h1 := (124, I, J, R)) rfl ?_
  refine ev_rem rfl rfl n1 ?_
  refine ev_ild (n := 900) rfl rfl (fun _ => rfl) n2 m2 ?_
  refine ev_ild (n := 14) rfl rfl (fun _ => rfl) n3 m3 ?_
  refine ev_go 4 (pc1 := 88) (lv1 := [.ref 86, .int n, .int 1, .int k]) (st1 := [.int (k + 2), .int (1000 - (I 91 (I 115 (k - k / (I 86 48) * (I 86 48)).toNatClampNeg).toNatClampNeg)), .ref 86]) (h1 := (124, I, J, R)) rfl ?_
  refine ev_call (v1 := none) (h1 := (124, I1, J1, R1)) rfl rfl c1 ?_
  refine ev_go 2 (pc1 := 59) (lv1 := [.ref 86, .int n, .int 1, .int (k + 1)]) (st1 := []) (h1 := (124, I1, J1, R1)) rfl ?_
  exact hk
set_option maxRecDepth 20000 in
theorem ri_z0 {L : Nat} {xs : Nat → Int32} {d : Nat} {I : Nat → Nat → Int32} {J : Nat → Nat → Int64} {R : Nat → Nat → Nat} {n k : Int32} (hG : aGd R) (b1 : n.toInt < 2) (b2 : n.toInt = 0) : xEv L xs d 212 97 [.ref 86, .int n, .int 1, .int k] [] (124, I, J, R) (some (.int 1000000)) (124, I, J, R) := by
  refine ev_go 2 (pc1 := 99) (lv1 := [.ref 86, .int n, .int 1, .int k]) (st1 := [.int 2, .int n]) (h1 := (124, I, J, R)) rfl ?_
  refine ev_br (b1 := false) rfl rfl (xcd_nge (x := n) (y := 2) (by rw [show ((2 : Int32)).toInt = 2 from by decide]; first | exact b1 | omega)) ?_
  refine ev_go 1 (pc1 := 103) (lv1 := [.ref 86, .int n, .int 1, .int k]) (st1 := [.int n]) (h1 := (124, I, J, R)) rfl ?_
  refine ev_br (b1 := false) rfl rfl (xcd_nne (x := n) (y := 0) (by rw [show ((0 : Int32)).toInt = 0 from by decide]; first | exact b2 | omega)) ?_
  refine ev_go 2 (pc1 := 133) (lv1 := [.ref 86, .int n, .int 1, .int k]) (st1 := [.int 1000000]) (h1 := (124, I, J, R)) rfl ?_
  exact ev_ret rfl rfl
set_option maxRecDepth 20000 in
theorem ri_z1 {L : Nat} {xs : Nat → Int32} {d : Nat} {I : Nat → Nat → Int32} {J : Nat → Nat → Int64} {R : Nat → Nat → Nat} {n k : Int32} (hG : aGd R) (b1 : n.toInt < 2) (b2 : n.toInt ≠ 0) : xEv L xs d 212 97 [.ref 86, .int n, .int 1, .int k] [] (124, I, J, R) (some (.int (((I 116 0) * 1000) + ((I 116 1) * 1000000)))) (124, I, J, R) := by
  refine ev_go 2 (pc1 := 99) (lv1 := [.ref 86, .int n, .int 1, .int k]) (st1 := [.int 2, .int n]) (h1 := (124, I, J, R)) rfl ?_
  refine ev_br (b1 := false) rfl rfl (xcd_nge (x := n) (y := 2) (by rw [show ((2 : Int32)).toInt = 2 from by decide]; first | exact b1 | omega)) ?_
  refine ev_go 1 (pc1 := 103) (lv1 := [.ref 86, .int n, .int 1, .int k]) (st1 := [.int n]) (h1 := (124, I, J, R)) rfl ?_
  refine ev_br (b1 := true) rfl rfl (xcd_ne (x := n) (y := 0) (by rw [show ((0 : Int32)).toInt = 0 from by decide]; first | exact b2 | omega)) ?_
  refine ev_go 1 (pc1 := 113) (lv1 := [.ref 86, .int n, .int 1, .int k]) (st1 := [.ref 86]) (h1 := (124, I, J, R)) rfl ?_
  refine ev_gf (c := 86) (t := 116) (X := R 86 50) rfl rfl (fun _ => rfl) rfl (hG 86 50 116 rfl rfl) ?_
  refine ev_go 5 (pc1 := 123) (lv1 := [.ref 86, .int n, .int 1, .int k]) (st1 := [.ref 86, .int ((I 116 0) * 1000)]) (h1 := (124, I, J, R)) rfl ?_
  refine ev_gf (c := 86) (t := 116) (X := R 86 50) rfl rfl (fun _ => rfl) rfl (hG 86 50 116 rfl rfl) ?_
  refine ev_go 5 (pc1 := 133) (lv1 := [.ref 86, .int n, .int 1, .int k]) (st1 := [.int (((I 116 0) * 1000) + ((I 116 1) * 1000000))]) (h1 := (124, I, J, R)) rfl ?_
  exact ev_ret rfl rfl
set_option maxRecDepth 20000 in
theorem ri_z2 {L : Nat} {xs : Nat → Int32} {d : Nat} {I : Nat → Nat → Int32} {J : Nat → Nat → Int64} {R : Nat → Nat → Nat} {n k : Int32} (hG : aGd R) (b1 : n.toInt ≥ 2) (n1 : 0 ≤ n.toInt) (m1 : n.toInt < 402) (n2 : 0 ≤ (n - 1).toInt) (m2 : (n - 1).toInt < 402) (n3 : 0 ≤ (n - 2).toInt) (m3 : (n - 2).toInt < 402) : xEv L xs d 212 97 [.ref 86, .int n, .int 1, .int k] [] (124, I, J, R) (some (.int ((((I 116 n.toNatClampNeg) * 1000000) + ((I 116 (n - 1).toNatClampNeg) * 1000)) + (I 116 (n - 2).toNatClampNeg)))) (124, I, J, R) := by
  refine ev_go 2 (pc1 := 99) (lv1 := [.ref 86, .int n, .int 1, .int k]) (st1 := [.int 2, .int n]) (h1 := (124, I, J, R)) rfl ?_
  refine ev_br (b1 := true) rfl rfl (xcd_ge (x := n) (y := 2) (by rw [show ((2 : Int32)).toInt = 2 from by decide]; first | exact b1 | omega)) ?_
  refine ev_go 1 (pc1 := 135) (lv1 := [.ref 86, .int n, .int 1, .int k]) (st1 := [.ref 86]) (h1 := (124, I, J, R)) rfl ?_
  refine ev_gf (c := 86) (t := 116) (X := R 86 50) rfl rfl (fun _ => rfl) rfl (hG 86 50 116 rfl rfl) ?_
  refine ev_go 1 (pc1 := 139) (lv1 := [.ref 86, .int n, .int 1, .int k]) (st1 := [.int n, .ref 116]) (h1 := (124, I, J, R)) rfl ?_
  refine ev_ild (n := 402) rfl rfl (fun _ => rfl) n1 m1 ?_
  refine ev_go 3 (pc1 := 145) (lv1 := [.ref 86, .int n, .int 1, .int k]) (st1 := [.ref 86, .int ((I 116 n.toNatClampNeg) * 1000000)]) (h1 := (124, I, J, R)) rfl ?_
  refine ev_gf (c := 86) (t := 116) (X := R 86 50) rfl rfl (fun _ => rfl) rfl (hG 86 50 116 rfl rfl) ?_
  refine ev_go 3 (pc1 := 151) (lv1 := [.ref 86, .int n, .int 1, .int k]) (st1 := [.int (n - 1), .ref 116, .int ((I 116 n.toNatClampNeg) * 1000000)]) (h1 := (124, I, J, R)) rfl ?_
  refine ev_ild (n := 402) rfl rfl (fun _ => rfl) n2 m2 ?_
  refine ev_go 4 (pc1 := 158) (lv1 := [.ref 86, .int n, .int 1, .int k]) (st1 := [.ref 86, .int (((I 116 n.toNatClampNeg) * 1000000) + ((I 116 (n - 1).toNatClampNeg) * 1000))]) (h1 := (124, I, J, R)) rfl ?_
  refine ev_gf (c := 86) (t := 116) (X := R 86 50) rfl rfl (fun _ => rfl) rfl (hG 86 50 116 rfl rfl) ?_
  refine ev_go 3 (pc1 := 164) (lv1 := [.ref 86, .int n, .int 1, .int k]) (st1 := [.int (n - 2), .ref 116, .int (((I 116 n.toNatClampNeg) * 1000000) + ((I 116 (n - 1).toNatClampNeg) * 1000))]) (h1 := (124, I, J, R)) rfl ?_
  refine ev_ild (n := 402) rfl rfl (fun _ => rfl) n3 m3 ?_
  refine ev_go 1 (pc1 := 166) (lv1 := [.ref 86, .int n, .int 1, .int k]) (st1 := [.int ((((I 116 n.toNatClampNeg) * 1000000) + ((I 116 (n - 1).toNatClampNeg) * 1000)) + (I 116 (n - 2).toNatClampNeg))]) (h1 := (124, I, J, R)) rfl ?_
  exact ev_ret rfl rfl
theorem rpL (hk : aOK 30) {L : Nat} {xs : Nat → Int32} {d : Nat} (hd : 1 ≤ d) {h0 : xH} {J : Nat → Nat → Int64} {R : Nat → Nat → Nat} : ∀ (q : Nat) (k had : Int32) (I : Nat → Nat → Int32), (900 - k.toInt).toNat = q → 0 ≤ k.toInt → aGood (124, I, J, R) → aFr (aMod 479) h0 (124, I, J, R) → (I 86 1).toInt = 0 → (∀ i : Nat, (i : Int) < k.toInt → 0 ≤ (I 115 i).toInt ∧ (I 115 i).toInt ≤ 6) → ∃ (v : Int32) (I' : Nat → Nat → Int32), xEv L xs (d + 1) 211 18 [.ref 86, .int 1, .int 1, .int had, .int k] [] (124, I, J, R) (some (.int v)) (124, I', J, R) ∧ aGood (124, I', J, R) ∧ aFr (aMod 479) h0 (124, I', J, R) ∧ (I' 86 1).toInt = 0 ∧ (v = 0 ∨ (v = 1 ∧ 1 ≤ (I' 86 48).toInt ∧ ∀ i : Nat, (i : Int) < (I' 86 48).toInt → 0 ≤ (I' 115 i).toInt ∧ (I' 115 i).toInt ≤ 6)) := by
  intro q
  induction q with
  | zero =>
    intro k had I hq hk0 hg hf ht hc
    have hy := good_int hg 86 48 rfl
    have hy2 : (aRng 86 48) = (0, 900) := rfl
    rw [hy2] at hy
    dsimp only at hy
    by_cases hm : (I 86 48).toInt < 1
    · exact ⟨_, _, rp_e1 (gd_of hg) (by omega) hm, hg, hf, ht, Or.inl rfl⟩
    · exact ⟨_, _, rp_e2 (gd_of hg) (by omega) (by omega), hg, hf, ht, Or.inr ⟨rfl, by omega, fun i hi => hc i (by omega)⟩⟩
  | succ q ih =>
    intro k had I hq hk0 hg hf ht hc
    have hG := gd_of hg
    have hy := good_int hg 86 48 rfl
    have hy2 : (aRng 86 48) = (0, 900) := rfl
    rw [hy2] at hy
    dsimp only at hy
    by_cases hkm : k.toInt ≥ (I 86 48).toInt
    · by_cases hm : (I 86 48).toInt < 1
      · exact ⟨_, _, rp_e1 hG hkm hm, hg, hf, ht, Or.inl rfl⟩
      · exact ⟨_, _, rp_e2 hG hkm (by omega), hg, hf, ht, Or.inr ⟨rfl, by omega, fun i hi => hc i (by omega)⟩⟩
    have x0 : k.toInt < (I 86 48).toInt := by omega
    have x1 : k.toInt < 900 := by omega
    have ec := clamp_s (i := k) hk0
    have ei := i_add1 (x := k) (by omega)
    have g1 : aGood (124, uI I 115 k.toNatClampNeg (I 87 k.toNatClampNeg - 48), J, R) := gd_I hg (aw _).1 (aw _).2
    have f1 : aFr (aMod 479) h0 (124, uI I 115 k.toNatClampNeg (I 87 k.toNatClampNeg - 48), J, R) := fr_uI hf (md (n := 298) rfl rfl)
    rcases isP_run hk (L := L) (xs := xs) (d := d) hd g1 (uI I 115 k.toNatClampNeg (I 87 k.toNatClampNeg - 48) 115 k.toNatClampNeg) with c1 | ⟨c1, p0, p1⟩
    · exact ⟨_, _, rp_a hG x0 hk0 x1 hk0 x1 hk0 x1 c1, g1, f1, ht, Or.inl rfl⟩
    by_cases hb : ((had >>> ((uI I 115 k.toNatClampNeg (I 87 k.toNatClampNeg - 48) 115 k.toNatClampNeg) &&& 31)) &&& 1).toInt = 1
    · exact ⟨_, _, rp_b hG x0 hk0 x1 hk0 x1 hk0 x1 c1 hk0 x1 hb, g1, f1, ht, Or.inl rfl⟩
    · obtain ⟨v, I', z1, z2⟩ := ih (k + 1) (had ||| (1 <<< ((uI I 115 k.toNatClampNeg (I 87 k.toNatClampNeg - 48) 115 k.toNatClampNeg) &&& 31))) _ (by omega) (by omega) g1 f1 ht (by
        intro i hi
        by_cases e : i = k.toNatClampNeg
        · rw [e]
          exact ⟨p0, p1⟩
        · rw [uI_n _ _ (fun z => e z.2)]
          exact hc i (by omega))
      exact ⟨v, I', rp_c hG x0 hk0 x1 hk0 x1 hk0 x1 c1 hk0 x1 hb hk0 x1 z1, z2⟩
theorem rp_run (hk : aOK 30) {L : Nat} {xs : Nat → Int32} {d : Nat} (hd : 1 ≤ d) {I : Nat → Nat → Int32} {J : Nat → Nat → Int64} {R : Nat → Nat → Nat} (hg : aGood (124, I, J, R)) : ∃ (v : Int32) (I' : Nat → Nat → Int32), xEv L xs (d + 1) 211 0 [.ref 86, .int 1, .int 1, xmk, xmk] [] (124, I, J, R) (some (.int v)) (124, I', J, R) ∧ aGood (124, I', J, R) ∧ aFr (aMod 479) (124, I, J, R) (124, I', J, R) ∧ (I' 86 1).toInt = 0 ∧ (v = 0 ∨ (v = 1 ∧ 1 ≤ (I' 86 48).toInt ∧ ∀ i : Nat, (i : Int) < (I' 86 48).toInt → 0 ≤ (I' 115 i).toInt ∧ (I' 115 i).toInt ≤ 6)) := by
  have hG := gd_of hg
  have hT := good_int hg 86 1 rfl
  have hT2 : (aRng 86 1) = (0, 900) := rfl
  rw [hT2] at hT
  dsimp only at hT
  obtain ⟨v, I', z1, z2⟩ := rpL hk (L := L) (xs := xs) (d := d) hd (h0 := (124, I, J, R)) (J := J) (R := R) _ 0 0 (uI (uI I 86 48 (I 86 1)) 86 1 0) rfl (by decide) (gd_I (gd_I hg (by show (0 : Int) ≤ (I 86 1).toInt; omega) (by show (I 86 1).toInt ≤ 900; omega)) (by decide) (by decide)) (fr_uI (fr_uI (aFr_refl _ _) rfl) rfl) rfl (by
    intro i hi
    have hi' : (i : Int) < 0 := hi
    omega)
  exact ⟨v, I', rp_0 hG z1, z2⟩
theorem riL (hk : aOK 28) {L : Nat} {xs : Nat → Int32} {d : Nat} {h0 : aE} {n : Int32} (hn0 : 0 ≤ n.toInt) (hn : n.toInt ≤ 400) : ∀ (q : Nat) (k : Int32) (I : Nat → Nat → Int32) (J : Nat → Nat → Int64) (R : Nat → Nat → Nat), (n.toInt - k.toInt).toNat = q → 0 ≤ k.toInt → aGood (124, I, J, R) → aFr (aMod 479) h0.1 (124, I, J, R) → (I 86 1).toInt = 0 → 1 ≤ (I 86 48).toInt → (∀ i : Nat, (i : Int) < (I 86 48).toInt → 0 ≤ (I 115 i).toInt ∧ (I 115 i).toInt ≤ 6) → aT L xs (d + 1) 479 h0 59 [.ref 86, .int n, .int 1, .int k] [] (124, I, J, R) := by
  have fin : ∀ (k : Int32) (I : Nat → Nat → Int32) (J : Nat → Nat → Int64) (R : Nat → Nat → Nat), aGood (124, I, J, R) → aFr (aMod 479) h0.1 (124, I, J, R) → (I 86 1).toInt = 0 → aT L xs (d + 1) 479 h0 97 [.ref 86, .int n, .int 1, .int k] [] (124, I, J, R) := by
    intro k I J R hg hf ht
    have hG := gd_of hg
    have ful : ∀ x : Int32, aPost 479 h0 (some (.int x)) (124, I, J, R) := fun x => post1 (cs := (some (Sum.inr (Sum.inl ((-2147483648), 2147483647, none))), [], [(86, 1, 0, 0)], [])) (List.mem_singleton.mpr rfl) hg hf (cok_i (aw _).1 (aw _).2 (fok1 rfl (by show (0 : Int) ≤ (I 86 1).toInt; omega) (by show (I 86 1).toInt ≤ 0; omega)))
    by_cases h2 : n.toInt ≥ 2
    · have e1 : (n - 1).toInt = n.toInt - 1 := i_sub (by rw [show (1 : Int32).toInt = 1 from by decide]; omega) (by rw [show (1 : Int32).toInt = 1 from by decide]; omega)
      have e2 : (n - 2).toInt = n.toInt - 2 := i_sub (by rw [show (2 : Int32).toInt = 2 from by decide]; omega) (by rw [show (2 : Int32).toInt = 2 from by decide]; omega)
      exact ⟨_, _, ri_z2 hG h2 (by omega) (by omega) (by omega) (by omega) (by omega) (by omega), ful _⟩
    · by_cases h3 : n.toInt = 0
      · exact ⟨_, _, ri_z0 hG (by omega) h3, ful _⟩
      · exact ⟨_, _, ri_z1 hG (by omega) h3, ful _⟩
  intro q
  induction q with
  | zero =>
    intro k I J R hq hk0 hg hf ht hm hc
    exact aT_of (fun hk => ri_le (gd_of hg) (by omega) hk) (fin k I J R hg hf ht)
  | succ q ih =>
    intro k I J R hq hk0 hg hf ht hm hc
    have hG := gd_of hg
    have hy := good_int hg 86 48 rfl
    have hy2 : (aRng 86 48) = (0, 900) := rfl
    rw [hy2] at hy
    dsimp only at hy
    have ei := i_add1 (x := k) (by omega)
    have e2 : (k + 2).toInt = k.toInt + 2 := i_add (by rw [show (2 : Int32).toInt = 2 from by decide]; omega) (by rw [show (2 : Int32).toInt = 2 from by decide]; omega)
    have er := ai_rem (x := k) (y := I 86 48) hm
    have m0 := Int.tmod_nonneg (a := k.toInt) ((I 86 48).toInt) hk0
    have m1 := Int.tmod_lt_of_pos k.toInt (show 0 < (I 86 48).toInt by omega)
    have r0 : 0 ≤ (k - k / (I 86 48) * (I 86 48)).toInt := by rw [er]; exact m0
    have r1 : (k - k / (I 86 48) * (I 86 48)).toInt < (I 86 48).toInt := by rw [er]; exact m1
    have ec := clamp_s (i := k - k / (I 86 48) * (I 86 48)) r0
    obtain ⟨p0, p1⟩ := hc (k - k / (I 86 48) * (I 86 48)).toNatClampNeg (by omega)
    obtain ⟨v1, ⟨n1, I1, J1, R1⟩, he, hg1, hf1, cs, hcs, hcc⟩ := hk L xs d [.ref 86, .int (1000 - I 91 (I 115 (k - k / (I 86 48) * (I 86 48)).toNatClampNeg).toNatClampNeg), .int (k + 2)] (124, I, J, R) (Nat.zero_le _) hg ⟨g0_r (by decide), g0_i (aw _).1 (aw _).2, g0_i (by omega) (by omega), rfl⟩ fok0
    have e1 : n1 = 124 := hg1.1
    subst e1
    have hcs2 := List.mem_singleton.mp hcs
    subst hcs2
    have q1' : v1 = none := hcc.1
    subst q1'
    have e48 : I1 86 48 = I 86 48 := fr_int hf1 86 48 rfl
    have et : I1 86 1 = I 86 1 := fr_int hf1 86 1 rfl
    have eR : ∀ i, I1 115 i = I 115 i := fun i => fr_int hf1 115 i (mdn (n := 298) rfl rfl)
    exact aT_of (fun hk => ri_ll hG (by omega) (ai_ne0 (by omega)) r0 (by omega) p0 (by omega) he (gd_of hg1) hk) (ih (k + 1) I1 J1 R1 (by omega) (by omega) hg1 (aFr_trans rfl hf hf1) (by rw [et]; exact ht) (by rw [e48]; exact hm) (fun i hi => by rw [eR]; exact hc i (by rw [e48] at hi; exact hi)))
theorem riF {L : Nat} {xs : Nat → Int32} {d : Nat} {h0 : aE} {n : Int32} {J : Nat → Nat → Int64} {R : Nat → Nat → Nat} (kk : ∀ I, aGood (124, I, J, R) → aFr (aMod 479) h0.1 (124, I, J, R) → (I 86 1).toInt = 0 → 1 ≤ (I 86 48).toInt → (∀ i : Nat, (i : Int) < (I 86 48).toInt → 0 ≤ (I 115 i).toInt ∧ (I 115 i).toInt ≤ 6) → aT L xs d 479 h0 59 [.ref 86, .int n, .int 1, .int 0] [] (124, I, J, R)) : ∀ (q : Nat) (k : Int32) (I : Nat → Nat → Int32), (402 - k.toInt).toNat = q → 0 ≤ k.toInt → aGood (124, I, J, R) → aFr (aMod 479) h0.1 (124, I, J, R) → (I 86 1).toInt = 0 → 1 ≤ (I 86 48).toInt → (∀ i : Nat, (i : Int) < (I 86 48).toInt → 0 ≤ (I 115 i).toInt ∧ (I 115 i).toInt ≤ 6) → aT L xs d 479 h0 29 [.ref 86, .int n, .int 1, .int k] [] (124, I, J, R) := by
  intro q
  induction q with
  | zero =>
    intro k I hq hk0 hg hf ht hm hc
    exact aT_of (fun hk => ri_fe (gd_of hg) (by omega) hk) (kk I hg hf ht hm hc)
  | succ q ih =>
    intro k I hq hk0 hg hf ht hm hc
    have ei := i_add1 (x := k) (by omega)
    by_cases hz : k.toInt = 0
    · exact aT_of (fun hk => ri_f0 (gd_of hg) (by omega) hz hk0 (by omega) hk) (ih (k + 1) _ (by omega) (by omega) (gd_I hg (aw _).1 (aw _).2) (fr_uI hf (md (n := 299) rfl rfl)) ht hm hc)
    · exact aT_of (fun hk => ri_f1 (gd_of hg) (by omega) hz hk0 (by omega) hk) (ih (k + 1) _ (by omega) (by omega) (gd_I hg (aw _).1 (aw _).2) (fr_uI hf (md (n := 299) rfl rfl)) ht hm hc)
theorem okh_479 (hkn : ∀ n, n < 479 → aOK n) : aOK 479 := by
  intro L xs d vs h hd hg hA hF
  obtain ⟨n0, I, J, R⟩ := h
  have e1 : n0 = 124 := hg.1
  subst e1
  obtain ⟨n, rfl, -, -⟩ := args_RI (c := 86) hA
  have hd5 : 5 ≤ d := hd
  obtain ⟨d, rfl⟩ : ∃ e, d = e + 2 := ⟨d - 2, by omega⟩
  have hG := gd_of hg
  obtain ⟨v, I1, z1, z2, z3, z4, z5⟩ := rp_run (hkn 30 (by decide)) (L := L) (xs := xs) (d := d) (by omega) hg
  have G1 := gd_of z2
  have ful : ∀ x : Int32, aPost 479 ((124, I, J, R), [.ref 86, .int n]) (some (.int x)) (124, I1, J, R) := fun x => post1 (cs := (some (Sum.inr (Sum.inl ((-2147483648), 2147483647, none))), [], [(86, 1, 0, 0)], [])) (List.mem_singleton.mpr rfl) z2 z3 (cok_i (aw _).1 (aw _).2 (fok1 rfl (by show (0 : Int) ≤ (I1 86 1).toInt; omega) (by show (I1 86 1).toInt ≤ 0; omega)))
  rcases in_run (L := L) (xs := xs) (d := d + 1) (I := I1) (J := J) hG n 0 400 with ⟨c2, h1, h2⟩ | c2
  · rcases z5 with rfl | ⟨rfl, hm, hc⟩
    · exact ⟨_, _, ri_2 hG z1 G1 c2, ful _⟩
    · exact aT_of (fun hk => ri_3 hG z1 G1 c2 hk) (riF (fun I' a1 a2 a3 a4 a5 => riL (hkn 28 (by decide)) h1 h2 _ 0 I' J R rfl (by decide) a1 a2 a3 a4 a5) _ 0 I1 rfl (by decide) z2 z3 z4 hm hc)
  · exact ⟨_, _, ri_1 hG z1 G1 c2, ful _⟩
