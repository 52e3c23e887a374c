set_option maxRecDepth 20000 in
theorem zr_r {L : Nat} {xs : Nat → Int32} {d : Nat} {I : Nat → Nat → Int32} {J : Nat → Nat → Int64} {R : Nat → Nat → Nat} {I1 : Nat → Nat → Int32} {J1 : Nat → Nat → Int64} {a g : Int32} (hG : aGd R) (c1 : xEv L xs d 211 0 [.ref 86, .int 1, .int 1, xmk, xmk] [] (124, I, J, R) (some (.int g)) (124, I1, J1, R)) (c2 : xEv L xs d 160 0 [.int a, .int 0, .int 400] [] (124, I1, J1, R) (some (.int 0)) (124, I1, J1, R)) : xEv L xs (d + 1) 212 0 [.ref 86, .int a, xmk, xmk] [] (124, I, J, R) (some (.int (-2))) (124, I1, J1, R) := by
  refine ev_go 3 (pc1 := 3) (lv1 := [.ref 86, .int a, xmk, xmk]) (st1 := [.int 1, .int 1, .ref 86]) (h1 := (124, I, J, R)) rfl ?_
  refine ev_call (v1 := (some (.int g))) (h1 := (124, I1, J1, R)) rfl rfl c1 ?_
  refine ev_go 4 (pc1 := 12) (lv1 := [.ref 86, .int a, .int g, xmk]) (st1 := [.int 400, .int 0, .int a]) (h1 := (124, I1, J1, R)) rfl ?_
  refine ev_call (v1 := (some (.int 0))) (h1 := (124, I1, J1, R)) rfl rfl c2 ?_
  refine ev_go 2 (pc1 := 20) (lv1 := [.ref 86, .int a, .int g, xmk]) (st1 := [.int (-2)]) (h1 := (124, I1, J1, R)) rfl ?_
  exact ev_ret rfl rfl
set_option maxRecDepth 20000 in
theorem zr_n {L : Nat} {xs : Nat → Int32} {d : Nat} {I : Nat → Nat → Int32} {J : Nat → Nat → Int64} {R : Nat → Nat → Nat} {I1 : Nat → Nat → Int32} {J1 : Nat → Nat → Int64} {a : Int32} (hG : aGd R) (c1 : xEv L xs d 211 0 [.ref 86, .int 1, .int 1, xmk, xmk] [] (124, I, J, R) (some (.int 0)) (124, I1, J1, R)) (c2 : xEv L xs d 160 0 [.int a, .int 0, .int 400] [] (124, I1, J1, R) (some (.int 1)) (124, I1, J1, R)) : xEv L xs (d + 1) 212 0 [.ref 86, .int a, xmk, xmk] [] (124, I, J, R) (some (.int (-1))) (124, I1, J1, R) := by
  refine ev_go 3 (pc1 := 3) (lv1 := [.ref 86, .int a, xmk, xmk]) (st1 := [.int 1, .int 1, .ref 86]) (h1 := (124, I, J, R)) rfl ?_
  refine ev_call (v1 := (some (.int 0))) (h1 := (124, I1, J1, R)) rfl rfl c1 ?_
  refine ev_go 4 (pc1 := 12) (lv1 := [.ref 86, .int a, .int 0, xmk]) (st1 := [.int 400, .int 0, .int a]) (h1 := (124, I1, J1, R)) rfl ?_
  refine ev_call (v1 := (some (.int 1))) (h1 := (124, I1, J1, R)) rfl rfl c2 ?_
  refine ev_go 4 (pc1 := 26) (lv1 := [.ref 86, .int a, .int 0, xmk]) (st1 := [.int (-1)]) (h1 := (124, I1, J1, R)) rfl ?_
  exact ev_ret rfl rfl
set_option maxRecDepth 20000 in
theorem zr_s {L : Nat} {xs : Nat → Int32} {d : Nat} {I : Nat → Nat → Int32} {J : Nat → Nat → Int64} {R : Nat → Nat → Nat} {I1 : Nat → Nat → Int32} {J1 : Nat → Nat → Int64} {a : Int32} (hG : aGd R) (c1 : xEv L xs d 211 0 [.ref 86, .int 1, .int 1, xmk, xmk] [] (124, I, J, R) (some (.int 1)) (124, I1, J1, R)) (c2 : xEv L xs d 160 0 [.int a, .int 0, .int 400] [] (124, I1, J1, R) (some (.int 1)) (124, I1, J1, R)) {v : Option Value} {h' : xH} (hk : xEv L xs (d + 1) 212 29 [.ref 86, .int a, .int 1, .int 0] [] (124, I1, J1, R) v h') : xEv L xs (d + 1) 212 0 [.ref 86, .int a, xmk, xmk] [] (124, I, J, R) v h' := by
  refine ev_go 3 (pc1 := 3) (lv1 := [.ref 86, .int a, xmk, xmk]) (st1 := [.int 1, .int 1, .ref 86]) (h1 := (124, I, J, R)) rfl ?_
  refine ev_call (v1 := (some (.int 1))) (h1 := (124, I1, J1, R)) rfl rfl c1 ?_
  refine ev_go 4 (pc1 := 12) (lv1 := [.ref 86, .int a, .int 1, xmk]) (st1 := [.int 400, .int 0, .int a]) (h1 := (124, I1, J1, R)) rfl ?_
  refine ev_call (v1 := (some (.int 1))) (h1 := (124, I1, J1, R)) rfl rfl c2 ?_
  refine ev_go 5 (pc1 := 29) (lv1 := [.ref 86, .int a, .int 1, .int 0]) (st1 := []) (h1 := (124, I1, J1, R)) rfl ?_
  exact hk
set_option maxRecDepth 20000 in
theorem zr_f1 {L : Nat} {xs : Nat → Int32} {d : Nat} {I : Nat → Nat → Int32} {J : Nat → Nat → Int64} {R : Nat → Nat → Nat} {a k : Int32} (hG : aGd R) (b1 : k.toInt < 402) (b2 : k.toInt = 0) (n1 : 0 ≤ k.toInt) (m1 : k.toInt < 402) {v : Option Value} {h' : xH} (hk : xEv L xs d 212 29 [.ref 86, .int a, .int 1, .int (k + 1)] [] (124, (uI I 116 k.toNatClampNeg 1), J, R) v h') : xEv L xs d 212 29 [.ref 86, .int a, .int 1, .int k] [] (124, I, J, R) v h' := by
  refine ev_go 2 (pc1 := 33) (lv1 := [.ref 86, .int a, .int 1, .int k]) (st1 := [.int 402, .int k]) (h1 := (124, I, J, R)) rfl ?_
  refine ev_br (b1 := false) rfl rfl (xcd_nge (x := k) (y := 402) (by rw [show ((402 : Int32)).toInt = 402 from by decide]; first | exact b1 | omega)) ?_
  refine ev_go 1 (pc1 := 37) (lv1 := [.ref 86, .int a, .int 1, .int k]) (st1 := [.ref 86]) (h1 := (124, I, J, R)) rfl ?_
  refine ev_gf (c := 86) (t := 116) (X := R 86 50) rfl rfl (fun _ => rfl) rfl (hG 86 50 116 rfl rfl) ?_
  refine ev_go 2 (pc1 := 42) (lv1 := [.ref 86, .int a, .int 1, .int k]) (st1 := [.int k, .int k, .ref 116]) (h1 := (124, I, J, R)) rfl ?_
  refine ev_br (b1 := false) rfl rfl (xcd_nne (x := k) (y := 0) (by rw [show ((0 : Int32)).toInt = 0 from by decide]; first | exact b2 | omega)) ?_
  refine ev_go 2 (pc1 := 50) (lv1 := [.ref 86, .int a, .int 1, .int k]) (st1 := [.int 1, .int k, .ref 116]) (h1 := (124, I, J, R)) rfl ?_
  refine ev_ist (n := 402) rfl rfl (fun _ => rfl) n1 m1 ?_
  refine ev_go 2 (pc1 := 29) (lv1 := [.ref 86, .int a, .int 1, .int (k + 1)]) (st1 := []) (h1 := (124, (uI I 116 k.toNatClampNeg 1), J, R)) rfl ?_
  exact hk
set_option maxRecDepth 20000 in
theorem zr_f0 {L : Nat} {xs : Nat → Int32} {d : Nat} {I : Nat → Nat → Int32} {J : Nat → Nat → Int64} {R : Nat → Nat → Nat} {a k : Int32} (hG : aGd R) (b1 : k.toInt < 402) (b2 : k.toInt ≠ 0) (n1 : 0 ≤ k.toInt) (m1 : k.toInt < 402) {v : Option Value} {h' : xH} (hk : xEv L xs d 212 29 [.ref 86, .int a, .int 1, .int (k + 1)] [] (124, (uI I 116 k.toNatClampNeg 0), J, R) v h') : xEv L xs d 212 29 [.ref 86, .int a, .int 1, .int k] [] (124, I, J, R) v h' := by
  refine ev_go 2 (pc1 := 33) (lv1 := [.ref 86, .int a, .int 1, .int k]) (st1 := [.int 402, .int k]) (h1 := (124, I, J, R)) rfl ?_
  refine ev_br (b1 := false) rfl rfl (xcd_nge (x := k) (y := 402) (by rw [show ((402 : Int32)).toInt = 402 from by decide]; first | exact b1 | omega)) ?_
  refine ev_go 1 (pc1 := 37) (lv1 := [.ref 86, .int a, .int 1, .int k]) (st1 := [.ref 86]) (h1 := (124, I, J, R)) rfl ?_
  refine ev_gf (c := 86) (t := 116) (X := R 86 50) rfl rfl (fun _ => rfl) rfl (hG 86 50 116 rfl rfl) ?_
  refine ev_go 2 (pc1 := 42) (lv1 := [.ref 86, .int a, .int 1, .int k]) (st1 := [.int k, .int k, .ref 116]) (h1 := (124, I, J, R)) rfl ?_
  refine ev_br (b1 := true) rfl rfl (xcd_ne (x := k) (y := 0) (by rw [show ((0 : Int32)).toInt = 0 from by decide]; first | exact b2 | omega)) ?_
  refine ev_go 1 (pc1 := 50) (lv1 := [.ref 86, .int a, .int 1, .int k]) (st1 := [.int 0, .int k, .ref 116]) (h1 := (124, I, J, R)) rfl ?_
  refine ev_ist (n := 402) rfl rfl (fun _ => rfl) n1 m1 ?_
  refine ev_go 2 (pc1 := 29) (lv1 := [.ref 86, .int a, .int 1, .int (k + 1)]) (st1 := []) (h1 := (124, (uI I 116 k.toNatClampNeg 0), J, R)) rfl ?_
  exact hk
set_option maxRecDepth 20000 in
theorem zr_fx {L : Nat} {xs : Nat → Int32} {d : Nat} {I : Nat → Nat → Int32} {J : Nat → Nat → Int64} {R : Nat → Nat → Nat} {a k : Int32} (hG : aGd R) (b1 : k.toInt ≥ 402) {v : Option Value} {h' : xH} (hk : xEv L xs d 212 59 [.ref 86, .int a, .int 1, .int 0] [] (124, I, J, R) v h') : xEv L xs d 212 29 [.ref 86, .int a, .int 1, .int k] [] (124, I, J, R) v h' := by
  refine ev_go 2 (pc1 := 33) (lv1 := [.ref 86, .int a, .int 1, .int k]) (st1 := [.int 402, .int k]) (h1 := (124, I, J, R)) rfl ?_
  refine ev_br (b1 := true) rfl rfl (xcd_ge (x := k) (y := 402) (by rw [show ((402 : Int32)).toInt = 402 from by decide]; first | exact b1 | omega)) ?_
  refine ev_go 2 (pc1 := 59) (lv1 := [.ref 86, .int a, .int 1, .int 0]) (st1 := []) (h1 := (124, I, J, R)) rfl ?_
  exact hk
set_option maxRecDepth 20000 in
theorem zr_l {L : Nat} {xs : Nat → Int32} {d : Nat} {I : Nat → Nat → Int32} {J : Nat → Nat → Int64} {R : Nat → Nat → Nat} {I1 : Nat → Nat → Int32} {J1 : Nat → Nat → Int64} {a k : Int32} (hG : aGd R) (b1 : k.toInt < a.toInt) (n1 : (I 86 48) ≠ 0) (n2 : 0 ≤ (k - k / (I 86 48) * (I 86 48)).toInt) (m2 : (k - k / (I 86 48) * (I 86 48)).toInt < 900) (n3 : 0 ≤ (I 115 (k - k / (I 86 48) * (I 86 48)).toNatClampNeg).toInt) (m3 : (I 115 (k - k / (I 86 48) * (I 86 48)).toNatClampNeg).toInt < 14) (c1 : xEv L xs d 213 0 [.ref 86, .int (1000 - (I 91 (I 115 (k - k / (I 86 48) * (I 86 48)).toNatClampNeg).toNatClampNeg)), .int (k + 2), xmk, xmk, xmk] [] (124, I, J, R) none (124, I1, J1, R)) {v : Option Value} {h' : xH} (hk : xEv L xs (d + 1) 212 59 [.ref 86, .int a, .int 1, .int (k + 1)] [] (124, I1, J1, R) v h') : xEv L xs (d + 1) 212 59 [.ref 86, .int a, .int 1, .int k] [] (124, I, J, R) v h' := by
  refine ev_go 2 (pc1 := 61) (lv1 := [.ref 86, .int a, .int 1, .int k]) (st1 := [.int a, .int k]) (h1 := (124, I, J, R)) rfl ?_
  refine ev_br (b1 := false) rfl rfl (xcd_nge (x := k) (y := a) (by first | exact b1 | omega)) ?_
  refine ev_go 3 (pc1 := 69) (lv1 := [.ref 86, .int a, .int 1, .int k]) (st1 := [.ref 86, .int 1000, .ref 86]) (h1 := (124, I, J, R)) rfl ?_
  refine ev_gf (c := 86) (t := 91) (X := R 86 15) rfl rfl (fun _ => rfl) rfl (hG 86 15 91 rfl rfl) ?_
  refine ev_go 1 (pc1 := 73) (lv1 := [.ref 86, .int a, .int 1, .int k]) (st1 := [.ref 86, .ref 91, .int 1000, .ref 86]) (h1 := (124, I, J, R)) rfl ?_
  refine ev_gf (c := 86) (t := 115) (X := R 86 49) rfl rfl (fun _ => rfl) rfl (hG 86 49 115 rfl rfl) ?_
  refine ev_go 3 (pc1 := 81) (lv1 := [.ref 86, .int a, .int 1, .int k]) (st1 := [.int (I 86 48), .int k, .ref 115, .ref 91, .int 1000, .ref 86]) (h1 := (124, I, J, R)) rfl ?_
  refine ev_rem rfl rfl n1 ?_
  refine ev_ild (n := 900) rfl rfl (fun _ => rfl) n2 m2 ?_
  refine ev_ild (n := 14) rfl rfl (fun _ => rfl) n3 m3 ?_
  refine ev_go 4 (pc1 := 88) (lv1 := [.ref 86, .int a, .int 1, .int k]) (st1 := [.int (k + 2), .int (1000 - (I 91 (I 115 (k - k / (I 86 48) * (I 86 48)).toNatClampNeg).toNatClampNeg)), .ref 86]) (h1 := (124, I, J, R)) rfl ?_
  refine ev_call (v1 := none) (h1 := (124, I1, J1, R)) rfl rfl c1 ?_
  refine ev_go 2 (pc1 := 59) (lv1 := [.ref 86, .int a, .int 1, .int (k + 1)]) (st1 := []) (h1 := (124, I1, J1, R)) rfl ?_
  exact hk
set_option maxRecDepth 20000 in
theorem zr_d0 {L : Nat} {xs : Nat → Int32} {d : Nat} {I : Nat → Nat → Int32} {J : Nat → Nat → Int64} {R : Nat → Nat → Nat} {a k : Int32} (hG : aGd R) (b1 : k.toInt ≥ a.toInt) (b2 : a.toInt < 2) (b3 : a.toInt = 0) : xEv L xs d 212 59 [.ref 86, .int a, .int 1, .int k] [] (124, I, J, R) (some (.int 1000000)) (124, I, J, R) := by
  refine ev_go 2 (pc1 := 61) (lv1 := [.ref 86, .int a, .int 1, .int k]) (st1 := [.int a, .int k]) (h1 := (124, I, J, R)) rfl ?_
  refine ev_br (b1 := true) rfl rfl (xcd_ge (x := k) (y := a) (by first | exact b1 | omega)) ?_
  refine ev_go 2 (pc1 := 99) (lv1 := [.ref 86, .int a, .int 1, .int k]) (st1 := [.int 2, .int a]) (h1 := (124, I, J, R)) rfl ?_
  refine ev_br (b1 := false) rfl rfl (xcd_nge (x := a) (y := 2) (by rw [show ((2 : Int32)).toInt = 2 from by decide]; first | exact b2 | omega)) ?_
  refine ev_go 1 (pc1 := 103) (lv1 := [.ref 86, .int a, .int 1, .int k]) (st1 := [.int a]) (h1 := (124, I, J, R)) rfl ?_
  refine ev_br (b1 := false) rfl rfl (xcd_nne (x := a) (y := 0) (by rw [show ((0 : Int32)).toInt = 0 from by decide]; first | exact b3 | omega)) ?_
  refine ev_go 2 (pc1 := 133) (lv1 := [.ref 86, .int a, .int 1, .int k]) (st1 := [.int 1000000]) (h1 := (124, I, J, R)) rfl ?_
  exact ev_ret rfl rfl
set_option maxRecDepth 20000 in
theorem zr_d1 {L : Nat} {xs : Nat → Int32} {d : Nat} {I : Nat → Nat → Int32} {J : Nat → Nat → Int64} {R : Nat → Nat → Nat} {a k : Int32} (hG : aGd R) (b1 : k.toInt ≥ a.toInt) (b2 : a.toInt < 2) (b3 : a.toInt ≠ 0) : xEv L xs d 212 59 [.ref 86, .int a, .int 1, .int k] [] (124, I, J, R) (some (.int (((I 116 0) * 1000) + ((I 116 1) * 1000000)))) (124, I, J, R) := by
  refine ev_go 2 (pc1 := 61) (lv1 := [.ref 86, .int a, .int 1, .int k]) (st1 := [.int a, .int k]) (h1 := (124, I, J, R)) rfl ?_
  refine ev_br (b1 := true) rfl rfl (xcd_ge (x := k) (y := a) (by first | exact b1 | omega)) ?_
  refine ev_go 2 (pc1 := 99) (lv1 := [.ref 86, .int a, .int 1, .int k]) (st1 := [.int 2, .int a]) (h1 := (124, I, J, R)) rfl ?_
  refine ev_br (b1 := false) rfl rfl (xcd_nge (x := a) (y := 2) (by rw [show ((2 : Int32)).toInt = 2 from by decide]; first | exact b2 | omega)) ?_
  refine ev_go 1 (pc1 := 103) (lv1 := [.ref 86, .int a, .int 1, .int k]) (st1 := [.int a]) (h1 := (124, I, J, R)) rfl ?_
  refine ev_br (b1 := true) rfl rfl (xcd_ne (x := a) (y := 0) (by rw [show ((0 : Int32)).toInt = 0 from by decide]; first | exact b3 | omega)) ?_
  refine ev_go 1 (pc1 := 113) (lv1 := [.ref 86, .int a, .int 1, .int k]) (st1 := [.ref 86]) (h1 := (124, I, J, R)) rfl ?_
  refine ev_gf (c := 86) (t := 116) (X := R 86 50) rfl rfl (fun _ => rfl) rfl (hG 86 50 116 rfl rfl) ?_
  refine ev_go 5 (pc1 := 123) (lv1 := [.ref 86, .int a, .int 1, .int k]) (st1 := [.ref 86, .int ((I 116 0) * 1000)]) (h1 := (124, I, J, R)) rfl ?_
  refine ev_gf (c := 86) (t := 116) (X := R 86 50) rfl rfl (fun _ => rfl) rfl (hG 86 50 116 rfl rfl) ?_
  refine ev_go 5 (pc1 := 133) (lv1 := [.ref 86, .int a, .int 1, .int k]) (st1 := [.int (((I 116 0) * 1000) + ((I 116 1) * 1000000))]) (h1 := (124, I, J, R)) rfl ?_
  exact ev_ret rfl rfl
set_option maxRecDepth 20000 in
theorem zr_d2 {L : Nat} {xs : Nat → Int32} {d : Nat} {I : Nat → Nat → Int32} {J : Nat → Nat → Int64} {R : Nat → Nat → Nat} {a k : Int32} (hG : aGd R) (b1 : k.toInt ≥ a.toInt) (b2 : a.toInt ≥ 2) (n1 : 0 ≤ a.toInt) (m1 : a.toInt < 402) (n2 : 0 ≤ (a - 1).toInt) (m2 : (a - 1).toInt < 402) (n3 : 0 ≤ (a - 2).toInt) (m3 : (a - 2).toInt < 402) : xEv L xs d 212 59 [.ref 86, .int a, .int 1, .int k] [] (124, I, J, R) (some (.int ((((I 116 a.toNatClampNeg) * 1000000) + ((I 116 (a - 1).toNatClampNeg) * 1000)) + (I 116 (a - 2).toNatClampNeg)))) (124, I, J, R) := by
  refine ev_go 2 (pc1 := 61) (lv1 := [.ref 86, .int a, .int 1, .int k]) (st1 := [.int a, .int k]) (h1 := (124, I, J, R)) rfl ?_
  refine ev_br (b1 := true) rfl rfl (xcd_ge (x := k) (y := a) (by first | exact b1 | omega)) ?_
  refine ev_go 2 (pc1 := 99) (lv1 := [.ref 86, .int a, .int 1, .int k]) (st1 := [.int 2, .int a]) (h1 := (124, I, J, R)) rfl ?_
  refine ev_br (b1 := true) rfl rfl (xcd_ge (x := a) (y := 2) (by rw [show ((2 : Int32)).toInt = 2 from by decide]; first | exact b2 | omega)) ?_
  refine ev_go 1 (pc1 := 135) (lv1 := [.ref 86, .int a, .int 1, .int k]) (st1 := [.ref 86]) (h1 := (124, I, J, R)) rfl ?_
  refine ev_gf (c := 86) (t := 116) (X := R 86 50) rfl rfl (fun _ => rfl) rfl (hG 86 50 116 rfl rfl) ?_
  refine ev_go 1 (pc1 := 139) (lv1 := [.ref 86, .int a, .int 1, .int k]) (st1 := [.int a, .ref 116]) (h1 := (124, I, J, R)) rfl ?_
  refine ev_ild (n := 402) rfl rfl (fun _ => rfl) n1 m1 ?_
  refine ev_go 3 (pc1 := 145) (lv1 := [.ref 86, .int a, .int 1, .int k]) (st1 := [.ref 86, .int ((I 116 a.toNatClampNeg) * 1000000)]) (h1 := (124, I, J, R)) rfl ?_
  refine ev_gf (c := 86) (t := 116) (X := R 86 50) rfl rfl (fun _ => rfl) rfl (hG 86 50 116 rfl rfl) ?_
  refine ev_go 3 (pc1 := 151) (lv1 := [.ref 86, .int a, .int 1, .int k]) (st1 := [.int (a - 1), .ref 116, .int ((I 116 a.toNatClampNeg) * 1000000)]) (h1 := (124, I, J, R)) rfl ?_
  refine ev_ild (n := 402) rfl rfl (fun _ => rfl) n2 m2 ?_
  refine ev_go 4 (pc1 := 158) (lv1 := [.ref 86, .int a, .int 1, .int k]) (st1 := [.ref 86, .int (((I 116 a.toNatClampNeg) * 1000000) + ((I 116 (a - 1).toNatClampNeg) * 1000))]) (h1 := (124, I, J, R)) rfl ?_
  refine ev_gf (c := 86) (t := 116) (X := R 86 50) rfl rfl (fun _ => rfl) rfl (hG 86 50 116 rfl rfl) ?_
  refine ev_go 3 (pc1 := 164) (lv1 := [.ref 86, .int a, .int 1, .int k]) (st1 := [.int (a - 2), .ref 116, .int (((I 116 a.toNatClampNeg) * 1000000) + ((I 116 (a - 1).toNatClampNeg) * 1000))]) (h1 := (124, I, J, R)) rfl ?_
  refine ev_ild (n := 402) rfl rfl (fun _ => rfl) n3 m3 ?_
  refine ev_go 1 (pc1 := 166) (lv1 := [.ref 86, .int a, .int 1, .int k]) (st1 := [.int ((((I 116 a.toNatClampNeg) * 1000000) + ((I 116 (a - 1).toNatClampNeg) * 1000)) + (I 116 (a - 2).toNatClampNeg))]) (h1 := (124, I, J, R)) rfl ?_
  exact ev_ret rfl rfl
theorem zf_run {L : Nat} {xs : Nat → Int32} {d : Nat} {J : Nat → Nat → Int64} {R : Nat → Nat → Nat} (hG : aGd R) {a : Int32} : ∀ (f kN : Nat) (k : Int32) (I : Nat → Nat → Int32), kN + f = 402 → k.toInt = kN → (∀ q, q < kN → I 116 q = if q = 0 then 1 else 0) →
    ∃ I', (∀ (v : Option Value) (h' : xH), xEv L xs (d + 1) 212 59 [.ref 86, .int a, .int 1, .int 0] [] (124, I', J, R) v h' → xEv L xs (d + 1) 212 29 [.ref 86, .int a, .int 1, .int k] [] (124, I, J, R) v h') ∧ (∀ c q, c ≠ 116 → I' c q = I c q) ∧ (∀ q, q < 402 → I' 116 q = if q = 0 then 1 else 0) := by
  intro f
  induction f with
  | zero =>
    intro kN k I hk ek hI
    exact ⟨I, fun _ _ z => zr_fx hG (by omega) z, fun _ _ _ => rfl, fun q hq => hI q (by omega)⟩
  | succ f ih =>
    intro kN k I hk ek hI
    have eck := clamp_s (i := k) (by omega)
    have ekk : k.toNatClampNeg = kN := by omega
    have hk' : (k + 1).toInt = (kN + 1 : Nat) := by rw [i_add1 (by omega)]; omega
    have go : ∀ x : Int32, x = (if kN = 0 then 1 else 0) → ∃ I', (∀ (v : Option Value) (h' : xH), xEv L xs (d + 1) 212 59 [.ref 86, .int a, .int 1, .int 0] [] (124, I', J, R) v h' → xEv L xs (d + 1) 212 29 [.ref 86, .int a, .int 1, .int (k + 1)] [] (124, uI I 116 k.toNatClampNeg x, J, R) v h') ∧ (∀ c q, c ≠ 116 → I' c q = I c q) ∧ (∀ q, q < 402 → I' 116 q = if q = 0 then 1 else 0) := by
      intro x hx
      rw [ekk]
      obtain ⟨I', y1, y2, y3⟩ := ih (kN + 1) (k + 1) (uI I 116 kN x) (by omega) hk' (fun q hq => by
        by_cases e : q = kN
        · rw [e, uI_s]
          exact hx
        · rw [uI_n _ _ (fun z => e z.2)]
          exact hI q (by omega))
      exact ⟨I', y1, fun c q hc => by rw [y2 c q hc, uI_c _ _ _ hc], y3⟩
    by_cases k0 : kN = 0
    · obtain ⟨I', y1, y2, y3⟩ := go 1 (by rw [if_pos k0])
      exact ⟨I', fun v h z => zr_f1 hG (by omega) (by omega) (by omega) (by omega) (y1 v h z), y2, y3⟩
    · obtain ⟨I', y1, y2, y3⟩ := go 0 (by rw [if_neg k0])
      exact ⟨I', fun v h z => zr_f0 hG (by omega) (by omega) (by omega) (by omega) (y1 v h z), y2, y3⟩
/-- the product of all, of those that lessen, and how many lessen -/
def rgS (f : Nat → Int) : Nat → Int
  | 0 => 1
  | k + 1 => f k * rgS f k
def rgV (f : Nat → Int) : Nat → Int
  | 0 => 1
  | k + 1 => if f k = 1000 then rgV f k else f k * rgV f k
def rgC (f : Nat → Int) : Nat → Nat
  | 0 => 0
  | k + 1 => if f k = 1000 then rgC f k else rgC f k + 1
theorem rg_all {f : Nat → Int} : ∀ k, rgC f k ≤ k ∧ rgS f k = rgV f k * tn (3 * (k - rgC f k)) := by
  intro k
  induction k with
  | zero =>
    refine ⟨Nat.le_refl _, ?_⟩
    show (1 : Int) = 1 * tn (3 * (0 - 0))
    rw [Nat.sub_zero, Nat.mul_zero, tn_0, Int.mul_one]
  | succ k ih =>
    obtain ⟨i1, i2⟩ := ih
    have eS : rgS f (k + 1) = f k * rgS f k := rfl
    by_cases h : f k = 1000
    · have eV : rgV f (k + 1) = rgV f k := if_pos h
      have eC : rgC f (k + 1) = rgC f k := if_pos h
      rw [eC, eV, eS, i2, h, show k + 1 - rgC f k = (k - rgC f k) + 1 from by omega, tn_s, tn_3]
      refine ⟨by omega, ?_⟩
      rw [Int.mul_comm, Int.mul_assoc]
    · have eV : rgV f (k + 1) = f k * rgV f k := if_neg h
      have eC : rgC f (k + 1) = rgC f k + 1 := if_neg h
      rw [eC, eV, eS, i2, show k + 1 - (rgC f k + 1) = k - rgC f k from by omega, Int.mul_assoc]
      exact ⟨by omega, rfl⟩
theorem rg_eq {f : Nat → Int} (k : Nat) : rgS f k * 1000000 / tn (3 * k) = rgV f k * 1000000 / tn (3 * rgC f k) := by
  obtain ⟨h1, h2⟩ := rg_all (f := f) k
  have e : tn (3 * k) = tn (3 * (k - rgC f k)) * tn (3 * rgC f k) := by rw [← tn_add]; congr 1; omega
  rw [h2, e, Int.mul_comm (rgV f k), Int.mul_assoc, Int.mul_ediv_mul_of_pos _ _ (tn_pos _)]

