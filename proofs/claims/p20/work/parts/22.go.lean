set_option maxRecDepth 20000 in
theorem sg_go1 {L : Nat} {xs : Nat → Int32} {d : Nat} {I : Nat → Nat → Int32} {J : Nat → Nat → Int64} {R : Nat → Nat → Nat} {n : Int32} (hG : aGd R) (b1 : n.toInt < 0) : xEv L xs d 122 0 [.ref 0, .int n, xmk] [] (124, I, J, R) (some (.int (-2))) (124, I, J, R) := by
  refine ev_go 1 (pc1 := 1) (lv1 := [.ref 0, .int n, xmk]) (st1 := [.int n]) (h1 := (124, I, J, R)) rfl ?_
  refine ev_br (b1 := true) rfl rfl (xcd_lt (x := n) (y := 0) (by rw [show ((0 : Int32)).toInt = 0 from by decide]; first | exact b1 | omega)) ?_
  refine ev_go 1 (pc1 := 12) (lv1 := [.ref 0, .int n, xmk]) (st1 := [.int (-2)]) (h1 := (124, I, J, R)) rfl ?_
  exact ev_ret rfl rfl
set_option maxRecDepth 20000 in
theorem sg_go2 {L : Nat} {xs : Nat → Int32} {d : Nat} {I : Nat → Nat → Int32} {J : Nat → Nat → Int64} {R : Nat → Nat → Nat} {n : Int32} (hG : aGd R) (b1 : n.toInt ≥ 0) (b2 : n.toInt > 64) : xEv L xs d 122 0 [.ref 0, .int n, xmk] [] (124, I, J, R) (some (.int (-2))) (124, I, J, R) := by
  refine ev_go 1 (pc1 := 1) (lv1 := [.ref 0, .int n, xmk]) (st1 := [.int n]) (h1 := (124, I, J, R)) rfl ?_
  refine ev_br (b1 := false) rfl rfl (xcd_nlt (x := n) (y := 0) (by rw [show ((0 : Int32)).toInt = 0 from by decide]; first | exact b1 | omega)) ?_
  refine ev_go 2 (pc1 := 7) (lv1 := [.ref 0, .int n, xmk]) (st1 := [.int 64, .int n]) (h1 := (124, I, J, R)) rfl ?_
  refine ev_br (b1 := false) rfl rfl (xcd_nle (x := n) (y := 64) (by rw [show ((64 : Int32)).toInt = 64 from by decide]; first | exact b2 | omega)) ?_
  refine ev_go 1 (pc1 := 12) (lv1 := [.ref 0, .int n, xmk]) (st1 := [.int (-2)]) (h1 := (124, I, J, R)) rfl ?_
  exact ev_ret rfl rfl
set_option maxRecDepth 20000 in
theorem sg_go3 {L : Nat} {xs : Nat → Int32} {d : Nat} {I : Nat → Nat → Int32} {J : Nat → Nat → Int64} {R : Nat → Nat → Nat} {n : Int32} (hG : aGd R) (b1 : n.toInt ≥ 0) (b2 : n.toInt ≤ 64) (b3 : (I 66 4).toInt = 0) : xEv L xs d 122 0 [.ref 0, .int n, xmk] [] (124, I, J, R) (some (.int (-4))) (124, I, J, R) := by
  refine ev_go 1 (pc1 := 1) (lv1 := [.ref 0, .int n, xmk]) (st1 := [.int n]) (h1 := (124, I, J, R)) rfl ?_
  refine ev_br (b1 := false) rfl rfl (xcd_nlt (x := n) (y := 0) (by rw [show ((0 : Int32)).toInt = 0 from by decide]; first | exact b1 | omega)) ?_
  refine ev_go 2 (pc1 := 7) (lv1 := [.ref 0, .int n, xmk]) (st1 := [.int 64, .int n]) (h1 := (124, I, J, R)) rfl ?_
  refine ev_br (b1 := true) rfl rfl (xcd_le (x := n) (y := 64) (by rw [show ((64 : Int32)).toInt = 64 from by decide]; first | exact b2 | omega)) ?_
  refine ev_go 1 (pc1 := 14) (lv1 := [.ref 0, .int n, xmk]) (st1 := [.ref 0]) (h1 := (124, I, J, R)) rfl ?_
  refine ev_gf (c := 0) (t := 63) (X := R 0 7) rfl rfl (fun _ => rfl) rfl (hG 0 7 63 rfl rfl) ?_
  refine ev_gf (c := 63) (t := 66) (X := R 63 3) rfl rfl (fun _ => rfl) rfl (hG 63 3 66 rfl rfl) ?_
  refine ev_go 1 (pc1 := 23) (lv1 := [.ref 0, .int n, xmk]) (st1 := [.int (I 66 4)]) (h1 := (124, I, J, R)) rfl ?_
  refine ev_br (b1 := false) rfl rfl (xcd_nne (x := (I 66 4)) (y := 0) (by rw [show ((0 : Int32)).toInt = 0 from by decide]; first | exact b3 | omega)) ?_
  refine ev_go 1 (pc1 := 28) (lv1 := [.ref 0, .int n, xmk]) (st1 := [.int (-4)]) (h1 := (124, I, J, R)) rfl ?_
  exact ev_ret rfl rfl
set_option maxRecDepth 20000 in
theorem sg_goR {L : Nat} {xs : Nat → Int32} {d : Nat} {I : Nat → Nat → Int32} {J : Nat → Nat → Int64} {R : Nat → Nat → Nat} {n i : Int32} (hG : aGd R) (b1 : i.toInt ≥ n.toInt) : xEv L xs d 122 59 [.ref 0, .int n, .int i] [] (124, I, J, R) (some (.int (I 66 5))) (124, I, J, R) := by
  refine ev_go 2 (pc1 := 61) (lv1 := [.ref 0, .int n, .int i]) (st1 := [.int n, .int i]) (h1 := (124, I, J, R)) rfl ?_
  refine ev_br (b1 := true) rfl rfl (xcd_ge (x := i) (y := n) (by first | exact b1 | omega)) ?_
  refine ev_go 1 (pc1 := 82) (lv1 := [.ref 0, .int n, .int i]) (st1 := [.ref 0]) (h1 := (124, I, J, R)) rfl ?_
  refine ev_gf (c := 0) (t := 63) (X := R 0 7) rfl rfl (fun _ => rfl) rfl (hG 0 7 63 rfl rfl) ?_
  refine ev_gf (c := 63) (t := 66) (X := R 63 3) rfl rfl (fun _ => rfl) rfl (hG 63 3 66 rfl rfl) ?_
  refine ev_go 1 (pc1 := 91) (lv1 := [.ref 0, .int n, .int i]) (st1 := [.int (I 66 5)]) (h1 := (124, I, J, R)) rfl ?_
  exact ev_ret rfl rfl
set_option maxRecDepth 20000 in
theorem sg_go4_3 {L : Nat} {xs : Nat → Int32} {d : Nat} {I : Nat → Nat → Int32} {J : Nat → Nat → Int64} {R : Nat → Nat → Nat} {n : Int32} (hG : aGd R) (b1 : n.toInt ≥ 0) (b2 : n.toInt ≤ 64) (b3 : (I 66 4).toInt ≠ 0) (r_R_0_8 : R 0 8 = 4) (b4 : n.toInt > ((I 17 5) - (I 66 5)).toInt) : xEv L xs d 122 0 [.ref 0, .int n, xmk] [] (124, I, J, R) (some (.int (-2))) (124, I, J, R) := by
  refine ev_go 1 (pc1 := 1) (lv1 := [.ref 0, .int n, xmk]) (st1 := [.int n]) (h1 := (124, I, J, R)) rfl ?_
  refine ev_br (b1 := false) rfl rfl (xcd_nlt (x := n) (y := 0) (by rw [show ((0 : Int32)).toInt = 0 from by decide]; first | exact b1 | omega)) ?_
  refine ev_go 2 (pc1 := 7) (lv1 := [.ref 0, .int n, xmk]) (st1 := [.int 64, .int n]) (h1 := (124, I, J, R)) rfl ?_
  refine ev_br (b1 := true) rfl rfl (xcd_le (x := n) (y := 64) (by rw [show ((64 : Int32)).toInt = 64 from by decide]; first | exact b2 | omega)) ?_
  refine ev_go 1 (pc1 := 14) (lv1 := [.ref 0, .int n, xmk]) (st1 := [.ref 0]) (h1 := (124, I, J, R)) rfl ?_
  refine ev_gf (c := 0) (t := 63) (X := R 0 7) rfl rfl (fun _ => rfl) rfl (hG 0 7 63 rfl rfl) ?_
  refine ev_gf (c := 63) (t := 66) (X := R 63 3) rfl rfl (fun _ => rfl) rfl (hG 63 3 66 rfl rfl) ?_
  refine ev_go 1 (pc1 := 23) (lv1 := [.ref 0, .int n, xmk]) (st1 := [.int (I 66 4)]) (h1 := (124, I, J, R)) rfl ?_
  refine ev_br (b1 := true) rfl rfl (xcd_ne (x := (I 66 4)) (y := 0) (by rw [show ((0 : Int32)).toInt = 0 from by decide]; first | exact b3 | omega)) ?_
  refine ev_go 2 (pc1 := 31) (lv1 := [.ref 0, .int n, xmk]) (st1 := [.ref 0, .int n]) (h1 := (124, I, J, R)) rfl ?_
  refine ev_gf (c := 0) (t := 3) (X := R 0 8) rfl rfl (fun _ => rfl) rfl r_R_0_8 ?_
  refine ev_gf (c := 3) (t := 17) (X := R 3 13) rfl rfl (fun _ => rfl) rfl (hG 3 13 17 rfl rfl) ?_
  refine ev_go 2 (pc1 := 41) (lv1 := [.ref 0, .int n, xmk]) (st1 := [.ref 0, .int (I 17 5), .int n]) (h1 := (124, I, J, R)) rfl ?_
  refine ev_gf (c := 0) (t := 63) (X := R 0 7) rfl rfl (fun _ => rfl) rfl (hG 0 7 63 rfl rfl) ?_
  refine ev_gf (c := 63) (t := 66) (X := R 63 3) rfl rfl (fun _ => rfl) rfl (hG 63 3 66 rfl rfl) ?_
  refine ev_go 2 (pc1 := 51) (lv1 := [.ref 0, .int n, xmk]) (st1 := [.int ((I 17 5) - (I 66 5)), .int n]) (h1 := (124, I, J, R)) rfl ?_
  refine ev_br (b1 := false) rfl rfl (xcd_nle (x := n) (y := ((I 17 5) - (I 66 5))) (by first | exact b4 | omega)) ?_
  refine ev_go 1 (pc1 := 56) (lv1 := [.ref 0, .int n, xmk]) (st1 := [.int (-2)]) (h1 := (124, I, J, R)) rfl ?_
  exact ev_ret rfl rfl
set_option maxRecDepth 20000 in
theorem sg_go5_3 {L : Nat} {xs : Nat → Int32} {d : Nat} {I : Nat → Nat → Int32} {J : Nat → Nat → Int64} {R : Nat → Nat → Nat} {n : Int32} (hG : aGd R) (b1 : n.toInt ≥ 0) (b2 : n.toInt ≤ 64) (b3 : (I 66 4).toInt ≠ 0) (r_R_0_8 : R 0 8 = 4) (b4 : n.toInt ≤ ((I 17 5) - (I 66 5)).toInt) {v : Option Value} {h' : xH} (hk : xEv L xs d 122 59 [.ref 0, .int n, .int 0] [] (124, I, J, R) v h') : xEv L xs d 122 0 [.ref 0, .int n, xmk] [] (124, I, J, R) v h' := by
  refine ev_go 1 (pc1 := 1) (lv1 := [.ref 0, .int n, xmk]) (st1 := [.int n]) (h1 := (124, I, J, R)) rfl ?_
  refine ev_br (b1 := false) rfl rfl (xcd_nlt (x := n) (y := 0) (by rw [show ((0 : Int32)).toInt = 0 from by decide]; first | exact b1 | omega)) ?_
  refine ev_go 2 (pc1 := 7) (lv1 := [.ref 0, .int n, xmk]) (st1 := [.int 64, .int n]) (h1 := (124, I, J, R)) rfl ?_
  refine ev_br (b1 := true) rfl rfl (xcd_le (x := n) (y := 64) (by rw [show ((64 : Int32)).toInt = 64 from by decide]; first | exact b2 | omega)) ?_
  refine ev_go 1 (pc1 := 14) (lv1 := [.ref 0, .int n, xmk]) (st1 := [.ref 0]) (h1 := (124, I, J, R)) rfl ?_
  refine ev_gf (c := 0) (t := 63) (X := R 0 7) rfl rfl (fun _ => rfl) rfl (hG 0 7 63 rfl rfl) ?_
  refine ev_gf (c := 63) (t := 66) (X := R 63 3) rfl rfl (fun _ => rfl) rfl (hG 63 3 66 rfl rfl) ?_
  refine ev_go 1 (pc1 := 23) (lv1 := [.ref 0, .int n, xmk]) (st1 := [.int (I 66 4)]) (h1 := (124, I, J, R)) rfl ?_
  refine ev_br (b1 := true) rfl rfl (xcd_ne (x := (I 66 4)) (y := 0) (by rw [show ((0 : Int32)).toInt = 0 from by decide]; first | exact b3 | omega)) ?_
  refine ev_go 2 (pc1 := 31) (lv1 := [.ref 0, .int n, xmk]) (st1 := [.ref 0, .int n]) (h1 := (124, I, J, R)) rfl ?_
  refine ev_gf (c := 0) (t := 3) (X := R 0 8) rfl rfl (fun _ => rfl) rfl r_R_0_8 ?_
  refine ev_gf (c := 3) (t := 17) (X := R 3 13) rfl rfl (fun _ => rfl) rfl (hG 3 13 17 rfl rfl) ?_
  refine ev_go 2 (pc1 := 41) (lv1 := [.ref 0, .int n, xmk]) (st1 := [.ref 0, .int (I 17 5), .int n]) (h1 := (124, I, J, R)) rfl ?_
  refine ev_gf (c := 0) (t := 63) (X := R 0 7) rfl rfl (fun _ => rfl) rfl (hG 0 7 63 rfl rfl) ?_
  refine ev_gf (c := 63) (t := 66) (X := R 63 3) rfl rfl (fun _ => rfl) rfl (hG 63 3 66 rfl rfl) ?_
  refine ev_go 2 (pc1 := 51) (lv1 := [.ref 0, .int n, xmk]) (st1 := [.int ((I 17 5) - (I 66 5)), .int n]) (h1 := (124, I, J, R)) rfl ?_
  refine ev_br (b1 := true) rfl rfl (xcd_le (x := n) (y := ((I 17 5) - (I 66 5))) (by first | exact b4 | omega)) ?_
  refine ev_go 2 (pc1 := 59) (lv1 := [.ref 0, .int n, .int 0]) (st1 := []) (h1 := (124, I, J, R)) rfl ?_
  exact hk
set_option maxRecDepth 20000 in
theorem sg_goL_3 {L : Nat} {xs : Nat → Int32} {d : Nat} {I : Nat → Nat → Int32} {J : Nat → Nat → Int64} {R : Nat → Nat → Nat} {I1 : Nat → Nat → Int32} {J1 : Nat → Nat → Int64} {R1 : Nat → Nat → Nat} {n i : Int32} (hG : aGd R) (b1 : i.toInt < n.toInt) (r_R_0_8 : R 0 8 = 4) (c1 : xEv L xs d 123 0 [.ref 63, .ref 3, xmk, xmk, xmk, xmk, xmk] [] (124, I, J, R) none (124, I1, J1, R1)) (hG1 : aGd R1) {v : Option Value} {h' : xH} (hk : xEv L xs (d + 1) 122 59 [.ref 0, .int n, .int (i + 1)] [] (124, I1, J1, R1) v h') : xEv L xs (d + 1) 122 59 [.ref 0, .int n, .int i] [] (124, I, J, R) v h' := by
  refine ev_go 2 (pc1 := 61) (lv1 := [.ref 0, .int n, .int i]) (st1 := [.int n, .int i]) (h1 := (124, I, J, R)) rfl ?_
  refine ev_br (b1 := false) rfl rfl (xcd_nge (x := i) (y := n) (by first | exact b1 | omega)) ?_
  refine ev_go 1 (pc1 := 65) (lv1 := [.ref 0, .int n, .int i]) (st1 := [.ref 0]) (h1 := (124, I, J, R)) rfl ?_
  refine ev_gf (c := 0) (t := 63) (X := R 0 7) rfl rfl (fun _ => rfl) rfl (hG 0 7 63 rfl rfl) ?_
  refine ev_go 1 (pc1 := 69) (lv1 := [.ref 0, .int n, .int i]) (st1 := [.ref 0, .ref 63]) (h1 := (124, I, J, R)) rfl ?_
  refine ev_gf (c := 0) (t := 3) (X := R 0 8) rfl rfl (fun _ => rfl) rfl r_R_0_8 ?_
  refine ev_call (v1 := none) (h1 := (124, I1, J1, R1)) rfl rfl c1 ?_
  refine ev_go 2 (pc1 := 59) (lv1 := [.ref 0, .int n, .int (i + 1)]) (st1 := []) (h1 := (124, I1, J1, R1)) rfl ?_
  exact hk
set_option maxRecDepth 20000 in
theorem sg_go4_23 {L : Nat} {xs : Nat → Int32} {d : Nat} {I : Nat → Nat → Int32} {J : Nat → Nat → Int64} {R : Nat → Nat → Nat} {n : Int32} (hG : aGd R) (b1 : n.toInt ≥ 0) (b2 : n.toInt ≤ 64) (b3 : (I 66 4).toInt ≠ 0) (r_R_0_8 : R 0 8 = 24) (b4 : n.toInt > ((I 37 5) - (I 66 5)).toInt) : xEv L xs d 122 0 [.ref 0, .int n, xmk] [] (124, I, J, R) (some (.int (-2))) (124, I, J, R) := by
  refine ev_go 1 (pc1 := 1) (lv1 := [.ref 0, .int n, xmk]) (st1 := [.int n]) (h1 := (124, I, J, R)) rfl ?_
  refine ev_br (b1 := false) rfl rfl (xcd_nlt (x := n) (y := 0) (by rw [show ((0 : Int32)).toInt = 0 from by decide]; first | exact b1 | omega)) ?_
  refine ev_go 2 (pc1 := 7) (lv1 := [.ref 0, .int n, xmk]) (st1 := [.int 64, .int n]) (h1 := (124, I, J, R)) rfl ?_
  refine ev_br (b1 := true) rfl rfl (xcd_le (x := n) (y := 64) (by rw [show ((64 : Int32)).toInt = 64 from by decide]; first | exact b2 | omega)) ?_
  refine ev_go 1 (pc1 := 14) (lv1 := [.ref 0, .int n, xmk]) (st1 := [.ref 0]) (h1 := (124, I, J, R)) rfl ?_
  refine ev_gf (c := 0) (t := 63) (X := R 0 7) rfl rfl (fun _ => rfl) rfl (hG 0 7 63 rfl rfl) ?_
  refine ev_gf (c := 63) (t := 66) (X := R 63 3) rfl rfl (fun _ => rfl) rfl (hG 63 3 66 rfl rfl) ?_
  refine ev_go 1 (pc1 := 23) (lv1 := [.ref 0, .int n, xmk]) (st1 := [.int (I 66 4)]) (h1 := (124, I, J, R)) rfl ?_
  refine ev_br (b1 := true) rfl rfl (xcd_ne (x := (I 66 4)) (y := 0) (by rw [show ((0 : Int32)).toInt = 0 from by decide]; first | exact b3 | omega)) ?_
  refine ev_go 2 (pc1 := 31) (lv1 := [.ref 0, .int n, xmk]) (st1 := [.ref 0, .int n]) (h1 := (124, I, J, R)) rfl ?_
  refine ev_gf (c := 0) (t := 23) (X := R 0 8) rfl rfl (fun _ => rfl) rfl r_R_0_8 ?_
  refine ev_gf (c := 23) (t := 37) (X := R 23 13) rfl rfl (fun _ => rfl) rfl (hG 23 13 37 rfl rfl) ?_
  refine ev_go 2 (pc1 := 41) (lv1 := [.ref 0, .int n, xmk]) (st1 := [.ref 0, .int (I 37 5), .int n]) (h1 := (124, I, J, R)) rfl ?_
  refine ev_gf (c := 0) (t := 63) (X := R 0 7) rfl rfl (fun _ => rfl) rfl (hG 0 7 63 rfl rfl) ?_
  refine ev_gf (c := 63) (t := 66) (X := R 63 3) rfl rfl (fun _ => rfl) rfl (hG 63 3 66 rfl rfl) ?_
  refine ev_go 2 (pc1 := 51) (lv1 := [.ref 0, .int n, xmk]) (st1 := [.int ((I 37 5) - (I 66 5)), .int n]) (h1 := (124, I, J, R)) rfl ?_
  refine ev_br (b1 := false) rfl rfl (xcd_nle (x := n) (y := ((I 37 5) - (I 66 5))) (by first | exact b4 | omega)) ?_
  refine ev_go 1 (pc1 := 56) (lv1 := [.ref 0, .int n, xmk]) (st1 := [.int (-2)]) (h1 := (124, I, J, R)) rfl ?_
  exact ev_ret rfl rfl
set_option maxRecDepth 20000 in
theorem sg_go5_23 {L : Nat} {xs : Nat → Int32} {d : Nat} {I : Nat → Nat → Int32} {J : Nat → Nat → Int64} {R : Nat → Nat → Nat} {n : Int32} (hG : aGd R) (b1 : n.toInt ≥ 0) (b2 : n.toInt ≤ 64) (b3 : (I 66 4).toInt ≠ 0) (r_R_0_8 : R 0 8 = 24) (b4 : n.toInt ≤ ((I 37 5) - (I 66 5)).toInt) {v : Option Value} {h' : xH} (hk : xEv L xs d 122 59 [.ref 0, .int n, .int 0] [] (124, I, J, R) v h') : xEv L xs d 122 0 [.ref 0, .int n, xmk] [] (124, I, J, R) v h' := by
  refine ev_go 1 (pc1 := 1) (lv1 := [.ref 0, .int n, xmk]) (st1 := [.int n]) (h1 := (124, I, J, R)) rfl ?_
  refine ev_br (b1 := false) rfl rfl (xcd_nlt (x := n) (y := 0) (by rw [show ((0 : Int32)).toInt = 0 from by decide]; first | exact b1 | omega)) ?_
  refine ev_go 2 (pc1 := 7) (lv1 := [.ref 0, .int n, xmk]) (st1 := [.int 64, .int n]) (h1 := (124, I, J, R)) rfl ?_
  refine ev_br (b1 := true) rfl rfl (xcd_le (x := n) (y := 64) (by rw [show ((64 : Int32)).toInt = 64 from by decide]; first | exact b2 | omega)) ?_
  refine ev_go 1 (pc1 := 14) (lv1 := [.ref 0, .int n, xmk]) (st1 := [.ref 0]) (h1 := (124, I, J, R)) rfl ?_
  refine ev_gf (c := 0) (t := 63) (X := R 0 7) rfl rfl (fun _ => rfl) rfl (hG 0 7 63 rfl rfl) ?_
  refine ev_gf (c := 63) (t := 66) (X := R 63 3) rfl rfl (fun _ => rfl) rfl (hG 63 3 66 rfl rfl) ?_
  refine ev_go 1 (pc1 := 23) (lv1 := [.ref 0, .int n, xmk]) (st1 := [.int (I 66 4)]) (h1 := (124, I, J, R)) rfl ?_
  refine ev_br (b1 := true) rfl rfl (xcd_ne (x := (I 66 4)) (y := 0) (by rw [show ((0 : Int32)).toInt = 0 from by decide]; first | exact b3 | omega)) ?_
  refine ev_go 2 (pc1 := 31) (lv1 := [.ref 0, .int n, xmk]) (st1 := [.ref 0, .int n]) (h1 := (124, I, J, R)) rfl ?_
  refine ev_gf (c := 0) (t := 23) (X := R 0 8) rfl rfl (fun _ => rfl) rfl r_R_0_8 ?_
  refine ev_gf (c := 23) (t := 37) (X := R 23 13) rfl rfl (fun _ => rfl) rfl (hG 23 13 37 rfl rfl) ?_
  refine ev_go 2 (pc1 := 41) (lv1 := [.ref 0, .int n, xmk]) (st1 := [.ref 0, .int (I 37 5), .int n]) (h1 := (124, I, J, R)) rfl ?_
  refine ev_gf (c := 0) (t := 63) (X := R 0 7) rfl rfl (fun _ => rfl) rfl (hG 0 7 63 rfl rfl) ?_
  refine ev_gf (c := 63) (t := 66) (X := R 63 3) rfl rfl (fun _ => rfl) rfl (hG 63 3 66 rfl rfl) ?_
  refine ev_go 2 (pc1 := 51) (lv1 := [.ref 0, .int n, xmk]) (st1 := [.int ((I 37 5) - (I 66 5)), .int n]) (h1 := (124, I, J, R)) rfl ?_
  refine ev_br (b1 := true) rfl rfl (xcd_le (x := n) (y := ((I 37 5) - (I 66 5))) (by first | exact b4 | omega)) ?_
  refine ev_go 2 (pc1 := 59) (lv1 := [.ref 0, .int n, .int 0]) (st1 := []) (h1 := (124, I, J, R)) rfl ?_
  exact hk
set_option maxRecDepth 20000 in
theorem sg_goL_23 {L : Nat} {xs : Nat → Int32} {d : Nat} {I : Nat → Nat → Int32} {J : Nat → Nat → Int64} {R : Nat → Nat → Nat} {I1 : Nat → Nat → Int32} {J1 : Nat → Nat → Int64} {R1 : Nat → Nat → Nat} {n i : Int32} (hG : aGd R) (b1 : i.toInt < n.toInt) (r_R_0_8 : R 0 8 = 24) (c1 : xEv L xs d 123 0 [.ref 63, .ref 23, xmk, xmk, xmk, xmk, xmk] [] (124, I, J, R) none (124, I1, J1, R1)) (hG1 : aGd R1) {v : Option Value} {h' : xH} (hk : xEv L xs (d + 1) 122 59 [.ref 0, .int n, .int (i + 1)] [] (124, I1, J1, R1) v h') : xEv L xs (d + 1) 122 59 [.ref 0, .int n, .int i] [] (124, I, J, R) v h' := by
  refine ev_go 2 (pc1 := 61) (lv1 := [.ref 0, .int n, .int i]) (st1 := [.int n, .int i]) (h1 := (124, I, J, R)) rfl ?_
  refine ev_br (b1 := false) rfl rfl (xcd_nge (x := i) (y := n) (by first | exact b1 | omega)) ?_
  refine ev_go 1 (pc1 := 65) (lv1 := [.ref 0, .int n, .int i]) (st1 := [.ref 0]) (h1 := (124, I, J, R)) rfl ?_
  refine ev_gf (c := 0) (t := 63) (X := R 0 7) rfl rfl (fun _ => rfl) rfl (hG 0 7 63 rfl rfl) ?_
  refine ev_go 1 (pc1 := 69) (lv1 := [.ref 0, .int n, .int i]) (st1 := [.ref 0, .ref 63]) (h1 := (124, I, J, R)) rfl ?_
  refine ev_gf (c := 0) (t := 23) (X := R 0 8) rfl rfl (fun _ => rfl) rfl r_R_0_8 ?_
  refine ev_call (v1 := none) (h1 := (124, I1, J1, R1)) rfl rfl c1 ?_
  refine ev_go 2 (pc1 := 59) (lv1 := [.ref 0, .int n, .int (i + 1)]) (st1 := []) (h1 := (124, I1, J1, R1)) rfl ?_
  exact hk
set_option maxRecDepth 20000 in
theorem sg_in1 {L : Nat} {xs : Nat → Int32} {d : Nat} {I : Nat → Nat → Int32} {J : Nat → Nat → Int64} {R : Nat → Nat → Nat} {x lo hi : Int32} (hG : aGd R) (b1 : x.toInt < lo.toInt) : xEv L xs d 160 0 [.int x, .int lo, .int hi] [] (124, I, J, R) (some (.int 0)) (124, I, J, R) := by
  refine ev_go 2 (pc1 := 2) (lv1 := [.int x, .int lo, .int hi]) (st1 := [.int lo, .int x]) (h1 := (124, I, J, R)) rfl ?_
  refine ev_br (b1 := true) rfl rfl (xcd_lt (x := x) (y := lo) (by first | exact b1 | omega)) ?_
  refine ev_go 1 (pc1 := 15) (lv1 := [.int x, .int lo, .int hi]) (st1 := [.int 0]) (h1 := (124, I, J, R)) rfl ?_
  exact ev_ret rfl rfl
set_option maxRecDepth 20000 in
theorem sg_in2 {L : Nat} {xs : Nat → Int32} {d : Nat} {I : Nat → Nat → Int32} {J : Nat → Nat → Int64} {R : Nat → Nat → Nat} {x lo hi : Int32} (hG : aGd R) (b1 : x.toInt ≥ lo.toInt) (b2 : x.toInt > hi.toInt) : xEv L xs d 160 0 [.int x, .int lo, .int hi] [] (124, I, J, R) (some (.int 0)) (124, I, J, R) := by
  refine ev_go 2 (pc1 := 2) (lv1 := [.int x, .int lo, .int hi]) (st1 := [.int lo, .int x]) (h1 := (124, I, J, R)) rfl ?_
  refine ev_br (b1 := false) rfl rfl (xcd_nlt (x := x) (y := lo) (by first | exact b1 | omega)) ?_
  refine ev_go 2 (pc1 := 7) (lv1 := [.int x, .int lo, .int hi]) (st1 := [.int hi, .int x]) (h1 := (124, I, J, R)) rfl ?_
  refine ev_br (b1 := true) rfl rfl (xcd_gt (x := x) (y := hi) (by first | exact b2 | omega)) ?_
  refine ev_go 1 (pc1 := 15) (lv1 := [.int x, .int lo, .int hi]) (st1 := [.int 0]) (h1 := (124, I, J, R)) rfl ?_
  exact ev_ret rfl rfl
set_option maxRecDepth 20000 in
theorem sg_in3 {L : Nat} {xs : Nat → Int32} {d : Nat} {I : Nat → Nat → Int32} {J : Nat → Nat → Int64} {R : Nat → Nat → Nat} {x lo hi : Int32} (hG : aGd R) (b1 : x.toInt ≥ lo.toInt) (b2 : x.toInt ≤ hi.toInt) : xEv L xs d 160 0 [.int x, .int lo, .int hi] [] (124, I, J, R) (some (.int 1)) (124, I, J, R) := by
  refine ev_go 2 (pc1 := 2) (lv1 := [.int x, .int lo, .int hi]) (st1 := [.int lo, .int x]) (h1 := (124, I, J, R)) rfl ?_
  refine ev_br (b1 := false) rfl rfl (xcd_nlt (x := x) (y := lo) (by first | exact b1 | omega)) ?_
  refine ev_go 2 (pc1 := 7) (lv1 := [.int x, .int lo, .int hi]) (st1 := [.int hi, .int x]) (h1 := (124, I, J, R)) rfl ?_
  refine ev_br (b1 := false) rfl rfl (xcd_ngt (x := x) (y := hi) (by first | exact b2 | omega)) ?_
  refine ev_go 2 (pc1 := 15) (lv1 := [.int x, .int lo, .int hi]) (st1 := [.int 1]) (h1 := (124, I, J, R)) rfl ?_
  exact ev_ret rfl rfl
set_option maxRecDepth 20000 in
theorem sg_mg1 {L : Nat} {xs : Nat → Int32} {d : Nat} {I : Nat → Nat → Int32} {J : Nat → Nat → Int64} {R : Nat → Nat → Nat} {n : Int32} (hG : aGd R) (c1 : xEv L xs d 160 0 [.int n, .int 0, .int 64] [] (124, I, J, R) (some (.int 0)) (124, I, J, R)) : xEv L xs (d + 1) 223 0 [.ref 86, .int n, xmk] [] (124, I, J, R) (some (.int (-2))) (124, I, J, R) := by
  refine ev_go 3 (pc1 := 4) (lv1 := [.ref 86, .int n, xmk]) (st1 := [.int 64, .int 0, .int n]) (h1 := (124, I, J, R)) rfl ?_
  refine ev_call (v1 := (some (.int 0))) (h1 := (124, I, J, R)) rfl rfl c1 ?_
  refine ev_go 2 (pc1 := 12) (lv1 := [.ref 86, .int n, xmk]) (st1 := [.int (-2)]) (h1 := (124, I, J, R)) rfl ?_
  exact ev_ret rfl rfl
set_option maxRecDepth 20000 in
theorem sg_mg2 {L : Nat} {xs : Nat → Int32} {d : Nat} {I : Nat → Nat → Int32} {J : Nat → Nat → Int64} {R : Nat → Nat → Nat} {n : Int32} (hG : aGd R) (c1 : xEv L xs d 160 0 [.int n, .int 0, .int 64] [] (124, I, J, R) (some (.int 1)) (124, I, J, R)) (b1 : (I 121 0).toInt = 0) : xEv L xs (d + 1) 223 0 [.ref 86, .int n, xmk] [] (124, I, J, R) (some (.int (-4))) (124, I, J, R) := by
  refine ev_go 3 (pc1 := 4) (lv1 := [.ref 86, .int n, xmk]) (st1 := [.int 64, .int 0, .int n]) (h1 := (124, I, J, R)) rfl ?_
  refine ev_call (v1 := (some (.int 1))) (h1 := (124, I, J, R)) rfl rfl c1 ?_
  refine ev_go 2 (pc1 := 14) (lv1 := [.ref 86, .int n, xmk]) (st1 := [.ref 86]) (h1 := (124, I, J, R)) rfl ?_
  refine ev_gf (c := 86) (t := 121) (X := R 86 56) rfl rfl (fun _ => rfl) rfl (hG 86 56 121 rfl rfl) ?_
  refine ev_go 2 (pc1 := 19) (lv1 := [.ref 86, .int n, xmk]) (st1 := [.int (I 121 0)]) (h1 := (124, I, J, R)) rfl ?_
  refine ev_br (b1 := false) rfl rfl (xcd_nne (x := (I 121 0)) (y := 0) (by rw [show ((0 : Int32)).toInt = 0 from by decide]; first | exact b1 | omega)) ?_
  refine ev_go 1 (pc1 := 24) (lv1 := [.ref 86, .int n, xmk]) (st1 := [.int (-4)]) (h1 := (124, I, J, R)) rfl ?_
  exact ev_ret rfl rfl
set_option maxRecDepth 20000 in
theorem sg_mg3 {L : Nat} {xs : Nat → Int32} {d : Nat} {I : Nat → Nat → Int32} {J : Nat → Nat → Int64} {R : Nat → Nat → Nat} {n : Int32} (hG : aGd R) (c1 : xEv L xs d 160 0 [.int n, .int 0, .int 64] [] (124, I, J, R) (some (.int 1)) (124, I, J, R)) (b1 : (I 121 0).toInt ≠ 0) (b2 : ((I 121 1) + n).toInt > (I 86 26).toInt) : xEv L xs (d + 1) 223 0 [.ref 86, .int n, xmk] [] (124, I, J, R) (some (.int (-2))) (124, I, J, R) := by
  refine ev_go 3 (pc1 := 4) (lv1 := [.ref 86, .int n, xmk]) (st1 := [.int 64, .int 0, .int n]) (h1 := (124, I, J, R)) rfl ?_
  refine ev_call (v1 := (some (.int 1))) (h1 := (124, I, J, R)) rfl rfl c1 ?_
  refine ev_go 2 (pc1 := 14) (lv1 := [.ref 86, .int n, xmk]) (st1 := [.ref 86]) (h1 := (124, I, J, R)) rfl ?_
  refine ev_gf (c := 86) (t := 121) (X := R 86 56) rfl rfl (fun _ => rfl) rfl (hG 86 56 121 rfl rfl) ?_
  refine ev_go 2 (pc1 := 19) (lv1 := [.ref 86, .int n, xmk]) (st1 := [.int (I 121 0)]) (h1 := (124, I, J, R)) rfl ?_
  refine ev_br (b1 := true) rfl rfl (xcd_ne (x := (I 121 0)) (y := 0) (by rw [show ((0 : Int32)).toInt = 0 from by decide]; first | exact b1 | omega)) ?_
  refine ev_go 1 (pc1 := 26) (lv1 := [.ref 86, .int n, xmk]) (st1 := [.ref 86]) (h1 := (124, I, J, R)) rfl ?_
  refine ev_gf (c := 86) (t := 121) (X := R 86 56) rfl rfl (fun _ => rfl) rfl (hG 86 56 121 rfl rfl) ?_
  refine ev_go 6 (pc1 := 37) (lv1 := [.ref 86, .int n, xmk]) (st1 := [.int (I 86 26), .int ((I 121 1) + n)]) (h1 := (124, I, J, R)) rfl ?_
  refine ev_br (b1 := false) rfl rfl (xcd_nle (x := ((I 121 1) + n)) (y := (I 86 26)) (by first | exact b2 | omega)) ?_
  refine ev_go 1 (pc1 := 42) (lv1 := [.ref 86, .int n, xmk]) (st1 := [.int (-2)]) (h1 := (124, I, J, R)) rfl ?_
  exact ev_ret rfl rfl
set_option maxRecDepth 20000 in
theorem sg_mg4 {L : Nat} {xs : Nat → Int32} {d : Nat} {I : Nat → Nat → Int32} {J : Nat → Nat → Int64} {R : Nat → Nat → Nat} {n : Int32} (hG : aGd R) (c1 : xEv L xs d 160 0 [.int n, .int 0, .int 64] [] (124, I, J, R) (some (.int 1)) (124, I, J, R)) (b1 : (I 121 0).toInt ≠ 0) (b2 : ((I 121 1) + n).toInt ≤ (I 86 26).toInt) {v : Option Value} {h' : xH} (hk : xEv L xs (d + 1) 223 45 [.ref 86, .int n, .int 0] [] (124, I, J, R) v h') : xEv L xs (d + 1) 223 0 [.ref 86, .int n, xmk] [] (124, I, J, R) v h' := by
  refine ev_go 3 (pc1 := 4) (lv1 := [.ref 86, .int n, xmk]) (st1 := [.int 64, .int 0, .int n]) (h1 := (124, I, J, R)) rfl ?_
  refine ev_call (v1 := (some (.int 1))) (h1 := (124, I, J, R)) rfl rfl c1 ?_
  refine ev_go 2 (pc1 := 14) (lv1 := [.ref 86, .int n, xmk]) (st1 := [.ref 86]) (h1 := (124, I, J, R)) rfl ?_
  refine ev_gf (c := 86) (t := 121) (X := R 86 56) rfl rfl (fun _ => rfl) rfl (hG 86 56 121 rfl rfl) ?_
  refine ev_go 2 (pc1 := 19) (lv1 := [.ref 86, .int n, xmk]) (st1 := [.int (I 121 0)]) (h1 := (124, I, J, R)) rfl ?_
  refine ev_br (b1 := true) rfl rfl (xcd_ne (x := (I 121 0)) (y := 0) (by rw [show ((0 : Int32)).toInt = 0 from by decide]; first | exact b1 | omega)) ?_
  refine ev_go 1 (pc1 := 26) (lv1 := [.ref 86, .int n, xmk]) (st1 := [.ref 86]) (h1 := (124, I, J, R)) rfl ?_
  refine ev_gf (c := 86) (t := 121) (X := R 86 56) rfl rfl (fun _ => rfl) rfl (hG 86 56 121 rfl rfl) ?_
  refine ev_go 6 (pc1 := 37) (lv1 := [.ref 86, .int n, xmk]) (st1 := [.int (I 86 26), .int ((I 121 1) + n)]) (h1 := (124, I, J, R)) rfl ?_
  refine ev_br (b1 := true) rfl rfl (xcd_le (x := ((I 121 1) + n)) (y := (I 86 26)) (by first | exact b2 | omega)) ?_
  refine ev_go 2 (pc1 := 45) (lv1 := [.ref 86, .int n, .int 0]) (st1 := []) (h1 := (124, I, J, R)) rfl ?_
  exact hk
set_option maxRecDepth 20000 in
theorem sg_mgR {L : Nat} {xs : Nat → Int32} {d : Nat} {I : Nat → Nat → Int32} {J : Nat → Nat → Int64} {R : Nat → Nat → Nat} {n i : Int32} (hG : aGd R) (b1 : i.toInt ≥ n.toInt) : xEv L xs d 223 45 [.ref 86, .int n, .int i] [] (124, I, J, R) (some (.int (I 121 1))) (124, I, J, R) := by
  refine ev_go 2 (pc1 := 47) (lv1 := [.ref 86, .int n, .int i]) (st1 := [.int n, .int i]) (h1 := (124, I, J, R)) rfl ?_
  refine ev_br (b1 := true) rfl rfl (xcd_ge (x := i) (y := n) (by first | exact b1 | omega)) ?_
  refine ev_go 1 (pc1 := 61) (lv1 := [.ref 86, .int n, .int i]) (st1 := [.ref 86]) (h1 := (124, I, J, R)) rfl ?_
  refine ev_gf (c := 86) (t := 121) (X := R 86 56) rfl rfl (fun _ => rfl) rfl (hG 86 56 121 rfl rfl) ?_
  refine ev_go 2 (pc1 := 66) (lv1 := [.ref 86, .int n, .int i]) (st1 := [.int (I 121 1)]) (h1 := (124, I, J, R)) rfl ?_
  exact ev_ret rfl rfl
set_option maxRecDepth 20000 in
theorem sg_mgL {L : Nat} {xs : Nat → Int32} {d : Nat} {I : Nat → Nat → Int32} {J : Nat → Nat → Int64} {R : Nat → Nat → Nat} {I1 : Nat → Nat → Int32} {J1 : Nat → Nat → Int64} {R1 : Nat → Nat → Nat} {n i : Int32} (hG : aGd R) (b1 : i.toInt < n.toInt) (c1 : xEv L xs d 224 0 [.ref 86, xmk, xmk, xmk, xmk, xmk, xmk] [] (124, I, J, R) none (124, I1, J1, R1)) (hG1 : aGd R1) {v : Option Value} {h' : xH} (hk : xEv L xs (d + 1) 223 45 [.ref 86, .int n, .int (i + 1)] [] (124, I1, J1, R1) v h') : xEv L xs (d + 1) 223 45 [.ref 86, .int n, .int i] [] (124, I, J, R) v h' := by
  refine ev_go 2 (pc1 := 47) (lv1 := [.ref 86, .int n, .int i]) (st1 := [.int n, .int i]) (h1 := (124, I, J, R)) rfl ?_
  refine ev_br (b1 := false) rfl rfl (xcd_nge (x := i) (y := n) (by first | exact b1 | omega)) ?_
  refine ev_go 1 (pc1 := 51) (lv1 := [.ref 86, .int n, .int i]) (st1 := [.ref 86]) (h1 := (124, I, J, R)) rfl ?_
  refine ev_call (v1 := none) (h1 := (124, I1, J1, R1)) rfl rfl c1 ?_
  refine ev_go 2 (pc1 := 45) (lv1 := [.ref 86, .int n, .int (i + 1)]) (st1 := []) (h1 := (124, I1, J1, R1)) rfl ?_
  exact hk
theorem goL_3 (hk : aOK 111) {L : Nat} {xs : Nat → Int32} {d : Nat} (hd : 6 ≤ d) {h0 : aE} {n : Int32} (hn : n.toInt ≤ 64) : ∀ (m : Nat) (i : Int32) (I : Nat → Nat → Int32) (J : Nat → Nat → Int64) (R : Nat → Nat → Nat), (n.toInt - i.toInt).toNat = m → 0 ≤ i.toInt → i.toInt ≤ n.toInt → aGood (124, I, J, R) → aFr (aMod 510) h0.1 (124, I, J, R) → R 0 8 = 4 → (I 66 5).toInt + (n.toInt - i.toInt) ≤ (I 17 5).toInt → aT L xs (d + 1) 510 h0 59 [.ref 0, .int n, .int i] [] (124, I, J, R) := by
  intro m
  induction m with
  | zero =>
    intro i I J R hm hi0 hi1 hg hf hR hb
    exact ⟨_, _, sg_goR (gd_of hg) (by omega), post1 (cs := (some (Sum.inr (Sum.inl ((-2147483648), 2147483647, none))), [], [], [])) (List.mem_singleton.mpr rfl) hg hf (cok_i (aw _).1 (aw _).2 fok0)⟩
  | succ m ih =>
    intro i I J R hm hi0 hi1 hg hf hR hb
    have hz := good_int hg 17 5 rfl
    have hz2 : (aRng 17 5) = (0, 64) := rfl
    rw [hz2] at hz
    have hy := good_int hg 66 5 rfl
    have hy2 : (aRng 66 5) = (0, 64) := rfl
    rw [hy2] at hy
    dsimp only at hz hy
    obtain ⟨v1, ⟨n1, I1, J1, R1⟩, he, hg1, hf1, cs, hcs, hc⟩ := hk L xs d [.ref 63, .ref 3] (124, I, J, R) hd hg ⟨g0_r (by decide), g0_r (by decide), rfl⟩ (fok1 (c := 66) (k := 5) rfl (by show (0 : Int) ≤ (I 66 5).toInt; omega) (by show (I 66 5).toInt ≤ 63; omega))
    have e1 : n1 = 124 := hg1.1
    subst e1
    have hcs2 := List.mem_singleton.mp hcs
    subst hcs2
    obtain ⟨q1, -, q3, q4⟩ := hc
    have q1' : v1 = none := q1
    subst q1'
    have u := (q4 ((66, 5), 1, true) List.mem_cons_self).2 rfl
    have u2 : (I1 66 5).toInt = (I 66 5).toInt + 1 := u
    have e2 : I1 17 5 = I 17 5 := fr_int hf1 17 5 rfl
    have e3 : R1 0 8 = R 0 8 := fr_ref hf1 0 8 rfl
    have ei := i_add1 (x := i) (by omega)
    refine aT_of (fun hk => sg_goL_3 (gd_of hg) (by omega) hR he (gd_of hg1) hk) (ih (i + 1) I1 J1 R1 (by omega) (by omega) (by omega) hg1 (aFr_trans rfl hf hf1) (e3.trans hR) (by rw [e2]; omega))
theorem goL_23 (hk : aOK 111) {L : Nat} {xs : Nat → Int32} {d : Nat} (hd : 6 ≤ d) {h0 : aE} {n : Int32} (hn : n.toInt ≤ 64) : ∀ (m : Nat) (i : Int32) (I : Nat → Nat → Int32) (J : Nat → Nat → Int64) (R : Nat → Nat → Nat), (n.toInt - i.toInt).toNat = m → 0 ≤ i.toInt → i.toInt ≤ n.toInt → aGood (124, I, J, R) → aFr (aMod 510) h0.1 (124, I, J, R) → R 0 8 = 24 → (I 66 5).toInt + (n.toInt - i.toInt) ≤ (I 37 5).toInt → aT L xs (d + 1) 510 h0 59 [.ref 0, .int n, .int i] [] (124, I, J, R) := by
  intro m
  induction m with
  | zero =>
    intro i I J R hm hi0 hi1 hg hf hR hb
    exact ⟨_, _, sg_goR (gd_of hg) (by omega), post1 (cs := (some (Sum.inr (Sum.inl ((-2147483648), 2147483647, none))), [], [], [])) (List.mem_singleton.mpr rfl) hg hf (cok_i (aw _).1 (aw _).2 fok0)⟩
  | succ m ih =>
    intro i I J R hm hi0 hi1 hg hf hR hb
    have hz := good_int hg 37 5 rfl
    have hz2 : (aRng 37 5) = (0, 64) := rfl
    rw [hz2] at hz
    have hy := good_int hg 66 5 rfl
    have hy2 : (aRng 66 5) = (0, 64) := rfl
    rw [hy2] at hy
    dsimp only at hz hy
    obtain ⟨v1, ⟨n1, I1, J1, R1⟩, he, hg1, hf1, cs, hcs, hc⟩ := hk L xs d [.ref 63, .ref 23] (124, I, J, R) hd hg ⟨g0_r (by decide), g0_r (by decide), rfl⟩ (fok1 (c := 66) (k := 5) rfl (by show (0 : Int) ≤ (I 66 5).toInt; omega) (by show (I 66 5).toInt ≤ 63; omega))
    have e1 : n1 = 124 := hg1.1
    subst e1
    have hcs2 := List.mem_singleton.mp hcs
    subst hcs2
    obtain ⟨q1, -, q3, q4⟩ := hc
    have q1' : v1 = none := q1
    subst q1'
    have u := (q4 ((66, 5), 1, true) List.mem_cons_self).2 rfl
    have u2 : (I1 66 5).toInt = (I 66 5).toInt + 1 := u
    have e2 : I1 37 5 = I 37 5 := fr_int hf1 37 5 rfl
    have e3 : R1 0 8 = R 0 8 := fr_ref hf1 0 8 rfl
    have ei := i_add1 (x := i) (by omega)
    refine aT_of (fun hk => sg_goL_23 (gd_of hg) (by omega) hR he (gd_of hg1) hk) (ih (i + 1) I1 J1 R1 (by omega) (by omega) (by omega) hg1 (aFr_trans rfl hf hf1) (e3.trans hR) (by rw [e2]; omega))
theorem okh_510 (hkn : ∀ n, n < 510 → aOK n) : aOK 510 := by
  intro L xs d vs h hd hg hA hF
  obtain ⟨n0, I, J, R⟩ := h
  have e1 : n0 = 124 := hg.1
  subst e1
  obtain ⟨n, rfl, -, -⟩ := args_RI (c := 0) hA
  have hd7 : 7 ≤ d := hd
  obtain ⟨d, rfl⟩ : ∃ e, d = e + 1 := ⟨d - 1, by omega⟩
  have hG := gd_of hg
  have ful : ∀ x : Int32, ∀ h, aGood h → aFr (aMod 510) (124, I, J, R) h → aPost 510 ((124, I, J, R), [.ref 0, .int n]) (some (.int x)) h := fun x h g f => post1 (cs := (some (Sum.inr (Sum.inl ((-2147483648), 2147483647, none))), [], [], [])) (List.mem_singleton.mpr rfl) g f (cok_i (aw _).1 (aw _).2 fok0)
  have ff := aFr_refl (aMod 510) (124, I, J, R)
  by_cases h1 : n.toInt < 0
  · exact ⟨_, _, sg_go1 hG h1, ful _ _ hg ff⟩
  by_cases h2 : n.toInt > 64
  · exact ⟨_, _, sg_go2 hG (by omega) h2, ful _ _ hg ff⟩
  by_cases h3 : (I 66 4).toInt = 0
  · exact ⟨_, _, sg_go3 hG (by omega) (by omega) h3, ful _ _ hg ff⟩
  have hy := good_int hg 66 5 rfl
  have hy2 : (aRng 66 5) = (0, 64) := rfl
  rw [hy2] at hy
  dsimp only at hy
  obtain ⟨v, hv, hR⟩ := hg.2.2 0 8 rfl
  have hv2 : v = 3 ∨ v = 23 := by
    have : v ∈ [3, 23] := hv
    simpa using this
  rcases hv2 with rfl | rfl
  · have hz := good_int hg 17 5 rfl
    have hz2 : (aRng 17 5) = (0, 64) := rfl
    rw [hz2] at hz
    dsimp only at hz
    have es : (I 17 5 - I 66 5).toInt = (I 17 5).toInt - (I 66 5).toInt := i_sub (by omega) (by omega)
    by_cases h4 : n.toInt > (I 17 5 - I 66 5).toInt
    · exact ⟨_, _, sg_go4_3 hG (by omega) (by omega) h3 hR h4, ful _ _ hg ff⟩
    · refine aT_of (fun hk => sg_go5_3 hG (by omega) (by omega) h3 hR (by omega) hk) (goL_3 (hkn 111 (by decide)) (by omega) (by omega) _ 0 I J R rfl (by decide) (by rw [show (0 : Int32).toInt = 0 from by decide]; omega) hg ff hR (by rw [show (0 : Int32).toInt = 0 from by decide]; omega))
  · have hz := good_int hg 37 5 rfl
    have hz2 : (aRng 37 5) = (0, 64) := rfl
    rw [hz2] at hz
    dsimp only at hz
    have es : (I 37 5 - I 66 5).toInt = (I 37 5).toInt - (I 66 5).toInt := i_sub (by omega) (by omega)
    by_cases h4 : n.toInt > (I 37 5 - I 66 5).toInt
    · exact ⟨_, _, sg_go4_23 hG (by omega) (by omega) h3 hR h4, ful _ _ hg ff⟩
    · refine aT_of (fun hk => sg_go5_23 hG (by omega) (by omega) h3 hR (by omega) hk) (goL_23 (hkn 111 (by decide)) (by omega) (by omega) _ 0 I J R rfl (by decide) (by rw [show (0 : Int32).toInt = 0 from by decide]; omega) hg ff hR (by rw [show (0 : Int32).toInt = 0 from by decide]; omega))
theorem in_run {L : Nat} {xs : Nat → Int32} {d : Nat} {I : Nat → Nat → Int32} {J : Nat → Nat → Int64} {R : Nat → Nat → Nat} (hG : aGd R) (x lo hi : Int32) : (xEv L xs d 160 0 [.int x, .int lo, .int hi] [] (124, I, J, R) (some (.int 1)) (124, I, J, R) ∧ lo.toInt ≤ x.toInt ∧ x.toInt ≤ hi.toInt) ∨ xEv L xs d 160 0 [.int x, .int lo, .int hi] [] (124, I, J, R) (some (.int 0)) (124, I, J, R) := by
  by_cases h1 : x.toInt < lo.toInt
  · exact Or.inr (sg_in1 hG h1)
  by_cases h2 : x.toInt > hi.toInt
  · exact Or.inr (sg_in2 hG (by omega) h2)
  · exact Or.inl ⟨sg_in3 hG (by omega) (by omega), by omega, by omega⟩
theorem mgL (hA : aOK 51) (hB : aOK 60) {L : Nat} {xs : Nat → Int32} {d : Nat} (hd : 4 ≤ d) {h0 : aE} {n : Int32} (hn : n.toInt ≤ 64) : ∀ (m : Nat) (i : Int32) (I : Nat → Nat → Int32) (J : Nat → Nat → Int64) (R : Nat → Nat → Nat), (n.toInt - i.toInt).toNat = m → 0 ≤ i.toInt → i.toInt ≤ n.toInt → aGood (124, I, J, R) → aFr (aMod 511) h0.1 (124, I, J, R) → (I 121 1).toInt + (n.toInt - i.toInt) ≤ (I 86 26).toInt → aT L xs (d + 1) 511 h0 45 [.ref 86, .int n, .int i] [] (124, I, J, R) := by
  intro m
  induction m with
  | zero =>
    intro i I J R hm hi0 hi1 hg hf hb
    exact ⟨_, _, sg_mgR (gd_of hg) (by omega), post1 (cs := (some (Sum.inr (Sum.inl ((-2147483648), 2147483647, none))), [], [], [])) (List.mem_singleton.mpr rfl) hg hf (cok_i (aw _).1 (aw _).2 fok0)⟩
  | succ m ih =>
    intro i I J R hm hi0 hi1 hg hf hb
    have hz := good_int hg 86 26 rfl
    have hz2 : (aRng 86 26) = (0, 64) := rfl
    rw [hz2] at hz
    have hy := good_int hg 121 1 rfl
    have hy2 : (aRng 121 1) = (0, 64) := rfl
    rw [hy2] at hy
    dsimp only at hz hy
    have ei := i_add1 (x := i) (by omega)
    have key : ∃ I1 J1 R1, xEv L xs d 224 0 [.ref 86, xmk, xmk, xmk, xmk, xmk, xmk] [] (124, I, J, R) none (124, I1, J1, R1) ∧ aGood (124, I1, J1, R1) ∧ aFr (aMod 511) h0.1 (124, I1, J1, R1) ∧ (I1 121 1).toInt = (I 121 1).toInt + 1 ∧ I1 86 26 = I 86 26 := by
      by_cases h63 : (I 121 1).toInt = 63
      · obtain ⟨v1, ⟨n1, I1, J1, R1⟩, he, hg1, hf1, cs, hcs, hc⟩ := hB L xs d [.ref 86] (124, I, J, R) hd hg ⟨g0_r (by decide), rfl⟩ (by
          intro q hq
          rcases List.mem_cons.mp hq with e | hq
          · rw [e]; exact fok1 (h := (124, I, J, R)) (c := 86) (k := 26) (lo := 64) (hi := 64) rfl (by show (64 : Int) ≤ (I 86 26).toInt; omega) (by show (I 86 26).toInt ≤ 64; omega) _ List.mem_cons_self
          · rw [List.mem_singleton.mp hq]; exact fok1 (h := (124, I, J, R)) (c := 121) (k := 1) (lo := 63) (hi := 63) rfl (by show (63 : Int) ≤ (I 121 1).toInt; omega) (by show (I 121 1).toInt ≤ 63; omega) _ List.mem_cons_self)
        have e1 : n1 = 124 := hg1.1
        subst e1
        have hcs2 := List.mem_singleton.mp hcs
        subst hcs2
        obtain ⟨q1, -, q3, q4⟩ := hc
        have q1' : v1 = none := q1
        subst q1'
        exact ⟨I1, J1, R1, he, hg1, aFr_trans rfl hf hf1, (q4 ((121, 1), 1, true) List.mem_cons_self).2 rfl, fr_int hf1 86 26 rfl⟩
      · obtain ⟨v1, ⟨n1, I1, J1, R1⟩, he, hg1, hf1, cs, hcs, hc⟩ := hA L xs d [.ref 86] (124, I, J, R) hd hg ⟨g0_r (by decide), rfl⟩ (fok1 (c := 121) (k := 1) rfl (by show (0 : Int) ≤ (I 121 1).toInt; omega) (by show (I 121 1).toInt ≤ 62; omega))
        have e1 : n1 = 124 := hg1.1
        subst e1
        have hcs2 := List.mem_singleton.mp hcs
        subst hcs2
        obtain ⟨q1, -, q3, q4⟩ := hc
        have q1' : v1 = none := q1
        subst q1'
        exact ⟨I1, J1, R1, he, hg1, aFr_trans rfl hf hf1, (q4 ((121, 1), 1, true) List.mem_cons_self).2 rfl, fr_int hf1 86 26 rfl⟩
    obtain ⟨I1, J1, R1, he, hg1, hf1, u, e2⟩ := key
    exact aT_of (fun hk => sg_mgL (gd_of hg) (by omega) he (gd_of hg1) hk) (ih (i + 1) I1 J1 R1 (by omega) (by omega) (by omega) hg1 hf1 (by rw [e2]; omega))
theorem okh_511 (hkn : ∀ n, n < 511 → aOK n) : aOK 511 := by
  intro L xs d vs h hd hg hA hF
  obtain ⟨n0, I, J, R⟩ := h
  have e1 : n0 = 124 := hg.1
  subst e1
  obtain ⟨n, rfl, -, -⟩ := args_RI (c := 86) hA
  have hd7 : 5 ≤ d := hd
  obtain ⟨d, rfl⟩ : ∃ e, d = e + 1 := ⟨d - 1, by omega⟩
  have hG := gd_of hg
  have ful : ∀ x : Int32, ∀ h, aGood h → aFr (aMod 511) (124, I, J, R) h → aPost 511 ((124, I, J, R), [.ref 86, .int n]) (some (.int x)) h := fun x h g f => post1 (cs := (some (Sum.inr (Sum.inl ((-2147483648), 2147483647, none))), [], [], [])) (List.mem_singleton.mpr rfl) g f (cok_i (aw _).1 (aw _).2 fok0)
  have ff := aFr_refl (aMod 511) (124, I, J, R)
  rcases in_run (L := L) (xs := xs) (d := d) (I := I) (J := J) hG n 0 64 with ⟨c1, h1, h2⟩ | c1
  · have h1' : (0 : Int) ≤ n.toInt := h1
    have h2' : n.toInt ≤ 64 := h2
    by_cases h3 : (I 121 0).toInt = 0
    · exact ⟨_, _, sg_mg2 hG c1 h3, ful _ _ hg ff⟩
    have hz := good_int hg 86 26 rfl
    have hz2 : (aRng 86 26) = (0, 64) := rfl
    rw [hz2] at hz
    have hy := good_int hg 121 1 rfl
    have hy2 : (aRng 121 1) = (0, 64) := rfl
    rw [hy2] at hy
    dsimp only at hz hy
    have es : (I 121 1 + n).toInt = (I 121 1).toInt + n.toInt := i_add (by omega) (by omega)
    by_cases h4 : (I 121 1 + n).toInt > (I 86 26).toInt
    · exact ⟨_, _, sg_mg3 hG c1 h3 h4, ful _ _ hg ff⟩
    · exact aT_of (fun hk => sg_mg4 hG c1 h3 (by omega) hk) (mgL (hkn 51 (by decide)) (hkn 60 (by decide)) (by omega) h2' _ 0 I J R rfl (by decide) (by rw [show (0 : Int32).toInt = 0 from by decide]; omega) hg ff (by rw [show (0 : Int32).toInt = 0 from by decide]; omega))
  · exact ⟨_, _, sg_mg1 hG c1, ful _ _ hg ff⟩
