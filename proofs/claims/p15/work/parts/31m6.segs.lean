set_option maxRecDepth 20000 in
theorem zaW_s {L : Nat} {xs : Nat → Int32} {d : Nat} {I : Nat → Nat → Int32} {J : Nat → Nat → Int64} {R : Nat → Nat → Nat} {n : Int32} (hG : aGd R) (c1 : xEv L xs d 200 0 [.ref 86, xmk, xmk] [] (124, I, J, R) (some (.int n)) (124, I, J, R)) {v : Option Value} {h' : xH} (hk : xEv L xs (d + 1) 199 12 [.ref 86, .int n, .int 0, xmk] [] (124, (uI I 86 47 0), J, R) v h') : xEv L xs (d + 1) 199 0 [.ref 86, xmk, xmk, xmk] [] (124, I, J, R) v h' := by
  refine ev_go 1 (pc1 := 1) (lv1 := [.ref 86, xmk, xmk, xmk]) (st1 := [.ref 86]) (h1 := (124, I, J, R)) rfl ?_
  refine ev_call (v1 := (some (.int n))) (h1 := (124, I, J, R)) rfl rfl c1 ?_
  refine ev_go 6 (pc1 := 12) (lv1 := [.ref 86, .int n, .int 0, xmk]) (st1 := []) (h1 := (124, (uI I 86 47 0), J, R)) rfl ?_
  exact hk
set_option maxRecDepth 20000 in
theorem zaW_1y {L : Nat} {xs : Nat → Int32} {d : Nat} {I : Nat → Nat → Int32} {J : Nat → Nat → Int64} {R : Nat → Nat → Nat} {n x : Int32} (hG : aGd R) (b1 : x.toInt < n.toInt) (n1 : 0 ≤ x.toInt) (m1 : x.toInt < 2401) {v : Option Value} {h' : xH} (hk : xEv L xs d 199 12 [.ref 86, .int n, .int (x + 1), xmk] [] (124, (uI I 111 x.toNatClampNeg 0), J, R) v h') : xEv L xs d 199 12 [.ref 86, .int n, .int x, xmk] [] (124, I, J, R) v h' := by
  refine ev_go 2 (pc1 := 14) (lv1 := [.ref 86, .int n, .int x, xmk]) (st1 := [.int n, .int x]) (h1 := (124, I, J, R)) rfl ?_
  refine ev_br (b1 := false) rfl rfl (xcd_nge (x := x) (y := n) (by first | exact b1 | omega)) ?_
  refine ev_go 1 (pc1 := 18) (lv1 := [.ref 86, .int n, .int x, xmk]) (st1 := [.ref 86]) (h1 := (124, I, J, R)) rfl ?_
  refine ev_gf (c := 86) (t := 111) (X := R 86 42) rfl rfl (fun _ => rfl) rfl (hG 86 42 111 rfl rfl) ?_
  refine ev_go 2 (pc1 := 23) (lv1 := [.ref 86, .int n, .int x, xmk]) (st1 := [.int 0, .int x, .ref 111]) (h1 := (124, I, J, R)) rfl ?_
  refine ev_ist (n := 2401) rfl rfl (fun _ => rfl) n1 m1 ?_
  refine ev_go 2 (pc1 := 12) (lv1 := [.ref 86, .int n, .int (x + 1), xmk]) (st1 := []) (h1 := (124, (uI I 111 x.toNatClampNeg 0), J, R)) rfl ?_
  exact hk
set_option maxRecDepth 20000 in
theorem zaW_1e {L : Nat} {xs : Nat → Int32} {d : Nat} {I : Nat → Nat → Int32} {J : Nat → Nat → Int64} {R : Nat → Nat → Nat} {n x : Int32} (hG : aGd R) (b1 : x.toInt ≥ n.toInt) {v : Option Value} {h' : xH} (hk : xEv L xs d 199 37 [.ref 86, .int n, .int ((I 86 26) - 1), xmk] [] (124, I, J, R) v h') : xEv L xs d 199 12 [.ref 86, .int n, .int x, xmk] [] (124, I, J, R) v h' := by
  refine ev_go 2 (pc1 := 14) (lv1 := [.ref 86, .int n, .int x, xmk]) (st1 := [.int n, .int x]) (h1 := (124, I, J, R)) rfl ?_
  refine ev_br (b1 := true) rfl rfl (xcd_ge (x := x) (y := n) (by first | exact b1 | omega)) ?_
  refine ev_go 5 (pc1 := 37) (lv1 := [.ref 86, .int n, .int ((I 86 26) - 1), xmk]) (st1 := []) (h1 := (124, I, J, R)) rfl ?_
  exact hk
set_option maxRecDepth 20000 in
theorem zaW_t {L : Nat} {xs : Nat → Int32} {d : Nat} {I : Nat → Nat → Int32} {J : Nat → Nat → Int64} {R : Nat → Nat → Nat} {n t : Int32} {w3 : Value} (hG : aGd R) (b1 : t.toInt ≥ 0) {v : Option Value} {h' : xH} (hk : xEv L xs d 199 43 [.ref 86, .int n, .int t, .int 0] [] (124, I, J, R) v h') : xEv L xs d 199 37 [.ref 86, .int n, .int t, w3] [] (124, I, J, R) v h' := by
  refine ev_go 1 (pc1 := 38) (lv1 := [.ref 86, .int n, .int t, w3]) (st1 := [.int t]) (h1 := (124, I, J, R)) rfl ?_
  refine ev_br (b1 := false) rfl rfl (xcd_nlt (x := t) (y := 0) (by rw [show ((0 : Int32)).toInt = 0 from by decide]; first | exact b1 | omega)) ?_
  refine ev_go 2 (pc1 := 43) (lv1 := [.ref 86, .int n, .int t, .int 0]) (st1 := []) (h1 := (124, I, J, R)) rfl ?_
  exact hk
set_option maxRecDepth 20000 in
theorem zaW_2y {L : Nat} {xs : Nat → Int32} {d : Nat} {I : Nat → Nat → Int32} {J : Nat → Nat → Int64} {R : Nat → Nat → Nat} {I1 : Nat → Nat → Int32} {I2 : Nat → Nat → Int32} {n t x : Int32} (hG : aGd R) (b1 : x.toInt < n.toInt) (c1 : xEv L xs d 201 0 [.ref 86, .int x, xmk, xmk] [] (124, I, J, R) none (124, I1, J, R)) (c2 : xEv L xs d 202 0 [.ref 86, .int t, .int 0, xmk, xmk, xmk, xmk] [] (124, (uI I1 86 46 0), J, R) none (124, I2, J, R)) (n1 : 0 ≤ x.toInt) (m1 : x.toInt < 2401) {v : Option Value} {h' : xH} (hk : xEv L xs (d + 1) 199 43 [.ref 86, .int n, .int t, .int (x + 1)] [] (124, (uI I2 110 x.toNatClampNeg (I2 86 46)), J, R) v h') : xEv L xs (d + 1) 199 43 [.ref 86, .int n, .int t, .int x] [] (124, I, J, R) v h' := by
  refine ev_go 2 (pc1 := 45) (lv1 := [.ref 86, .int n, .int t, .int x]) (st1 := [.int n, .int x]) (h1 := (124, I, J, R)) rfl ?_
  refine ev_br (b1 := false) rfl rfl (xcd_nge (x := x) (y := n) (by first | exact b1 | omega)) ?_
  refine ev_go 2 (pc1 := 50) (lv1 := [.ref 86, .int n, .int t, .int x]) (st1 := [.int x, .ref 86]) (h1 := (124, I, J, R)) rfl ?_
  refine ev_call (v1 := none) (h1 := (124, I1, J, R)) rfl rfl c1 ?_
  refine ev_go 6 (pc1 := 61) (lv1 := [.ref 86, .int n, .int t, .int x]) (st1 := [.int 0, .int t, .ref 86]) (h1 := (124, (uI I1 86 46 0), J, R)) rfl ?_
  refine ev_call (v1 := none) (h1 := (124, I2, J, R)) rfl rfl c2 ?_
  refine ev_go 1 (pc1 := 65) (lv1 := [.ref 86, .int n, .int t, .int x]) (st1 := [.ref 86]) (h1 := (124, I2, J, R)) rfl ?_
  refine ev_gf (c := 86) (t := 110) (X := R 86 41) rfl rfl (fun _ => rfl) rfl (hG 86 41 110 rfl rfl) ?_
  refine ev_go 3 (pc1 := 73) (lv1 := [.ref 86, .int n, .int t, .int x]) (st1 := [.int (I2 86 46), .int x, .ref 110]) (h1 := (124, I2, J, R)) rfl ?_
  refine ev_ist (n := 2401) rfl rfl (fun _ => rfl) n1 m1 ?_
  refine ev_go 2 (pc1 := 43) (lv1 := [.ref 86, .int n, .int t, .int (x + 1)]) (st1 := []) (h1 := (124, (uI I2 110 x.toNatClampNeg (I2 86 46)), J, R)) rfl ?_
  exact hk
set_option maxRecDepth 20000 in
theorem zaW_2e {L : Nat} {xs : Nat → Int32} {d : Nat} {I : Nat → Nat → Int32} {J : Nat → Nat → Int64} {R : Nat → Nat → Nat} {n t x : Int32} (hG : aGd R) (b1 : x.toInt ≥ n.toInt) {v : Option Value} {h' : xH} (hk : xEv L xs d 199 82 [.ref 86, .int n, .int t, .int 0] [] (124, I, J, R) v h') : xEv L xs d 199 43 [.ref 86, .int n, .int t, .int x] [] (124, I, J, R) v h' := by
  refine ev_go 2 (pc1 := 45) (lv1 := [.ref 86, .int n, .int t, .int x]) (st1 := [.int n, .int x]) (h1 := (124, I, J, R)) rfl ?_
  refine ev_br (b1 := true) rfl rfl (xcd_ge (x := x) (y := n) (by first | exact b1 | omega)) ?_
  refine ev_go 2 (pc1 := 82) (lv1 := [.ref 86, .int n, .int t, .int 0]) (st1 := []) (h1 := (124, I, J, R)) rfl ?_
  exact hk
set_option maxRecDepth 20000 in
theorem zaW_3y {L : Nat} {xs : Nat → Int32} {d : Nat} {I : Nat → Nat → Int32} {J : Nat → Nat → Int64} {R : Nat → Nat → Nat} {n t x : Int32} (hG : aGd R) (b1 : x.toInt < n.toInt) (n1 : 0 ≤ x.toInt) (m1 : x.toInt < 2401) (n2 : 0 ≤ x.toInt) (m2 : x.toInt < 2401) {v : Option Value} {h' : xH} (hk : xEv L xs d 199 82 [.ref 86, .int n, .int t, .int (x + 1)] [] (124, (uI I 111 x.toNatClampNeg (I 110 x.toNatClampNeg)), J, R) v h') : xEv L xs d 199 82 [.ref 86, .int n, .int t, .int x] [] (124, I, J, R) v h' := by
  refine ev_go 2 (pc1 := 84) (lv1 := [.ref 86, .int n, .int t, .int x]) (st1 := [.int n, .int x]) (h1 := (124, I, J, R)) rfl ?_
  refine ev_br (b1 := false) rfl rfl (xcd_nge (x := x) (y := n) (by first | exact b1 | omega)) ?_
  refine ev_go 1 (pc1 := 88) (lv1 := [.ref 86, .int n, .int t, .int x]) (st1 := [.ref 86]) (h1 := (124, I, J, R)) rfl ?_
  refine ev_gf (c := 86) (t := 111) (X := R 86 42) rfl rfl (fun _ => rfl) rfl (hG 86 42 111 rfl rfl) ?_
  refine ev_go 2 (pc1 := 93) (lv1 := [.ref 86, .int n, .int t, .int x]) (st1 := [.ref 86, .int x, .ref 111]) (h1 := (124, I, J, R)) rfl ?_
  refine ev_gf (c := 86) (t := 110) (X := R 86 41) rfl rfl (fun _ => rfl) rfl (hG 86 41 110 rfl rfl) ?_
  refine ev_go 1 (pc1 := 97) (lv1 := [.ref 86, .int n, .int t, .int x]) (st1 := [.int x, .ref 110, .int x, .ref 111]) (h1 := (124, I, J, R)) rfl ?_
  refine ev_ild (n := 2401) rfl rfl (fun _ => rfl) n1 m1 ?_
  refine ev_ist (n := 2401) rfl rfl (fun _ => rfl) n2 m2 ?_
  refine ev_go 2 (pc1 := 82) (lv1 := [.ref 86, .int n, .int t, .int (x + 1)]) (st1 := []) (h1 := (124, (uI I 111 x.toNatClampNeg (I 110 x.toNatClampNeg)), J, R)) rfl ?_
  exact hk
set_option maxRecDepth 20000 in
theorem zaW_3e {L : Nat} {xs : Nat → Int32} {d : Nat} {I : Nat → Nat → Int32} {J : Nat → Nat → Int64} {R : Nat → Nat → Nat} {n t x dx1 : Int32} (hG : aGd R) (b1 : x.toInt ≥ n.toInt) (i1 : t + (-1) = dx1) {v : Option Value} {h' : xH} (hk : xEv L xs d 199 37 [.ref 86, .int n, .int dx1, .int x] [] (124, I, J, R) v h') : xEv L xs d 199 82 [.ref 86, .int n, .int t, .int x] [] (124, I, J, R) v h' := by
  refine ev_go 2 (pc1 := 84) (lv1 := [.ref 86, .int n, .int t, .int x]) (st1 := [.int n, .int x]) (h1 := (124, I, J, R)) rfl ?_
  refine ev_br (b1 := true) rfl rfl (xcd_ge (x := x) (y := n) (by first | exact b1 | omega)) ?_
  refine ev_iinc (x := t) (y := dx1) (lv1 := [.ref 86, .int n, .int dx1, .int x]) rfl rfl (by rw [show Int32.ofInt (-1) = (-1) from by decide]; exact i1) rfl ?_
  refine ev_go 1 (pc1 := 37) (lv1 := [.ref 86, .int n, .int dx1, .int x]) (st1 := []) (h1 := (124, I, J, R)) rfl ?_
  exact hk
set_option maxRecDepth 20000 in
theorem zaW_e {L : Nat} {xs : Nat → Int32} {d : Nat} {I : Nat → Nat → Int32} {J : Nat → Nat → Int64} {R : Nat → Nat → Nat} {I1 : Nat → Nat → Int32} {n t f a : Int32} {w3 : Value} (hG : aGd R) (b1 : t.toInt < 0) (c1 : xEv L xs d 206 0 [.ref 86, xmk] [] (124, I, J, R) (some (.int f)) (124, I1, J, R)) (c2 : xEv L xs d 204 0 [.ref 86, .int 0, xmk, xmk] [] (124, I1, J, R) (some (.int a)) (124, I1, J, R)) (n1 : 0 ≤ f.toInt) (m1 : f.toInt < 2401) : xEv L xs (d + 1) 199 37 [.ref 86, .int n, .int t, w3] [] (124, I, J, R) (some (.int (a + (I1 111 f.toNatClampNeg)))) (124, I1, J, R) := by
  refine ev_go 1 (pc1 := 38) (lv1 := [.ref 86, .int n, .int t, w3]) (st1 := [.int t]) (h1 := (124, I, J, R)) rfl ?_
  refine ev_br (b1 := true) rfl rfl (xcd_lt (x := t) (y := 0) (by rw [show ((0 : Int32)).toInt = 0 from by decide]; first | exact b1 | omega)) ?_
  refine ev_go 1 (pc1 := 112) (lv1 := [.ref 86, .int n, .int t, w3]) (st1 := [.ref 86]) (h1 := (124, I, J, R)) rfl ?_
  refine ev_call (v1 := (some (.int f))) (h1 := (124, I1, J, R)) rfl rfl c1 ?_
  refine ev_go 3 (pc1 := 118) (lv1 := [.ref 86, .int n, .int f, w3]) (st1 := [.int 0, .ref 86]) (h1 := (124, I1, J, R)) rfl ?_
  refine ev_call (v1 := (some (.int a))) (h1 := (124, I1, J, R)) rfl rfl c2 ?_
  refine ev_go 1 (pc1 := 122) (lv1 := [.ref 86, .int n, .int f, w3]) (st1 := [.ref 86, .int a]) (h1 := (124, I1, J, R)) rfl ?_
  refine ev_gf (c := 86) (t := 111) (X := R 86 42) rfl rfl (fun _ => rfl) rfl (hG 86 42 111 rfl rfl) ?_
  refine ev_go 1 (pc1 := 126) (lv1 := [.ref 86, .int n, .int f, w3]) (st1 := [.int f, .ref 111, .int a]) (h1 := (124, I1, J, R)) rfl ?_
  refine ev_ild (n := 2401) rfl rfl (fun _ => rfl) n1 m1 ?_
  refine ev_go 1 (pc1 := 128) (lv1 := [.ref 86, .int n, .int f, w3]) (st1 := [.int (a + (I1 111 f.toNatClampNeg))]) (h1 := (124, I1, J, R)) rfl ?_
  exact ev_ret rfl rfl
set_option maxRecDepth 20000 in
theorem zto_r0 {L : Nat} {xs : Nat → Int32} {d : Nat} {I : Nat → Nat → Int32} {J : Nat → Nat → Int64} {R : Nat → Nat → Nat} {u q : Int32} (hG : aGd R) (b1 : u.toInt < 1) : xEv L xs d 208 0 [.ref 86, .int u, .int q, xmk, xmk, xmk, xmk, xmk] [] (124, I, J, R) (some (.int (-2))) (124, I, J, R) := by
  refine ev_go 2 (pc1 := 2) (lv1 := [.ref 86, .int u, .int q, xmk, xmk, xmk, xmk, xmk]) (st1 := [.int 1, .int u]) (h1 := (124, I, J, R)) rfl ?_
  refine ev_br (b1 := true) rfl rfl (xcd_lt (x := u) (y := 1) (by rw [show ((1 : Int32)).toInt = 1 from by decide]; first | exact b1 | omega)) ?_
  refine ev_go 1 (pc1 := 27) (lv1 := [.ref 86, .int u, .int q, xmk, xmk, xmk, xmk, xmk]) (st1 := [.int (-2)]) (h1 := (124, I, J, R)) rfl ?_
  exact ev_ret rfl rfl
set_option maxRecDepth 20000 in
theorem zto_r1 {L : Nat} {xs : Nat → Int32} {d : Nat} {I : Nat → Nat → Int32} {J : Nat → Nat → Int64} {R : Nat → Nat → Nat} {u q : Int32} (hG : aGd R) (b1 : u.toInt ≥ 1) (b2 : u.toInt ≥ (1 <<< ((I 88 2) &&& 31)).toInt) : xEv L xs d 208 0 [.ref 86, .int u, .int q, xmk, xmk, xmk, xmk, xmk] [] (124, I, J, R) (some (.int (-2))) (124, I, J, R) := by
  refine ev_go 2 (pc1 := 2) (lv1 := [.ref 86, .int u, .int q, xmk, xmk, xmk, xmk, xmk]) (st1 := [.int 1, .int u]) (h1 := (124, I, J, R)) rfl ?_
  refine ev_br (b1 := false) rfl rfl (xcd_nlt (x := u) (y := 1) (by rw [show ((1 : Int32)).toInt = 1 from by decide]; first | exact b1 | omega)) ?_
  refine ev_go 3 (pc1 := 8) (lv1 := [.ref 86, .int u, .int q, xmk, xmk, xmk, xmk, xmk]) (st1 := [.ref 86, .int 1, .int u]) (h1 := (124, I, J, R)) rfl ?_
  refine ev_gf (c := 86) (t := 88) (X := R 86 12) rfl rfl (fun _ => rfl) rfl (hG 86 12 88 rfl rfl) ?_
  refine ev_go 2 (pc1 := 13) (lv1 := [.ref 86, .int u, .int q, xmk, xmk, xmk, xmk, xmk]) (st1 := [.int (I 88 2), .int 1, .int u]) (h1 := (124, I, J, R)) rfl ?_
  refine ev_go 1 (pc1 := 14) (lv1 := [.ref 86, .int u, .int q, xmk, xmk, xmk, xmk, xmk]) (st1 := [.int (1 <<< ((I 88 2) &&& 31)), .int u]) (h1 := (124, I, J, R)) rfl ?_
  refine ev_br (b1 := true) rfl rfl (xcd_ge (x := u) (y := (1 <<< ((I 88 2) &&& 31))) (by first | exact b2 | omega)) ?_
  refine ev_go 1 (pc1 := 27) (lv1 := [.ref 86, .int u, .int q, xmk, xmk, xmk, xmk, xmk]) (st1 := [.int (-2)]) (h1 := (124, I, J, R)) rfl ?_
  exact ev_ret rfl rfl
set_option maxRecDepth 20000 in
theorem zto_r2 {L : Nat} {xs : Nat → Int32} {d : Nat} {I : Nat → Nat → Int32} {J : Nat → Nat → Int64} {R : Nat → Nat → Nat} {u q : Int32} (hG : aGd R) (b1 : u.toInt ≥ 1) (b2 : u.toInt < (1 <<< ((I 88 2) &&& 31)).toInt) (c1 : xEv L xs d 167 0 [.ref 86, .int q] [] (124, I, J, R) (some (.int 0)) (124, I, J, R)) : xEv L xs (d + 1) 208 0 [.ref 86, .int u, .int q, xmk, xmk, xmk, xmk, xmk] [] (124, I, J, R) (some (.int (-2))) (124, I, J, R) := by
  refine ev_go 2 (pc1 := 2) (lv1 := [.ref 86, .int u, .int q, xmk, xmk, xmk, xmk, xmk]) (st1 := [.int 1, .int u]) (h1 := (124, I, J, R)) rfl ?_
  refine ev_br (b1 := false) rfl rfl (xcd_nlt (x := u) (y := 1) (by rw [show ((1 : Int32)).toInt = 1 from by decide]; first | exact b1 | omega)) ?_
  refine ev_go 3 (pc1 := 8) (lv1 := [.ref 86, .int u, .int q, xmk, xmk, xmk, xmk, xmk]) (st1 := [.ref 86, .int 1, .int u]) (h1 := (124, I, J, R)) rfl ?_
  refine ev_gf (c := 86) (t := 88) (X := R 86 12) rfl rfl (fun _ => rfl) rfl (hG 86 12 88 rfl rfl) ?_
  refine ev_go 2 (pc1 := 13) (lv1 := [.ref 86, .int u, .int q, xmk, xmk, xmk, xmk, xmk]) (st1 := [.int (I 88 2), .int 1, .int u]) (h1 := (124, I, J, R)) rfl ?_
  refine ev_go 1 (pc1 := 14) (lv1 := [.ref 86, .int u, .int q, xmk, xmk, xmk, xmk, xmk]) (st1 := [.int (1 <<< ((I 88 2) &&& 31)), .int u]) (h1 := (124, I, J, R)) rfl ?_
  refine ev_br (b1 := false) rfl rfl (xcd_nge (x := u) (y := (1 <<< ((I 88 2) &&& 31))) (by first | exact b2 | omega)) ?_
  refine ev_go 2 (pc1 := 19) (lv1 := [.ref 86, .int u, .int q, xmk, xmk, xmk, xmk, xmk]) (st1 := [.int q, .ref 86]) (h1 := (124, I, J, R)) rfl ?_
  refine ev_call (v1 := (some (.int 0))) (h1 := (124, I, J, R)) rfl rfl c1 ?_
  refine ev_go 2 (pc1 := 27) (lv1 := [.ref 86, .int u, .int q, xmk, xmk, xmk, xmk, xmk]) (st1 := [.int (-2)]) (h1 := (124, I, J, R)) rfl ?_
  exact ev_ret rfl rfl
set_option maxRecDepth 20000 in
theorem zto_s {L : Nat} {xs : Nat → Int32} {d : Nat} {I : Nat → Nat → Int32} {J : Nat → Nat → Int64} {R : Nat → Nat → Nat} {I1 : Nat → Nat → Int32} {I2 : Nat → Nat → Int32} {u q n f : Int32} (hG : aGd R) (b1 : u.toInt ≥ 1) (b2 : u.toInt < (1 <<< ((I 88 2) &&& 31)).toInt) (c1 : xEv L xs d 167 0 [.ref 86, .int q] [] (124, I, J, R) (some (.int 1)) (124, I, J, R)) (c2 : xEv L xs d 200 0 [.ref 86, xmk, xmk] [] (124, I, J, R) (some (.int n)) (124, I, J, R)) (c3 : xEv L xs d 206 0 [.ref 86, xmk] [] (124, I, J, R) (some (.int f)) (124, I1, J, R)) (c4 : xEv L xs d 209 0 [.ref 86, .int f, .int u, .int q, xmk] [] (124, I1, J, R) (some (.int 1)) (124, I2, J, R)) : xEv L xs (d + 1) 208 0 [.ref 86, .int u, .int q, xmk, xmk, xmk, xmk, xmk] [] (124, I, J, R) (some (.int (-4))) (124, I2, J, R) := by
  refine ev_go 2 (pc1 := 2) (lv1 := [.ref 86, .int u, .int q, xmk, xmk, xmk, xmk, xmk]) (st1 := [.int 1, .int u]) (h1 := (124, I, J, R)) rfl ?_
  refine ev_br (b1 := false) rfl rfl (xcd_nlt (x := u) (y := 1) (by rw [show ((1 : Int32)).toInt = 1 from by decide]; first | exact b1 | omega)) ?_
  refine ev_go 3 (pc1 := 8) (lv1 := [.ref 86, .int u, .int q, xmk, xmk, xmk, xmk, xmk]) (st1 := [.ref 86, .int 1, .int u]) (h1 := (124, I, J, R)) rfl ?_
  refine ev_gf (c := 86) (t := 88) (X := R 86 12) rfl rfl (fun _ => rfl) rfl (hG 86 12 88 rfl rfl) ?_
  refine ev_go 2 (pc1 := 13) (lv1 := [.ref 86, .int u, .int q, xmk, xmk, xmk, xmk, xmk]) (st1 := [.int (I 88 2), .int 1, .int u]) (h1 := (124, I, J, R)) rfl ?_
  refine ev_go 1 (pc1 := 14) (lv1 := [.ref 86, .int u, .int q, xmk, xmk, xmk, xmk, xmk]) (st1 := [.int (1 <<< ((I 88 2) &&& 31)), .int u]) (h1 := (124, I, J, R)) rfl ?_
  refine ev_br (b1 := false) rfl rfl (xcd_nge (x := u) (y := (1 <<< ((I 88 2) &&& 31))) (by first | exact b2 | omega)) ?_
  refine ev_go 2 (pc1 := 19) (lv1 := [.ref 86, .int u, .int q, xmk, xmk, xmk, xmk, xmk]) (st1 := [.int q, .ref 86]) (h1 := (124, I, J, R)) rfl ?_
  refine ev_call (v1 := (some (.int 1))) (h1 := (124, I, J, R)) rfl rfl c1 ?_
  refine ev_go 2 (pc1 := 29) (lv1 := [.ref 86, .int u, .int q, xmk, xmk, xmk, xmk, xmk]) (st1 := [.ref 86]) (h1 := (124, I, J, R)) rfl ?_
  refine ev_call (v1 := (some (.int n))) (h1 := (124, I, J, R)) rfl rfl c2 ?_
  refine ev_go 2 (pc1 := 34) (lv1 := [.ref 86, .int u, .int q, .int n, xmk, xmk, xmk, xmk]) (st1 := [.ref 86]) (h1 := (124, I, J, R)) rfl ?_
  refine ev_call (v1 := (some (.int f))) (h1 := (124, I1, J, R)) rfl rfl c3 ?_
  refine ev_go 5 (pc1 := 44) (lv1 := [.ref 86, .int u, .int q, .int n, .int f, xmk, xmk, xmk]) (st1 := [.int q, .int u, .int f, .ref 86]) (h1 := (124, I1, J, R)) rfl ?_
  refine ev_call (v1 := (some (.int 1))) (h1 := (124, I2, J, R)) rfl rfl c4 ?_
  refine ev_go 2 (pc1 := 52) (lv1 := [.ref 86, .int u, .int q, .int n, .int f, xmk, xmk, xmk]) (st1 := [.int (-4)]) (h1 := (124, I2, J, R)) rfl ?_
  exact ev_ret rfl rfl
set_option maxRecDepth 20000 in
theorem zto_t {L : Nat} {xs : Nat → Int32} {d : Nat} {I : Nat → Nat → Int32} {J : Nat → Nat → Int64} {R : Nat → Nat → Nat} {I1 : Nat → Nat → Int32} {I2 : Nat → Nat → Int32} {u q n f : Int32} (hG : aGd R) (b1 : u.toInt ≥ 1) (b2 : u.toInt < (1 <<< ((I 88 2) &&& 31)).toInt) (c1 : xEv L xs d 167 0 [.ref 86, .int q] [] (124, I, J, R) (some (.int 1)) (124, I, J, R)) (c2 : xEv L xs d 200 0 [.ref 86, xmk, xmk] [] (124, I, J, R) (some (.int n)) (124, I, J, R)) (c3 : xEv L xs d 206 0 [.ref 86, xmk] [] (124, I, J, R) (some (.int f)) (124, I1, J, R)) (c4 : xEv L xs d 209 0 [.ref 86, .int f, .int u, .int q, xmk] [] (124, I1, J, R) (some (.int 0)) (124, I2, J, R)) {v : Option Value} {h' : xH} (hk : xEv L xs (d + 1) 208 61 [.ref 86, .int u, .int q, .int n, .int f, .int 0, xmk, xmk] [] (124, (uI I2 86 47 1), J, R) v h') : xEv L xs (d + 1) 208 0 [.ref 86, .int u, .int q, xmk, xmk, xmk, xmk, xmk] [] (124, I, J, R) v h' := by
  refine ev_go 2 (pc1 := 2) (lv1 := [.ref 86, .int u, .int q, xmk, xmk, xmk, xmk, xmk]) (st1 := [.int 1, .int u]) (h1 := (124, I, J, R)) rfl ?_
  refine ev_br (b1 := false) rfl rfl (xcd_nlt (x := u) (y := 1) (by rw [show ((1 : Int32)).toInt = 1 from by decide]; first | exact b1 | omega)) ?_
  refine ev_go 3 (pc1 := 8) (lv1 := [.ref 86, .int u, .int q, xmk, xmk, xmk, xmk, xmk]) (st1 := [.ref 86, .int 1, .int u]) (h1 := (124, I, J, R)) rfl ?_
  refine ev_gf (c := 86) (t := 88) (X := R 86 12) rfl rfl (fun _ => rfl) rfl (hG 86 12 88 rfl rfl) ?_
  refine ev_go 2 (pc1 := 13) (lv1 := [.ref 86, .int u, .int q, xmk, xmk, xmk, xmk, xmk]) (st1 := [.int (I 88 2), .int 1, .int u]) (h1 := (124, I, J, R)) rfl ?_
  refine ev_go 1 (pc1 := 14) (lv1 := [.ref 86, .int u, .int q, xmk, xmk, xmk, xmk, xmk]) (st1 := [.int (1 <<< ((I 88 2) &&& 31)), .int u]) (h1 := (124, I, J, R)) rfl ?_
  refine ev_br (b1 := false) rfl rfl (xcd_nge (x := u) (y := (1 <<< ((I 88 2) &&& 31))) (by first | exact b2 | omega)) ?_
  refine ev_go 2 (pc1 := 19) (lv1 := [.ref 86, .int u, .int q, xmk, xmk, xmk, xmk, xmk]) (st1 := [.int q, .ref 86]) (h1 := (124, I, J, R)) rfl ?_
  refine ev_call (v1 := (some (.int 1))) (h1 := (124, I, J, R)) rfl rfl c1 ?_
  refine ev_go 2 (pc1 := 29) (lv1 := [.ref 86, .int u, .int q, xmk, xmk, xmk, xmk, xmk]) (st1 := [.ref 86]) (h1 := (124, I, J, R)) rfl ?_
  refine ev_call (v1 := (some (.int n))) (h1 := (124, I, J, R)) rfl rfl c2 ?_
  refine ev_go 2 (pc1 := 34) (lv1 := [.ref 86, .int u, .int q, .int n, xmk, xmk, xmk, xmk]) (st1 := [.ref 86]) (h1 := (124, I, J, R)) rfl ?_
  refine ev_call (v1 := (some (.int f))) (h1 := (124, I1, J, R)) rfl rfl c3 ?_
  refine ev_go 5 (pc1 := 44) (lv1 := [.ref 86, .int u, .int q, .int n, .int f, xmk, xmk, xmk]) (st1 := [.int q, .int u, .int f, .ref 86]) (h1 := (124, I1, J, R)) rfl ?_
  refine ev_call (v1 := (some (.int 0))) (h1 := (124, I2, J, R)) rfl rfl c4 ?_
  refine ev_go 6 (pc1 := 61) (lv1 := [.ref 86, .int u, .int q, .int n, .int f, .int 0, xmk, xmk]) (st1 := []) (h1 := (124, (uI I2 86 47 1), J, R)) rfl ?_
  exact hk
set_option maxRecDepth 20000 in
theorem zto_1a {L : Nat} {xs : Nat → Int32} {d : Nat} {I : Nat → Nat → Int32} {J : Nat → Nat → Int64} {R : Nat → Nat → Nat} {u q n f x : Int32} (hG : aGd R) (b1 : x.toInt < n.toInt) (b2 : x.toInt = f.toInt) (n1 : 0 ≤ x.toInt) (m1 : x.toInt < 2401) {v : Option Value} {h' : xH} (hk : xEv L xs d 208 61 [.ref 86, .int u, .int q, .int n, .int f, .int (x + 1), xmk, xmk] [] (124, (uI I 112 x.toNatClampNeg (vp_nar .boolean 1)), J, R) v h') : xEv L xs d 208 61 [.ref 86, .int u, .int q, .int n, .int f, .int x, xmk, xmk] [] (124, I, J, R) v h' := by
  refine ev_go 2 (pc1 := 64) (lv1 := [.ref 86, .int u, .int q, .int n, .int f, .int x, xmk, xmk]) (st1 := [.int n, .int x]) (h1 := (124, I, J, R)) rfl ?_
  refine ev_br (b1 := false) rfl rfl (xcd_nge (x := x) (y := n) (by first | exact b1 | omega)) ?_
  refine ev_go 1 (pc1 := 68) (lv1 := [.ref 86, .int u, .int q, .int n, .int f, .int x, xmk, xmk]) (st1 := [.ref 86]) (h1 := (124, I, J, R)) rfl ?_
  refine ev_gf (c := 86) (t := 112) (X := R 86 43) rfl rfl (fun _ => rfl) rfl (hG 86 43 112 rfl rfl) ?_
  refine ev_go 3 (pc1 := 77) (lv1 := [.ref 86, .int u, .int q, .int n, .int f, .int x, xmk, xmk]) (st1 := [.int f, .int x, .int x, .ref 112]) (h1 := (124, I, J, R)) rfl ?_
  refine ev_br (b1 := false) rfl rfl (xcd_nne (x := x) (y := f) (by first | exact b2 | omega)) ?_
  refine ev_go 2 (pc1 := 85) (lv1 := [.ref 86, .int u, .int q, .int n, .int f, .int x, xmk, xmk]) (st1 := [.int 1, .int x, .ref 112]) (h1 := (124, I, J, R)) rfl ?_
  refine ev_bst (n := 2401) (t := .boolean) rfl rfl (fun _ => rfl) (fun _ => rfl) n1 m1 ?_
  refine ev_go 2 (pc1 := 61) (lv1 := [.ref 86, .int u, .int q, .int n, .int f, .int (x + 1), xmk, xmk]) (st1 := []) (h1 := (124, (uI I 112 x.toNatClampNeg (vp_nar .boolean 1)), J, R)) rfl ?_
  exact hk
set_option maxRecDepth 20000 in
theorem zto_1b {L : Nat} {xs : Nat → Int32} {d : Nat} {I : Nat → Nat → Int32} {J : Nat → Nat → Int64} {R : Nat → Nat → Nat} {u q n f x : Int32} (hG : aGd R) (b1 : x.toInt < n.toInt) (b2 : x.toInt ≠ f.toInt) (n1 : 0 ≤ x.toInt) (m1 : x.toInt < 2401) {v : Option Value} {h' : xH} (hk : xEv L xs d 208 61 [.ref 86, .int u, .int q, .int n, .int f, .int (x + 1), xmk, xmk] [] (124, (uI I 112 x.toNatClampNeg (vp_nar .boolean 0)), J, R) v h') : xEv L xs d 208 61 [.ref 86, .int u, .int q, .int n, .int f, .int x, xmk, xmk] [] (124, I, J, R) v h' := by
  refine ev_go 2 (pc1 := 64) (lv1 := [.ref 86, .int u, .int q, .int n, .int f, .int x, xmk, xmk]) (st1 := [.int n, .int x]) (h1 := (124, I, J, R)) rfl ?_
  refine ev_br (b1 := false) rfl rfl (xcd_nge (x := x) (y := n) (by first | exact b1 | omega)) ?_
  refine ev_go 1 (pc1 := 68) (lv1 := [.ref 86, .int u, .int q, .int n, .int f, .int x, xmk, xmk]) (st1 := [.ref 86]) (h1 := (124, I, J, R)) rfl ?_
  refine ev_gf (c := 86) (t := 112) (X := R 86 43) rfl rfl (fun _ => rfl) rfl (hG 86 43 112 rfl rfl) ?_
  refine ev_go 3 (pc1 := 77) (lv1 := [.ref 86, .int u, .int q, .int n, .int f, .int x, xmk, xmk]) (st1 := [.int f, .int x, .int x, .ref 112]) (h1 := (124, I, J, R)) rfl ?_
  refine ev_br (b1 := true) rfl rfl (xcd_ne (x := x) (y := f) (by first | exact b2 | omega)) ?_
  refine ev_go 1 (pc1 := 85) (lv1 := [.ref 86, .int u, .int q, .int n, .int f, .int x, xmk, xmk]) (st1 := [.int 0, .int x, .ref 112]) (h1 := (124, I, J, R)) rfl ?_
  refine ev_bst (n := 2401) (t := .boolean) rfl rfl (fun _ => rfl) (fun _ => rfl) n1 m1 ?_
  refine ev_go 2 (pc1 := 61) (lv1 := [.ref 86, .int u, .int q, .int n, .int f, .int (x + 1), xmk, xmk]) (st1 := []) (h1 := (124, (uI I 112 x.toNatClampNeg (vp_nar .boolean 0)), J, R)) rfl ?_
  exact hk
set_option maxRecDepth 20000 in
theorem zto_1e {L : Nat} {xs : Nat → Int32} {d : Nat} {I : Nat → Nat → Int32} {J : Nat → Nat → Int64} {R : Nat → Nat → Nat} {u q n f x : Int32} (hG : aGd R) (b1 : x.toInt ≥ n.toInt) {v : Option Value} {h' : xH} (hk : xEv L xs d 208 95 [.ref 86, .int u, .int q, .int n, .int f, .int 0, xmk, xmk] [] (124, I, J, R) v h') : xEv L xs d 208 61 [.ref 86, .int u, .int q, .int n, .int f, .int x, xmk, xmk] [] (124, I, J, R) v h' := by
  refine ev_go 2 (pc1 := 64) (lv1 := [.ref 86, .int u, .int q, .int n, .int f, .int x, xmk, xmk]) (st1 := [.int n, .int x]) (h1 := (124, I, J, R)) rfl ?_
  refine ev_br (b1 := true) rfl rfl (xcd_ge (x := x) (y := n) (by first | exact b1 | omega)) ?_
  refine ev_go 2 (pc1 := 95) (lv1 := [.ref 86, .int u, .int q, .int n, .int f, .int 0, xmk, xmk]) (st1 := []) (h1 := (124, I, J, R)) rfl ?_
  exact hk
set_option maxRecDepth 20000 in
theorem zto_x {L : Nat} {xs : Nat → Int32} {d : Nat} {I : Nat → Nat → Int32} {J : Nat → Nat → Int64} {R : Nat → Nat → Nat} {u q n f t : Int32} {w6 w7 : Value} (hG : aGd R) (b1 : t.toInt ≥ (I 86 26).toInt) : xEv L xs d 208 95 [.ref 86, .int u, .int q, .int n, .int f, .int t, w6, w7] [] (124, I, J, R) (some (.int (-1))) (124, I, J, R) := by
  refine ev_go 3 (pc1 := 101) (lv1 := [.ref 86, .int u, .int q, .int n, .int f, .int t, w6, w7]) (st1 := [.int (I 86 26), .int t]) (h1 := (124, I, J, R)) rfl ?_
  refine ev_br (b1 := true) rfl rfl (xcd_ge (x := t) (y := (I 86 26)) (by first | exact b1 | omega)) ?_
  refine ev_go 1 (pc1 := 248) (lv1 := [.ref 86, .int u, .int q, .int n, .int f, .int t, w6, w7]) (st1 := [.int (-1)]) (h1 := (124, I, J, R)) rfl ?_
  exact ev_ret rfl rfl
set_option maxRecDepth 20000 in
theorem zto_y {L : Nat} {xs : Nat → Int32} {d : Nat} {I : Nat → Nat → Int32} {J : Nat → Nat → Int64} {R : Nat → Nat → Nat} {u q n f t : Int32} {w6 w7 : Value} (hG : aGd R) (b1 : t.toInt < (I 86 26).toInt) {v : Option Value} {h' : xH} (hk : xEv L xs d 208 107 [.ref 86, .int u, .int q, .int n, .int f, .int t, .int 0, w7] [] (124, I, J, R) v h') : xEv L xs d 208 95 [.ref 86, .int u, .int q, .int n, .int f, .int t, w6, w7] [] (124, I, J, R) v h' := by
  refine ev_go 3 (pc1 := 101) (lv1 := [.ref 86, .int u, .int q, .int n, .int f, .int t, w6, w7]) (st1 := [.int (I 86 26), .int t]) (h1 := (124, I, J, R)) rfl ?_
  refine ev_br (b1 := false) rfl rfl (xcd_nge (x := t) (y := (I 86 26)) (by first | exact b1 | omega)) ?_
  refine ev_go 2 (pc1 := 107) (lv1 := [.ref 86, .int u, .int q, .int n, .int f, .int t, .int 0, w7]) (st1 := []) (h1 := (124, I, J, R)) rfl ?_
  exact hk
set_option maxRecDepth 20000 in
theorem zto_2y {L : Nat} {xs : Nat → Int32} {d : Nat} {I : Nat → Nat → Int32} {J : Nat → Nat → Int64} {R : Nat → Nat → Nat} {u q n f t x : Int32} {w7 : Value} (hG : aGd R) (b1 : x.toInt < n.toInt) (n1 : 0 ≤ x.toInt) (m1 : x.toInt < 2401) {v : Option Value} {h' : xH} (hk : xEv L xs d 208 107 [.ref 86, .int u, .int q, .int n, .int f, .int t, .int (x + 1), w7] [] (124, (uI I 113 x.toNatClampNeg (vp_nar .boolean 0)), J, R) v h') : xEv L xs d 208 107 [.ref 86, .int u, .int q, .int n, .int f, .int t, .int x, w7] [] (124, I, J, R) v h' := by
  refine ev_go 2 (pc1 := 110) (lv1 := [.ref 86, .int u, .int q, .int n, .int f, .int t, .int x, w7]) (st1 := [.int n, .int x]) (h1 := (124, I, J, R)) rfl ?_
  refine ev_br (b1 := false) rfl rfl (xcd_nge (x := x) (y := n) (by first | exact b1 | omega)) ?_
  refine ev_go 1 (pc1 := 114) (lv1 := [.ref 86, .int u, .int q, .int n, .int f, .int t, .int x, w7]) (st1 := [.ref 86]) (h1 := (124, I, J, R)) rfl ?_
  refine ev_gf (c := 86) (t := 113) (X := R 86 44) rfl rfl (fun _ => rfl) rfl (hG 86 44 113 rfl rfl) ?_
  refine ev_go 2 (pc1 := 120) (lv1 := [.ref 86, .int u, .int q, .int n, .int f, .int t, .int x, w7]) (st1 := [.int 0, .int x, .ref 113]) (h1 := (124, I, J, R)) rfl ?_
  refine ev_bst (n := 2401) (t := .boolean) rfl rfl (fun _ => rfl) (fun _ => rfl) n1 m1 ?_
  refine ev_go 2 (pc1 := 107) (lv1 := [.ref 86, .int u, .int q, .int n, .int f, .int t, .int (x + 1), w7]) (st1 := []) (h1 := (124, (uI I 113 x.toNatClampNeg (vp_nar .boolean 0)), J, R)) rfl ?_
  exact hk
set_option maxRecDepth 20000 in
theorem zto_2e {L : Nat} {xs : Nat → Int32} {d : Nat} {I : Nat → Nat → Int32} {J : Nat → Nat → Int64} {R : Nat → Nat → Nat} {u q n f t x : Int32} {w7 : Value} (hG : aGd R) (b1 : x.toInt ≥ n.toInt) {v : Option Value} {h' : xH} (hk : xEv L xs d 208 130 [.ref 86, .int u, .int q, .int n, .int f, .int t, .int 0, w7] [] (124, I, J, R) v h') : xEv L xs d 208 107 [.ref 86, .int u, .int q, .int n, .int f, .int t, .int x, w7] [] (124, I, J, R) v h' := by
  refine ev_go 2 (pc1 := 110) (lv1 := [.ref 86, .int u, .int q, .int n, .int f, .int t, .int x, w7]) (st1 := [.int n, .int x]) (h1 := (124, I, J, R)) rfl ?_
  refine ev_br (b1 := true) rfl rfl (xcd_ge (x := x) (y := n) (by first | exact b1 | omega)) ?_
  refine ev_go 2 (pc1 := 130) (lv1 := [.ref 86, .int u, .int q, .int n, .int f, .int t, .int 0, w7]) (st1 := []) (h1 := (124, I, J, R)) rfl ?_
  exact hk
set_option maxRecDepth 20000 in
theorem zto_3n {L : Nat} {xs : Nat → Int32} {d : Nat} {I : Nat → Nat → Int32} {J : Nat → Nat → Int64} {R : Nat → Nat → Nat} {u q n f t x : Int32} {w7 : Value} (hG : aGd R) (b1 : x.toInt < n.toInt) (n1 : 0 ≤ x.toInt) (m1 : x.toInt < 2401) (b2 : (I 112 x.toNatClampNeg).toInt = 0) {v : Option Value} {h' : xH} (hk : xEv L xs d 208 130 [.ref 86, .int u, .int q, .int n, .int f, .int t, .int (x + 1), w7] [] (124, I, J, R) v h') : xEv L xs d 208 130 [.ref 86, .int u, .int q, .int n, .int f, .int t, .int x, w7] [] (124, I, J, R) v h' := by
  refine ev_go 2 (pc1 := 133) (lv1 := [.ref 86, .int u, .int q, .int n, .int f, .int t, .int x, w7]) (st1 := [.int n, .int x]) (h1 := (124, I, J, R)) rfl ?_
  refine ev_br (b1 := false) rfl rfl (xcd_nge (x := x) (y := n) (by first | exact b1 | omega)) ?_
  refine ev_go 1 (pc1 := 137) (lv1 := [.ref 86, .int u, .int q, .int n, .int f, .int t, .int x, w7]) (st1 := [.ref 86]) (h1 := (124, I, J, R)) rfl ?_
  refine ev_gf (c := 86) (t := 112) (X := R 86 43) rfl rfl (fun _ => rfl) rfl (hG 86 43 112 rfl rfl) ?_
  refine ev_go 1 (pc1 := 142) (lv1 := [.ref 86, .int u, .int q, .int n, .int f, .int t, .int x, w7]) (st1 := [.int x, .ref 112]) (h1 := (124, I, J, R)) rfl ?_
  refine ev_bld (n := 2401) (t := .boolean) rfl rfl (fun _ => rfl) rfl n1 m1 ?_
  refine ev_br (b1 := false) rfl rfl (xcd_nne (x := (I 112 x.toNatClampNeg)) (y := 0) (by rw [show ((0 : Int32)).toInt = 0 from by decide]; first | exact b2 | omega)) ?_
  refine ev_go 3 (pc1 := 130) (lv1 := [.ref 86, .int u, .int q, .int n, .int f, .int t, .int (x + 1), w7]) (st1 := []) (h1 := (124, I, J, R)) rfl ?_
  exact hk
set_option maxRecDepth 20000 in
theorem zto_3y {L : Nat} {xs : Nat → Int32} {d : Nat} {I : Nat → Nat → Int32} {J : Nat → Nat → Int64} {R : Nat → Nat → Nat} {I1 : Nat → Nat → Int32} {I2 : Nat → Nat → Int32} {u q n f t x : Int32} {w7 : Value} (hG : aGd R) (b1 : x.toInt < n.toInt) (n1 : 0 ≤ x.toInt) (m1 : x.toInt < 2401) (b2 : (I 112 x.toNatClampNeg).toInt ≠ 0) (c1 : xEv L xs d 201 0 [.ref 86, .int x, xmk, xmk] [] (124, I, J, R) none (124, I1, J, R)) (c2 : xEv L xs d 202 0 [.ref 86, .int t, .int 0, xmk, xmk, xmk, xmk] [] (124, I1, J, R) none (124, I2, J, R)) {v : Option Value} {h' : xH} (hk : xEv L xs (d + 1) 208 130 [.ref 86, .int u, .int q, .int n, .int f, .int t, .int (x + 1), w7] [] (124, I2, J, R) v h') : xEv L xs (d + 1) 208 130 [.ref 86, .int u, .int q, .int n, .int f, .int t, .int x, w7] [] (124, I, J, R) v h' := by
  refine ev_go 2 (pc1 := 133) (lv1 := [.ref 86, .int u, .int q, .int n, .int f, .int t, .int x, w7]) (st1 := [.int n, .int x]) (h1 := (124, I, J, R)) rfl ?_
  refine ev_br (b1 := false) rfl rfl (xcd_nge (x := x) (y := n) (by first | exact b1 | omega)) ?_
  refine ev_go 1 (pc1 := 137) (lv1 := [.ref 86, .int u, .int q, .int n, .int f, .int t, .int x, w7]) (st1 := [.ref 86]) (h1 := (124, I, J, R)) rfl ?_
  refine ev_gf (c := 86) (t := 112) (X := R 86 43) rfl rfl (fun _ => rfl) rfl (hG 86 43 112 rfl rfl) ?_
  refine ev_go 1 (pc1 := 142) (lv1 := [.ref 86, .int u, .int q, .int n, .int f, .int t, .int x, w7]) (st1 := [.int x, .ref 112]) (h1 := (124, I, J, R)) rfl ?_
  refine ev_bld (n := 2401) (t := .boolean) rfl rfl (fun _ => rfl) rfl n1 m1 ?_
  refine ev_br (b1 := true) rfl rfl (xcd_ne (x := (I 112 x.toNatClampNeg)) (y := 0) (by rw [show ((0 : Int32)).toInt = 0 from by decide]; first | exact b2 | omega)) ?_
  refine ev_go 2 (pc1 := 152) (lv1 := [.ref 86, .int u, .int q, .int n, .int f, .int t, .int x, w7]) (st1 := [.int x, .ref 86]) (h1 := (124, I, J, R)) rfl ?_
  refine ev_call (v1 := none) (h1 := (124, I1, J, R)) rfl rfl c1 ?_
  refine ev_go 3 (pc1 := 159) (lv1 := [.ref 86, .int u, .int q, .int n, .int f, .int t, .int x, w7]) (st1 := [.int 0, .int t, .ref 86]) (h1 := (124, I1, J, R)) rfl ?_
  refine ev_call (v1 := none) (h1 := (124, I2, J, R)) rfl rfl c2 ?_
  refine ev_go 2 (pc1 := 130) (lv1 := [.ref 86, .int u, .int q, .int n, .int f, .int t, .int (x + 1), w7]) (st1 := []) (h1 := (124, I2, J, R)) rfl ?_
  exact hk
set_option maxRecDepth 20000 in
theorem zto_3e {L : Nat} {xs : Nat → Int32} {d : Nat} {I : Nat → Nat → Int32} {J : Nat → Nat → Int64} {R : Nat → Nat → Nat} {u q n f t x : Int32} {w7 : Value} (hG : aGd R) (b1 : x.toInt ≥ n.toInt) {v : Option Value} {h' : xH} (hk : xEv L xs d 208 174 [.ref 86, .int u, .int q, .int n, .int f, .int t, .int 0, .int 0] [] (124, I, J, R) v h') : xEv L xs d 208 130 [.ref 86, .int u, .int q, .int n, .int f, .int t, .int x, w7] [] (124, I, J, R) v h' := by
  refine ev_go 2 (pc1 := 133) (lv1 := [.ref 86, .int u, .int q, .int n, .int f, .int t, .int x, w7]) (st1 := [.int n, .int x]) (h1 := (124, I, J, R)) rfl ?_
  refine ev_br (b1 := true) rfl rfl (xcd_ge (x := x) (y := n) (by first | exact b1 | omega)) ?_
  refine ev_go 4 (pc1 := 174) (lv1 := [.ref 86, .int u, .int q, .int n, .int f, .int t, .int 0, .int 0]) (st1 := []) (h1 := (124, I, J, R)) rfl ?_
  exact hk
set_option maxRecDepth 20000 in
theorem zto_4f {L : Nat} {xs : Nat → Int32} {d : Nat} {I : Nat → Nat → Int32} {J : Nat → Nat → Int64} {R : Nat → Nat → Nat} {u q n f t o x : Int32} (hG : aGd R) (b1 : x.toInt < n.toInt) (n1 : 0 ≤ x.toInt) (m1 : x.toInt < 2401) (n2 : 0 ≤ x.toInt) (m2 : x.toInt < 2401) (b2 : o.toInt ≠ 0) {v : Option Value} {h' : xH} (hk : xEv L xs d 208 174 [.ref 86, .int u, .int q, .int n, .int f, .int t, .int 1, .int (x + 1)] [] (124, (uI I 112 x.toNatClampNeg (vp_nar .boolean (I 113 x.toNatClampNeg))), J, R) v h') : xEv L xs d 208 174 [.ref 86, .int u, .int q, .int n, .int f, .int t, .int o, .int x] [] (124, I, J, R) v h' := by
  refine ev_go 2 (pc1 := 177) (lv1 := [.ref 86, .int u, .int q, .int n, .int f, .int t, .int o, .int x]) (st1 := [.int n, .int x]) (h1 := (124, I, J, R)) rfl ?_
  refine ev_br (b1 := false) rfl rfl (xcd_nge (x := x) (y := n) (by first | exact b1 | omega)) ?_
  refine ev_go 1 (pc1 := 181) (lv1 := [.ref 86, .int u, .int q, .int n, .int f, .int t, .int o, .int x]) (st1 := [.ref 86]) (h1 := (124, I, J, R)) rfl ?_
  refine ev_gf (c := 86) (t := 112) (X := R 86 43) rfl rfl (fun _ => rfl) rfl (hG 86 43 112 rfl rfl) ?_
  refine ev_go 2 (pc1 := 187) (lv1 := [.ref 86, .int u, .int q, .int n, .int f, .int t, .int o, .int x]) (st1 := [.ref 86, .int x, .ref 112]) (h1 := (124, I, J, R)) rfl ?_
  refine ev_gf (c := 86) (t := 113) (X := R 86 44) rfl rfl (fun _ => rfl) rfl (hG 86 44 113 rfl rfl) ?_
  refine ev_go 1 (pc1 := 192) (lv1 := [.ref 86, .int u, .int q, .int n, .int f, .int t, .int o, .int x]) (st1 := [.int x, .ref 113, .int x, .ref 112]) (h1 := (124, I, J, R)) rfl ?_
  refine ev_bld (n := 2401) (t := .boolean) rfl rfl (fun _ => rfl) rfl n1 m1 ?_
  refine ev_bst (n := 2401) (t := .boolean) rfl rfl (fun _ => rfl) (fun _ => rfl) n2 m2 ?_
  refine ev_go 1 (pc1 := 196) (lv1 := [.ref 86, .int u, .int q, .int n, .int f, .int t, .int o, .int x]) (st1 := [.int o]) (h1 := (124, (uI I 112 x.toNatClampNeg (vp_nar .boolean (I 113 x.toNatClampNeg))), J, R)) rfl ?_
  refine ev_br (b1 := true) rfl rfl (xcd_ne (x := o) (y := 0) (by rw [show ((0 : Int32)).toInt = 0 from by decide]; first | exact b2 | omega)) ?_
  refine ev_go 5 (pc1 := 174) (lv1 := [.ref 86, .int u, .int q, .int n, .int f, .int t, .int 1, .int (x + 1)]) (st1 := []) (h1 := (124, (uI I 112 x.toNatClampNeg (vp_nar .boolean (I 113 x.toNatClampNeg))), J, R)) rfl ?_
  exact hk
set_option maxRecDepth 20000 in
theorem zto_4r {L : Nat} {xs : Nat → Int32} {d : Nat} {I : Nat → Nat → Int32} {J : Nat → Nat → Int64} {R : Nat → Nat → Nat} {u q n f t o x : Int32} (hG : aGd R) (b1 : x.toInt < n.toInt) (n1 : 0 ≤ x.toInt) (m1 : x.toInt < 2401) (n2 : 0 ≤ x.toInt) (m2 : x.toInt < 2401) (b2 : o.toInt = 0) (n3 : 0 ≤ x.toInt) (m3 : x.toInt < 2401) (b3 : ((uI I 112 x.toNatClampNeg (vp_nar .boolean (I 113 x.toNatClampNeg))) 112 x.toNatClampNeg).toInt = 0) {v : Option Value} {h' : xH} (hk : xEv L xs d 208 174 [.ref 86, .int u, .int q, .int n, .int f, .int t, .int 0, .int (x + 1)] [] (124, (uI I 112 x.toNatClampNeg (vp_nar .boolean (I 113 x.toNatClampNeg))), J, R) v h') : xEv L xs d 208 174 [.ref 86, .int u, .int q, .int n, .int f, .int t, .int o, .int x] [] (124, I, J, R) v h' := by
  refine ev_go 2 (pc1 := 177) (lv1 := [.ref 86, .int u, .int q, .int n, .int f, .int t, .int o, .int x]) (st1 := [.int n, .int x]) (h1 := (124, I, J, R)) rfl ?_
  refine ev_br (b1 := false) rfl rfl (xcd_nge (x := x) (y := n) (by first | exact b1 | omega)) ?_
  refine ev_go 1 (pc1 := 181) (lv1 := [.ref 86, .int u, .int q, .int n, .int f, .int t, .int o, .int x]) (st1 := [.ref 86]) (h1 := (124, I, J, R)) rfl ?_
  refine ev_gf (c := 86) (t := 112) (X := R 86 43) rfl rfl (fun _ => rfl) rfl (hG 86 43 112 rfl rfl) ?_
  refine ev_go 2 (pc1 := 187) (lv1 := [.ref 86, .int u, .int q, .int n, .int f, .int t, .int o, .int x]) (st1 := [.ref 86, .int x, .ref 112]) (h1 := (124, I, J, R)) rfl ?_
  refine ev_gf (c := 86) (t := 113) (X := R 86 44) rfl rfl (fun _ => rfl) rfl (hG 86 44 113 rfl rfl) ?_
  refine ev_go 1 (pc1 := 192) (lv1 := [.ref 86, .int u, .int q, .int n, .int f, .int t, .int o, .int x]) (st1 := [.int x, .ref 113, .int x, .ref 112]) (h1 := (124, I, J, R)) rfl ?_
  refine ev_bld (n := 2401) (t := .boolean) rfl rfl (fun _ => rfl) rfl n1 m1 ?_
  refine ev_bst (n := 2401) (t := .boolean) rfl rfl (fun _ => rfl) (fun _ => rfl) n2 m2 ?_
  refine ev_go 1 (pc1 := 196) (lv1 := [.ref 86, .int u, .int q, .int n, .int f, .int t, .int o, .int x]) (st1 := [.int o]) (h1 := (124, (uI I 112 x.toNatClampNeg (vp_nar .boolean (I 113 x.toNatClampNeg))), J, R)) rfl ?_
  refine ev_br (b1 := false) rfl rfl (xcd_nne (x := o) (y := 0) (by rw [show ((0 : Int32)).toInt = 0 from by decide]; first | exact b2 | omega)) ?_
  refine ev_go 1 (pc1 := 200) (lv1 := [.ref 86, .int u, .int q, .int n, .int f, .int t, .int o, .int x]) (st1 := [.ref 86]) (h1 := (124, (uI I 112 x.toNatClampNeg (vp_nar .boolean (I 113 x.toNatClampNeg))), J, R)) rfl ?_
  refine ev_gf (c := 86) (t := 112) (X := R 86 43) rfl rfl (fun _ => rfl) rfl (hG 86 43 112 rfl rfl) ?_
  refine ev_go 1 (pc1 := 205) (lv1 := [.ref 86, .int u, .int q, .int n, .int f, .int t, .int o, .int x]) (st1 := [.int x, .ref 112]) (h1 := (124, (uI I 112 x.toNatClampNeg (vp_nar .boolean (I 113 x.toNatClampNeg))), J, R)) rfl ?_
  refine ev_bld (n := 2401) (t := .boolean) rfl rfl (fun _ => rfl) rfl n3 m3 ?_
  refine ev_br (b1 := true) rfl rfl (xcd_eq (x := ((uI I 112 x.toNatClampNeg (vp_nar .boolean (I 113 x.toNatClampNeg))) 112 x.toNatClampNeg)) (y := 0) (by rw [show ((0 : Int32)).toInt = 0 from by decide]; first | exact b3 | omega)) ?_
  refine ev_go 4 (pc1 := 174) (lv1 := [.ref 86, .int u, .int q, .int n, .int f, .int t, .int 0, .int (x + 1)]) (st1 := []) (h1 := (124, (uI I 112 x.toNatClampNeg (vp_nar .boolean (I 113 x.toNatClampNeg))), J, R)) rfl ?_
  exact hk
set_option maxRecDepth 20000 in
theorem zto_4n {L : Nat} {xs : Nat → Int32} {d : Nat} {I : Nat → Nat → Int32} {J : Nat → Nat → Int64} {R : Nat → Nat → Nat} {I1 : Nat → Nat → Int32} {u q n f t o x : Int32} (hG : aGd R) (b1 : x.toInt < n.toInt) (n1 : 0 ≤ x.toInt) (m1 : x.toInt < 2401) (n2 : 0 ≤ x.toInt) (m2 : x.toInt < 2401) (b2 : o.toInt = 0) (n3 : 0 ≤ x.toInt) (m3 : x.toInt < 2401) (b3 : ((uI I 112 x.toNatClampNeg (vp_nar .boolean (I 113 x.toNatClampNeg))) 112 x.toNatClampNeg).toInt ≠ 0) (c1 : xEv L xs d 209 0 [.ref 86, .int x, .int u, .int q, xmk] [] (124, (uI I 112 x.toNatClampNeg (vp_nar .boolean (I 113 x.toNatClampNeg))), J, R) (some (.int 0)) (124, I1, J, R)) {v : Option Value} {h' : xH} (hk : xEv L xs (d + 1) 208 174 [.ref 86, .int u, .int q, .int n, .int f, .int t, .int 0, .int (x + 1)] [] (124, I1, J, R) v h') : xEv L xs (d + 1) 208 174 [.ref 86, .int u, .int q, .int n, .int f, .int t, .int o, .int x] [] (124, I, J, R) v h' := by
  refine ev_go 2 (pc1 := 177) (lv1 := [.ref 86, .int u, .int q, .int n, .int f, .int t, .int o, .int x]) (st1 := [.int n, .int x]) (h1 := (124, I, J, R)) rfl ?_
  refine ev_br (b1 := false) rfl rfl (xcd_nge (x := x) (y := n) (by first | exact b1 | omega)) ?_
  refine ev_go 1 (pc1 := 181) (lv1 := [.ref 86, .int u, .int q, .int n, .int f, .int t, .int o, .int x]) (st1 := [.ref 86]) (h1 := (124, I, J, R)) rfl ?_
  refine ev_gf (c := 86) (t := 112) (X := R 86 43) rfl rfl (fun _ => rfl) rfl (hG 86 43 112 rfl rfl) ?_
  refine ev_go 2 (pc1 := 187) (lv1 := [.ref 86, .int u, .int q, .int n, .int f, .int t, .int o, .int x]) (st1 := [.ref 86, .int x, .ref 112]) (h1 := (124, I, J, R)) rfl ?_
  refine ev_gf (c := 86) (t := 113) (X := R 86 44) rfl rfl (fun _ => rfl) rfl (hG 86 44 113 rfl rfl) ?_
  refine ev_go 1 (pc1 := 192) (lv1 := [.ref 86, .int u, .int q, .int n, .int f, .int t, .int o, .int x]) (st1 := [.int x, .ref 113, .int x, .ref 112]) (h1 := (124, I, J, R)) rfl ?_
  refine ev_bld (n := 2401) (t := .boolean) rfl rfl (fun _ => rfl) rfl n1 m1 ?_
  refine ev_bst (n := 2401) (t := .boolean) rfl rfl (fun _ => rfl) (fun _ => rfl) n2 m2 ?_
  refine ev_go 1 (pc1 := 196) (lv1 := [.ref 86, .int u, .int q, .int n, .int f, .int t, .int o, .int x]) (st1 := [.int o]) (h1 := (124, (uI I 112 x.toNatClampNeg (vp_nar .boolean (I 113 x.toNatClampNeg))), J, R)) rfl ?_
  refine ev_br (b1 := false) rfl rfl (xcd_nne (x := o) (y := 0) (by rw [show ((0 : Int32)).toInt = 0 from by decide]; first | exact b2 | omega)) ?_
  refine ev_go 1 (pc1 := 200) (lv1 := [.ref 86, .int u, .int q, .int n, .int f, .int t, .int o, .int x]) (st1 := [.ref 86]) (h1 := (124, (uI I 112 x.toNatClampNeg (vp_nar .boolean (I 113 x.toNatClampNeg))), J, R)) rfl ?_
  refine ev_gf (c := 86) (t := 112) (X := R 86 43) rfl rfl (fun _ => rfl) rfl (hG 86 43 112 rfl rfl) ?_
  refine ev_go 1 (pc1 := 205) (lv1 := [.ref 86, .int u, .int q, .int n, .int f, .int t, .int o, .int x]) (st1 := [.int x, .ref 112]) (h1 := (124, (uI I 112 x.toNatClampNeg (vp_nar .boolean (I 113 x.toNatClampNeg))), J, R)) rfl ?_
  refine ev_bld (n := 2401) (t := .boolean) rfl rfl (fun _ => rfl) rfl n3 m3 ?_
  refine ev_br (b1 := false) rfl rfl (xcd_neq (x := ((uI I 112 x.toNatClampNeg (vp_nar .boolean (I 113 x.toNatClampNeg))) 112 x.toNatClampNeg)) (y := 0) (by rw [show ((0 : Int32)).toInt = 0 from by decide]; first | exact b3 | omega)) ?_
  refine ev_go 4 (pc1 := 214) (lv1 := [.ref 86, .int u, .int q, .int n, .int f, .int t, .int o, .int x]) (st1 := [.int q, .int u, .int x, .ref 86]) (h1 := (124, (uI I 112 x.toNatClampNeg (vp_nar .boolean (I 113 x.toNatClampNeg))), J, R)) rfl ?_
  refine ev_call (v1 := (some (.int 0))) (h1 := (124, I1, J, R)) rfl rfl c1 ?_
  refine ev_go 5 (pc1 := 174) (lv1 := [.ref 86, .int u, .int q, .int n, .int f, .int t, .int 0, .int (x + 1)]) (st1 := []) (h1 := (124, I1, J, R)) rfl ?_
  exact hk
set_option maxRecDepth 20000 in
theorem zto_4y {L : Nat} {xs : Nat → Int32} {d : Nat} {I : Nat → Nat → Int32} {J : Nat → Nat → Int64} {R : Nat → Nat → Nat} {I1 : Nat → Nat → Int32} {u q n f t o x : Int32} (hG : aGd R) (b1 : x.toInt < n.toInt) (n1 : 0 ≤ x.toInt) (m1 : x.toInt < 2401) (n2 : 0 ≤ x.toInt) (m2 : x.toInt < 2401) (b2 : o.toInt = 0) (n3 : 0 ≤ x.toInt) (m3 : x.toInt < 2401) (b3 : ((uI I 112 x.toNatClampNeg (vp_nar .boolean (I 113 x.toNatClampNeg))) 112 x.toNatClampNeg).toInt ≠ 0) (c1 : xEv L xs d 209 0 [.ref 86, .int x, .int u, .int q, xmk] [] (124, (uI I 112 x.toNatClampNeg (vp_nar .boolean (I 113 x.toNatClampNeg))), J, R) (some (.int 1)) (124, I1, J, R)) {v : Option Value} {h' : xH} (hk : xEv L xs (d + 1) 208 174 [.ref 86, .int u, .int q, .int n, .int f, .int t, .int 1, .int (x + 1)] [] (124, I1, J, R) v h') : xEv L xs (d + 1) 208 174 [.ref 86, .int u, .int q, .int n, .int f, .int t, .int o, .int x] [] (124, I, J, R) v h' := by
  refine ev_go 2 (pc1 := 177) (lv1 := [.ref 86, .int u, .int q, .int n, .int f, .int t, .int o, .int x]) (st1 := [.int n, .int x]) (h1 := (124, I, J, R)) rfl ?_
  refine ev_br (b1 := false) rfl rfl (xcd_nge (x := x) (y := n) (by first | exact b1 | omega)) ?_
  refine ev_go 1 (pc1 := 181) (lv1 := [.ref 86, .int u, .int q, .int n, .int f, .int t, .int o, .int x]) (st1 := [.ref 86]) (h1 := (124, I, J, R)) rfl ?_
  refine ev_gf (c := 86) (t := 112) (X := R 86 43) rfl rfl (fun _ => rfl) rfl (hG 86 43 112 rfl rfl) ?_
  refine ev_go 2 (pc1 := 187) (lv1 := [.ref 86, .int u, .int q, .int n, .int f, .int t, .int o, .int x]) (st1 := [.ref 86, .int x, .ref 112]) (h1 := (124, I, J, R)) rfl ?_
  refine ev_gf (c := 86) (t := 113) (X := R 86 44) rfl rfl (fun _ => rfl) rfl (hG 86 44 113 rfl rfl) ?_
  refine ev_go 1 (pc1 := 192) (lv1 := [.ref 86, .int u, .int q, .int n, .int f, .int t, .int o, .int x]) (st1 := [.int x, .ref 113, .int x, .ref 112]) (h1 := (124, I, J, R)) rfl ?_
  refine ev_bld (n := 2401) (t := .boolean) rfl rfl (fun _ => rfl) rfl n1 m1 ?_
  refine ev_bst (n := 2401) (t := .boolean) rfl rfl (fun _ => rfl) (fun _ => rfl) n2 m2 ?_
  refine ev_go 1 (pc1 := 196) (lv1 := [.ref 86, .int u, .int q, .int n, .int f, .int t, .int o, .int x]) (st1 := [.int o]) (h1 := (124, (uI I 112 x.toNatClampNeg (vp_nar .boolean (I 113 x.toNatClampNeg))), J, R)) rfl ?_
  refine ev_br (b1 := false) rfl rfl (xcd_nne (x := o) (y := 0) (by rw [show ((0 : Int32)).toInt = 0 from by decide]; first | exact b2 | omega)) ?_
  refine ev_go 1 (pc1 := 200) (lv1 := [.ref 86, .int u, .int q, .int n, .int f, .int t, .int o, .int x]) (st1 := [.ref 86]) (h1 := (124, (uI I 112 x.toNatClampNeg (vp_nar .boolean (I 113 x.toNatClampNeg))), J, R)) rfl ?_
  refine ev_gf (c := 86) (t := 112) (X := R 86 43) rfl rfl (fun _ => rfl) rfl (hG 86 43 112 rfl rfl) ?_
  refine ev_go 1 (pc1 := 205) (lv1 := [.ref 86, .int u, .int q, .int n, .int f, .int t, .int o, .int x]) (st1 := [.int x, .ref 112]) (h1 := (124, (uI I 112 x.toNatClampNeg (vp_nar .boolean (I 113 x.toNatClampNeg))), J, R)) rfl ?_
  refine ev_bld (n := 2401) (t := .boolean) rfl rfl (fun _ => rfl) rfl n3 m3 ?_
  refine ev_br (b1 := false) rfl rfl (xcd_neq (x := ((uI I 112 x.toNatClampNeg (vp_nar .boolean (I 113 x.toNatClampNeg))) 112 x.toNatClampNeg)) (y := 0) (by rw [show ((0 : Int32)).toInt = 0 from by decide]; first | exact b3 | omega)) ?_
  refine ev_go 4 (pc1 := 214) (lv1 := [.ref 86, .int u, .int q, .int n, .int f, .int t, .int o, .int x]) (st1 := [.int q, .int u, .int x, .ref 86]) (h1 := (124, (uI I 112 x.toNatClampNeg (vp_nar .boolean (I 113 x.toNatClampNeg))), J, R)) rfl ?_
  refine ev_call (v1 := (some (.int 1))) (h1 := (124, I1, J, R)) rfl rfl c1 ?_
  refine ev_go 6 (pc1 := 174) (lv1 := [.ref 86, .int u, .int q, .int n, .int f, .int t, .int 1, .int (x + 1)]) (st1 := []) (h1 := (124, I1, J, R)) rfl ?_
  exact hk
set_option maxRecDepth 20000 in
theorem zto_4e {L : Nat} {xs : Nat → Int32} {d : Nat} {I : Nat → Nat → Int32} {J : Nat → Nat → Int64} {R : Nat → Nat → Nat} {u q n f t o x : Int32} (hG : aGd R) (b1 : x.toInt ≥ n.toInt) (b2 : o.toInt = 0) {v : Option Value} {h' : xH} (hk : xEv L xs d 208 95 [.ref 86, .int u, .int q, .int n, .int f, .int (t + 1), .int o, .int x] [] (124, I, J, R) v h') : xEv L xs d 208 174 [.ref 86, .int u, .int q, .int n, .int f, .int t, .int o, .int x] [] (124, I, J, R) v h' := by
  refine ev_go 2 (pc1 := 177) (lv1 := [.ref 86, .int u, .int q, .int n, .int f, .int t, .int o, .int x]) (st1 := [.int n, .int x]) (h1 := (124, I, J, R)) rfl ?_
  refine ev_br (b1 := true) rfl rfl (xcd_ge (x := x) (y := n) (by first | exact b1 | omega)) ?_
  refine ev_go 1 (pc1 := 235) (lv1 := [.ref 86, .int u, .int q, .int n, .int f, .int t, .int o, .int x]) (st1 := [.int o]) (h1 := (124, I, J, R)) rfl ?_
  refine ev_br (b1 := true) rfl rfl (xcd_eq (x := o) (y := 0) (by rw [show ((0 : Int32)).toInt = 0 from by decide]; first | exact b2 | omega)) ?_
  refine ev_go 2 (pc1 := 95) (lv1 := [.ref 86, .int u, .int q, .int n, .int f, .int (t + 1), .int o, .int x]) (st1 := []) (h1 := (124, I, J, R)) rfl ?_
  exact hk
set_option maxRecDepth 20000 in
theorem zto_4z {L : Nat} {xs : Nat → Int32} {d : Nat} {I : Nat → Nat → Int32} {J : Nat → Nat → Int64} {R : Nat → Nat → Nat} {u q n f t o x : Int32} (hG : aGd R) (b1 : x.toInt ≥ n.toInt) (b2 : o.toInt ≠ 0) : xEv L xs d 208 174 [.ref 86, .int u, .int q, .int n, .int f, .int t, .int o, .int x] [] (124, I, J, R) (some (.int t)) (124, I, J, R) := by
  refine ev_go 2 (pc1 := 177) (lv1 := [.ref 86, .int u, .int q, .int n, .int f, .int t, .int o, .int x]) (st1 := [.int n, .int x]) (h1 := (124, I, J, R)) rfl ?_
  refine ev_br (b1 := true) rfl rfl (xcd_ge (x := x) (y := n) (by first | exact b1 | omega)) ?_
  refine ev_go 1 (pc1 := 235) (lv1 := [.ref 86, .int u, .int q, .int n, .int f, .int t, .int o, .int x]) (st1 := [.int o]) (h1 := (124, I, J, R)) rfl ?_
  refine ev_br (b1 := false) rfl rfl (xcd_neq (x := o) (y := 0) (by rw [show ((0 : Int32)).toInt = 0 from by decide]; first | exact b2 | omega)) ?_
  refine ev_go 1 (pc1 := 240) (lv1 := [.ref 86, .int u, .int q, .int n, .int f, .int t, .int o, .int x]) (st1 := [.int t]) (h1 := (124, I, J, R)) rfl ?_
  exact ev_ret rfl rfl
set_option maxRecDepth 20000 in
theorem zap_s {L : Nat} {xs : Nat → Int32} {d : Nat} {I : Nat → Nat → Int32} {J : Nat → Nat → Int64} {R : Nat → Nat → Nat} (hG : aGd R)  {v : Option Value} {h' : xH} (hk : xEv L xs d 207 4 [.ref 86, .int 0, .int 0] [] (124, I, J, R) v h') : xEv L xs d 207 0 [.ref 86, xmk, xmk] [] (124, I, J, R) v h' := by
  refine ev_go 4 (pc1 := 4) (lv1 := [.ref 86, .int 0, .int 0]) (st1 := []) (h1 := (124, I, J, R)) rfl ?_
  exact hk
set_option maxRecDepth 20000 in
theorem zap_e {L : Nat} {xs : Nat → Int32} {d : Nat} {I : Nat → Nat → Int32} {J : Nat → Nat → Int64} {R : Nat → Nat → Nat} {a n : Int32} (hG : aGd R) (b1 : n.toInt ≥ (I 88 2).toInt) : xEv L xs d 207 4 [.ref 86, .int a, .int n] [] (124, I, J, R) (some (.int a)) (124, I, J, R) := by
  refine ev_go 2 (pc1 := 6) (lv1 := [.ref 86, .int a, .int n]) (st1 := [.ref 86, .int n]) (h1 := (124, I, J, R)) rfl ?_
  refine ev_gf (c := 86) (t := 88) (X := R 86 12) rfl rfl (fun _ => rfl) rfl (hG 86 12 88 rfl rfl) ?_
  refine ev_go 2 (pc1 := 11) (lv1 := [.ref 86, .int a, .int n]) (st1 := [.int (I 88 2), .int n]) (h1 := (124, I, J, R)) rfl ?_
  refine ev_br (b1 := true) rfl rfl (xcd_ge (x := n) (y := (I 88 2)) (by first | exact b1 | omega)) ?_
  refine ev_go 1 (pc1 := 66) (lv1 := [.ref 86, .int a, .int n]) (st1 := [.int a]) (h1 := (124, I, J, R)) rfl ?_
  exact ev_ret rfl rfl
set_option maxRecDepth 20000 in
theorem zap_y {L : Nat} {xs : Nat → Int32} {d : Nat} {I : Nat → Nat → Int32} {J : Nat → Nat → Int64} {R : Nat → Nat → Nat} {a n o : Int32} (hG : aGd R) (b1 : n.toInt < (I 88 2).toInt) (n1 : 0 ≤ n.toInt) (m1 : n.toInt < 8) (n2 : 0 ≤ n.toInt) (m2 : n.toInt < 8) (n3 : 0 ≤ n.toInt) (m3 : n.toInt < 8) (c1 : xEv L xs d 185 0 [.ref 86, .int (I 100 n.toNatClampNeg), .int (I 96 n.toNatClampNeg), .int (I 97 n.toNatClampNeg), .int 0, xmk, xmk, xmk, xmk, xmk] [] (124, I, J, R) (some (.int o)) (124, I, J, R)) (n4 : 0 ≤ n.toInt) (m4 : n.toInt < 4) (b2 : o.toInt < (I 103 n.toNatClampNeg).toInt) (n5 : 0 ≤ n.toInt) (m5 : n.toInt < 8) {v : Option Value} {h' : xH} (hk : xEv L xs (d + 1) 207 4 [.ref 86, .int (a + (I 99 n.toNatClampNeg)), .int (n + 1)] [] (124, I, J, R) v h') : xEv L xs (d + 1) 207 4 [.ref 86, .int a, .int n] [] (124, I, J, R) v h' := by
  refine ev_go 2 (pc1 := 6) (lv1 := [.ref 86, .int a, .int n]) (st1 := [.ref 86, .int n]) (h1 := (124, I, J, R)) rfl ?_
  refine ev_gf (c := 86) (t := 88) (X := R 86 12) rfl rfl (fun _ => rfl) rfl (hG 86 12 88 rfl rfl) ?_
  refine ev_go 2 (pc1 := 11) (lv1 := [.ref 86, .int a, .int n]) (st1 := [.int (I 88 2), .int n]) (h1 := (124, I, J, R)) rfl ?_
  refine ev_br (b1 := false) rfl rfl (xcd_nge (x := n) (y := (I 88 2)) (by first | exact b1 | omega)) ?_
  refine ev_go 3 (pc1 := 17) (lv1 := [.ref 86, .int a, .int n]) (st1 := [.ref 86, .ref 86, .int a]) (h1 := (124, I, J, R)) rfl ?_
  refine ev_gf (c := 86) (t := 100) (X := R 86 24) rfl rfl (fun _ => rfl) rfl (hG 86 24 100 rfl rfl) ?_
  refine ev_go 1 (pc1 := 21) (lv1 := [.ref 86, .int a, .int n]) (st1 := [.int n, .ref 100, .ref 86, .int a]) (h1 := (124, I, J, R)) rfl ?_
  refine ev_ild (n := 8) rfl rfl (fun _ => rfl) n1 m1 ?_
  refine ev_go 1 (pc1 := 23) (lv1 := [.ref 86, .int a, .int n]) (st1 := [.ref 86, .int (I 100 n.toNatClampNeg), .ref 86, .int a]) (h1 := (124, I, J, R)) rfl ?_
  refine ev_gf (c := 86) (t := 96) (X := R 86 20) rfl rfl (fun _ => rfl) rfl (hG 86 20 96 rfl rfl) ?_
  refine ev_go 1 (pc1 := 27) (lv1 := [.ref 86, .int a, .int n]) (st1 := [.int n, .ref 96, .int (I 100 n.toNatClampNeg), .ref 86, .int a]) (h1 := (124, I, J, R)) rfl ?_
  refine ev_ild (n := 8) rfl rfl (fun _ => rfl) n2 m2 ?_
  refine ev_go 1 (pc1 := 29) (lv1 := [.ref 86, .int a, .int n]) (st1 := [.ref 86, .int (I 96 n.toNatClampNeg), .int (I 100 n.toNatClampNeg), .ref 86, .int a]) (h1 := (124, I, J, R)) rfl ?_
  refine ev_gf (c := 86) (t := 97) (X := R 86 21) rfl rfl (fun _ => rfl) rfl (hG 86 21 97 rfl rfl) ?_
  refine ev_go 1 (pc1 := 33) (lv1 := [.ref 86, .int a, .int n]) (st1 := [.int n, .ref 97, .int (I 96 n.toNatClampNeg), .int (I 100 n.toNatClampNeg), .ref 86, .int a]) (h1 := (124, I, J, R)) rfl ?_
  refine ev_ild (n := 8) rfl rfl (fun _ => rfl) n3 m3 ?_
  refine ev_go 1 (pc1 := 35) (lv1 := [.ref 86, .int a, .int n]) (st1 := [.int 0, .int (I 97 n.toNatClampNeg), .int (I 96 n.toNatClampNeg), .int (I 100 n.toNatClampNeg), .ref 86, .int a]) (h1 := (124, I, J, R)) rfl ?_
  refine ev_call (v1 := (some (.int o))) (h1 := (124, I, J, R)) rfl rfl c1 ?_
  refine ev_go 1 (pc1 := 39) (lv1 := [.ref 86, .int a, .int n]) (st1 := [.ref 86, .int o, .int a]) (h1 := (124, I, J, R)) rfl ?_
  refine ev_gf (c := 86) (t := 103) (X := R 86 29) rfl rfl (fun _ => rfl) rfl (hG 86 29 103 rfl rfl) ?_
  refine ev_go 1 (pc1 := 43) (lv1 := [.ref 86, .int a, .int n]) (st1 := [.int n, .ref 103, .int o, .int a]) (h1 := (124, I, J, R)) rfl ?_
  refine ev_ild (n := 4) rfl rfl (fun _ => rfl) n4 m4 ?_
  refine ev_br (b1 := false) rfl rfl (xcd_nge (x := o) (y := (I 103 n.toNatClampNeg)) (by first | exact b2 | omega)) ?_
  refine ev_go 1 (pc1 := 48) (lv1 := [.ref 86, .int a, .int n]) (st1 := [.ref 86, .int a]) (h1 := (124, I, J, R)) rfl ?_
  refine ev_gf (c := 86) (t := 99) (X := R 86 23) rfl rfl (fun _ => rfl) rfl (hG 86 23 99 rfl rfl) ?_
  refine ev_go 1 (pc1 := 52) (lv1 := [.ref 86, .int a, .int n]) (st1 := [.int n, .ref 99, .int a]) (h1 := (124, I, J, R)) rfl ?_
  refine ev_ild (n := 8) rfl rfl (fun _ => rfl) n5 m5 ?_
  refine ev_go 5 (pc1 := 4) (lv1 := [.ref 86, .int (a + (I 99 n.toNatClampNeg)), .int (n + 1)]) (st1 := []) (h1 := (124, I, J, R)) rfl ?_
  exact hk
set_option maxRecDepth 20000 in
theorem zap_n {L : Nat} {xs : Nat → Int32} {d : Nat} {I : Nat → Nat → Int32} {J : Nat → Nat → Int64} {R : Nat → Nat → Nat} {a n o : Int32} (hG : aGd R) (b1 : n.toInt < (I 88 2).toInt) (n1 : 0 ≤ n.toInt) (m1 : n.toInt < 8) (n2 : 0 ≤ n.toInt) (m2 : n.toInt < 8) (n3 : 0 ≤ n.toInt) (m3 : n.toInt < 8) (c1 : xEv L xs d 185 0 [.ref 86, .int (I 100 n.toNatClampNeg), .int (I 96 n.toNatClampNeg), .int (I 97 n.toNatClampNeg), .int 0, xmk, xmk, xmk, xmk, xmk] [] (124, I, J, R) (some (.int o)) (124, I, J, R)) (n4 : 0 ≤ n.toInt) (m4 : n.toInt < 4) (b2 : o.toInt ≥ (I 103 n.toNatClampNeg).toInt) {v : Option Value} {h' : xH} (hk : xEv L xs (d + 1) 207 4 [.ref 86, .int (a + 0), .int (n + 1)] [] (124, I, J, R) v h') : xEv L xs (d + 1) 207 4 [.ref 86, .int a, .int n] [] (124, I, J, R) v h' := by
  refine ev_go 2 (pc1 := 6) (lv1 := [.ref 86, .int a, .int n]) (st1 := [.ref 86, .int n]) (h1 := (124, I, J, R)) rfl ?_
  refine ev_gf (c := 86) (t := 88) (X := R 86 12) rfl rfl (fun _ => rfl) rfl (hG 86 12 88 rfl rfl) ?_
  refine ev_go 2 (pc1 := 11) (lv1 := [.ref 86, .int a, .int n]) (st1 := [.int (I 88 2), .int n]) (h1 := (124, I, J, R)) rfl ?_
  refine ev_br (b1 := false) rfl rfl (xcd_nge (x := n) (y := (I 88 2)) (by first | exact b1 | omega)) ?_
  refine ev_go 3 (pc1 := 17) (lv1 := [.ref 86, .int a, .int n]) (st1 := [.ref 86, .ref 86, .int a]) (h1 := (124, I, J, R)) rfl ?_
  refine ev_gf (c := 86) (t := 100) (X := R 86 24) rfl rfl (fun _ => rfl) rfl (hG 86 24 100 rfl rfl) ?_
  refine ev_go 1 (pc1 := 21) (lv1 := [.ref 86, .int a, .int n]) (st1 := [.int n, .ref 100, .ref 86, .int a]) (h1 := (124, I, J, R)) rfl ?_
  refine ev_ild (n := 8) rfl rfl (fun _ => rfl) n1 m1 ?_
  refine ev_go 1 (pc1 := 23) (lv1 := [.ref 86, .int a, .int n]) (st1 := [.ref 86, .int (I 100 n.toNatClampNeg), .ref 86, .int a]) (h1 := (124, I, J, R)) rfl ?_
  refine ev_gf (c := 86) (t := 96) (X := R 86 20) rfl rfl (fun _ => rfl) rfl (hG 86 20 96 rfl rfl) ?_
  refine ev_go 1 (pc1 := 27) (lv1 := [.ref 86, .int a, .int n]) (st1 := [.int n, .ref 96, .int (I 100 n.toNatClampNeg), .ref 86, .int a]) (h1 := (124, I, J, R)) rfl ?_
  refine ev_ild (n := 8) rfl rfl (fun _ => rfl) n2 m2 ?_
  refine ev_go 1 (pc1 := 29) (lv1 := [.ref 86, .int a, .int n]) (st1 := [.ref 86, .int (I 96 n.toNatClampNeg), .int (I 100 n.toNatClampNeg), .ref 86, .int a]) (h1 := (124, I, J, R)) rfl ?_
  refine ev_gf (c := 86) (t := 97) (X := R 86 21) rfl rfl (fun _ => rfl) rfl (hG 86 21 97 rfl rfl) ?_
  refine ev_go 1 (pc1 := 33) (lv1 := [.ref 86, .int a, .int n]) (st1 := [.int n, .ref 97, .int (I 96 n.toNatClampNeg), .int (I 100 n.toNatClampNeg), .ref 86, .int a]) (h1 := (124, I, J, R)) rfl ?_
  refine ev_ild (n := 8) rfl rfl (fun _ => rfl) n3 m3 ?_
  refine ev_go 1 (pc1 := 35) (lv1 := [.ref 86, .int a, .int n]) (st1 := [.int 0, .int (I 97 n.toNatClampNeg), .int (I 96 n.toNatClampNeg), .int (I 100 n.toNatClampNeg), .ref 86, .int a]) (h1 := (124, I, J, R)) rfl ?_
  refine ev_call (v1 := (some (.int o))) (h1 := (124, I, J, R)) rfl rfl c1 ?_
  refine ev_go 1 (pc1 := 39) (lv1 := [.ref 86, .int a, .int n]) (st1 := [.ref 86, .int o, .int a]) (h1 := (124, I, J, R)) rfl ?_
  refine ev_gf (c := 86) (t := 103) (X := R 86 29) rfl rfl (fun _ => rfl) rfl (hG 86 29 103 rfl rfl) ?_
  refine ev_go 1 (pc1 := 43) (lv1 := [.ref 86, .int a, .int n]) (st1 := [.int n, .ref 103, .int o, .int a]) (h1 := (124, I, J, R)) rfl ?_
  refine ev_ild (n := 4) rfl rfl (fun _ => rfl) n4 m4 ?_
  refine ev_br (b1 := true) rfl rfl (xcd_ge (x := o) (y := (I 103 n.toNatClampNeg)) (by first | exact b2 | omega)) ?_
  refine ev_go 5 (pc1 := 4) (lv1 := [.ref 86, .int (a + 0), .int (n + 1)]) (st1 := []) (h1 := (124, I, J, R)) rfl ?_
  exact hk
set_option maxRecDepth 20000 in
theorem zal_0 {L : Nat} {xs : Nat → Int32} {d : Nat} {I : Nat → Nat → Int32} {J : Nat → Nat → Int64} {R : Nat → Nat → Nat} {I1 : Nat → Nat → Int32} {k o : Int32} (hG : aGd R) (b1 : k.toInt = 0) (c1 : xEv L xs d 199 0 [.ref 86, xmk, xmk, xmk] [] (124, I, J, R) (some (.int o)) (124, I1, J, R)) : xEv L xs (d + 1) 198 0 [.ref 86, .int k] [] (124, I, J, R) (some (.int o)) (124, I1, J, R) := by
  refine ev_go 1 (pc1 := 1) (lv1 := [.ref 86, .int k]) (st1 := [.int k]) (h1 := (124, I, J, R)) rfl ?_
  refine ev_br (b1 := false) rfl rfl (xcd_nne (x := k) (y := 0) (by rw [show ((0 : Int32)).toInt = 0 from by decide]; first | exact b1 | omega)) ?_
  refine ev_go 1 (pc1 := 5) (lv1 := [.ref 86, .int k]) (st1 := [.ref 86]) (h1 := (124, I, J, R)) rfl ?_
  refine ev_call (v1 := (some (.int o))) (h1 := (124, I1, J, R)) rfl rfl c1 ?_
  refine ev_go 1 (pc1 := 25) (lv1 := [.ref 86, .int k]) (st1 := [.int o]) (h1 := (124, I1, J, R)) rfl ?_
  exact ev_ret rfl rfl
set_option maxRecDepth 20000 in
theorem zal_1 {L : Nat} {xs : Nat → Int32} {d : Nat} {I : Nat → Nat → Int32} {J : Nat → Nat → Int64} {R : Nat → Nat → Nat} {k o : Int32} (hG : aGd R) (b1 : k.toInt ≠ 0) (b2 : k.toInt = 1) (c1 : xEv L xs d 207 0 [.ref 86, xmk, xmk] [] (124, I, J, R) (some (.int o)) (124, I, J, R)) : xEv L xs (d + 1) 198 0 [.ref 86, .int k] [] (124, I, J, R) (some (.int o)) (124, I, J, R) := by
  refine ev_go 1 (pc1 := 1) (lv1 := [.ref 86, .int k]) (st1 := [.int k]) (h1 := (124, I, J, R)) rfl ?_
  refine ev_br (b1 := true) rfl rfl (xcd_ne (x := k) (y := 0) (by rw [show ((0 : Int32)).toInt = 0 from by decide]; first | exact b1 | omega)) ?_
  refine ev_go 2 (pc1 := 13) (lv1 := [.ref 86, .int k]) (st1 := [.int 1, .int k]) (h1 := (124, I, J, R)) rfl ?_
  refine ev_br (b1 := false) rfl rfl (xcd_nne (x := k) (y := 1) (by rw [show ((1 : Int32)).toInt = 1 from by decide]; first | exact b2 | omega)) ?_
  refine ev_go 1 (pc1 := 17) (lv1 := [.ref 86, .int k]) (st1 := [.ref 86]) (h1 := (124, I, J, R)) rfl ?_
  refine ev_call (v1 := (some (.int o))) (h1 := (124, I, J, R)) rfl rfl c1 ?_
  refine ev_go 1 (pc1 := 25) (lv1 := [.ref 86, .int k]) (st1 := [.int o]) (h1 := (124, I, J, R)) rfl ?_
  exact ev_ret rfl rfl
set_option maxRecDepth 20000 in
theorem zal_x {L : Nat} {xs : Nat → Int32} {d : Nat} {I : Nat → Nat → Int32} {J : Nat → Nat → Int64} {R : Nat → Nat → Nat} {k : Int32} (hG : aGd R) (b1 : k.toInt ≠ 0) (b2 : k.toInt ≠ 1) : xEv L xs d 198 0 [.ref 86, .int k] [] (124, I, J, R) (some (.int (-2))) (124, I, J, R) := by
  refine ev_go 1 (pc1 := 1) (lv1 := [.ref 86, .int k]) (st1 := [.int k]) (h1 := (124, I, J, R)) rfl ?_
  refine ev_br (b1 := true) rfl rfl (xcd_ne (x := k) (y := 0) (by rw [show ((0 : Int32)).toInt = 0 from by decide]; first | exact b1 | omega)) ?_
  refine ev_go 2 (pc1 := 13) (lv1 := [.ref 86, .int k]) (st1 := [.int 1, .int k]) (h1 := (124, I, J, R)) rfl ?_
  refine ev_br (b1 := true) rfl rfl (xcd_ne (x := k) (y := 1) (by rw [show ((1 : Int32)).toInt = 1 from by decide]; first | exact b2 | omega)) ?_
  refine ev_go 1 (pc1 := 25) (lv1 := [.ref 86, .int k]) (st1 := [.int (-2)]) (h1 := (124, I, J, R)) rfl ?_
  exact ev_ret rfl rfl
