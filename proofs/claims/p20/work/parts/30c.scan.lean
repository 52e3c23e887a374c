set_option maxRecDepth 20000 in
theorem sm_0 {L : Nat} {xs : Nat → Int32} {d : Nat} {I : Nat → Nat → Int32} {J : Nat → Nat → Int64} {R : Nat → Nat → Nat} (hG : aGd R)  {v : Option Value} {h' : xH} (hk : xEv L xs d 150 5 [.ref 86, .int (I 86 6), xmk, xmk] [] (124, I, J, R) v h') : xEv L xs d 150 0 [.ref 86, xmk, xmk, xmk] [] (124, I, J, R) v h' := by
  refine ev_go 3 (pc1 := 5) (lv1 := [.ref 86, .int (I 86 6), xmk, xmk]) (st1 := []) (h1 := (124, I, J, R)) rfl ?_
  exact hk
set_option maxRecDepth 20000 in
theorem sm_1 {L : Nat} {xs : Nat → Int32} {d : Nat} {I : Nat → Nat → Int32} {J : Nat → Nat → Int64} {R : Nat → Nat → Nat} {p x : Int32} {w2 w3 : Value} (hG : aGd R) (c1 : xEv L xs d 151 0 [.ref 86, .int p] [] (124, I, J, R) (some (.int x)) (124, I, J, R)) (b1 : x.toInt = 32) {v : Option Value} {h' : xH} (hk : xEv L xs (d + 1) 150 5 [.ref 86, .int (p + 1), w2, w3] [] (124, I, J, R) v h') : xEv L xs (d + 1) 150 5 [.ref 86, .int p, w2, w3] [] (124, I, J, R) v h' := by
  refine ev_go 2 (pc1 := 7) (lv1 := [.ref 86, .int p, w2, w3]) (st1 := [.int p, .ref 86]) (h1 := (124, I, J, R)) rfl ?_
  refine ev_call (v1 := (some (.int x))) (h1 := (124, I, J, R)) rfl rfl c1 ?_
  refine ev_go 1 (pc1 := 12) (lv1 := [.ref 86, .int p, w2, w3]) (st1 := [.int 32, .int x]) (h1 := (124, I, J, R)) rfl ?_
  refine ev_br (b1 := true) rfl rfl (xcd_eq (x := x) (y := 32) (by rw [show ((32 : Int32)).toInt = 32 from by decide]; first | exact b1 | omega)) ?_
  refine ev_go 2 (pc1 := 5) (lv1 := [.ref 86, .int (p + 1), w2, w3]) (st1 := []) (h1 := (124, I, J, R)) rfl ?_
  exact hk
set_option maxRecDepth 20000 in
theorem sm_2 {L : Nat} {xs : Nat → Int32} {d : Nat} {I : Nat → Nat → Int32} {J : Nat → Nat → Int64} {R : Nat → Nat → Nat} {p x y : Int32} {w2 w3 : Value} (hG : aGd R) (c1 : xEv L xs d 151 0 [.ref 86, .int p] [] (124, I, J, R) (some (.int x)) (124, I, J, R)) (b1 : x.toInt ≠ 32) (c2 : xEv L xs d 151 0 [.ref 86, .int p] [] (124, I, J, R) (some (.int y)) (124, I, J, R)) (b2 : y.toInt = 10) {v : Option Value} {h' : xH} (hk : xEv L xs (d + 1) 150 5 [.ref 86, .int (p + 1), w2, w3] [] (124, I, J, R) v h') : xEv L xs (d + 1) 150 5 [.ref 86, .int p, w2, w3] [] (124, I, J, R) v h' := by
  refine ev_go 2 (pc1 := 7) (lv1 := [.ref 86, .int p, w2, w3]) (st1 := [.int p, .ref 86]) (h1 := (124, I, J, R)) rfl ?_
  refine ev_call (v1 := (some (.int x))) (h1 := (124, I, J, R)) rfl rfl c1 ?_
  refine ev_go 1 (pc1 := 12) (lv1 := [.ref 86, .int p, w2, w3]) (st1 := [.int 32, .int x]) (h1 := (124, I, J, R)) rfl ?_
  refine ev_br (b1 := false) rfl rfl (xcd_neq (x := x) (y := 32) (by rw [show ((32 : Int32)).toInt = 32 from by decide]; first | exact b1 | omega)) ?_
  refine ev_go 2 (pc1 := 17) (lv1 := [.ref 86, .int p, w2, w3]) (st1 := [.int p, .ref 86]) (h1 := (124, I, J, R)) rfl ?_
  refine ev_call (v1 := (some (.int y))) (h1 := (124, I, J, R)) rfl rfl c2 ?_
  refine ev_go 1 (pc1 := 22) (lv1 := [.ref 86, .int p, w2, w3]) (st1 := [.int 10, .int y]) (h1 := (124, I, J, R)) rfl ?_
  refine ev_br (b1 := false) rfl rfl (xcd_nne (x := y) (y := 10) (by rw [show ((10 : Int32)).toInt = 10 from by decide]; first | exact b2 | omega)) ?_
  refine ev_go 2 (pc1 := 5) (lv1 := [.ref 86, .int (p + 1), w2, w3]) (st1 := []) (h1 := (124, I, J, R)) rfl ?_
  exact hk
set_option maxRecDepth 20000 in
theorem sm_3 {L : Nat} {xs : Nat → Int32} {d : Nat} {I : Nat → Nat → Int32} {J : Nat → Nat → Int64} {R : Nat → Nat → Nat} {p x y : Int32} {w2 w3 : Value} (hG : aGd R) (c1 : xEv L xs d 151 0 [.ref 86, .int p] [] (124, I, J, R) (some (.int x)) (124, I, J, R)) (b1 : x.toInt ≠ 32) (c2 : xEv L xs d 151 0 [.ref 86, .int p] [] (124, I, J, R) (some (.int y)) (124, I, J, R)) (b2 : y.toInt ≠ 10) {v : Option Value} {h' : xH} (hk : xEv L xs (d + 1) 150 31 [.ref 86, .int p, w2, w3] [] (124, I, J, R) v h') : xEv L xs (d + 1) 150 5 [.ref 86, .int p, w2, w3] [] (124, I, J, R) v h' := by
  refine ev_go 2 (pc1 := 7) (lv1 := [.ref 86, .int p, w2, w3]) (st1 := [.int p, .ref 86]) (h1 := (124, I, J, R)) rfl ?_
  refine ev_call (v1 := (some (.int x))) (h1 := (124, I, J, R)) rfl rfl c1 ?_
  refine ev_go 1 (pc1 := 12) (lv1 := [.ref 86, .int p, w2, w3]) (st1 := [.int 32, .int x]) (h1 := (124, I, J, R)) rfl ?_
  refine ev_br (b1 := false) rfl rfl (xcd_neq (x := x) (y := 32) (by rw [show ((32 : Int32)).toInt = 32 from by decide]; first | exact b1 | omega)) ?_
  refine ev_go 2 (pc1 := 17) (lv1 := [.ref 86, .int p, w2, w3]) (st1 := [.int p, .ref 86]) (h1 := (124, I, J, R)) rfl ?_
  refine ev_call (v1 := (some (.int y))) (h1 := (124, I, J, R)) rfl rfl c2 ?_
  refine ev_go 1 (pc1 := 22) (lv1 := [.ref 86, .int p, w2, w3]) (st1 := [.int 10, .int y]) (h1 := (124, I, J, R)) rfl ?_
  refine ev_br (b1 := true) rfl rfl (xcd_ne (x := y) (y := 10) (by rw [show ((10 : Int32)).toInt = 10 from by decide]; first | exact b2 | omega)) ?_
  exact hk
set_option maxRecDepth 20000 in
theorem sm_e {L : Nat} {xs : Nat → Int32} {d : Nat} {I : Nat → Nat → Int32} {J : Nat → Nat → Int64} {R : Nat → Nat → Nat} {p c : Int32} {w2 w3 : Value} (hG : aGd R) (c1 : xEv L xs d 151 0 [.ref 86, .int p] [] (124, (uI I 86 5 p), J, R) (some (.int c)) (124, (uI I 86 5 p), J, R)) (b1 : c.toInt = -1) : xEv L xs (d + 1) 150 31 [.ref 86, .int p, w2, w3] [] (124, I, J, R) none (124, (uI (uI (uI (uI I 86 5 p) 86 4 (-1)) 86 3 4) 86 6 p), J, R) := by
  refine ev_go 5 (pc1 := 38) (lv1 := [.ref 86, .int p, w2, w3]) (st1 := [.int p, .ref 86]) (h1 := (124, (uI I 86 5 p), J, R)) rfl ?_
  refine ev_call (v1 := (some (.int c))) (h1 := (124, (uI I 86 5 p), J, R)) rfl rfl c1 ?_
  refine ev_go 10 (pc1 := 53) (lv1 := [.ref 86, .int p, .int c, .int (p + 1)]) (st1 := [.int (-1), .int c]) (h1 := (124, (uI (uI I 86 5 p) 86 4 (-1)), J, R)) rfl ?_
  refine ev_br (b1 := false) rfl rfl (xcd_nne (x := c) (y := (-1)) (by rw [show ((-1 : Int32)).toInt = -1 from by decide]; first | exact b1 | omega)) ?_
  refine ev_go 9 (pc1 := 275) (lv1 := [.ref 86, .int p, .int c, .int p]) (st1 := []) (h1 := (124, (uI (uI (uI (uI I 86 5 p) 86 4 (-1)) 86 3 4) 86 6 p), J, R)) rfl ?_
  exact ev_ret rfl rfl
set_option maxRecDepth 20000 in
theorem sm_w {L : Nat} {xs : Nat → Int32} {d : Nat} {I : Nat → Nat → Int32} {J : Nat → Nat → Int64} {R : Nat → Nat → Nat} {p c : Int32} {w2 w3 : Value} (hG : aGd R) (c1 : xEv L xs d 151 0 [.ref 86, .int p] [] (124, (uI I 86 5 p), J, R) (some (.int c)) (124, (uI I 86 5 p), J, R)) (b1 : c.toInt ≠ -1) (c2 : xEv L xs d 152 0 [.int c] [] (124, (uI (uI I 86 5 p) 86 4 (-1)), J, R) (some (.int 1)) (124, (uI (uI I 86 5 p) 86 4 (-1)), J, R)) {v : Option Value} {h' : xH} (hk : xEv L xs (d + 1) 150 80 [.ref 86, .int p, .int c, .int p] [] (124, (uI (uI I 86 5 p) 86 4 (-1)), (uL J 86 10 0), R) v h') : xEv L xs (d + 1) 150 31 [.ref 86, .int p, w2, w3] [] (124, I, J, R) v h' := by
  refine ev_go 5 (pc1 := 38) (lv1 := [.ref 86, .int p, w2, w3]) (st1 := [.int p, .ref 86]) (h1 := (124, (uI I 86 5 p), J, R)) rfl ?_
  refine ev_call (v1 := (some (.int c))) (h1 := (124, (uI I 86 5 p), J, R)) rfl rfl c1 ?_
  refine ev_go 10 (pc1 := 53) (lv1 := [.ref 86, .int p, .int c, .int (p + 1)]) (st1 := [.int (-1), .int c]) (h1 := (124, (uI (uI I 86 5 p) 86 4 (-1)), J, R)) rfl ?_
  refine ev_br (b1 := true) rfl rfl (xcd_ne (x := c) (y := (-1)) (by rw [show ((-1 : Int32)).toInt = -1 from by decide]; first | exact b1 | omega)) ?_
  refine ev_go 1 (pc1 := 67) (lv1 := [.ref 86, .int p, .int c, .int (p + 1)]) (st1 := [.int c]) (h1 := (124, (uI (uI I 86 5 p) 86 4 (-1)), J, R)) rfl ?_
  refine ev_call (v1 := (some (.int 1))) (h1 := (124, (uI (uI I 86 5 p) 86 4 (-1)), J, R)) rfl rfl c2 ?_
  refine ev_go 6 (pc1 := 80) (lv1 := [.ref 86, .int p, .int c, .int p]) (st1 := []) (h1 := (124, (uI (uI I 86 5 p) 86 4 (-1)), (uL J 86 10 0), R)) rfl ?_
  exact hk
set_option maxRecDepth 20000 in
theorem sm_n {L : Nat} {xs : Nat → Int32} {d : Nat} {I : Nat → Nat → Int32} {J : Nat → Nat → Int64} {R : Nat → Nat → Nat} {p c : Int32} {w2 w3 : Value} (hG : aGd R) (c1 : xEv L xs d 151 0 [.ref 86, .int p] [] (124, (uI I 86 5 p), J, R) (some (.int c)) (124, (uI I 86 5 p), J, R)) (b1 : c.toInt ≠ -1) (c2 : xEv L xs d 152 0 [.int c] [] (124, (uI (uI I 86 5 p) 86 4 (-1)), J, R) (some (.int 0)) (124, (uI (uI I 86 5 p) 86 4 (-1)), J, R)) (c3 : xEv L xs d 154 0 [.int c] [] (124, (uI (uI I 86 5 p) 86 4 (-1)), J, R) (some (.int 1)) (124, (uI (uI I 86 5 p) 86 4 (-1)), J, R)) {v : Option Value} {h' : xH} (hk : xEv L xs (d + 1) 150 185 [.ref 86, .int p, .int c, .int (p + 1)] [] (124, (uI (uI (uI I 86 5 p) 86 4 (-1)) 86 7 (c - 48)), J, R) v h') : xEv L xs (d + 1) 150 31 [.ref 86, .int p, w2, w3] [] (124, I, J, R) v h' := by
  refine ev_go 5 (pc1 := 38) (lv1 := [.ref 86, .int p, w2, w3]) (st1 := [.int p, .ref 86]) (h1 := (124, (uI I 86 5 p), J, R)) rfl ?_
  refine ev_call (v1 := (some (.int c))) (h1 := (124, (uI I 86 5 p), J, R)) rfl rfl c1 ?_
  refine ev_go 10 (pc1 := 53) (lv1 := [.ref 86, .int p, .int c, .int (p + 1)]) (st1 := [.int (-1), .int c]) (h1 := (124, (uI (uI I 86 5 p) 86 4 (-1)), J, R)) rfl ?_
  refine ev_br (b1 := true) rfl rfl (xcd_ne (x := c) (y := (-1)) (by rw [show ((-1 : Int32)).toInt = -1 from by decide]; first | exact b1 | omega)) ?_
  refine ev_go 1 (pc1 := 67) (lv1 := [.ref 86, .int p, .int c, .int (p + 1)]) (st1 := [.int c]) (h1 := (124, (uI (uI I 86 5 p) 86 4 (-1)), J, R)) rfl ?_
  refine ev_call (v1 := (some (.int 0))) (h1 := (124, (uI (uI I 86 5 p) 86 4 (-1)), J, R)) rfl rfl c2 ?_
  refine ev_go 2 (pc1 := 171) (lv1 := [.ref 86, .int p, .int c, .int (p + 1)]) (st1 := [.int c]) (h1 := (124, (uI (uI I 86 5 p) 86 4 (-1)), J, R)) rfl ?_
  refine ev_call (v1 := (some (.int 1))) (h1 := (124, (uI (uI I 86 5 p) 86 4 (-1)), J, R)) rfl rfl c3 ?_
  refine ev_go 6 (pc1 := 185) (lv1 := [.ref 86, .int p, .int c, .int (p + 1)]) (st1 := []) (h1 := (124, (uI (uI (uI I 86 5 p) 86 4 (-1)) 86 7 (c - 48)), J, R)) rfl ?_
  exact hk
set_option maxRecDepth 20000 in
theorem sm_s {L : Nat} {xs : Nat → Int32} {d : Nat} {I : Nat → Nat → Int32} {J : Nat → Nat → Int64} {R : Nat → Nat → Nat} {p c : Int32} {w2 w3 : Value} (hG : aGd R) (c1 : xEv L xs d 151 0 [.ref 86, .int p] [] (124, (uI I 86 5 p), J, R) (some (.int c)) (124, (uI I 86 5 p), J, R)) (b1 : c.toInt ≠ -1) (c2 : xEv L xs d 152 0 [.int c] [] (124, (uI (uI I 86 5 p) 86 4 (-1)), J, R) (some (.int 0)) (124, (uI (uI I 86 5 p) 86 4 (-1)), J, R)) (c3 : xEv L xs d 154 0 [.int c] [] (124, (uI (uI I 86 5 p) 86 4 (-1)), J, R) (some (.int 0)) (124, (uI (uI I 86 5 p) 86 4 (-1)), J, R)) (b2 : c.toInt = 59) : xEv L xs (d + 1) 150 31 [.ref 86, .int p, w2, w3] [] (124, I, J, R) none (124, (uI (uI (uI (uI I 86 5 p) 86 4 (-1)) 86 3 3) 86 6 (p + 1)), J, R) := by
  refine ev_go 5 (pc1 := 38) (lv1 := [.ref 86, .int p, w2, w3]) (st1 := [.int p, .ref 86]) (h1 := (124, (uI I 86 5 p), J, R)) rfl ?_
  refine ev_call (v1 := (some (.int c))) (h1 := (124, (uI I 86 5 p), J, R)) rfl rfl c1 ?_
  refine ev_go 10 (pc1 := 53) (lv1 := [.ref 86, .int p, .int c, .int (p + 1)]) (st1 := [.int (-1), .int c]) (h1 := (124, (uI (uI I 86 5 p) 86 4 (-1)), J, R)) rfl ?_
  refine ev_br (b1 := true) rfl rfl (xcd_ne (x := c) (y := (-1)) (by rw [show ((-1 : Int32)).toInt = -1 from by decide]; first | exact b1 | omega)) ?_
  refine ev_go 1 (pc1 := 67) (lv1 := [.ref 86, .int p, .int c, .int (p + 1)]) (st1 := [.int c]) (h1 := (124, (uI (uI I 86 5 p) 86 4 (-1)), J, R)) rfl ?_
  refine ev_call (v1 := (some (.int 0))) (h1 := (124, (uI (uI I 86 5 p) 86 4 (-1)), J, R)) rfl rfl c2 ?_
  refine ev_go 2 (pc1 := 171) (lv1 := [.ref 86, .int p, .int c, .int (p + 1)]) (st1 := [.int c]) (h1 := (124, (uI (uI I 86 5 p) 86 4 (-1)), J, R)) rfl ?_
  refine ev_call (v1 := (some (.int 0))) (h1 := (124, (uI (uI I 86 5 p) 86 4 (-1)), J, R)) rfl rfl c3 ?_
  refine ev_go 4 (pc1 := 259) (lv1 := [.ref 86, .int p, .int c, .int (p + 1)]) (st1 := [.int 59, .int c, .ref 86]) (h1 := (124, (uI (uI I 86 5 p) 86 4 (-1)), J, R)) rfl ?_
  refine ev_br (b1 := false) rfl rfl (xcd_nne (x := c) (y := 59) (by rw [show ((59 : Int32)).toInt = 59 from by decide]; first | exact b2 | omega)) ?_
  refine ev_go 6 (pc1 := 275) (lv1 := [.ref 86, .int p, .int c, .int (p + 1)]) (st1 := []) (h1 := (124, (uI (uI (uI (uI I 86 5 p) 86 4 (-1)) 86 3 3) 86 6 (p + 1)), J, R)) rfl ?_
  exact ev_ret rfl rfl
set_option maxRecDepth 20000 in
theorem sm_x {L : Nat} {xs : Nat → Int32} {d : Nat} {I : Nat → Nat → Int32} {J : Nat → Nat → Int64} {R : Nat → Nat → Nat} {p c : Int32} {w2 w3 : Value} (hG : aGd R) (c1 : xEv L xs d 151 0 [.ref 86, .int p] [] (124, (uI I 86 5 p), J, R) (some (.int c)) (124, (uI I 86 5 p), J, R)) (b1 : c.toInt ≠ -1) (c2 : xEv L xs d 152 0 [.int c] [] (124, (uI (uI I 86 5 p) 86 4 (-1)), J, R) (some (.int 0)) (124, (uI (uI I 86 5 p) 86 4 (-1)), J, R)) (c3 : xEv L xs d 154 0 [.int c] [] (124, (uI (uI I 86 5 p) 86 4 (-1)), J, R) (some (.int 0)) (124, (uI (uI I 86 5 p) 86 4 (-1)), J, R)) (b2 : c.toInt ≠ 59) : xEv L xs (d + 1) 150 31 [.ref 86, .int p, w2, w3] [] (124, I, J, R) none (124, (uI (uI (uI (uI I 86 5 p) 86 4 (-1)) 86 3 0) 86 6 (p + 1)), J, R) := by
  refine ev_go 5 (pc1 := 38) (lv1 := [.ref 86, .int p, w2, w3]) (st1 := [.int p, .ref 86]) (h1 := (124, (uI I 86 5 p), J, R)) rfl ?_
  refine ev_call (v1 := (some (.int c))) (h1 := (124, (uI I 86 5 p), J, R)) rfl rfl c1 ?_
  refine ev_go 10 (pc1 := 53) (lv1 := [.ref 86, .int p, .int c, .int (p + 1)]) (st1 := [.int (-1), .int c]) (h1 := (124, (uI (uI I 86 5 p) 86 4 (-1)), J, R)) rfl ?_
  refine ev_br (b1 := true) rfl rfl (xcd_ne (x := c) (y := (-1)) (by rw [show ((-1 : Int32)).toInt = -1 from by decide]; first | exact b1 | omega)) ?_
  refine ev_go 1 (pc1 := 67) (lv1 := [.ref 86, .int p, .int c, .int (p + 1)]) (st1 := [.int c]) (h1 := (124, (uI (uI I 86 5 p) 86 4 (-1)), J, R)) rfl ?_
  refine ev_call (v1 := (some (.int 0))) (h1 := (124, (uI (uI I 86 5 p) 86 4 (-1)), J, R)) rfl rfl c2 ?_
  refine ev_go 2 (pc1 := 171) (lv1 := [.ref 86, .int p, .int c, .int (p + 1)]) (st1 := [.int c]) (h1 := (124, (uI (uI I 86 5 p) 86 4 (-1)), J, R)) rfl ?_
  refine ev_call (v1 := (some (.int 0))) (h1 := (124, (uI (uI I 86 5 p) 86 4 (-1)), J, R)) rfl rfl c3 ?_
  refine ev_go 4 (pc1 := 259) (lv1 := [.ref 86, .int p, .int c, .int (p + 1)]) (st1 := [.int 59, .int c, .ref 86]) (h1 := (124, (uI (uI I 86 5 p) 86 4 (-1)), J, R)) rfl ?_
  refine ev_br (b1 := true) rfl rfl (xcd_ne (x := c) (y := 59) (by rw [show ((59 : Int32)).toInt = 59 from by decide]; first | exact b2 | omega)) ?_
  refine ev_go 5 (pc1 := 275) (lv1 := [.ref 86, .int p, .int c, .int (p + 1)]) (st1 := []) (h1 := (124, (uI (uI (uI (uI I 86 5 p) 86 4 (-1)) 86 3 0) 86 6 (p + 1)), J, R)) rfl ?_
  exact ev_ret rfl rfl
set_option maxRecDepth 20000 in
theorem sm_w1 {L : Nat} {xs : Nat → Int32} {d : Nat} {I : Nat → Nat → Int32} {J : Nat → Nat → Int64} {R : Nat → Nat → Nat} {p c e x y : Int32} (hG : aGd R) (c1 : xEv L xs d 151 0 [.ref 86, .int e] [] (124, I, J, R) (some (.int x)) (124, I, J, R)) (c2 : xEv L xs d 152 0 [.int x] [] (124, I, J, R) (some (.int 1)) (124, I, J, R)) (b1 : (e - p).toInt < 8) (c3 : xEv L xs d 151 0 [.ref 86, .int e] [] (124, I, J, R) (some (.int y)) (124, I, J, R)) {v : Option Value} {h' : xH} (hk : xEv L xs (d + 1) 150 80 [.ref 86, .int p, .int c, .int (e + 1)] [] (124, I, (uL J 86 10 ((((32 * (J 86 10)) + y.toInt64) - 97) + 1)), R) v h') : xEv L xs (d + 1) 150 80 [.ref 86, .int p, .int c, .int e] [] (124, I, J, R) v h' := by
  refine ev_go 2 (pc1 := 82) (lv1 := [.ref 86, .int p, .int c, .int e]) (st1 := [.int e, .ref 86]) (h1 := (124, I, J, R)) rfl ?_
  refine ev_call (v1 := (some (.int x))) (h1 := (124, I, J, R)) rfl rfl c1 ?_
  refine ev_call (v1 := (some (.int 1))) (h1 := (124, I, J, R)) rfl rfl c2 ?_
  refine ev_go 5 (pc1 := 96) (lv1 := [.ref 86, .int p, .int c, .int e]) (st1 := [.int 8, .int (e - p)]) (h1 := (124, I, J, R)) rfl ?_
  refine ev_br (b1 := false) rfl rfl (xcd_nge (x := (e - p)) (y := 8) (by rw [show ((8 : Int32)).toInt = 8 from by decide]; first | exact b1 | omega)) ?_
  refine ev_go 7 (pc1 := 110) (lv1 := [.ref 86, .int p, .int c, .int e]) (st1 := [.int e, .ref 86, .long (32 * (J 86 10)), .ref 86]) (h1 := (124, I, J, R)) rfl ?_
  refine ev_call (v1 := (some (.int y))) (h1 := (124, I, J, R)) rfl rfl c3 ?_
  refine ev_go 9 (pc1 := 80) (lv1 := [.ref 86, .int p, .int c, .int (e + 1)]) (st1 := []) (h1 := (124, I, (uL J 86 10 ((((32 * (J 86 10)) + y.toInt64) - 97) + 1)), R)) rfl ?_
  exact hk
set_option maxRecDepth 20000 in
theorem sm_w2 {L : Nat} {xs : Nat → Int32} {d : Nat} {I : Nat → Nat → Int32} {J : Nat → Nat → Int64} {R : Nat → Nat → Nat} {p c e x : Int32} (hG : aGd R) (c1 : xEv L xs d 151 0 [.ref 86, .int e] [] (124, I, J, R) (some (.int x)) (124, I, J, R)) (c2 : xEv L xs d 152 0 [.int x] [] (124, I, J, R) (some (.int 1)) (124, I, J, R)) (b1 : (e - p).toInt ≥ 8) {v : Option Value} {h' : xH} (hk : xEv L xs (d + 1) 150 80 [.ref 86, .int p, .int c, .int (e + 1)] [] (124, I, J, R) v h') : xEv L xs (d + 1) 150 80 [.ref 86, .int p, .int c, .int e] [] (124, I, J, R) v h' := by
  refine ev_go 2 (pc1 := 82) (lv1 := [.ref 86, .int p, .int c, .int e]) (st1 := [.int e, .ref 86]) (h1 := (124, I, J, R)) rfl ?_
  refine ev_call (v1 := (some (.int x))) (h1 := (124, I, J, R)) rfl rfl c1 ?_
  refine ev_call (v1 := (some (.int 1))) (h1 := (124, I, J, R)) rfl rfl c2 ?_
  refine ev_go 5 (pc1 := 96) (lv1 := [.ref 86, .int p, .int c, .int e]) (st1 := [.int 8, .int (e - p)]) (h1 := (124, I, J, R)) rfl ?_
  refine ev_br (b1 := true) rfl rfl (xcd_ge (x := (e - p)) (y := 8) (by rw [show ((8 : Int32)).toInt = 8 from by decide]; first | exact b1 | omega)) ?_
  refine ev_go 2 (pc1 := 80) (lv1 := [.ref 86, .int p, .int c, .int (e + 1)]) (st1 := []) (h1 := (124, I, J, R)) rfl ?_
  exact hk
set_option maxRecDepth 20000 in
theorem sm_w3 {L : Nat} {xs : Nat → Int32} {d : Nat} {I : Nat → Nat → Int32} {J : Nat → Nat → Int64} {R : Nat → Nat → Nat} {p c e x : Int32} (hG : aGd R) (c1 : xEv L xs d 151 0 [.ref 86, .int e] [] (124, I, J, R) (some (.int x)) (124, I, J, R)) (c2 : xEv L xs d 152 0 [.int x] [] (124, I, J, R) (some (.int 0)) (124, I, J, R)) {v : Option Value} {h' : xH} (hk : xEv L xs (d + 1) 150 130 [.ref 86, .int p, .int c, .int e] [] (124, I, J, R) v h') : xEv L xs (d + 1) 150 80 [.ref 86, .int p, .int c, .int e] [] (124, I, J, R) v h' := by
  refine ev_go 2 (pc1 := 82) (lv1 := [.ref 86, .int p, .int c, .int e]) (st1 := [.int e, .ref 86]) (h1 := (124, I, J, R)) rfl ?_
  refine ev_call (v1 := (some (.int x))) (h1 := (124, I, J, R)) rfl rfl c1 ?_
  refine ev_call (v1 := (some (.int 0))) (h1 := (124, I, J, R)) rfl rfl c2 ?_
  refine ev_go 1 (pc1 := 130) (lv1 := [.ref 86, .int p, .int c, .int e]) (st1 := []) (h1 := (124, I, J, R)) rfl ?_
  exact hk
set_option maxRecDepth 20000 in
theorem sm_w4 {L : Nat} {xs : Nat → Int32} {d : Nat} {I : Nat → Nat → Int32} {J : Nat → Nat → Int64} {R : Nat → Nat → Nat} {p c e : Int32} (hG : aGd R) (b1 : (e - p).toInt > 8) : xEv L xs d 150 130 [.ref 86, .int p, .int c, .int e] [] (124, I, J, R) none (124, (uI (uI I 86 3 0) 86 6 e), J, R) := by
  refine ev_go 5 (pc1 := 136) (lv1 := [.ref 86, .int p, .int c, .int e]) (st1 := [.int 8, .int (e - p), .ref 86]) (h1 := (124, I, J, R)) rfl ?_
  refine ev_br (b1 := false) rfl rfl (xcd_nle (x := (e - p)) (y := 8) (by rw [show ((8 : Int32)).toInt = 8 from by decide]; first | exact b1 | omega)) ?_
  refine ev_go 10 (pc1 := 275) (lv1 := [.ref 86, .int p, .int c, .int e]) (st1 := []) (h1 := (124, (uI (uI I 86 3 0) 86 6 e), J, R)) rfl ?_
  exact ev_ret rfl rfl
set_option maxRecDepth 20000 in
theorem sm_w5 {L : Nat} {xs : Nat → Int32} {d : Nat} {I : Nat → Nat → Int32} {J : Nat → Nat → Int64} {R : Nat → Nat → Nat} {p c e z : Int32} (hG : aGd R) (b1 : (e - p).toInt ≤ 8) (c1 : xEv L xs d 153 0 [.ref 86, .int p, .int (e - p), xmk, xmk, xmk, xmk, xmk] [] (124, (uI I 86 3 1), J, R) (some (.int z)) (124, (uI I 86 3 1), J, R)) : xEv L xs (d + 1) 150 130 [.ref 86, .int p, .int c, .int e] [] (124, I, J, R) none (124, (uI (uI (uI I 86 3 1) 86 4 z) 86 6 e), J, R) := by
  refine ev_go 5 (pc1 := 136) (lv1 := [.ref 86, .int p, .int c, .int e]) (st1 := [.int 8, .int (e - p), .ref 86]) (h1 := (124, I, J, R)) rfl ?_
  refine ev_br (b1 := true) rfl rfl (xcd_le (x := (e - p)) (y := 8) (by rw [show ((8 : Int32)).toInt = 8 from by decide]; first | exact b1 | omega)) ?_
  refine ev_go 12 (pc1 := 161) (lv1 := [.ref 86, .int p, .int c, .int e]) (st1 := [.int (e - p), .int p, .ref 86, .ref 86]) (h1 := (124, (uI I 86 3 1), J, R)) rfl ?_
  refine ev_call (v1 := (some (.int z))) (h1 := (124, (uI I 86 3 1), J, R)) rfl rfl c1 ?_
  refine ev_go 5 (pc1 := 275) (lv1 := [.ref 86, .int p, .int c, .int e]) (st1 := []) (h1 := (124, (uI (uI (uI I 86 3 1) 86 4 z) 86 6 e), J, R)) rfl ?_
  exact ev_ret rfl rfl
set_option maxRecDepth 20000 in
theorem sm_n1 {L : Nat} {xs : Nat → Int32} {d : Nat} {I : Nat → Nat → Int32} {J : Nat → Nat → Int64} {R : Nat → Nat → Nat} {p c e x y : Int32} (hG : aGd R) (c1 : xEv L xs d 151 0 [.ref 86, .int e] [] (124, I, J, R) (some (.int x)) (124, I, J, R)) (c2 : xEv L xs d 154 0 [.int x] [] (124, I, J, R) (some (.int 1)) (124, I, J, R)) (b1 : (e - p).toInt < 3) (c3 : xEv L xs d 151 0 [.ref 86, .int e] [] (124, I, J, R) (some (.int y)) (124, I, J, R)) {v : Option Value} {h' : xH} (hk : xEv L xs (d + 1) 150 185 [.ref 86, .int p, .int c, .int (e + 1)] [] (124, (uI I 86 7 (((10 * (I 86 7)) + y) - 48)), J, R) v h') : xEv L xs (d + 1) 150 185 [.ref 86, .int p, .int c, .int e] [] (124, I, J, R) v h' := by
  refine ev_go 2 (pc1 := 187) (lv1 := [.ref 86, .int p, .int c, .int e]) (st1 := [.int e, .ref 86]) (h1 := (124, I, J, R)) rfl ?_
  refine ev_call (v1 := (some (.int x))) (h1 := (124, I, J, R)) rfl rfl c1 ?_
  refine ev_call (v1 := (some (.int 1))) (h1 := (124, I, J, R)) rfl rfl c2 ?_
  refine ev_go 6 (pc1 := 201) (lv1 := [.ref 86, .int p, .int c, .int e]) (st1 := [.int 3, .int (e - p), .ref 86]) (h1 := (124, I, J, R)) rfl ?_
  refine ev_br (b1 := false) rfl rfl (xcd_nge (x := (e - p)) (y := 3) (by rw [show ((3 : Int32)).toInt = 3 from by decide]; first | exact b1 | omega)) ?_
  refine ev_go 6 (pc1 := 213) (lv1 := [.ref 86, .int p, .int c, .int e]) (st1 := [.int e, .ref 86, .int (10 * (I 86 7)), .ref 86]) (h1 := (124, I, J, R)) rfl ?_
  refine ev_call (v1 := (some (.int y))) (h1 := (124, I, J, R)) rfl rfl c3 ?_
  refine ev_go 7 (pc1 := 185) (lv1 := [.ref 86, .int p, .int c, .int (e + 1)]) (st1 := []) (h1 := (124, (uI I 86 7 (((10 * (I 86 7)) + y) - 48)), J, R)) rfl ?_
  exact hk
set_option maxRecDepth 20000 in
theorem sm_n2 {L : Nat} {xs : Nat → Int32} {d : Nat} {I : Nat → Nat → Int32} {J : Nat → Nat → Int64} {R : Nat → Nat → Nat} {p c e x : Int32} (hG : aGd R) (c1 : xEv L xs d 151 0 [.ref 86, .int e] [] (124, I, J, R) (some (.int x)) (124, I, J, R)) (c2 : xEv L xs d 154 0 [.int x] [] (124, I, J, R) (some (.int 1)) (124, I, J, R)) (b1 : (e - p).toInt ≥ 3) {v : Option Value} {h' : xH} (hk : xEv L xs (d + 1) 150 185 [.ref 86, .int p, .int c, .int (e + 1)] [] (124, (uI I 86 7 (I 86 7)), J, R) v h') : xEv L xs (d + 1) 150 185 [.ref 86, .int p, .int c, .int e] [] (124, I, J, R) v h' := by
  refine ev_go 2 (pc1 := 187) (lv1 := [.ref 86, .int p, .int c, .int e]) (st1 := [.int e, .ref 86]) (h1 := (124, I, J, R)) rfl ?_
  refine ev_call (v1 := (some (.int x))) (h1 := (124, I, J, R)) rfl rfl c1 ?_
  refine ev_call (v1 := (some (.int 1))) (h1 := (124, I, J, R)) rfl rfl c2 ?_
  refine ev_go 6 (pc1 := 201) (lv1 := [.ref 86, .int p, .int c, .int e]) (st1 := [.int 3, .int (e - p), .ref 86]) (h1 := (124, I, J, R)) rfl ?_
  refine ev_br (b1 := true) rfl rfl (xcd_ge (x := (e - p)) (y := 3) (by rw [show ((3 : Int32)).toInt = 3 from by decide]; first | exact b1 | omega)) ?_
  refine ev_go 5 (pc1 := 185) (lv1 := [.ref 86, .int p, .int c, .int (e + 1)]) (st1 := []) (h1 := (124, (uI I 86 7 (I 86 7)), J, R)) rfl ?_
  exact hk
set_option maxRecDepth 20000 in
theorem sm_n3 {L : Nat} {xs : Nat → Int32} {d : Nat} {I : Nat → Nat → Int32} {J : Nat → Nat → Int64} {R : Nat → Nat → Nat} {p c e x : Int32} (hG : aGd R) (c1 : xEv L xs d 151 0 [.ref 86, .int e] [] (124, I, J, R) (some (.int x)) (124, I, J, R)) (c2 : xEv L xs d 154 0 [.int x] [] (124, I, J, R) (some (.int 0)) (124, I, J, R)) {v : Option Value} {h' : xH} (hk : xEv L xs (d + 1) 150 236 [.ref 86, .int p, .int c, .int e] [] (124, I, J, R) v h') : xEv L xs (d + 1) 150 185 [.ref 86, .int p, .int c, .int e] [] (124, I, J, R) v h' := by
  refine ev_go 2 (pc1 := 187) (lv1 := [.ref 86, .int p, .int c, .int e]) (st1 := [.int e, .ref 86]) (h1 := (124, I, J, R)) rfl ?_
  refine ev_call (v1 := (some (.int x))) (h1 := (124, I, J, R)) rfl rfl c1 ?_
  refine ev_call (v1 := (some (.int 0))) (h1 := (124, I, J, R)) rfl rfl c2 ?_
  refine ev_go 1 (pc1 := 236) (lv1 := [.ref 86, .int p, .int c, .int e]) (st1 := []) (h1 := (124, I, J, R)) rfl ?_
  exact hk
set_option maxRecDepth 20000 in
theorem sm_n4 {L : Nat} {xs : Nat → Int32} {d : Nat} {I : Nat → Nat → Int32} {J : Nat → Nat → Int64} {R : Nat → Nat → Nat} {p c e : Int32} (hG : aGd R) (b1 : (e - p).toInt > 3) : xEv L xs d 150 236 [.ref 86, .int p, .int c, .int e] [] (124, I, J, R) none (124, (uI (uI I 86 3 0) 86 6 e), J, R) := by
  refine ev_go 5 (pc1 := 241) (lv1 := [.ref 86, .int p, .int c, .int e]) (st1 := [.int 3, .int (e - p), .ref 86]) (h1 := (124, I, J, R)) rfl ?_
  refine ev_br (b1 := false) rfl rfl (xcd_nle (x := (e - p)) (y := 3) (by rw [show ((3 : Int32)).toInt = 3 from by decide]; first | exact b1 | omega)) ?_
  refine ev_go 7 (pc1 := 275) (lv1 := [.ref 86, .int p, .int c, .int e]) (st1 := []) (h1 := (124, (uI (uI I 86 3 0) 86 6 e), J, R)) rfl ?_
  exact ev_ret rfl rfl
set_option maxRecDepth 20000 in
theorem sm_n5 {L : Nat} {xs : Nat → Int32} {d : Nat} {I : Nat → Nat → Int32} {J : Nat → Nat → Int64} {R : Nat → Nat → Nat} {p c e : Int32} (hG : aGd R) (b1 : (e - p).toInt ≤ 3) : xEv L xs d 150 236 [.ref 86, .int p, .int c, .int e] [] (124, I, J, R) none (124, (uI (uI I 86 3 2) 86 6 e), J, R) := by
  refine ev_go 5 (pc1 := 241) (lv1 := [.ref 86, .int p, .int c, .int e]) (st1 := [.int 3, .int (e - p), .ref 86]) (h1 := (124, I, J, R)) rfl ?_
  refine ev_br (b1 := true) rfl rfl (xcd_le (x := (e - p)) (y := 3) (by rw [show ((3 : Int32)).toInt = 3 from by decide]; first | exact b1 | omega)) ?_
  refine ev_go 6 (pc1 := 275) (lv1 := [.ref 86, .int p, .int c, .int e]) (st1 := []) (h1 := (124, (uI (uI I 86 3 2) 86 6 e), J, R)) rfl ?_
  exact ev_ret rfl rfl
/-- the reference's word in base 32, of eight letters at most; its number, of three figures at most -/
def wF (b : Nat → Int32) (st : Nat) : Nat → Int64
  | 0 => 0
  | m + 1 => if m < 8 then 32 * wF b st m + (b (st + m)).toInt64 - 97 + 1 else wF b st m
def nF (b : Nat → Int32) (st : Nat) : Nat → Int32
  | 0 => 0
  | 1 => b st - 48
  | m + 2 => if m + 1 < 3 then 10 * nF b st (m + 1) + b (st + (m + 1)) - 48 else nF b st (m + 1)
def rSo (k m : Nat) : Nat := if k = 0 then 4 else if k = 1 then (if 8 < m then 0 else 1) else if k = 2 then (if 3 < m then 0 else 2) else if k = 3 then 3 else 0
theorem kd_1 {c : Int} : kd c = 1 ↔ 97 ≤ c ∧ c ≤ 122 := by
  unfold kd
  repeat' split
  all_goals omega
theorem kd_2 {c : Int} : kd c = 2 ↔ 48 ≤ c ∧ c ≤ 57 := by
  unfold kd
  repeat' split
  all_goals omega
theorem kd_4 {c : Int} : kd c = 4 ↔ c = 32 ∨ c = 10 := by
  unfold kd
  repeat' split
  all_goals omega
theorem kd_3 {c : Int} : kd c = 3 ↔ c = 59 := by
  unfold kd
  repeat' split
  all_goals omega
theorem kd_0 {c : Int} : kd c = 0 ↔ c = -1 := by
  unfold kd
  repeat' split
  all_goals omega
/-- heaps alike but for what scan sets -/
def alS (I I' : Nat → Nat → Int32) (J J' : Nat → Nat → Int64) : Prop := (∀ c q, ¬ (c = 86 ∧ (q = 3 ∨ q = 4 ∨ q = 5 ∨ q = 6 ∨ q = 7)) → I' c q = I c q) ∧ (∀ c q, ¬ (c = 86 ∧ q = 10) → J' c q = J c q)
theorem alS_r (I : Nat → Nat → Int32) (J : Nat → Nat → Int64) : alS I I J J := ⟨fun _ _ _ => rfl, fun _ _ _ => rfl⟩
theorem alS_t {I I' I2 : Nat → Nat → Int32} {J J' J2 : Nat → Nat → Int64} (h : alS I I' J J') (h' : alS I' I2 J' J2) : alS I I2 J J2 := ⟨fun c q hq => (h'.1 c q hq).trans (h.1 c q hq), fun c q hq => (h'.2 c q hq).trans (h.2 c q hq)⟩
theorem alS_I {I : Nat → Nat → Int32} {J : Nat → Nat → Int64} {k : Nat} (v : Int32) (h : k = 3 ∨ k = 4 ∨ k = 5 ∨ k = 6 ∨ k = 7) : alS I (uI I 86 k v) J J := ⟨fun c q hq => uI_n I v (fun z => hq ⟨z.1, by rw [z.2]; exact h⟩), fun _ _ _ => rfl⟩
theorem alS_L {I : Nat → Nat → Int32} {J : Nat → Nat → Int64} (v : Int64) : alS I I J (uL J 86 10 v) := ⟨fun _ _ _ => rfl, fun c q hq => uL_n J v (fun z => hq z)⟩
theorem alS_b {I I' : Nat → Nat → Int32} {J J' : Nat → Nat → Int64} (h : alS I I' J J') (n : Nat) : bM I' n = bM I n := by
  funext q
  unfold bM
  by_cases e : q < n
  · rw [if_pos e, if_pos e, h.1 87 q (fun z => absurd z.1 (by decide))]
  · rw [if_neg e, if_neg e]
theorem bM_end (I : Nat → Nat → Int32) {n q : Nat} (h : n ≤ q) : kd (bM I n q).toInt = 0 := by
  unfold bM
  rw [if_neg (by omega)]
  rfl
section SM
variable {L : Nat} {xs : Nat → Int32} {d : Nat} {R : Nat → Nat → Nat}
theorem ms_1 (hG : aGd R) {n : Nat} (hn9 : n ≤ 900) {I : Nat → Nat → Int32} {J : Nat → Nat → Int64} (hn : (I 86 2).toInt = n) (w2 w3 : Value) : ∀ (f : Nat) (p : Int32) (P : Nat), n - P = f → p.toInt = P → P ≤ n → ∃ (st : Nat) (q : Int32), isRn (bM I n) 4 P st ∧ st ≤ n ∧ q.toInt = st ∧ ∀ v h', xEv L xs (d + 1) 150 31 [.ref 86, .int q, w2, w3] [] (124, I, J, R) v h' → xEv L xs (d + 1) 150 5 [.ref 86, .int p, w2, w3] [] (124, I, J, R) v h' := by
  intro f
  induction f with
  | zero =>
    intro p P hf hp hP
    have e : P = n := by omega
    subst e
    have c1 := rb_run (L := L) (xs := xs) (d := d) (I := I) (J := J) hG hn hn9 hp
    have h0 := kd_0.mp (bM_end I (n := P) (q := P) (Nat.le_refl _))
    exact ⟨P, p, ⟨Nat.le_refl _, fun q h1 h2 => by omega, by rw [bM_end I (Nat.le_refl _)]; decide⟩, Nat.le_refl _, hp, fun v h' hk => sm_3 hG c1 (by omega) c1 (by omega) hk⟩
  | succ f ih =>
    intro p P hf hp hP
    have c1 := rb_run (L := L) (xs := xs) (d := d) (I := I) (J := J) hG hn hn9 hp
    have ei := i_add1 (x := p) (by omega)
    by_cases h4 : kd (bM I n P).toInt = 4
    · obtain ⟨st, q, a1, a2, a3, a4⟩ := ih (p + 1) (P + 1) (by omega) (by omega) (by omega)
      refine ⟨st, q, ⟨by have := a1.1; omega, fun r h1 h2 => ?_, a1.2.2⟩, a2, a3, fun v h' hk => ?_⟩
      · by_cases e : r = P
        · rw [e]; exact h4
        · exact a1.2.1 r (by omega) h2
      · by_cases h32 : (bM I n P).toInt = 32
        · exact sm_1 hG c1 h32 (a4 v h' hk)
        · have h10 := kd_4.mp h4
          exact sm_2 hG c1 h32 c1 (by omega) (a4 v h' hk)
    · have hx : ¬ ((bM I n P).toInt = 32 ∨ (bM I n P).toInt = 10) := fun z => h4 (kd_4.mpr z)
      exact ⟨P, p, ⟨Nat.le_refl _, fun q h1 h2 => by omega, h4⟩, hP, hp, fun v h' hk => sm_3 hG c1 (by omega) c1 (by omega) hk⟩
theorem ms_w (hG : aGd R) {n st : Nat} (hn9 : n ≤ 900) {p c : Int32} (hp : p.toInt = st) : ∀ (f : Nat) (I : Nat → Nat → Int32) (J : Nat → Nat → Int64) (e : Int32) (m : Nat), n - (st + m) = f → (I 86 2).toInt = n → e.toInt = ((st + m : Nat) : Int) → st + m ≤ n → (∀ q, st ≤ q → q < st + m → kd (bM I n q).toInt = 1) → J 86 10 = wF (bM I n) st m → ∃ (e' : Nat) (y : Int32) (J' : Nat → Nat → Int64), isRn (bM I n) 1 st e' ∧ e' ≤ n ∧ y.toInt = e' ∧ J' 86 10 = wF (bM I n) st (e' - st) ∧ alS I I J J' ∧ ∀ v h', xEv L xs (d + 1) 150 130 [.ref 86, .int p, .int c, .int y] [] (124, I, J', R) v h' → xEv L xs (d + 1) 150 80 [.ref 86, .int p, .int c, .int e] [] (124, I, J, R) v h' := by
  intro f
  induction f with
  | zero =>
    intro I J e m hf hn he hl hq hJ
    have c1 := rb_run (L := L) (xs := xs) (d := d) (I := I) (J := J) hG hn hn9 he
    have hz := bM_end I (n := n) (q := st + m) (by omega)
    rcases sa_run (L := L) (xs := xs) (d := d) (I := I) (J := J) hG (bM I n (st + m)) with ⟨g1, g2, c2⟩ | ⟨g1, c2⟩
    · have := kd_1.mpr ⟨g1, g2⟩
      omega
    · exact ⟨st + m, e, J, ⟨by omega, hq, by omega⟩, hl, he, by rw [hJ]; congr 1; omega, alS_r I J, fun v h' hk => sm_w3 hG c1 c2 hk⟩
  | succ f ih =>
    intro I J e m hf hn he hl hq hJ
    have c1 := rb_run (L := L) (xs := xs) (d := d) (I := I) (J := J) hG hn hn9 he
    have ei := i_add1 (x := e) (by omega)
    rcases sa_run (L := L) (xs := xs) (d := d) (I := I) (J := J) hG (bM I n (st + m)) with ⟨g1, g2, c2⟩ | ⟨g1, c2⟩
    · have hk1 := kd_1.mpr ⟨g1, g2⟩
      have es : (e - p).toInt = m := by rw [i_sub (by omega) (by omega)]; omega
      have hq' : ∀ q, st ≤ q → q < st + (m + 1) → kd (bM I n q).toInt = 1 := by
        intro q h1 h2
        by_cases z : q = st + m
        · rw [z]; exact hk1
        · exact hq q h1 (by omega)
      by_cases h8 : m < 8
      · have eJ : uL J 86 10 (32 * J 86 10 + (bM I n (st + m)).toInt64 - 97 + 1) 86 10 = wF (bM I n) st (m + 1) := by
          rw [uL_s, hJ]
          show _ = (if m < 8 then _ else _)
          rw [if_pos h8]
        obtain ⟨e', y, J', a1, a2, a3, a4, a5, a6⟩ := ih I (uL J 86 10 (32 * J 86 10 + (bM I n (st + m)).toInt64 - 97 + 1)) (e + 1) (m + 1) (by omega) hn (by omega) (by omega) hq' eJ
        exact ⟨e', y, J', a1, a2, a3, a4, alS_t (alS_L _) a5, fun v h' hk => sm_w1 hG c1 c2 (by omega) c1 (a6 v h' hk)⟩
      · have eJ : J 86 10 = wF (bM I n) st (m + 1) := by
          rw [hJ]
          show _ = (if m < 8 then _ else _)
          rw [if_neg h8]
        obtain ⟨e', y, J', a1, a2, a3, a4, a5, a6⟩ := ih I J (e + 1) (m + 1) (by omega) hn (by omega) (by omega) hq' eJ
        exact ⟨e', y, J', a1, a2, a3, a4, a5, fun v h' hk => sm_w2 hG c1 c2 (by omega) (a6 v h' hk)⟩
    · exact ⟨st + m, e, J, ⟨by omega, hq, fun z => g1 (kd_1.mp z)⟩, hl, he, by rw [hJ]; congr 1; omega, alS_r I J, fun v h' hk => sm_w3 hG c1 c2 hk⟩
theorem ms_n (hG : aGd R) {n st : Nat} (hn9 : n ≤ 900) {p c : Int32} (hp : p.toInt = st) {J : Nat → Nat → Int64} : ∀ (f : Nat) (I : Nat → Nat → Int32) (e : Int32) (m : Nat), n - (st + (m + 1)) = f → (I 86 2).toInt = n → e.toInt = ((st + (m + 1) : Nat) : Int) → st + (m + 1) ≤ n → (∀ q, st ≤ q → q < st + (m + 1) → kd (bM I n q).toInt = 2) → I 86 7 = nF (bM I n) st (m + 1) → ∃ (e' : Nat) (y : Int32) (I' : Nat → Nat → Int32), isRn (bM I n) 2 st e' ∧ e' ≤ n ∧ st < e' ∧ y.toInt = e' ∧ I' 86 7 = nF (bM I n) st (e' - st) ∧ I' 86 5 = I 86 5 ∧ alS I I' J J ∧ ∀ v h', xEv L xs (d + 1) 150 236 [.ref 86, .int p, .int c, .int y] [] (124, I', J, R) v h' → xEv L xs (d + 1) 150 185 [.ref 86, .int p, .int c, .int e] [] (124, I, J, R) v h' := by
  intro f
  induction f with
  | zero =>
    intro I e m hf hn he hl hq hJ
    have c1 := rb_run (L := L) (xs := xs) (d := d) (I := I) (J := J) hG hn hn9 he
    have hz := bM_end I (n := n) (q := st + (m + 1)) (by omega)
    rcases di_run (L := L) (xs := xs) (d := d) (I := I) (J := J) hG (bM I n (st + (m + 1))) with ⟨g1, g2, c2⟩ | ⟨g1, c2⟩
    · have := kd_2.mpr ⟨g1, g2⟩
      omega
    · exact ⟨st + (m + 1), e, I, ⟨by omega, hq, by omega⟩, hl, by omega, he, by rw [hJ]; congr 1; omega, rfl, alS_r I J, fun v h' hk => sm_n3 hG c1 c2 hk⟩
  | succ f ih =>
    intro I e m hf hn he hl hq hJ
    have c1 := rb_run (L := L) (xs := xs) (d := d) (I := I) (J := J) hG hn hn9 he
    have ei := i_add1 (x := e) (by omega)
    rcases di_run (L := L) (xs := xs) (d := d) (I := I) (J := J) hG (bM I n (st + (m + 1))) with ⟨g1, g2, c2⟩ | ⟨g1, c2⟩
    · have hk1 := kd_2.mpr ⟨g1, g2⟩
      have es : (e - p).toInt = ((m + 1 : Nat) : Int) := by rw [i_sub (by omega) (by omega)]; omega
      have al : ∀ z : Int32, alS I (uI I 86 7 z) J J := fun z => alS_I z (by decide)
      have hq' : ∀ z : Int32, ∀ q, st ≤ q → q < st + (m + 1 + 1) → kd (bM (uI I 86 7 z) n q).toInt = 2 := by
        intro z q h1 h2
        rw [alS_b (al z)]
        by_cases z : q = st + (m + 1)
        · rw [z]; exact hk1
        · exact hq q h1 (by omega)
      by_cases h8 : m + 1 < 3
      · obtain ⟨e', y, I', a1, a2, a3, a4, a5, a6, a7, a8⟩ := ih (uI I 86 7 (10 * I 86 7 + bM I n (st + (m + 1)) - 48)) (e + 1) (m + 1) (by omega) hn (by omega) (by omega) (hq' _) (by
          rw [uI_s, alS_b (al _), hJ]
          show _ = (if m + 1 < 3 then _ else _)
          rw [if_pos h8])
        rw [alS_b (al _)] at a1 a5
        exact ⟨e', y, I', a1, a2, a3, a4, a5, a6, alS_t (al _) a7, fun v h' hk => sm_n1 hG c1 c2 (by omega) c1 (a8 v h' hk)⟩
      · obtain ⟨e', y, I', a1, a2, a3, a4, a5, a6, a7, a8⟩ := ih (uI I 86 7 (I 86 7)) (e + 1) (m + 1) (by omega) hn (by omega) (by omega) (hq' _) (by
          rw [uI_s, alS_b (al _), hJ]
          show _ = (if m + 1 < 3 then _ else _)
          rw [if_neg h8])
        rw [alS_b (al _)] at a1 a5
        exact ⟨e', y, I', a1, a2, a3, a4, a5, a6, alS_t (al _) a7, fun v h' hk => sm_n2 hG c1 c2 (by omega) (a8 v h' hk)⟩
    · exact ⟨st + (m + 1), e, I, ⟨by omega, hq, fun z => g1 (kd_2.mp z)⟩, hl, by omega, he, by rw [hJ]; congr 1; omega, rfl, alS_r I J, fun v h' hk => sm_n3 hG c1 c2 hk⟩
/-- scan -/
theorem sm_run (hG : aGd R) (h4 : 4 ≤ d + 1) {n p : Nat} (hn9 : n ≤ 900) {I : Nat → Nat → Int32} {J : Nat → Nat → Int64} (hn : (I 86 2).toInt = n) (hp : (I 86 6).toInt = p) (hpn : p ≤ n) : ∃ (st k e : Nat) (I' : Nat → Nat → Int32) (J' : Nat → Nat → Int64), xEv L xs (d + 2) 150 0 [.ref 86, xmk, xmk, xmk] [] (124, I, J, R) none (124, I', J', R) ∧ isTok (bM I n) p st k e ∧ st ≤ n ∧ e ≤ n ∧ st ≤ e ∧ (I' 86 6).toInt = e ∧ (I' 86 3).toInt = rSo k (e - st) ∧ (I' 86 5).toInt = st ∧ (k = 1 → J' 86 10 = wF (bM I n) st (e - st)) ∧ (k = 2 → I' 86 7 = nF (bM I n) st (e - st)) ∧ (rSo k (e - st) = 1 → ((∃ j : Nat, j < 6 ∧ (I' 86 4).toInt = j ∧ isKw (bM I n) st (e - st) j) ∨ ((I' 86 4).toInt = -1 ∧ ∀ j : Nat, j < 6 → ¬ isKw (bM I n) st (e - st) j))) ∧ alS I I' J J' := by
  obtain ⟨st, q, a1, a2, a3, a4⟩ := ms_1 (L := L) (xs := xs) (d := d + 1) (R := R) hG hn9 (J := J) hn xmk xmk _ (I 86 6) p rfl hp hpn
  have up : ∀ v h', xEv L xs (d + 2) 150 31 [.ref 86, .int q, xmk, xmk] [] (124, I, J, R) v h' → xEv L xs (d + 2) 150 0 [.ref 86, xmk, xmk, xmk] [] (124, I, J, R) v h' := fun v h' hk => sm_0 hG (a4 v h' hk)
  have hne : kd (bM I n st).toInt ≠ 4 := a1.2.2
  have hkl := kd_le (bM I n st).toInt
  have ei := i_add1 (x := q) (by omega)
  have al1 : alS I (uI (uI I 86 5 q) 86 4 (-1)) J J := alS_t (alS_I _ (by decide)) (alS_I _ (by decide))
  have al0 : alS I (uI I 86 5 q) J J := alS_I _ (by decide)
  have c1 := rb_run (L := L) (xs := xs) (d := d + 1) (I := uI I 86 5 q) (J := J) hG (n := n) hn hn9 (i := q) a3
  rw [alS_b al0] at c1
  have hlt : kd (bM I n st).toInt ≠ 0 → st < n := fun h => Nat.not_le.mp fun hle => h (bM_end I hle)
  by_cases h0 : kd (bM I n st).toInt = 0
  · have z0 := kd_0.mp h0
    refine ⟨st, _, st, _, _, up _ _ (sm_e hG c1 z0), ⟨a1, rfl, fun h => by omega, fun _ => rfl, fun h => by omega⟩, a2, a2, Nat.le_refl _, a3, ?_, a3, fun h => by omega, fun h => by omega, fun h => ?_, alS_t al1 (alS_t (alS_I _ (by decide)) (alS_I _ (by decide)))⟩
    · unfold rSo
      rw [if_pos h0]
      rfl
    · unfold rSo at h
      rw [if_pos h0] at h
      omega
  have hst := hlt h0
  have zm : (bM I n st).toInt ≠ -1 := fun z => h0 (kd_0.mpr z)
  rcases sa_run (L := L) (xs := xs) (d := d + 1) (I := uI (uI I 86 5 q) 86 4 (-1)) (J := J) hG (bM I n st) with ⟨g1, g2, c2⟩ | ⟨g1, c2⟩
  · have k1 := kd_1.mpr ⟨g1, g2⟩
    obtain ⟨e, y, J', b1, b2, b3, b4, b5, b6⟩ := ms_w (L := L) (xs := xs) (d := d + 1) (R := R) (n := n) (st := st) hG hn9 (p := q) (c := bM I n st) a3 _ (uI (uI I 86 5 q) 86 4 (-1)) (uL J 86 10 0) q 0 rfl hn a3 (by omega) (fun q h1 h2 => by omega) (uL_s J 86 10 0)
    rw [alS_b al1] at b1 b4
    have hse : st < e := by
      refine Nat.lt_of_le_of_ne b1.1 (fun z => ?_)
      rw [← z] at b1
      exact b1.2.2 k1
    have es : (y - q).toInt = ((e - st : Nat) : Int) := by rw [i_sub (by omega) (by omega)]; omega
    have tk : isTok (bM I n) p st (kd (bM I n st).toInt) e := ⟨a1, rfl, fun _ => by rw [k1]; exact b1, fun h => by omega, fun h => by omega⟩
    have al2 : alS I (uI (uI I 86 5 q) 86 4 (-1)) J J' := alS_t al1 (alS_t (alS_L (I := uI (uI I 86 5 q) 86 4 (-1)) (J := J) 0) b5)
    by_cases h8 : 8 < e - st
    · refine ⟨st, _, e, _, J', up _ _ (sm_w hG c1 zm c2 (b6 _ _ (sm_w4 hG (by omega)))), tk, a2, b2, by omega, b3, ?_, a3, fun _ => b4, fun h => by omega, fun h => ?_, alS_t al2 (alS_t (alS_I _ (by decide)) (alS_I _ (by decide)))⟩
      · unfold rSo
        rw [if_neg h0, if_pos k1, if_pos h8]
        rfl
      · unfold rSo at h
        rw [if_neg h0, if_pos k1, if_pos h8] at h
        omega
    · have alk : alS I (uI (uI (uI I 86 5 q) 86 4 (-1)) 86 3 1) J J' := alS_t al2 (alS_I _ (by decide))
      obtain ⟨z, c3, hz⟩ := key_run (L := L) (xs := xs) (d := d) (I := uI (uI (uI I 86 5 q) 86 4 (-1)) 86 3 1) (J := J') (R := R) (n := n) (P := st) (M := e - st) (p := q) (m := y - q) hG h4 hn hn9 a3 (by omega) es (by omega)
      rw [alS_b alk] at hz
      refine ⟨st, _, e, _, J', up _ _ (sm_w hG c1 zm c2 (b6 _ _ (sm_w5 hG (by omega) c3))), tk, a2, b2, by omega, b3, ?_, a3, fun _ => b4, fun h => by omega, fun _ => hz, alS_t alk (alS_t (alS_I _ (by decide)) (alS_I _ (by decide)))⟩
      unfold rSo
      rw [if_neg h0, if_pos k1, if_neg h8]
      rfl
  have n1 : kd (bM I n st).toInt ≠ 1 := fun z => g1 (kd_1.mp z)
  rcases di_run (L := L) (xs := xs) (d := d + 1) (I := uI (uI I 86 5 q) 86 4 (-1)) (J := J) hG (bM I n st) with ⟨g3, g4, c3⟩ | ⟨g3, c3⟩
  · have k2 := kd_2.mpr ⟨g3, g4⟩
    have al2 : alS I (uI (uI (uI I 86 5 q) 86 4 (-1)) 86 7 (bM I n st - 48)) J J := alS_t al1 (alS_I _ (by decide))
    obtain ⟨e, y, I', b1, b2, b3, b4, b5, b6, b7, b8⟩ := ms_n (L := L) (xs := xs) (d := d + 1) (R := R) (n := n) (st := st) hG hn9 (p := q) (c := bM I n st) a3 (J := J) _ (uI (uI (uI I 86 5 q) 86 4 (-1)) 86 7 (bM I n st - 48)) (q + 1) 0 rfl hn (by omega) (by omega) (fun r h1 h2 => by
      have e : r = st := by omega
      rw [alS_b al2, e]
      exact k2) (by
      rw [uI_s, alS_b al2]
      rfl)
    rw [alS_b al2] at b1 b5
    have es : (y - q).toInt = ((e - st : Nat) : Int) := by rw [i_sub (by omega) (by omega)]; omega
    have tk : isTok (bM I n) p st (kd (bM I n st).toInt) e := ⟨a1, rfl, fun _ => by rw [k2]; exact b1, fun h => by omega, fun h => by omega⟩
    have e5 : (I' 86 5).toInt = st := by rw [b6]; exact a3
    by_cases h8 : 3 < e - st
    · refine ⟨st, _, e, _, J, up _ _ (sm_n hG c1 zm c2 c3 (b8 _ _ (sm_n4 hG (by omega)))), tk, a2, b2, by omega, b4, ?_, e5, fun h => by omega, fun _ => b5, fun h => ?_, alS_t (alS_t al2 b7) (alS_t (alS_I _ (by decide)) (alS_I _ (by decide)))⟩
      · unfold rSo
        rw [if_neg h0, if_neg n1, if_pos k2, if_pos h8]
        rfl
      · unfold rSo at h
        rw [if_neg h0, if_neg n1, if_pos k2, if_pos h8] at h
        omega
    · refine ⟨st, _, e, _, J, up _ _ (sm_n hG c1 zm c2 c3 (b8 _ _ (sm_n5 hG (by omega)))), tk, a2, b2, by omega, b4, ?_, e5, fun h => by omega, fun _ => b5, fun h => ?_, alS_t (alS_t al2 b7) (alS_t (alS_I _ (by decide)) (alS_I _ (by decide)))⟩
      · unfold rSo
        rw [if_neg h0, if_neg n1, if_pos k2, if_neg h8]
        rfl
      · unfold rSo at h
        rw [if_neg h0, if_neg n1, if_pos k2, if_neg h8] at h
        omega
  have n2 : kd (bM I n st).toInt ≠ 2 := fun z => g3 (kd_2.mp z)
  by_cases h3 : (bM I n st).toInt = 59
  · have k3 := kd_3.mpr h3
    refine ⟨st, _, st + 1, _, _, up _ _ (sm_s hG c1 zm c2 c3 h3), ⟨a1, rfl, fun h => by omega, fun h => by omega, fun _ => rfl⟩, a2, hst, by omega, ?_, ?_, a3, fun h => by omega, fun h => by omega, fun h => ?_, alS_t al1 (alS_t (alS_I _ (by decide)) (alS_I _ (by decide)))⟩
    · show (q + 1).toInt = _
      omega
    · unfold rSo
      rw [if_neg h0, if_neg n1, if_neg n2, if_pos k3]
      rfl
    · unfold rSo at h
      rw [if_neg h0, if_neg n1, if_neg n2, if_pos k3] at h
      omega
  · have n3 : kd (bM I n st).toInt ≠ 3 := fun z => h3 (kd_3.mp z)
    refine ⟨st, _, st + 1, _, _, up _ _ (sm_x hG c1 zm c2 c3 h3), ⟨a1, rfl, fun h => by omega, fun h => by omega, fun _ => rfl⟩, a2, hst, by omega, ?_, ?_, a3, fun h => by omega, fun h => by omega, fun h => ?_, alS_t al1 (alS_t (alS_I _ (by decide)) (alS_I _ (by decide)))⟩
    · show (q + 1).toInt = _
      omega
    · unfold rSo
      rw [if_neg h0, if_neg n1, if_neg n2, if_neg n3]
      rfl
    · unfold rSo at h
      rw [if_neg h0, if_neg n1, if_neg n2, if_neg n3] at h
      omega
end SM
