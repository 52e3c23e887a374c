set_option maxRecDepth 20000 in
theorem oA {L : Nat} {xs : Nat → Int32} {d : Nat} {I : Nat → Nat → Int32} {J : Nat → Nat → Int64} {R : Nat → Nat → Nat} {t : Int32} (hG : aGd R) (n1 : 0 ≤ t.toInt) (m1 : t.toInt < 64) (n2 : 0 ≤ (I 101 t.toNatClampNeg).toInt) (m2 : (I 101 t.toNatClampNeg).toInt < 32) : xEv L xs d 177 0 [.ref 86, .int t] [] (124, I, J, R) (some (.int (I 92 (I 101 t.toNatClampNeg).toNatClampNeg))) (124, I, J, R) := by
  refine ev_go 1 (pc1 := 1) (lv1 := [.ref 86, .int t]) (st1 := [.ref 86]) (h1 := (124, I, J, R)) rfl ?_
  refine ev_gf (c := 86) (t := 92) (X := R 86 16) rfl rfl (fun _ => rfl) rfl (hG 86 16 92 rfl rfl) ?_
  refine ev_go 1 (pc1 := 5) (lv1 := [.ref 86, .int t]) (st1 := [.ref 86, .ref 92]) (h1 := (124, I, J, R)) rfl ?_
  refine ev_gf (c := 86) (t := 101) (X := R 86 27) rfl rfl (fun _ => rfl) rfl (hG 86 27 101 rfl rfl) ?_
  refine ev_go 1 (pc1 := 9) (lv1 := [.ref 86, .int t]) (st1 := [.int t, .ref 101, .ref 92]) (h1 := (124, I, J, R)) rfl ?_
  refine ev_ild (n := 64) rfl rfl (fun _ => rfl) n1 m1 ?_
  refine ev_ild (n := 32) rfl rfl (fun _ => rfl) n2 m2 ?_
  exact ev_ret rfl rfl
set_option maxRecDepth 20000 in
theorem tA {L : Nat} {xs : Nat → Int32} {d : Nat} {I : Nat → Nat → Int32} {J : Nat → Nat → Int64} {R : Nat → Nat → Nat} {t : Int32} (hG : aGd R) (n1 : 0 ≤ t.toInt) (m1 : t.toInt < 64) (n2 : 0 ≤ (I 101 t.toNatClampNeg).toInt) (m2 : (I 101 t.toNatClampNeg).toInt < 32) : xEv L xs d 178 0 [.ref 86, .int t] [] (124, I, J, R) (some (.int (I 93 (I 101 t.toNatClampNeg).toNatClampNeg))) (124, I, J, R) := by
  refine ev_go 1 (pc1 := 1) (lv1 := [.ref 86, .int t]) (st1 := [.ref 86]) (h1 := (124, I, J, R)) rfl ?_
  refine ev_gf (c := 86) (t := 93) (X := R 86 17) rfl rfl (fun _ => rfl) rfl (hG 86 17 93 rfl rfl) ?_
  refine ev_go 1 (pc1 := 5) (lv1 := [.ref 86, .int t]) (st1 := [.ref 86, .ref 93]) (h1 := (124, I, J, R)) rfl ?_
  refine ev_gf (c := 86) (t := 101) (X := R 86 27) rfl rfl (fun _ => rfl) rfl (hG 86 27 101 rfl rfl) ?_
  refine ev_go 1 (pc1 := 9) (lv1 := [.ref 86, .int t]) (st1 := [.int t, .ref 101, .ref 93]) (h1 := (124, I, J, R)) rfl ?_
  refine ev_ild (n := 64) rfl rfl (fun _ => rfl) n1 m1 ?_
  refine ev_ild (n := 32) rfl rfl (fun _ => rfl) n2 m2 ?_
  exact ev_ret rfl rfl
set_option maxRecDepth 20000 in
theorem iS_1 {L : Nat} {xs : Nat → Int32} {d : Nat} {I : Nat → Nat → Int32} {J : Nat → Nat → Int64} {R : Nat → Nat → Nat} {t : Int32} (hG : aGd R) (n1 : 0 ≤ t.toInt) (m1 : t.toInt < 64) (n2 : 0 ≤ (I 101 t.toNatClampNeg).toInt) (m2 : (I 101 t.toNatClampNeg).toInt < 32) (b1 : (I 95 (I 101 t.toNatClampNeg).toNatClampNeg).toInt = 10) : xEv L xs d 186 0 [.ref 86, .int t] [] (124, I, J, R) (some (.int 1)) (124, I, J, R) := by
  refine ev_go 1 (pc1 := 1) (lv1 := [.ref 86, .int t]) (st1 := [.ref 86]) (h1 := (124, I, J, R)) rfl ?_
  refine ev_gf (c := 86) (t := 95) (X := R 86 19) rfl rfl (fun _ => rfl) rfl (hG 86 19 95 rfl rfl) ?_
  refine ev_go 1 (pc1 := 5) (lv1 := [.ref 86, .int t]) (st1 := [.ref 86, .ref 95]) (h1 := (124, I, J, R)) rfl ?_
  refine ev_gf (c := 86) (t := 101) (X := R 86 27) rfl rfl (fun _ => rfl) rfl (hG 86 27 101 rfl rfl) ?_
  refine ev_go 1 (pc1 := 9) (lv1 := [.ref 86, .int t]) (st1 := [.int t, .ref 101, .ref 95]) (h1 := (124, I, J, R)) rfl ?_
  refine ev_ild (n := 64) rfl rfl (fun _ => rfl) n1 m1 ?_
  refine ev_ild (n := 32) rfl rfl (fun _ => rfl) n2 m2 ?_
  refine ev_go 1 (pc1 := 13) (lv1 := [.ref 86, .int t]) (st1 := [.int 10, .int (I 95 (I 101 t.toNatClampNeg).toNatClampNeg)]) (h1 := (124, I, J, R)) rfl ?_
  refine ev_br (b1 := false) rfl rfl (xcd_nne (x := (I 95 (I 101 t.toNatClampNeg).toNatClampNeg)) (y := 10) (by rw [show ((10 : Int32)).toInt = 10 from by decide]; first | exact b1 | omega)) ?_
  refine ev_go 2 (pc1 := 21) (lv1 := [.ref 86, .int t]) (st1 := [.int 1]) (h1 := (124, I, J, R)) rfl ?_
  exact ev_ret rfl rfl
set_option maxRecDepth 20000 in
theorem iS_0 {L : Nat} {xs : Nat → Int32} {d : Nat} {I : Nat → Nat → Int32} {J : Nat → Nat → Int64} {R : Nat → Nat → Nat} {t : Int32} (hG : aGd R) (n1 : 0 ≤ t.toInt) (m1 : t.toInt < 64) (n2 : 0 ≤ (I 101 t.toNatClampNeg).toInt) (m2 : (I 101 t.toNatClampNeg).toInt < 32) (b1 : (I 95 (I 101 t.toNatClampNeg).toNatClampNeg).toInt ≠ 10) : xEv L xs d 186 0 [.ref 86, .int t] [] (124, I, J, R) (some (.int 0)) (124, I, J, R) := by
  refine ev_go 1 (pc1 := 1) (lv1 := [.ref 86, .int t]) (st1 := [.ref 86]) (h1 := (124, I, J, R)) rfl ?_
  refine ev_gf (c := 86) (t := 95) (X := R 86 19) rfl rfl (fun _ => rfl) rfl (hG 86 19 95 rfl rfl) ?_
  refine ev_go 1 (pc1 := 5) (lv1 := [.ref 86, .int t]) (st1 := [.ref 86, .ref 95]) (h1 := (124, I, J, R)) rfl ?_
  refine ev_gf (c := 86) (t := 101) (X := R 86 27) rfl rfl (fun _ => rfl) rfl (hG 86 27 101 rfl rfl) ?_
  refine ev_go 1 (pc1 := 9) (lv1 := [.ref 86, .int t]) (st1 := [.int t, .ref 101, .ref 95]) (h1 := (124, I, J, R)) rfl ?_
  refine ev_ild (n := 64) rfl rfl (fun _ => rfl) n1 m1 ?_
  refine ev_ild (n := 32) rfl rfl (fun _ => rfl) n2 m2 ?_
  refine ev_go 1 (pc1 := 13) (lv1 := [.ref 86, .int t]) (st1 := [.int 10, .int (I 95 (I 101 t.toNatClampNeg).toNatClampNeg)]) (h1 := (124, I, J, R)) rfl ?_
  refine ev_br (b1 := true) rfl rfl (xcd_ne (x := (I 95 (I 101 t.toNatClampNeg).toNatClampNeg)) (y := 10) (by rw [show ((10 : Int32)).toInt = 10 from by decide]; first | exact b1 | omega)) ?_
  refine ev_go 1 (pc1 := 21) (lv1 := [.ref 86, .int t]) (st1 := [.int 0]) (h1 := (124, I, J, R)) rfl ?_
  exact ev_ret rfl rfl
set_option maxRecDepth 20000 in
theorem sM_s {L : Nat} {xs : Nat → Int32} {d : Nat} {I : Nat → Nat → Int32} {J : Nat → Nat → Int64} {R : Nat → Nat → Nat} {b fr to tm : Int32} (hG : aGd R)  {v : Option Value} {h' : xH} (hk : xEv L xs d 185 9 [.ref 86, .int b, .int fr, .int to, .int tm, .int (1 <<< (fr &&& 31)), .int tm, xmk, xmk, xmk] [] (124, I, J, R) v h') : xEv L xs d 185 0 [.ref 86, .int b, .int fr, .int to, .int tm, xmk, xmk, xmk, xmk, xmk] [] (124, I, J, R) v h' := by
  refine ev_go 2 (pc1 := 2) (lv1 := [.ref 86, .int b, .int fr, .int to, .int tm, xmk, xmk, xmk, xmk, xmk]) (st1 := [.int fr, .int 1]) (h1 := (124, I, J, R)) rfl ?_
  refine ev_go 4 (pc1 := 9) (lv1 := [.ref 86, .int b, .int fr, .int to, .int tm, .int (1 <<< (fr &&& 31)), .int tm, xmk, xmk, xmk]) (st1 := []) (h1 := (124, I, J, R)) rfl ?_
  exact hk
set_option maxRecDepth 20000 in
theorem sM_e {L : Nat} {xs : Nat → Int32} {d : Nat} {I : Nat → Nat → Int32} {J : Nat → Nat → Int64} {R : Nat → Nat → Nat} {b fr to tm x t : Int32} {w7 w8 w9 : Value} (hG : aGd R) (b1 : t.toInt ≥ (I 86 26).toInt) : xEv L xs d 185 9 [.ref 86, .int b, .int fr, .int to, .int tm, .int x, .int t, w7, w8, w9] [] (124, I, J, R) (some (.int (I 86 26))) (124, I, J, R) := by
  refine ev_go 3 (pc1 := 15) (lv1 := [.ref 86, .int b, .int fr, .int to, .int tm, .int x, .int t, w7, w8, w9]) (st1 := [.int (I 86 26), .int t]) (h1 := (124, I, J, R)) rfl ?_
  refine ev_br (b1 := true) rfl rfl (xcd_ge (x := t) (y := (I 86 26)) (by first | exact b1 | omega)) ?_
  refine ev_go 2 (pc1 := 131) (lv1 := [.ref 86, .int b, .int fr, .int to, .int tm, .int x, .int t, w7, w8, w9]) (st1 := [.int (I 86 26)]) (h1 := (124, I, J, R)) rfl ?_
  exact ev_ret rfl rfl
set_option maxRecDepth 20000 in
theorem sM_n {L : Nat} {xs : Nat → Int32} {d : Nat} {I : Nat → Nat → Int32} {J : Nat → Nat → Int64} {R : Nat → Nat → Nat} {b fr to tm x t : Int32} {w7 w8 w9 : Value} (hG : aGd R) (b1 : t.toInt < (I 86 26).toInt) (c1 : xEv L xs d 186 0 [.ref 86, .int t] [] (124, I, J, R) (some (.int 0)) (124, I, J, R)) {v : Option Value} {h' : xH} (hk : xEv L xs (d + 1) 185 9 [.ref 86, .int b, .int fr, .int to, .int tm, .int x, .int (t + 1), w7, w8, w9] [] (124, I, J, R) v h') : xEv L xs (d + 1) 185 9 [.ref 86, .int b, .int fr, .int to, .int tm, .int x, .int t, w7, w8, w9] [] (124, I, J, R) v h' := by
  refine ev_go 3 (pc1 := 15) (lv1 := [.ref 86, .int b, .int fr, .int to, .int tm, .int x, .int t, w7, w8, w9]) (st1 := [.int (I 86 26), .int t]) (h1 := (124, I, J, R)) rfl ?_
  refine ev_br (b1 := false) rfl rfl (xcd_nge (x := t) (y := (I 86 26)) (by first | exact b1 | omega)) ?_
  refine ev_go 2 (pc1 := 21) (lv1 := [.ref 86, .int b, .int fr, .int to, .int tm, .int x, .int t, w7, w8, w9]) (st1 := [.int t, .ref 86]) (h1 := (124, I, J, R)) rfl ?_
  refine ev_call (v1 := (some (.int 0))) (h1 := (124, I, J, R)) rfl rfl c1 ?_
  refine ev_go 4 (pc1 := 9) (lv1 := [.ref 86, .int b, .int fr, .int to, .int tm, .int x, .int (t + 1), w7, w8, w9]) (st1 := []) (h1 := (124, I, J, R)) rfl ?_
  exact hk
set_option maxRecDepth 20000 in
theorem sM_0 {L : Nat} {xs : Nat → Int32} {d : Nat} {I : Nat → Nat → Int32} {J : Nat → Nat → Int64} {R : Nat → Nat → Nat} {b fr to tm x t r1 r2 : Int32} {w7 w8 w9 : Value} (hG : aGd R) (b1 : t.toInt < (I 86 26).toInt) (c1 : xEv L xs d 186 0 [.ref 86, .int t] [] (124, I, J, R) (some (.int 1)) (124, I, J, R)) (c2 : xEv L xs d 177 0 [.ref 86, .int t] [] (124, I, J, R) (some (.int r1)) (124, I, J, R)) (c3 : xEv L xs d 178 0 [.ref 86, .int t] [] (124, I, J, R) (some (.int r2)) (124, I, J, R)) {v : Option Value} {h' : xH} (hk : xEv L xs (d + 1) 185 50 [.ref 86, .int b, .int fr, .int to, .int tm, .int x, .int t, .int r1, .int r2, .int x] [] (124, I, J, R) v h') : xEv L xs (d + 1) 185 9 [.ref 86, .int b, .int fr, .int to, .int tm, .int x, .int t, w7, w8, w9] [] (124, I, J, R) v h' := by
  refine ev_go 3 (pc1 := 15) (lv1 := [.ref 86, .int b, .int fr, .int to, .int tm, .int x, .int t, w7, w8, w9]) (st1 := [.int (I 86 26), .int t]) (h1 := (124, I, J, R)) rfl ?_
  refine ev_br (b1 := false) rfl rfl (xcd_nge (x := t) (y := (I 86 26)) (by first | exact b1 | omega)) ?_
  refine ev_go 2 (pc1 := 21) (lv1 := [.ref 86, .int b, .int fr, .int to, .int tm, .int x, .int t, w7, w8, w9]) (st1 := [.int t, .ref 86]) (h1 := (124, I, J, R)) rfl ?_
  refine ev_call (v1 := (some (.int 1))) (h1 := (124, I, J, R)) rfl rfl c1 ?_
  refine ev_go 3 (pc1 := 33) (lv1 := [.ref 86, .int b, .int fr, .int to, .int tm, .int x, .int t, w7, w8, w9]) (st1 := [.int t, .ref 86]) (h1 := (124, I, J, R)) rfl ?_
  refine ev_call (v1 := (some (.int r1))) (h1 := (124, I, J, R)) rfl rfl c2 ?_
  refine ev_go 3 (pc1 := 41) (lv1 := [.ref 86, .int b, .int fr, .int to, .int tm, .int x, .int t, .int r1, w8, w9]) (st1 := [.int t, .ref 86]) (h1 := (124, I, J, R)) rfl ?_
  refine ev_call (v1 := (some (.int r2))) (h1 := (124, I, J, R)) rfl rfl c3 ?_
  refine ev_go 3 (pc1 := 50) (lv1 := [.ref 86, .int b, .int fr, .int to, .int tm, .int x, .int t, .int r1, .int r2, .int x]) (st1 := []) (h1 := (124, I, J, R)) rfl ?_
  exact hk
set_option maxRecDepth 20000 in
theorem sM_a0 {L : Nat} {xs : Nat → Int32} {d : Nat} {I : Nat → Nat → Int32} {J : Nat → Nat → Int64} {R : Nat → Nat → Nat} {b fr to tm x t r1 r2 y : Int32} (hG : aGd R) (b1 : ((y >>> (r1 &&& 31)) &&& 1).toInt ≠ 1) {v : Option Value} {h' : xH} (hk : xEv L xs d 185 79 [.ref 86, .int b, .int fr, .int to, .int tm, .int x, .int t, .int r1, .int r2, .int y] [] (124, I, J, R) v h') : xEv L xs d 185 50 [.ref 86, .int b, .int fr, .int to, .int tm, .int x, .int t, .int r1, .int r2, .int y] [] (124, I, J, R) v h' := by
  refine ev_go 2 (pc1 := 54) (lv1 := [.ref 86, .int b, .int fr, .int to, .int tm, .int x, .int t, .int r1, .int r2, .int y]) (st1 := [.int r1, .int y]) (h1 := (124, I, J, R)) rfl ?_
  refine ev_go 4 (pc1 := 58) (lv1 := [.ref 86, .int b, .int fr, .int to, .int tm, .int x, .int t, .int r1, .int r2, .int y]) (st1 := [.int 1, .int ((y >>> (r1 &&& 31)) &&& 1)]) (h1 := (124, I, J, R)) rfl ?_
  refine ev_br (b1 := true) rfl rfl (xcd_ne (x := ((y >>> (r1 &&& 31)) &&& 1)) (y := 1) (by rw [show ((1 : Int32)).toInt = 1 from by decide]; first | exact b1 | omega)) ?_
  exact hk
set_option maxRecDepth 20000 in
theorem sM_a1 {L : Nat} {xs : Nat → Int32} {d : Nat} {I : Nat → Nat → Int32} {J : Nat → Nat → Int64} {R : Nat → Nat → Nat} {b fr to tm x t r1 r2 y : Int32} (hG : aGd R) (b1 : ((y >>> (r1 &&& 31)) &&& 1).toInt = 1) (b2 : ((b >>> (r2 &&& 31)) &&& 1).toInt ≠ 0) {v : Option Value} {h' : xH} (hk : xEv L xs d 185 79 [.ref 86, .int b, .int fr, .int to, .int tm, .int x, .int t, .int r1, .int r2, .int y] [] (124, I, J, R) v h') : xEv L xs d 185 50 [.ref 86, .int b, .int fr, .int to, .int tm, .int x, .int t, .int r1, .int r2, .int y] [] (124, I, J, R) v h' := by
  refine ev_go 2 (pc1 := 54) (lv1 := [.ref 86, .int b, .int fr, .int to, .int tm, .int x, .int t, .int r1, .int r2, .int y]) (st1 := [.int r1, .int y]) (h1 := (124, I, J, R)) rfl ?_
  refine ev_go 4 (pc1 := 58) (lv1 := [.ref 86, .int b, .int fr, .int to, .int tm, .int x, .int t, .int r1, .int r2, .int y]) (st1 := [.int 1, .int ((y >>> (r1 &&& 31)) &&& 1)]) (h1 := (124, I, J, R)) rfl ?_
  refine ev_br (b1 := false) rfl rfl (xcd_nne (x := ((y >>> (r1 &&& 31)) &&& 1)) (y := 1) (by rw [show ((1 : Int32)).toInt = 1 from by decide]; first | exact b1 | omega)) ?_
  refine ev_go 2 (pc1 := 64) (lv1 := [.ref 86, .int b, .int fr, .int to, .int tm, .int x, .int t, .int r1, .int r2, .int y]) (st1 := [.int r2, .int b]) (h1 := (124, I, J, R)) rfl ?_
  refine ev_go 3 (pc1 := 67) (lv1 := [.ref 86, .int b, .int fr, .int to, .int tm, .int x, .int t, .int r1, .int r2, .int y]) (st1 := [.int ((b >>> (r2 &&& 31)) &&& 1)]) (h1 := (124, I, J, R)) rfl ?_
  refine ev_br (b1 := true) rfl rfl (xcd_ne (x := ((b >>> (r2 &&& 31)) &&& 1)) (y := 0) (by rw [show ((0 : Int32)).toInt = 0 from by decide]; first | exact b2 | omega)) ?_
  exact hk
set_option maxRecDepth 20000 in
theorem sM_a2 {L : Nat} {xs : Nat → Int32} {d : Nat} {I : Nat → Nat → Int32} {J : Nat → Nat → Int64} {R : Nat → Nat → Nat} {b fr to tm x t r1 r2 y : Int32} (hG : aGd R) (b1 : ((y >>> (r1 &&& 31)) &&& 1).toInt = 1) (b2 : ((b >>> (r2 &&& 31)) &&& 1).toInt = 0) {v : Option Value} {h' : xH} (hk : xEv L xs d 185 79 [.ref 86, .int b, .int fr, .int to, .int tm, .int (x ||| (1 <<< (r2 &&& 31))), .int t, .int r1, .int r2, .int y] [] (124, I, J, R) v h') : xEv L xs d 185 50 [.ref 86, .int b, .int fr, .int to, .int tm, .int x, .int t, .int r1, .int r2, .int y] [] (124, I, J, R) v h' := by
  refine ev_go 2 (pc1 := 54) (lv1 := [.ref 86, .int b, .int fr, .int to, .int tm, .int x, .int t, .int r1, .int r2, .int y]) (st1 := [.int r1, .int y]) (h1 := (124, I, J, R)) rfl ?_
  refine ev_go 4 (pc1 := 58) (lv1 := [.ref 86, .int b, .int fr, .int to, .int tm, .int x, .int t, .int r1, .int r2, .int y]) (st1 := [.int 1, .int ((y >>> (r1 &&& 31)) &&& 1)]) (h1 := (124, I, J, R)) rfl ?_
  refine ev_br (b1 := false) rfl rfl (xcd_nne (x := ((y >>> (r1 &&& 31)) &&& 1)) (y := 1) (by rw [show ((1 : Int32)).toInt = 1 from by decide]; first | exact b1 | omega)) ?_
  refine ev_go 2 (pc1 := 64) (lv1 := [.ref 86, .int b, .int fr, .int to, .int tm, .int x, .int t, .int r1, .int r2, .int y]) (st1 := [.int r2, .int b]) (h1 := (124, I, J, R)) rfl ?_
  refine ev_go 3 (pc1 := 67) (lv1 := [.ref 86, .int b, .int fr, .int to, .int tm, .int x, .int t, .int r1, .int r2, .int y]) (st1 := [.int ((b >>> (r2 &&& 31)) &&& 1)]) (h1 := (124, I, J, R)) rfl ?_
  refine ev_br (b1 := false) rfl rfl (xcd_nne (x := ((b >>> (r2 &&& 31)) &&& 1)) (y := 0) (by rw [show ((0 : Int32)).toInt = 0 from by decide]; first | exact b2 | omega)) ?_
  refine ev_go 3 (pc1 := 75) (lv1 := [.ref 86, .int b, .int fr, .int to, .int tm, .int x, .int t, .int r1, .int r2, .int y]) (st1 := [.int r2, .int 1, .int x]) (h1 := (124, I, J, R)) rfl ?_
  refine ev_go 3 (pc1 := 79) (lv1 := [.ref 86, .int b, .int fr, .int to, .int tm, .int (x ||| (1 <<< (r2 &&& 31))), .int t, .int r1, .int r2, .int y]) (st1 := []) (h1 := (124, I, J, R)) rfl ?_
  exact hk
set_option maxRecDepth 20000 in
theorem sM_b0 {L : Nat} {xs : Nat → Int32} {d : Nat} {I : Nat → Nat → Int32} {J : Nat → Nat → Int64} {R : Nat → Nat → Nat} {b fr to tm x t r1 r2 y : Int32} (hG : aGd R) (b1 : ((y >>> (r2 &&& 31)) &&& 1).toInt ≠ 1) {v : Option Value} {h' : xH} (hk : xEv L xs d 185 108 [.ref 86, .int b, .int fr, .int to, .int tm, .int x, .int t, .int r1, .int r2, .int y] [] (124, I, J, R) v h') : xEv L xs d 185 79 [.ref 86, .int b, .int fr, .int to, .int tm, .int x, .int t, .int r1, .int r2, .int y] [] (124, I, J, R) v h' := by
  refine ev_go 2 (pc1 := 83) (lv1 := [.ref 86, .int b, .int fr, .int to, .int tm, .int x, .int t, .int r1, .int r2, .int y]) (st1 := [.int r2, .int y]) (h1 := (124, I, J, R)) rfl ?_
  refine ev_go 4 (pc1 := 87) (lv1 := [.ref 86, .int b, .int fr, .int to, .int tm, .int x, .int t, .int r1, .int r2, .int y]) (st1 := [.int 1, .int ((y >>> (r2 &&& 31)) &&& 1)]) (h1 := (124, I, J, R)) rfl ?_
  refine ev_br (b1 := true) rfl rfl (xcd_ne (x := ((y >>> (r2 &&& 31)) &&& 1)) (y := 1) (by rw [show ((1 : Int32)).toInt = 1 from by decide]; first | exact b1 | omega)) ?_
  exact hk
set_option maxRecDepth 20000 in
theorem sM_b1 {L : Nat} {xs : Nat → Int32} {d : Nat} {I : Nat → Nat → Int32} {J : Nat → Nat → Int64} {R : Nat → Nat → Nat} {b fr to tm x t r1 r2 y : Int32} (hG : aGd R) (b1 : ((y >>> (r2 &&& 31)) &&& 1).toInt = 1) (b2 : ((b >>> (r1 &&& 31)) &&& 1).toInt ≠ 0) {v : Option Value} {h' : xH} (hk : xEv L xs d 185 108 [.ref 86, .int b, .int fr, .int to, .int tm, .int x, .int t, .int r1, .int r2, .int y] [] (124, I, J, R) v h') : xEv L xs d 185 79 [.ref 86, .int b, .int fr, .int to, .int tm, .int x, .int t, .int r1, .int r2, .int y] [] (124, I, J, R) v h' := by
  refine ev_go 2 (pc1 := 83) (lv1 := [.ref 86, .int b, .int fr, .int to, .int tm, .int x, .int t, .int r1, .int r2, .int y]) (st1 := [.int r2, .int y]) (h1 := (124, I, J, R)) rfl ?_
  refine ev_go 4 (pc1 := 87) (lv1 := [.ref 86, .int b, .int fr, .int to, .int tm, .int x, .int t, .int r1, .int r2, .int y]) (st1 := [.int 1, .int ((y >>> (r2 &&& 31)) &&& 1)]) (h1 := (124, I, J, R)) rfl ?_
  refine ev_br (b1 := false) rfl rfl (xcd_nne (x := ((y >>> (r2 &&& 31)) &&& 1)) (y := 1) (by rw [show ((1 : Int32)).toInt = 1 from by decide]; first | exact b1 | omega)) ?_
  refine ev_go 2 (pc1 := 93) (lv1 := [.ref 86, .int b, .int fr, .int to, .int tm, .int x, .int t, .int r1, .int r2, .int y]) (st1 := [.int r1, .int b]) (h1 := (124, I, J, R)) rfl ?_
  refine ev_go 3 (pc1 := 96) (lv1 := [.ref 86, .int b, .int fr, .int to, .int tm, .int x, .int t, .int r1, .int r2, .int y]) (st1 := [.int ((b >>> (r1 &&& 31)) &&& 1)]) (h1 := (124, I, J, R)) rfl ?_
  refine ev_br (b1 := true) rfl rfl (xcd_ne (x := ((b >>> (r1 &&& 31)) &&& 1)) (y := 0) (by rw [show ((0 : Int32)).toInt = 0 from by decide]; first | exact b2 | omega)) ?_
  exact hk
set_option maxRecDepth 20000 in
theorem sM_b2 {L : Nat} {xs : Nat → Int32} {d : Nat} {I : Nat → Nat → Int32} {J : Nat → Nat → Int64} {R : Nat → Nat → Nat} {b fr to tm x t r1 r2 y : Int32} (hG : aGd R) (b1 : ((y >>> (r2 &&& 31)) &&& 1).toInt = 1) (b2 : ((b >>> (r1 &&& 31)) &&& 1).toInt = 0) {v : Option Value} {h' : xH} (hk : xEv L xs d 185 108 [.ref 86, .int b, .int fr, .int to, .int tm, .int (x ||| (1 <<< (r1 &&& 31))), .int t, .int r1, .int r2, .int y] [] (124, I, J, R) v h') : xEv L xs d 185 79 [.ref 86, .int b, .int fr, .int to, .int tm, .int x, .int t, .int r1, .int r2, .int y] [] (124, I, J, R) v h' := by
  refine ev_go 2 (pc1 := 83) (lv1 := [.ref 86, .int b, .int fr, .int to, .int tm, .int x, .int t, .int r1, .int r2, .int y]) (st1 := [.int r2, .int y]) (h1 := (124, I, J, R)) rfl ?_
  refine ev_go 4 (pc1 := 87) (lv1 := [.ref 86, .int b, .int fr, .int to, .int tm, .int x, .int t, .int r1, .int r2, .int y]) (st1 := [.int 1, .int ((y >>> (r2 &&& 31)) &&& 1)]) (h1 := (124, I, J, R)) rfl ?_
  refine ev_br (b1 := false) rfl rfl (xcd_nne (x := ((y >>> (r2 &&& 31)) &&& 1)) (y := 1) (by rw [show ((1 : Int32)).toInt = 1 from by decide]; first | exact b1 | omega)) ?_
  refine ev_go 2 (pc1 := 93) (lv1 := [.ref 86, .int b, .int fr, .int to, .int tm, .int x, .int t, .int r1, .int r2, .int y]) (st1 := [.int r1, .int b]) (h1 := (124, I, J, R)) rfl ?_
  refine ev_go 3 (pc1 := 96) (lv1 := [.ref 86, .int b, .int fr, .int to, .int tm, .int x, .int t, .int r1, .int r2, .int y]) (st1 := [.int ((b >>> (r1 &&& 31)) &&& 1)]) (h1 := (124, I, J, R)) rfl ?_
  refine ev_br (b1 := false) rfl rfl (xcd_nne (x := ((b >>> (r1 &&& 31)) &&& 1)) (y := 0) (by rw [show ((0 : Int32)).toInt = 0 from by decide]; first | exact b2 | omega)) ?_
  refine ev_go 3 (pc1 := 104) (lv1 := [.ref 86, .int b, .int fr, .int to, .int tm, .int x, .int t, .int r1, .int r2, .int y]) (st1 := [.int r1, .int 1, .int x]) (h1 := (124, I, J, R)) rfl ?_
  refine ev_go 3 (pc1 := 108) (lv1 := [.ref 86, .int b, .int fr, .int to, .int tm, .int (x ||| (1 <<< (r1 &&& 31))), .int t, .int r1, .int r2, .int y]) (st1 := []) (h1 := (124, I, J, R)) rfl ?_
  exact hk
set_option maxRecDepth 20000 in
theorem sM_x {L : Nat} {xs : Nat → Int32} {d : Nat} {I : Nat → Nat → Int32} {J : Nat → Nat → Int64} {R : Nat → Nat → Nat} {b fr to tm x t r1 r2 y : Int32} (hG : aGd R) (b1 : ((x >>> (to &&& 31)) &&& 1).toInt = 1) : xEv L xs d 185 108 [.ref 86, .int b, .int fr, .int to, .int tm, .int x, .int t, .int r1, .int r2, .int y] [] (124, I, J, R) (some (.int t)) (124, I, J, R) := by
  refine ev_go 2 (pc1 := 111) (lv1 := [.ref 86, .int b, .int fr, .int to, .int tm, .int x, .int t, .int r1, .int r2, .int y]) (st1 := [.int to, .int x]) (h1 := (124, I, J, R)) rfl ?_
  refine ev_go 4 (pc1 := 115) (lv1 := [.ref 86, .int b, .int fr, .int to, .int tm, .int x, .int t, .int r1, .int r2, .int y]) (st1 := [.int 1, .int ((x >>> (to &&& 31)) &&& 1)]) (h1 := (124, I, J, R)) rfl ?_
  refine ev_br (b1 := false) rfl rfl (xcd_nne (x := ((x >>> (to &&& 31)) &&& 1)) (y := 1) (by rw [show ((1 : Int32)).toInt = 1 from by decide]; first | exact b1 | omega)) ?_
  refine ev_go 1 (pc1 := 120) (lv1 := [.ref 86, .int b, .int fr, .int to, .int tm, .int x, .int t, .int r1, .int r2, .int y]) (st1 := [.int t]) (h1 := (124, I, J, R)) rfl ?_
  exact ev_ret rfl rfl
set_option maxRecDepth 20000 in
theorem sM_y {L : Nat} {xs : Nat → Int32} {d : Nat} {I : Nat → Nat → Int32} {J : Nat → Nat → Int64} {R : Nat → Nat → Nat} {b fr to tm x t r1 r2 y : Int32} (hG : aGd R) (b1 : ((x >>> (to &&& 31)) &&& 1).toInt ≠ 1) {v : Option Value} {h' : xH} (hk : xEv L xs d 185 9 [.ref 86, .int b, .int fr, .int to, .int tm, .int x, .int (t + 1), .int r1, .int r2, .int y] [] (124, I, J, R) v h') : xEv L xs d 185 108 [.ref 86, .int b, .int fr, .int to, .int tm, .int x, .int t, .int r1, .int r2, .int y] [] (124, I, J, R) v h' := by
  refine ev_go 2 (pc1 := 111) (lv1 := [.ref 86, .int b, .int fr, .int to, .int tm, .int x, .int t, .int r1, .int r2, .int y]) (st1 := [.int to, .int x]) (h1 := (124, I, J, R)) rfl ?_
  refine ev_go 4 (pc1 := 115) (lv1 := [.ref 86, .int b, .int fr, .int to, .int tm, .int x, .int t, .int r1, .int r2, .int y]) (st1 := [.int 1, .int ((x >>> (to &&& 31)) &&& 1)]) (h1 := (124, I, J, R)) rfl ?_
  refine ev_br (b1 := true) rfl rfl (xcd_ne (x := ((x >>> (to &&& 31)) &&& 1)) (y := 1) (by rw [show ((1 : Int32)).toInt = 1 from by decide]; first | exact b1 | omega)) ?_
  refine ev_go 2 (pc1 := 9) (lv1 := [.ref 86, .int b, .int fr, .int to, .int tm, .int x, .int (t + 1), .int r1, .int r2, .int y]) (st1 := []) (h1 := (124, I, J, R)) rfl ?_
  exact hk
/-- one time of the reference's soonest: what is reached behind it -/
def sG (b x r1 r2 : Int32) (a c : Nat) : Int32 :=
  let x1 := if tb x a && !(tb b c) then x ||| (1 <<< (r2 &&& 31)) else x
  if tb x c && !(tb b a) then x1 ||| (1 <<< (r1 &&& 31)) else x1
theorem sG_run {L : Nat} {xs : Nat → Int32} {d : Nat} {I : Nat → Nat → Int32} {J : Nat → Nat → Int64} {R : Nat → Nat → Nat} (hG : aGd R) {b fr to tm x t r1 r2 : Int32} {a c : Nat} (h1 : r1.toInt = a) (h2 : r2.toInt = c) (ha : a < 31) (hc : c < 31) {v : Option Value} {h' : xH} (hk : xEv L xs d 185 108 [.ref 86, .int b, .int fr, .int to, .int tm, .int (sG b x r1 r2 a c), .int t, .int r1, .int r2, .int x] [] (124, I, J, R) v h') : xEv L xs d 185 50 [.ref 86, .int b, .int fr, .int to, .int tm, .int x, .int t, .int r1, .int r2, .int x] [] (124, I, J, R) v h' := by
  have e1 := tb_shr (x := x) h1 ha
  have e2 := tb_shr (x := b) h2 hc
  have e3 := tb_shr (x := x) h2 hc
  have e4 := tb_shr (x := b) h1 ha
  have s2 : ∀ x1 : Int32, (xEv L xs d 185 108 [.ref 86, .int b, .int fr, .int to, .int tm, .int (if tb x c && !(tb b a) then x1 ||| (1 <<< (r1 &&& 31)) else x1), .int t, .int r1, .int r2, .int x] [] (124, I, J, R) v h') → xEv L xs d 185 79 [.ref 86, .int b, .int fr, .int to, .int tm, .int x1, .int t, .int r1, .int r2, .int x] [] (124, I, J, R) v h' := by
    intro x1 hk
    cases g1 : tb x c with
    | false =>
      rw [g1] at e3 hk
      exact sM_b0 hG (by rw [e3]; decide) hk
    | true =>
      rw [g1] at e3 hk
      cases g2 : tb b a with
      | true =>
        rw [g2] at e4 hk
        exact sM_b1 hG (by rw [e3]; decide) (by rw [e4]; decide) hk
      | false =>
        rw [g2] at e4 hk
        exact sM_b2 hG (by rw [e3]; decide) (by rw [e4]; decide) hk
  unfold sG at hk
  dsimp only at hk
  cases g1 : tb x a with
  | false =>
    rw [g1] at e1 hk
    exact sM_a0 hG (by rw [e1]; decide) (s2 _ hk)
  | true =>
    rw [g1] at e1 hk
    cases g2 : tb b c with
    | true =>
      rw [g2] at e2 hk
      exact sM_a1 hG (by rw [e1]; decide) (by rw [e2]; decide) (s2 _ hk)
    | false =>
      rw [g2] at e2 hk
      exact sM_a2 hG (by rw [e1]; decide) (by rw [e2]; decide) (s2 _ hk)
/-- what the class has reached behind it -/
theorem sG_c {b x r1 r2 : Int32} {a c : Nat} (h1 : r1.toInt = a) (h2 : r2.toInt = c) (ha : a < 31) (hc : c < 31) :
    (x &&& ((1 <<< (r1 &&& 31)) ||| (1 <<< (r2 &&& 31))) = 0 → sG b x r1 r2 a c = x) ∧
    (x &&& ((1 <<< (r1 &&& 31)) ||| (1 <<< (r2 &&& 31))) ≠ 0 → sG b x r1 r2 a c = x ||| (((1 <<< (r1 &&& 31)) ||| (1 <<< (r2 &&& 31))) &&& (b ^^^ (-1)))) := by
  have hp : ∀ n, tb ((1 <<< (r1 &&& 31)) ||| (1 <<< (r2 &&& 31))) n = (decide (n = a) || decide (n = c)) := fun n => by rw [tb_or, tb_shl h1 ha, tb_shl h2 hc]
  have hq : ∀ n, n < 32 → tb (sG b x r1 r2 a c) n = (tb x n || (tb x a && !(tb b c) && decide (n = c)) || (tb x c && !(tb b a) && decide (n = a))) := by
    intro n hn
    unfold sG
    dsimp only
    cases tb x a <;> cases tb x c <;> cases tb b a <;> cases tb b c <;> simp [tb_or, tb_shl h1 ha, tb_shl h2 hc]
  constructor
  · intro h
    have z : ∀ n, (tb x n && (decide (n = a) || decide (n = c))) = false := by
      intro n
      rw [← hp, ← tb_and, h, tb_0]
    have za := z a
    have zc := z c
    rw [decide_eq_true rfl, Bool.true_or, Bool.and_true] at za
    rw [show decide (c = c) = true from decide_eq_true rfl, Bool.or_true, Bool.and_true] at zc
    apply tb_ext
    intro n hn
    rw [hq n hn, za, zc]
    simp
  · intro h
    obtain ⟨m, hm, e⟩ := tb_nz.mp h
    rw [tb_and, hp] at e
    have hor : tb x a = true ∨ tb x c = true := by
      rw [Bool.and_eq_true, Bool.or_eq_true, decide_eq_true_eq, decide_eq_true_eq] at e
      rcases e with ⟨e1, rfl | rfl⟩
      · exact Or.inl e1
      · exact Or.inr e1
    apply tb_ext
    intro n hn
    rw [hq n hn, tb_or, tb_and, hp, tb_not hn]
    by_cases g1 : n = a
    · subst g1
      by_cases g2 : n = c
      · subst g2
        simp
        cases g3 : tb x n <;> cases g4 : tb b n <;> simp_all
      · rw [decide_eq_false g2]
        simp
        cases h1 : tb x n <;> cases h2 : tb b n <;> cases h3 : tb x c <;> simp_all
    · rw [decide_eq_false g1]
      by_cases g2 : n = c
      · subst g2
        simp
        cases h1 : tb x n <;> cases h2 : tb b n <;> cases h3 : tb x a <;> simp_all
      · rw [decide_eq_false g2]
        simp
set_option maxRecDepth 20000 in
theorem sn_x {L : Nat} {xs : Nat → Int32} {d : Nat} {I : Nat → Nat → Int32} {J : Nat → Nat → Int64} {R : Nat → Nat → Nat} {a b c t : Int32} (hG : aGd R) (c1 : xEv L xs d 183 0 [.ref 86, .int a, .int b, .int c, .int t] [] (124, I, J, R) (some (.int 0)) (124, I, J, R)) : xEv L xs (d + 1) 182 0 [.ref 86, .int a, .int b, .int c, .int t, xmk] [] (124, I, J, R) (some (.int (-2))) (124, I, J, R) := by
  refine ev_go 5 (pc1 := 6) (lv1 := [.ref 86, .int a, .int b, .int c, .int t, xmk]) (st1 := [.int t, .int c, .int b, .int a, .ref 86]) (h1 := (124, I, J, R)) rfl ?_
  refine ev_call (v1 := (some (.int 0))) (h1 := (124, I, J, R)) rfl rfl c1 ?_
  refine ev_go 2 (pc1 := 14) (lv1 := [.ref 86, .int a, .int b, .int c, .int t, xmk]) (st1 := [.int (-2)]) (h1 := (124, I, J, R)) rfl ?_
  exact ev_ret rfl rfl
set_option maxRecDepth 20000 in
theorem sn_y {L : Nat} {xs : Nat → Int32} {d : Nat} {I : Nat → Nat → Int32} {J : Nat → Nat → Int64} {R : Nat → Nat → Nat} {a b c t : Int32} (hG : aGd R) (c1 : xEv L xs d 183 0 [.ref 86, .int a, .int b, .int c, .int t] [] (124, I, J, R) (some (.int 1)) (124, I, J, R)) (b1 : b.toInt = c.toInt) : xEv L xs (d + 1) 182 0 [.ref 86, .int a, .int b, .int c, .int t, xmk] [] (124, I, J, R) (some (.int (-4))) (124, I, J, R) := by
  refine ev_go 5 (pc1 := 6) (lv1 := [.ref 86, .int a, .int b, .int c, .int t, xmk]) (st1 := [.int t, .int c, .int b, .int a, .ref 86]) (h1 := (124, I, J, R)) rfl ?_
  refine ev_call (v1 := (some (.int 1))) (h1 := (124, I, J, R)) rfl rfl c1 ?_
  refine ev_go 3 (pc1 := 17) (lv1 := [.ref 86, .int a, .int b, .int c, .int t, xmk]) (st1 := [.int c, .int b]) (h1 := (124, I, J, R)) rfl ?_
  refine ev_br (b1 := false) rfl rfl (xcd_nne (x := b) (y := c) (by first | exact b1 | omega)) ?_
  refine ev_go 1 (pc1 := 22) (lv1 := [.ref 86, .int a, .int b, .int c, .int t, xmk]) (st1 := [.int (-4)]) (h1 := (124, I, J, R)) rfl ?_
  exact ev_ret rfl rfl
set_option maxRecDepth 20000 in
theorem sn_0 {L : Nat} {xs : Nat → Int32} {d : Nat} {I : Nat → Nat → Int32} {J : Nat → Nat → Int64} {R : Nat → Nat → Nat} {a b c t r : Int32} (hG : aGd R) (c1 : xEv L xs d 183 0 [.ref 86, .int a, .int b, .int c, .int t] [] (124, I, J, R) (some (.int 1)) (124, I, J, R)) (b1 : b.toInt ≠ c.toInt) (n1 : 0 ≤ a.toInt) (m1 : a.toInt < 8) (c2 : xEv L xs d 185 0 [.ref 86, .int (I 100 a.toNatClampNeg), .int b, .int c, .int t, xmk, xmk, xmk, xmk, xmk] [] (124, I, J, R) (some (.int r)) (124, I, J, R)) (b2 : r.toInt = (I 86 26).toInt) : xEv L xs (d + 1) 182 0 [.ref 86, .int a, .int b, .int c, .int t, xmk] [] (124, I, J, R) (some (.int (-1))) (124, I, J, R) := by
  refine ev_go 5 (pc1 := 6) (lv1 := [.ref 86, .int a, .int b, .int c, .int t, xmk]) (st1 := [.int t, .int c, .int b, .int a, .ref 86]) (h1 := (124, I, J, R)) rfl ?_
  refine ev_call (v1 := (some (.int 1))) (h1 := (124, I, J, R)) rfl rfl c1 ?_
  refine ev_go 3 (pc1 := 17) (lv1 := [.ref 86, .int a, .int b, .int c, .int t, xmk]) (st1 := [.int c, .int b]) (h1 := (124, I, J, R)) rfl ?_
  refine ev_br (b1 := true) rfl rfl (xcd_ne (x := b) (y := c) (by first | exact b1 | omega)) ?_
  refine ev_go 2 (pc1 := 25) (lv1 := [.ref 86, .int a, .int b, .int c, .int t, xmk]) (st1 := [.ref 86, .ref 86]) (h1 := (124, I, J, R)) rfl ?_
  refine ev_gf (c := 86) (t := 100) (X := R 86 24) rfl rfl (fun _ => rfl) rfl (hG 86 24 100 rfl rfl) ?_
  refine ev_go 1 (pc1 := 29) (lv1 := [.ref 86, .int a, .int b, .int c, .int t, xmk]) (st1 := [.int a, .ref 100, .ref 86]) (h1 := (124, I, J, R)) rfl ?_
  refine ev_ild (n := 8) rfl rfl (fun _ => rfl) n1 m1 ?_
  refine ev_go 3 (pc1 := 34) (lv1 := [.ref 86, .int a, .int b, .int c, .int t, xmk]) (st1 := [.int t, .int c, .int b, .int (I 100 a.toNatClampNeg), .ref 86]) (h1 := (124, I, J, R)) rfl ?_
  refine ev_call (v1 := (some (.int r))) (h1 := (124, I, J, R)) rfl rfl c2 ?_
  refine ev_go 4 (pc1 := 45) (lv1 := [.ref 86, .int a, .int b, .int c, .int t, .int r]) (st1 := [.int (I 86 26), .int r]) (h1 := (124, I, J, R)) rfl ?_
  refine ev_br (b1 := false) rfl rfl (xcd_nne (x := r) (y := (I 86 26)) (by first | exact b2 | omega)) ?_
  refine ev_go 2 (pc1 := 54) (lv1 := [.ref 86, .int a, .int b, .int c, .int t, .int r]) (st1 := [.int (-1)]) (h1 := (124, I, J, R)) rfl ?_
  exact ev_ret rfl rfl
set_option maxRecDepth 20000 in
theorem sn_1 {L : Nat} {xs : Nat → Int32} {d : Nat} {I : Nat → Nat → Int32} {J : Nat → Nat → Int64} {R : Nat → Nat → Nat} {a b c t r : Int32} (hG : aGd R) (c1 : xEv L xs d 183 0 [.ref 86, .int a, .int b, .int c, .int t] [] (124, I, J, R) (some (.int 1)) (124, I, J, R)) (b1 : b.toInt ≠ c.toInt) (n1 : 0 ≤ a.toInt) (m1 : a.toInt < 8) (c2 : xEv L xs d 185 0 [.ref 86, .int (I 100 a.toNatClampNeg), .int b, .int c, .int t, xmk, xmk, xmk, xmk, xmk] [] (124, I, J, R) (some (.int r)) (124, I, J, R)) (b2 : r.toInt ≠ (I 86 26).toInt) : xEv L xs (d + 1) 182 0 [.ref 86, .int a, .int b, .int c, .int t, xmk] [] (124, I, J, R) (some (.int r)) (124, I, J, R) := by
  refine ev_go 5 (pc1 := 6) (lv1 := [.ref 86, .int a, .int b, .int c, .int t, xmk]) (st1 := [.int t, .int c, .int b, .int a, .ref 86]) (h1 := (124, I, J, R)) rfl ?_
  refine ev_call (v1 := (some (.int 1))) (h1 := (124, I, J, R)) rfl rfl c1 ?_
  refine ev_go 3 (pc1 := 17) (lv1 := [.ref 86, .int a, .int b, .int c, .int t, xmk]) (st1 := [.int c, .int b]) (h1 := (124, I, J, R)) rfl ?_
  refine ev_br (b1 := true) rfl rfl (xcd_ne (x := b) (y := c) (by first | exact b1 | omega)) ?_
  refine ev_go 2 (pc1 := 25) (lv1 := [.ref 86, .int a, .int b, .int c, .int t, xmk]) (st1 := [.ref 86, .ref 86]) (h1 := (124, I, J, R)) rfl ?_
  refine ev_gf (c := 86) (t := 100) (X := R 86 24) rfl rfl (fun _ => rfl) rfl (hG 86 24 100 rfl rfl) ?_
  refine ev_go 1 (pc1 := 29) (lv1 := [.ref 86, .int a, .int b, .int c, .int t, xmk]) (st1 := [.int a, .ref 100, .ref 86]) (h1 := (124, I, J, R)) rfl ?_
  refine ev_ild (n := 8) rfl rfl (fun _ => rfl) n1 m1 ?_
  refine ev_go 3 (pc1 := 34) (lv1 := [.ref 86, .int a, .int b, .int c, .int t, xmk]) (st1 := [.int t, .int c, .int b, .int (I 100 a.toNatClampNeg), .ref 86]) (h1 := (124, I, J, R)) rfl ?_
  refine ev_call (v1 := (some (.int r))) (h1 := (124, I, J, R)) rfl rfl c2 ?_
  refine ev_go 4 (pc1 := 45) (lv1 := [.ref 86, .int a, .int b, .int c, .int t, .int r]) (st1 := [.int (I 86 26), .int r]) (h1 := (124, I, J, R)) rfl ?_
  refine ev_br (b1 := true) rfl rfl (xcd_ne (x := r) (y := (I 86 26)) (by first | exact b2 | omega)) ?_
  refine ev_go 1 (pc1 := 54) (lv1 := [.ref 86, .int a, .int b, .int c, .int t, .int r]) (st1 := [.int r]) (h1 := (124, I, J, R)) rfl ?_
  exact ev_ret rfl rfl
set_option maxRecDepth 20000 in
theorem wy_0 {L : Nat} {xs : Nat → Int32} {d : Nat} {I : Nat → Nat → Int32} {J : Nat → Nat → Int64} {R : Nat → Nat → Nat} {a b c t : Int32} (hG : aGd R) (c1 : xEv L xs d 168 0 [.ref 86, .int a] [] (124, I, J, R) (some (.int 0)) (124, I, J, R)) : xEv L xs (d + 1) 183 0 [.ref 86, .int a, .int b, .int c, .int t] [] (124, I, J, R) (some (.int 0)) (124, I, J, R) := by
  refine ev_go 2 (pc1 := 2) (lv1 := [.ref 86, .int a, .int b, .int c, .int t]) (st1 := [.int a, .ref 86]) (h1 := (124, I, J, R)) rfl ?_
  refine ev_call (v1 := (some (.int 0))) (h1 := (124, I, J, R)) rfl rfl c1 ?_
  refine ev_go 2 (pc1 := 38) (lv1 := [.ref 86, .int a, .int b, .int c, .int t]) (st1 := [.int 0]) (h1 := (124, I, J, R)) rfl ?_
  exact ev_ret rfl rfl
set_option maxRecDepth 20000 in
theorem wy_1 {L : Nat} {xs : Nat → Int32} {d : Nat} {I : Nat → Nat → Int32} {J : Nat → Nat → Int64} {R : Nat → Nat → Nat} {a b c t : Int32} (hG : aGd R) (c1 : xEv L xs d 168 0 [.ref 86, .int a] [] (124, I, J, R) (some (.int 1)) (124, I, J, R)) (c2 : xEv L xs d 167 0 [.ref 86, .int b] [] (124, I, J, R) (some (.int 0)) (124, I, J, R)) : xEv L xs (d + 1) 183 0 [.ref 86, .int a, .int b, .int c, .int t] [] (124, I, J, R) (some (.int 0)) (124, I, J, R) := by
  refine ev_go 2 (pc1 := 2) (lv1 := [.ref 86, .int a, .int b, .int c, .int t]) (st1 := [.int a, .ref 86]) (h1 := (124, I, J, R)) rfl ?_
  refine ev_call (v1 := (some (.int 1))) (h1 := (124, I, J, R)) rfl rfl c1 ?_
  refine ev_go 3 (pc1 := 10) (lv1 := [.ref 86, .int a, .int b, .int c, .int t]) (st1 := [.int b, .ref 86]) (h1 := (124, I, J, R)) rfl ?_
  refine ev_call (v1 := (some (.int 0))) (h1 := (124, I, J, R)) rfl rfl c2 ?_
  refine ev_go 2 (pc1 := 38) (lv1 := [.ref 86, .int a, .int b, .int c, .int t]) (st1 := [.int 0]) (h1 := (124, I, J, R)) rfl ?_
  exact ev_ret rfl rfl
set_option maxRecDepth 20000 in
theorem wy_2 {L : Nat} {xs : Nat → Int32} {d : Nat} {I : Nat → Nat → Int32} {J : Nat → Nat → Int64} {R : Nat → Nat → Nat} {a b c t : Int32} (hG : aGd R) (c1 : xEv L xs d 168 0 [.ref 86, .int a] [] (124, I, J, R) (some (.int 1)) (124, I, J, R)) (c2 : xEv L xs d 167 0 [.ref 86, .int b] [] (124, I, J, R) (some (.int 1)) (124, I, J, R)) (c3 : xEv L xs d 167 0 [.ref 86, .int c] [] (124, I, J, R) (some (.int 0)) (124, I, J, R)) : xEv L xs (d + 1) 183 0 [.ref 86, .int a, .int b, .int c, .int t] [] (124, I, J, R) (some (.int 0)) (124, I, J, R) := by
  refine ev_go 2 (pc1 := 2) (lv1 := [.ref 86, .int a, .int b, .int c, .int t]) (st1 := [.int a, .ref 86]) (h1 := (124, I, J, R)) rfl ?_
  refine ev_call (v1 := (some (.int 1))) (h1 := (124, I, J, R)) rfl rfl c1 ?_
  refine ev_go 3 (pc1 := 10) (lv1 := [.ref 86, .int a, .int b, .int c, .int t]) (st1 := [.int b, .ref 86]) (h1 := (124, I, J, R)) rfl ?_
  refine ev_call (v1 := (some (.int 1))) (h1 := (124, I, J, R)) rfl rfl c2 ?_
  refine ev_go 3 (pc1 := 18) (lv1 := [.ref 86, .int a, .int b, .int c, .int t]) (st1 := [.int c, .ref 86]) (h1 := (124, I, J, R)) rfl ?_
  refine ev_call (v1 := (some (.int 0))) (h1 := (124, I, J, R)) rfl rfl c3 ?_
  refine ev_go 2 (pc1 := 38) (lv1 := [.ref 86, .int a, .int b, .int c, .int t]) (st1 := [.int 0]) (h1 := (124, I, J, R)) rfl ?_
  exact ev_ret rfl rfl
set_option maxRecDepth 20000 in
theorem wy_3 {L : Nat} {xs : Nat → Int32} {d : Nat} {I : Nat → Nat → Int32} {J : Nat → Nat → Int64} {R : Nat → Nat → Nat} {a b c t : Int32} (hG : aGd R) (c1 : xEv L xs d 168 0 [.ref 86, .int a] [] (124, I, J, R) (some (.int 1)) (124, I, J, R)) (c2 : xEv L xs d 167 0 [.ref 86, .int b] [] (124, I, J, R) (some (.int 1)) (124, I, J, R)) (c3 : xEv L xs d 167 0 [.ref 86, .int c] [] (124, I, J, R) (some (.int 1)) (124, I, J, R)) (c4 : xEv L xs d 184 0 [.ref 86, .int t] [] (124, I, J, R) (some (.int 0)) (124, I, J, R)) : xEv L xs (d + 1) 183 0 [.ref 86, .int a, .int b, .int c, .int t] [] (124, I, J, R) (some (.int 0)) (124, I, J, R) := by
  refine ev_go 2 (pc1 := 2) (lv1 := [.ref 86, .int a, .int b, .int c, .int t]) (st1 := [.int a, .ref 86]) (h1 := (124, I, J, R)) rfl ?_
  refine ev_call (v1 := (some (.int 1))) (h1 := (124, I, J, R)) rfl rfl c1 ?_
  refine ev_go 3 (pc1 := 10) (lv1 := [.ref 86, .int a, .int b, .int c, .int t]) (st1 := [.int b, .ref 86]) (h1 := (124, I, J, R)) rfl ?_
  refine ev_call (v1 := (some (.int 1))) (h1 := (124, I, J, R)) rfl rfl c2 ?_
  refine ev_go 3 (pc1 := 18) (lv1 := [.ref 86, .int a, .int b, .int c, .int t]) (st1 := [.int c, .ref 86]) (h1 := (124, I, J, R)) rfl ?_
  refine ev_call (v1 := (some (.int 1))) (h1 := (124, I, J, R)) rfl rfl c3 ?_
  refine ev_go 3 (pc1 := 27) (lv1 := [.ref 86, .int a, .int b, .int c, .int t]) (st1 := [.int t, .ref 86]) (h1 := (124, I, J, R)) rfl ?_
  refine ev_call (v1 := (some (.int 0))) (h1 := (124, I, J, R)) rfl rfl c4 ?_
  refine ev_go 2 (pc1 := 38) (lv1 := [.ref 86, .int a, .int b, .int c, .int t]) (st1 := [.int 0]) (h1 := (124, I, J, R)) rfl ?_
  exact ev_ret rfl rfl
set_option maxRecDepth 20000 in
theorem wy_4 {L : Nat} {xs : Nat → Int32} {d : Nat} {I : Nat → Nat → Int32} {J : Nat → Nat → Int64} {R : Nat → Nat → Nat} {a b c t : Int32} (hG : aGd R) (c1 : xEv L xs d 168 0 [.ref 86, .int a] [] (124, I, J, R) (some (.int 1)) (124, I, J, R)) (c2 : xEv L xs d 167 0 [.ref 86, .int b] [] (124, I, J, R) (some (.int 1)) (124, I, J, R)) (c3 : xEv L xs d 167 0 [.ref 86, .int c] [] (124, I, J, R) (some (.int 1)) (124, I, J, R)) (c4 : xEv L xs d 184 0 [.ref 86, .int t] [] (124, I, J, R) (some (.int 1)) (124, I, J, R)) : xEv L xs (d + 1) 183 0 [.ref 86, .int a, .int b, .int c, .int t] [] (124, I, J, R) (some (.int 1)) (124, I, J, R) := by
  refine ev_go 2 (pc1 := 2) (lv1 := [.ref 86, .int a, .int b, .int c, .int t]) (st1 := [.int a, .ref 86]) (h1 := (124, I, J, R)) rfl ?_
  refine ev_call (v1 := (some (.int 1))) (h1 := (124, I, J, R)) rfl rfl c1 ?_
  refine ev_go 3 (pc1 := 10) (lv1 := [.ref 86, .int a, .int b, .int c, .int t]) (st1 := [.int b, .ref 86]) (h1 := (124, I, J, R)) rfl ?_
  refine ev_call (v1 := (some (.int 1))) (h1 := (124, I, J, R)) rfl rfl c2 ?_
  refine ev_go 3 (pc1 := 18) (lv1 := [.ref 86, .int a, .int b, .int c, .int t]) (st1 := [.int c, .ref 86]) (h1 := (124, I, J, R)) rfl ?_
  refine ev_call (v1 := (some (.int 1))) (h1 := (124, I, J, R)) rfl rfl c3 ?_
  refine ev_go 3 (pc1 := 27) (lv1 := [.ref 86, .int a, .int b, .int c, .int t]) (st1 := [.int t, .ref 86]) (h1 := (124, I, J, R)) rfl ?_
  refine ev_call (v1 := (some (.int 1))) (h1 := (124, I, J, R)) rfl rfl c4 ?_
  refine ev_go 3 (pc1 := 38) (lv1 := [.ref 86, .int a, .int b, .int c, .int t]) (st1 := [.int 1]) (h1 := (124, I, J, R)) rfl ?_
  exact ev_ret rfl rfl
set_option maxRecDepth 20000 in
theorem ah_0 {L : Nat} {xs : Nat → Int32} {d : Nat} {I : Nat → Nat → Int32} {J : Nat → Nat → Int64} {R : Nat → Nat → Nat} {t : Int32} (hG : aGd R) (c1 : xEv L xs d 160 0 [.int t, .int 0, .int (I 86 26)] [] (124, I, J, R) (some (.int 0)) (124, I, J, R)) : xEv L xs (d + 1) 184 0 [.ref 86, .int t] [] (124, I, J, R) (some (.int 0)) (124, I, J, R) := by
  refine ev_go 4 (pc1 := 6) (lv1 := [.ref 86, .int t]) (st1 := [.int (I 86 26), .int 0, .int t]) (h1 := (124, I, J, R)) rfl ?_
  refine ev_call (v1 := (some (.int 0))) (h1 := (124, I, J, R)) rfl rfl c1 ?_
  exact ev_ret rfl rfl
set_option maxRecDepth 20000 in
theorem ah_1 {L : Nat} {xs : Nat → Int32} {d : Nat} {I : Nat → Nat → Int32} {J : Nat → Nat → Int64} {R : Nat → Nat → Nat} {t : Int32} (hG : aGd R) (c1 : xEv L xs d 160 0 [.int t, .int 0, .int (I 86 26)] [] (124, I, J, R) (some (.int 1)) (124, I, J, R)) : xEv L xs (d + 1) 184 0 [.ref 86, .int t] [] (124, I, J, R) (some (.int 1)) (124, I, J, R) := by
  refine ev_go 4 (pc1 := 6) (lv1 := [.ref 86, .int t]) (st1 := [.int (I 86 26), .int 0, .int t]) (h1 := (124, I, J, R)) rfl ?_
  refine ev_call (v1 := (some (.int 1))) (h1 := (124, I, J, R)) rfl rfl c1 ?_
  exact ev_ret rfl rfl
/-- the four arguments of a way -/
theorem wy_run {L : Nat} {xs : Nat → Int32} {d : Nat} {I : Nat → Nat → Int32} {J : Nat → Nat → Int64} {R : Nat → Nat → Nat} (hG : aGd R) {np nn nl : Nat} (q2 : (I 88 0).toInt = np) (q6 : (I 88 2).toInt = nn) (q11 : (I 86 26).toInt = nl) (a b c t : Int32) :
    (((0 ≤ a.toInt ∧ a.toInt < nn) ∧ (0 ≤ b.toInt ∧ b.toInt < np) ∧ (0 ≤ c.toInt ∧ c.toInt < np) ∧ (0 ≤ t.toInt ∧ t.toInt ≤ nl)) ∧ xEv L xs (d + 2) 183 0 [.ref 86, .int a, .int b, .int c, .int t] [] (124, I, J, R) (some (.int 1)) (124, I, J, R)) ∨
    (¬ ((0 ≤ a.toInt ∧ a.toInt < nn) ∧ (0 ≤ b.toInt ∧ b.toInt < np) ∧ (0 ≤ c.toInt ∧ c.toInt < np) ∧ (0 ≤ t.toInt ∧ t.toInt ≤ nl)) ∧ xEv L xs (d + 2) 183 0 [.ref 86, .int a, .int b, .int c, .int t] [] (124, I, J, R) (some (.int 0)) (124, I, J, R)) := by
  rcases ie_run (L := L) (xs := xs) (d := d) (I := I) (J := J) hG q6 a with ⟨ha, xa⟩ | ⟨ha, xa⟩
  rotate_left
  · exact Or.inr ⟨fun z => ha z.1, wy_0 hG xa⟩
  rcases ip_run (L := L) (xs := xs) (d := d) (I := I) (J := J) hG q2 b with ⟨hb, xb⟩ | ⟨hb, xb⟩
  rotate_left
  · exact Or.inr ⟨fun z => hb z.2.1, wy_1 hG xa xb⟩
  rcases ip_run (L := L) (xs := xs) (d := d) (I := I) (J := J) hG q2 c with ⟨hc, xc⟩ | ⟨hc, xc⟩
  rotate_left
  · exact Or.inr ⟨fun z => hc z.2.2.1, wy_2 hG xa xb xc⟩
  have i0 := in_ex (L := L) (xs := xs) (d := d) (I := I) (J := J) hG t 0 (I 86 26)
  rw [show (0 : Int32).toInt = 0 from by decide, q11] at i0
  rcases i0 with ⟨ht, xt⟩ | ⟨ht, xt⟩
  · exact Or.inl ⟨⟨ha, hb, hc, ht⟩, wy_4 hG xa xb xc (ah_1 hG xt)⟩
  · exact Or.inr ⟨fun z => ht z.2.2.2, wy_3 hG xa xb xc (ah_0 hG xt)⟩
set_option maxRecDepth 20000 in
theorem bq_x {L : Nat} {xs : Nat → Int32} {d : Nat} {I : Nat → Nat → Int32} {J : Nat → Nat → Int64} {R : Nat → Nat → Nat} {a b c t : Int32} (hG : aGd R) (c1 : xEv L xs d 183 0 [.ref 86, .int a, .int b, .int c, .int t] [] (124, I, J, R) (some (.int 0)) (124, I, J, R)) : xEv L xs (d + 1) 187 0 [.ref 86, .int a, .int b, .int c, .int t, xmk, xmk] [] (124, I, J, R) (some (.int (-2))) (124, I, J, R) := by
  refine ev_go 5 (pc1 := 6) (lv1 := [.ref 86, .int a, .int b, .int c, .int t, xmk, xmk]) (st1 := [.int t, .int c, .int b, .int a, .ref 86]) (h1 := (124, I, J, R)) rfl ?_
  refine ev_call (v1 := (some (.int 0))) (h1 := (124, I, J, R)) rfl rfl c1 ?_
  refine ev_go 2 (pc1 := 19) (lv1 := [.ref 86, .int a, .int b, .int c, .int t, xmk, xmk]) (st1 := [.int (-2)]) (h1 := (124, I, J, R)) rfl ?_
  exact ev_ret rfl rfl
set_option maxRecDepth 20000 in
theorem bq_y {L : Nat} {xs : Nat → Int32} {d : Nat} {I : Nat → Nat → Int32} {J : Nat → Nat → Int64} {R : Nat → Nat → Nat} {a b c t : Int32} (hG : aGd R) (c1 : xEv L xs d 183 0 [.ref 86, .int a, .int b, .int c, .int t] [] (124, I, J, R) (some (.int 1)) (124, I, J, R)) (b1 : b.toInt = c.toInt) : xEv L xs (d + 1) 187 0 [.ref 86, .int a, .int b, .int c, .int t, xmk, xmk] [] (124, I, J, R) (some (.int (-2))) (124, I, J, R) := by
  refine ev_go 5 (pc1 := 6) (lv1 := [.ref 86, .int a, .int b, .int c, .int t, xmk, xmk]) (st1 := [.int t, .int c, .int b, .int a, .ref 86]) (h1 := (124, I, J, R)) rfl ?_
  refine ev_call (v1 := (some (.int 1))) (h1 := (124, I, J, R)) rfl rfl c1 ?_
  refine ev_go 3 (pc1 := 14) (lv1 := [.ref 86, .int a, .int b, .int c, .int t, xmk, xmk]) (st1 := [.int c, .int b]) (h1 := (124, I, J, R)) rfl ?_
  refine ev_br (b1 := false) rfl rfl (xcd_nne (x := b) (y := c) (by first | exact b1 | omega)) ?_
  refine ev_go 1 (pc1 := 19) (lv1 := [.ref 86, .int a, .int b, .int c, .int t, xmk, xmk]) (st1 := [.int (-2)]) (h1 := (124, I, J, R)) rfl ?_
  exact ev_ret rfl rfl
set_option maxRecDepth 20000 in
theorem bq_0 {L : Nat} {xs : Nat → Int32} {d : Nat} {I : Nat → Nat → Int32} {J : Nat → Nat → Int64} {R : Nat → Nat → Nat} {a b c t r : Int32} (hG : aGd R) (c1 : xEv L xs d 183 0 [.ref 86, .int a, .int b, .int c, .int t] [] (124, I, J, R) (some (.int 1)) (124, I, J, R)) (b1 : b.toInt ≠ c.toInt) (n1 : 0 ≤ a.toInt) (m1 : a.toInt < 8) (c2 : xEv L xs d 185 0 [.ref 86, .int (I 100 a.toNatClampNeg), .int b, .int c, .int t, xmk, xmk, xmk, xmk, xmk] [] (124, I, J, R) (some (.int r)) (124, I, J, R)) (b2 : r.toInt = (I 86 26).toInt) : xEv L xs (d + 1) 187 0 [.ref 86, .int a, .int b, .int c, .int t, xmk, xmk] [] (124, I, J, R) (some (.int 0)) (124, I, J, R) := by
  refine ev_go 5 (pc1 := 6) (lv1 := [.ref 86, .int a, .int b, .int c, .int t, xmk, xmk]) (st1 := [.int t, .int c, .int b, .int a, .ref 86]) (h1 := (124, I, J, R)) rfl ?_
  refine ev_call (v1 := (some (.int 1))) (h1 := (124, I, J, R)) rfl rfl c1 ?_
  refine ev_go 3 (pc1 := 14) (lv1 := [.ref 86, .int a, .int b, .int c, .int t, xmk, xmk]) (st1 := [.int c, .int b]) (h1 := (124, I, J, R)) rfl ?_
  refine ev_br (b1 := true) rfl rfl (xcd_ne (x := b) (y := c) (by first | exact b1 | omega)) ?_
  refine ev_go 2 (pc1 := 22) (lv1 := [.ref 86, .int a, .int b, .int c, .int t, xmk, xmk]) (st1 := [.ref 86, .ref 86]) (h1 := (124, I, J, R)) rfl ?_
  refine ev_gf (c := 86) (t := 100) (X := R 86 24) rfl rfl (fun _ => rfl) rfl (hG 86 24 100 rfl rfl) ?_
  refine ev_go 1 (pc1 := 26) (lv1 := [.ref 86, .int a, .int b, .int c, .int t, xmk, xmk]) (st1 := [.int a, .ref 100, .ref 86]) (h1 := (124, I, J, R)) rfl ?_
  refine ev_ild (n := 8) rfl rfl (fun _ => rfl) n1 m1 ?_
  refine ev_go 3 (pc1 := 31) (lv1 := [.ref 86, .int a, .int b, .int c, .int t, xmk, xmk]) (st1 := [.int t, .int c, .int b, .int (I 100 a.toNatClampNeg), .ref 86]) (h1 := (124, I, J, R)) rfl ?_
  refine ev_call (v1 := (some (.int r))) (h1 := (124, I, J, R)) rfl rfl c2 ?_
  refine ev_go 2 (pc1 := 38) (lv1 := [.ref 86, .int a, .int b, .int c, .int t, xmk, xmk]) (st1 := [.int (I 86 26), .int r]) (h1 := (124, I, J, R)) rfl ?_
  refine ev_br (b1 := false) rfl rfl (xcd_nne (x := r) (y := (I 86 26)) (by first | exact b2 | omega)) ?_
  refine ev_go 1 (pc1 := 42) (lv1 := [.ref 86, .int a, .int b, .int c, .int t, xmk, xmk]) (st1 := [.int 0]) (h1 := (124, I, J, R)) rfl ?_
  exact ev_ret rfl rfl
set_option maxRecDepth 20000 in
theorem bq_1 {L : Nat} {xs : Nat → Int32} {d : Nat} {I : Nat → Nat → Int32} {J : Nat → Nat → Int64} {R : Nat → Nat → Nat} {a b c t r : Int32} (hG : aGd R) (c1 : xEv L xs d 183 0 [.ref 86, .int a, .int b, .int c, .int t] [] (124, I, J, R) (some (.int 1)) (124, I, J, R)) (b1 : b.toInt ≠ c.toInt) (n1 : 0 ≤ a.toInt) (m1 : a.toInt < 8) (c2 : xEv L xs d 185 0 [.ref 86, .int (I 100 a.toNatClampNeg), .int b, .int c, .int t, xmk, xmk, xmk, xmk, xmk] [] (124, I, J, R) (some (.int r)) (124, I, J, R)) (b2 : r.toInt ≠ (I 86 26).toInt) {v : Option Value} {h' : xH} (hk : xEv L xs (d + 1) 187 49 [.ref 86, .int a, .int b, .int c, .int t, .int 0, .int 0] [] (124, I, J, R) v h') : xEv L xs (d + 1) 187 0 [.ref 86, .int a, .int b, .int c, .int t, xmk, xmk] [] (124, I, J, R) v h' := by
  refine ev_go 5 (pc1 := 6) (lv1 := [.ref 86, .int a, .int b, .int c, .int t, xmk, xmk]) (st1 := [.int t, .int c, .int b, .int a, .ref 86]) (h1 := (124, I, J, R)) rfl ?_
  refine ev_call (v1 := (some (.int 1))) (h1 := (124, I, J, R)) rfl rfl c1 ?_
  refine ev_go 3 (pc1 := 14) (lv1 := [.ref 86, .int a, .int b, .int c, .int t, xmk, xmk]) (st1 := [.int c, .int b]) (h1 := (124, I, J, R)) rfl ?_
  refine ev_br (b1 := true) rfl rfl (xcd_ne (x := b) (y := c) (by first | exact b1 | omega)) ?_
  refine ev_go 2 (pc1 := 22) (lv1 := [.ref 86, .int a, .int b, .int c, .int t, xmk, xmk]) (st1 := [.ref 86, .ref 86]) (h1 := (124, I, J, R)) rfl ?_
  refine ev_gf (c := 86) (t := 100) (X := R 86 24) rfl rfl (fun _ => rfl) rfl (hG 86 24 100 rfl rfl) ?_
  refine ev_go 1 (pc1 := 26) (lv1 := [.ref 86, .int a, .int b, .int c, .int t, xmk, xmk]) (st1 := [.int a, .ref 100, .ref 86]) (h1 := (124, I, J, R)) rfl ?_
  refine ev_ild (n := 8) rfl rfl (fun _ => rfl) n1 m1 ?_
  refine ev_go 3 (pc1 := 31) (lv1 := [.ref 86, .int a, .int b, .int c, .int t, xmk, xmk]) (st1 := [.int t, .int c, .int b, .int (I 100 a.toNatClampNeg), .ref 86]) (h1 := (124, I, J, R)) rfl ?_
  refine ev_call (v1 := (some (.int r))) (h1 := (124, I, J, R)) rfl rfl c2 ?_
  refine ev_go 2 (pc1 := 38) (lv1 := [.ref 86, .int a, .int b, .int c, .int t, xmk, xmk]) (st1 := [.int (I 86 26), .int r]) (h1 := (124, I, J, R)) rfl ?_
  refine ev_br (b1 := true) rfl rfl (xcd_ne (x := r) (y := (I 86 26)) (by first | exact b2 | omega)) ?_
  refine ev_go 4 (pc1 := 49) (lv1 := [.ref 86, .int a, .int b, .int c, .int t, .int 0, .int 0]) (st1 := []) (h1 := (124, I, J, R)) rfl ?_
  exact hk
set_option maxRecDepth 20000 in
theorem bq_e {L : Nat} {xs : Nat → Int32} {d : Nat} {I : Nat → Nat → Int32} {J : Nat → Nat → Int64} {R : Nat → Nat → Nat} {a b c t y p : Int32} (hG : aGd R) (b1 : p.toInt ≥ (I 88 0).toInt) : xEv L xs d 187 49 [.ref 86, .int a, .int b, .int c, .int t, .int y, .int p] [] (124, I, J, R) (some (.int y)) (124, I, J, R) := by
  refine ev_go 2 (pc1 := 52) (lv1 := [.ref 86, .int a, .int b, .int c, .int t, .int y, .int p]) (st1 := [.ref 86, .int p]) (h1 := (124, I, J, R)) rfl ?_
  refine ev_gf (c := 86) (t := 88) (X := R 86 12) rfl rfl (fun _ => rfl) rfl (hG 86 12 88 rfl rfl) ?_
  refine ev_go 2 (pc1 := 57) (lv1 := [.ref 86, .int a, .int b, .int c, .int t, .int y, .int p]) (st1 := [.int (I 88 0), .int p]) (h1 := (124, I, J, R)) rfl ?_
  refine ev_br (b1 := true) rfl rfl (xcd_ge (x := p) (y := (I 88 0)) (by first | exact b1 | omega)) ?_
  refine ev_go 1 (pc1 := 115) (lv1 := [.ref 86, .int a, .int b, .int c, .int t, .int y, .int p]) (st1 := [.int y]) (h1 := (124, I, J, R)) rfl ?_
  exact ev_ret rfl rfl
set_option maxRecDepth 20000 in
theorem bq_b {L : Nat} {xs : Nat → Int32} {d : Nat} {I : Nat → Nat → Int32} {J : Nat → Nat → Int64} {R : Nat → Nat → Nat} {a b c t y p : Int32} (hG : aGd R) (b1 : p.toInt < (I 88 0).toInt) (b2 : p.toInt = b.toInt) {v : Option Value} {h' : xH} (hk : xEv L xs d 187 49 [.ref 86, .int a, .int b, .int c, .int t, .int y, .int (p + 1)] [] (124, I, J, R) v h') : xEv L xs d 187 49 [.ref 86, .int a, .int b, .int c, .int t, .int y, .int p] [] (124, I, J, R) v h' := by
  refine ev_go 2 (pc1 := 52) (lv1 := [.ref 86, .int a, .int b, .int c, .int t, .int y, .int p]) (st1 := [.ref 86, .int p]) (h1 := (124, I, J, R)) rfl ?_
  refine ev_gf (c := 86) (t := 88) (X := R 86 12) rfl rfl (fun _ => rfl) rfl (hG 86 12 88 rfl rfl) ?_
  refine ev_go 2 (pc1 := 57) (lv1 := [.ref 86, .int a, .int b, .int c, .int t, .int y, .int p]) (st1 := [.int (I 88 0), .int p]) (h1 := (124, I, J, R)) rfl ?_
  refine ev_br (b1 := false) rfl rfl (xcd_nge (x := p) (y := (I 88 0)) (by first | exact b1 | omega)) ?_
  refine ev_go 2 (pc1 := 63) (lv1 := [.ref 86, .int a, .int b, .int c, .int t, .int y, .int p]) (st1 := [.int b, .int p]) (h1 := (124, I, J, R)) rfl ?_
  refine ev_br (b1 := true) rfl rfl (xcd_eq (x := p) (y := b) (by first | exact b2 | omega)) ?_
  refine ev_go 2 (pc1 := 49) (lv1 := [.ref 86, .int a, .int b, .int c, .int t, .int y, .int (p + 1)]) (st1 := []) (h1 := (124, I, J, R)) rfl ?_
  exact hk
set_option maxRecDepth 20000 in
theorem bq_c {L : Nat} {xs : Nat → Int32} {d : Nat} {I : Nat → Nat → Int32} {J : Nat → Nat → Int64} {R : Nat → Nat → Nat} {a b c t y p : Int32} (hG : aGd R) (b1 : p.toInt < (I 88 0).toInt) (b2 : p.toInt ≠ b.toInt) (b3 : p.toInt = c.toInt) {v : Option Value} {h' : xH} (hk : xEv L xs d 187 49 [.ref 86, .int a, .int b, .int c, .int t, .int y, .int (p + 1)] [] (124, I, J, R) v h') : xEv L xs d 187 49 [.ref 86, .int a, .int b, .int c, .int t, .int y, .int p] [] (124, I, J, R) v h' := by
  refine ev_go 2 (pc1 := 52) (lv1 := [.ref 86, .int a, .int b, .int c, .int t, .int y, .int p]) (st1 := [.ref 86, .int p]) (h1 := (124, I, J, R)) rfl ?_
  refine ev_gf (c := 86) (t := 88) (X := R 86 12) rfl rfl (fun _ => rfl) rfl (hG 86 12 88 rfl rfl) ?_
  refine ev_go 2 (pc1 := 57) (lv1 := [.ref 86, .int a, .int b, .int c, .int t, .int y, .int p]) (st1 := [.int (I 88 0), .int p]) (h1 := (124, I, J, R)) rfl ?_
  refine ev_br (b1 := false) rfl rfl (xcd_nge (x := p) (y := (I 88 0)) (by first | exact b1 | omega)) ?_
  refine ev_go 2 (pc1 := 63) (lv1 := [.ref 86, .int a, .int b, .int c, .int t, .int y, .int p]) (st1 := [.int b, .int p]) (h1 := (124, I, J, R)) rfl ?_
  refine ev_br (b1 := false) rfl rfl (xcd_neq (x := p) (y := b) (by first | exact b2 | omega)) ?_
  refine ev_go 2 (pc1 := 69) (lv1 := [.ref 86, .int a, .int b, .int c, .int t, .int y, .int p]) (st1 := [.int c, .int p]) (h1 := (124, I, J, R)) rfl ?_
  refine ev_br (b1 := true) rfl rfl (xcd_eq (x := p) (y := c) (by first | exact b3 | omega)) ?_
  refine ev_go 2 (pc1 := 49) (lv1 := [.ref 86, .int a, .int b, .int c, .int t, .int y, .int (p + 1)]) (st1 := []) (h1 := (124, I, J, R)) rfl ?_
  exact hk
set_option maxRecDepth 20000 in
theorem bq_n {L : Nat} {xs : Nat → Int32} {d : Nat} {I : Nat → Nat → Int32} {J : Nat → Nat → Int64} {R : Nat → Nat → Nat} {a b c t y p r : Int32} (hG : aGd R) (b1 : p.toInt < (I 88 0).toInt) (b2 : p.toInt ≠ b.toInt) (b3 : p.toInt ≠ c.toInt) (n1 : 0 ≤ a.toInt) (m1 : a.toInt < 8) (c1 : xEv L xs d 185 0 [.ref 86, .int ((I 100 a.toNatClampNeg) ||| (1 <<< (p &&& 31))), .int b, .int c, .int t, xmk, xmk, xmk, xmk, xmk] [] (124, I, J, R) (some (.int r)) (124, I, J, R)) (b4 : r.toInt ≠ (I 86 26).toInt) {v : Option Value} {h' : xH} (hk : xEv L xs (d + 1) 187 49 [.ref 86, .int a, .int b, .int c, .int t, .int y, .int (p + 1)] [] (124, I, J, R) v h') : xEv L xs (d + 1) 187 49 [.ref 86, .int a, .int b, .int c, .int t, .int y, .int p] [] (124, I, J, R) v h' := by
  refine ev_go 2 (pc1 := 52) (lv1 := [.ref 86, .int a, .int b, .int c, .int t, .int y, .int p]) (st1 := [.ref 86, .int p]) (h1 := (124, I, J, R)) rfl ?_
  refine ev_gf (c := 86) (t := 88) (X := R 86 12) rfl rfl (fun _ => rfl) rfl (hG 86 12 88 rfl rfl) ?_
  refine ev_go 2 (pc1 := 57) (lv1 := [.ref 86, .int a, .int b, .int c, .int t, .int y, .int p]) (st1 := [.int (I 88 0), .int p]) (h1 := (124, I, J, R)) rfl ?_
  refine ev_br (b1 := false) rfl rfl (xcd_nge (x := p) (y := (I 88 0)) (by first | exact b1 | omega)) ?_
  refine ev_go 2 (pc1 := 63) (lv1 := [.ref 86, .int a, .int b, .int c, .int t, .int y, .int p]) (st1 := [.int b, .int p]) (h1 := (124, I, J, R)) rfl ?_
  refine ev_br (b1 := false) rfl rfl (xcd_neq (x := p) (y := b) (by first | exact b2 | omega)) ?_
  refine ev_go 2 (pc1 := 69) (lv1 := [.ref 86, .int a, .int b, .int c, .int t, .int y, .int p]) (st1 := [.int c, .int p]) (h1 := (124, I, J, R)) rfl ?_
  refine ev_br (b1 := false) rfl rfl (xcd_neq (x := p) (y := c) (by first | exact b3 | omega)) ?_
  refine ev_go 2 (pc1 := 74) (lv1 := [.ref 86, .int a, .int b, .int c, .int t, .int y, .int p]) (st1 := [.ref 86, .ref 86]) (h1 := (124, I, J, R)) rfl ?_
  refine ev_gf (c := 86) (t := 100) (X := R 86 24) rfl rfl (fun _ => rfl) rfl (hG 86 24 100 rfl rfl) ?_
  refine ev_go 1 (pc1 := 78) (lv1 := [.ref 86, .int a, .int b, .int c, .int t, .int y, .int p]) (st1 := [.int a, .ref 100, .ref 86]) (h1 := (124, I, J, R)) rfl ?_
  refine ev_ild (n := 8) rfl rfl (fun _ => rfl) n1 m1 ?_
  refine ev_go 2 (pc1 := 82) (lv1 := [.ref 86, .int a, .int b, .int c, .int t, .int y, .int p]) (st1 := [.int p, .int 1, .int (I 100 a.toNatClampNeg), .ref 86]) (h1 := (124, I, J, R)) rfl ?_
  refine ev_go 5 (pc1 := 88) (lv1 := [.ref 86, .int a, .int b, .int c, .int t, .int y, .int p]) (st1 := [.int t, .int c, .int b, .int ((I 100 a.toNatClampNeg) ||| (1 <<< (p &&& 31))), .ref 86]) (h1 := (124, I, J, R)) rfl ?_
  refine ev_call (v1 := (some (.int r))) (h1 := (124, I, J, R)) rfl rfl c1 ?_
  refine ev_go 2 (pc1 := 95) (lv1 := [.ref 86, .int a, .int b, .int c, .int t, .int y, .int p]) (st1 := [.int (I 86 26), .int r]) (h1 := (124, I, J, R)) rfl ?_
  refine ev_br (b1 := true) rfl rfl (xcd_ne (x := r) (y := (I 86 26)) (by first | exact b4 | omega)) ?_
  refine ev_go 2 (pc1 := 49) (lv1 := [.ref 86, .int a, .int b, .int c, .int t, .int y, .int (p + 1)]) (st1 := []) (h1 := (124, I, J, R)) rfl ?_
  exact hk
set_option maxRecDepth 20000 in
theorem bq_s {L : Nat} {xs : Nat → Int32} {d : Nat} {I : Nat → Nat → Int32} {J : Nat → Nat → Int64} {R : Nat → Nat → Nat} {a b c t y p r : Int32} (hG : aGd R) (b1 : p.toInt < (I 88 0).toInt) (b2 : p.toInt ≠ b.toInt) (b3 : p.toInt ≠ c.toInt) (n1 : 0 ≤ a.toInt) (m1 : a.toInt < 8) (c1 : xEv L xs d 185 0 [.ref 86, .int ((I 100 a.toNatClampNeg) ||| (1 <<< (p &&& 31))), .int b, .int c, .int t, xmk, xmk, xmk, xmk, xmk] [] (124, I, J, R) (some (.int r)) (124, I, J, R)) (b4 : r.toInt = (I 86 26).toInt) {v : Option Value} {h' : xH} (hk : xEv L xs (d + 1) 187 49 [.ref 86, .int a, .int b, .int c, .int t, .int (y ||| (1 <<< (p &&& 31))), .int (p + 1)] [] (124, I, J, R) v h') : xEv L xs (d + 1) 187 49 [.ref 86, .int a, .int b, .int c, .int t, .int y, .int p] [] (124, I, J, R) v h' := by
  refine ev_go 2 (pc1 := 52) (lv1 := [.ref 86, .int a, .int b, .int c, .int t, .int y, .int p]) (st1 := [.ref 86, .int p]) (h1 := (124, I, J, R)) rfl ?_
  refine ev_gf (c := 86) (t := 88) (X := R 86 12) rfl rfl (fun _ => rfl) rfl (hG 86 12 88 rfl rfl) ?_
  refine ev_go 2 (pc1 := 57) (lv1 := [.ref 86, .int a, .int b, .int c, .int t, .int y, .int p]) (st1 := [.int (I 88 0), .int p]) (h1 := (124, I, J, R)) rfl ?_
  refine ev_br (b1 := false) rfl rfl (xcd_nge (x := p) (y := (I 88 0)) (by first | exact b1 | omega)) ?_
  refine ev_go 2 (pc1 := 63) (lv1 := [.ref 86, .int a, .int b, .int c, .int t, .int y, .int p]) (st1 := [.int b, .int p]) (h1 := (124, I, J, R)) rfl ?_
  refine ev_br (b1 := false) rfl rfl (xcd_neq (x := p) (y := b) (by first | exact b2 | omega)) ?_
  refine ev_go 2 (pc1 := 69) (lv1 := [.ref 86, .int a, .int b, .int c, .int t, .int y, .int p]) (st1 := [.int c, .int p]) (h1 := (124, I, J, R)) rfl ?_
  refine ev_br (b1 := false) rfl rfl (xcd_neq (x := p) (y := c) (by first | exact b3 | omega)) ?_
  refine ev_go 2 (pc1 := 74) (lv1 := [.ref 86, .int a, .int b, .int c, .int t, .int y, .int p]) (st1 := [.ref 86, .ref 86]) (h1 := (124, I, J, R)) rfl ?_
  refine ev_gf (c := 86) (t := 100) (X := R 86 24) rfl rfl (fun _ => rfl) rfl (hG 86 24 100 rfl rfl) ?_
  refine ev_go 1 (pc1 := 78) (lv1 := [.ref 86, .int a, .int b, .int c, .int t, .int y, .int p]) (st1 := [.int a, .ref 100, .ref 86]) (h1 := (124, I, J, R)) rfl ?_
  refine ev_ild (n := 8) rfl rfl (fun _ => rfl) n1 m1 ?_
  refine ev_go 2 (pc1 := 82) (lv1 := [.ref 86, .int a, .int b, .int c, .int t, .int y, .int p]) (st1 := [.int p, .int 1, .int (I 100 a.toNatClampNeg), .ref 86]) (h1 := (124, I, J, R)) rfl ?_
  refine ev_go 5 (pc1 := 88) (lv1 := [.ref 86, .int a, .int b, .int c, .int t, .int y, .int p]) (st1 := [.int t, .int c, .int b, .int ((I 100 a.toNatClampNeg) ||| (1 <<< (p &&& 31))), .ref 86]) (h1 := (124, I, J, R)) rfl ?_
  refine ev_call (v1 := (some (.int r))) (h1 := (124, I, J, R)) rfl rfl c1 ?_
  refine ev_go 2 (pc1 := 95) (lv1 := [.ref 86, .int a, .int b, .int c, .int t, .int y, .int p]) (st1 := [.int (I 86 26), .int r]) (h1 := (124, I, J, R)) rfl ?_
  refine ev_br (b1 := false) rfl rfl (xcd_nne (x := r) (y := (I 86 26)) (by first | exact b4 | omega)) ?_
  refine ev_go 3 (pc1 := 103) (lv1 := [.ref 86, .int a, .int b, .int c, .int t, .int y, .int p]) (st1 := [.int p, .int 1, .int y]) (h1 := (124, I, J, R)) rfl ?_
  refine ev_go 5 (pc1 := 49) (lv1 := [.ref 86, .int a, .int b, .int c, .int t, .int (y ||| (1 <<< (p &&& 31))), .int (p + 1)]) (st1 := []) (h1 := (124, I, J, R)) rfl ?_
  exact hk
set_option maxRecDepth 20000 in
theorem cS_0_3 {L : Nat} {xs : Nat → Int32} {d : Nat} {I : Nat → Nat → Int32} {J : Nat → Nat → Int64} {R : Nat → Nat → Nat} {t r1 : Int32} (hG : aGd R) (c1 : xEv L xs d 39 0 [.ref 22, .int t] [] (124, I, J, R) (some (.int r1)) (124, I, J, R)) (b1 : r1.toInt ≠ 10) : xEv L xs (d + 1) 67 0 [.ref 17, .int t] [] (124, I, J, R) (some (.int 0)) (124, I, J, R) := by
  refine ev_go 1 (pc1 := 1) (lv1 := [.ref 17, .int t]) (st1 := [.ref 17]) (h1 := (124, I, J, R)) rfl ?_
  refine ev_gf (c := 17) (t := 22) (X := R 17 4) rfl rfl (fun _ => rfl) rfl (hG 17 4 22 rfl rfl) ?_
  refine ev_go 1 (pc1 := 5) (lv1 := [.ref 17, .int t]) (st1 := [.int t, .ref 22]) (h1 := (124, I, J, R)) rfl ?_
  refine ev_call (v1 := (some (.int r1))) (h1 := (124, I, J, R)) rfl rfl c1 ?_
  refine ev_go 1 (pc1 := 10) (lv1 := [.ref 17, .int t]) (st1 := [.int 10, .int r1]) (h1 := (124, I, J, R)) rfl ?_
  refine ev_br (b1 := true) rfl rfl (xcd_ne (x := r1) (y := 10) (by rw [show ((10 : Int32)).toInt = 10 from by decide]; first | exact b1 | omega)) ?_
  refine ev_go 1 (pc1 := 18) (lv1 := [.ref 17, .int t]) (st1 := [.int 0]) (h1 := (124, I, J, R)) rfl ?_
  exact ev_ret rfl rfl
set_option maxRecDepth 20000 in
theorem cS_1_3 {L : Nat} {xs : Nat → Int32} {d : Nat} {I : Nat → Nat → Int32} {J : Nat → Nat → Int64} {R : Nat → Nat → Nat} {t r1 : Int32} (hG : aGd R) (c1 : xEv L xs d 39 0 [.ref 22, .int t] [] (124, I, J, R) (some (.int r1)) (124, I, J, R)) (b1 : r1.toInt = 10) : xEv L xs (d + 1) 67 0 [.ref 17, .int t] [] (124, I, J, R) (some (.int 1)) (124, I, J, R) := by
  refine ev_go 1 (pc1 := 1) (lv1 := [.ref 17, .int t]) (st1 := [.ref 17]) (h1 := (124, I, J, R)) rfl ?_
  refine ev_gf (c := 17) (t := 22) (X := R 17 4) rfl rfl (fun _ => rfl) rfl (hG 17 4 22 rfl rfl) ?_
  refine ev_go 1 (pc1 := 5) (lv1 := [.ref 17, .int t]) (st1 := [.int t, .ref 22]) (h1 := (124, I, J, R)) rfl ?_
  refine ev_call (v1 := (some (.int r1))) (h1 := (124, I, J, R)) rfl rfl c1 ?_
  refine ev_go 1 (pc1 := 10) (lv1 := [.ref 17, .int t]) (st1 := [.int 10, .int r1]) (h1 := (124, I, J, R)) rfl ?_
  refine ev_br (b1 := false) rfl rfl (xcd_nne (x := r1) (y := 10) (by rw [show ((10 : Int32)).toInt = 10 from by decide]; first | exact b1 | omega)) ?_
  refine ev_go 2 (pc1 := 18) (lv1 := [.ref 17, .int t]) (st1 := [.int 1]) (h1 := (124, I, J, R)) rfl ?_
  exact ev_ret rfl rfl
set_option maxRecDepth 20000 in
theorem sC_s_3 {L : Nat} {xs : Nat → Int32} {d : Nat} {I : Nat → Nat → Int32} {J : Nat → Nat → Int64} {R : Nat → Nat → Nat} {b fr to tm : Int32} (hG : aGd R)  {v : Option Value} {h' : xH} (hk : xEv L xs d 66 9 [.ref 17, .int b, .int fr, .int to, .int tm, .int (1 <<< (fr &&& 31)), .int tm, xmk] [] (124, I, J, R) v h') : xEv L xs d 66 0 [.ref 17, .int b, .int fr, .int to, .int tm, xmk, xmk, xmk] [] (124, I, J, R) v h' := by
  refine ev_go 2 (pc1 := 2) (lv1 := [.ref 17, .int b, .int fr, .int to, .int tm, xmk, xmk, xmk]) (st1 := [.int fr, .int 1]) (h1 := (124, I, J, R)) rfl ?_
  refine ev_go 4 (pc1 := 9) (lv1 := [.ref 17, .int b, .int fr, .int to, .int tm, .int (1 <<< (fr &&& 31)), .int tm, xmk]) (st1 := []) (h1 := (124, I, J, R)) rfl ?_
  exact hk
set_option maxRecDepth 20000 in
theorem sC_e_3 {L : Nat} {xs : Nat → Int32} {d : Nat} {I : Nat → Nat → Int32} {J : Nat → Nat → Int64} {R : Nat → Nat → Nat} {b fr to tm x t : Int32} {w7 : Value} (hG : aGd R) (b1 : t.toInt ≥ (I 17 5).toInt) : xEv L xs d 66 9 [.ref 17, .int b, .int fr, .int to, .int tm, .int x, .int t, w7] [] (124, I, J, R) (some (.int (-1))) (124, I, J, R) := by
  refine ev_go 3 (pc1 := 15) (lv1 := [.ref 17, .int b, .int fr, .int to, .int tm, .int x, .int t, w7]) (st1 := [.int (I 17 5), .int t]) (h1 := (124, I, J, R)) rfl ?_
  refine ev_br (b1 := true) rfl rfl (xcd_ge (x := t) (y := (I 17 5)) (by first | exact b1 | omega)) ?_
  refine ev_go 1 (pc1 := 91) (lv1 := [.ref 17, .int b, .int fr, .int to, .int tm, .int x, .int t, w7]) (st1 := [.int (-1)]) (h1 := (124, I, J, R)) rfl ?_
  exact ev_ret rfl rfl
set_option maxRecDepth 20000 in
theorem sC_n_3 {L : Nat} {xs : Nat → Int32} {d : Nat} {I : Nat → Nat → Int32} {J : Nat → Nat → Int64} {R : Nat → Nat → Nat} {b fr to tm x t r1 r2 : Int32} {w7 : Value} (hG : aGd R) (b1 : t.toInt < (I 17 5).toInt) (c1 : xEv L xs d 39 0 [.ref 20, .int t] [] (124, I, J, R) (some (.int r1)) (124, I, J, R)) (c2 : xEv L xs d 39 0 [.ref 21, .int t] [] (124, I, J, R) (some (.int r2)) (124, I, J, R)) (c3 : xEv L xs d 67 0 [.ref 17, .int t] [] (124, I, J, R) (some (.int 0)) (124, I, J, R)) {v : Option Value} {h' : xH} (hk : xEv L xs (d + 1) 66 9 [.ref 17, .int b, .int fr, .int to, .int tm, .int x, .int (t + 1), .int ((1 <<< (r1 &&& 31)) ||| (1 <<< (r2 &&& 31)))] [] (124, I, J, R) v h') : xEv L xs (d + 1) 66 9 [.ref 17, .int b, .int fr, .int to, .int tm, .int x, .int t, w7] [] (124, I, J, R) v h' := by
  refine ev_go 3 (pc1 := 15) (lv1 := [.ref 17, .int b, .int fr, .int to, .int tm, .int x, .int t, w7]) (st1 := [.int (I 17 5), .int t]) (h1 := (124, I, J, R)) rfl ?_
  refine ev_br (b1 := false) rfl rfl (xcd_nge (x := t) (y := (I 17 5)) (by first | exact b1 | omega)) ?_
  refine ev_go 2 (pc1 := 20) (lv1 := [.ref 17, .int b, .int fr, .int to, .int tm, .int x, .int t, w7]) (st1 := [.ref 17, .int 1]) (h1 := (124, I, J, R)) rfl ?_
  refine ev_gf (c := 17) (t := 20) (X := R 17 2) rfl rfl (fun _ => rfl) rfl (hG 17 2 20 rfl rfl) ?_
  refine ev_go 1 (pc1 := 25) (lv1 := [.ref 17, .int b, .int fr, .int to, .int tm, .int x, .int t, w7]) (st1 := [.int t, .ref 20, .int 1]) (h1 := (124, I, J, R)) rfl ?_
  refine ev_call (v1 := (some (.int r1))) (h1 := (124, I, J, R)) rfl rfl c1 ?_
  refine ev_go 3 (pc1 := 31) (lv1 := [.ref 17, .int b, .int fr, .int to, .int tm, .int x, .int t, w7]) (st1 := [.ref 17, .int 1, .int (1 <<< (r1 &&& 31))]) (h1 := (124, I, J, R)) rfl ?_
  refine ev_gf (c := 17) (t := 21) (X := R 17 3) rfl rfl (fun _ => rfl) rfl (hG 17 3 21 rfl rfl) ?_
  refine ev_go 1 (pc1 := 36) (lv1 := [.ref 17, .int b, .int fr, .int to, .int tm, .int x, .int t, w7]) (st1 := [.int t, .ref 21, .int 1, .int (1 <<< (r1 &&& 31))]) (h1 := (124, I, J, R)) rfl ?_
  refine ev_call (v1 := (some (.int r2))) (h1 := (124, I, J, R)) rfl rfl c2 ?_
  refine ev_go 5 (pc1 := 46) (lv1 := [.ref 17, .int b, .int fr, .int to, .int tm, .int x, .int t, .int ((1 <<< (r1 &&& 31)) ||| (1 <<< (r2 &&& 31)))]) (st1 := [.int t, .ref 17]) (h1 := (124, I, J, R)) rfl ?_
  refine ev_call (v1 := (some (.int 0))) (h1 := (124, I, J, R)) rfl rfl c3 ?_
  refine ev_go 3 (pc1 := 9) (lv1 := [.ref 17, .int b, .int fr, .int to, .int tm, .int x, .int (t + 1), .int ((1 <<< (r1 &&& 31)) ||| (1 <<< (r2 &&& 31)))]) (st1 := []) (h1 := (124, I, J, R)) rfl ?_
  exact hk
set_option maxRecDepth 20000 in
theorem sC_0_3 {L : Nat} {xs : Nat → Int32} {d : Nat} {I : Nat → Nat → Int32} {J : Nat → Nat → Int64} {R : Nat → Nat → Nat} {b fr to tm x t r1 r2 : Int32} {w7 : Value} (hG : aGd R) (b1 : t.toInt < (I 17 5).toInt) (c1 : xEv L xs d 39 0 [.ref 20, .int t] [] (124, I, J, R) (some (.int r1)) (124, I, J, R)) (c2 : xEv L xs d 39 0 [.ref 21, .int t] [] (124, I, J, R) (some (.int r2)) (124, I, J, R)) (c3 : xEv L xs d 67 0 [.ref 17, .int t] [] (124, I, J, R) (some (.int 1)) (124, I, J, R)) (b2 : (x &&& ((1 <<< (r1 &&& 31)) ||| (1 <<< (r2 &&& 31)))).toInt = 0) {v : Option Value} {h' : xH} (hk : xEv L xs (d + 1) 66 9 [.ref 17, .int b, .int fr, .int to, .int tm, .int x, .int (t + 1), .int ((1 <<< (r1 &&& 31)) ||| (1 <<< (r2 &&& 31)))] [] (124, I, J, R) v h') : xEv L xs (d + 1) 66 9 [.ref 17, .int b, .int fr, .int to, .int tm, .int x, .int t, w7] [] (124, I, J, R) v h' := by
  refine ev_go 3 (pc1 := 15) (lv1 := [.ref 17, .int b, .int fr, .int to, .int tm, .int x, .int t, w7]) (st1 := [.int (I 17 5), .int t]) (h1 := (124, I, J, R)) rfl ?_
  refine ev_br (b1 := false) rfl rfl (xcd_nge (x := t) (y := (I 17 5)) (by first | exact b1 | omega)) ?_
  refine ev_go 2 (pc1 := 20) (lv1 := [.ref 17, .int b, .int fr, .int to, .int tm, .int x, .int t, w7]) (st1 := [.ref 17, .int 1]) (h1 := (124, I, J, R)) rfl ?_
  refine ev_gf (c := 17) (t := 20) (X := R 17 2) rfl rfl (fun _ => rfl) rfl (hG 17 2 20 rfl rfl) ?_
  refine ev_go 1 (pc1 := 25) (lv1 := [.ref 17, .int b, .int fr, .int to, .int tm, .int x, .int t, w7]) (st1 := [.int t, .ref 20, .int 1]) (h1 := (124, I, J, R)) rfl ?_
  refine ev_call (v1 := (some (.int r1))) (h1 := (124, I, J, R)) rfl rfl c1 ?_
  refine ev_go 3 (pc1 := 31) (lv1 := [.ref 17, .int b, .int fr, .int to, .int tm, .int x, .int t, w7]) (st1 := [.ref 17, .int 1, .int (1 <<< (r1 &&& 31))]) (h1 := (124, I, J, R)) rfl ?_
  refine ev_gf (c := 17) (t := 21) (X := R 17 3) rfl rfl (fun _ => rfl) rfl (hG 17 3 21 rfl rfl) ?_
  refine ev_go 1 (pc1 := 36) (lv1 := [.ref 17, .int b, .int fr, .int to, .int tm, .int x, .int t, w7]) (st1 := [.int t, .ref 21, .int 1, .int (1 <<< (r1 &&& 31))]) (h1 := (124, I, J, R)) rfl ?_
  refine ev_call (v1 := (some (.int r2))) (h1 := (124, I, J, R)) rfl rfl c2 ?_
  refine ev_go 5 (pc1 := 46) (lv1 := [.ref 17, .int b, .int fr, .int to, .int tm, .int x, .int t, .int ((1 <<< (r1 &&& 31)) ||| (1 <<< (r2 &&& 31)))]) (st1 := [.int t, .ref 17]) (h1 := (124, I, J, R)) rfl ?_
  refine ev_call (v1 := (some (.int 1))) (h1 := (124, I, J, R)) rfl rfl c3 ?_
  refine ev_go 4 (pc1 := 57) (lv1 := [.ref 17, .int b, .int fr, .int to, .int tm, .int x, .int t, .int ((1 <<< (r1 &&& 31)) ||| (1 <<< (r2 &&& 31)))]) (st1 := [.int (x &&& ((1 <<< (r1 &&& 31)) ||| (1 <<< (r2 &&& 31))))]) (h1 := (124, I, J, R)) rfl ?_
  refine ev_br (b1 := true) rfl rfl (xcd_eq (x := (x &&& ((1 <<< (r1 &&& 31)) ||| (1 <<< (r2 &&& 31))))) (y := 0) (by rw [show ((0 : Int32)).toInt = 0 from by decide]; first | exact b2 | omega)) ?_
  refine ev_go 2 (pc1 := 9) (lv1 := [.ref 17, .int b, .int fr, .int to, .int tm, .int x, .int (t + 1), .int ((1 <<< (r1 &&& 31)) ||| (1 <<< (r2 &&& 31)))]) (st1 := []) (h1 := (124, I, J, R)) rfl ?_
  exact hk
set_option maxRecDepth 20000 in
theorem sC_1_3 {L : Nat} {xs : Nat → Int32} {d : Nat} {I : Nat → Nat → Int32} {J : Nat → Nat → Int64} {R : Nat → Nat → Nat} {b fr to tm x t r1 r2 : Int32} {w7 : Value} (hG : aGd R) (b1 : t.toInt < (I 17 5).toInt) (c1 : xEv L xs d 39 0 [.ref 20, .int t] [] (124, I, J, R) (some (.int r1)) (124, I, J, R)) (c2 : xEv L xs d 39 0 [.ref 21, .int t] [] (124, I, J, R) (some (.int r2)) (124, I, J, R)) (c3 : xEv L xs d 67 0 [.ref 17, .int t] [] (124, I, J, R) (some (.int 1)) (124, I, J, R)) (b2 : (x &&& ((1 <<< (r1 &&& 31)) ||| (1 <<< (r2 &&& 31)))).toInt ≠ 0) (b3 : (((x ||| (((1 <<< (r1 &&& 31)) ||| (1 <<< (r2 &&& 31))) &&& (b ^^^ (-1)))) >>> (to &&& 31)) &&& 1).toInt ≠ 1) {v : Option Value} {h' : xH} (hk : xEv L xs (d + 1) 66 9 [.ref 17, .int b, .int fr, .int to, .int tm, .int (x ||| (((1 <<< (r1 &&& 31)) ||| (1 <<< (r2 &&& 31))) &&& (b ^^^ (-1)))), .int (t + 1), .int ((1 <<< (r1 &&& 31)) ||| (1 <<< (r2 &&& 31)))] [] (124, I, J, R) v h') : xEv L xs (d + 1) 66 9 [.ref 17, .int b, .int fr, .int to, .int tm, .int x, .int t, w7] [] (124, I, J, R) v h' := by
  refine ev_go 3 (pc1 := 15) (lv1 := [.ref 17, .int b, .int fr, .int to, .int tm, .int x, .int t, w7]) (st1 := [.int (I 17 5), .int t]) (h1 := (124, I, J, R)) rfl ?_
  refine ev_br (b1 := false) rfl rfl (xcd_nge (x := t) (y := (I 17 5)) (by first | exact b1 | omega)) ?_
  refine ev_go 2 (pc1 := 20) (lv1 := [.ref 17, .int b, .int fr, .int to, .int tm, .int x, .int t, w7]) (st1 := [.ref 17, .int 1]) (h1 := (124, I, J, R)) rfl ?_
  refine ev_gf (c := 17) (t := 20) (X := R 17 2) rfl rfl (fun _ => rfl) rfl (hG 17 2 20 rfl rfl) ?_
  refine ev_go 1 (pc1 := 25) (lv1 := [.ref 17, .int b, .int fr, .int to, .int tm, .int x, .int t, w7]) (st1 := [.int t, .ref 20, .int 1]) (h1 := (124, I, J, R)) rfl ?_
  refine ev_call (v1 := (some (.int r1))) (h1 := (124, I, J, R)) rfl rfl c1 ?_
  refine ev_go 3 (pc1 := 31) (lv1 := [.ref 17, .int b, .int fr, .int to, .int tm, .int x, .int t, w7]) (st1 := [.ref 17, .int 1, .int (1 <<< (r1 &&& 31))]) (h1 := (124, I, J, R)) rfl ?_
  refine ev_gf (c := 17) (t := 21) (X := R 17 3) rfl rfl (fun _ => rfl) rfl (hG 17 3 21 rfl rfl) ?_
  refine ev_go 1 (pc1 := 36) (lv1 := [.ref 17, .int b, .int fr, .int to, .int tm, .int x, .int t, w7]) (st1 := [.int t, .ref 21, .int 1, .int (1 <<< (r1 &&& 31))]) (h1 := (124, I, J, R)) rfl ?_
  refine ev_call (v1 := (some (.int r2))) (h1 := (124, I, J, R)) rfl rfl c2 ?_
  refine ev_go 5 (pc1 := 46) (lv1 := [.ref 17, .int b, .int fr, .int to, .int tm, .int x, .int t, .int ((1 <<< (r1 &&& 31)) ||| (1 <<< (r2 &&& 31)))]) (st1 := [.int t, .ref 17]) (h1 := (124, I, J, R)) rfl ?_
  refine ev_call (v1 := (some (.int 1))) (h1 := (124, I, J, R)) rfl rfl c3 ?_
  refine ev_go 4 (pc1 := 57) (lv1 := [.ref 17, .int b, .int fr, .int to, .int tm, .int x, .int t, .int ((1 <<< (r1 &&& 31)) ||| (1 <<< (r2 &&& 31)))]) (st1 := [.int (x &&& ((1 <<< (r1 &&& 31)) ||| (1 <<< (r2 &&& 31))))]) (h1 := (124, I, J, R)) rfl ?_
  refine ev_br (b1 := false) rfl rfl (xcd_neq (x := (x &&& ((1 <<< (r1 &&& 31)) ||| (1 <<< (r2 &&& 31))))) (y := 0) (by rw [show ((0 : Int32)).toInt = 0 from by decide]; first | exact b2 | omega)) ?_
  refine ev_go 10 (pc1 := 74) (lv1 := [.ref 17, .int b, .int fr, .int to, .int tm, .int (x ||| (((1 <<< (r1 &&& 31)) ||| (1 <<< (r2 &&& 31))) &&& (b ^^^ (-1)))), .int t, .int ((1 <<< (r1 &&& 31)) ||| (1 <<< (r2 &&& 31)))]) (st1 := [.int to, .int (x ||| (((1 <<< (r1 &&& 31)) ||| (1 <<< (r2 &&& 31))) &&& (b ^^^ (-1))))]) (h1 := (124, I, J, R)) rfl ?_
  refine ev_go 4 (pc1 := 78) (lv1 := [.ref 17, .int b, .int fr, .int to, .int tm, .int (x ||| (((1 <<< (r1 &&& 31)) ||| (1 <<< (r2 &&& 31))) &&& (b ^^^ (-1)))), .int t, .int ((1 <<< (r1 &&& 31)) ||| (1 <<< (r2 &&& 31)))]) (st1 := [.int 1, .int (((x ||| (((1 <<< (r1 &&& 31)) ||| (1 <<< (r2 &&& 31))) &&& (b ^^^ (-1)))) >>> (to &&& 31)) &&& 1)]) (h1 := (124, I, J, R)) rfl ?_
  refine ev_br (b1 := true) rfl rfl (xcd_ne (x := (((x ||| (((1 <<< (r1 &&& 31)) ||| (1 <<< (r2 &&& 31))) &&& (b ^^^ (-1)))) >>> (to &&& 31)) &&& 1)) (y := 1) (by rw [show ((1 : Int32)).toInt = 1 from by decide]; first | exact b3 | omega)) ?_
  refine ev_go 2 (pc1 := 9) (lv1 := [.ref 17, .int b, .int fr, .int to, .int tm, .int (x ||| (((1 <<< (r1 &&& 31)) ||| (1 <<< (r2 &&& 31))) &&& (b ^^^ (-1)))), .int (t + 1), .int ((1 <<< (r1 &&& 31)) ||| (1 <<< (r2 &&& 31)))]) (st1 := []) (h1 := (124, I, J, R)) rfl ?_
  exact hk
set_option maxRecDepth 20000 in
theorem sC_2_3 {L : Nat} {xs : Nat → Int32} {d : Nat} {I : Nat → Nat → Int32} {J : Nat → Nat → Int64} {R : Nat → Nat → Nat} {b fr to tm x t r1 r2 : Int32} {w7 : Value} (hG : aGd R) (b1 : t.toInt < (I 17 5).toInt) (c1 : xEv L xs d 39 0 [.ref 20, .int t] [] (124, I, J, R) (some (.int r1)) (124, I, J, R)) (c2 : xEv L xs d 39 0 [.ref 21, .int t] [] (124, I, J, R) (some (.int r2)) (124, I, J, R)) (c3 : xEv L xs d 67 0 [.ref 17, .int t] [] (124, I, J, R) (some (.int 1)) (124, I, J, R)) (b2 : (x &&& ((1 <<< (r1 &&& 31)) ||| (1 <<< (r2 &&& 31)))).toInt ≠ 0) (b3 : (((x ||| (((1 <<< (r1 &&& 31)) ||| (1 <<< (r2 &&& 31))) &&& (b ^^^ (-1)))) >>> (to &&& 31)) &&& 1).toInt = 1) : xEv L xs (d + 1) 66 9 [.ref 17, .int b, .int fr, .int to, .int tm, .int x, .int t, w7] [] (124, I, J, R) (some (.int t)) (124, I, J, R) := by
  refine ev_go 3 (pc1 := 15) (lv1 := [.ref 17, .int b, .int fr, .int to, .int tm, .int x, .int t, w7]) (st1 := [.int (I 17 5), .int t]) (h1 := (124, I, J, R)) rfl ?_
  refine ev_br (b1 := false) rfl rfl (xcd_nge (x := t) (y := (I 17 5)) (by first | exact b1 | omega)) ?_
  refine ev_go 2 (pc1 := 20) (lv1 := [.ref 17, .int b, .int fr, .int to, .int tm, .int x, .int t, w7]) (st1 := [.ref 17, .int 1]) (h1 := (124, I, J, R)) rfl ?_
  refine ev_gf (c := 17) (t := 20) (X := R 17 2) rfl rfl (fun _ => rfl) rfl (hG 17 2 20 rfl rfl) ?_
  refine ev_go 1 (pc1 := 25) (lv1 := [.ref 17, .int b, .int fr, .int to, .int tm, .int x, .int t, w7]) (st1 := [.int t, .ref 20, .int 1]) (h1 := (124, I, J, R)) rfl ?_
  refine ev_call (v1 := (some (.int r1))) (h1 := (124, I, J, R)) rfl rfl c1 ?_
  refine ev_go 3 (pc1 := 31) (lv1 := [.ref 17, .int b, .int fr, .int to, .int tm, .int x, .int t, w7]) (st1 := [.ref 17, .int 1, .int (1 <<< (r1 &&& 31))]) (h1 := (124, I, J, R)) rfl ?_
  refine ev_gf (c := 17) (t := 21) (X := R 17 3) rfl rfl (fun _ => rfl) rfl (hG 17 3 21 rfl rfl) ?_
  refine ev_go 1 (pc1 := 36) (lv1 := [.ref 17, .int b, .int fr, .int to, .int tm, .int x, .int t, w7]) (st1 := [.int t, .ref 21, .int 1, .int (1 <<< (r1 &&& 31))]) (h1 := (124, I, J, R)) rfl ?_
  refine ev_call (v1 := (some (.int r2))) (h1 := (124, I, J, R)) rfl rfl c2 ?_
  refine ev_go 5 (pc1 := 46) (lv1 := [.ref 17, .int b, .int fr, .int to, .int tm, .int x, .int t, .int ((1 <<< (r1 &&& 31)) ||| (1 <<< (r2 &&& 31)))]) (st1 := [.int t, .ref 17]) (h1 := (124, I, J, R)) rfl ?_
  refine ev_call (v1 := (some (.int 1))) (h1 := (124, I, J, R)) rfl rfl c3 ?_
  refine ev_go 4 (pc1 := 57) (lv1 := [.ref 17, .int b, .int fr, .int to, .int tm, .int x, .int t, .int ((1 <<< (r1 &&& 31)) ||| (1 <<< (r2 &&& 31)))]) (st1 := [.int (x &&& ((1 <<< (r1 &&& 31)) ||| (1 <<< (r2 &&& 31))))]) (h1 := (124, I, J, R)) rfl ?_
  refine ev_br (b1 := false) rfl rfl (xcd_neq (x := (x &&& ((1 <<< (r1 &&& 31)) ||| (1 <<< (r2 &&& 31))))) (y := 0) (by rw [show ((0 : Int32)).toInt = 0 from by decide]; first | exact b2 | omega)) ?_
  refine ev_go 10 (pc1 := 74) (lv1 := [.ref 17, .int b, .int fr, .int to, .int tm, .int (x ||| (((1 <<< (r1 &&& 31)) ||| (1 <<< (r2 &&& 31))) &&& (b ^^^ (-1)))), .int t, .int ((1 <<< (r1 &&& 31)) ||| (1 <<< (r2 &&& 31)))]) (st1 := [.int to, .int (x ||| (((1 <<< (r1 &&& 31)) ||| (1 <<< (r2 &&& 31))) &&& (b ^^^ (-1))))]) (h1 := (124, I, J, R)) rfl ?_
  refine ev_go 4 (pc1 := 78) (lv1 := [.ref 17, .int b, .int fr, .int to, .int tm, .int (x ||| (((1 <<< (r1 &&& 31)) ||| (1 <<< (r2 &&& 31))) &&& (b ^^^ (-1)))), .int t, .int ((1 <<< (r1 &&& 31)) ||| (1 <<< (r2 &&& 31)))]) (st1 := [.int 1, .int (((x ||| (((1 <<< (r1 &&& 31)) ||| (1 <<< (r2 &&& 31))) &&& (b ^^^ (-1)))) >>> (to &&& 31)) &&& 1)]) (h1 := (124, I, J, R)) rfl ?_
  refine ev_br (b1 := false) rfl rfl (xcd_nne (x := (((x ||| (((1 <<< (r1 &&& 31)) ||| (1 <<< (r2 &&& 31))) &&& (b ^^^ (-1)))) >>> (to &&& 31)) &&& 1)) (y := 1) (by rw [show ((1 : Int32)).toInt = 1 from by decide]; first | exact b3 | omega)) ?_
  refine ev_go 1 (pc1 := 83) (lv1 := [.ref 17, .int b, .int fr, .int to, .int tm, .int (x ||| (((1 <<< (r1 &&& 31)) ||| (1 <<< (r2 &&& 31))) &&& (b ^^^ (-1)))), .int t, .int ((1 <<< (r1 &&& 31)) ||| (1 <<< (r2 &&& 31)))]) (st1 := [.int t]) (h1 := (124, I, J, R)) rfl ?_
  exact ev_ret rfl rfl
set_option maxRecDepth 20000 in
theorem hm_a_3 {L : Nat} {xs : Nat → Int32} {d : Nat} {I : Nat → Nat → Int32} {J : Nat → Nat → Int64} {R : Nat → Nat → Nat} {t : Int32} (hG : aGd R) (b1 : t.toInt < 0) : xEv L xs d 65 0 [.ref 17, .int t] [] (124, I, J, R) (some (.int 0)) (124, I, J, R) := by
  refine ev_go 1 (pc1 := 1) (lv1 := [.ref 17, .int t]) (st1 := [.int t]) (h1 := (124, I, J, R)) rfl ?_
  refine ev_br (b1 := true) rfl rfl (xcd_lt (x := t) (y := 0) (by rw [show ((0 : Int32)).toInt = 0 from by decide]; first | exact b1 | omega)) ?_
  refine ev_go 1 (pc1 := 17) (lv1 := [.ref 17, .int t]) (st1 := [.int 0]) (h1 := (124, I, J, R)) rfl ?_
  exact ev_ret rfl rfl
set_option maxRecDepth 20000 in
theorem hm_b_3 {L : Nat} {xs : Nat → Int32} {d : Nat} {I : Nat → Nat → Int32} {J : Nat → Nat → Int64} {R : Nat → Nat → Nat} {t : Int32} (hG : aGd R) (b1 : t.toInt ≥ 0) (b2 : t.toInt > (I 17 5).toInt) : xEv L xs d 65 0 [.ref 17, .int t] [] (124, I, J, R) (some (.int 0)) (124, I, J, R) := by
  refine ev_go 1 (pc1 := 1) (lv1 := [.ref 17, .int t]) (st1 := [.int t]) (h1 := (124, I, J, R)) rfl ?_
  refine ev_br (b1 := false) rfl rfl (xcd_nlt (x := t) (y := 0) (by rw [show ((0 : Int32)).toInt = 0 from by decide]; first | exact b1 | omega)) ?_
  refine ev_go 3 (pc1 := 9) (lv1 := [.ref 17, .int t]) (st1 := [.int (I 17 5), .int t]) (h1 := (124, I, J, R)) rfl ?_
  refine ev_br (b1 := true) rfl rfl (xcd_gt (x := t) (y := (I 17 5)) (by first | exact b2 | omega)) ?_
  refine ev_go 1 (pc1 := 17) (lv1 := [.ref 17, .int t]) (st1 := [.int 0]) (h1 := (124, I, J, R)) rfl ?_
  exact ev_ret rfl rfl
set_option maxRecDepth 20000 in
theorem hm_c_3 {L : Nat} {xs : Nat → Int32} {d : Nat} {I : Nat → Nat → Int32} {J : Nat → Nat → Int64} {R : Nat → Nat → Nat} {t : Int32} (hG : aGd R) (b1 : t.toInt ≥ 0) (b2 : t.toInt ≤ (I 17 5).toInt) : xEv L xs d 65 0 [.ref 17, .int t] [] (124, I, J, R) (some (.int 1)) (124, I, J, R) := by
  refine ev_go 1 (pc1 := 1) (lv1 := [.ref 17, .int t]) (st1 := [.int t]) (h1 := (124, I, J, R)) rfl ?_
  refine ev_br (b1 := false) rfl rfl (xcd_nlt (x := t) (y := 0) (by rw [show ((0 : Int32)).toInt = 0 from by decide]; first | exact b1 | omega)) ?_
  refine ev_go 3 (pc1 := 9) (lv1 := [.ref 17, .int t]) (st1 := [.int (I 17 5), .int t]) (h1 := (124, I, J, R)) rfl ?_
  refine ev_br (b1 := false) rfl rfl (xcd_ngt (x := t) (y := (I 17 5)) (by first | exact b2 | omega)) ?_
  refine ev_go 2 (pc1 := 17) (lv1 := [.ref 17, .int t]) (st1 := [.int 1]) (h1 := (124, I, J, R)) rfl ?_
  exact ev_ret rfl rfl
theorem hm_run_3 {L : Nat} {xs : Nat → Int32} {d : Nat} {I : Nat → Nat → Int32} {J : Nat → Nat → Int64} {R : Nat → Nat → Nat} (hG : aGd R) {m : Nat} (hm : (I 17 5).toInt = m) (x : Int32) : ((0 ≤ x.toInt ∧ x.toInt ≤ m) ∧ xEv L xs d 65 0 [.ref 17, .int x] [] (124, I, J, R) (some (.int 1)) (124, I, J, R)) ∨ (¬ (0 ≤ x.toInt ∧ x.toInt ≤ m) ∧ xEv L xs d 65 0 [.ref 17, .int x] [] (124, I, J, R) (some (.int 0)) (124, I, J, R)) := by
  by_cases h1 : x.toInt < 0
  · exact Or.inr ⟨by omega, hm_a_3 hG h1⟩
  by_cases h2 : x.toInt > (I 17 5).toInt
  · exact Or.inr ⟨by omega, hm_b_3 hG (by omega) h2⟩
  · exact Or.inl ⟨by omega, hm_c_3 hG (by omega) (by omega)⟩
/-- the rows of a time in both -/
theorem tmr_3 {np nm nn : Nat} {l : List (Nat × Nat)} {I : Nat → Nat → Int32} (hV : VR_3 np nm nn l I I) {t : Nat} (h : t < l.length) : ∃ b, b < nm ∧ (I 101 t).toInt = (b : Int) ∧ I 20 t = I 92 b ∧ I 21 t = I 93 b ∧ I 22 t = I 95 b ∧ 0 ≤ (I 92 b).toInt ∧ (I 92 b).toInt < np ∧ 0 ≤ (I 93 b).toInt ∧ (I 93 b).toInt < np ∧ (I 92 b).toInt ≠ (I 93 b).toInt := by
  obtain ⟨⟨p1, p2, p3⟩, p4, p5, p6, ⟨q1, q2⟩, ⟨q3, q4⟩, ⟨q5, q6⟩, q7, q8, q9, ⟨q10, q11⟩, q12, q13, q14, q15, -⟩ := hV
  have hb := (p6 l[t] (List.getElem_mem h)).2
  obtain ⟨-, -, -, w4, w5, w6, w7⟩ := q12 t (l[t]).1 (l[t]).2 (List.getElem?_eq_getElem h)
  obtain ⟨e1, e2, -⟩ := q8 _ hb
  obtain ⟨r1, r2, r3, r4, r5⟩ := q15 _ hb
  rw [e1] at r1 r2 r5
  rw [e2] at r3 r4 r5
  exact ⟨(l[t]).2, hb, w4, w5, w6, w7, r1, r2, r3, r4, r5⟩
/-- soonest of both, from time n on -/
theorem sol_3 {L : Nat} {xs : Nat → Int32} {d : Nat} {I : Nat → Nat → Int32} {J : Nat → Nat → Int64} {R : Nat → Nat → Nat} {d' : Nat} (hG : aGd R) {np nm nn : Nat} {l : List (Nat × Nat)} (hV : VR_3 np nm nn l I I) {b fr to tm : Int32} {z : Nat} (hto : to.toInt = z) (hz : z < np) : ∀ (f n : Nat) (x t : Int32) (w7 u7 u8 u9 : Value), n + f = l.length → t.toInt = n → tb x z = false →
    ∃ r : Int32, xEv L xs (d + 2) 66 9 [.ref 17, .int b, .int fr, .int to, .int tm, .int x, .int t, w7] [] (124, I, J, R) (some (.int r)) (124, I, J, R) ∧ xEv L xs (d' + 1) 185 9 [.ref 86, .int b, .int fr, .int to, .int tm, .int x, .int t, u7, u8, u9] [] (124, I, J, R) (some (.int (if r = -1 then I 86 26 else r))) (124, I, J, R) ∧ (r = -1 ∨ (0 ≤ r.toInt ∧ r.toInt < l.length)) := by
  have hV0 := hV
  obtain ⟨⟨p1, p2, p3⟩, p4, p5, p6, ⟨q1, q2⟩, ⟨q3, q4⟩, ⟨q5, q6⟩, q7, q8, q9, ⟨q10, q11⟩, q12, q13, q14, q15, -⟩ := hV
  intro f
  induction f with
  | zero =>
    intro n x t w7 u7 u8 u9 hn ht hx
    refine ⟨-1, sC_e_3 hG (by omega), ?_, Or.inl rfl⟩
    rw [if_pos rfl]
    exact sM_e hG (by omega)
  | succ f ih =>
    intro n x t w7 u7 u8 u9 hn ht hx
    obtain ⟨m, hm, e1, e2, e3, e4, g1, g2, g3, g4, g5⟩ := tmr_3 hV0 (t := n) (by omega)
    have ec := clamp_s (i := t) (by omega)
    have ekt : t.toNatClampNeg = n := by omega
    have ecm := clamp_s (i := I 101 n) (by omega)
    have ekm : (I 101 n).toNatClampNeg = m := by omega
    have ht' : (t + 1).toInt = (n + 1 : Nat) := by rw [i_add1 (by omega)]; omega
    have at1 : ∀ c, (∀ g : FieldType → Nat → Option xR, xarr (124, I, J, R) c g = g .int 64) → ∀ d, xEv L xs d 39 0 [.ref c, .int t] [] (124, I, J, R) (some (.int (I c n))) (124, I, J, R) := by
      intro c ho d
      have h4 := at_run (L := L) (xs := xs) (d := d) (h := (124, I, J, R)) ho (by decide) t
      rw [if_pos ⟨by omega, by omega⟩, ekt] at h4
      exact h4
    have c1 := at1 20 (fun _ => rfl) (d + 1)
    have c2 := at1 21 (fun _ => rfl) (d + 1)
    have c3 := at1 22 (fun _ => rfl) d
    rw [e2] at c1
    rw [e3] at c2
    rw [e4] at c3
    have m1 := oA (L := L) (xs := xs) (d := d') (I := I) (J := J) (t := t) hG (by omega) (by omega) (by rw [ekt]; omega) (by rw [ekt]; omega)
    have m2 := tA (L := L) (xs := xs) (d := d') (I := I) (J := J) (t := t) hG (by omega) (by omega) (by rw [ekt]; omega) (by rw [ekt]; omega)
    rw [ekt, ekm] at m1 m2
    by_cases hs : (I 95 m).toInt = 10
    · have k1 := cS_1_3 (L := L) (xs := xs) (I := I) (J := J) hG c3 hs
      have k2 := iS_1 (L := L) (xs := xs) (d := d') (I := I) (J := J) (t := t) hG (by omega) (by omega) (by rw [ekt]; omega) (by rw [ekt]; omega) (by rw [ekt, ekm]; exact hs)
      obtain ⟨a, ha⟩ := Int.eq_ofNat_of_zero_le g1
      obtain ⟨c, hc⟩ := Int.eq_ofNat_of_zero_le g3
      have hS := sG_c (b := b) (x := x) ha hc (by omega) (by omega)
      have hsh : ∀ y : Int32, (y >>> (to &&& 31)) &&& 1 = (if tb y z then 1 else 0) := fun y => tb_shr hto (by omega)
      by_cases hp : x &&& ((1 <<< (I 92 m &&& 31)) ||| (1 <<< (I 93 m &&& 31))) = 0
      · obtain ⟨r, x1, x2, x3⟩ := ih (n + 1) x (t + 1) (.int ((1 <<< (I 92 m &&& 31)) ||| (1 <<< (I 93 m &&& 31)))) (.int (I 92 m)) (.int (I 93 m)) (.int x) (by omega) ht' hx
        refine ⟨r, sC_0_3 hG (by omega) c1 c2 k1 (by rw [hp]; decide) x1, sM_0 hG (by omega) k2 m1 m2 (sG_run hG ha hc (by omega) (by omega) ?_), x3⟩
        rw [hS.1 hp]
        exact sM_y hG (by rw [hsh, hx]; decide) x2
      · have hp' : (x &&& ((1 <<< (I 92 m &&& 31)) ||| (1 <<< (I 93 m &&& 31)))).toInt ≠ 0 := fun h => hp (Int32.toInt_inj.mp h)
        cases hy : tb (sG b x (I 92 m) (I 93 m) a c) z with
        | true =>
          refine ⟨t, sC_2_3 hG (by omega) c1 c2 k1 hp' (by rw [← hS.2 hp, hsh, hy]; decide), ?_, Or.inr ⟨by omega, by omega⟩⟩
          rw [if_neg (fun h => by rw [h] at ht; rw [show (-1 : Int32).toInt = -1 from by decide] at ht; omega)]
          exact sM_0 hG (by omega) k2 m1 m2 (sG_run hG ha hc (by omega) (by omega) (sM_x hG (by rw [hsh, hy]; decide)))
        | false =>
          obtain ⟨r, x1, x2, x3⟩ := ih (n + 1) (sG b x (I 92 m) (I 93 m) a c) (t + 1) (.int ((1 <<< (I 92 m &&& 31)) ||| (1 <<< (I 93 m &&& 31)))) (.int (I 92 m)) (.int (I 93 m)) (.int x) (by omega) ht' hy
          refine ⟨r, sC_1_3 hG (by omega) c1 c2 k1 hp' (by rw [← hS.2 hp, hsh, hy]; decide) (by rw [← hS.2 hp]; exact x1), sM_0 hG (by omega) k2 m1 m2 (sG_run hG ha hc (by omega) (by omega) (sM_y hG (by rw [hsh, hy]; decide) x2)), x3⟩
    · have k1 := cS_0_3 (L := L) (xs := xs) (I := I) (J := J) hG c3 hs
      have k2 := iS_0 (L := L) (xs := xs) (d := d') (I := I) (J := J) (t := t) hG (by omega) (by omega) (by rw [ekt]; omega) (by rw [ekt]; omega) (by rw [ekt, ekm]; exact hs)
      obtain ⟨r, x1, x2, x3⟩ := ih (n + 1) x (t + 1) (.int ((1 <<< (I 92 m &&& 31)) ||| (1 <<< (I 93 m &&& 31)))) u7 u8 u9 (by omega) ht' hx
      exact ⟨r, sC_n_3 hG (by omega) c1 c2 k1 x1, sM_n hG (by omega) k2 x2, x3⟩
/-- soonest of both -/
theorem soo_3 {L : Nat} {xs : Nat → Int32} {d : Nat} {I : Nat → Nat → Int32} {J : Nat → Nat → Int64} {R : Nat → Nat → Nat} {d' : Nat} (hG : aGd R) {np nm nn : Nat} {l : List (Nat × Nat)} (hV : VR_3 np nm nn l I I) {b fr to tm : Int32} (h1 : 0 ≤ fr.toInt ∧ fr.toInt < np) (h2 : 0 ≤ to.toInt ∧ to.toInt < np) (h3 : 0 ≤ tm.toInt ∧ tm.toInt ≤ l.length) (h4 : fr.toInt ≠ to.toInt) :
    ∃ r : Int32, xEv L xs (d + 2) 66 0 [.ref 17, .int b, .int fr, .int to, .int tm, xmk, xmk, xmk] [] (124, I, J, R) (some (.int r)) (124, I, J, R) ∧ xEv L xs (d' + 1) 185 0 [.ref 86, .int b, .int fr, .int to, .int tm, xmk, xmk, xmk, xmk, xmk] [] (124, I, J, R) (some (.int (if r = -1 then I 86 26 else r))) (124, I, J, R) ∧ (r = -1 ∨ (0 ≤ r.toInt ∧ r.toInt < l.length)) := by
  have hp7 := hV.1.1
  obtain ⟨z, hz⟩ := Int.eq_ofNat_of_zero_le h2.1
  obtain ⟨y, hy⟩ := Int.eq_ofNat_of_zero_le h1.1
  obtain ⟨n, hn⟩ := Int.eq_ofNat_of_zero_le h3.1
  obtain ⟨r, x1, x2, x3⟩ := sol_3 (L := L) (xs := xs) (d := d) (d' := d') (J := J) hG hV (b := b) (fr := fr) (to := to) (tm := tm) hz (by omega) (l.length - n) n (1 <<< (fr &&& 31)) tm xmk xmk xmk xmk (by omega) hn (by rw [tb_shl hy (by omega)]; exact decide_eq_false (by omega))
  exact ⟨r, sC_s_3 hG x1, sM_s hG x2, x3⟩
set_option maxRecDepth 20000 in
theorem so0_3 {L : Nat} {xs : Nat → Int32} {d : Nat} {I : Nat → Nat → Int32} {J : Nat → Nat → Int64} {R : Nat → Nat → Nat} {a b c t : Int32} (hG : aGd R) (r_R_0_8 : R 0 8 = 4) (c1 : xEv L xs d 59 0 [.ref 3, .int a] [] (124, I, J, R) (some (.int 0)) (124, I, J, R)) : xEv L xs (d + 1) 63 0 [.ref 0, .int a, .int b, .int c, .int t] [] (124, I, J, R) (some (.int (-2))) (124, I, J, R) := by
  refine ev_go 1 (pc1 := 1) (lv1 := [.ref 0, .int a, .int b, .int c, .int t]) (st1 := [.ref 0]) (h1 := (124, I, J, R)) rfl ?_
  refine ev_gf (c := 0) (t := 3) (X := R 0 8) rfl rfl (fun _ => rfl) rfl r_R_0_8 ?_
  refine ev_go 1 (pc1 := 5) (lv1 := [.ref 0, .int a, .int b, .int c, .int t]) (st1 := [.int a, .ref 3]) (h1 := (124, I, J, R)) rfl ?_
  refine ev_call (v1 := (some (.int 0))) (h1 := (124, I, J, R)) rfl rfl c1 ?_
  refine ev_go 2 (pc1 := 50) (lv1 := [.ref 0, .int a, .int b, .int c, .int t]) (st1 := [.int (-2)]) (h1 := (124, I, J, R)) rfl ?_
  exact ev_ret rfl rfl
set_option maxRecDepth 20000 in
theorem bc0_3 {L : Nat} {xs : Nat → Int32} {d : Nat} {I : Nat → Nat → Int32} {J : Nat → Nat → Int64} {R : Nat → Nat → Nat} {a b c t : Int32} (hG : aGd R) (r_R_0_8 : R 0 8 = 4) (c1 : xEv L xs d 59 0 [.ref 3, .int a] [] (124, I, J, R) (some (.int 0)) (124, I, J, R)) : xEv L xs (d + 1) 82 0 [.ref 0, .int a, .int b, .int c, .int t, xmk, xmk, xmk] [] (124, I, J, R) (some (.int (-2))) (124, I, J, R) := by
  refine ev_go 1 (pc1 := 1) (lv1 := [.ref 0, .int a, .int b, .int c, .int t, xmk, xmk, xmk]) (st1 := [.ref 0]) (h1 := (124, I, J, R)) rfl ?_
  refine ev_gf (c := 0) (t := 3) (X := R 0 8) rfl rfl (fun _ => rfl) rfl r_R_0_8 ?_
  refine ev_go 1 (pc1 := 5) (lv1 := [.ref 0, .int a, .int b, .int c, .int t, xmk, xmk, xmk]) (st1 := [.int a, .ref 3]) (h1 := (124, I, J, R)) rfl ?_
  refine ev_call (v1 := (some (.int 0))) (h1 := (124, I, J, R)) rfl rfl c1 ?_
  refine ev_go 2 (pc1 := 55) (lv1 := [.ref 0, .int a, .int b, .int c, .int t, xmk, xmk, xmk]) (st1 := [.int (-2)]) (h1 := (124, I, J, R)) rfl ?_
  exact ev_ret rfl rfl
set_option maxRecDepth 20000 in
theorem so1_3 {L : Nat} {xs : Nat → Int32} {d : Nat} {I : Nat → Nat → Int32} {J : Nat → Nat → Int64} {R : Nat → Nat → Nat} {a b c t : Int32} (hG : aGd R) (r_R_0_8 : R 0 8 = 4) (c1 : xEv L xs d 59 0 [.ref 3, .int a] [] (124, I, J, R) (some (.int 1)) (124, I, J, R)) (c2 : xEv L xs d 64 0 [.ref 3, .int b] [] (124, I, J, R) (some (.int 0)) (124, I, J, R)) : xEv L xs (d + 1) 63 0 [.ref 0, .int a, .int b, .int c, .int t] [] (124, I, J, R) (some (.int (-2))) (124, I, J, R) := by
  refine ev_go 1 (pc1 := 1) (lv1 := [.ref 0, .int a, .int b, .int c, .int t]) (st1 := [.ref 0]) (h1 := (124, I, J, R)) rfl ?_
  refine ev_gf (c := 0) (t := 3) (X := R 0 8) rfl rfl (fun _ => rfl) rfl r_R_0_8 ?_
  refine ev_go 1 (pc1 := 5) (lv1 := [.ref 0, .int a, .int b, .int c, .int t]) (st1 := [.int a, .ref 3]) (h1 := (124, I, J, R)) rfl ?_
  refine ev_call (v1 := (some (.int 1))) (h1 := (124, I, J, R)) rfl rfl c1 ?_
  refine ev_go 2 (pc1 := 12) (lv1 := [.ref 0, .int a, .int b, .int c, .int t]) (st1 := [.ref 0]) (h1 := (124, I, J, R)) rfl ?_
  refine ev_gf (c := 0) (t := 3) (X := R 0 8) rfl rfl (fun _ => rfl) rfl r_R_0_8 ?_
  refine ev_go 1 (pc1 := 16) (lv1 := [.ref 0, .int a, .int b, .int c, .int t]) (st1 := [.int b, .ref 3]) (h1 := (124, I, J, R)) rfl ?_
  refine ev_call (v1 := (some (.int 0))) (h1 := (124, I, J, R)) rfl rfl c2 ?_
  refine ev_go 2 (pc1 := 50) (lv1 := [.ref 0, .int a, .int b, .int c, .int t]) (st1 := [.int (-2)]) (h1 := (124, I, J, R)) rfl ?_
  exact ev_ret rfl rfl
set_option maxRecDepth 20000 in
theorem bc1_3 {L : Nat} {xs : Nat → Int32} {d : Nat} {I : Nat → Nat → Int32} {J : Nat → Nat → Int64} {R : Nat → Nat → Nat} {a b c t : Int32} (hG : aGd R) (r_R_0_8 : R 0 8 = 4) (c1 : xEv L xs d 59 0 [.ref 3, .int a] [] (124, I, J, R) (some (.int 1)) (124, I, J, R)) (c2 : xEv L xs d 64 0 [.ref 3, .int b] [] (124, I, J, R) (some (.int 0)) (124, I, J, R)) : xEv L xs (d + 1) 82 0 [.ref 0, .int a, .int b, .int c, .int t, xmk, xmk, xmk] [] (124, I, J, R) (some (.int (-2))) (124, I, J, R) := by
  refine ev_go 1 (pc1 := 1) (lv1 := [.ref 0, .int a, .int b, .int c, .int t, xmk, xmk, xmk]) (st1 := [.ref 0]) (h1 := (124, I, J, R)) rfl ?_
  refine ev_gf (c := 0) (t := 3) (X := R 0 8) rfl rfl (fun _ => rfl) rfl r_R_0_8 ?_
  refine ev_go 1 (pc1 := 5) (lv1 := [.ref 0, .int a, .int b, .int c, .int t, xmk, xmk, xmk]) (st1 := [.int a, .ref 3]) (h1 := (124, I, J, R)) rfl ?_
  refine ev_call (v1 := (some (.int 1))) (h1 := (124, I, J, R)) rfl rfl c1 ?_
  refine ev_go 2 (pc1 := 12) (lv1 := [.ref 0, .int a, .int b, .int c, .int t, xmk, xmk, xmk]) (st1 := [.ref 0]) (h1 := (124, I, J, R)) rfl ?_
  refine ev_gf (c := 0) (t := 3) (X := R 0 8) rfl rfl (fun _ => rfl) rfl r_R_0_8 ?_
  refine ev_go 1 (pc1 := 16) (lv1 := [.ref 0, .int a, .int b, .int c, .int t, xmk, xmk, xmk]) (st1 := [.int b, .ref 3]) (h1 := (124, I, J, R)) rfl ?_
  refine ev_call (v1 := (some (.int 0))) (h1 := (124, I, J, R)) rfl rfl c2 ?_
  refine ev_go 2 (pc1 := 55) (lv1 := [.ref 0, .int a, .int b, .int c, .int t, xmk, xmk, xmk]) (st1 := [.int (-2)]) (h1 := (124, I, J, R)) rfl ?_
  exact ev_ret rfl rfl
set_option maxRecDepth 20000 in
theorem so2_3 {L : Nat} {xs : Nat → Int32} {d : Nat} {I : Nat → Nat → Int32} {J : Nat → Nat → Int64} {R : Nat → Nat → Nat} {a b c t : Int32} (hG : aGd R) (r_R_0_8 : R 0 8 = 4) (c1 : xEv L xs d 59 0 [.ref 3, .int a] [] (124, I, J, R) (some (.int 1)) (124, I, J, R)) (c2 : xEv L xs d 64 0 [.ref 3, .int b] [] (124, I, J, R) (some (.int 1)) (124, I, J, R)) (c3 : xEv L xs d 64 0 [.ref 3, .int c] [] (124, I, J, R) (some (.int 0)) (124, I, J, R)) : xEv L xs (d + 1) 63 0 [.ref 0, .int a, .int b, .int c, .int t] [] (124, I, J, R) (some (.int (-2))) (124, I, J, R) := by
  refine ev_go 1 (pc1 := 1) (lv1 := [.ref 0, .int a, .int b, .int c, .int t]) (st1 := [.ref 0]) (h1 := (124, I, J, R)) rfl ?_
  refine ev_gf (c := 0) (t := 3) (X := R 0 8) rfl rfl (fun _ => rfl) rfl r_R_0_8 ?_
  refine ev_go 1 (pc1 := 5) (lv1 := [.ref 0, .int a, .int b, .int c, .int t]) (st1 := [.int a, .ref 3]) (h1 := (124, I, J, R)) rfl ?_
  refine ev_call (v1 := (some (.int 1))) (h1 := (124, I, J, R)) rfl rfl c1 ?_
  refine ev_go 2 (pc1 := 12) (lv1 := [.ref 0, .int a, .int b, .int c, .int t]) (st1 := [.ref 0]) (h1 := (124, I, J, R)) rfl ?_
  refine ev_gf (c := 0) (t := 3) (X := R 0 8) rfl rfl (fun _ => rfl) rfl r_R_0_8 ?_
  refine ev_go 1 (pc1 := 16) (lv1 := [.ref 0, .int a, .int b, .int c, .int t]) (st1 := [.int b, .ref 3]) (h1 := (124, I, J, R)) rfl ?_
  refine ev_call (v1 := (some (.int 1))) (h1 := (124, I, J, R)) rfl rfl c2 ?_
  refine ev_go 2 (pc1 := 23) (lv1 := [.ref 0, .int a, .int b, .int c, .int t]) (st1 := [.ref 0]) (h1 := (124, I, J, R)) rfl ?_
  refine ev_gf (c := 0) (t := 3) (X := R 0 8) rfl rfl (fun _ => rfl) rfl r_R_0_8 ?_
  refine ev_go 1 (pc1 := 27) (lv1 := [.ref 0, .int a, .int b, .int c, .int t]) (st1 := [.int c, .ref 3]) (h1 := (124, I, J, R)) rfl ?_
  refine ev_call (v1 := (some (.int 0))) (h1 := (124, I, J, R)) rfl rfl c3 ?_
  refine ev_go 2 (pc1 := 50) (lv1 := [.ref 0, .int a, .int b, .int c, .int t]) (st1 := [.int (-2)]) (h1 := (124, I, J, R)) rfl ?_
  exact ev_ret rfl rfl
set_option maxRecDepth 20000 in
theorem bc2_3 {L : Nat} {xs : Nat → Int32} {d : Nat} {I : Nat → Nat → Int32} {J : Nat → Nat → Int64} {R : Nat → Nat → Nat} {a b c t : Int32} (hG : aGd R) (r_R_0_8 : R 0 8 = 4) (c1 : xEv L xs d 59 0 [.ref 3, .int a] [] (124, I, J, R) (some (.int 1)) (124, I, J, R)) (c2 : xEv L xs d 64 0 [.ref 3, .int b] [] (124, I, J, R) (some (.int 1)) (124, I, J, R)) (c3 : xEv L xs d 64 0 [.ref 3, .int c] [] (124, I, J, R) (some (.int 0)) (124, I, J, R)) : xEv L xs (d + 1) 82 0 [.ref 0, .int a, .int b, .int c, .int t, xmk, xmk, xmk] [] (124, I, J, R) (some (.int (-2))) (124, I, J, R) := by
  refine ev_go 1 (pc1 := 1) (lv1 := [.ref 0, .int a, .int b, .int c, .int t, xmk, xmk, xmk]) (st1 := [.ref 0]) (h1 := (124, I, J, R)) rfl ?_
  refine ev_gf (c := 0) (t := 3) (X := R 0 8) rfl rfl (fun _ => rfl) rfl r_R_0_8 ?_
  refine ev_go 1 (pc1 := 5) (lv1 := [.ref 0, .int a, .int b, .int c, .int t, xmk, xmk, xmk]) (st1 := [.int a, .ref 3]) (h1 := (124, I, J, R)) rfl ?_
  refine ev_call (v1 := (some (.int 1))) (h1 := (124, I, J, R)) rfl rfl c1 ?_
  refine ev_go 2 (pc1 := 12) (lv1 := [.ref 0, .int a, .int b, .int c, .int t, xmk, xmk, xmk]) (st1 := [.ref 0]) (h1 := (124, I, J, R)) rfl ?_
  refine ev_gf (c := 0) (t := 3) (X := R 0 8) rfl rfl (fun _ => rfl) rfl r_R_0_8 ?_
  refine ev_go 1 (pc1 := 16) (lv1 := [.ref 0, .int a, .int b, .int c, .int t, xmk, xmk, xmk]) (st1 := [.int b, .ref 3]) (h1 := (124, I, J, R)) rfl ?_
  refine ev_call (v1 := (some (.int 1))) (h1 := (124, I, J, R)) rfl rfl c2 ?_
  refine ev_go 2 (pc1 := 23) (lv1 := [.ref 0, .int a, .int b, .int c, .int t, xmk, xmk, xmk]) (st1 := [.ref 0]) (h1 := (124, I, J, R)) rfl ?_
  refine ev_gf (c := 0) (t := 3) (X := R 0 8) rfl rfl (fun _ => rfl) rfl r_R_0_8 ?_
  refine ev_go 1 (pc1 := 27) (lv1 := [.ref 0, .int a, .int b, .int c, .int t, xmk, xmk, xmk]) (st1 := [.int c, .ref 3]) (h1 := (124, I, J, R)) rfl ?_
  refine ev_call (v1 := (some (.int 0))) (h1 := (124, I, J, R)) rfl rfl c3 ?_
  refine ev_go 2 (pc1 := 55) (lv1 := [.ref 0, .int a, .int b, .int c, .int t, xmk, xmk, xmk]) (st1 := [.int (-2)]) (h1 := (124, I, J, R)) rfl ?_
  exact ev_ret rfl rfl
set_option maxRecDepth 20000 in
theorem so3_3 {L : Nat} {xs : Nat → Int32} {d : Nat} {I : Nat → Nat → Int32} {J : Nat → Nat → Int64} {R : Nat → Nat → Nat} {a b c t : Int32} (hG : aGd R) (r_R_0_8 : R 0 8 = 4) (c1 : xEv L xs d 59 0 [.ref 3, .int a] [] (124, I, J, R) (some (.int 1)) (124, I, J, R)) (c2 : xEv L xs d 64 0 [.ref 3, .int b] [] (124, I, J, R) (some (.int 1)) (124, I, J, R)) (c3 : xEv L xs d 64 0 [.ref 3, .int c] [] (124, I, J, R) (some (.int 1)) (124, I, J, R)) (c4 : xEv L xs d 65 0 [.ref 17, .int t] [] (124, I, J, R) (some (.int 0)) (124, I, J, R)) : xEv L xs (d + 1) 63 0 [.ref 0, .int a, .int b, .int c, .int t] [] (124, I, J, R) (some (.int (-2))) (124, I, J, R) := by
  refine ev_go 1 (pc1 := 1) (lv1 := [.ref 0, .int a, .int b, .int c, .int t]) (st1 := [.ref 0]) (h1 := (124, I, J, R)) rfl ?_
  refine ev_gf (c := 0) (t := 3) (X := R 0 8) rfl rfl (fun _ => rfl) rfl r_R_0_8 ?_
  refine ev_go 1 (pc1 := 5) (lv1 := [.ref 0, .int a, .int b, .int c, .int t]) (st1 := [.int a, .ref 3]) (h1 := (124, I, J, R)) rfl ?_
  refine ev_call (v1 := (some (.int 1))) (h1 := (124, I, J, R)) rfl rfl c1 ?_
  refine ev_go 2 (pc1 := 12) (lv1 := [.ref 0, .int a, .int b, .int c, .int t]) (st1 := [.ref 0]) (h1 := (124, I, J, R)) rfl ?_
  refine ev_gf (c := 0) (t := 3) (X := R 0 8) rfl rfl (fun _ => rfl) rfl r_R_0_8 ?_
  refine ev_go 1 (pc1 := 16) (lv1 := [.ref 0, .int a, .int b, .int c, .int t]) (st1 := [.int b, .ref 3]) (h1 := (124, I, J, R)) rfl ?_
  refine ev_call (v1 := (some (.int 1))) (h1 := (124, I, J, R)) rfl rfl c2 ?_
  refine ev_go 2 (pc1 := 23) (lv1 := [.ref 0, .int a, .int b, .int c, .int t]) (st1 := [.ref 0]) (h1 := (124, I, J, R)) rfl ?_
  refine ev_gf (c := 0) (t := 3) (X := R 0 8) rfl rfl (fun _ => rfl) rfl r_R_0_8 ?_
  refine ev_go 1 (pc1 := 27) (lv1 := [.ref 0, .int a, .int b, .int c, .int t]) (st1 := [.int c, .ref 3]) (h1 := (124, I, J, R)) rfl ?_
  refine ev_call (v1 := (some (.int 1))) (h1 := (124, I, J, R)) rfl rfl c3 ?_
  refine ev_go 2 (pc1 := 34) (lv1 := [.ref 0, .int a, .int b, .int c, .int t]) (st1 := [.ref 0]) (h1 := (124, I, J, R)) rfl ?_
  refine ev_gf (c := 0) (t := 3) (X := R 0 8) rfl rfl (fun _ => rfl) rfl r_R_0_8 ?_
  refine ev_gf (c := 3) (t := 17) (X := R 3 13) rfl rfl (fun _ => rfl) rfl (hG 3 13 17 rfl rfl) ?_
  refine ev_go 1 (pc1 := 42) (lv1 := [.ref 0, .int a, .int b, .int c, .int t]) (st1 := [.int t, .ref 17]) (h1 := (124, I, J, R)) rfl ?_
  refine ev_call (v1 := (some (.int 0))) (h1 := (124, I, J, R)) rfl rfl c4 ?_
  refine ev_go 2 (pc1 := 50) (lv1 := [.ref 0, .int a, .int b, .int c, .int t]) (st1 := [.int (-2)]) (h1 := (124, I, J, R)) rfl ?_
  exact ev_ret rfl rfl
set_option maxRecDepth 20000 in
theorem bc3_3 {L : Nat} {xs : Nat → Int32} {d : Nat} {I : Nat → Nat → Int32} {J : Nat → Nat → Int64} {R : Nat → Nat → Nat} {a b c t : Int32} (hG : aGd R) (r_R_0_8 : R 0 8 = 4) (c1 : xEv L xs d 59 0 [.ref 3, .int a] [] (124, I, J, R) (some (.int 1)) (124, I, J, R)) (c2 : xEv L xs d 64 0 [.ref 3, .int b] [] (124, I, J, R) (some (.int 1)) (124, I, J, R)) (c3 : xEv L xs d 64 0 [.ref 3, .int c] [] (124, I, J, R) (some (.int 1)) (124, I, J, R)) (c4 : xEv L xs d 65 0 [.ref 17, .int t] [] (124, I, J, R) (some (.int 0)) (124, I, J, R)) : xEv L xs (d + 1) 82 0 [.ref 0, .int a, .int b, .int c, .int t, xmk, xmk, xmk] [] (124, I, J, R) (some (.int (-2))) (124, I, J, R) := by
  refine ev_go 1 (pc1 := 1) (lv1 := [.ref 0, .int a, .int b, .int c, .int t, xmk, xmk, xmk]) (st1 := [.ref 0]) (h1 := (124, I, J, R)) rfl ?_
  refine ev_gf (c := 0) (t := 3) (X := R 0 8) rfl rfl (fun _ => rfl) rfl r_R_0_8 ?_
  refine ev_go 1 (pc1 := 5) (lv1 := [.ref 0, .int a, .int b, .int c, .int t, xmk, xmk, xmk]) (st1 := [.int a, .ref 3]) (h1 := (124, I, J, R)) rfl ?_
  refine ev_call (v1 := (some (.int 1))) (h1 := (124, I, J, R)) rfl rfl c1 ?_
  refine ev_go 2 (pc1 := 12) (lv1 := [.ref 0, .int a, .int b, .int c, .int t, xmk, xmk, xmk]) (st1 := [.ref 0]) (h1 := (124, I, J, R)) rfl ?_
  refine ev_gf (c := 0) (t := 3) (X := R 0 8) rfl rfl (fun _ => rfl) rfl r_R_0_8 ?_
  refine ev_go 1 (pc1 := 16) (lv1 := [.ref 0, .int a, .int b, .int c, .int t, xmk, xmk, xmk]) (st1 := [.int b, .ref 3]) (h1 := (124, I, J, R)) rfl ?_
  refine ev_call (v1 := (some (.int 1))) (h1 := (124, I, J, R)) rfl rfl c2 ?_
  refine ev_go 2 (pc1 := 23) (lv1 := [.ref 0, .int a, .int b, .int c, .int t, xmk, xmk, xmk]) (st1 := [.ref 0]) (h1 := (124, I, J, R)) rfl ?_
  refine ev_gf (c := 0) (t := 3) (X := R 0 8) rfl rfl (fun _ => rfl) rfl r_R_0_8 ?_
  refine ev_go 1 (pc1 := 27) (lv1 := [.ref 0, .int a, .int b, .int c, .int t, xmk, xmk, xmk]) (st1 := [.int c, .ref 3]) (h1 := (124, I, J, R)) rfl ?_
  refine ev_call (v1 := (some (.int 1))) (h1 := (124, I, J, R)) rfl rfl c3 ?_
  refine ev_go 2 (pc1 := 34) (lv1 := [.ref 0, .int a, .int b, .int c, .int t, xmk, xmk, xmk]) (st1 := [.ref 0]) (h1 := (124, I, J, R)) rfl ?_
  refine ev_gf (c := 0) (t := 3) (X := R 0 8) rfl rfl (fun _ => rfl) rfl r_R_0_8 ?_
  refine ev_gf (c := 3) (t := 17) (X := R 3 13) rfl rfl (fun _ => rfl) rfl (hG 3 13 17 rfl rfl) ?_
  refine ev_go 1 (pc1 := 42) (lv1 := [.ref 0, .int a, .int b, .int c, .int t, xmk, xmk, xmk]) (st1 := [.int t, .ref 17]) (h1 := (124, I, J, R)) rfl ?_
  refine ev_call (v1 := (some (.int 0))) (h1 := (124, I, J, R)) rfl rfl c4 ?_
  refine ev_go 2 (pc1 := 55) (lv1 := [.ref 0, .int a, .int b, .int c, .int t, xmk, xmk, xmk]) (st1 := [.int (-2)]) (h1 := (124, I, J, R)) rfl ?_
  exact ev_ret rfl rfl
set_option maxRecDepth 20000 in
theorem soe_3 {L : Nat} {xs : Nat → Int32} {d : Nat} {I : Nat → Nat → Int32} {J : Nat → Nat → Int64} {R : Nat → Nat → Nat} {a b c t : Int32} (hG : aGd R) (r_R_0_8 : R 0 8 = 4) (c1 : xEv L xs d 59 0 [.ref 3, .int a] [] (124, I, J, R) (some (.int 1)) (124, I, J, R)) (c2 : xEv L xs d 64 0 [.ref 3, .int b] [] (124, I, J, R) (some (.int 1)) (124, I, J, R)) (c3 : xEv L xs d 64 0 [.ref 3, .int c] [] (124, I, J, R) (some (.int 1)) (124, I, J, R)) (c4 : xEv L xs d 65 0 [.ref 17, .int t] [] (124, I, J, R) (some (.int 1)) (124, I, J, R)) (b1 : b.toInt = c.toInt) : xEv L xs (d + 1) 63 0 [.ref 0, .int a, .int b, .int c, .int t] [] (124, I, J, R) (some (.int (-4))) (124, I, J, R) := by
  refine ev_go 1 (pc1 := 1) (lv1 := [.ref 0, .int a, .int b, .int c, .int t]) (st1 := [.ref 0]) (h1 := (124, I, J, R)) rfl ?_
  refine ev_gf (c := 0) (t := 3) (X := R 0 8) rfl rfl (fun _ => rfl) rfl r_R_0_8 ?_
  refine ev_go 1 (pc1 := 5) (lv1 := [.ref 0, .int a, .int b, .int c, .int t]) (st1 := [.int a, .ref 3]) (h1 := (124, I, J, R)) rfl ?_
  refine ev_call (v1 := (some (.int 1))) (h1 := (124, I, J, R)) rfl rfl c1 ?_
  refine ev_go 2 (pc1 := 12) (lv1 := [.ref 0, .int a, .int b, .int c, .int t]) (st1 := [.ref 0]) (h1 := (124, I, J, R)) rfl ?_
  refine ev_gf (c := 0) (t := 3) (X := R 0 8) rfl rfl (fun _ => rfl) rfl r_R_0_8 ?_
  refine ev_go 1 (pc1 := 16) (lv1 := [.ref 0, .int a, .int b, .int c, .int t]) (st1 := [.int b, .ref 3]) (h1 := (124, I, J, R)) rfl ?_
  refine ev_call (v1 := (some (.int 1))) (h1 := (124, I, J, R)) rfl rfl c2 ?_
  refine ev_go 2 (pc1 := 23) (lv1 := [.ref 0, .int a, .int b, .int c, .int t]) (st1 := [.ref 0]) (h1 := (124, I, J, R)) rfl ?_
  refine ev_gf (c := 0) (t := 3) (X := R 0 8) rfl rfl (fun _ => rfl) rfl r_R_0_8 ?_
  refine ev_go 1 (pc1 := 27) (lv1 := [.ref 0, .int a, .int b, .int c, .int t]) (st1 := [.int c, .ref 3]) (h1 := (124, I, J, R)) rfl ?_
  refine ev_call (v1 := (some (.int 1))) (h1 := (124, I, J, R)) rfl rfl c3 ?_
  refine ev_go 2 (pc1 := 34) (lv1 := [.ref 0, .int a, .int b, .int c, .int t]) (st1 := [.ref 0]) (h1 := (124, I, J, R)) rfl ?_
  refine ev_gf (c := 0) (t := 3) (X := R 0 8) rfl rfl (fun _ => rfl) rfl r_R_0_8 ?_
  refine ev_gf (c := 3) (t := 17) (X := R 3 13) rfl rfl (fun _ => rfl) rfl (hG 3 13 17 rfl rfl) ?_
  refine ev_go 1 (pc1 := 42) (lv1 := [.ref 0, .int a, .int b, .int c, .int t]) (st1 := [.int t, .ref 17]) (h1 := (124, I, J, R)) rfl ?_
  refine ev_call (v1 := (some (.int 1))) (h1 := (124, I, J, R)) rfl rfl c4 ?_
  refine ev_go 3 (pc1 := 53) (lv1 := [.ref 0, .int a, .int b, .int c, .int t]) (st1 := [.int c, .int b]) (h1 := (124, I, J, R)) rfl ?_
  refine ev_br (b1 := false) rfl rfl (xcd_nne (x := b) (y := c) (by first | exact b1 | omega)) ?_
  refine ev_go 1 (pc1 := 58) (lv1 := [.ref 0, .int a, .int b, .int c, .int t]) (st1 := [.int (-4)]) (h1 := (124, I, J, R)) rfl ?_
  exact ev_ret rfl rfl
set_option maxRecDepth 20000 in
theorem soz_3 {L : Nat} {xs : Nat → Int32} {d : Nat} {I : Nat → Nat → Int32} {J : Nat → Nat → Int64} {R : Nat → Nat → Nat} {a b c t u r : Int32} (hG : aGd R) (r_R_0_8 : R 0 8 = 4) (c1 : xEv L xs d 59 0 [.ref 3, .int a] [] (124, I, J, R) (some (.int 1)) (124, I, J, R)) (c2 : xEv L xs d 64 0 [.ref 3, .int b] [] (124, I, J, R) (some (.int 1)) (124, I, J, R)) (c3 : xEv L xs d 64 0 [.ref 3, .int c] [] (124, I, J, R) (some (.int 1)) (124, I, J, R)) (c4 : xEv L xs d 65 0 [.ref 17, .int t] [] (124, I, J, R) (some (.int 1)) (124, I, J, R)) (b1 : b.toInt ≠ c.toInt) (c5 : xEv L xs d 39 0 [.ref 15, .int a] [] (124, I, J, R) (some (.int u)) (124, I, J, R)) (c6 : xEv L xs d 66 0 [.ref 17, .int u, .int b, .int c, .int t, xmk, xmk, xmk] [] (124, I, J, R) (some (.int r)) (124, I, J, R)) : xEv L xs (d + 1) 63 0 [.ref 0, .int a, .int b, .int c, .int t] [] (124, I, J, R) (some (.int r)) (124, I, J, R) := by
  refine ev_go 1 (pc1 := 1) (lv1 := [.ref 0, .int a, .int b, .int c, .int t]) (st1 := [.ref 0]) (h1 := (124, I, J, R)) rfl ?_
  refine ev_gf (c := 0) (t := 3) (X := R 0 8) rfl rfl (fun _ => rfl) rfl r_R_0_8 ?_
  refine ev_go 1 (pc1 := 5) (lv1 := [.ref 0, .int a, .int b, .int c, .int t]) (st1 := [.int a, .ref 3]) (h1 := (124, I, J, R)) rfl ?_
  refine ev_call (v1 := (some (.int 1))) (h1 := (124, I, J, R)) rfl rfl c1 ?_
  refine ev_go 2 (pc1 := 12) (lv1 := [.ref 0, .int a, .int b, .int c, .int t]) (st1 := [.ref 0]) (h1 := (124, I, J, R)) rfl ?_
  refine ev_gf (c := 0) (t := 3) (X := R 0 8) rfl rfl (fun _ => rfl) rfl r_R_0_8 ?_
  refine ev_go 1 (pc1 := 16) (lv1 := [.ref 0, .int a, .int b, .int c, .int t]) (st1 := [.int b, .ref 3]) (h1 := (124, I, J, R)) rfl ?_
  refine ev_call (v1 := (some (.int 1))) (h1 := (124, I, J, R)) rfl rfl c2 ?_
  refine ev_go 2 (pc1 := 23) (lv1 := [.ref 0, .int a, .int b, .int c, .int t]) (st1 := [.ref 0]) (h1 := (124, I, J, R)) rfl ?_
  refine ev_gf (c := 0) (t := 3) (X := R 0 8) rfl rfl (fun _ => rfl) rfl r_R_0_8 ?_
  refine ev_go 1 (pc1 := 27) (lv1 := [.ref 0, .int a, .int b, .int c, .int t]) (st1 := [.int c, .ref 3]) (h1 := (124, I, J, R)) rfl ?_
  refine ev_call (v1 := (some (.int 1))) (h1 := (124, I, J, R)) rfl rfl c3 ?_
  refine ev_go 2 (pc1 := 34) (lv1 := [.ref 0, .int a, .int b, .int c, .int t]) (st1 := [.ref 0]) (h1 := (124, I, J, R)) rfl ?_
  refine ev_gf (c := 0) (t := 3) (X := R 0 8) rfl rfl (fun _ => rfl) rfl r_R_0_8 ?_
  refine ev_gf (c := 3) (t := 17) (X := R 3 13) rfl rfl (fun _ => rfl) rfl (hG 3 13 17 rfl rfl) ?_
  refine ev_go 1 (pc1 := 42) (lv1 := [.ref 0, .int a, .int b, .int c, .int t]) (st1 := [.int t, .ref 17]) (h1 := (124, I, J, R)) rfl ?_
  refine ev_call (v1 := (some (.int 1))) (h1 := (124, I, J, R)) rfl rfl c4 ?_
  refine ev_go 3 (pc1 := 53) (lv1 := [.ref 0, .int a, .int b, .int c, .int t]) (st1 := [.int c, .int b]) (h1 := (124, I, J, R)) rfl ?_
  refine ev_br (b1 := true) rfl rfl (xcd_ne (x := b) (y := c) (by first | exact b1 | omega)) ?_
  refine ev_go 1 (pc1 := 60) (lv1 := [.ref 0, .int a, .int b, .int c, .int t]) (st1 := [.ref 0]) (h1 := (124, I, J, R)) rfl ?_
  refine ev_gf (c := 0) (t := 3) (X := R 0 8) rfl rfl (fun _ => rfl) rfl r_R_0_8 ?_
  refine ev_gf (c := 3) (t := 17) (X := R 3 13) rfl rfl (fun _ => rfl) rfl (hG 3 13 17 rfl rfl) ?_
  refine ev_go 1 (pc1 := 67) (lv1 := [.ref 0, .int a, .int b, .int c, .int t]) (st1 := [.ref 0, .ref 17]) (h1 := (124, I, J, R)) rfl ?_
  refine ev_gf (c := 0) (t := 3) (X := R 0 8) rfl rfl (fun _ => rfl) rfl r_R_0_8 ?_
  refine ev_gf (c := 3) (t := 15) (X := R 3 11) rfl rfl (fun _ => rfl) rfl (hG 3 11 15 rfl rfl) ?_
  refine ev_go 1 (pc1 := 74) (lv1 := [.ref 0, .int a, .int b, .int c, .int t]) (st1 := [.int a, .ref 15, .ref 17]) (h1 := (124, I, J, R)) rfl ?_
  refine ev_call (v1 := (some (.int u))) (h1 := (124, I, J, R)) rfl rfl c5 ?_
  refine ev_go 3 (pc1 := 81) (lv1 := [.ref 0, .int a, .int b, .int c, .int t]) (st1 := [.int t, .int c, .int b, .int u, .ref 17]) (h1 := (124, I, J, R)) rfl ?_
  refine ev_call (v1 := (some (.int r))) (h1 := (124, I, J, R)) rfl rfl c6 ?_
  exact ev_ret rfl rfl
set_option maxRecDepth 20000 in
theorem bce_3 {L : Nat} {xs : Nat → Int32} {d : Nat} {I : Nat → Nat → Int32} {J : Nat → Nat → Int64} {R : Nat → Nat → Nat} {a b c t : Int32} (hG : aGd R) (r_R_0_8 : R 0 8 = 4) (c1 : xEv L xs d 59 0 [.ref 3, .int a] [] (124, I, J, R) (some (.int 1)) (124, I, J, R)) (c2 : xEv L xs d 64 0 [.ref 3, .int b] [] (124, I, J, R) (some (.int 1)) (124, I, J, R)) (c3 : xEv L xs d 64 0 [.ref 3, .int c] [] (124, I, J, R) (some (.int 1)) (124, I, J, R)) (c4 : xEv L xs d 65 0 [.ref 17, .int t] [] (124, I, J, R) (some (.int 1)) (124, I, J, R)) (b1 : b.toInt = c.toInt) : xEv L xs (d + 1) 82 0 [.ref 0, .int a, .int b, .int c, .int t, xmk, xmk, xmk] [] (124, I, J, R) (some (.int (-2))) (124, I, J, R) := by
  refine ev_go 1 (pc1 := 1) (lv1 := [.ref 0, .int a, .int b, .int c, .int t, xmk, xmk, xmk]) (st1 := [.ref 0]) (h1 := (124, I, J, R)) rfl ?_
  refine ev_gf (c := 0) (t := 3) (X := R 0 8) rfl rfl (fun _ => rfl) rfl r_R_0_8 ?_
  refine ev_go 1 (pc1 := 5) (lv1 := [.ref 0, .int a, .int b, .int c, .int t, xmk, xmk, xmk]) (st1 := [.int a, .ref 3]) (h1 := (124, I, J, R)) rfl ?_
  refine ev_call (v1 := (some (.int 1))) (h1 := (124, I, J, R)) rfl rfl c1 ?_
  refine ev_go 2 (pc1 := 12) (lv1 := [.ref 0, .int a, .int b, .int c, .int t, xmk, xmk, xmk]) (st1 := [.ref 0]) (h1 := (124, I, J, R)) rfl ?_
  refine ev_gf (c := 0) (t := 3) (X := R 0 8) rfl rfl (fun _ => rfl) rfl r_R_0_8 ?_
  refine ev_go 1 (pc1 := 16) (lv1 := [.ref 0, .int a, .int b, .int c, .int t, xmk, xmk, xmk]) (st1 := [.int b, .ref 3]) (h1 := (124, I, J, R)) rfl ?_
  refine ev_call (v1 := (some (.int 1))) (h1 := (124, I, J, R)) rfl rfl c2 ?_
  refine ev_go 2 (pc1 := 23) (lv1 := [.ref 0, .int a, .int b, .int c, .int t, xmk, xmk, xmk]) (st1 := [.ref 0]) (h1 := (124, I, J, R)) rfl ?_
  refine ev_gf (c := 0) (t := 3) (X := R 0 8) rfl rfl (fun _ => rfl) rfl r_R_0_8 ?_
  refine ev_go 1 (pc1 := 27) (lv1 := [.ref 0, .int a, .int b, .int c, .int t, xmk, xmk, xmk]) (st1 := [.int c, .ref 3]) (h1 := (124, I, J, R)) rfl ?_
  refine ev_call (v1 := (some (.int 1))) (h1 := (124, I, J, R)) rfl rfl c3 ?_
  refine ev_go 2 (pc1 := 34) (lv1 := [.ref 0, .int a, .int b, .int c, .int t, xmk, xmk, xmk]) (st1 := [.ref 0]) (h1 := (124, I, J, R)) rfl ?_
  refine ev_gf (c := 0) (t := 3) (X := R 0 8) rfl rfl (fun _ => rfl) rfl r_R_0_8 ?_
  refine ev_gf (c := 3) (t := 17) (X := R 3 13) rfl rfl (fun _ => rfl) rfl (hG 3 13 17 rfl rfl) ?_
  refine ev_go 1 (pc1 := 42) (lv1 := [.ref 0, .int a, .int b, .int c, .int t, xmk, xmk, xmk]) (st1 := [.int t, .ref 17]) (h1 := (124, I, J, R)) rfl ?_
  refine ev_call (v1 := (some (.int 1))) (h1 := (124, I, J, R)) rfl rfl c4 ?_
  refine ev_go 3 (pc1 := 50) (lv1 := [.ref 0, .int a, .int b, .int c, .int t, xmk, xmk, xmk]) (st1 := [.int c, .int b]) (h1 := (124, I, J, R)) rfl ?_
  refine ev_br (b1 := false) rfl rfl (xcd_nne (x := b) (y := c) (by first | exact b1 | omega)) ?_
  refine ev_go 1 (pc1 := 55) (lv1 := [.ref 0, .int a, .int b, .int c, .int t, xmk, xmk, xmk]) (st1 := [.int (-2)]) (h1 := (124, I, J, R)) rfl ?_
  exact ev_ret rfl rfl
set_option maxRecDepth 20000 in
theorem bcn_3 {L : Nat} {xs : Nat → Int32} {d : Nat} {I : Nat → Nat → Int32} {J : Nat → Nat → Int64} {R : Nat → Nat → Nat} {a b c t u r : Int32} (hG : aGd R) (r_R_0_8 : R 0 8 = 4) (c1 : xEv L xs d 59 0 [.ref 3, .int a] [] (124, I, J, R) (some (.int 1)) (124, I, J, R)) (c2 : xEv L xs d 64 0 [.ref 3, .int b] [] (124, I, J, R) (some (.int 1)) (124, I, J, R)) (c3 : xEv L xs d 64 0 [.ref 3, .int c] [] (124, I, J, R) (some (.int 1)) (124, I, J, R)) (c4 : xEv L xs d 65 0 [.ref 17, .int t] [] (124, I, J, R) (some (.int 1)) (124, I, J, R)) (b1 : b.toInt ≠ c.toInt) (c5 : xEv L xs d 39 0 [.ref 15, .int a] [] (124, I, J, R) (some (.int u)) (124, I, J, R)) (c6 : xEv L xs d 66 0 [.ref 17, .int u, .int b, .int c, .int t, xmk, xmk, xmk] [] (124, I, J, R) (some (.int r)) (124, I, J, R)) (b2 : r.toInt = -1) : xEv L xs (d + 1) 82 0 [.ref 0, .int a, .int b, .int c, .int t, xmk, xmk, xmk] [] (124, I, J, R) (some (.int 0)) (124, I, J, R) := by
  refine ev_go 1 (pc1 := 1) (lv1 := [.ref 0, .int a, .int b, .int c, .int t, xmk, xmk, xmk]) (st1 := [.ref 0]) (h1 := (124, I, J, R)) rfl ?_
  refine ev_gf (c := 0) (t := 3) (X := R 0 8) rfl rfl (fun _ => rfl) rfl r_R_0_8 ?_
  refine ev_go 1 (pc1 := 5) (lv1 := [.ref 0, .int a, .int b, .int c, .int t, xmk, xmk, xmk]) (st1 := [.int a, .ref 3]) (h1 := (124, I, J, R)) rfl ?_
  refine ev_call (v1 := (some (.int 1))) (h1 := (124, I, J, R)) rfl rfl c1 ?_
  refine ev_go 2 (pc1 := 12) (lv1 := [.ref 0, .int a, .int b, .int c, .int t, xmk, xmk, xmk]) (st1 := [.ref 0]) (h1 := (124, I, J, R)) rfl ?_
  refine ev_gf (c := 0) (t := 3) (X := R 0 8) rfl rfl (fun _ => rfl) rfl r_R_0_8 ?_
  refine ev_go 1 (pc1 := 16) (lv1 := [.ref 0, .int a, .int b, .int c, .int t, xmk, xmk, xmk]) (st1 := [.int b, .ref 3]) (h1 := (124, I, J, R)) rfl ?_
  refine ev_call (v1 := (some (.int 1))) (h1 := (124, I, J, R)) rfl rfl c2 ?_
  refine ev_go 2 (pc1 := 23) (lv1 := [.ref 0, .int a, .int b, .int c, .int t, xmk, xmk, xmk]) (st1 := [.ref 0]) (h1 := (124, I, J, R)) rfl ?_
  refine ev_gf (c := 0) (t := 3) (X := R 0 8) rfl rfl (fun _ => rfl) rfl r_R_0_8 ?_
  refine ev_go 1 (pc1 := 27) (lv1 := [.ref 0, .int a, .int b, .int c, .int t, xmk, xmk, xmk]) (st1 := [.int c, .ref 3]) (h1 := (124, I, J, R)) rfl ?_
  refine ev_call (v1 := (some (.int 1))) (h1 := (124, I, J, R)) rfl rfl c3 ?_
  refine ev_go 2 (pc1 := 34) (lv1 := [.ref 0, .int a, .int b, .int c, .int t, xmk, xmk, xmk]) (st1 := [.ref 0]) (h1 := (124, I, J, R)) rfl ?_
  refine ev_gf (c := 0) (t := 3) (X := R 0 8) rfl rfl (fun _ => rfl) rfl r_R_0_8 ?_
  refine ev_gf (c := 3) (t := 17) (X := R 3 13) rfl rfl (fun _ => rfl) rfl (hG 3 13 17 rfl rfl) ?_
  refine ev_go 1 (pc1 := 42) (lv1 := [.ref 0, .int a, .int b, .int c, .int t, xmk, xmk, xmk]) (st1 := [.int t, .ref 17]) (h1 := (124, I, J, R)) rfl ?_
  refine ev_call (v1 := (some (.int 1))) (h1 := (124, I, J, R)) rfl rfl c4 ?_
  refine ev_go 3 (pc1 := 50) (lv1 := [.ref 0, .int a, .int b, .int c, .int t, xmk, xmk, xmk]) (st1 := [.int c, .int b]) (h1 := (124, I, J, R)) rfl ?_
  refine ev_br (b1 := true) rfl rfl (xcd_ne (x := b) (y := c) (by first | exact b1 | omega)) ?_
  refine ev_go 1 (pc1 := 57) (lv1 := [.ref 0, .int a, .int b, .int c, .int t, xmk, xmk, xmk]) (st1 := [.ref 0]) (h1 := (124, I, J, R)) rfl ?_
  refine ev_gf (c := 0) (t := 3) (X := R 0 8) rfl rfl (fun _ => rfl) rfl r_R_0_8 ?_
  refine ev_gf (c := 3) (t := 15) (X := R 3 11) rfl rfl (fun _ => rfl) rfl (hG 3 11 15 rfl rfl) ?_
  refine ev_go 1 (pc1 := 64) (lv1 := [.ref 0, .int a, .int b, .int c, .int t, xmk, xmk, xmk]) (st1 := [.int a, .ref 15]) (h1 := (124, I, J, R)) rfl ?_
  refine ev_call (v1 := (some (.int u))) (h1 := (124, I, J, R)) rfl rfl c5 ?_
  refine ev_go 2 (pc1 := 70) (lv1 := [.ref 0, .int a, .int b, .int c, .int t, .int u, xmk, xmk]) (st1 := [.ref 0]) (h1 := (124, I, J, R)) rfl ?_
  refine ev_gf (c := 0) (t := 3) (X := R 0 8) rfl rfl (fun _ => rfl) rfl r_R_0_8 ?_
  refine ev_gf (c := 3) (t := 17) (X := R 3 13) rfl rfl (fun _ => rfl) rfl (hG 3 13 17 rfl rfl) ?_
  refine ev_go 4 (pc1 := 82) (lv1 := [.ref 0, .int a, .int b, .int c, .int t, .int u, xmk, xmk]) (st1 := [.int t, .int c, .int b, .int u, .ref 17]) (h1 := (124, I, J, R)) rfl ?_
  refine ev_call (v1 := (some (.int r))) (h1 := (124, I, J, R)) rfl rfl c6 ?_
  refine ev_go 1 (pc1 := 86) (lv1 := [.ref 0, .int a, .int b, .int c, .int t, .int u, xmk, xmk]) (st1 := [.int (-1), .int r]) (h1 := (124, I, J, R)) rfl ?_
  refine ev_br (b1 := false) rfl rfl (xcd_nne (x := r) (y := (-1)) (by rw [show ((-1 : Int32)).toInt = -1 from by decide]; first | exact b2 | omega)) ?_
  refine ev_go 1 (pc1 := 90) (lv1 := [.ref 0, .int a, .int b, .int c, .int t, .int u, xmk, xmk]) (st1 := [.int 0]) (h1 := (124, I, J, R)) rfl ?_
  exact ev_ret rfl rfl
set_option maxRecDepth 20000 in
theorem bcz_3 {L : Nat} {xs : Nat → Int32} {d : Nat} {I : Nat → Nat → Int32} {J : Nat → Nat → Int64} {R : Nat → Nat → Nat} {a b c t u r : Int32} (hG : aGd R) (r_R_0_8 : R 0 8 = 4) (c1 : xEv L xs d 59 0 [.ref 3, .int a] [] (124, I, J, R) (some (.int 1)) (124, I, J, R)) (c2 : xEv L xs d 64 0 [.ref 3, .int b] [] (124, I, J, R) (some (.int 1)) (124, I, J, R)) (c3 : xEv L xs d 64 0 [.ref 3, .int c] [] (124, I, J, R) (some (.int 1)) (124, I, J, R)) (c4 : xEv L xs d 65 0 [.ref 17, .int t] [] (124, I, J, R) (some (.int 1)) (124, I, J, R)) (b1 : b.toInt ≠ c.toInt) (c5 : xEv L xs d 39 0 [.ref 15, .int a] [] (124, I, J, R) (some (.int u)) (124, I, J, R)) (c6 : xEv L xs d 66 0 [.ref 17, .int u, .int b, .int c, .int t, xmk, xmk, xmk] [] (124, I, J, R) (some (.int r)) (124, I, J, R)) (b2 : r.toInt ≠ -1) {v : Option Value} {h' : xH} (hk : xEv L xs (d + 1) 82 97 [.ref 0, .int a, .int b, .int c, .int t, .int u, .int 0, .int 0] [] (124, I, J, R) v h') : xEv L xs (d + 1) 82 0 [.ref 0, .int a, .int b, .int c, .int t, xmk, xmk, xmk] [] (124, I, J, R) v h' := by
  refine ev_go 1 (pc1 := 1) (lv1 := [.ref 0, .int a, .int b, .int c, .int t, xmk, xmk, xmk]) (st1 := [.ref 0]) (h1 := (124, I, J, R)) rfl ?_
  refine ev_gf (c := 0) (t := 3) (X := R 0 8) rfl rfl (fun _ => rfl) rfl r_R_0_8 ?_
  refine ev_go 1 (pc1 := 5) (lv1 := [.ref 0, .int a, .int b, .int c, .int t, xmk, xmk, xmk]) (st1 := [.int a, .ref 3]) (h1 := (124, I, J, R)) rfl ?_
  refine ev_call (v1 := (some (.int 1))) (h1 := (124, I, J, R)) rfl rfl c1 ?_
  refine ev_go 2 (pc1 := 12) (lv1 := [.ref 0, .int a, .int b, .int c, .int t, xmk, xmk, xmk]) (st1 := [.ref 0]) (h1 := (124, I, J, R)) rfl ?_
  refine ev_gf (c := 0) (t := 3) (X := R 0 8) rfl rfl (fun _ => rfl) rfl r_R_0_8 ?_
  refine ev_go 1 (pc1 := 16) (lv1 := [.ref 0, .int a, .int b, .int c, .int t, xmk, xmk, xmk]) (st1 := [.int b, .ref 3]) (h1 := (124, I, J, R)) rfl ?_
  refine ev_call (v1 := (some (.int 1))) (h1 := (124, I, J, R)) rfl rfl c2 ?_
  refine ev_go 2 (pc1 := 23) (lv1 := [.ref 0, .int a, .int b, .int c, .int t, xmk, xmk, xmk]) (st1 := [.ref 0]) (h1 := (124, I, J, R)) rfl ?_
  refine ev_gf (c := 0) (t := 3) (X := R 0 8) rfl rfl (fun _ => rfl) rfl r_R_0_8 ?_
  refine ev_go 1 (pc1 := 27) (lv1 := [.ref 0, .int a, .int b, .int c, .int t, xmk, xmk, xmk]) (st1 := [.int c, .ref 3]) (h1 := (124, I, J, R)) rfl ?_
  refine ev_call (v1 := (some (.int 1))) (h1 := (124, I, J, R)) rfl rfl c3 ?_
  refine ev_go 2 (pc1 := 34) (lv1 := [.ref 0, .int a, .int b, .int c, .int t, xmk, xmk, xmk]) (st1 := [.ref 0]) (h1 := (124, I, J, R)) rfl ?_
  refine ev_gf (c := 0) (t := 3) (X := R 0 8) rfl rfl (fun _ => rfl) rfl r_R_0_8 ?_
  refine ev_gf (c := 3) (t := 17) (X := R 3 13) rfl rfl (fun _ => rfl) rfl (hG 3 13 17 rfl rfl) ?_
  refine ev_go 1 (pc1 := 42) (lv1 := [.ref 0, .int a, .int b, .int c, .int t, xmk, xmk, xmk]) (st1 := [.int t, .ref 17]) (h1 := (124, I, J, R)) rfl ?_
  refine ev_call (v1 := (some (.int 1))) (h1 := (124, I, J, R)) rfl rfl c4 ?_
  refine ev_go 3 (pc1 := 50) (lv1 := [.ref 0, .int a, .int b, .int c, .int t, xmk, xmk, xmk]) (st1 := [.int c, .int b]) (h1 := (124, I, J, R)) rfl ?_
  refine ev_br (b1 := true) rfl rfl (xcd_ne (x := b) (y := c) (by first | exact b1 | omega)) ?_
  refine ev_go 1 (pc1 := 57) (lv1 := [.ref 0, .int a, .int b, .int c, .int t, xmk, xmk, xmk]) (st1 := [.ref 0]) (h1 := (124, I, J, R)) rfl ?_
  refine ev_gf (c := 0) (t := 3) (X := R 0 8) rfl rfl (fun _ => rfl) rfl r_R_0_8 ?_
  refine ev_gf (c := 3) (t := 15) (X := R 3 11) rfl rfl (fun _ => rfl) rfl (hG 3 11 15 rfl rfl) ?_
  refine ev_go 1 (pc1 := 64) (lv1 := [.ref 0, .int a, .int b, .int c, .int t, xmk, xmk, xmk]) (st1 := [.int a, .ref 15]) (h1 := (124, I, J, R)) rfl ?_
  refine ev_call (v1 := (some (.int u))) (h1 := (124, I, J, R)) rfl rfl c5 ?_
  refine ev_go 2 (pc1 := 70) (lv1 := [.ref 0, .int a, .int b, .int c, .int t, .int u, xmk, xmk]) (st1 := [.ref 0]) (h1 := (124, I, J, R)) rfl ?_
  refine ev_gf (c := 0) (t := 3) (X := R 0 8) rfl rfl (fun _ => rfl) rfl r_R_0_8 ?_
  refine ev_gf (c := 3) (t := 17) (X := R 3 13) rfl rfl (fun _ => rfl) rfl (hG 3 13 17 rfl rfl) ?_
  refine ev_go 4 (pc1 := 82) (lv1 := [.ref 0, .int a, .int b, .int c, .int t, .int u, xmk, xmk]) (st1 := [.int t, .int c, .int b, .int u, .ref 17]) (h1 := (124, I, J, R)) rfl ?_
  refine ev_call (v1 := (some (.int r))) (h1 := (124, I, J, R)) rfl rfl c6 ?_
  refine ev_go 1 (pc1 := 86) (lv1 := [.ref 0, .int a, .int b, .int c, .int t, .int u, xmk, xmk]) (st1 := [.int (-1), .int r]) (h1 := (124, I, J, R)) rfl ?_
  refine ev_br (b1 := true) rfl rfl (xcd_ne (x := r) (y := (-1)) (by rw [show ((-1 : Int32)).toInt = -1 from by decide]; first | exact b2 | omega)) ?_
  refine ev_go 4 (pc1 := 97) (lv1 := [.ref 0, .int a, .int b, .int c, .int t, .int u, .int 0, .int 0]) (st1 := []) (h1 := (124, I, J, R)) rfl ?_
  exact hk
set_option maxRecDepth 20000 in
theorem bcE_3 {L : Nat} {xs : Nat → Int32} {d : Nat} {I : Nat → Nat → Int32} {J : Nat → Nat → Int64} {R : Nat → Nat → Nat} {a b c t u y p : Int32} (hG : aGd R) (r_R_0_8 : R 0 8 = 4) (b1 : p.toInt ≥ (I 3 14).toInt) : xEv L xs d 82 97 [.ref 0, .int a, .int b, .int c, .int t, .int u, .int y, .int p] [] (124, I, J, R) (some (.int y)) (124, I, J, R) := by
  refine ev_go 2 (pc1 := 100) (lv1 := [.ref 0, .int a, .int b, .int c, .int t, .int u, .int y, .int p]) (st1 := [.ref 0, .int p]) (h1 := (124, I, J, R)) rfl ?_
  refine ev_gf (c := 0) (t := 3) (X := R 0 8) rfl rfl (fun _ => rfl) rfl r_R_0_8 ?_
  refine ev_go 1 (pc1 := 106) (lv1 := [.ref 0, .int a, .int b, .int c, .int t, .int u, .int y, .int p]) (st1 := [.int (I 3 14), .int p]) (h1 := (124, I, J, R)) rfl ?_
  refine ev_br (b1 := true) rfl rfl (xcd_ge (x := p) (y := (I 3 14)) (by first | exact b1 | omega)) ?_
  refine ev_go 1 (pc1 := 163) (lv1 := [.ref 0, .int a, .int b, .int c, .int t, .int u, .int y, .int p]) (st1 := [.int y]) (h1 := (124, I, J, R)) rfl ?_
  exact ev_ret rfl rfl
set_option maxRecDepth 20000 in
theorem bcB_3 {L : Nat} {xs : Nat → Int32} {d : Nat} {I : Nat → Nat → Int32} {J : Nat → Nat → Int64} {R : Nat → Nat → Nat} {a b c t u y p : Int32} (hG : aGd R) (r_R_0_8 : R 0 8 = 4) (b1 : p.toInt < (I 3 14).toInt) (b2 : p.toInt = b.toInt) {v : Option Value} {h' : xH} (hk : xEv L xs d 82 97 [.ref 0, .int a, .int b, .int c, .int t, .int u, .int y, .int (p + 1)] [] (124, I, J, R) v h') : xEv L xs d 82 97 [.ref 0, .int a, .int b, .int c, .int t, .int u, .int y, .int p] [] (124, I, J, R) v h' := by
  refine ev_go 2 (pc1 := 100) (lv1 := [.ref 0, .int a, .int b, .int c, .int t, .int u, .int y, .int p]) (st1 := [.ref 0, .int p]) (h1 := (124, I, J, R)) rfl ?_
  refine ev_gf (c := 0) (t := 3) (X := R 0 8) rfl rfl (fun _ => rfl) rfl r_R_0_8 ?_
  refine ev_go 1 (pc1 := 106) (lv1 := [.ref 0, .int a, .int b, .int c, .int t, .int u, .int y, .int p]) (st1 := [.int (I 3 14), .int p]) (h1 := (124, I, J, R)) rfl ?_
  refine ev_br (b1 := false) rfl rfl (xcd_nge (x := p) (y := (I 3 14)) (by first | exact b1 | omega)) ?_
  refine ev_go 2 (pc1 := 112) (lv1 := [.ref 0, .int a, .int b, .int c, .int t, .int u, .int y, .int p]) (st1 := [.int b, .int p]) (h1 := (124, I, J, R)) rfl ?_
  refine ev_br (b1 := true) rfl rfl (xcd_eq (x := p) (y := b) (by first | exact b2 | omega)) ?_
  refine ev_go 2 (pc1 := 97) (lv1 := [.ref 0, .int a, .int b, .int c, .int t, .int u, .int y, .int (p + 1)]) (st1 := []) (h1 := (124, I, J, R)) rfl ?_
  exact hk
set_option maxRecDepth 20000 in
theorem bcC_3 {L : Nat} {xs : Nat → Int32} {d : Nat} {I : Nat → Nat → Int32} {J : Nat → Nat → Int64} {R : Nat → Nat → Nat} {a b c t u y p : Int32} (hG : aGd R) (r_R_0_8 : R 0 8 = 4) (b1 : p.toInt < (I 3 14).toInt) (b2 : p.toInt ≠ b.toInt) (b3 : p.toInt = c.toInt) {v : Option Value} {h' : xH} (hk : xEv L xs d 82 97 [.ref 0, .int a, .int b, .int c, .int t, .int u, .int y, .int (p + 1)] [] (124, I, J, R) v h') : xEv L xs d 82 97 [.ref 0, .int a, .int b, .int c, .int t, .int u, .int y, .int p] [] (124, I, J, R) v h' := by
  refine ev_go 2 (pc1 := 100) (lv1 := [.ref 0, .int a, .int b, .int c, .int t, .int u, .int y, .int p]) (st1 := [.ref 0, .int p]) (h1 := (124, I, J, R)) rfl ?_
  refine ev_gf (c := 0) (t := 3) (X := R 0 8) rfl rfl (fun _ => rfl) rfl r_R_0_8 ?_
  refine ev_go 1 (pc1 := 106) (lv1 := [.ref 0, .int a, .int b, .int c, .int t, .int u, .int y, .int p]) (st1 := [.int (I 3 14), .int p]) (h1 := (124, I, J, R)) rfl ?_
  refine ev_br (b1 := false) rfl rfl (xcd_nge (x := p) (y := (I 3 14)) (by first | exact b1 | omega)) ?_
  refine ev_go 2 (pc1 := 112) (lv1 := [.ref 0, .int a, .int b, .int c, .int t, .int u, .int y, .int p]) (st1 := [.int b, .int p]) (h1 := (124, I, J, R)) rfl ?_
  refine ev_br (b1 := false) rfl rfl (xcd_neq (x := p) (y := b) (by first | exact b2 | omega)) ?_
  refine ev_go 2 (pc1 := 118) (lv1 := [.ref 0, .int a, .int b, .int c, .int t, .int u, .int y, .int p]) (st1 := [.int c, .int p]) (h1 := (124, I, J, R)) rfl ?_
  refine ev_br (b1 := true) rfl rfl (xcd_eq (x := p) (y := c) (by first | exact b3 | omega)) ?_
  refine ev_go 2 (pc1 := 97) (lv1 := [.ref 0, .int a, .int b, .int c, .int t, .int u, .int y, .int (p + 1)]) (st1 := []) (h1 := (124, I, J, R)) rfl ?_
  exact hk
set_option maxRecDepth 20000 in
theorem bcN_3 {L : Nat} {xs : Nat → Int32} {d : Nat} {I : Nat → Nat → Int32} {J : Nat → Nat → Int64} {R : Nat → Nat → Nat} {a b c t u y p r : Int32} (hG : aGd R) (r_R_0_8 : R 0 8 = 4) (b1 : p.toInt < (I 3 14).toInt) (b2 : p.toInt ≠ b.toInt) (b3 : p.toInt ≠ c.toInt) (c1 : xEv L xs d 66 0 [.ref 17, .int (u ||| (1 <<< (p &&& 31))), .int b, .int c, .int t, xmk, xmk, xmk] [] (124, I, J, R) (some (.int r)) (124, I, J, R)) (b4 : r.toInt ≠ -1) {v : Option Value} {h' : xH} (hk : xEv L xs (d + 1) 82 97 [.ref 0, .int a, .int b, .int c, .int t, .int u, .int y, .int (p + 1)] [] (124, I, J, R) v h') : xEv L xs (d + 1) 82 97 [.ref 0, .int a, .int b, .int c, .int t, .int u, .int y, .int p] [] (124, I, J, R) v h' := by
  refine ev_go 2 (pc1 := 100) (lv1 := [.ref 0, .int a, .int b, .int c, .int t, .int u, .int y, .int p]) (st1 := [.ref 0, .int p]) (h1 := (124, I, J, R)) rfl ?_
  refine ev_gf (c := 0) (t := 3) (X := R 0 8) rfl rfl (fun _ => rfl) rfl r_R_0_8 ?_
  refine ev_go 1 (pc1 := 106) (lv1 := [.ref 0, .int a, .int b, .int c, .int t, .int u, .int y, .int p]) (st1 := [.int (I 3 14), .int p]) (h1 := (124, I, J, R)) rfl ?_
  refine ev_br (b1 := false) rfl rfl (xcd_nge (x := p) (y := (I 3 14)) (by first | exact b1 | omega)) ?_
  refine ev_go 2 (pc1 := 112) (lv1 := [.ref 0, .int a, .int b, .int c, .int t, .int u, .int y, .int p]) (st1 := [.int b, .int p]) (h1 := (124, I, J, R)) rfl ?_
  refine ev_br (b1 := false) rfl rfl (xcd_neq (x := p) (y := b) (by first | exact b2 | omega)) ?_
  refine ev_go 2 (pc1 := 118) (lv1 := [.ref 0, .int a, .int b, .int c, .int t, .int u, .int y, .int p]) (st1 := [.int c, .int p]) (h1 := (124, I, J, R)) rfl ?_
  refine ev_br (b1 := false) rfl rfl (xcd_neq (x := p) (y := c) (by first | exact b3 | omega)) ?_
  refine ev_go 1 (pc1 := 122) (lv1 := [.ref 0, .int a, .int b, .int c, .int t, .int u, .int y, .int p]) (st1 := [.ref 0]) (h1 := (124, I, J, R)) rfl ?_
  refine ev_gf (c := 0) (t := 3) (X := R 0 8) rfl rfl (fun _ => rfl) rfl r_R_0_8 ?_
  refine ev_gf (c := 3) (t := 17) (X := R 3 13) rfl rfl (fun _ => rfl) rfl (hG 3 13 17 rfl rfl) ?_
  refine ev_go 3 (pc1 := 133) (lv1 := [.ref 0, .int a, .int b, .int c, .int t, .int u, .int y, .int p]) (st1 := [.int p, .int 1, .int u, .ref 17]) (h1 := (124, I, J, R)) rfl ?_
  refine ev_go 5 (pc1 := 139) (lv1 := [.ref 0, .int a, .int b, .int c, .int t, .int u, .int y, .int p]) (st1 := [.int t, .int c, .int b, .int (u ||| (1 <<< (p &&& 31))), .ref 17]) (h1 := (124, I, J, R)) rfl ?_
  refine ev_call (v1 := (some (.int r))) (h1 := (124, I, J, R)) rfl rfl c1 ?_
  refine ev_go 1 (pc1 := 143) (lv1 := [.ref 0, .int a, .int b, .int c, .int t, .int u, .int y, .int p]) (st1 := [.int (-1), .int r]) (h1 := (124, I, J, R)) rfl ?_
  refine ev_br (b1 := true) rfl rfl (xcd_ne (x := r) (y := (-1)) (by rw [show ((-1 : Int32)).toInt = -1 from by decide]; first | exact b4 | omega)) ?_
  refine ev_go 2 (pc1 := 97) (lv1 := [.ref 0, .int a, .int b, .int c, .int t, .int u, .int y, .int (p + 1)]) (st1 := []) (h1 := (124, I, J, R)) rfl ?_
  exact hk
set_option maxRecDepth 20000 in
theorem bcS_3 {L : Nat} {xs : Nat → Int32} {d : Nat} {I : Nat → Nat → Int32} {J : Nat → Nat → Int64} {R : Nat → Nat → Nat} {a b c t u y p r : Int32} (hG : aGd R) (r_R_0_8 : R 0 8 = 4) (b1 : p.toInt < (I 3 14).toInt) (b2 : p.toInt ≠ b.toInt) (b3 : p.toInt ≠ c.toInt) (c1 : xEv L xs d 66 0 [.ref 17, .int (u ||| (1 <<< (p &&& 31))), .int b, .int c, .int t, xmk, xmk, xmk] [] (124, I, J, R) (some (.int r)) (124, I, J, R)) (b4 : r.toInt = -1) {v : Option Value} {h' : xH} (hk : xEv L xs (d + 1) 82 97 [.ref 0, .int a, .int b, .int c, .int t, .int u, .int (y ||| (1 <<< (p &&& 31))), .int (p + 1)] [] (124, I, J, R) v h') : xEv L xs (d + 1) 82 97 [.ref 0, .int a, .int b, .int c, .int t, .int u, .int y, .int p] [] (124, I, J, R) v h' := by
  refine ev_go 2 (pc1 := 100) (lv1 := [.ref 0, .int a, .int b, .int c, .int t, .int u, .int y, .int p]) (st1 := [.ref 0, .int p]) (h1 := (124, I, J, R)) rfl ?_
  refine ev_gf (c := 0) (t := 3) (X := R 0 8) rfl rfl (fun _ => rfl) rfl r_R_0_8 ?_
  refine ev_go 1 (pc1 := 106) (lv1 := [.ref 0, .int a, .int b, .int c, .int t, .int u, .int y, .int p]) (st1 := [.int (I 3 14), .int p]) (h1 := (124, I, J, R)) rfl ?_
  refine ev_br (b1 := false) rfl rfl (xcd_nge (x := p) (y := (I 3 14)) (by first | exact b1 | omega)) ?_
  refine ev_go 2 (pc1 := 112) (lv1 := [.ref 0, .int a, .int b, .int c, .int t, .int u, .int y, .int p]) (st1 := [.int b, .int p]) (h1 := (124, I, J, R)) rfl ?_
  refine ev_br (b1 := false) rfl rfl (xcd_neq (x := p) (y := b) (by first | exact b2 | omega)) ?_
  refine ev_go 2 (pc1 := 118) (lv1 := [.ref 0, .int a, .int b, .int c, .int t, .int u, .int y, .int p]) (st1 := [.int c, .int p]) (h1 := (124, I, J, R)) rfl ?_
  refine ev_br (b1 := false) rfl rfl (xcd_neq (x := p) (y := c) (by first | exact b3 | omega)) ?_
  refine ev_go 1 (pc1 := 122) (lv1 := [.ref 0, .int a, .int b, .int c, .int t, .int u, .int y, .int p]) (st1 := [.ref 0]) (h1 := (124, I, J, R)) rfl ?_
  refine ev_gf (c := 0) (t := 3) (X := R 0 8) rfl rfl (fun _ => rfl) rfl r_R_0_8 ?_
  refine ev_gf (c := 3) (t := 17) (X := R 3 13) rfl rfl (fun _ => rfl) rfl (hG 3 13 17 rfl rfl) ?_
  refine ev_go 3 (pc1 := 133) (lv1 := [.ref 0, .int a, .int b, .int c, .int t, .int u, .int y, .int p]) (st1 := [.int p, .int 1, .int u, .ref 17]) (h1 := (124, I, J, R)) rfl ?_
  refine ev_go 5 (pc1 := 139) (lv1 := [.ref 0, .int a, .int b, .int c, .int t, .int u, .int y, .int p]) (st1 := [.int t, .int c, .int b, .int (u ||| (1 <<< (p &&& 31))), .ref 17]) (h1 := (124, I, J, R)) rfl ?_
  refine ev_call (v1 := (some (.int r))) (h1 := (124, I, J, R)) rfl rfl c1 ?_
  refine ev_go 1 (pc1 := 143) (lv1 := [.ref 0, .int a, .int b, .int c, .int t, .int u, .int y, .int p]) (st1 := [.int (-1), .int r]) (h1 := (124, I, J, R)) rfl ?_
  refine ev_br (b1 := false) rfl rfl (xcd_nne (x := r) (y := (-1)) (by rw [show ((-1 : Int32)).toInt = -1 from by decide]; first | exact b4 | omega)) ?_
  refine ev_go 3 (pc1 := 151) (lv1 := [.ref 0, .int a, .int b, .int c, .int t, .int u, .int y, .int p]) (st1 := [.int p, .int 1, .int y]) (h1 := (124, I, J, R)) rfl ?_
  refine ev_go 5 (pc1 := 97) (lv1 := [.ref 0, .int a, .int b, .int c, .int t, .int u, .int (y ||| (1 <<< (p &&& 31))), .int (p + 1)]) (st1 := []) (h1 := (124, I, J, R)) rfl ?_
  exact hk
/-- the way's arguments in both, with the bars of the news -/
theorem wyc_3 {L : Nat} {xs : Nat → Int32} {d : Nat} {I : Nat → Nat → Int32} {J : Nat → Nat → Int64} {R : Nat → Nat → Nat} {d' : Nat} (hG : aGd R) (h8 : R 0 8 = 4) {np nm nn : Nat} {l : List (Nat × Nat)} (hV : VR_3 np nm nn l I I) (a b c t : Int32) :
    (¬ ((0 ≤ a.toInt ∧ a.toInt < nn) ∧ (0 ≤ b.toInt ∧ b.toInt < np) ∧ (0 ≤ c.toInt ∧ c.toInt < np) ∧ (0 ≤ t.toInt ∧ t.toInt ≤ l.length)) ∧ xEv L xs (d + 1) 63 0 [.ref 0, .int a, .int b, .int c, .int t] [] (124, I, J, R) (some (.int (-2))) (124, I, J, R) ∧ xEv L xs (d + 1) 82 0 [.ref 0, .int a, .int b, .int c, .int t, xmk, xmk, xmk] [] (124, I, J, R) (some (.int (-2))) (124, I, J, R) ∧ xEv L xs (d' + 2) 183 0 [.ref 86, .int a, .int b, .int c, .int t] [] (124, I, J, R) (some (.int 0)) (124, I, J, R)) ∨
    (((0 ≤ a.toInt ∧ a.toInt < nn) ∧ (0 ≤ b.toInt ∧ b.toInt < np) ∧ (0 ≤ c.toInt ∧ c.toInt < np) ∧ (0 ≤ t.toInt ∧ t.toInt ≤ l.length)) ∧ xEv L xs d 59 0 [.ref 3, .int a] [] (124, I, J, R) (some (.int 1)) (124, I, J, R) ∧ xEv L xs d 64 0 [.ref 3, .int b] [] (124, I, J, R) (some (.int 1)) (124, I, J, R) ∧ xEv L xs d 64 0 [.ref 3, .int c] [] (124, I, J, R) (some (.int 1)) (124, I, J, R) ∧ xEv L xs d 65 0 [.ref 17, .int t] [] (124, I, J, R) (some (.int 1)) (124, I, J, R) ∧ xEv L xs (d' + 2) 183 0 [.ref 86, .int a, .int b, .int c, .int t] [] (124, I, J, R) (some (.int 1)) (124, I, J, R) ∧ xEv L xs d 39 0 [.ref 15, .int a] [] (124, I, J, R) (some (.int (I 100 a.toNatClampNeg))) (124, I, J, R)) := by
  obtain ⟨⟨p1, p2, p3⟩, p4, p5, p6, ⟨q1, q2⟩, ⟨q3, q4⟩, ⟨q5, q6⟩, q7, q8, q9, ⟨q10, q11⟩, q12, q13, q14, q15, -⟩ := hV
  have w := wy_run (L := L) (xs := xs) (d := d') (I := I) (J := J) hG q2 q6 q11 a b c t
  rcases hn_run_3 (L := L) (xs := xs) (d := d) (I := I) (J := J) hG q5 a with ⟨ha, xa⟩ | ⟨ha, xa⟩
  rotate_left
  · exact Or.inl ⟨fun z => ha z.1, so0_3 hG h8 xa, bc0_3 hG h8 xa, (w.resolve_left (fun z => ha z.1.1)).2⟩
  rcases hp_run_3 (L := L) (xs := xs) (d := d) (I := I) (J := J) hG q1 b with ⟨hb, xb⟩ | ⟨hb, xb⟩
  rotate_left
  · exact Or.inl ⟨fun z => hb z.2.1, so1_3 hG h8 xa xb, bc1_3 hG h8 xa xb, (w.resolve_left (fun z => hb z.1.2.1)).2⟩
  rcases hp_run_3 (L := L) (xs := xs) (d := d) (I := I) (J := J) hG q1 c with ⟨hc, xc⟩ | ⟨hc, xc⟩
  rotate_left
  · exact Or.inl ⟨fun z => hc z.2.2.1, so2_3 hG h8 xa xb xc, bc2_3 hG h8 xa xb xc, (w.resolve_left (fun z => hc z.1.2.2.1)).2⟩
  rcases hm_run_3 (L := L) (xs := xs) (d := d) (I := I) (J := J) hG q10 t with ⟨ht, xt⟩ | ⟨ht, xt⟩
  rotate_left
  · exact Or.inl ⟨fun z => ht z.2.2.2, so3_3 hG h8 xa xb xc xt, bc3_3 hG h8 xa xb xc xt, (w.resolve_left (fun z => ht z.1.2.2.2)).2⟩
  have ec := clamp_s (i := a) (by omega)
  have h4 := at_run (L := L) (xs := xs) (d := d) (h := (124, I, J, R)) (c := 15) (n := 4) (fun _ => rfl) (by decide) a
  rw [if_pos ⟨by omega, by omega⟩, show ((124, I, J, R) : xH).2.1 15 a.toNatClampNeg = I 100 a.toNatClampNeg from (q9 _ (by omega)).2.2.2.2.1] at h4
  exact Or.inr ⟨⟨ha, hb, hc, ht⟩, xa, xb, xc, xt, (w.resolve_right (fun z => z.1 ⟨ha, hb, hc, ht⟩)).2, h4⟩
theorem son_3 {L : Nat} {xs : Nat → Int32} {d : Nat} {I : Nat → Nat → Int32} {J : Nat → Nat → Int64} {R : Nat → Nat → Nat} {d' : Nat} (hG : aGd R) (h8 : R 0 8 = 4) {np nm nn : Nat} {l : List (Nat × Nat)} (hV : VR_3 np nm nn l I I) (a b c t : Int32) : ∃ r : Int32, xEv L xs (d + 3) 63 0 [.ref 0, .int a, .int b, .int c, .int t] [] (124, I, J, R) (some (.int r)) (124, I, J, R) ∧ xEv L xs (d' + 3) 182 0 [.ref 86, .int a, .int b, .int c, .int t, xmk] [] (124, I, J, R) (some (.int r)) (124, I, J, R) := by
  rcases wyc_3 (L := L) (xs := xs) (d := d + 2) (d' := d') (J := J) hG h8 hV a b c t with ⟨-, x1, -, x2⟩ | ⟨⟨ha, hb, hc, ht⟩, xa, xb, xc, xt, xw, x4⟩
  · exact ⟨-2, x1, sn_x hG x2⟩
  by_cases h : b.toInt = c.toInt
  · exact ⟨-4, soe_3 hG h8 xa xb xc xt h, sn_y hG xw h⟩
  have p3 := hV.1.2.2
  have q11 : (I 86 26).toInt = l.length := hV.2.2.2.2.2.2.2.2.2.2.1.2
  obtain ⟨r, y1, y2, y3⟩ := soo_3 (L := L) (xs := xs) (d := d) (d' := d' + 1) (J := J) hG hV (b := I 100 a.toNatClampNeg) hb hc ht h
  refine ⟨r, soz_3 hG h8 xa xb xc xt h x4 y1, ?_⟩
  by_cases g : r = -1
  · rw [if_pos g] at y2
    rw [g]
    exact sn_0 hG xw h (by omega) (by omega) y2 rfl
  · rw [if_neg g] at y2
    exact sn_1 hG xw h (by omega) (by omega) y2 (by rcases y3 with y3 | y3; exact absurd y3 g; omega)
theorem brl_3 {L : Nat} {xs : Nat → Int32} {d : Nat} {I : Nat → Nat → Int32} {J : Nat → Nat → Int64} {R : Nat → Nat → Nat} {d' : Nat} (hG : aGd R) (h8 : R 0 8 = 4) {np nm nn : Nat} {l : List (Nat × Nat)} (hV : VR_3 np nm nn l I I) {a b c t : Int32} (ha : 0 ≤ a.toInt ∧ a.toInt < nn) (hb : 0 ≤ b.toInt ∧ b.toInt < np) (hc : 0 ≤ c.toInt ∧ c.toInt < np) (ht : 0 ≤ t.toInt ∧ t.toInt ≤ l.length) (hne : b.toInt ≠ c.toInt) : ∀ (f n : Nat) (y q : Int32), n + f = np → q.toInt = n →
    ∃ r : Int32, xEv L xs (d + 3) 82 97 [.ref 0, .int a, .int b, .int c, .int t, .int (I 100 a.toNatClampNeg), .int y, .int q] [] (124, I, J, R) (some (.int r)) (124, I, J, R) ∧ xEv L xs (d' + 2) 187 49 [.ref 86, .int a, .int b, .int c, .int t, .int y, .int q] [] (124, I, J, R) (some (.int r)) (124, I, J, R) := by
  have p1 := hV.1.1
  have p3 := hV.1.2.2
  have q1 : (I 3 14).toInt = np := hV.2.2.2.2.1.1
  have q2 : (I 88 0).toInt = np := hV.2.2.2.2.1.2
  have q11 : (I 86 26).toInt = l.length := hV.2.2.2.2.2.2.2.2.2.2.1.2
  intro f
  induction f with
  | zero =>
    intro n y q hn hq
    exact ⟨y, bcE_3 hG h8 (by omega), bq_e hG (by omega)⟩
  | succ f ih =>
    intro n y q hn hq
    have hq' : (q + 1).toInt = (n + 1 : Nat) := by rw [i_add1 (by omega)]; omega
    by_cases g1 : q.toInt = b.toInt
    · obtain ⟨r, x1, x2⟩ := ih (n + 1) y (q + 1) (by omega) hq'
      exact ⟨r, bcB_3 hG h8 (by omega) g1 x1, bq_b hG (by omega) g1 x2⟩
    by_cases g2 : q.toInt = c.toInt
    · obtain ⟨r, x1, x2⟩ := ih (n + 1) y (q + 1) (by omega) hq'
      exact ⟨r, bcC_3 hG h8 (by omega) g1 g2 x1, bq_c hG (by omega) g1 g2 x2⟩
    obtain ⟨r, y1, y2, y3⟩ := soo_3 (L := L) (xs := xs) (d := d) (d' := d') (J := J) hG hV (b := I 100 a.toNatClampNeg ||| (1 <<< (q &&& 31))) hb hc ht hne
    by_cases g : r = -1
    · rw [if_pos g] at y2
      obtain ⟨r', x1, x2⟩ := ih (n + 1) (y ||| (1 <<< (q &&& 31))) (q + 1) (by omega) hq'
      exact ⟨r', bcS_3 hG h8 (by omega) g1 g2 y1 (by rw [g]; decide) x1, bq_s hG (by omega) g1 g2 (by omega) (by omega) y2 rfl x2⟩
    · rw [if_neg g] at y2
      obtain ⟨r', x1, x2⟩ := ih (n + 1) y (q + 1) (by omega) hq'
      have g' : r.toInt ≠ -1 := by rcases y3 with y3 | y3; exact absurd y3 g; omega
      exact ⟨r', bcN_3 hG h8 (by omega) g1 g2 y1 g' x1, bq_n hG (by omega) g1 g2 (by omega) (by omega) y2 (by rcases y3 with y3 | y3; exact absurd y3 g; omega) x2⟩
theorem bas_3 {L : Nat} {xs : Nat → Int32} {d : Nat} {I : Nat → Nat → Int32} {J : Nat → Nat → Int64} {R : Nat → Nat → Nat} {d' : Nat} (hG : aGd R) (h8 : R 0 8 = 4) {np nm nn : Nat} {l : List (Nat × Nat)} (hV : VR_3 np nm nn l I I) (a b c t : Int32) : ∃ r : Int32, xEv L xs (d + 3) 82 0 [.ref 0, .int a, .int b, .int c, .int t, xmk, xmk, xmk] [] (124, I, J, R) (some (.int r)) (124, I, J, R) ∧ xEv L xs (d' + 3) 187 0 [.ref 86, .int a, .int b, .int c, .int t, xmk, xmk] [] (124, I, J, R) (some (.int r)) (124, I, J, R) := by
  rcases wyc_3 (L := L) (xs := xs) (d := d + 2) (d' := d') (J := J) hG h8 hV a b c t with ⟨-, -, x1, x2⟩ | ⟨⟨ha, hb, hc, ht⟩, xa, xb, xc, xt, xw, x4⟩
  · exact ⟨-2, x1, bq_x hG x2⟩
  by_cases h : b.toInt = c.toInt
  · exact ⟨-2, bce_3 hG h8 xa xb xc xt h, bq_y hG xw h⟩
  have p3 := hV.1.2.2
  have q11 : (I 86 26).toInt = l.length := hV.2.2.2.2.2.2.2.2.2.2.1.2
  obtain ⟨r, y1, y2, y3⟩ := soo_3 (L := L) (xs := xs) (d := d) (d' := d' + 1) (J := J) hG hV (b := I 100 a.toNatClampNeg) hb hc ht h
  by_cases g : r = -1
  · rw [if_pos g] at y2
    exact ⟨0, bcn_3 hG h8 xa xb xc xt h x4 y1 (by rw [g]; decide), bq_0 hG xw h (by omega) (by omega) y2 rfl⟩
  · rw [if_neg g] at y2
    have g' : r.toInt ≠ -1 := by rcases y3 with y3 | y3; exact absurd y3 g; omega
    obtain ⟨r', x1, x2⟩ := brl_3 (L := L) (xs := xs) (d := d) (d' := d' + 1) (J := J) hG h8 hV ha hb hc ht h np 0 0 0 (by omega) (by decide)
    exact ⟨r', bcz_3 hG h8 xa xb xc xt h x4 y1 g' x1, bq_1 hG xw h (by omega) (by omega) y2 (by rcases y3 with y3 | y3; exact absurd y3 g; omega) x2⟩
set_option maxRecDepth 20000 in
theorem cS_0_23 {L : Nat} {xs : Nat → Int32} {d : Nat} {I : Nat → Nat → Int32} {J : Nat → Nat → Int64} {R : Nat → Nat → Nat} {t r1 : Int32} (hG : aGd R) (c1 : xEv L xs d 39 0 [.ref 42, .int t] [] (124, I, J, R) (some (.int r1)) (124, I, J, R)) (b1 : r1.toInt ≠ 10) : xEv L xs (d + 1) 67 0 [.ref 37, .int t] [] (124, I, J, R) (some (.int 0)) (124, I, J, R) := by
  refine ev_go 1 (pc1 := 1) (lv1 := [.ref 37, .int t]) (st1 := [.ref 37]) (h1 := (124, I, J, R)) rfl ?_
  refine ev_gf (c := 37) (t := 42) (X := R 37 4) rfl rfl (fun _ => rfl) rfl (hG 37 4 42 rfl rfl) ?_
  refine ev_go 1 (pc1 := 5) (lv1 := [.ref 37, .int t]) (st1 := [.int t, .ref 42]) (h1 := (124, I, J, R)) rfl ?_
  refine ev_call (v1 := (some (.int r1))) (h1 := (124, I, J, R)) rfl rfl c1 ?_
  refine ev_go 1 (pc1 := 10) (lv1 := [.ref 37, .int t]) (st1 := [.int 10, .int r1]) (h1 := (124, I, J, R)) rfl ?_
  refine ev_br (b1 := true) rfl rfl (xcd_ne (x := r1) (y := 10) (by rw [show ((10 : Int32)).toInt = 10 from by decide]; first | exact b1 | omega)) ?_
  refine ev_go 1 (pc1 := 18) (lv1 := [.ref 37, .int t]) (st1 := [.int 0]) (h1 := (124, I, J, R)) rfl ?_
  exact ev_ret rfl rfl
set_option maxRecDepth 20000 in
theorem cS_1_23 {L : Nat} {xs : Nat → Int32} {d : Nat} {I : Nat → Nat → Int32} {J : Nat → Nat → Int64} {R : Nat → Nat → Nat} {t r1 : Int32} (hG : aGd R) (c1 : xEv L xs d 39 0 [.ref 42, .int t] [] (124, I, J, R) (some (.int r1)) (124, I, J, R)) (b1 : r1.toInt = 10) : xEv L xs (d + 1) 67 0 [.ref 37, .int t] [] (124, I, J, R) (some (.int 1)) (124, I, J, R) := by
  refine ev_go 1 (pc1 := 1) (lv1 := [.ref 37, .int t]) (st1 := [.ref 37]) (h1 := (124, I, J, R)) rfl ?_
  refine ev_gf (c := 37) (t := 42) (X := R 37 4) rfl rfl (fun _ => rfl) rfl (hG 37 4 42 rfl rfl) ?_
  refine ev_go 1 (pc1 := 5) (lv1 := [.ref 37, .int t]) (st1 := [.int t, .ref 42]) (h1 := (124, I, J, R)) rfl ?_
  refine ev_call (v1 := (some (.int r1))) (h1 := (124, I, J, R)) rfl rfl c1 ?_
  refine ev_go 1 (pc1 := 10) (lv1 := [.ref 37, .int t]) (st1 := [.int 10, .int r1]) (h1 := (124, I, J, R)) rfl ?_
  refine ev_br (b1 := false) rfl rfl (xcd_nne (x := r1) (y := 10) (by rw [show ((10 : Int32)).toInt = 10 from by decide]; first | exact b1 | omega)) ?_
  refine ev_go 2 (pc1 := 18) (lv1 := [.ref 37, .int t]) (st1 := [.int 1]) (h1 := (124, I, J, R)) rfl ?_
  exact ev_ret rfl rfl
set_option maxRecDepth 20000 in
theorem sC_s_23 {L : Nat} {xs : Nat → Int32} {d : Nat} {I : Nat → Nat → Int32} {J : Nat → Nat → Int64} {R : Nat → Nat → Nat} {b fr to tm : Int32} (hG : aGd R)  {v : Option Value} {h' : xH} (hk : xEv L xs d 66 9 [.ref 37, .int b, .int fr, .int to, .int tm, .int (1 <<< (fr &&& 31)), .int tm, xmk] [] (124, I, J, R) v h') : xEv L xs d 66 0 [.ref 37, .int b, .int fr, .int to, .int tm, xmk, xmk, xmk] [] (124, I, J, R) v h' := by
  refine ev_go 2 (pc1 := 2) (lv1 := [.ref 37, .int b, .int fr, .int to, .int tm, xmk, xmk, xmk]) (st1 := [.int fr, .int 1]) (h1 := (124, I, J, R)) rfl ?_
  refine ev_go 4 (pc1 := 9) (lv1 := [.ref 37, .int b, .int fr, .int to, .int tm, .int (1 <<< (fr &&& 31)), .int tm, xmk]) (st1 := []) (h1 := (124, I, J, R)) rfl ?_
  exact hk
set_option maxRecDepth 20000 in
theorem sC_e_23 {L : Nat} {xs : Nat → Int32} {d : Nat} {I : Nat → Nat → Int32} {J : Nat → Nat → Int64} {R : Nat → Nat → Nat} {b fr to tm x t : Int32} {w7 : Value} (hG : aGd R) (b1 : t.toInt ≥ (I 37 5).toInt) : xEv L xs d 66 9 [.ref 37, .int b, .int fr, .int to, .int tm, .int x, .int t, w7] [] (124, I, J, R) (some (.int (-1))) (124, I, J, R) := by
  refine ev_go 3 (pc1 := 15) (lv1 := [.ref 37, .int b, .int fr, .int to, .int tm, .int x, .int t, w7]) (st1 := [.int (I 37 5), .int t]) (h1 := (124, I, J, R)) rfl ?_
  refine ev_br (b1 := true) rfl rfl (xcd_ge (x := t) (y := (I 37 5)) (by first | exact b1 | omega)) ?_
  refine ev_go 1 (pc1 := 91) (lv1 := [.ref 37, .int b, .int fr, .int to, .int tm, .int x, .int t, w7]) (st1 := [.int (-1)]) (h1 := (124, I, J, R)) rfl ?_
  exact ev_ret rfl rfl
set_option maxRecDepth 20000 in
theorem sC_n_23 {L : Nat} {xs : Nat → Int32} {d : Nat} {I : Nat → Nat → Int32} {J : Nat → Nat → Int64} {R : Nat → Nat → Nat} {b fr to tm x t r1 r2 : Int32} {w7 : Value} (hG : aGd R) (b1 : t.toInt < (I 37 5).toInt) (c1 : xEv L xs d 39 0 [.ref 40, .int t] [] (124, I, J, R) (some (.int r1)) (124, I, J, R)) (c2 : xEv L xs d 39 0 [.ref 41, .int t] [] (124, I, J, R) (some (.int r2)) (124, I, J, R)) (c3 : xEv L xs d 67 0 [.ref 37, .int t] [] (124, I, J, R) (some (.int 0)) (124, I, J, R)) {v : Option Value} {h' : xH} (hk : xEv L xs (d + 1) 66 9 [.ref 37, .int b, .int fr, .int to, .int tm, .int x, .int (t + 1), .int ((1 <<< (r1 &&& 31)) ||| (1 <<< (r2 &&& 31)))] [] (124, I, J, R) v h') : xEv L xs (d + 1) 66 9 [.ref 37, .int b, .int fr, .int to, .int tm, .int x, .int t, w7] [] (124, I, J, R) v h' := by
  refine ev_go 3 (pc1 := 15) (lv1 := [.ref 37, .int b, .int fr, .int to, .int tm, .int x, .int t, w7]) (st1 := [.int (I 37 5), .int t]) (h1 := (124, I, J, R)) rfl ?_
  refine ev_br (b1 := false) rfl rfl (xcd_nge (x := t) (y := (I 37 5)) (by first | exact b1 | omega)) ?_
  refine ev_go 2 (pc1 := 20) (lv1 := [.ref 37, .int b, .int fr, .int to, .int tm, .int x, .int t, w7]) (st1 := [.ref 37, .int 1]) (h1 := (124, I, J, R)) rfl ?_
  refine ev_gf (c := 37) (t := 40) (X := R 37 2) rfl rfl (fun _ => rfl) rfl (hG 37 2 40 rfl rfl) ?_
  refine ev_go 1 (pc1 := 25) (lv1 := [.ref 37, .int b, .int fr, .int to, .int tm, .int x, .int t, w7]) (st1 := [.int t, .ref 40, .int 1]) (h1 := (124, I, J, R)) rfl ?_
  refine ev_call (v1 := (some (.int r1))) (h1 := (124, I, J, R)) rfl rfl c1 ?_
  refine ev_go 3 (pc1 := 31) (lv1 := [.ref 37, .int b, .int fr, .int to, .int tm, .int x, .int t, w7]) (st1 := [.ref 37, .int 1, .int (1 <<< (r1 &&& 31))]) (h1 := (124, I, J, R)) rfl ?_
  refine ev_gf (c := 37) (t := 41) (X := R 37 3) rfl rfl (fun _ => rfl) rfl (hG 37 3 41 rfl rfl) ?_
  refine ev_go 1 (pc1 := 36) (lv1 := [.ref 37, .int b, .int fr, .int to, .int tm, .int x, .int t, w7]) (st1 := [.int t, .ref 41, .int 1, .int (1 <<< (r1 &&& 31))]) (h1 := (124, I, J, R)) rfl ?_
  refine ev_call (v1 := (some (.int r2))) (h1 := (124, I, J, R)) rfl rfl c2 ?_
  refine ev_go 5 (pc1 := 46) (lv1 := [.ref 37, .int b, .int fr, .int to, .int tm, .int x, .int t, .int ((1 <<< (r1 &&& 31)) ||| (1 <<< (r2 &&& 31)))]) (st1 := [.int t, .ref 37]) (h1 := (124, I, J, R)) rfl ?_
  refine ev_call (v1 := (some (.int 0))) (h1 := (124, I, J, R)) rfl rfl c3 ?_
  refine ev_go 3 (pc1 := 9) (lv1 := [.ref 37, .int b, .int fr, .int to, .int tm, .int x, .int (t + 1), .int ((1 <<< (r1 &&& 31)) ||| (1 <<< (r2 &&& 31)))]) (st1 := []) (h1 := (124, I, J, R)) rfl ?_
  exact hk
set_option maxRecDepth 20000 in
theorem sC_0_23 {L : Nat} {xs : Nat → Int32} {d : Nat} {I : Nat → Nat → Int32} {J : Nat → Nat → Int64} {R : Nat → Nat → Nat} {b fr to tm x t r1 r2 : Int32} {w7 : Value} (hG : aGd R) (b1 : t.toInt < (I 37 5).toInt) (c1 : xEv L xs d 39 0 [.ref 40, .int t] [] (124, I, J, R) (some (.int r1)) (124, I, J, R)) (c2 : xEv L xs d 39 0 [.ref 41, .int t] [] (124, I, J, R) (some (.int r2)) (124, I, J, R)) (c3 : xEv L xs d 67 0 [.ref 37, .int t] [] (124, I, J, R) (some (.int 1)) (124, I, J, R)) (b2 : (x &&& ((1 <<< (r1 &&& 31)) ||| (1 <<< (r2 &&& 31)))).toInt = 0) {v : Option Value} {h' : xH} (hk : xEv L xs (d + 1) 66 9 [.ref 37, .int b, .int fr, .int to, .int tm, .int x, .int (t + 1), .int ((1 <<< (r1 &&& 31)) ||| (1 <<< (r2 &&& 31)))] [] (124, I, J, R) v h') : xEv L xs (d + 1) 66 9 [.ref 37, .int b, .int fr, .int to, .int tm, .int x, .int t, w7] [] (124, I, J, R) v h' := by
  refine ev_go 3 (pc1 := 15) (lv1 := [.ref 37, .int b, .int fr, .int to, .int tm, .int x, .int t, w7]) (st1 := [.int (I 37 5), .int t]) (h1 := (124, I, J, R)) rfl ?_
  refine ev_br (b1 := false) rfl rfl (xcd_nge (x := t) (y := (I 37 5)) (by first | exact b1 | omega)) ?_
  refine ev_go 2 (pc1 := 20) (lv1 := [.ref 37, .int b, .int fr, .int to, .int tm, .int x, .int t, w7]) (st1 := [.ref 37, .int 1]) (h1 := (124, I, J, R)) rfl ?_
  refine ev_gf (c := 37) (t := 40) (X := R 37 2) rfl rfl (fun _ => rfl) rfl (hG 37 2 40 rfl rfl) ?_
  refine ev_go 1 (pc1 := 25) (lv1 := [.ref 37, .int b, .int fr, .int to, .int tm, .int x, .int t, w7]) (st1 := [.int t, .ref 40, .int 1]) (h1 := (124, I, J, R)) rfl ?_
  refine ev_call (v1 := (some (.int r1))) (h1 := (124, I, J, R)) rfl rfl c1 ?_
  refine ev_go 3 (pc1 := 31) (lv1 := [.ref 37, .int b, .int fr, .int to, .int tm, .int x, .int t, w7]) (st1 := [.ref 37, .int 1, .int (1 <<< (r1 &&& 31))]) (h1 := (124, I, J, R)) rfl ?_
  refine ev_gf (c := 37) (t := 41) (X := R 37 3) rfl rfl (fun _ => rfl) rfl (hG 37 3 41 rfl rfl) ?_
  refine ev_go 1 (pc1 := 36) (lv1 := [.ref 37, .int b, .int fr, .int to, .int tm, .int x, .int t, w7]) (st1 := [.int t, .ref 41, .int 1, .int (1 <<< (r1 &&& 31))]) (h1 := (124, I, J, R)) rfl ?_
  refine ev_call (v1 := (some (.int r2))) (h1 := (124, I, J, R)) rfl rfl c2 ?_
  refine ev_go 5 (pc1 := 46) (lv1 := [.ref 37, .int b, .int fr, .int to, .int tm, .int x, .int t, .int ((1 <<< (r1 &&& 31)) ||| (1 <<< (r2 &&& 31)))]) (st1 := [.int t, .ref 37]) (h1 := (124, I, J, R)) rfl ?_
  refine ev_call (v1 := (some (.int 1))) (h1 := (124, I, J, R)) rfl rfl c3 ?_
  refine ev_go 4 (pc1 := 57) (lv1 := [.ref 37, .int b, .int fr, .int to, .int tm, .int x, .int t, .int ((1 <<< (r1 &&& 31)) ||| (1 <<< (r2 &&& 31)))]) (st1 := [.int (x &&& ((1 <<< (r1 &&& 31)) ||| (1 <<< (r2 &&& 31))))]) (h1 := (124, I, J, R)) rfl ?_
  refine ev_br (b1 := true) rfl rfl (xcd_eq (x := (x &&& ((1 <<< (r1 &&& 31)) ||| (1 <<< (r2 &&& 31))))) (y := 0) (by rw [show ((0 : Int32)).toInt = 0 from by decide]; first | exact b2 | omega)) ?_
  refine ev_go 2 (pc1 := 9) (lv1 := [.ref 37, .int b, .int fr, .int to, .int tm, .int x, .int (t + 1), .int ((1 <<< (r1 &&& 31)) ||| (1 <<< (r2 &&& 31)))]) (st1 := []) (h1 := (124, I, J, R)) rfl ?_
  exact hk
set_option maxRecDepth 20000 in
theorem sC_1_23 {L : Nat} {xs : Nat → Int32} {d : Nat} {I : Nat → Nat → Int32} {J : Nat → Nat → Int64} {R : Nat → Nat → Nat} {b fr to tm x t r1 r2 : Int32} {w7 : Value} (hG : aGd R) (b1 : t.toInt < (I 37 5).toInt) (c1 : xEv L xs d 39 0 [.ref 40, .int t] [] (124, I, J, R) (some (.int r1)) (124, I, J, R)) (c2 : xEv L xs d 39 0 [.ref 41, .int t] [] (124, I, J, R) (some (.int r2)) (124, I, J, R)) (c3 : xEv L xs d 67 0 [.ref 37, .int t] [] (124, I, J, R) (some (.int 1)) (124, I, J, R)) (b2 : (x &&& ((1 <<< (r1 &&& 31)) ||| (1 <<< (r2 &&& 31)))).toInt ≠ 0) (b3 : (((x ||| (((1 <<< (r1 &&& 31)) ||| (1 <<< (r2 &&& 31))) &&& (b ^^^ (-1)))) >>> (to &&& 31)) &&& 1).toInt ≠ 1) {v : Option Value} {h' : xH} (hk : xEv L xs (d + 1) 66 9 [.ref 37, .int b, .int fr, .int to, .int tm, .int (x ||| (((1 <<< (r1 &&& 31)) ||| (1 <<< (r2 &&& 31))) &&& (b ^^^ (-1)))), .int (t + 1), .int ((1 <<< (r1 &&& 31)) ||| (1 <<< (r2 &&& 31)))] [] (124, I, J, R) v h') : xEv L xs (d + 1) 66 9 [.ref 37, .int b, .int fr, .int to, .int tm, .int x, .int t, w7] [] (124, I, J, R) v h' := by
  refine ev_go 3 (pc1 := 15) (lv1 := [.ref 37, .int b, .int fr, .int to, .int tm, .int x, .int t, w7]) (st1 := [.int (I 37 5), .int t]) (h1 := (124, I, J, R)) rfl ?_
  refine ev_br (b1 := false) rfl rfl (xcd_nge (x := t) (y := (I 37 5)) (by first | exact b1 | omega)) ?_
  refine ev_go 2 (pc1 := 20) (lv1 := [.ref 37, .int b, .int fr, .int to, .int tm, .int x, .int t, w7]) (st1 := [.ref 37, .int 1]) (h1 := (124, I, J, R)) rfl ?_
  refine ev_gf (c := 37) (t := 40) (X := R 37 2) rfl rfl (fun _ => rfl) rfl (hG 37 2 40 rfl rfl) ?_
  refine ev_go 1 (pc1 := 25) (lv1 := [.ref 37, .int b, .int fr, .int to, .int tm, .int x, .int t, w7]) (st1 := [.int t, .ref 40, .int 1]) (h1 := (124, I, J, R)) rfl ?_
  refine ev_call (v1 := (some (.int r1))) (h1 := (124, I, J, R)) rfl rfl c1 ?_
  refine ev_go 3 (pc1 := 31) (lv1 := [.ref 37, .int b, .int fr, .int to, .int tm, .int x, .int t, w7]) (st1 := [.ref 37, .int 1, .int (1 <<< (r1 &&& 31))]) (h1 := (124, I, J, R)) rfl ?_
  refine ev_gf (c := 37) (t := 41) (X := R 37 3) rfl rfl (fun _ => rfl) rfl (hG 37 3 41 rfl rfl) ?_
  refine ev_go 1 (pc1 := 36) (lv1 := [.ref 37, .int b, .int fr, .int to, .int tm, .int x, .int t, w7]) (st1 := [.int t, .ref 41, .int 1, .int (1 <<< (r1 &&& 31))]) (h1 := (124, I, J, R)) rfl ?_
  refine ev_call (v1 := (some (.int r2))) (h1 := (124, I, J, R)) rfl rfl c2 ?_
  refine ev_go 5 (pc1 := 46) (lv1 := [.ref 37, .int b, .int fr, .int to, .int tm, .int x, .int t, .int ((1 <<< (r1 &&& 31)) ||| (1 <<< (r2 &&& 31)))]) (st1 := [.int t, .ref 37]) (h1 := (124, I, J, R)) rfl ?_
  refine ev_call (v1 := (some (.int 1))) (h1 := (124, I, J, R)) rfl rfl c3 ?_
  refine ev_go 4 (pc1 := 57) (lv1 := [.ref 37, .int b, .int fr, .int to, .int tm, .int x, .int t, .int ((1 <<< (r1 &&& 31)) ||| (1 <<< (r2 &&& 31)))]) (st1 := [.int (x &&& ((1 <<< (r1 &&& 31)) ||| (1 <<< (r2 &&& 31))))]) (h1 := (124, I, J, R)) rfl ?_
  refine ev_br (b1 := false) rfl rfl (xcd_neq (x := (x &&& ((1 <<< (r1 &&& 31)) ||| (1 <<< (r2 &&& 31))))) (y := 0) (by rw [show ((0 : Int32)).toInt = 0 from by decide]; first | exact b2 | omega)) ?_
  refine ev_go 10 (pc1 := 74) (lv1 := [.ref 37, .int b, .int fr, .int to, .int tm, .int (x ||| (((1 <<< (r1 &&& 31)) ||| (1 <<< (r2 &&& 31))) &&& (b ^^^ (-1)))), .int t, .int ((1 <<< (r1 &&& 31)) ||| (1 <<< (r2 &&& 31)))]) (st1 := [.int to, .int (x ||| (((1 <<< (r1 &&& 31)) ||| (1 <<< (r2 &&& 31))) &&& (b ^^^ (-1))))]) (h1 := (124, I, J, R)) rfl ?_
  refine ev_go 4 (pc1 := 78) (lv1 := [.ref 37, .int b, .int fr, .int to, .int tm, .int (x ||| (((1 <<< (r1 &&& 31)) ||| (1 <<< (r2 &&& 31))) &&& (b ^^^ (-1)))), .int t, .int ((1 <<< (r1 &&& 31)) ||| (1 <<< (r2 &&& 31)))]) (st1 := [.int 1, .int (((x ||| (((1 <<< (r1 &&& 31)) ||| (1 <<< (r2 &&& 31))) &&& (b ^^^ (-1)))) >>> (to &&& 31)) &&& 1)]) (h1 := (124, I, J, R)) rfl ?_
  refine ev_br (b1 := true) rfl rfl (xcd_ne (x := (((x ||| (((1 <<< (r1 &&& 31)) ||| (1 <<< (r2 &&& 31))) &&& (b ^^^ (-1)))) >>> (to &&& 31)) &&& 1)) (y := 1) (by rw [show ((1 : Int32)).toInt = 1 from by decide]; first | exact b3 | omega)) ?_
  refine ev_go 2 (pc1 := 9) (lv1 := [.ref 37, .int b, .int fr, .int to, .int tm, .int (x ||| (((1 <<< (r1 &&& 31)) ||| (1 <<< (r2 &&& 31))) &&& (b ^^^ (-1)))), .int (t + 1), .int ((1 <<< (r1 &&& 31)) ||| (1 <<< (r2 &&& 31)))]) (st1 := []) (h1 := (124, I, J, R)) rfl ?_
  exact hk
set_option maxRecDepth 20000 in
theorem sC_2_23 {L : Nat} {xs : Nat → Int32} {d : Nat} {I : Nat → Nat → Int32} {J : Nat → Nat → Int64} {R : Nat → Nat → Nat} {b fr to tm x t r1 r2 : Int32} {w7 : Value} (hG : aGd R) (b1 : t.toInt < (I 37 5).toInt) (c1 : xEv L xs d 39 0 [.ref 40, .int t] [] (124, I, J, R) (some (.int r1)) (124, I, J, R)) (c2 : xEv L xs d 39 0 [.ref 41, .int t] [] (124, I, J, R) (some (.int r2)) (124, I, J, R)) (c3 : xEv L xs d 67 0 [.ref 37, .int t] [] (124, I, J, R) (some (.int 1)) (124, I, J, R)) (b2 : (x &&& ((1 <<< (r1 &&& 31)) ||| (1 <<< (r2 &&& 31)))).toInt ≠ 0) (b3 : (((x ||| (((1 <<< (r1 &&& 31)) ||| (1 <<< (r2 &&& 31))) &&& (b ^^^ (-1)))) >>> (to &&& 31)) &&& 1).toInt = 1) : xEv L xs (d + 1) 66 9 [.ref 37, .int b, .int fr, .int to, .int tm, .int x, .int t, w7] [] (124, I, J, R) (some (.int t)) (124, I, J, R) := by
  refine ev_go 3 (pc1 := 15) (lv1 := [.ref 37, .int b, .int fr, .int to, .int tm, .int x, .int t, w7]) (st1 := [.int (I 37 5), .int t]) (h1 := (124, I, J, R)) rfl ?_
  refine ev_br (b1 := false) rfl rfl (xcd_nge (x := t) (y := (I 37 5)) (by first | exact b1 | omega)) ?_
  refine ev_go 2 (pc1 := 20) (lv1 := [.ref 37, .int b, .int fr, .int to, .int tm, .int x, .int t, w7]) (st1 := [.ref 37, .int 1]) (h1 := (124, I, J, R)) rfl ?_
  refine ev_gf (c := 37) (t := 40) (X := R 37 2) rfl rfl (fun _ => rfl) rfl (hG 37 2 40 rfl rfl) ?_
  refine ev_go 1 (pc1 := 25) (lv1 := [.ref 37, .int b, .int fr, .int to, .int tm, .int x, .int t, w7]) (st1 := [.int t, .ref 40, .int 1]) (h1 := (124, I, J, R)) rfl ?_
  refine ev_call (v1 := (some (.int r1))) (h1 := (124, I, J, R)) rfl rfl c1 ?_
  refine ev_go 3 (pc1 := 31) (lv1 := [.ref 37, .int b, .int fr, .int to, .int tm, .int x, .int t, w7]) (st1 := [.ref 37, .int 1, .int (1 <<< (r1 &&& 31))]) (h1 := (124, I, J, R)) rfl ?_
  refine ev_gf (c := 37) (t := 41) (X := R 37 3) rfl rfl (fun _ => rfl) rfl (hG 37 3 41 rfl rfl) ?_
  refine ev_go 1 (pc1 := 36) (lv1 := [.ref 37, .int b, .int fr, .int to, .int tm, .int x, .int t, w7]) (st1 := [.int t, .ref 41, .int 1, .int (1 <<< (r1 &&& 31))]) (h1 := (124, I, J, R)) rfl ?_
  refine ev_call (v1 := (some (.int r2))) (h1 := (124, I, J, R)) rfl rfl c2 ?_
  refine ev_go 5 (pc1 := 46) (lv1 := [.ref 37, .int b, .int fr, .int to, .int tm, .int x, .int t, .int ((1 <<< (r1 &&& 31)) ||| (1 <<< (r2 &&& 31)))]) (st1 := [.int t, .ref 37]) (h1 := (124, I, J, R)) rfl ?_
  refine ev_call (v1 := (some (.int 1))) (h1 := (124, I, J, R)) rfl rfl c3 ?_
  refine ev_go 4 (pc1 := 57) (lv1 := [.ref 37, .int b, .int fr, .int to, .int tm, .int x, .int t, .int ((1 <<< (r1 &&& 31)) ||| (1 <<< (r2 &&& 31)))]) (st1 := [.int (x &&& ((1 <<< (r1 &&& 31)) ||| (1 <<< (r2 &&& 31))))]) (h1 := (124, I, J, R)) rfl ?_
  refine ev_br (b1 := false) rfl rfl (xcd_neq (x := (x &&& ((1 <<< (r1 &&& 31)) ||| (1 <<< (r2 &&& 31))))) (y := 0) (by rw [show ((0 : Int32)).toInt = 0 from by decide]; first | exact b2 | omega)) ?_
  refine ev_go 10 (pc1 := 74) (lv1 := [.ref 37, .int b, .int fr, .int to, .int tm, .int (x ||| (((1 <<< (r1 &&& 31)) ||| (1 <<< (r2 &&& 31))) &&& (b ^^^ (-1)))), .int t, .int ((1 <<< (r1 &&& 31)) ||| (1 <<< (r2 &&& 31)))]) (st1 := [.int to, .int (x ||| (((1 <<< (r1 &&& 31)) ||| (1 <<< (r2 &&& 31))) &&& (b ^^^ (-1))))]) (h1 := (124, I, J, R)) rfl ?_
  refine ev_go 4 (pc1 := 78) (lv1 := [.ref 37, .int b, .int fr, .int to, .int tm, .int (x ||| (((1 <<< (r1 &&& 31)) ||| (1 <<< (r2 &&& 31))) &&& (b ^^^ (-1)))), .int t, .int ((1 <<< (r1 &&& 31)) ||| (1 <<< (r2 &&& 31)))]) (st1 := [.int 1, .int (((x ||| (((1 <<< (r1 &&& 31)) ||| (1 <<< (r2 &&& 31))) &&& (b ^^^ (-1)))) >>> (to &&& 31)) &&& 1)]) (h1 := (124, I, J, R)) rfl ?_
  refine ev_br (b1 := false) rfl rfl (xcd_nne (x := (((x ||| (((1 <<< (r1 &&& 31)) ||| (1 <<< (r2 &&& 31))) &&& (b ^^^ (-1)))) >>> (to &&& 31)) &&& 1)) (y := 1) (by rw [show ((1 : Int32)).toInt = 1 from by decide]; first | exact b3 | omega)) ?_
  refine ev_go 1 (pc1 := 83) (lv1 := [.ref 37, .int b, .int fr, .int to, .int tm, .int (x ||| (((1 <<< (r1 &&& 31)) ||| (1 <<< (r2 &&& 31))) &&& (b ^^^ (-1)))), .int t, .int ((1 <<< (r1 &&& 31)) ||| (1 <<< (r2 &&& 31)))]) (st1 := [.int t]) (h1 := (124, I, J, R)) rfl ?_
  exact ev_ret rfl rfl
set_option maxRecDepth 20000 in
theorem hm_a_23 {L : Nat} {xs : Nat → Int32} {d : Nat} {I : Nat → Nat → Int32} {J : Nat → Nat → Int64} {R : Nat → Nat → Nat} {t : Int32} (hG : aGd R) (b1 : t.toInt < 0) : xEv L xs d 65 0 [.ref 37, .int t] [] (124, I, J, R) (some (.int 0)) (124, I, J, R) := by
  refine ev_go 1 (pc1 := 1) (lv1 := [.ref 37, .int t]) (st1 := [.int t]) (h1 := (124, I, J, R)) rfl ?_
  refine ev_br (b1 := true) rfl rfl (xcd_lt (x := t) (y := 0) (by rw [show ((0 : Int32)).toInt = 0 from by decide]; first | exact b1 | omega)) ?_
  refine ev_go 1 (pc1 := 17) (lv1 := [.ref 37, .int t]) (st1 := [.int 0]) (h1 := (124, I, J, R)) rfl ?_
  exact ev_ret rfl rfl
set_option maxRecDepth 20000 in
theorem hm_b_23 {L : Nat} {xs : Nat → Int32} {d : Nat} {I : Nat → Nat → Int32} {J : Nat → Nat → Int64} {R : Nat → Nat → Nat} {t : Int32} (hG : aGd R) (b1 : t.toInt ≥ 0) (b2 : t.toInt > (I 37 5).toInt) : xEv L xs d 65 0 [.ref 37, .int t] [] (124, I, J, R) (some (.int 0)) (124, I, J, R) := by
  refine ev_go 1 (pc1 := 1) (lv1 := [.ref 37, .int t]) (st1 := [.int t]) (h1 := (124, I, J, R)) rfl ?_
  refine ev_br (b1 := false) rfl rfl (xcd_nlt (x := t) (y := 0) (by rw [show ((0 : Int32)).toInt = 0 from by decide]; first | exact b1 | omega)) ?_
  refine ev_go 3 (pc1 := 9) (lv1 := [.ref 37, .int t]) (st1 := [.int (I 37 5), .int t]) (h1 := (124, I, J, R)) rfl ?_
  refine ev_br (b1 := true) rfl rfl (xcd_gt (x := t) (y := (I 37 5)) (by first | exact b2 | omega)) ?_
  refine ev_go 1 (pc1 := 17) (lv1 := [.ref 37, .int t]) (st1 := [.int 0]) (h1 := (124, I, J, R)) rfl ?_
  exact ev_ret rfl rfl
set_option maxRecDepth 20000 in
theorem hm_c_23 {L : Nat} {xs : Nat → Int32} {d : Nat} {I : Nat → Nat → Int32} {J : Nat → Nat → Int64} {R : Nat → Nat → Nat} {t : Int32} (hG : aGd R) (b1 : t.toInt ≥ 0) (b2 : t.toInt ≤ (I 37 5).toInt) : xEv L xs d 65 0 [.ref 37, .int t] [] (124, I, J, R) (some (.int 1)) (124, I, J, R) := by
  refine ev_go 1 (pc1 := 1) (lv1 := [.ref 37, .int t]) (st1 := [.int t]) (h1 := (124, I, J, R)) rfl ?_
  refine ev_br (b1 := false) rfl rfl (xcd_nlt (x := t) (y := 0) (by rw [show ((0 : Int32)).toInt = 0 from by decide]; first | exact b1 | omega)) ?_
  refine ev_go 3 (pc1 := 9) (lv1 := [.ref 37, .int t]) (st1 := [.int (I 37 5), .int t]) (h1 := (124, I, J, R)) rfl ?_
  refine ev_br (b1 := false) rfl rfl (xcd_ngt (x := t) (y := (I 37 5)) (by first | exact b2 | omega)) ?_
  refine ev_go 2 (pc1 := 17) (lv1 := [.ref 37, .int t]) (st1 := [.int 1]) (h1 := (124, I, J, R)) rfl ?_
  exact ev_ret rfl rfl
theorem hm_run_23 {L : Nat} {xs : Nat → Int32} {d : Nat} {I : Nat → Nat → Int32} {J : Nat → Nat → Int64} {R : Nat → Nat → Nat} (hG : aGd R) {m : Nat} (hm : (I 37 5).toInt = m) (x : Int32) : ((0 ≤ x.toInt ∧ x.toInt ≤ m) ∧ xEv L xs d 65 0 [.ref 37, .int x] [] (124, I, J, R) (some (.int 1)) (124, I, J, R)) ∨ (¬ (0 ≤ x.toInt ∧ x.toInt ≤ m) ∧ xEv L xs d 65 0 [.ref 37, .int x] [] (124, I, J, R) (some (.int 0)) (124, I, J, R)) := by
  by_cases h1 : x.toInt < 0
  · exact Or.inr ⟨by omega, hm_a_23 hG h1⟩
  by_cases h2 : x.toInt > (I 37 5).toInt
  · exact Or.inr ⟨by omega, hm_b_23 hG (by omega) h2⟩
  · exact Or.inl ⟨by omega, hm_c_23 hG (by omega) (by omega)⟩
/-- the rows of a time in both -/
theorem tmr_23 {np nm nn : Nat} {l : List (Nat × Nat)} {I : Nat → Nat → Int32} (hV : VR_23 np nm nn l I I) {t : Nat} (h : t < l.length) : ∃ b, b < nm ∧ (I 101 t).toInt = (b : Int) ∧ I 40 t = I 92 b ∧ I 41 t = I 93 b ∧ I 42 t = I 95 b ∧ 0 ≤ (I 92 b).toInt ∧ (I 92 b).toInt < np ∧ 0 ≤ (I 93 b).toInt ∧ (I 93 b).toInt < np ∧ (I 92 b).toInt ≠ (I 93 b).toInt := by
  obtain ⟨⟨p1, p2, p3⟩, p4, p5, p6, ⟨q1, q2⟩, ⟨q3, q4⟩, ⟨q5, q6⟩, q7, q8, q9, ⟨q10, q11⟩, q12, q13, q14, q15, -⟩ := hV
  have hb := (p6 l[t] (List.getElem_mem h)).2
  obtain ⟨-, -, -, w4, w5, w6, w7⟩ := q12 t (l[t]).1 (l[t]).2 (List.getElem?_eq_getElem h)
  obtain ⟨e1, e2, -⟩ := q8 _ hb
  obtain ⟨r1, r2, r3, r4, r5⟩ := q15 _ hb
  rw [e1] at r1 r2 r5
  rw [e2] at r3 r4 r5
  exact ⟨(l[t]).2, hb, w4, w5, w6, w7, r1, r2, r3, r4, r5⟩
/-- soonest of both, from time n on -/
theorem sol_23 {L : Nat} {xs : Nat → Int32} {d : Nat} {I : Nat → Nat → Int32} {J : Nat → Nat → Int64} {R : Nat → Nat → Nat} {d' : Nat} (hG : aGd R) {np nm nn : Nat} {l : List (Nat × Nat)} (hV : VR_23 np nm nn l I I) {b fr to tm : Int32} {z : Nat} (hto : to.toInt = z) (hz : z < np) : ∀ (f n : Nat) (x t : Int32) (w7 u7 u8 u9 : Value), n + f = l.length → t.toInt = n → tb x z = false →
    ∃ r : Int32, xEv L xs (d + 2) 66 9 [.ref 37, .int b, .int fr, .int to, .int tm, .int x, .int t, w7] [] (124, I, J, R) (some (.int r)) (124, I, J, R) ∧ xEv L xs (d' + 1) 185 9 [.ref 86, .int b, .int fr, .int to, .int tm, .int x, .int t, u7, u8, u9] [] (124, I, J, R) (some (.int (if r = -1 then I 86 26 else r))) (124, I, J, R) ∧ (r = -1 ∨ (0 ≤ r.toInt ∧ r.toInt < l.length)) := by
  have hV0 := hV
  obtain ⟨⟨p1, p2, p3⟩, p4, p5, p6, ⟨q1, q2⟩, ⟨q3, q4⟩, ⟨q5, q6⟩, q7, q8, q9, ⟨q10, q11⟩, q12, q13, q14, q15, -⟩ := hV
  intro f
  induction f with
  | zero =>
    intro n x t w7 u7 u8 u9 hn ht hx
    refine ⟨-1, sC_e_23 hG (by omega), ?_, Or.inl rfl⟩
    rw [if_pos rfl]
    exact sM_e hG (by omega)
  | succ f ih =>
    intro n x t w7 u7 u8 u9 hn ht hx
    obtain ⟨m, hm, e1, e2, e3, e4, g1, g2, g3, g4, g5⟩ := tmr_23 hV0 (t := n) (by omega)
    have ec := clamp_s (i := t) (by omega)
    have ekt : t.toNatClampNeg = n := by omega
    have ecm := clamp_s (i := I 101 n) (by omega)
    have ekm : (I 101 n).toNatClampNeg = m := by omega
    have ht' : (t + 1).toInt = (n + 1 : Nat) := by rw [i_add1 (by omega)]; omega
    have at1 : ∀ c, (∀ g : FieldType → Nat → Option xR, xarr (124, I, J, R) c g = g .int 64) → ∀ d, xEv L xs d 39 0 [.ref c, .int t] [] (124, I, J, R) (some (.int (I c n))) (124, I, J, R) := by
      intro c ho d
      have h4 := at_run (L := L) (xs := xs) (d := d) (h := (124, I, J, R)) ho (by decide) t
      rw [if_pos ⟨by omega, by omega⟩, ekt] at h4
      exact h4
    have c1 := at1 40 (fun _ => rfl) (d + 1)
    have c2 := at1 41 (fun _ => rfl) (d + 1)
    have c3 := at1 42 (fun _ => rfl) d
    rw [e2] at c1
    rw [e3] at c2
    rw [e4] at c3
    have m1 := oA (L := L) (xs := xs) (d := d') (I := I) (J := J) (t := t) hG (by omega) (by omega) (by rw [ekt]; omega) (by rw [ekt]; omega)
    have m2 := tA (L := L) (xs := xs) (d := d') (I := I) (J := J) (t := t) hG (by omega) (by omega) (by rw [ekt]; omega) (by rw [ekt]; omega)
    rw [ekt, ekm] at m1 m2
    by_cases hs : (I 95 m).toInt = 10
    · have k1 := cS_1_23 (L := L) (xs := xs) (I := I) (J := J) hG c3 hs
      have k2 := iS_1 (L := L) (xs := xs) (d := d') (I := I) (J := J) (t := t) hG (by omega) (by omega) (by rw [ekt]; omega) (by rw [ekt]; omega) (by rw [ekt, ekm]; exact hs)
      obtain ⟨a, ha⟩ := Int.eq_ofNat_of_zero_le g1
      obtain ⟨c, hc⟩ := Int.eq_ofNat_of_zero_le g3
      have hS := sG_c (b := b) (x := x) ha hc (by omega) (by omega)
      have hsh : ∀ y : Int32, (y >>> (to &&& 31)) &&& 1 = (if tb y z then 1 else 0) := fun y => tb_shr hto (by omega)
      by_cases hp : x &&& ((1 <<< (I 92 m &&& 31)) ||| (1 <<< (I 93 m &&& 31))) = 0
      · obtain ⟨r, x1, x2, x3⟩ := ih (n + 1) x (t + 1) (.int ((1 <<< (I 92 m &&& 31)) ||| (1 <<< (I 93 m &&& 31)))) (.int (I 92 m)) (.int (I 93 m)) (.int x) (by omega) ht' hx
        refine ⟨r, sC_0_23 hG (by omega) c1 c2 k1 (by rw [hp]; decide) x1, sM_0 hG (by omega) k2 m1 m2 (sG_run hG ha hc (by omega) (by omega) ?_), x3⟩
        rw [hS.1 hp]
        exact sM_y hG (by rw [hsh, hx]; decide) x2
      · have hp' : (x &&& ((1 <<< (I 92 m &&& 31)) ||| (1 <<< (I 93 m &&& 31)))).toInt ≠ 0 := fun h => hp (Int32.toInt_inj.mp h)
        cases hy : tb (sG b x (I 92 m) (I 93 m) a c) z with
        | true =>
          refine ⟨t, sC_2_23 hG (by omega) c1 c2 k1 hp' (by rw [← hS.2 hp, hsh, hy]; decide), ?_, Or.inr ⟨by omega, by omega⟩⟩
          rw [if_neg (fun h => by rw [h] at ht; rw [show (-1 : Int32).toInt = -1 from by decide] at ht; omega)]
          exact sM_0 hG (by omega) k2 m1 m2 (sG_run hG ha hc (by omega) (by omega) (sM_x hG (by rw [hsh, hy]; decide)))
        | false =>
          obtain ⟨r, x1, x2, x3⟩ := ih (n + 1) (sG b x (I 92 m) (I 93 m) a c) (t + 1) (.int ((1 <<< (I 92 m &&& 31)) ||| (1 <<< (I 93 m &&& 31)))) (.int (I 92 m)) (.int (I 93 m)) (.int x) (by omega) ht' hy
          refine ⟨r, sC_1_23 hG (by omega) c1 c2 k1 hp' (by rw [← hS.2 hp, hsh, hy]; decide) (by rw [← hS.2 hp]; exact x1), sM_0 hG (by omega) k2 m1 m2 (sG_run hG ha hc (by omega) (by omega) (sM_y hG (by rw [hsh, hy]; decide) x2)), x3⟩
    · have k1 := cS_0_23 (L := L) (xs := xs) (I := I) (J := J) hG c3 hs
      have k2 := iS_0 (L := L) (xs := xs) (d := d') (I := I) (J := J) (t := t) hG (by omega) (by omega) (by rw [ekt]; omega) (by rw [ekt]; omega) (by rw [ekt, ekm]; exact hs)
      obtain ⟨r, x1, x2, x3⟩ := ih (n + 1) x (t + 1) (.int ((1 <<< (I 92 m &&& 31)) ||| (1 <<< (I 93 m &&& 31)))) u7 u8 u9 (by omega) ht' hx
      exact ⟨r, sC_n_23 hG (by omega) c1 c2 k1 x1, sM_n hG (by omega) k2 x2, x3⟩
/-- soonest of both -/
theorem soo_23 {L : Nat} {xs : Nat → Int32} {d : Nat} {I : Nat → Nat → Int32} {J : Nat → Nat → Int64} {R : Nat → Nat → Nat} {d' : Nat} (hG : aGd R) {np nm nn : Nat} {l : List (Nat × Nat)} (hV : VR_23 np nm nn l I I) {b fr to tm : Int32} (h1 : 0 ≤ fr.toInt ∧ fr.toInt < np) (h2 : 0 ≤ to.toInt ∧ to.toInt < np) (h3 : 0 ≤ tm.toInt ∧ tm.toInt ≤ l.length) (h4 : fr.toInt ≠ to.toInt) :
    ∃ r : Int32, xEv L xs (d + 2) 66 0 [.ref 37, .int b, .int fr, .int to, .int tm, xmk, xmk, xmk] [] (124, I, J, R) (some (.int r)) (124, I, J, R) ∧ xEv L xs (d' + 1) 185 0 [.ref 86, .int b, .int fr, .int to, .int tm, xmk, xmk, xmk, xmk, xmk] [] (124, I, J, R) (some (.int (if r = -1 then I 86 26 else r))) (124, I, J, R) ∧ (r = -1 ∨ (0 ≤ r.toInt ∧ r.toInt < l.length)) := by
  have hp7 := hV.1.1
  obtain ⟨z, hz⟩ := Int.eq_ofNat_of_zero_le h2.1
  obtain ⟨y, hy⟩ := Int.eq_ofNat_of_zero_le h1.1
  obtain ⟨n, hn⟩ := Int.eq_ofNat_of_zero_le h3.1
  obtain ⟨r, x1, x2, x3⟩ := sol_23 (L := L) (xs := xs) (d := d) (d' := d') (J := J) hG hV (b := b) (fr := fr) (to := to) (tm := tm) hz (by omega) (l.length - n) n (1 <<< (fr &&& 31)) tm xmk xmk xmk xmk (by omega) hn (by rw [tb_shl hy (by omega)]; exact decide_eq_false (by omega))
  exact ⟨r, sC_s_23 hG x1, sM_s hG x2, x3⟩
set_option maxRecDepth 20000 in
theorem so0_23 {L : Nat} {xs : Nat → Int32} {d : Nat} {I : Nat → Nat → Int32} {J : Nat → Nat → Int64} {R : Nat → Nat → Nat} {a b c t : Int32} (hG : aGd R) (r_R_0_8 : R 0 8 = 24) (c1 : xEv L xs d 59 0 [.ref 23, .int a] [] (124, I, J, R) (some (.int 0)) (124, I, J, R)) : xEv L xs (d + 1) 63 0 [.ref 0, .int a, .int b, .int c, .int t] [] (124, I, J, R) (some (.int (-2))) (124, I, J, R) := by
  refine ev_go 1 (pc1 := 1) (lv1 := [.ref 0, .int a, .int b, .int c, .int t]) (st1 := [.ref 0]) (h1 := (124, I, J, R)) rfl ?_
  refine ev_gf (c := 0) (t := 23) (X := R 0 8) rfl rfl (fun _ => rfl) rfl r_R_0_8 ?_
  refine ev_go 1 (pc1 := 5) (lv1 := [.ref 0, .int a, .int b, .int c, .int t]) (st1 := [.int a, .ref 23]) (h1 := (124, I, J, R)) rfl ?_
  refine ev_call (v1 := (some (.int 0))) (h1 := (124, I, J, R)) rfl rfl c1 ?_
  refine ev_go 2 (pc1 := 50) (lv1 := [.ref 0, .int a, .int b, .int c, .int t]) (st1 := [.int (-2)]) (h1 := (124, I, J, R)) rfl ?_
  exact ev_ret rfl rfl
set_option maxRecDepth 20000 in
theorem bc0_23 {L : Nat} {xs : Nat → Int32} {d : Nat} {I : Nat → Nat → Int32} {J : Nat → Nat → Int64} {R : Nat → Nat → Nat} {a b c t : Int32} (hG : aGd R) (r_R_0_8 : R 0 8 = 24) (c1 : xEv L xs d 59 0 [.ref 23, .int a] [] (124, I, J, R) (some (.int 0)) (124, I, J, R)) : xEv L xs (d + 1) 82 0 [.ref 0, .int a, .int b, .int c, .int t, xmk, xmk, xmk] [] (124, I, J, R) (some (.int (-2))) (124, I, J, R) := by
  refine ev_go 1 (pc1 := 1) (lv1 := [.ref 0, .int a, .int b, .int c, .int t, xmk, xmk, xmk]) (st1 := [.ref 0]) (h1 := (124, I, J, R)) rfl ?_
  refine ev_gf (c := 0) (t := 23) (X := R 0 8) rfl rfl (fun _ => rfl) rfl r_R_0_8 ?_
  refine ev_go 1 (pc1 := 5) (lv1 := [.ref 0, .int a, .int b, .int c, .int t, xmk, xmk, xmk]) (st1 := [.int a, .ref 23]) (h1 := (124, I, J, R)) rfl ?_
  refine ev_call (v1 := (some (.int 0))) (h1 := (124, I, J, R)) rfl rfl c1 ?_
  refine ev_go 2 (pc1 := 55) (lv1 := [.ref 0, .int a, .int b, .int c, .int t, xmk, xmk, xmk]) (st1 := [.int (-2)]) (h1 := (124, I, J, R)) rfl ?_
  exact ev_ret rfl rfl
set_option maxRecDepth 20000 in
theorem so1_23 {L : Nat} {xs : Nat → Int32} {d : Nat} {I : Nat → Nat → Int32} {J : Nat → Nat → Int64} {R : Nat → Nat → Nat} {a b c t : Int32} (hG : aGd R) (r_R_0_8 : R 0 8 = 24) (c1 : xEv L xs d 59 0 [.ref 23, .int a] [] (124, I, J, R) (some (.int 1)) (124, I, J, R)) (c2 : xEv L xs d 64 0 [.ref 23, .int b] [] (124, I, J, R) (some (.int 0)) (124, I, J, R)) : xEv L xs (d + 1) 63 0 [.ref 0, .int a, .int b, .int c, .int t] [] (124, I, J, R) (some (.int (-2))) (124, I, J, R) := by
  refine ev_go 1 (pc1 := 1) (lv1 := [.ref 0, .int a, .int b, .int c, .int t]) (st1 := [.ref 0]) (h1 := (124, I, J, R)) rfl ?_
  refine ev_gf (c := 0) (t := 23) (X := R 0 8) rfl rfl (fun _ => rfl) rfl r_R_0_8 ?_
  refine ev_go 1 (pc1 := 5) (lv1 := [.ref 0, .int a, .int b, .int c, .int t]) (st1 := [.int a, .ref 23]) (h1 := (124, I, J, R)) rfl ?_
  refine ev_call (v1 := (some (.int 1))) (h1 := (124, I, J, R)) rfl rfl c1 ?_
  refine ev_go 2 (pc1 := 12) (lv1 := [.ref 0, .int a, .int b, .int c, .int t]) (st1 := [.ref 0]) (h1 := (124, I, J, R)) rfl ?_
  refine ev_gf (c := 0) (t := 23) (X := R 0 8) rfl rfl (fun _ => rfl) rfl r_R_0_8 ?_
  refine ev_go 1 (pc1 := 16) (lv1 := [.ref 0, .int a, .int b, .int c, .int t]) (st1 := [.int b, .ref 23]) (h1 := (124, I, J, R)) rfl ?_
  refine ev_call (v1 := (some (.int 0))) (h1 := (124, I, J, R)) rfl rfl c2 ?_
  refine ev_go 2 (pc1 := 50) (lv1 := [.ref 0, .int a, .int b, .int c, .int t]) (st1 := [.int (-2)]) (h1 := (124, I, J, R)) rfl ?_
  exact ev_ret rfl rfl
set_option maxRecDepth 20000 in
theorem bc1_23 {L : Nat} {xs : Nat → Int32} {d : Nat} {I : Nat → Nat → Int32} {J : Nat → Nat → Int64} {R : Nat → Nat → Nat} {a b c t : Int32} (hG : aGd R) (r_R_0_8 : R 0 8 = 24) (c1 : xEv L xs d 59 0 [.ref 23, .int a] [] (124, I, J, R) (some (.int 1)) (124, I, J, R)) (c2 : xEv L xs d 64 0 [.ref 23, .int b] [] (124, I, J, R) (some (.int 0)) (124, I, J, R)) : xEv L xs (d + 1) 82 0 [.ref 0, .int a, .int b, .int c, .int t, xmk, xmk, xmk] [] (124, I, J, R) (some (.int (-2))) (124, I, J, R) := by
  refine ev_go 1 (pc1 := 1) (lv1 := [.ref 0, .int a, .int b, .int c, .int t, xmk, xmk, xmk]) (st1 := [.ref 0]) (h1 := (124, I, J, R)) rfl ?_
  refine ev_gf (c := 0) (t := 23) (X := R 0 8) rfl rfl (fun _ => rfl) rfl r_R_0_8 ?_
  refine ev_go 1 (pc1 := 5) (lv1 := [.ref 0, .int a, .int b, .int c, .int t, xmk, xmk, xmk]) (st1 := [.int a, .ref 23]) (h1 := (124, I, J, R)) rfl ?_
  refine ev_call (v1 := (some (.int 1))) (h1 := (124, I, J, R)) rfl rfl c1 ?_
  refine ev_go 2 (pc1 := 12) (lv1 := [.ref 0, .int a, .int b, .int c, .int t, xmk, xmk, xmk]) (st1 := [.ref 0]) (h1 := (124, I, J, R)) rfl ?_
  refine ev_gf (c := 0) (t := 23) (X := R 0 8) rfl rfl (fun _ => rfl) rfl r_R_0_8 ?_
  refine ev_go 1 (pc1 := 16) (lv1 := [.ref 0, .int a, .int b, .int c, .int t, xmk, xmk, xmk]) (st1 := [.int b, .ref 23]) (h1 := (124, I, J, R)) rfl ?_
  refine ev_call (v1 := (some (.int 0))) (h1 := (124, I, J, R)) rfl rfl c2 ?_
  refine ev_go 2 (pc1 := 55) (lv1 := [.ref 0, .int a, .int b, .int c, .int t, xmk, xmk, xmk]) (st1 := [.int (-2)]) (h1 := (124, I, J, R)) rfl ?_
  exact ev_ret rfl rfl
set_option maxRecDepth 20000 in
theorem so2_23 {L : Nat} {xs : Nat → Int32} {d : Nat} {I : Nat → Nat → Int32} {J : Nat → Nat → Int64} {R : Nat → Nat → Nat} {a b c t : Int32} (hG : aGd R) (r_R_0_8 : R 0 8 = 24) (c1 : xEv L xs d 59 0 [.ref 23, .int a] [] (124, I, J, R) (some (.int 1)) (124, I, J, R)) (c2 : xEv L xs d 64 0 [.ref 23, .int b] [] (124, I, J, R) (some (.int 1)) (124, I, J, R)) (c3 : xEv L xs d 64 0 [.ref 23, .int c] [] (124, I, J, R) (some (.int 0)) (124, I, J, R)) : xEv L xs (d + 1) 63 0 [.ref 0, .int a, .int b, .int c, .int t] [] (124, I, J, R) (some (.int (-2))) (124, I, J, R) := by
  refine ev_go 1 (pc1 := 1) (lv1 := [.ref 0, .int a, .int b, .int c, .int t]) (st1 := [.ref 0]) (h1 := (124, I, J, R)) rfl ?_
  refine ev_gf (c := 0) (t := 23) (X := R 0 8) rfl rfl (fun _ => rfl) rfl r_R_0_8 ?_
  refine ev_go 1 (pc1 := 5) (lv1 := [.ref 0, .int a, .int b, .int c, .int t]) (st1 := [.int a, .ref 23]) (h1 := (124, I, J, R)) rfl ?_
  refine ev_call (v1 := (some (.int 1))) (h1 := (124, I, J, R)) rfl rfl c1 ?_
  refine ev_go 2 (pc1 := 12) (lv1 := [.ref 0, .int a, .int b, .int c, .int t]) (st1 := [.ref 0]) (h1 := (124, I, J, R)) rfl ?_
  refine ev_gf (c := 0) (t := 23) (X := R 0 8) rfl rfl (fun _ => rfl) rfl r_R_0_8 ?_
  refine ev_go 1 (pc1 := 16) (lv1 := [.ref 0, .int a, .int b, .int c, .int t]) (st1 := [.int b, .ref 23]) (h1 := (124, I, J, R)) rfl ?_
  refine ev_call (v1 := (some (.int 1))) (h1 := (124, I, J, R)) rfl rfl c2 ?_
  refine ev_go 2 (pc1 := 23) (lv1 := [.ref 0, .int a, .int b, .int c, .int t]) (st1 := [.ref 0]) (h1 := (124, I, J, R)) rfl ?_
  refine ev_gf (c := 0) (t := 23) (X := R 0 8) rfl rfl (fun _ => rfl) rfl r_R_0_8 ?_
  refine ev_go 1 (pc1 := 27) (lv1 := [.ref 0, .int a, .int b, .int c, .int t]) (st1 := [.int c, .ref 23]) (h1 := (124, I, J, R)) rfl ?_
  refine ev_call (v1 := (some (.int 0))) (h1 := (124, I, J, R)) rfl rfl c3 ?_
  refine ev_go 2 (pc1 := 50) (lv1 := [.ref 0, .int a, .int b, .int c, .int t]) (st1 := [.int (-2)]) (h1 := (124, I, J, R)) rfl ?_
  exact ev_ret rfl rfl
set_option maxRecDepth 20000 in
theorem bc2_23 {L : Nat} {xs : Nat → Int32} {d : Nat} {I : Nat → Nat → Int32} {J : Nat → Nat → Int64} {R : Nat → Nat → Nat} {a b c t : Int32} (hG : aGd R) (r_R_0_8 : R 0 8 = 24) (c1 : xEv L xs d 59 0 [.ref 23, .int a] [] (124, I, J, R) (some (.int 1)) (124, I, J, R)) (c2 : xEv L xs d 64 0 [.ref 23, .int b] [] (124, I, J, R) (some (.int 1)) (124, I, J, R)) (c3 : xEv L xs d 64 0 [.ref 23, .int c] [] (124, I, J, R) (some (.int 0)) (124, I, J, R)) : xEv L xs (d + 1) 82 0 [.ref 0, .int a, .int b, .int c, .int t, xmk, xmk, xmk] [] (124, I, J, R) (some (.int (-2))) (124, I, J, R) := by
  refine ev_go 1 (pc1 := 1) (lv1 := [.ref 0, .int a, .int b, .int c, .int t, xmk, xmk, xmk]) (st1 := [.ref 0]) (h1 := (124, I, J, R)) rfl ?_
  refine ev_gf (c := 0) (t := 23) (X := R 0 8) rfl rfl (fun _ => rfl) rfl r_R_0_8 ?_
  refine ev_go 1 (pc1 := 5) (lv1 := [.ref 0, .int a, .int b, .int c, .int t, xmk, xmk, xmk]) (st1 := [.int a, .ref 23]) (h1 := (124, I, J, R)) rfl ?_
  refine ev_call (v1 := (some (.int 1))) (h1 := (124, I, J, R)) rfl rfl c1 ?_
  refine ev_go 2 (pc1 := 12) (lv1 := [.ref 0, .int a, .int b, .int c, .int t, xmk, xmk, xmk]) (st1 := [.ref 0]) (h1 := (124, I, J, R)) rfl ?_
  refine ev_gf (c := 0) (t := 23) (X := R 0 8) rfl rfl (fun _ => rfl) rfl r_R_0_8 ?_
  refine ev_go 1 (pc1 := 16) (lv1 := [.ref 0, .int a, .int b, .int c, .int t, xmk, xmk, xmk]) (st1 := [.int b, .ref 23]) (h1 := (124, I, J, R)) rfl ?_
  refine ev_call (v1 := (some (.int 1))) (h1 := (124, I, J, R)) rfl rfl c2 ?_
  refine ev_go 2 (pc1 := 23) (lv1 := [.ref 0, .int a, .int b, .int c, .int t, xmk, xmk, xmk]) (st1 := [.ref 0]) (h1 := (124, I, J, R)) rfl ?_
  refine ev_gf (c := 0) (t := 23) (X := R 0 8) rfl rfl (fun _ => rfl) rfl r_R_0_8 ?_
  refine ev_go 1 (pc1 := 27) (lv1 := [.ref 0, .int a, .int b, .int c, .int t, xmk, xmk, xmk]) (st1 := [.int c, .ref 23]) (h1 := (124, I, J, R)) rfl ?_
  refine ev_call (v1 := (some (.int 0))) (h1 := (124, I, J, R)) rfl rfl c3 ?_
  refine ev_go 2 (pc1 := 55) (lv1 := [.ref 0, .int a, .int b, .int c, .int t, xmk, xmk, xmk]) (st1 := [.int (-2)]) (h1 := (124, I, J, R)) rfl ?_
  exact ev_ret rfl rfl
set_option maxRecDepth 20000 in
theorem so3_23 {L : Nat} {xs : Nat → Int32} {d : Nat} {I : Nat → Nat → Int32} {J : Nat → Nat → Int64} {R : Nat → Nat → Nat} {a b c t : Int32} (hG : aGd R) (r_R_0_8 : R 0 8 = 24) (c1 : xEv L xs d 59 0 [.ref 23, .int a] [] (124, I, J, R) (some (.int 1)) (124, I, J, R)) (c2 : xEv L xs d 64 0 [.ref 23, .int b] [] (124, I, J, R) (some (.int 1)) (124, I, J, R)) (c3 : xEv L xs d 64 0 [.ref 23, .int c] [] (124, I, J, R) (some (.int 1)) (124, I, J, R)) (c4 : xEv L xs d 65 0 [.ref 37, .int t] [] (124, I, J, R) (some (.int 0)) (124, I, J, R)) : xEv L xs (d + 1) 63 0 [.ref 0, .int a, .int b, .int c, .int t] [] (124, I, J, R) (some (.int (-2))) (124, I, J, R) := by
  refine ev_go 1 (pc1 := 1) (lv1 := [.ref 0, .int a, .int b, .int c, .int t]) (st1 := [.ref 0]) (h1 := (124, I, J, R)) rfl ?_
  refine ev_gf (c := 0) (t := 23) (X := R 0 8) rfl rfl (fun _ => rfl) rfl r_R_0_8 ?_
  refine ev_go 1 (pc1 := 5) (lv1 := [.ref 0, .int a, .int b, .int c, .int t]) (st1 := [.int a, .ref 23]) (h1 := (124, I, J, R)) rfl ?_
  refine ev_call (v1 := (some (.int 1))) (h1 := (124, I, J, R)) rfl rfl c1 ?_
  refine ev_go 2 (pc1 := 12) (lv1 := [.ref 0, .int a, .int b, .int c, .int t]) (st1 := [.ref 0]) (h1 := (124, I, J, R)) rfl ?_
  refine ev_gf (c := 0) (t := 23) (X := R 0 8) rfl rfl (fun _ => rfl) rfl r_R_0_8 ?_
  refine ev_go 1 (pc1 := 16) (lv1 := [.ref 0, .int a, .int b, .int c, .int t]) (st1 := [.int b, .ref 23]) (h1 := (124, I, J, R)) rfl ?_
  refine ev_call (v1 := (some (.int 1))) (h1 := (124, I, J, R)) rfl rfl c2 ?_
  refine ev_go 2 (pc1 := 23) (lv1 := [.ref 0, .int a, .int b, .int c, .int t]) (st1 := [.ref 0]) (h1 := (124, I, J, R)) rfl ?_
  refine ev_gf (c := 0) (t := 23) (X := R 0 8) rfl rfl (fun _ => rfl) rfl r_R_0_8 ?_
  refine ev_go 1 (pc1 := 27) (lv1 := [.ref 0, .int a, .int b, .int c, .int t]) (st1 := [.int c, .ref 23]) (h1 := (124, I, J, R)) rfl ?_
  refine ev_call (v1 := (some (.int 1))) (h1 := (124, I, J, R)) rfl rfl c3 ?_
  refine ev_go 2 (pc1 := 34) (lv1 := [.ref 0, .int a, .int b, .int c, .int t]) (st1 := [.ref 0]) (h1 := (124, I, J, R)) rfl ?_
  refine ev_gf (c := 0) (t := 23) (X := R 0 8) rfl rfl (fun _ => rfl) rfl r_R_0_8 ?_
  refine ev_gf (c := 23) (t := 37) (X := R 23 13) rfl rfl (fun _ => rfl) rfl (hG 23 13 37 rfl rfl) ?_
  refine ev_go 1 (pc1 := 42) (lv1 := [.ref 0, .int a, .int b, .int c, .int t]) (st1 := [.int t, .ref 37]) (h1 := (124, I, J, R)) rfl ?_
  refine ev_call (v1 := (some (.int 0))) (h1 := (124, I, J, R)) rfl rfl c4 ?_
  refine ev_go 2 (pc1 := 50) (lv1 := [.ref 0, .int a, .int b, .int c, .int t]) (st1 := [.int (-2)]) (h1 := (124, I, J, R)) rfl ?_
  exact ev_ret rfl rfl
set_option maxRecDepth 20000 in
theorem bc3_23 {L : Nat} {xs : Nat → Int32} {d : Nat} {I : Nat → Nat → Int32} {J : Nat → Nat → Int64} {R : Nat → Nat → Nat} {a b c t : Int32} (hG : aGd R) (r_R_0_8 : R 0 8 = 24) (c1 : xEv L xs d 59 0 [.ref 23, .int a] [] (124, I, J, R) (some (.int 1)) (124, I, J, R)) (c2 : xEv L xs d 64 0 [.ref 23, .int b] [] (124, I, J, R) (some (.int 1)) (124, I, J, R)) (c3 : xEv L xs d 64 0 [.ref 23, .int c] [] (124, I, J, R) (some (.int 1)) (124, I, J, R)) (c4 : xEv L xs d 65 0 [.ref 37, .int t] [] (124, I, J, R) (some (.int 0)) (124, I, J, R)) : xEv L xs (d + 1) 82 0 [.ref 0, .int a, .int b, .int c, .int t, xmk, xmk, xmk] [] (124, I, J, R) (some (.int (-2))) (124, I, J, R) := by
  refine ev_go 1 (pc1 := 1) (lv1 := [.ref 0, .int a, .int b, .int c, .int t, xmk, xmk, xmk]) (st1 := [.ref 0]) (h1 := (124, I, J, R)) rfl ?_
  refine ev_gf (c := 0) (t := 23) (X := R 0 8) rfl rfl (fun _ => rfl) rfl r_R_0_8 ?_
  refine ev_go 1 (pc1 := 5) (lv1 := [.ref 0, .int a, .int b, .int c, .int t, xmk, xmk, xmk]) (st1 := [.int a, .ref 23]) (h1 := (124, I, J, R)) rfl ?_
  refine ev_call (v1 := (some (.int 1))) (h1 := (124, I, J, R)) rfl rfl c1 ?_
  refine ev_go 2 (pc1 := 12) (lv1 := [.ref 0, .int a, .int b, .int c, .int t, xmk, xmk, xmk]) (st1 := [.ref 0]) (h1 := (124, I, J, R)) rfl ?_
  refine ev_gf (c := 0) (t := 23) (X := R 0 8) rfl rfl (fun _ => rfl) rfl r_R_0_8 ?_
  refine ev_go 1 (pc1 := 16) (lv1 := [.ref 0, .int a, .int b, .int c, .int t, xmk, xmk, xmk]) (st1 := [.int b, .ref 23]) (h1 := (124, I, J, R)) rfl ?_
  refine ev_call (v1 := (some (.int 1))) (h1 := (124, I, J, R)) rfl rfl c2 ?_
  refine ev_go 2 (pc1 := 23) (lv1 := [.ref 0, .int a, .int b, .int c, .int t, xmk, xmk, xmk]) (st1 := [.ref 0]) (h1 := (124, I, J, R)) rfl ?_
  refine ev_gf (c := 0) (t := 23) (X := R 0 8) rfl rfl (fun _ => rfl) rfl r_R_0_8 ?_
  refine ev_go 1 (pc1 := 27) (lv1 := [.ref 0, .int a, .int b, .int c, .int t, xmk, xmk, xmk]) (st1 := [.int c, .ref 23]) (h1 := (124, I, J, R)) rfl ?_
  refine ev_call (v1 := (some (.int 1))) (h1 := (124, I, J, R)) rfl rfl c3 ?_
  refine ev_go 2 (pc1 := 34) (lv1 := [.ref 0, .int a, .int b, .int c, .int t, xmk, xmk, xmk]) (st1 := [.ref 0]) (h1 := (124, I, J, R)) rfl ?_
  refine ev_gf (c := 0) (t := 23) (X := R 0 8) rfl rfl (fun _ => rfl) rfl r_R_0_8 ?_
  refine ev_gf (c := 23) (t := 37) (X := R 23 13) rfl rfl (fun _ => rfl) rfl (hG 23 13 37 rfl rfl) ?_
  refine ev_go 1 (pc1 := 42) (lv1 := [.ref 0, .int a, .int b, .int c, .int t, xmk, xmk, xmk]) (st1 := [.int t, .ref 37]) (h1 := (124, I, J, R)) rfl ?_
  refine ev_call (v1 := (some (.int 0))) (h1 := (124, I, J, R)) rfl rfl c4 ?_
  refine ev_go 2 (pc1 := 55) (lv1 := [.ref 0, .int a, .int b, .int c, .int t, xmk, xmk, xmk]) (st1 := [.int (-2)]) (h1 := (124, I, J, R)) rfl ?_
  exact ev_ret rfl rfl
set_option maxRecDepth 20000 in
theorem soe_23 {L : Nat} {xs : Nat → Int32} {d : Nat} {I : Nat → Nat → Int32} {J : Nat → Nat → Int64} {R : Nat → Nat → Nat} {a b c t : Int32} (hG : aGd R) (r_R_0_8 : R 0 8 = 24) (c1 : xEv L xs d 59 0 [.ref 23, .int a] [] (124, I, J, R) (some (.int 1)) (124, I, J, R)) (c2 : xEv L xs d 64 0 [.ref 23, .int b] [] (124, I, J, R) (some (.int 1)) (124, I, J, R)) (c3 : xEv L xs d 64 0 [.ref 23, .int c] [] (124, I, J, R) (some (.int 1)) (124, I, J, R)) (c4 : xEv L xs d 65 0 [.ref 37, .int t] [] (124, I, J, R) (some (.int 1)) (124, I, J, R)) (b1 : b.toInt = c.toInt) : xEv L xs (d + 1) 63 0 [.ref 0, .int a, .int b, .int c, .int t] [] (124, I, J, R) (some (.int (-4))) (124, I, J, R) := by
  refine ev_go 1 (pc1 := 1) (lv1 := [.ref 0, .int a, .int b, .int c, .int t]) (st1 := [.ref 0]) (h1 := (124, I, J, R)) rfl ?_
  refine ev_gf (c := 0) (t := 23) (X := R 0 8) rfl rfl (fun _ => rfl) rfl r_R_0_8 ?_
  refine ev_go 1 (pc1 := 5) (lv1 := [.ref 0, .int a, .int b, .int c, .int t]) (st1 := [.int a, .ref 23]) (h1 := (124, I, J, R)) rfl ?_
  refine ev_call (v1 := (some (.int 1))) (h1 := (124, I, J, R)) rfl rfl c1 ?_
  refine ev_go 2 (pc1 := 12) (lv1 := [.ref 0, .int a, .int b, .int c, .int t]) (st1 := [.ref 0]) (h1 := (124, I, J, R)) rfl ?_
  refine ev_gf (c := 0) (t := 23) (X := R 0 8) rfl rfl (fun _ => rfl) rfl r_R_0_8 ?_
  refine ev_go 1 (pc1 := 16) (lv1 := [.ref 0, .int a, .int b, .int c, .int t]) (st1 := [.int b, .ref 23]) (h1 := (124, I, J, R)) rfl ?_
  refine ev_call (v1 := (some (.int 1))) (h1 := (124, I, J, R)) rfl rfl c2 ?_
  refine ev_go 2 (pc1 := 23) (lv1 := [.ref 0, .int a, .int b, .int c, .int t]) (st1 := [.ref 0]) (h1 := (124, I, J, R)) rfl ?_
  refine ev_gf (c := 0) (t := 23) (X := R 0 8) rfl rfl (fun _ => rfl) rfl r_R_0_8 ?_
  refine ev_go 1 (pc1 := 27) (lv1 := [.ref 0, .int a, .int b, .int c, .int t]) (st1 := [.int c, .ref 23]) (h1 := (124, I, J, R)) rfl ?_
  refine ev_call (v1 := (some (.int 1))) (h1 := (124, I, J, R)) rfl rfl c3 ?_
  refine ev_go 2 (pc1 := 34) (lv1 := [.ref 0, .int a, .int b, .int c, .int t]) (st1 := [.ref 0]) (h1 := (124, I, J, R)) rfl ?_
  refine ev_gf (c := 0) (t := 23) (X := R 0 8) rfl rfl (fun _ => rfl) rfl r_R_0_8 ?_
  refine ev_gf (c := 23) (t := 37) (X := R 23 13) rfl rfl (fun _ => rfl) rfl (hG 23 13 37 rfl rfl) ?_
  refine ev_go 1 (pc1 := 42) (lv1 := [.ref 0, .int a, .int b, .int c, .int t]) (st1 := [.int t, .ref 37]) (h1 := (124, I, J, R)) rfl ?_
  refine ev_call (v1 := (some (.int 1))) (h1 := (124, I, J, R)) rfl rfl c4 ?_
  refine ev_go 3 (pc1 := 53) (lv1 := [.ref 0, .int a, .int b, .int c, .int t]) (st1 := [.int c, .int b]) (h1 := (124, I, J, R)) rfl ?_
  refine ev_br (b1 := false) rfl rfl (xcd_nne (x := b) (y := c) (by first | exact b1 | omega)) ?_
  refine ev_go 1 (pc1 := 58) (lv1 := [.ref 0, .int a, .int b, .int c, .int t]) (st1 := [.int (-4)]) (h1 := (124, I, J, R)) rfl ?_
  exact ev_ret rfl rfl
set_option maxRecDepth 20000 in
theorem soz_23 {L : Nat} {xs : Nat → Int32} {d : Nat} {I : Nat → Nat → Int32} {J : Nat → Nat → Int64} {R : Nat → Nat → Nat} {a b c t u r : Int32} (hG : aGd R) (r_R_0_8 : R 0 8 = 24) (c1 : xEv L xs d 59 0 [.ref 23, .int a] [] (124, I, J, R) (some (.int 1)) (124, I, J, R)) (c2 : xEv L xs d 64 0 [.ref 23, .int b] [] (124, I, J, R) (some (.int 1)) (124, I, J, R)) (c3 : xEv L xs d 64 0 [.ref 23, .int c] [] (124, I, J, R) (some (.int 1)) (124, I, J, R)) (c4 : xEv L xs d 65 0 [.ref 37, .int t] [] (124, I, J, R) (some (.int 1)) (124, I, J, R)) (b1 : b.toInt ≠ c.toInt) (c5 : xEv L xs d 39 0 [.ref 35, .int a] [] (124, I, J, R) (some (.int u)) (124, I, J, R)) (c6 : xEv L xs d 66 0 [.ref 37, .int u, .int b, .int c, .int t, xmk, xmk, xmk] [] (124, I, J, R) (some (.int r)) (124, I, J, R)) : xEv L xs (d + 1) 63 0 [.ref 0, .int a, .int b, .int c, .int t] [] (124, I, J, R) (some (.int r)) (124, I, J, R) := by
  refine ev_go 1 (pc1 := 1) (lv1 := [.ref 0, .int a, .int b, .int c, .int t]) (st1 := [.ref 0]) (h1 := (124, I, J, R)) rfl ?_
  refine ev_gf (c := 0) (t := 23) (X := R 0 8) rfl rfl (fun _ => rfl) rfl r_R_0_8 ?_
  refine ev_go 1 (pc1 := 5) (lv1 := [.ref 0, .int a, .int b, .int c, .int t]) (st1 := [.int a, .ref 23]) (h1 := (124, I, J, R)) rfl ?_
  refine ev_call (v1 := (some (.int 1))) (h1 := (124, I, J, R)) rfl rfl c1 ?_
  refine ev_go 2 (pc1 := 12) (lv1 := [.ref 0, .int a, .int b, .int c, .int t]) (st1 := [.ref 0]) (h1 := (124, I, J, R)) rfl ?_
  refine ev_gf (c := 0) (t := 23) (X := R 0 8) rfl rfl (fun _ => rfl) rfl r_R_0_8 ?_
  refine ev_go 1 (pc1 := 16) (lv1 := [.ref 0, .int a, .int b, .int c, .int t]) (st1 := [.int b, .ref 23]) (h1 := (124, I, J, R)) rfl ?_
  refine ev_call (v1 := (some (.int 1))) (h1 := (124, I, J, R)) rfl rfl c2 ?_
  refine ev_go 2 (pc1 := 23) (lv1 := [.ref 0, .int a, .int b, .int c, .int t]) (st1 := [.ref 0]) (h1 := (124, I, J, R)) rfl ?_
  refine ev_gf (c := 0) (t := 23) (X := R 0 8) rfl rfl (fun _ => rfl) rfl r_R_0_8 ?_
  refine ev_go 1 (pc1 := 27) (lv1 := [.ref 0, .int a, .int b, .int c, .int t]) (st1 := [.int c, .ref 23]) (h1 := (124, I, J, R)) rfl ?_
  refine ev_call (v1 := (some (.int 1))) (h1 := (124, I, J, R)) rfl rfl c3 ?_
  refine ev_go 2 (pc1 := 34) (lv1 := [.ref 0, .int a, .int b, .int c, .int t]) (st1 := [.ref 0]) (h1 := (124, I, J, R)) rfl ?_
  refine ev_gf (c := 0) (t := 23) (X := R 0 8) rfl rfl (fun _ => rfl) rfl r_R_0_8 ?_
  refine ev_gf (c := 23) (t := 37) (X := R 23 13) rfl rfl (fun _ => rfl) rfl (hG 23 13 37 rfl rfl) ?_
  refine ev_go 1 (pc1 := 42) (lv1 := [.ref 0, .int a, .int b, .int c, .int t]) (st1 := [.int t, .ref 37]) (h1 := (124, I, J, R)) rfl ?_
  refine ev_call (v1 := (some (.int 1))) (h1 := (124, I, J, R)) rfl rfl c4 ?_
  refine ev_go 3 (pc1 := 53) (lv1 := [.ref 0, .int a, .int b, .int c, .int t]) (st1 := [.int c, .int b]) (h1 := (124, I, J, R)) rfl ?_
  refine ev_br (b1 := true) rfl rfl (xcd_ne (x := b) (y := c) (by first | exact b1 | omega)) ?_
  refine ev_go 1 (pc1 := 60) (lv1 := [.ref 0, .int a, .int b, .int c, .int t]) (st1 := [.ref 0]) (h1 := (124, I, J, R)) rfl ?_
  refine ev_gf (c := 0) (t := 23) (X := R 0 8) rfl rfl (fun _ => rfl) rfl r_R_0_8 ?_
  refine ev_gf (c := 23) (t := 37) (X := R 23 13) rfl rfl (fun _ => rfl) rfl (hG 23 13 37 rfl rfl) ?_
  refine ev_go 1 (pc1 := 67) (lv1 := [.ref 0, .int a, .int b, .int c, .int t]) (st1 := [.ref 0, .ref 37]) (h1 := (124, I, J, R)) rfl ?_
  refine ev_gf (c := 0) (t := 23) (X := R 0 8) rfl rfl (fun _ => rfl) rfl r_R_0_8 ?_
  refine ev_gf (c := 23) (t := 35) (X := R 23 11) rfl rfl (fun _ => rfl) rfl (hG 23 11 35 rfl rfl) ?_
  refine ev_go 1 (pc1 := 74) (lv1 := [.ref 0, .int a, .int b, .int c, .int t]) (st1 := [.int a, .ref 35, .ref 37]) (h1 := (124, I, J, R)) rfl ?_
  refine ev_call (v1 := (some (.int u))) (h1 := (124, I, J, R)) rfl rfl c5 ?_
  refine ev_go 3 (pc1 := 81) (lv1 := [.ref 0, .int a, .int b, .int c, .int t]) (st1 := [.int t, .int c, .int b, .int u, .ref 37]) (h1 := (124, I, J, R)) rfl ?_
  refine ev_call (v1 := (some (.int r))) (h1 := (124, I, J, R)) rfl rfl c6 ?_
  exact ev_ret rfl rfl
set_option maxRecDepth 20000 in
theorem bce_23 {L : Nat} {xs : Nat → Int32} {d : Nat} {I : Nat → Nat → Int32} {J : Nat → Nat → Int64} {R : Nat → Nat → Nat} {a b c t : Int32} (hG : aGd R) (r_R_0_8 : R 0 8 = 24) (c1 : xEv L xs d 59 0 [.ref 23, .int a] [] (124, I, J, R) (some (.int 1)) (124, I, J, R)) (c2 : xEv L xs d 64 0 [.ref 23, .int b] [] (124, I, J, R) (some (.int 1)) (124, I, J, R)) (c3 : xEv L xs d 64 0 [.ref 23, .int c] [] (124, I, J, R) (some (.int 1)) (124, I, J, R)) (c4 : xEv L xs d 65 0 [.ref 37, .int t] [] (124, I, J, R) (some (.int 1)) (124, I, J, R)) (b1 : b.toInt = c.toInt) : xEv L xs (d + 1) 82 0 [.ref 0, .int a, .int b, .int c, .int t, xmk, xmk, xmk] [] (124, I, J, R) (some (.int (-2))) (124, I, J, R) := by
  refine ev_go 1 (pc1 := 1) (lv1 := [.ref 0, .int a, .int b, .int c, .int t, xmk, xmk, xmk]) (st1 := [.ref 0]) (h1 := (124, I, J, R)) rfl ?_
  refine ev_gf (c := 0) (t := 23) (X := R 0 8) rfl rfl (fun _ => rfl) rfl r_R_0_8 ?_
  refine ev_go 1 (pc1 := 5) (lv1 := [.ref 0, .int a, .int b, .int c, .int t, xmk, xmk, xmk]) (st1 := [.int a, .ref 23]) (h1 := (124, I, J, R)) rfl ?_
  refine ev_call (v1 := (some (.int 1))) (h1 := (124, I, J, R)) rfl rfl c1 ?_
  refine ev_go 2 (pc1 := 12) (lv1 := [.ref 0, .int a, .int b, .int c, .int t, xmk, xmk, xmk]) (st1 := [.ref 0]) (h1 := (124, I, J, R)) rfl ?_
  refine ev_gf (c := 0) (t := 23) (X := R 0 8) rfl rfl (fun _ => rfl) rfl r_R_0_8 ?_
  refine ev_go 1 (pc1 := 16) (lv1 := [.ref 0, .int a, .int b, .int c, .int t, xmk, xmk, xmk]) (st1 := [.int b, .ref 23]) (h1 := (124, I, J, R)) rfl ?_
  refine ev_call (v1 := (some (.int 1))) (h1 := (124, I, J, R)) rfl rfl c2 ?_
  refine ev_go 2 (pc1 := 23) (lv1 := [.ref 0, .int a, .int b, .int c, .int t, xmk, xmk, xmk]) (st1 := [.ref 0]) (h1 := (124, I, J, R)) rfl ?_
  refine ev_gf (c := 0) (t := 23) (X := R 0 8) rfl rfl (fun _ => rfl) rfl r_R_0_8 ?_
  refine ev_go 1 (pc1 := 27) (lv1 := [.ref 0, .int a, .int b, .int c, .int t, xmk, xmk, xmk]) (st1 := [.int c, .ref 23]) (h1 := (124, I, J, R)) rfl ?_
  refine ev_call (v1 := (some (.int 1))) (h1 := (124, I, J, R)) rfl rfl c3 ?_
  refine ev_go 2 (pc1 := 34) (lv1 := [.ref 0, .int a, .int b, .int c, .int t, xmk, xmk, xmk]) (st1 := [.ref 0]) (h1 := (124, I, J, R)) rfl ?_
  refine ev_gf (c := 0) (t := 23) (X := R 0 8) rfl rfl (fun _ => rfl) rfl r_R_0_8 ?_
  refine ev_gf (c := 23) (t := 37) (X := R 23 13) rfl rfl (fun _ => rfl) rfl (hG 23 13 37 rfl rfl) ?_
  refine ev_go 1 (pc1 := 42) (lv1 := [.ref 0, .int a, .int b, .int c, .int t, xmk, xmk, xmk]) (st1 := [.int t, .ref 37]) (h1 := (124, I, J, R)) rfl ?_
  refine ev_call (v1 := (some (.int 1))) (h1 := (124, I, J, R)) rfl rfl c4 ?_
  refine ev_go 3 (pc1 := 50) (lv1 := [.ref 0, .int a, .int b, .int c, .int t, xmk, xmk, xmk]) (st1 := [.int c, .int b]) (h1 := (124, I, J, R)) rfl ?_
  refine ev_br (b1 := false) rfl rfl (xcd_nne (x := b) (y := c) (by first | exact b1 | omega)) ?_
  refine ev_go 1 (pc1 := 55) (lv1 := [.ref 0, .int a, .int b, .int c, .int t, xmk, xmk, xmk]) (st1 := [.int (-2)]) (h1 := (124, I, J, R)) rfl ?_
  exact ev_ret rfl rfl
set_option maxRecDepth 20000 in
theorem bcn_23 {L : Nat} {xs : Nat → Int32} {d : Nat} {I : Nat → Nat → Int32} {J : Nat → Nat → Int64} {R : Nat → Nat → Nat} {a b c t u r : Int32} (hG : aGd R) (r_R_0_8 : R 0 8 = 24) (c1 : xEv L xs d 59 0 [.ref 23, .int a] [] (124, I, J, R) (some (.int 1)) (124, I, J, R)) (c2 : xEv L xs d 64 0 [.ref 23, .int b] [] (124, I, J, R) (some (.int 1)) (124, I, J, R)) (c3 : xEv L xs d 64 0 [.ref 23, .int c] [] (124, I, J, R) (some (.int 1)) (124, I, J, R)) (c4 : xEv L xs d 65 0 [.ref 37, .int t] [] (124, I, J, R) (some (.int 1)) (124, I, J, R)) (b1 : b.toInt ≠ c.toInt) (c5 : xEv L xs d 39 0 [.ref 35, .int a] [] (124, I, J, R) (some (.int u)) (124, I, J, R)) (c6 : xEv L xs d 66 0 [.ref 37, .int u, .int b, .int c, .int t, xmk, xmk, xmk] [] (124, I, J, R) (some (.int r)) (124, I, J, R)) (b2 : r.toInt = -1) : xEv L xs (d + 1) 82 0 [.ref 0, .int a, .int b, .int c, .int t, xmk, xmk, xmk] [] (124, I, J, R) (some (.int 0)) (124, I, J, R) := by
  refine ev_go 1 (pc1 := 1) (lv1 := [.ref 0, .int a, .int b, .int c, .int t, xmk, xmk, xmk]) (st1 := [.ref 0]) (h1 := (124, I, J, R)) rfl ?_
  refine ev_gf (c := 0) (t := 23) (X := R 0 8) rfl rfl (fun _ => rfl) rfl r_R_0_8 ?_
  refine ev_go 1 (pc1 := 5) (lv1 := [.ref 0, .int a, .int b, .int c, .int t, xmk, xmk, xmk]) (st1 := [.int a, .ref 23]) (h1 := (124, I, J, R)) rfl ?_
  refine ev_call (v1 := (some (.int 1))) (h1 := (124, I, J, R)) rfl rfl c1 ?_
  refine ev_go 2 (pc1 := 12) (lv1 := [.ref 0, .int a, .int b, .int c, .int t, xmk, xmk, xmk]) (st1 := [.ref 0]) (h1 := (124, I, J, R)) rfl ?_
  refine ev_gf (c := 0) (t := 23) (X := R 0 8) rfl rfl (fun _ => rfl) rfl r_R_0_8 ?_
  refine ev_go 1 (pc1 := 16) (lv1 := [.ref 0, .int a, .int b, .int c, .int t, xmk, xmk, xmk]) (st1 := [.int b, .ref 23]) (h1 := (124, I, J, R)) rfl ?_
  refine ev_call (v1 := (some (.int 1))) (h1 := (124, I, J, R)) rfl rfl c2 ?_
  refine ev_go 2 (pc1 := 23) (lv1 := [.ref 0, .int a, .int b, .int c, .int t, xmk, xmk, xmk]) (st1 := [.ref 0]) (h1 := (124, I, J, R)) rfl ?_
  refine ev_gf (c := 0) (t := 23) (X := R 0 8) rfl rfl (fun _ => rfl) rfl r_R_0_8 ?_
  refine ev_go 1 (pc1 := 27) (lv1 := [.ref 0, .int a, .int b, .int c, .int t, xmk, xmk, xmk]) (st1 := [.int c, .ref 23]) (h1 := (124, I, J, R)) rfl ?_
  refine ev_call (v1 := (some (.int 1))) (h1 := (124, I, J, R)) rfl rfl c3 ?_
  refine ev_go 2 (pc1 := 34) (lv1 := [.ref 0, .int a, .int b, .int c, .int t, xmk, xmk, xmk]) (st1 := [.ref 0]) (h1 := (124, I, J, R)) rfl ?_
  refine ev_gf (c := 0) (t := 23) (X := R 0 8) rfl rfl (fun _ => rfl) rfl r_R_0_8 ?_
  refine ev_gf (c := 23) (t := 37) (X := R 23 13) rfl rfl (fun _ => rfl) rfl (hG 23 13 37 rfl rfl) ?_
  refine ev_go 1 (pc1 := 42) (lv1 := [.ref 0, .int a, .int b, .int c, .int t, xmk, xmk, xmk]) (st1 := [.int t, .ref 37]) (h1 := (124, I, J, R)) rfl ?_
  refine ev_call (v1 := (some (.int 1))) (h1 := (124, I, J, R)) rfl rfl c4 ?_
  refine ev_go 3 (pc1 := 50) (lv1 := [.ref 0, .int a, .int b, .int c, .int t, xmk, xmk, xmk]) (st1 := [.int c, .int b]) (h1 := (124, I, J, R)) rfl ?_
  refine ev_br (b1 := true) rfl rfl (xcd_ne (x := b) (y := c) (by first | exact b1 | omega)) ?_
  refine ev_go 1 (pc1 := 57) (lv1 := [.ref 0, .int a, .int b, .int c, .int t, xmk, xmk, xmk]) (st1 := [.ref 0]) (h1 := (124, I, J, R)) rfl ?_
  refine ev_gf (c := 0) (t := 23) (X := R 0 8) rfl rfl (fun _ => rfl) rfl r_R_0_8 ?_
  refine ev_gf (c := 23) (t := 35) (X := R 23 11) rfl rfl (fun _ => rfl) rfl (hG 23 11 35 rfl rfl) ?_
  refine ev_go 1 (pc1 := 64) (lv1 := [.ref 0, .int a, .int b, .int c, .int t, xmk, xmk, xmk]) (st1 := [.int a, .ref 35]) (h1 := (124, I, J, R)) rfl ?_
  refine ev_call (v1 := (some (.int u))) (h1 := (124, I, J, R)) rfl rfl c5 ?_
  refine ev_go 2 (pc1 := 70) (lv1 := [.ref 0, .int a, .int b, .int c, .int t, .int u, xmk, xmk]) (st1 := [.ref 0]) (h1 := (124, I, J, R)) rfl ?_
  refine ev_gf (c := 0) (t := 23) (X := R 0 8) rfl rfl (fun _ => rfl) rfl r_R_0_8 ?_
  refine ev_gf (c := 23) (t := 37) (X := R 23 13) rfl rfl (fun _ => rfl) rfl (hG 23 13 37 rfl rfl) ?_
  refine ev_go 4 (pc1 := 82) (lv1 := [.ref 0, .int a, .int b, .int c, .int t, .int u, xmk, xmk]) (st1 := [.int t, .int c, .int b, .int u, .ref 37]) (h1 := (124, I, J, R)) rfl ?_
  refine ev_call (v1 := (some (.int r))) (h1 := (124, I, J, R)) rfl rfl c6 ?_
  refine ev_go 1 (pc1 := 86) (lv1 := [.ref 0, .int a, .int b, .int c, .int t, .int u, xmk, xmk]) (st1 := [.int (-1), .int r]) (h1 := (124, I, J, R)) rfl ?_
  refine ev_br (b1 := false) rfl rfl (xcd_nne (x := r) (y := (-1)) (by rw [show ((-1 : Int32)).toInt = -1 from by decide]; first | exact b2 | omega)) ?_
  refine ev_go 1 (pc1 := 90) (lv1 := [.ref 0, .int a, .int b, .int c, .int t, .int u, xmk, xmk]) (st1 := [.int 0]) (h1 := (124, I, J, R)) rfl ?_
  exact ev_ret rfl rfl
set_option maxRecDepth 20000 in
theorem bcz_23 {L : Nat} {xs : Nat → Int32} {d : Nat} {I : Nat → Nat → Int32} {J : Nat → Nat → Int64} {R : Nat → Nat → Nat} {a b c t u r : Int32} (hG : aGd R) (r_R_0_8 : R 0 8 = 24) (c1 : xEv L xs d 59 0 [.ref 23, .int a] [] (124, I, J, R) (some (.int 1)) (124, I, J, R)) (c2 : xEv L xs d 64 0 [.ref 23, .int b] [] (124, I, J, R) (some (.int 1)) (124, I, J, R)) (c3 : xEv L xs d 64 0 [.ref 23, .int c] [] (124, I, J, R) (some (.int 1)) (124, I, J, R)) (c4 : xEv L xs d 65 0 [.ref 37, .int t] [] (124, I, J, R) (some (.int 1)) (124, I, J, R)) (b1 : b.toInt ≠ c.toInt) (c5 : xEv L xs d 39 0 [.ref 35, .int a] [] (124, I, J, R) (some (.int u)) (124, I, J, R)) (c6 : xEv L xs d 66 0 [.ref 37, .int u, .int b, .int c, .int t, xmk, xmk, xmk] [] (124, I, J, R) (some (.int r)) (124, I, J, R)) (b2 : r.toInt ≠ -1) {v : Option Value} {h' : xH} (hk : xEv L xs (d + 1) 82 97 [.ref 0, .int a, .int b, .int c, .int t, .int u, .int 0, .int 0] [] (124, I, J, R) v h') : xEv L xs (d + 1) 82 0 [.ref 0, .int a, .int b, .int c, .int t, xmk, xmk, xmk] [] (124, I, J, R) v h' := by
  refine ev_go 1 (pc1 := 1) (lv1 := [.ref 0, .int a, .int b, .int c, .int t, xmk, xmk, xmk]) (st1 := [.ref 0]) (h1 := (124, I, J, R)) rfl ?_
  refine ev_gf (c := 0) (t := 23) (X := R 0 8) rfl rfl (fun _ => rfl) rfl r_R_0_8 ?_
  refine ev_go 1 (pc1 := 5) (lv1 := [.ref 0, .int a, .int b, .int c, .int t, xmk, xmk, xmk]) (st1 := [.int a, .ref 23]) (h1 := (124, I, J, R)) rfl ?_
  refine ev_call (v1 := (some (.int 1))) (h1 := (124, I, J, R)) rfl rfl c1 ?_
  refine ev_go 2 (pc1 := 12) (lv1 := [.ref 0, .int a, .int b, .int c, .int t, xmk, xmk, xmk]) (st1 := [.ref 0]) (h1 := (124, I, J, R)) rfl ?_
  refine ev_gf (c := 0) (t := 23) (X := R 0 8) rfl rfl (fun _ => rfl) rfl r_R_0_8 ?_
  refine ev_go 1 (pc1 := 16) (lv1 := [.ref 0, .int a, .int b, .int c, .int t, xmk, xmk, xmk]) (st1 := [.int b, .ref 23]) (h1 := (124, I, J, R)) rfl ?_
  refine ev_call (v1 := (some (.int 1))) (h1 := (124, I, J, R)) rfl rfl c2 ?_
  refine ev_go 2 (pc1 := 23) (lv1 := [.ref 0, .int a, .int b, .int c, .int t, xmk, xmk, xmk]) (st1 := [.ref 0]) (h1 := (124, I, J, R)) rfl ?_
  refine ev_gf (c := 0) (t := 23) (X := R 0 8) rfl rfl (fun _ => rfl) rfl r_R_0_8 ?_
  refine ev_go 1 (pc1 := 27) (lv1 := [.ref 0, .int a, .int b, .int c, .int t, xmk, xmk, xmk]) (st1 := [.int c, .ref 23]) (h1 := (124, I, J, R)) rfl ?_
  refine ev_call (v1 := (some (.int 1))) (h1 := (124, I, J, R)) rfl rfl c3 ?_
  refine ev_go 2 (pc1 := 34) (lv1 := [.ref 0, .int a, .int b, .int c, .int t, xmk, xmk, xmk]) (st1 := [.ref 0]) (h1 := (124, I, J, R)) rfl ?_
  refine ev_gf (c := 0) (t := 23) (X := R 0 8) rfl rfl (fun _ => rfl) rfl r_R_0_8 ?_
  refine ev_gf (c := 23) (t := 37) (X := R 23 13) rfl rfl (fun _ => rfl) rfl (hG 23 13 37 rfl rfl) ?_
  refine ev_go 1 (pc1 := 42) (lv1 := [.ref 0, .int a, .int b, .int c, .int t, xmk, xmk, xmk]) (st1 := [.int t, .ref 37]) (h1 := (124, I, J, R)) rfl ?_
  refine ev_call (v1 := (some (.int 1))) (h1 := (124, I, J, R)) rfl rfl c4 ?_
  refine ev_go 3 (pc1 := 50) (lv1 := [.ref 0, .int a, .int b, .int c, .int t, xmk, xmk, xmk]) (st1 := [.int c, .int b]) (h1 := (124, I, J, R)) rfl ?_
  refine ev_br (b1 := true) rfl rfl (xcd_ne (x := b) (y := c) (by first | exact b1 | omega)) ?_
  refine ev_go 1 (pc1 := 57) (lv1 := [.ref 0, .int a, .int b, .int c, .int t, xmk, xmk, xmk]) (st1 := [.ref 0]) (h1 := (124, I, J, R)) rfl ?_
  refine ev_gf (c := 0) (t := 23) (X := R 0 8) rfl rfl (fun _ => rfl) rfl r_R_0_8 ?_
  refine ev_gf (c := 23) (t := 35) (X := R 23 11) rfl rfl (fun _ => rfl) rfl (hG 23 11 35 rfl rfl) ?_
  refine ev_go 1 (pc1 := 64) (lv1 := [.ref 0, .int a, .int b, .int c, .int t, xmk, xmk, xmk]) (st1 := [.int a, .ref 35]) (h1 := (124, I, J, R)) rfl ?_
  refine ev_call (v1 := (some (.int u))) (h1 := (124, I, J, R)) rfl rfl c5 ?_
  refine ev_go 2 (pc1 := 70) (lv1 := [.ref 0, .int a, .int b, .int c, .int t, .int u, xmk, xmk]) (st1 := [.ref 0]) (h1 := (124, I, J, R)) rfl ?_
  refine ev_gf (c := 0) (t := 23) (X := R 0 8) rfl rfl (fun _ => rfl) rfl r_R_0_8 ?_
  refine ev_gf (c := 23) (t := 37) (X := R 23 13) rfl rfl (fun _ => rfl) rfl (hG 23 13 37 rfl rfl) ?_
  refine ev_go 4 (pc1 := 82) (lv1 := [.ref 0, .int a, .int b, .int c, .int t, .int u, xmk, xmk]) (st1 := [.int t, .int c, .int b, .int u, .ref 37]) (h1 := (124, I, J, R)) rfl ?_
  refine ev_call (v1 := (some (.int r))) (h1 := (124, I, J, R)) rfl rfl c6 ?_
  refine ev_go 1 (pc1 := 86) (lv1 := [.ref 0, .int a, .int b, .int c, .int t, .int u, xmk, xmk]) (st1 := [.int (-1), .int r]) (h1 := (124, I, J, R)) rfl ?_
  refine ev_br (b1 := true) rfl rfl (xcd_ne (x := r) (y := (-1)) (by rw [show ((-1 : Int32)).toInt = -1 from by decide]; first | exact b2 | omega)) ?_
  refine ev_go 4 (pc1 := 97) (lv1 := [.ref 0, .int a, .int b, .int c, .int t, .int u, .int 0, .int 0]) (st1 := []) (h1 := (124, I, J, R)) rfl ?_
  exact hk
set_option maxRecDepth 20000 in
theorem bcE_23 {L : Nat} {xs : Nat → Int32} {d : Nat} {I : Nat → Nat → Int32} {J : Nat → Nat → Int64} {R : Nat → Nat → Nat} {a b c t u y p : Int32} (hG : aGd R) (r_R_0_8 : R 0 8 = 24) (b1 : p.toInt ≥ (I 23 14).toInt) : xEv L xs d 82 97 [.ref 0, .int a, .int b, .int c, .int t, .int u, .int y, .int p] [] (124, I, J, R) (some (.int y)) (124, I, J, R) := by
  refine ev_go 2 (pc1 := 100) (lv1 := [.ref 0, .int a, .int b, .int c, .int t, .int u, .int y, .int p]) (st1 := [.ref 0, .int p]) (h1 := (124, I, J, R)) rfl ?_
  refine ev_gf (c := 0) (t := 23) (X := R 0 8) rfl rfl (fun _ => rfl) rfl r_R_0_8 ?_
  refine ev_go 1 (pc1 := 106) (lv1 := [.ref 0, .int a, .int b, .int c, .int t, .int u, .int y, .int p]) (st1 := [.int (I 23 14), .int p]) (h1 := (124, I, J, R)) rfl ?_
  refine ev_br (b1 := true) rfl rfl (xcd_ge (x := p) (y := (I 23 14)) (by first | exact b1 | omega)) ?_
  refine ev_go 1 (pc1 := 163) (lv1 := [.ref 0, .int a, .int b, .int c, .int t, .int u, .int y, .int p]) (st1 := [.int y]) (h1 := (124, I, J, R)) rfl ?_
  exact ev_ret rfl rfl
set_option maxRecDepth 20000 in
theorem bcB_23 {L : Nat} {xs : Nat → Int32} {d : Nat} {I : Nat → Nat → Int32} {J : Nat → Nat → Int64} {R : Nat → Nat → Nat} {a b c t u y p : Int32} (hG : aGd R) (r_R_0_8 : R 0 8 = 24) (b1 : p.toInt < (I 23 14).toInt) (b2 : p.toInt = b.toInt) {v : Option Value} {h' : xH} (hk : xEv L xs d 82 97 [.ref 0, .int a, .int b, .int c, .int t, .int u, .int y, .int (p + 1)] [] (124, I, J, R) v h') : xEv L xs d 82 97 [.ref 0, .int a, .int b, .int c, .int t, .int u, .int y, .int p] [] (124, I, J, R) v h' := by
  refine ev_go 2 (pc1 := 100) (lv1 := [.ref 0, .int a, .int b, .int c, .int t, .int u, .int y, .int p]) (st1 := [.ref 0, .int p]) (h1 := (124, I, J, R)) rfl ?_
  refine ev_gf (c := 0) (t := 23) (X := R 0 8) rfl rfl (fun _ => rfl) rfl r_R_0_8 ?_
  refine ev_go 1 (pc1 := 106) (lv1 := [.ref 0, .int a, .int b, .int c, .int t, .int u, .int y, .int p]) (st1 := [.int (I 23 14), .int p]) (h1 := (124, I, J, R)) rfl ?_
  refine ev_br (b1 := false) rfl rfl (xcd_nge (x := p) (y := (I 23 14)) (by first | exact b1 | omega)) ?_
  refine ev_go 2 (pc1 := 112) (lv1 := [.ref 0, .int a, .int b, .int c, .int t, .int u, .int y, .int p]) (st1 := [.int b, .int p]) (h1 := (124, I, J, R)) rfl ?_
  refine ev_br (b1 := true) rfl rfl (xcd_eq (x := p) (y := b) (by first | exact b2 | omega)) ?_
  refine ev_go 2 (pc1 := 97) (lv1 := [.ref 0, .int a, .int b, .int c, .int t, .int u, .int y, .int (p + 1)]) (st1 := []) (h1 := (124, I, J, R)) rfl ?_
  exact hk
set_option maxRecDepth 20000 in
theorem bcC_23 {L : Nat} {xs : Nat → Int32} {d : Nat} {I : Nat → Nat → Int32} {J : Nat → Nat → Int64} {R : Nat → Nat → Nat} {a b c t u y p : Int32} (hG : aGd R) (r_R_0_8 : R 0 8 = 24) (b1 : p.toInt < (I 23 14).toInt) (b2 : p.toInt ≠ b.toInt) (b3 : p.toInt = c.toInt) {v : Option Value} {h' : xH} (hk : xEv L xs d 82 97 [.ref 0, .int a, .int b, .int c, .int t, .int u, .int y, .int (p + 1)] [] (124, I, J, R) v h') : xEv L xs d 82 97 [.ref 0, .int a, .int b, .int c, .int t, .int u, .int y, .int p] [] (124, I, J, R) v h' := by
  refine ev_go 2 (pc1 := 100) (lv1 := [.ref 0, .int a, .int b, .int c, .int t, .int u, .int y, .int p]) (st1 := [.ref 0, .int p]) (h1 := (124, I, J, R)) rfl ?_
  refine ev_gf (c := 0) (t := 23) (X := R 0 8) rfl rfl (fun _ => rfl) rfl r_R_0_8 ?_
  refine ev_go 1 (pc1 := 106) (lv1 := [.ref 0, .int a, .int b, .int c, .int t, .int u, .int y, .int p]) (st1 := [.int (I 23 14), .int p]) (h1 := (124, I, J, R)) rfl ?_
  refine ev_br (b1 := false) rfl rfl (xcd_nge (x := p) (y := (I 23 14)) (by first | exact b1 | omega)) ?_
  refine ev_go 2 (pc1 := 112) (lv1 := [.ref 0, .int a, .int b, .int c, .int t, .int u, .int y, .int p]) (st1 := [.int b, .int p]) (h1 := (124, I, J, R)) rfl ?_
  refine ev_br (b1 := false) rfl rfl (xcd_neq (x := p) (y := b) (by first | exact b2 | omega)) ?_
  refine ev_go 2 (pc1 := 118) (lv1 := [.ref 0, .int a, .int b, .int c, .int t, .int u, .int y, .int p]) (st1 := [.int c, .int p]) (h1 := (124, I, J, R)) rfl ?_
  refine ev_br (b1 := true) rfl rfl (xcd_eq (x := p) (y := c) (by first | exact b3 | omega)) ?_
  refine ev_go 2 (pc1 := 97) (lv1 := [.ref 0, .int a, .int b, .int c, .int t, .int u, .int y, .int (p + 1)]) (st1 := []) (h1 := (124, I, J, R)) rfl ?_
  exact hk
set_option maxRecDepth 20000 in
theorem bcN_23 {L : Nat} {xs : Nat → Int32} {d : Nat} {I : Nat → Nat → Int32} {J : Nat → Nat → Int64} {R : Nat → Nat → Nat} {a b c t u y p r : Int32} (hG : aGd R) (r_R_0_8 : R 0 8 = 24) (b1 : p.toInt < (I 23 14).toInt) (b2 : p.toInt ≠ b.toInt) (b3 : p.toInt ≠ c.toInt) (c1 : xEv L xs d 66 0 [.ref 37, .int (u ||| (1 <<< (p &&& 31))), .int b, .int c, .int t, xmk, xmk, xmk] [] (124, I, J, R) (some (.int r)) (124, I, J, R)) (b4 : r.toInt ≠ -1) {v : Option Value} {h' : xH} (hk : xEv L xs (d + 1) 82 97 [.ref 0, .int a, .int b, .int c, .int t, .int u, .int y, .int (p + 1)] [] (124, I, J, R) v h') : xEv L xs (d + 1) 82 97 [.ref 0, .int a, .int b, .int c, .int t, .int u, .int y, .int p] [] (124, I, J, R) v h' := by
  refine ev_go 2 (pc1 := 100) (lv1 := [.ref 0, .int a, .int b, .int c, .int t, .int u, .int y, .int p]) (st1 := [.ref 0, .int p]) (h1 := (124, I, J, R)) rfl ?_
  refine ev_gf (c := 0) (t := 23) (X := R 0 8) rfl rfl (fun _ => rfl) rfl r_R_0_8 ?_
  refine ev_go 1 (pc1 := 106) (lv1 := [.ref 0, .int a, .int b, .int c, .int t, .int u, .int y, .int p]) (st1 := [.int (I 23 14), .int p]) (h1 := (124, I, J, R)) rfl ?_
  refine ev_br (b1 := false) rfl rfl (xcd_nge (x := p) (y := (I 23 14)) (by first | exact b1 | omega)) ?_
  refine ev_go 2 (pc1 := 112) (lv1 := [.ref 0, .int a, .int b, .int c, .int t, .int u, .int y, .int p]) (st1 := [.int b, .int p]) (h1 := (124, I, J, R)) rfl ?_
  refine ev_br (b1 := false) rfl rfl (xcd_neq (x := p) (y := b) (by first | exact b2 | omega)) ?_
  refine ev_go 2 (pc1 := 118) (lv1 := [.ref 0, .int a, .int b, .int c, .int t, .int u, .int y, .int p]) (st1 := [.int c, .int p]) (h1 := (124, I, J, R)) rfl ?_
  refine ev_br (b1 := false) rfl rfl (xcd_neq (x := p) (y := c) (by first | exact b3 | omega)) ?_
  refine ev_go 1 (pc1 := 122) (lv1 := [.ref 0, .int a, .int b, .int c, .int t, .int u, .int y, .int p]) (st1 := [.ref 0]) (h1 := (124, I, J, R)) rfl ?_
  refine ev_gf (c := 0) (t := 23) (X := R 0 8) rfl rfl (fun _ => rfl) rfl r_R_0_8 ?_
  refine ev_gf (c := 23) (t := 37) (X := R 23 13) rfl rfl (fun _ => rfl) rfl (hG 23 13 37 rfl rfl) ?_
  refine ev_go 3 (pc1 := 133) (lv1 := [.ref 0, .int a, .int b, .int c, .int t, .int u, .int y, .int p]) (st1 := [.int p, .int 1, .int u, .ref 37]) (h1 := (124, I, J, R)) rfl ?_
  refine ev_go 5 (pc1 := 139) (lv1 := [.ref 0, .int a, .int b, .int c, .int t, .int u, .int y, .int p]) (st1 := [.int t, .int c, .int b, .int (u ||| (1 <<< (p &&& 31))), .ref 37]) (h1 := (124, I, J, R)) rfl ?_
  refine ev_call (v1 := (some (.int r))) (h1 := (124, I, J, R)) rfl rfl c1 ?_
  refine ev_go 1 (pc1 := 143) (lv1 := [.ref 0, .int a, .int b, .int c, .int t, .int u, .int y, .int p]) (st1 := [.int (-1), .int r]) (h1 := (124, I, J, R)) rfl ?_
  refine ev_br (b1 := true) rfl rfl (xcd_ne (x := r) (y := (-1)) (by rw [show ((-1 : Int32)).toInt = -1 from by decide]; first | exact b4 | omega)) ?_
  refine ev_go 2 (pc1 := 97) (lv1 := [.ref 0, .int a, .int b, .int c, .int t, .int u, .int y, .int (p + 1)]) (st1 := []) (h1 := (124, I, J, R)) rfl ?_
  exact hk
set_option maxRecDepth 20000 in
theorem bcS_23 {L : Nat} {xs : Nat → Int32} {d : Nat} {I : Nat → Nat → Int32} {J : Nat → Nat → Int64} {R : Nat → Nat → Nat} {a b c t u y p r : Int32} (hG : aGd R) (r_R_0_8 : R 0 8 = 24) (b1 : p.toInt < (I 23 14).toInt) (b2 : p.toInt ≠ b.toInt) (b3 : p.toInt ≠ c.toInt) (c1 : xEv L xs d 66 0 [.ref 37, .int (u ||| (1 <<< (p &&& 31))), .int b, .int c, .int t, xmk, xmk, xmk] [] (124, I, J, R) (some (.int r)) (124, I, J, R)) (b4 : r.toInt = -1) {v : Option Value} {h' : xH} (hk : xEv L xs (d + 1) 82 97 [.ref 0, .int a, .int b, .int c, .int t, .int u, .int (y ||| (1 <<< (p &&& 31))), .int (p + 1)] [] (124, I, J, R) v h') : xEv L xs (d + 1) 82 97 [.ref 0, .int a, .int b, .int c, .int t, .int u, .int y, .int p] [] (124, I, J, R) v h' := by
  refine ev_go 2 (pc1 := 100) (lv1 := [.ref 0, .int a, .int b, .int c, .int t, .int u, .int y, .int p]) (st1 := [.ref 0, .int p]) (h1 := (124, I, J, R)) rfl ?_
  refine ev_gf (c := 0) (t := 23) (X := R 0 8) rfl rfl (fun _ => rfl) rfl r_R_0_8 ?_
  refine ev_go 1 (pc1 := 106) (lv1 := [.ref 0, .int a, .int b, .int c, .int t, .int u, .int y, .int p]) (st1 := [.int (I 23 14), .int p]) (h1 := (124, I, J, R)) rfl ?_
  refine ev_br (b1 := false) rfl rfl (xcd_nge (x := p) (y := (I 23 14)) (by first | exact b1 | omega)) ?_
  refine ev_go 2 (pc1 := 112) (lv1 := [.ref 0, .int a, .int b, .int c, .int t, .int u, .int y, .int p]) (st1 := [.int b, .int p]) (h1 := (124, I, J, R)) rfl ?_
  refine ev_br (b1 := false) rfl rfl (xcd_neq (x := p) (y := b) (by first | exact b2 | omega)) ?_
  refine ev_go 2 (pc1 := 118) (lv1 := [.ref 0, .int a, .int b, .int c, .int t, .int u, .int y, .int p]) (st1 := [.int c, .int p]) (h1 := (124, I, J, R)) rfl ?_
  refine ev_br (b1 := false) rfl rfl (xcd_neq (x := p) (y := c) (by first | exact b3 | omega)) ?_
  refine ev_go 1 (pc1 := 122) (lv1 := [.ref 0, .int a, .int b, .int c, .int t, .int u, .int y, .int p]) (st1 := [.ref 0]) (h1 := (124, I, J, R)) rfl ?_
  refine ev_gf (c := 0) (t := 23) (X := R 0 8) rfl rfl (fun _ => rfl) rfl r_R_0_8 ?_
  refine ev_gf (c := 23) (t := 37) (X := R 23 13) rfl rfl (fun _ => rfl) rfl (hG 23 13 37 rfl rfl) ?_
  refine ev_go 3 (pc1 := 133) (lv1 := [.ref 0, .int a, .int b, .int c, .int t, .int u, .int y, .int p]) (st1 := [.int p, .int 1, .int u, .ref 37]) (h1 := (124, I, J, R)) rfl ?_
  refine ev_go 5 (pc1 := 139) (lv1 := [.ref 0, .int a, .int b, .int c, .int t, .int u, .int y, .int p]) (st1 := [.int t, .int c, .int b, .int (u ||| (1 <<< (p &&& 31))), .ref 37]) (h1 := (124, I, J, R)) rfl ?_
  refine ev_call (v1 := (some (.int r))) (h1 := (124, I, J, R)) rfl rfl c1 ?_
  refine ev_go 1 (pc1 := 143) (lv1 := [.ref 0, .int a, .int b, .int c, .int t, .int u, .int y, .int p]) (st1 := [.int (-1), .int r]) (h1 := (124, I, J, R)) rfl ?_
  refine ev_br (b1 := false) rfl rfl (xcd_nne (x := r) (y := (-1)) (by rw [show ((-1 : Int32)).toInt = -1 from by decide]; first | exact b4 | omega)) ?_
  refine ev_go 3 (pc1 := 151) (lv1 := [.ref 0, .int a, .int b, .int c, .int t, .int u, .int y, .int p]) (st1 := [.int p, .int 1, .int y]) (h1 := (124, I, J, R)) rfl ?_
  refine ev_go 5 (pc1 := 97) (lv1 := [.ref 0, .int a, .int b, .int c, .int t, .int u, .int (y ||| (1 <<< (p &&& 31))), .int (p + 1)]) (st1 := []) (h1 := (124, I, J, R)) rfl ?_
  exact hk
/-- the way's arguments in both, with the bars of the news -/
theorem wyc_23 {L : Nat} {xs : Nat → Int32} {d : Nat} {I : Nat → Nat → Int32} {J : Nat → Nat → Int64} {R : Nat → Nat → Nat} {d' : Nat} (hG : aGd R) (h8 : R 0 8 = 24) {np nm nn : Nat} {l : List (Nat × Nat)} (hV : VR_23 np nm nn l I I) (a b c t : Int32) :
    (¬ ((0 ≤ a.toInt ∧ a.toInt < nn) ∧ (0 ≤ b.toInt ∧ b.toInt < np) ∧ (0 ≤ c.toInt ∧ c.toInt < np) ∧ (0 ≤ t.toInt ∧ t.toInt ≤ l.length)) ∧ xEv L xs (d + 1) 63 0 [.ref 0, .int a, .int b, .int c, .int t] [] (124, I, J, R) (some (.int (-2))) (124, I, J, R) ∧ xEv L xs (d + 1) 82 0 [.ref 0, .int a, .int b, .int c, .int t, xmk, xmk, xmk] [] (124, I, J, R) (some (.int (-2))) (124, I, J, R) ∧ xEv L xs (d' + 2) 183 0 [.ref 86, .int a, .int b, .int c, .int t] [] (124, I, J, R) (some (.int 0)) (124, I, J, R)) ∨
    (((0 ≤ a.toInt ∧ a.toInt < nn) ∧ (0 ≤ b.toInt ∧ b.toInt < np) ∧ (0 ≤ c.toInt ∧ c.toInt < np) ∧ (0 ≤ t.toInt ∧ t.toInt ≤ l.length)) ∧ xEv L xs d 59 0 [.ref 23, .int a] [] (124, I, J, R) (some (.int 1)) (124, I, J, R) ∧ xEv L xs d 64 0 [.ref 23, .int b] [] (124, I, J, R) (some (.int 1)) (124, I, J, R) ∧ xEv L xs d 64 0 [.ref 23, .int c] [] (124, I, J, R) (some (.int 1)) (124, I, J, R) ∧ xEv L xs d 65 0 [.ref 37, .int t] [] (124, I, J, R) (some (.int 1)) (124, I, J, R) ∧ xEv L xs (d' + 2) 183 0 [.ref 86, .int a, .int b, .int c, .int t] [] (124, I, J, R) (some (.int 1)) (124, I, J, R) ∧ xEv L xs d 39 0 [.ref 35, .int a] [] (124, I, J, R) (some (.int (I 100 a.toNatClampNeg))) (124, I, J, R)) := by
  obtain ⟨⟨p1, p2, p3⟩, p4, p5, p6, ⟨q1, q2⟩, ⟨q3, q4⟩, ⟨q5, q6⟩, q7, q8, q9, ⟨q10, q11⟩, q12, q13, q14, q15, -⟩ := hV
  have w := wy_run (L := L) (xs := xs) (d := d') (I := I) (J := J) hG q2 q6 q11 a b c t
  rcases hn_run_23 (L := L) (xs := xs) (d := d) (I := I) (J := J) hG q5 a with ⟨ha, xa⟩ | ⟨ha, xa⟩
  rotate_left
  · exact Or.inl ⟨fun z => ha z.1, so0_23 hG h8 xa, bc0_23 hG h8 xa, (w.resolve_left (fun z => ha z.1.1)).2⟩
  rcases hp_run_23 (L := L) (xs := xs) (d := d) (I := I) (J := J) hG q1 b with ⟨hb, xb⟩ | ⟨hb, xb⟩
  rotate_left
  · exact Or.inl ⟨fun z => hb z.2.1, so1_23 hG h8 xa xb, bc1_23 hG h8 xa xb, (w.resolve_left (fun z => hb z.1.2.1)).2⟩
  rcases hp_run_23 (L := L) (xs := xs) (d := d) (I := I) (J := J) hG q1 c with ⟨hc, xc⟩ | ⟨hc, xc⟩
  rotate_left
  · exact Or.inl ⟨fun z => hc z.2.2.1, so2_23 hG h8 xa xb xc, bc2_23 hG h8 xa xb xc, (w.resolve_left (fun z => hc z.1.2.2.1)).2⟩
  rcases hm_run_23 (L := L) (xs := xs) (d := d) (I := I) (J := J) hG q10 t with ⟨ht, xt⟩ | ⟨ht, xt⟩
  rotate_left
  · exact Or.inl ⟨fun z => ht z.2.2.2, so3_23 hG h8 xa xb xc xt, bc3_23 hG h8 xa xb xc xt, (w.resolve_left (fun z => ht z.1.2.2.2)).2⟩
  have ec := clamp_s (i := a) (by omega)
  have h4 := at_run (L := L) (xs := xs) (d := d) (h := (124, I, J, R)) (c := 35) (n := 4) (fun _ => rfl) (by decide) a
  rw [if_pos ⟨by omega, by omega⟩, show ((124, I, J, R) : xH).2.1 35 a.toNatClampNeg = I 100 a.toNatClampNeg from (q9 _ (by omega)).2.2.2.2.1] at h4
  exact Or.inr ⟨⟨ha, hb, hc, ht⟩, xa, xb, xc, xt, (w.resolve_right (fun z => z.1 ⟨ha, hb, hc, ht⟩)).2, h4⟩
theorem son_23 {L : Nat} {xs : Nat → Int32} {d : Nat} {I : Nat → Nat → Int32} {J : Nat → Nat → Int64} {R : Nat → Nat → Nat} {d' : Nat} (hG : aGd R) (h8 : R 0 8 = 24) {np nm nn : Nat} {l : List (Nat × Nat)} (hV : VR_23 np nm nn l I I) (a b c t : Int32) : ∃ r : Int32, xEv L xs (d + 3) 63 0 [.ref 0, .int a, .int b, .int c, .int t] [] (124, I, J, R) (some (.int r)) (124, I, J, R) ∧ xEv L xs (d' + 3) 182 0 [.ref 86, .int a, .int b, .int c, .int t, xmk] [] (124, I, J, R) (some (.int r)) (124, I, J, R) := by
  rcases wyc_23 (L := L) (xs := xs) (d := d + 2) (d' := d') (J := J) hG h8 hV a b c t with ⟨-, x1, -, x2⟩ | ⟨⟨ha, hb, hc, ht⟩, xa, xb, xc, xt, xw, x4⟩
  · exact ⟨-2, x1, sn_x hG x2⟩
  by_cases h : b.toInt = c.toInt
  · exact ⟨-4, soe_23 hG h8 xa xb xc xt h, sn_y hG xw h⟩
  have p3 := hV.1.2.2
  have q11 : (I 86 26).toInt = l.length := hV.2.2.2.2.2.2.2.2.2.2.1.2
  obtain ⟨r, y1, y2, y3⟩ := soo_23 (L := L) (xs := xs) (d := d) (d' := d' + 1) (J := J) hG hV (b := I 100 a.toNatClampNeg) hb hc ht h
  refine ⟨r, soz_23 hG h8 xa xb xc xt h x4 y1, ?_⟩
  by_cases g : r = -1
  · rw [if_pos g] at y2
    rw [g]
    exact sn_0 hG xw h (by omega) (by omega) y2 rfl
  · rw [if_neg g] at y2
    exact sn_1 hG xw h (by omega) (by omega) y2 (by rcases y3 with y3 | y3; exact absurd y3 g; omega)
theorem brl_23 {L : Nat} {xs : Nat → Int32} {d : Nat} {I : Nat → Nat → Int32} {J : Nat → Nat → Int64} {R : Nat → Nat → Nat} {d' : Nat} (hG : aGd R) (h8 : R 0 8 = 24) {np nm nn : Nat} {l : List (Nat × Nat)} (hV : VR_23 np nm nn l I I) {a b c t : Int32} (ha : 0 ≤ a.toInt ∧ a.toInt < nn) (hb : 0 ≤ b.toInt ∧ b.toInt < np) (hc : 0 ≤ c.toInt ∧ c.toInt < np) (ht : 0 ≤ t.toInt ∧ t.toInt ≤ l.length) (hne : b.toInt ≠ c.toInt) : ∀ (f n : Nat) (y q : Int32), n + f = np → q.toInt = n →
    ∃ r : Int32, xEv L xs (d + 3) 82 97 [.ref 0, .int a, .int b, .int c, .int t, .int (I 100 a.toNatClampNeg), .int y, .int q] [] (124, I, J, R) (some (.int r)) (124, I, J, R) ∧ xEv L xs (d' + 2) 187 49 [.ref 86, .int a, .int b, .int c, .int t, .int y, .int q] [] (124, I, J, R) (some (.int r)) (124, I, J, R) := by
  have p1 := hV.1.1
  have p3 := hV.1.2.2
  have q1 : (I 23 14).toInt = np := hV.2.2.2.2.1.1
  have q2 : (I 88 0).toInt = np := hV.2.2.2.2.1.2
  have q11 : (I 86 26).toInt = l.length := hV.2.2.2.2.2.2.2.2.2.2.1.2
  intro f
  induction f with
  | zero =>
    intro n y q hn hq
    exact ⟨y, bcE_23 hG h8 (by omega), bq_e hG (by omega)⟩
  | succ f ih =>
    intro n y q hn hq
    have hq' : (q + 1).toInt = (n + 1 : Nat) := by rw [i_add1 (by omega)]; omega
    by_cases g1 : q.toInt = b.toInt
    · obtain ⟨r, x1, x2⟩ := ih (n + 1) y (q + 1) (by omega) hq'
      exact ⟨r, bcB_23 hG h8 (by omega) g1 x1, bq_b hG (by omega) g1 x2⟩
    by_cases g2 : q.toInt = c.toInt
    · obtain ⟨r, x1, x2⟩ := ih (n + 1) y (q + 1) (by omega) hq'
      exact ⟨r, bcC_23 hG h8 (by omega) g1 g2 x1, bq_c hG (by omega) g1 g2 x2⟩
    obtain ⟨r, y1, y2, y3⟩ := soo_23 (L := L) (xs := xs) (d := d) (d' := d') (J := J) hG hV (b := I 100 a.toNatClampNeg ||| (1 <<< (q &&& 31))) hb hc ht hne
    by_cases g : r = -1
    · rw [if_pos g] at y2
      obtain ⟨r', x1, x2⟩ := ih (n + 1) (y ||| (1 <<< (q &&& 31))) (q + 1) (by omega) hq'
      exact ⟨r', bcS_23 hG h8 (by omega) g1 g2 y1 (by rw [g]; decide) x1, bq_s hG (by omega) g1 g2 (by omega) (by omega) y2 rfl x2⟩
    · rw [if_neg g] at y2
      obtain ⟨r', x1, x2⟩ := ih (n + 1) y (q + 1) (by omega) hq'
      have g' : r.toInt ≠ -1 := by rcases y3 with y3 | y3; exact absurd y3 g; omega
      exact ⟨r', bcN_23 hG h8 (by omega) g1 g2 y1 g' x1, bq_n hG (by omega) g1 g2 (by omega) (by omega) y2 (by rcases y3 with y3 | y3; exact absurd y3 g; omega) x2⟩
theorem bas_23 {L : Nat} {xs : Nat → Int32} {d : Nat} {I : Nat → Nat → Int32} {J : Nat → Nat → Int64} {R : Nat → Nat → Nat} {d' : Nat} (hG : aGd R) (h8 : R 0 8 = 24) {np nm nn : Nat} {l : List (Nat × Nat)} (hV : VR_23 np nm nn l I I) (a b c t : Int32) : ∃ r : Int32, xEv L xs (d + 3) 82 0 [.ref 0, .int a, .int b, .int c, .int t, xmk, xmk, xmk] [] (124, I, J, R) (some (.int r)) (124, I, J, R) ∧ xEv L xs (d' + 3) 187 0 [.ref 86, .int a, .int b, .int c, .int t, xmk, xmk] [] (124, I, J, R) (some (.int r)) (124, I, J, R) := by
  rcases wyc_23 (L := L) (xs := xs) (d := d + 2) (d' := d') (J := J) hG h8 hV a b c t with ⟨-, -, x1, x2⟩ | ⟨⟨ha, hb, hc, ht⟩, xa, xb, xc, xt, xw, x4⟩
  · exact ⟨-2, x1, bq_x hG x2⟩
  by_cases h : b.toInt = c.toInt
  · exact ⟨-2, bce_23 hG h8 xa xb xc xt h, bq_y hG xw h⟩
  have p3 := hV.1.2.2
  have q11 : (I 86 26).toInt = l.length := hV.2.2.2.2.2.2.2.2.2.2.1.2
  obtain ⟨r, y1, y2, y3⟩ := soo_23 (L := L) (xs := xs) (d := d) (d' := d' + 1) (J := J) hG hV (b := I 100 a.toNatClampNeg) hb hc ht h
  by_cases g : r = -1
  · rw [if_pos g] at y2
    exact ⟨0, bcn_23 hG h8 xa xb xc xt h x4 y1 (by rw [g]; decide), bq_0 hG xw h (by omega) (by omega) y2 rfl⟩
  · rw [if_neg g] at y2
    have g' : r.toInt ≠ -1 := by rcases y3 with y3 | y3; exact absurd y3 g; omega
    obtain ⟨r', x1, x2⟩ := brl_23 (L := L) (xs := xs) (d := d) (d' := d' + 1) (J := J) hG h8 hV ha hb hc ht h np 0 0 0 (by omega) (by decide)
    exact ⟨r', bcz_23 hG h8 xa xb xc xt h x4 y1 g' x1, bq_1 hG xw h (by omega) (by omega) y2 (by rcases y3 with y3 | y3; exact absurd y3 g; omega) x2⟩
