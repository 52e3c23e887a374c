set_option maxRecDepth 20000 in
theorem qib_0 {L : Nat} {xs : Nat → Int32} {d : Nat} {I : Nat → Nat → Int32} {J : Nat → Nat → Int64} {R : Nat → Nat → Nat} {n w : Int32} (hG : aGd R) (n1 : 0 ≤ n.toInt) (m1 : n.toInt < 8) (b1 : (((I 100 n.toNatClampNeg) >>> (w &&& 31)) &&& 1).toInt ≠ 1) : xEv L xs d 179 0 [.ref 86, .int n, .int w] [] (124, I, J, R) (some (.int 0)) (124, I, J, R) := by
  refine ev_go 1 (pc1 := 1) (lv1 := [.ref 86, .int n, .int w]) (st1 := [.ref 86]) (h1 := (124, I, J, R)) rfl ?_
  refine ev_gf (c := 86) (t := 100) (X := R 86 24) rfl rfl (fun _ => rfl) rfl (hG 86 24 100 rfl rfl) ?_
  refine ev_go 1 (pc1 := 5) (lv1 := [.ref 86, .int n, .int w]) (st1 := [.int n, .ref 100]) (h1 := (124, I, J, R)) rfl ?_
  refine ev_ild (n := 8) rfl rfl (fun _ => rfl) n1 m1 ?_
  refine ev_go 1 (pc1 := 7) (lv1 := [.ref 86, .int n, .int w]) (st1 := [.int w, .int (I 100 n.toNatClampNeg)]) (h1 := (124, I, J, R)) rfl ?_
  refine ev_go 4 (pc1 := 11) (lv1 := [.ref 86, .int n, .int w]) (st1 := [.int 1, .int (((I 100 n.toNatClampNeg) >>> (w &&& 31)) &&& 1)]) (h1 := (124, I, J, R)) rfl ?_
  refine ev_br (b1 := true) rfl rfl (xcd_ne (x := (((I 100 n.toNatClampNeg) >>> (w &&& 31)) &&& 1)) (y := 1) (by rw [show ((1 : Int32)).toInt = 1 from by decide]; first | exact b1 | omega)) ?_
  refine ev_go 1 (pc1 := 19) (lv1 := [.ref 86, .int n, .int w]) (st1 := [.int 0]) (h1 := (124, I, J, R)) rfl ?_
  exact ev_ret rfl rfl
set_option maxRecDepth 20000 in
theorem qib_1 {L : Nat} {xs : Nat → Int32} {d : Nat} {I : Nat → Nat → Int32} {J : Nat → Nat → Int64} {R : Nat → Nat → Nat} {n w : Int32} (hG : aGd R) (n1 : 0 ≤ n.toInt) (m1 : n.toInt < 8) (b1 : (((I 100 n.toNatClampNeg) >>> (w &&& 31)) &&& 1).toInt = 1) : xEv L xs d 179 0 [.ref 86, .int n, .int w] [] (124, I, J, R) (some (.int 1)) (124, I, J, R) := by
  refine ev_go 1 (pc1 := 1) (lv1 := [.ref 86, .int n, .int w]) (st1 := [.ref 86]) (h1 := (124, I, J, R)) rfl ?_
  refine ev_gf (c := 86) (t := 100) (X := R 86 24) rfl rfl (fun _ => rfl) rfl (hG 86 24 100 rfl rfl) ?_
  refine ev_go 1 (pc1 := 5) (lv1 := [.ref 86, .int n, .int w]) (st1 := [.int n, .ref 100]) (h1 := (124, I, J, R)) rfl ?_
  refine ev_ild (n := 8) rfl rfl (fun _ => rfl) n1 m1 ?_
  refine ev_go 1 (pc1 := 7) (lv1 := [.ref 86, .int n, .int w]) (st1 := [.int w, .int (I 100 n.toNatClampNeg)]) (h1 := (124, I, J, R)) rfl ?_
  refine ev_go 4 (pc1 := 11) (lv1 := [.ref 86, .int n, .int w]) (st1 := [.int 1, .int (((I 100 n.toNatClampNeg) >>> (w &&& 31)) &&& 1)]) (h1 := (124, I, J, R)) rfl ?_
  refine ev_br (b1 := false) rfl rfl (xcd_nne (x := (((I 100 n.toNatClampNeg) >>> (w &&& 31)) &&& 1)) (y := 1) (by rw [show ((1 : Int32)).toInt = 1 from by decide]; first | exact b1 | omega)) ?_
  refine ev_go 2 (pc1 := 19) (lv1 := [.ref 86, .int n, .int w]) (st1 := [.int 1]) (h1 := (124, I, J, R)) rfl ?_
  exact ev_ret rfl rfl
set_option maxRecDepth 20000 in
theorem qqs_s {L : Nat} {xs : Nat → Int32} {d : Nat} {I : Nat → Nat → Int32} {J : Nat → Nat → Int64} {R : Nat → Nat → Nat} {I1 : Nat → Nat → Int32} {J1 : Nat → Nat → Int64} {nw to tm hr u : Int32} (hG : aGd R) (c1 : xEv L xs d 190 0 [.ref 86, xmk] [] (124, I, J, R) none (124, I1, J1, R)) (n1 : 0 ≤ (16 * to).toInt) (m1 : (16 * to).toInt < 224) (c2 : xEv L xs d 144 0 [.ref 86, .int hr, xmk] [] (124, I1, (uL J1 108 (16 * to).toNatClampNeg 1), R) (some (.int u)) (124, I1, (uL J1 108 (16 * to).toNatClampNeg 1), R)) {v : Option Value} {h' : xH} (hk : xEv L xs (d + 1) 189 24 [.ref 86, .int nw, .int to, .int tm, .int hr, .int (u - 1), xmk, xmk, xmk, xmk, xmk, xmk] [] (124, I1, (uL J1 108 (16 * to).toNatClampNeg 1), R) v h') : xEv L xs (d + 1) 189 0 [.ref 86, .int nw, .int to, .int tm, .int hr, xmk, xmk, xmk, xmk, xmk, xmk, xmk] [] (124, I, J, R) v h' := by
  refine ev_go 1 (pc1 := 1) (lv1 := [.ref 86, .int nw, .int to, .int tm, .int hr, xmk, xmk, xmk, xmk, xmk, xmk, xmk]) (st1 := [.ref 86]) (h1 := (124, I, J, R)) rfl ?_
  refine ev_call (v1 := none) (h1 := (124, I1, J1, R)) rfl rfl c1 ?_
  refine ev_go 1 (pc1 := 5) (lv1 := [.ref 86, .int nw, .int to, .int tm, .int hr, xmk, xmk, xmk, xmk, xmk, xmk, xmk]) (st1 := [.ref 86]) (h1 := (124, I1, J1, R)) rfl ?_
  refine ev_gf (c := 86) (t := 108) (X := R 86 38) rfl rfl (fun _ => rfl) rfl (hG 86 38 108 rfl rfl) ?_
  refine ev_go 4 (pc1 := 13) (lv1 := [.ref 86, .int nw, .int to, .int tm, .int hr, xmk, xmk, xmk, xmk, xmk, xmk, xmk]) (st1 := [.long 1, .int (16 * to), .ref 108]) (h1 := (124, I1, J1, R)) rfl ?_
  refine ev_lst (n := 224) rfl rfl (fun _ => rfl) n1 m1 ?_
  refine ev_go 2 (pc1 := 17) (lv1 := [.ref 86, .int nw, .int to, .int tm, .int hr, xmk, xmk, xmk, xmk, xmk, xmk, xmk]) (st1 := [.int hr, .ref 86]) (h1 := (124, I1, (uL J1 108 (16 * to).toNatClampNeg 1), R)) rfl ?_
  refine ev_call (v1 := (some (.int u))) (h1 := (124, I1, (uL J1 108 (16 * to).toNatClampNeg 1), R)) rfl rfl c2 ?_
  refine ev_go 3 (pc1 := 24) (lv1 := [.ref 86, .int nw, .int to, .int tm, .int hr, .int (u - 1), xmk, xmk, xmk, xmk, xmk, xmk]) (st1 := []) (h1 := (124, I1, (uL J1 108 (16 * to).toNatClampNeg 1), R)) rfl ?_
  exact hk
set_option maxRecDepth 20000 in
theorem qqs_e {L : Nat} {xs : Nat → Int32} {d : Nat} {I : Nat → Nat → Int32} {J : Nat → Nat → Int64} {R : Nat → Nat → Nat} {nw to tm hr t : Int32} {w6 w7 w8 w9 wa wb : Value} (hG : aGd R) (b1 : t.toInt < tm.toInt) : xEv L xs d 189 24 [.ref 86, .int nw, .int to, .int tm, .int hr, .int t, w6, w7, w8, w9, wa, wb] [] (124, I, J, R) none (124, I, J, R) := by
  refine ev_go 2 (pc1 := 27) (lv1 := [.ref 86, .int nw, .int to, .int tm, .int hr, .int t, w6, w7, w8, w9, wa, wb]) (st1 := [.int tm, .int t]) (h1 := (124, I, J, R)) rfl ?_
  refine ev_br (b1 := true) rfl rfl (xcd_lt (x := t) (y := tm) (by first | exact b1 | omega)) ?_
  exact ev_ret rfl rfl
set_option maxRecDepth 20000 in
theorem qqs_0 {L : Nat} {xs : Nat → Int32} {d : Nat} {I : Nat → Nat → Int32} {J : Nat → Nat → Int64} {R : Nat → Nat → Nat} {nw to tm hr t a b : Int32} {w6 w7 w8 w9 wa wb : Value} (hG : aGd R) (b1 : t.toInt ≥ tm.toInt) (c1 : xEv L xs d 177 0 [.ref 86, .int t] [] (124, I, J, R) (some (.int a)) (124, I, J, R)) (c2 : xEv L xs d 178 0 [.ref 86, .int t] [] (124, I, J, R) (some (.int b)) (124, I, J, R)) (n1 : 0 ≤ t.toInt) (m1 : t.toInt < 64) (n2 : 0 ≤ (I 101 t.toNatClampNeg).toInt) (m2 : (I 101 t.toNatClampNeg).toInt < 32) (c3 : xEv L xs d 179 0 [.ref 86, .int nw, .int b] [] (124, I, J, R) (some (.int 1)) (124, I, J, R)) {v : Option Value} {h' : xH} (hk : xEv L xs (d + 1) 189 88 [.ref 86, .int nw, .int to, .int tm, .int hr, .int t, .int a, .int b, .int (I 95 (I 101 t.toNatClampNeg).toNatClampNeg), .int 0, wa, wb] [] (124, I, J, R) v h') : xEv L xs (d + 1) 189 24 [.ref 86, .int nw, .int to, .int tm, .int hr, .int t, w6, w7, w8, w9, wa, wb] [] (124, I, J, R) v h' := by
  refine ev_go 2 (pc1 := 27) (lv1 := [.ref 86, .int nw, .int to, .int tm, .int hr, .int t, w6, w7, w8, w9, wa, wb]) (st1 := [.int tm, .int t]) (h1 := (124, I, J, R)) rfl ?_
  refine ev_br (b1 := false) rfl rfl (xcd_nlt (x := t) (y := tm) (by first | exact b1 | omega)) ?_
  refine ev_go 2 (pc1 := 33) (lv1 := [.ref 86, .int nw, .int to, .int tm, .int hr, .int t, w6, w7, w8, w9, wa, wb]) (st1 := [.int t, .ref 86]) (h1 := (124, I, J, R)) rfl ?_
  refine ev_call (v1 := (some (.int a))) (h1 := (124, I, J, R)) rfl rfl c1 ?_
  refine ev_go 3 (pc1 := 41) (lv1 := [.ref 86, .int nw, .int to, .int tm, .int hr, .int t, .int a, w7, w8, w9, wa, wb]) (st1 := [.int t, .ref 86]) (h1 := (124, I, J, R)) rfl ?_
  refine ev_call (v1 := (some (.int b))) (h1 := (124, I, J, R)) rfl rfl c2 ?_
  refine ev_go 2 (pc1 := 47) (lv1 := [.ref 86, .int nw, .int to, .int tm, .int hr, .int t, .int a, .int b, w8, w9, wa, wb]) (st1 := [.ref 86]) (h1 := (124, I, J, R)) rfl ?_
  refine ev_gf (c := 86) (t := 95) (X := R 86 19) rfl rfl (fun _ => rfl) rfl (hG 86 19 95 rfl rfl) ?_
  refine ev_go 1 (pc1 := 51) (lv1 := [.ref 86, .int nw, .int to, .int tm, .int hr, .int t, .int a, .int b, w8, w9, wa, wb]) (st1 := [.ref 86, .ref 95]) (h1 := (124, I, J, R)) rfl ?_
  refine ev_gf (c := 86) (t := 101) (X := R 86 27) rfl rfl (fun _ => rfl) rfl (hG 86 27 101 rfl rfl) ?_
  refine ev_go 1 (pc1 := 56) (lv1 := [.ref 86, .int nw, .int to, .int tm, .int hr, .int t, .int a, .int b, w8, w9, wa, wb]) (st1 := [.int t, .ref 101, .ref 95]) (h1 := (124, I, J, R)) rfl ?_
  refine ev_ild (n := 64) rfl rfl (fun _ => rfl) n1 m1 ?_
  refine ev_ild (n := 32) rfl rfl (fun _ => rfl) n2 m2 ?_
  refine ev_go 4 (pc1 := 64) (lv1 := [.ref 86, .int nw, .int to, .int tm, .int hr, .int t, .int a, .int b, .int (I 95 (I 101 t.toNatClampNeg).toNatClampNeg), w9, wa, wb]) (st1 := [.int b, .int nw, .ref 86]) (h1 := (124, I, J, R)) rfl ?_
  refine ev_call (v1 := (some (.int 1))) (h1 := (124, I, J, R)) rfl rfl c3 ?_
  refine ev_go 3 (pc1 := 88) (lv1 := [.ref 86, .int nw, .int to, .int tm, .int hr, .int t, .int a, .int b, .int (I 95 (I 101 t.toNatClampNeg).toNatClampNeg), .int 0, wa, wb]) (st1 := []) (h1 := (124, I, J, R)) rfl ?_
  exact hk
set_option maxRecDepth 20000 in
theorem qqs_1 {L : Nat} {xs : Nat → Int32} {d : Nat} {I : Nat → Nat → Int32} {J : Nat → Nat → Int64} {R : Nat → Nat → Nat} {nw to tm hr t a b o : Int32} {w6 w7 w8 w9 wa wb : Value} (hG : aGd R) (b1 : t.toInt ≥ tm.toInt) (c1 : xEv L xs d 177 0 [.ref 86, .int t] [] (124, I, J, R) (some (.int a)) (124, I, J, R)) (c2 : xEv L xs d 178 0 [.ref 86, .int t] [] (124, I, J, R) (some (.int b)) (124, I, J, R)) (n1 : 0 ≤ t.toInt) (m1 : t.toInt < 64) (n2 : 0 ≤ (I 101 t.toNatClampNeg).toInt) (m2 : (I 101 t.toNatClampNeg).toInt < 32) (c3 : xEv L xs d 179 0 [.ref 86, .int nw, .int b] [] (124, I, J, R) (some (.int 0)) (124, I, J, R)) (c4 : xEv L xs d 191 0 [.ref 86, .int b, .int a, xmk, xmk, xmk, xmk, xmk] [] (124, I, J, R) (some (.int o)) (124, I, J, R)) (b2 : o.toInt ≤ 0) {v : Option Value} {h' : xH} (hk : xEv L xs (d + 1) 189 88 [.ref 86, .int nw, .int to, .int tm, .int hr, .int t, .int a, .int b, .int (I 95 (I 101 t.toNatClampNeg).toNatClampNeg), .int 0, wa, wb] [] (124, I, J, R) v h') : xEv L xs (d + 1) 189 24 [.ref 86, .int nw, .int to, .int tm, .int hr, .int t, w6, w7, w8, w9, wa, wb] [] (124, I, J, R) v h' := by
  refine ev_go 2 (pc1 := 27) (lv1 := [.ref 86, .int nw, .int to, .int tm, .int hr, .int t, w6, w7, w8, w9, wa, wb]) (st1 := [.int tm, .int t]) (h1 := (124, I, J, R)) rfl ?_
  refine ev_br (b1 := false) rfl rfl (xcd_nlt (x := t) (y := tm) (by first | exact b1 | omega)) ?_
  refine ev_go 2 (pc1 := 33) (lv1 := [.ref 86, .int nw, .int to, .int tm, .int hr, .int t, w6, w7, w8, w9, wa, wb]) (st1 := [.int t, .ref 86]) (h1 := (124, I, J, R)) rfl ?_
  refine ev_call (v1 := (some (.int a))) (h1 := (124, I, J, R)) rfl rfl c1 ?_
  refine ev_go 3 (pc1 := 41) (lv1 := [.ref 86, .int nw, .int to, .int tm, .int hr, .int t, .int a, w7, w8, w9, wa, wb]) (st1 := [.int t, .ref 86]) (h1 := (124, I, J, R)) rfl ?_
  refine ev_call (v1 := (some (.int b))) (h1 := (124, I, J, R)) rfl rfl c2 ?_
  refine ev_go 2 (pc1 := 47) (lv1 := [.ref 86, .int nw, .int to, .int tm, .int hr, .int t, .int a, .int b, w8, w9, wa, wb]) (st1 := [.ref 86]) (h1 := (124, I, J, R)) rfl ?_
  refine ev_gf (c := 86) (t := 95) (X := R 86 19) rfl rfl (fun _ => rfl) rfl (hG 86 19 95 rfl rfl) ?_
  refine ev_go 1 (pc1 := 51) (lv1 := [.ref 86, .int nw, .int to, .int tm, .int hr, .int t, .int a, .int b, w8, w9, wa, wb]) (st1 := [.ref 86, .ref 95]) (h1 := (124, I, J, R)) rfl ?_
  refine ev_gf (c := 86) (t := 101) (X := R 86 27) rfl rfl (fun _ => rfl) rfl (hG 86 27 101 rfl rfl) ?_
  refine ev_go 1 (pc1 := 56) (lv1 := [.ref 86, .int nw, .int to, .int tm, .int hr, .int t, .int a, .int b, w8, w9, wa, wb]) (st1 := [.int t, .ref 101, .ref 95]) (h1 := (124, I, J, R)) rfl ?_
  refine ev_ild (n := 64) rfl rfl (fun _ => rfl) n1 m1 ?_
  refine ev_ild (n := 32) rfl rfl (fun _ => rfl) n2 m2 ?_
  refine ev_go 4 (pc1 := 64) (lv1 := [.ref 86, .int nw, .int to, .int tm, .int hr, .int t, .int a, .int b, .int (I 95 (I 101 t.toNatClampNeg).toNatClampNeg), w9, wa, wb]) (st1 := [.int b, .int nw, .ref 86]) (h1 := (124, I, J, R)) rfl ?_
  refine ev_call (v1 := (some (.int 0))) (h1 := (124, I, J, R)) rfl rfl c3 ?_
  refine ev_go 4 (pc1 := 75) (lv1 := [.ref 86, .int nw, .int to, .int tm, .int hr, .int t, .int a, .int b, .int (I 95 (I 101 t.toNatClampNeg).toNatClampNeg), w9, wa, wb]) (st1 := [.int a, .int b, .ref 86]) (h1 := (124, I, J, R)) rfl ?_
  refine ev_call (v1 := (some (.int o))) (h1 := (124, I, J, R)) rfl rfl c4 ?_
  refine ev_br (b1 := true) rfl rfl (xcd_le (x := o) (y := 0) (by rw [show ((0 : Int32)).toInt = 0 from by decide]; first | exact b2 | omega)) ?_
  refine ev_go 2 (pc1 := 88) (lv1 := [.ref 86, .int nw, .int to, .int tm, .int hr, .int t, .int a, .int b, .int (I 95 (I 101 t.toNatClampNeg).toNatClampNeg), .int 0, wa, wb]) (st1 := []) (h1 := (124, I, J, R)) rfl ?_
  exact hk
set_option maxRecDepth 20000 in
theorem qqs_2 {L : Nat} {xs : Nat → Int32} {d : Nat} {I : Nat → Nat → Int32} {J : Nat → Nat → Int64} {R : Nat → Nat → Nat} {nw to tm hr t a b o : Int32} {w6 w7 w8 w9 wa wb : Value} (hG : aGd R) (b1 : t.toInt ≥ tm.toInt) (c1 : xEv L xs d 177 0 [.ref 86, .int t] [] (124, I, J, R) (some (.int a)) (124, I, J, R)) (c2 : xEv L xs d 178 0 [.ref 86, .int t] [] (124, I, J, R) (some (.int b)) (124, I, J, R)) (n1 : 0 ≤ t.toInt) (m1 : t.toInt < 64) (n2 : 0 ≤ (I 101 t.toNatClampNeg).toInt) (m2 : (I 101 t.toNatClampNeg).toInt < 32) (c3 : xEv L xs d 179 0 [.ref 86, .int nw, .int b] [] (124, I, J, R) (some (.int 0)) (124, I, J, R)) (c4 : xEv L xs d 191 0 [.ref 86, .int b, .int a, xmk, xmk, xmk, xmk, xmk] [] (124, I, J, R) (some (.int o)) (124, I, J, R)) (b2 : o.toInt > 0) {v : Option Value} {h' : xH} (hk : xEv L xs (d + 1) 189 88 [.ref 86, .int nw, .int to, .int tm, .int hr, .int t, .int a, .int b, .int (I 95 (I 101 t.toNatClampNeg).toNatClampNeg), .int 1, wa, wb] [] (124, I, J, R) v h') : xEv L xs (d + 1) 189 24 [.ref 86, .int nw, .int to, .int tm, .int hr, .int t, w6, w7, w8, w9, wa, wb] [] (124, I, J, R) v h' := by
  refine ev_go 2 (pc1 := 27) (lv1 := [.ref 86, .int nw, .int to, .int tm, .int hr, .int t, w6, w7, w8, w9, wa, wb]) (st1 := [.int tm, .int t]) (h1 := (124, I, J, R)) rfl ?_
  refine ev_br (b1 := false) rfl rfl (xcd_nlt (x := t) (y := tm) (by first | exact b1 | omega)) ?_
  refine ev_go 2 (pc1 := 33) (lv1 := [.ref 86, .int nw, .int to, .int tm, .int hr, .int t, w6, w7, w8, w9, wa, wb]) (st1 := [.int t, .ref 86]) (h1 := (124, I, J, R)) rfl ?_
  refine ev_call (v1 := (some (.int a))) (h1 := (124, I, J, R)) rfl rfl c1 ?_
  refine ev_go 3 (pc1 := 41) (lv1 := [.ref 86, .int nw, .int to, .int tm, .int hr, .int t, .int a, w7, w8, w9, wa, wb]) (st1 := [.int t, .ref 86]) (h1 := (124, I, J, R)) rfl ?_
  refine ev_call (v1 := (some (.int b))) (h1 := (124, I, J, R)) rfl rfl c2 ?_
  refine ev_go 2 (pc1 := 47) (lv1 := [.ref 86, .int nw, .int to, .int tm, .int hr, .int t, .int a, .int b, w8, w9, wa, wb]) (st1 := [.ref 86]) (h1 := (124, I, J, R)) rfl ?_
  refine ev_gf (c := 86) (t := 95) (X := R 86 19) rfl rfl (fun _ => rfl) rfl (hG 86 19 95 rfl rfl) ?_
  refine ev_go 1 (pc1 := 51) (lv1 := [.ref 86, .int nw, .int to, .int tm, .int hr, .int t, .int a, .int b, w8, w9, wa, wb]) (st1 := [.ref 86, .ref 95]) (h1 := (124, I, J, R)) rfl ?_
  refine ev_gf (c := 86) (t := 101) (X := R 86 27) rfl rfl (fun _ => rfl) rfl (hG 86 27 101 rfl rfl) ?_
  refine ev_go 1 (pc1 := 56) (lv1 := [.ref 86, .int nw, .int to, .int tm, .int hr, .int t, .int a, .int b, w8, w9, wa, wb]) (st1 := [.int t, .ref 101, .ref 95]) (h1 := (124, I, J, R)) rfl ?_
  refine ev_ild (n := 64) rfl rfl (fun _ => rfl) n1 m1 ?_
  refine ev_ild (n := 32) rfl rfl (fun _ => rfl) n2 m2 ?_
  refine ev_go 4 (pc1 := 64) (lv1 := [.ref 86, .int nw, .int to, .int tm, .int hr, .int t, .int a, .int b, .int (I 95 (I 101 t.toNatClampNeg).toNatClampNeg), w9, wa, wb]) (st1 := [.int b, .int nw, .ref 86]) (h1 := (124, I, J, R)) rfl ?_
  refine ev_call (v1 := (some (.int 0))) (h1 := (124, I, J, R)) rfl rfl c3 ?_
  refine ev_go 4 (pc1 := 75) (lv1 := [.ref 86, .int nw, .int to, .int tm, .int hr, .int t, .int a, .int b, .int (I 95 (I 101 t.toNatClampNeg).toNatClampNeg), w9, wa, wb]) (st1 := [.int a, .int b, .ref 86]) (h1 := (124, I, J, R)) rfl ?_
  refine ev_call (v1 := (some (.int o))) (h1 := (124, I, J, R)) rfl rfl c4 ?_
  refine ev_br (b1 := false) rfl rfl (xcd_nle (x := o) (y := 0) (by rw [show ((0 : Int32)).toInt = 0 from by decide]; first | exact b2 | omega)) ?_
  refine ev_go 3 (pc1 := 88) (lv1 := [.ref 86, .int nw, .int to, .int tm, .int hr, .int t, .int a, .int b, .int (I 95 (I 101 t.toNatClampNeg).toNatClampNeg), .int 1, wa, wb]) (st1 := []) (h1 := (124, I, J, R)) rfl ?_
  exact hk
set_option maxRecDepth 20000 in
theorem qqs_3 {L : Nat} {xs : Nat → Int32} {d : Nat} {I : Nat → Nat → Int32} {J : Nat → Nat → Int64} {R : Nat → Nat → Nat} {nw to tm hr t a b c aq : Int32} {wa wb : Value} (hG : aGd R) (c1 : xEv L xs d 179 0 [.ref 86, .int nw, .int a] [] (124, I, J, R) (some (.int 1)) (124, I, J, R)) {v : Option Value} {h' : xH} (hk : xEv L xs (d + 1) 189 119 [.ref 86, .int nw, .int to, .int tm, .int hr, .int t, .int a, .int b, .int c, .int aq, .int 0, .int 0] [] (124, I, J, R) v h') : xEv L xs (d + 1) 189 88 [.ref 86, .int nw, .int to, .int tm, .int hr, .int t, .int a, .int b, .int c, .int aq, wa, wb] [] (124, I, J, R) v h' := by
  refine ev_go 3 (pc1 := 92) (lv1 := [.ref 86, .int nw, .int to, .int tm, .int hr, .int t, .int a, .int b, .int c, .int aq, wa, wb]) (st1 := [.int a, .int nw, .ref 86]) (h1 := (124, I, J, R)) rfl ?_
  refine ev_call (v1 := (some (.int 1))) (h1 := (124, I, J, R)) rfl rfl c1 ?_
  refine ev_go 5 (pc1 := 119) (lv1 := [.ref 86, .int nw, .int to, .int tm, .int hr, .int t, .int a, .int b, .int c, .int aq, .int 0, .int 0]) (st1 := []) (h1 := (124, I, J, R)) rfl ?_
  exact hk
set_option maxRecDepth 20000 in
theorem qqs_4 {L : Nat} {xs : Nat → Int32} {d : Nat} {I : Nat → Nat → Int32} {J : Nat → Nat → Int64} {R : Nat → Nat → Nat} {nw to tm hr t a b c aq o : Int32} {wa wb : Value} (hG : aGd R) (c1 : xEv L xs d 179 0 [.ref 86, .int nw, .int a] [] (124, I, J, R) (some (.int 0)) (124, I, J, R)) (c2 : xEv L xs d 191 0 [.ref 86, .int a, .int b, xmk, xmk, xmk, xmk, xmk] [] (124, I, J, R) (some (.int o)) (124, I, J, R)) (b1 : o.toInt ≤ 0) {v : Option Value} {h' : xH} (hk : xEv L xs (d + 1) 189 119 [.ref 86, .int nw, .int to, .int tm, .int hr, .int t, .int a, .int b, .int c, .int aq, .int 0, .int 0] [] (124, I, J, R) v h') : xEv L xs (d + 1) 189 88 [.ref 86, .int nw, .int to, .int tm, .int hr, .int t, .int a, .int b, .int c, .int aq, wa, wb] [] (124, I, J, R) v h' := by
  refine ev_go 3 (pc1 := 92) (lv1 := [.ref 86, .int nw, .int to, .int tm, .int hr, .int t, .int a, .int b, .int c, .int aq, wa, wb]) (st1 := [.int a, .int nw, .ref 86]) (h1 := (124, I, J, R)) rfl ?_
  refine ev_call (v1 := (some (.int 0))) (h1 := (124, I, J, R)) rfl rfl c1 ?_
  refine ev_go 4 (pc1 := 103) (lv1 := [.ref 86, .int nw, .int to, .int tm, .int hr, .int t, .int a, .int b, .int c, .int aq, wa, wb]) (st1 := [.int b, .int a, .ref 86]) (h1 := (124, I, J, R)) rfl ?_
  refine ev_call (v1 := (some (.int o))) (h1 := (124, I, J, R)) rfl rfl c2 ?_
  refine ev_br (b1 := true) rfl rfl (xcd_le (x := o) (y := 0) (by rw [show ((0 : Int32)).toInt = 0 from by decide]; first | exact b1 | omega)) ?_
  refine ev_go 4 (pc1 := 119) (lv1 := [.ref 86, .int nw, .int to, .int tm, .int hr, .int t, .int a, .int b, .int c, .int aq, .int 0, .int 0]) (st1 := []) (h1 := (124, I, J, R)) rfl ?_
  exact hk
set_option maxRecDepth 20000 in
theorem qqs_5 {L : Nat} {xs : Nat → Int32} {d : Nat} {I : Nat → Nat → Int32} {J : Nat → Nat → Int64} {R : Nat → Nat → Nat} {nw to tm hr t a b c aq o : Int32} {wa wb : Value} (hG : aGd R) (c1 : xEv L xs d 179 0 [.ref 86, .int nw, .int a] [] (124, I, J, R) (some (.int 0)) (124, I, J, R)) (c2 : xEv L xs d 191 0 [.ref 86, .int a, .int b, xmk, xmk, xmk, xmk, xmk] [] (124, I, J, R) (some (.int o)) (124, I, J, R)) (b1 : o.toInt > 0) {v : Option Value} {h' : xH} (hk : xEv L xs (d + 1) 189 119 [.ref 86, .int nw, .int to, .int tm, .int hr, .int t, .int a, .int b, .int c, .int aq, .int 1, .int 0] [] (124, I, J, R) v h') : xEv L xs (d + 1) 189 88 [.ref 86, .int nw, .int to, .int tm, .int hr, .int t, .int a, .int b, .int c, .int aq, wa, wb] [] (124, I, J, R) v h' := by
  refine ev_go 3 (pc1 := 92) (lv1 := [.ref 86, .int nw, .int to, .int tm, .int hr, .int t, .int a, .int b, .int c, .int aq, wa, wb]) (st1 := [.int a, .int nw, .ref 86]) (h1 := (124, I, J, R)) rfl ?_
  refine ev_call (v1 := (some (.int 0))) (h1 := (124, I, J, R)) rfl rfl c1 ?_
  refine ev_go 4 (pc1 := 103) (lv1 := [.ref 86, .int nw, .int to, .int tm, .int hr, .int t, .int a, .int b, .int c, .int aq, wa, wb]) (st1 := [.int b, .int a, .ref 86]) (h1 := (124, I, J, R)) rfl ?_
  refine ev_call (v1 := (some (.int o))) (h1 := (124, I, J, R)) rfl rfl c2 ?_
  refine ev_br (b1 := false) rfl rfl (xcd_nle (x := o) (y := 0) (by rw [show ((0 : Int32)).toInt = 0 from by decide]; first | exact b1 | omega)) ?_
  refine ev_go 5 (pc1 := 119) (lv1 := [.ref 86, .int nw, .int to, .int tm, .int hr, .int t, .int a, .int b, .int c, .int aq, .int 1, .int 0]) (st1 := []) (h1 := (124, I, J, R)) rfl ?_
  exact hk
set_option maxRecDepth 20000 in
theorem qqs_p {L : Nat} {xs : Nat → Int32} {d : Nat} {I : Nat → Nat → Int32} {J : Nat → Nat → Int64} {R : Nat → Nat → Nat} {J1 : Nat → Nat → Int64} {nw to tm hr t a b c aq bq p : Int32} (hG : aGd R) (b1 : p.toInt < (I 88 0).toInt) (c1 : xEv L xs d 192 0 [.ref 86, .int p, .int p, .int 10, .int p, .int 0, xmk, xmk, xmk, xmk, xmk] [] (124, I, J, R) none (124, I, J1, R)) {v : Option Value} {h' : xH} (hk : xEv L xs (d + 1) 189 119 [.ref 86, .int nw, .int to, .int tm, .int hr, .int t, .int a, .int b, .int c, .int aq, .int bq, .int (p + 1)] [] (124, I, J1, R) v h') : xEv L xs (d + 1) 189 119 [.ref 86, .int nw, .int to, .int tm, .int hr, .int t, .int a, .int b, .int c, .int aq, .int bq, .int p] [] (124, I, J, R) v h' := by
  refine ev_go 2 (pc1 := 122) (lv1 := [.ref 86, .int nw, .int to, .int tm, .int hr, .int t, .int a, .int b, .int c, .int aq, .int bq, .int p]) (st1 := [.ref 86, .int p]) (h1 := (124, I, J, R)) rfl ?_
  refine ev_gf (c := 86) (t := 88) (X := R 86 12) rfl rfl (fun _ => rfl) rfl (hG 86 12 88 rfl rfl) ?_
  refine ev_go 2 (pc1 := 127) (lv1 := [.ref 86, .int nw, .int to, .int tm, .int hr, .int t, .int a, .int b, .int c, .int aq, .int bq, .int p]) (st1 := [.int (I 88 0), .int p]) (h1 := (124, I, J, R)) rfl ?_
  refine ev_br (b1 := false) rfl rfl (xcd_nge (x := p) (y := (I 88 0)) (by first | exact b1 | omega)) ?_
  refine ev_go 6 (pc1 := 140) (lv1 := [.ref 86, .int nw, .int to, .int tm, .int hr, .int t, .int a, .int b, .int c, .int aq, .int bq, .int p]) (st1 := [.int 0, .int p, .int 10, .int p, .int p, .ref 86]) (h1 := (124, I, J, R)) rfl ?_
  refine ev_call (v1 := none) (h1 := (124, I, J1, R)) rfl rfl c1 ?_
  refine ev_go 2 (pc1 := 119) (lv1 := [.ref 86, .int nw, .int to, .int tm, .int hr, .int t, .int a, .int b, .int c, .int aq, .int bq, .int (p + 1)]) (st1 := []) (h1 := (124, I, J1, R)) rfl ?_
  exact hk
set_option maxRecDepth 20000 in
theorem qqs_6 {L : Nat} {xs : Nat → Int32} {d : Nat} {I : Nat → Nat → Int32} {J : Nat → Nat → Int64} {R : Nat → Nat → Nat} {J1 : Nat → Nat → Int64} {nw to tm hr t a b c aq bq p dx1 : Int32} (hG : aGd R) (b1 : p.toInt ≥ (I 88 0).toInt) (b2 : aq.toInt = 0) (b3 : bq.toInt = 0) (c1 : xEv L xs d 193 0 [.ref 86, xmk] [] (124, I, J, R) none (124, I, J1, R)) (i1 : t + (-1) = dx1) {v : Option Value} {h' : xH} (hk : xEv L xs (d + 1) 189 24 [.ref 86, .int nw, .int to, .int tm, .int hr, .int dx1, .int a, .int b, .int c, .int aq, .int bq, .int p] [] (124, (uI I 86 40 ((I 86 40) + 1)), J1, R) v h') : xEv L xs (d + 1) 189 119 [.ref 86, .int nw, .int to, .int tm, .int hr, .int t, .int a, .int b, .int c, .int aq, .int bq, .int p] [] (124, I, J, R) v h' := by
  refine ev_go 2 (pc1 := 122) (lv1 := [.ref 86, .int nw, .int to, .int tm, .int hr, .int t, .int a, .int b, .int c, .int aq, .int bq, .int p]) (st1 := [.ref 86, .int p]) (h1 := (124, I, J, R)) rfl ?_
  refine ev_gf (c := 86) (t := 88) (X := R 86 12) rfl rfl (fun _ => rfl) rfl (hG 86 12 88 rfl rfl) ?_
  refine ev_go 2 (pc1 := 127) (lv1 := [.ref 86, .int nw, .int to, .int tm, .int hr, .int t, .int a, .int b, .int c, .int aq, .int bq, .int p]) (st1 := [.int (I 88 0), .int p]) (h1 := (124, I, J, R)) rfl ?_
  refine ev_br (b1 := true) rfl rfl (xcd_ge (x := p) (y := (I 88 0)) (by first | exact b1 | omega)) ?_
  refine ev_go 1 (pc1 := 151) (lv1 := [.ref 86, .int nw, .int to, .int tm, .int hr, .int t, .int a, .int b, .int c, .int aq, .int bq, .int p]) (st1 := [.int aq]) (h1 := (124, I, J, R)) rfl ?_
  refine ev_br (b1 := true) rfl rfl (xcd_eq (x := aq) (y := 0) (by rw [show ((0 : Int32)).toInt = 0 from by decide]; first | exact b2 | omega)) ?_
  refine ev_go 1 (pc1 := 173) (lv1 := [.ref 86, .int nw, .int to, .int tm, .int hr, .int t, .int a, .int b, .int c, .int aq, .int bq, .int p]) (st1 := [.int bq]) (h1 := (124, I, J, R)) rfl ?_
  refine ev_br (b1 := true) rfl rfl (xcd_eq (x := bq) (y := 0) (by rw [show ((0 : Int32)).toInt = 0 from by decide]; first | exact b3 | omega)) ?_
  refine ev_go 1 (pc1 := 194) (lv1 := [.ref 86, .int nw, .int to, .int tm, .int hr, .int t, .int a, .int b, .int c, .int aq, .int bq, .int p]) (st1 := [.ref 86]) (h1 := (124, I, J, R)) rfl ?_
  refine ev_call (v1 := none) (h1 := (124, I, J1, R)) rfl rfl c1 ?_
  refine ev_go 6 (pc1 := 207) (lv1 := [.ref 86, .int nw, .int to, .int tm, .int hr, .int t, .int a, .int b, .int c, .int aq, .int bq, .int p]) (st1 := []) (h1 := (124, (uI I 86 40 ((I 86 40) + 1)), J1, R)) rfl ?_
  refine ev_iinc (x := t) (y := dx1) (lv1 := [.ref 86, .int nw, .int to, .int tm, .int hr, .int dx1, .int a, .int b, .int c, .int aq, .int bq, .int p]) rfl rfl (by rw [show Int32.ofInt (-1) = (-1) from by decide]; exact i1) rfl ?_
  refine ev_go 1 (pc1 := 24) (lv1 := [.ref 86, .int nw, .int to, .int tm, .int hr, .int dx1, .int a, .int b, .int c, .int aq, .int bq, .int p]) (st1 := []) (h1 := (124, (uI I 86 40 ((I 86 40) + 1)), J1, R)) rfl ?_
  exact hk
set_option maxRecDepth 20000 in
theorem qqs_7 {L : Nat} {xs : Nat → Int32} {d : Nat} {I : Nat → Nat → Int32} {J : Nat → Nat → Int64} {R : Nat → Nat → Nat} {J1 : Nat → Nat → Int64} {J2 : Nat → Nat → Int64} {nw to tm hr t a b c aq bq p dx1 : Int32} (hG : aGd R) (b1 : p.toInt ≥ (I 88 0).toInt) (b2 : aq.toInt ≠ 0) (c1 : xEv L xs d 192 0 [.ref 86, .int a, .int a, .int (10 - c), .int b, .int c, xmk, xmk, xmk, xmk, xmk] [] (124, I, J, R) none (124, I, J1, R)) (b3 : bq.toInt = 0) (c2 : xEv L xs d 193 0 [.ref 86, xmk] [] (124, I, J1, R) none (124, I, J2, R)) (i1 : t + (-1) = dx1) {v : Option Value} {h' : xH} (hk : xEv L xs (d + 1) 189 24 [.ref 86, .int nw, .int to, .int tm, .int hr, .int dx1, .int a, .int b, .int c, .int aq, .int bq, .int p] [] (124, (uI I 86 40 ((I 86 40) + 1)), J2, R) v h') : xEv L xs (d + 1) 189 119 [.ref 86, .int nw, .int to, .int tm, .int hr, .int t, .int a, .int b, .int c, .int aq, .int bq, .int p] [] (124, I, J, R) v h' := by
  refine ev_go 2 (pc1 := 122) (lv1 := [.ref 86, .int nw, .int to, .int tm, .int hr, .int t, .int a, .int b, .int c, .int aq, .int bq, .int p]) (st1 := [.ref 86, .int p]) (h1 := (124, I, J, R)) rfl ?_
  refine ev_gf (c := 86) (t := 88) (X := R 86 12) rfl rfl (fun _ => rfl) rfl (hG 86 12 88 rfl rfl) ?_
  refine ev_go 2 (pc1 := 127) (lv1 := [.ref 86, .int nw, .int to, .int tm, .int hr, .int t, .int a, .int b, .int c, .int aq, .int bq, .int p]) (st1 := [.int (I 88 0), .int p]) (h1 := (124, I, J, R)) rfl ?_
  refine ev_br (b1 := true) rfl rfl (xcd_ge (x := p) (y := (I 88 0)) (by first | exact b1 | omega)) ?_
  refine ev_go 1 (pc1 := 151) (lv1 := [.ref 86, .int nw, .int to, .int tm, .int hr, .int t, .int a, .int b, .int c, .int aq, .int bq, .int p]) (st1 := [.int aq]) (h1 := (124, I, J, R)) rfl ?_
  refine ev_br (b1 := false) rfl rfl (xcd_neq (x := aq) (y := 0) (by rw [show ((0 : Int32)).toInt = 0 from by decide]; first | exact b2 | omega)) ?_
  refine ev_go 8 (pc1 := 168) (lv1 := [.ref 86, .int nw, .int to, .int tm, .int hr, .int t, .int a, .int b, .int c, .int aq, .int bq, .int p]) (st1 := [.int c, .int b, .int (10 - c), .int a, .int a, .ref 86]) (h1 := (124, I, J, R)) rfl ?_
  refine ev_call (v1 := none) (h1 := (124, I, J1, R)) rfl rfl c1 ?_
  refine ev_go 1 (pc1 := 173) (lv1 := [.ref 86, .int nw, .int to, .int tm, .int hr, .int t, .int a, .int b, .int c, .int aq, .int bq, .int p]) (st1 := [.int bq]) (h1 := (124, I, J1, R)) rfl ?_
  refine ev_br (b1 := true) rfl rfl (xcd_eq (x := bq) (y := 0) (by rw [show ((0 : Int32)).toInt = 0 from by decide]; first | exact b3 | omega)) ?_
  refine ev_go 1 (pc1 := 194) (lv1 := [.ref 86, .int nw, .int to, .int tm, .int hr, .int t, .int a, .int b, .int c, .int aq, .int bq, .int p]) (st1 := [.ref 86]) (h1 := (124, I, J1, R)) rfl ?_
  refine ev_call (v1 := none) (h1 := (124, I, J2, R)) rfl rfl c2 ?_
  refine ev_go 6 (pc1 := 207) (lv1 := [.ref 86, .int nw, .int to, .int tm, .int hr, .int t, .int a, .int b, .int c, .int aq, .int bq, .int p]) (st1 := []) (h1 := (124, (uI I 86 40 ((I 86 40) + 1)), J2, R)) rfl ?_
  refine ev_iinc (x := t) (y := dx1) (lv1 := [.ref 86, .int nw, .int to, .int tm, .int hr, .int dx1, .int a, .int b, .int c, .int aq, .int bq, .int p]) rfl rfl (by rw [show Int32.ofInt (-1) = (-1) from by decide]; exact i1) rfl ?_
  refine ev_go 1 (pc1 := 24) (lv1 := [.ref 86, .int nw, .int to, .int tm, .int hr, .int dx1, .int a, .int b, .int c, .int aq, .int bq, .int p]) (st1 := []) (h1 := (124, (uI I 86 40 ((I 86 40) + 1)), J2, R)) rfl ?_
  exact hk
set_option maxRecDepth 20000 in
theorem qqs_8 {L : Nat} {xs : Nat → Int32} {d : Nat} {I : Nat → Nat → Int32} {J : Nat → Nat → Int64} {R : Nat → Nat → Nat} {J1 : Nat → Nat → Int64} {J2 : Nat → Nat → Int64} {nw to tm hr t a b c aq bq p dx1 : Int32} (hG : aGd R) (b1 : p.toInt ≥ (I 88 0).toInt) (b2 : aq.toInt = 0) (b3 : bq.toInt ≠ 0) (c1 : xEv L xs d 192 0 [.ref 86, .int b, .int b, .int (10 - c), .int a, .int c, xmk, xmk, xmk, xmk, xmk] [] (124, I, J, R) none (124, I, J1, R)) (c2 : xEv L xs d 193 0 [.ref 86, xmk] [] (124, I, J1, R) none (124, I, J2, R)) (i1 : t + (-1) = dx1) {v : Option Value} {h' : xH} (hk : xEv L xs (d + 1) 189 24 [.ref 86, .int nw, .int to, .int tm, .int hr, .int dx1, .int a, .int b, .int c, .int aq, .int bq, .int p] [] (124, (uI I 86 40 ((I 86 40) + 1)), J2, R) v h') : xEv L xs (d + 1) 189 119 [.ref 86, .int nw, .int to, .int tm, .int hr, .int t, .int a, .int b, .int c, .int aq, .int bq, .int p] [] (124, I, J, R) v h' := by
  refine ev_go 2 (pc1 := 122) (lv1 := [.ref 86, .int nw, .int to, .int tm, .int hr, .int t, .int a, .int b, .int c, .int aq, .int bq, .int p]) (st1 := [.ref 86, .int p]) (h1 := (124, I, J, R)) rfl ?_
  refine ev_gf (c := 86) (t := 88) (X := R 86 12) rfl rfl (fun _ => rfl) rfl (hG 86 12 88 rfl rfl) ?_
  refine ev_go 2 (pc1 := 127) (lv1 := [.ref 86, .int nw, .int to, .int tm, .int hr, .int t, .int a, .int b, .int c, .int aq, .int bq, .int p]) (st1 := [.int (I 88 0), .int p]) (h1 := (124, I, J, R)) rfl ?_
  refine ev_br (b1 := true) rfl rfl (xcd_ge (x := p) (y := (I 88 0)) (by first | exact b1 | omega)) ?_
  refine ev_go 1 (pc1 := 151) (lv1 := [.ref 86, .int nw, .int to, .int tm, .int hr, .int t, .int a, .int b, .int c, .int aq, .int bq, .int p]) (st1 := [.int aq]) (h1 := (124, I, J, R)) rfl ?_
  refine ev_br (b1 := true) rfl rfl (xcd_eq (x := aq) (y := 0) (by rw [show ((0 : Int32)).toInt = 0 from by decide]; first | exact b2 | omega)) ?_
  refine ev_go 1 (pc1 := 173) (lv1 := [.ref 86, .int nw, .int to, .int tm, .int hr, .int t, .int a, .int b, .int c, .int aq, .int bq, .int p]) (st1 := [.int bq]) (h1 := (124, I, J, R)) rfl ?_
  refine ev_br (b1 := false) rfl rfl (xcd_neq (x := bq) (y := 0) (by rw [show ((0 : Int32)).toInt = 0 from by decide]; first | exact b3 | omega)) ?_
  refine ev_go 8 (pc1 := 190) (lv1 := [.ref 86, .int nw, .int to, .int tm, .int hr, .int t, .int a, .int b, .int c, .int aq, .int bq, .int p]) (st1 := [.int c, .int a, .int (10 - c), .int b, .int b, .ref 86]) (h1 := (124, I, J, R)) rfl ?_
  refine ev_call (v1 := none) (h1 := (124, I, J1, R)) rfl rfl c1 ?_
  refine ev_go 1 (pc1 := 194) (lv1 := [.ref 86, .int nw, .int to, .int tm, .int hr, .int t, .int a, .int b, .int c, .int aq, .int bq, .int p]) (st1 := [.ref 86]) (h1 := (124, I, J1, R)) rfl ?_
  refine ev_call (v1 := none) (h1 := (124, I, J2, R)) rfl rfl c2 ?_
  refine ev_go 6 (pc1 := 207) (lv1 := [.ref 86, .int nw, .int to, .int tm, .int hr, .int t, .int a, .int b, .int c, .int aq, .int bq, .int p]) (st1 := []) (h1 := (124, (uI I 86 40 ((I 86 40) + 1)), J2, R)) rfl ?_
  refine ev_iinc (x := t) (y := dx1) (lv1 := [.ref 86, .int nw, .int to, .int tm, .int hr, .int dx1, .int a, .int b, .int c, .int aq, .int bq, .int p]) rfl rfl (by rw [show Int32.ofInt (-1) = (-1) from by decide]; exact i1) rfl ?_
  refine ev_go 1 (pc1 := 24) (lv1 := [.ref 86, .int nw, .int to, .int tm, .int hr, .int dx1, .int a, .int b, .int c, .int aq, .int bq, .int p]) (st1 := []) (h1 := (124, (uI I 86 40 ((I 86 40) + 1)), J2, R)) rfl ?_
  exact hk
theorem qib_run {L : Nat} {xs : Nat → Int32} {d : Nat} {I : Nat → Nat → Int32} {J : Nat → Nat → Int64} {R : Nat → Nat → Nat} (hG : aGd R) {n w : Int32} (h0 : 0 ≤ n.toInt) (h1 : n.toInt < 8) : ((((I 100 n.toNatClampNeg) >>> (w &&& 31)) &&& 1).toInt = 1 ∧ xEv L xs d 179 0 [.ref 86, .int n, .int w] [] (124, I, J, R) (some (.int 1)) (124, I, J, R)) ∨ ((((I 100 n.toNatClampNeg) >>> (w &&& 31)) &&& 1).toInt = 0 ∧ xEv L xs d 179 0 [.ref 86, .int n, .int w] [] (124, I, J, R) (some (.int 0)) (124, I, J, R)) := by
  have b := ai_andr (x := (I 100 n.toNatClampNeg) >>> (w &&& 31)) (y := 1) (by decide)
  rw [show (1 : Int32).toInt = 1 from by decide] at b
  by_cases h : (((I 100 n.toNatClampNeg) >>> (w &&& 31)) &&& 1).toInt = 1
  · exact Or.inl ⟨h, qib_1 hG h0 h1 h⟩
  · exact Or.inr ⟨by omega, qib_0 hG h0 h1 h⟩
/-- all rows ten times (or more) -/
theorem qqs_all {L : Nat} {xs : Nat → Int32} {d : Nat} {I : Nat → Nat → Int32} {J : Nat → Nat → Int64} {R : Nat → Nat → Nat} (hG : aGd R) {nw to tm hr t a b c aq bq : Int32} {np sN : Nat} (hnp : (I 88 0).toInt = np) (n7 : np ≤ 7) (s8 : sN + 1 ≤ 128) (g : rG J) (hv : ∀ p, p < np → rV J p ≤ tn sN) : ∃ J', (∀ (v : Option Value) (h' : xH) (x : Int32), x.toInt = np → xEv L xs (d + 1) 189 119 [.ref 86, .int nw, .int to, .int tm, .int hr, .int t, .int a, .int b, .int c, .int aq, .int bq, .int x] [] (124, I, J', R) v h' → xEv L xs (d + 1) 189 119 [.ref 86, .int nw, .int to, .int tm, .int hr, .int t, .int a, .int b, .int c, .int aq, .int bq, .int 0] [] (124, I, J, R) v h') ∧ (∀ c q, ¬ (c = 108 ∧ 112 ≤ q ∧ q < 224) → J' c q = J c q) ∧ rG J' ∧ (∀ p, p < 7 → rV J' p = rV J p) ∧ ∀ p, p < np → rV J' (7 + p) = 10 * rV J p := by
  have e10 : (10 : Int32).toInt = 10 := by decide
  have e0 : (0 : Int32).toInt = 0 := by decide
  have lp : ∀ (f kN : Nat) (k : Int32) (J2 : Nat → Nat → Int64), kN + f = np → k.toInt = kN → rG J2 → (∀ c q, ¬ (c = 108 ∧ 112 ≤ q ∧ q < 224) → J2 c q = J c q) → (∀ p, p < kN → rV J2 (7 + p) = 10 * rV J p) → ∃ J', (∀ (v : Option Value) (h' : xH) (x : Int32), x.toInt = np → xEv L xs (d + 1) 189 119 [.ref 86, .int nw, .int to, .int tm, .int hr, .int t, .int a, .int b, .int c, .int aq, .int bq, .int x] [] (124, I, J', R) v h' → xEv L xs (d + 1) 189 119 [.ref 86, .int nw, .int to, .int tm, .int hr, .int t, .int a, .int b, .int c, .int aq, .int bq, .int k] [] (124, I, J2, R) v h') ∧ (∀ c q, ¬ (c = 108 ∧ 112 ≤ q ∧ q < 224) → J' c q = J c q) ∧ rG J' ∧ ∀ p, p < np → rV J' (7 + p) = 10 * rV J p := by
    intro f
    induction f with
    | zero =>
      intro kN k J2 hk ek hg hF hV
      have e : kN = np := by omega
      subst e
      exact ⟨J2, fun v h' x hx z => by rw [show k = x from Int32.toInt_inj.mp (by omega)]; exact z, hF, hg, hV⟩
    | succ f ih =>
      intro kN k J2 hk ek hg hF hV
      have hk' : (k + 1).toInt = (kN + 1 : Nat) := by rw [i_add1 (by omega)]; omega
      have lowV : ∀ p, p < 7 → rV J2 p = rV J p := fun p hp => sT_c _ (fun i hi => by
        show (J2 108 (16 * p + i)).toInt = (J 108 (16 * p + i)).toInt
        rw [hF _ _ (by omega)])
      have b0 := (rV_b (g kN (by omega))).1
      have t1 := hv kN (by omega)
      have t2 := tn_lt (show sN + 1 < 9 * 16 by omega)
      have t3 : tn (sN + 1) = tn sN * 10 := tn_1 sN
      obtain ⟨J3, y1, y2, y3, y4⟩ := qqm_run (L := L) (xs := xs) (d := d) (I := I) (J := J2) hG (p := k) (a := k) (u := 10) (b := k) (v := 0) ek ek ek (by omega) (by omega) (by omega) (by omega) (by omega) (by omega) (by omega) hg (by rw [lowV kN (by omega), e10, e0]; omega)
      rw [e10, e0, lowV kN (by omega), Int.zero_mul, Int.add_zero] at y4
      obtain ⟨J', z1, z2, z3, z4⟩ := ih (kN + 1) (k + 1) J3 (by omega) hk' y3 (fun c q hc => by rw [y2 c q (by omega)]; exact hF c q hc) (fun p hp => by
        by_cases e : p = kN
        · rw [e]
          exact y4
        · rw [← hV p (by omega)]
          exact sT_c _ (fun i hi => by
            show (J3 108 (16 * (7 + p) + i)).toInt = (J2 108 (16 * (7 + p) + i)).toInt
            rw [y2 _ _ (by omega)]))
      exact ⟨J', fun v h' x hx z => qqs_p hG (by omega) y1 (z1 v h' x hx z), z2, z3, z4⟩
  obtain ⟨J', x1, x2, x3, x4⟩ := lp np 0 0 J (by omega) (by decide) g (fun _ _ _ => rfl) (fun p hp => absurd hp (by omega))
  exact ⟨J', x1, x2, x3, fun p hp => sT_c _ (fun i hi => by
    show (J' 108 (16 * p + i)).toInt = (J 108 (16 * p + i)).toInt
    rw [x2 _ _ (by omega)]), x4⟩
/-- the next rows come -/
theorem qqn_v {J J' : Nat → Nat → Int64} (x2 : ∀ c q, ¬ (c = 108 ∧ q < 112) → J' c q = J c q) (x3 : ∀ q, q < 112 → J' 108 q = J 108 (112 + q)) (g : rG J) : rG J' ∧ ∀ p, p < 7 → rV J' p = rV J (7 + p) := by
  refine ⟨fun p hp k hk => ?_, fun p hp => sT_c _ (fun i hi => ?_)⟩
  · by_cases h : p < 7
    · rw [x3 _ (by omega), show 112 + (16 * p + k) = 16 * (7 + p) + k from by omega]
      exact g (7 + p) (by omega) k hk
    · rw [x2 _ _ (by omega)]
      exact g p hp k hk
  · show (J' 108 (16 * p + i)).toInt = (J 108 (16 * (7 + p) + i)).toInt
    rw [x3 _ (by omega), show 112 + (16 * p + i) = 16 * (7 + p) + i from by omega]
/-- one time in the reference -/
theorem qqs_step {L : Nat} {xs : Nat → Int32} {d : Nat} {I : Nat → Nat → Int32} {J : Nat → Nat → Int64} {R : Nat → Nat → Nat} (hG : aGd R) {nw to tm hr t : Int32} {w6 w7 w8 w9 wa wb : Value} {np sN mN : Nat} {aN bN cN : Nat} (hnp : (I 88 0).toInt = np) (n7 : np ≤ 7) (s8 : sN + 1 ≤ 128) (hs : (I 86 40).toInt = sN) (g : rG J) (hv : ∀ p, p < np → rV J p ≤ tn sN) (ht : tm.toInt ≤ t.toInt) (t0 : 0 ≤ t.toInt) (t64 : t.toInt < 64) (hm : (I 101 t.toNatClampNeg).toInt = mN) (m16 : mN < 16) (ha : (I 92 mN).toInt = aN) (hb : (I 93 mN).toInt = bN) (hc : (I 95 mN).toInt = cN) (an : aN < np) (bn : bN < np) (hab : aN ≠ bN) (c10 : cN ≤ 10) (n0 : 0 ≤ nw.toInt) (n8 : nw.toInt < 8) :
    ∃ (J' : Nat → Nat → Int64) (w6' w7' w8' w9' wa' wb' : Value) (dx : Int32), t + (-1) = dx ∧ (∀ (v : Option Value) (h' : xH), xEv L xs (d + 1) 189 24 [.ref 86, .int nw, .int to, .int tm, .int hr, .int dx, w6', w7', w8', w9', wa', wb'] [] (124, uI I 86 40 (I 86 40 + 1), J', R) v h' → xEv L xs (d + 1) 189 24 [.ref 86, .int nw, .int to, .int tm, .int hr, .int t, w6, w7, w8, w9, wa, wb] [] (124, I, J, R) v h') ∧ rG J' ∧
      ((¬ ((((I 100 nw.toNatClampNeg) >>> (I 93 mN &&& 31)) &&& 1).toInt = 0 ∧ rV J aN < rV J bN) ∧ ¬ ((((I 100 nw.toNatClampNeg) >>> (I 92 mN &&& 31)) &&& 1).toInt = 0 ∧ rV J bN < rV J aN) ∧ ∀ p, p < np → rV J' p = 10 * rV J p) ∨
       (((((I 100 nw.toNatClampNeg) >>> (I 93 mN &&& 31)) &&& 1).toInt = 0 ∧ rV J aN < rV J bN) ∧ rV J' aN = (10 - cN) * rV J aN + cN * rV J bN ∧ ∀ p, p < np → p ≠ aN → rV J' p = 10 * rV J p) ∨
       (((((I 100 nw.toNatClampNeg) >>> (I 92 mN &&& 31)) &&& 1).toInt = 0 ∧ rV J bN < rV J aN) ∧ rV J' bN = (10 - cN) * rV J bN + cN * rV J aN ∧ ∀ p, p < np → p ≠ bN → rV J' p = 10 * rV J p)) := by
  have ec := clamp_s (i := t) t0
  have ecm := clamp_s (i := I 101 t.toNatClampNeg) (by omega)
  have ekm : (I 101 t.toNatClampNeg).toNatClampNeg = mN := by omega
  have m1 := oA (L := L) (xs := xs) (d := d) (I := I) (J := J) (t := t) hG t0 t64 (by omega) (by omega)
  have m2 := tA (L := L) (xs := xs) (d := d) (I := I) (J := J) (t := t) hG t0 t64 (by omega) (by omega)
  rw [ekm] at m1 m2
  obtain ⟨dx, hdx⟩ : ∃ dx, t + (-1) = dx := ⟨_, rfl⟩
  have kb := qib_run (L := L) (xs := xs) (d := d) (I := I) (J := J) hG (n := nw) (w := I 93 mN) n0 n8
  have ka := qib_run (L := L) (xs := xs) (d := d) (I := I) (J := J) hG (n := nw) (w := I 92 mN) n0 n8
  obtain ⟨o1, x1, o1'⟩ := qqk_run (L := L) (xs := xs) (d := d) (I := I) (J := J) hG hb ha (by omega) (by omega) (g bN (by omega)) (g aN (by omega))
  obtain ⟨o2, x2, o2'⟩ := qqk_run (L := L) (xs := xs) (d := d) (I := I) (J := J) hG ha hb (by omega) (by omega) (g aN (by omega)) (g bN (by omega))
  -- who tells
  have first : ∃ aq : Int32, (aq = 0 ∨ aq = 1) ∧ (aq = 1 ↔ ((((I 100 nw.toNatClampNeg) >>> (I 93 mN &&& 31)) &&& 1).toInt = 0 ∧ rV J aN < rV J bN)) ∧ ∀ (v : Option Value) (h' : xH), xEv L xs (d + 1) 189 88 [.ref 86, .int nw, .int to, .int tm, .int hr, .int t, .int (I 92 mN), .int (I 93 mN), .int (I 95 mN), .int aq, wa, wb] [] (124, I, J, R) v h' → xEv L xs (d + 1) 189 24 [.ref 86, .int nw, .int to, .int tm, .int hr, .int t, w6, w7, w8, w9, wa, wb] [] (124, I, J, R) v h' := by
    rcases kb with ⟨hb1, xb⟩ | ⟨hb0, xb⟩
    · exact ⟨0, Or.inl rfl, ⟨fun h => absurd h (by decide), fun h => by rw [hb1] at h; exact absurd h.1 (by decide)⟩, fun v h' z => qqs_0 hG (by omega) m1 m2 t0 (by omega) (by omega) (by omega) xb (by rw [ekm]; exact z)⟩
    · by_cases ho : o1.toInt ≤ 0
      · exact ⟨0, Or.inl rfl, ⟨fun h => absurd h (by decide), fun h => by omega⟩, fun v h' z => qqs_1 hG (by omega) m1 m2 t0 (by omega) (by omega) (by omega) xb x1 ho (by rw [ekm]; exact z)⟩
      · exact ⟨1, Or.inr rfl, ⟨fun _ => ⟨hb0, by omega⟩, fun _ => rfl⟩, fun v h' z => qqs_2 hG (by omega) m1 m2 t0 (by omega) (by omega) (by omega) xb x1 (by omega) (by rw [ekm]; exact z)⟩
  obtain ⟨aq, aq01, aqI, fa⟩ := first
  have second : ∃ bq : Int32, (bq = 0 ∨ bq = 1) ∧ (bq = 1 ↔ ((((I 100 nw.toNatClampNeg) >>> (I 92 mN &&& 31)) &&& 1).toInt = 0 ∧ rV J bN < rV J aN)) ∧ ∀ (v : Option Value) (h' : xH), xEv L xs (d + 1) 189 119 [.ref 86, .int nw, .int to, .int tm, .int hr, .int t, .int (I 92 mN), .int (I 93 mN), .int (I 95 mN), .int aq, .int bq, .int 0] [] (124, I, J, R) v h' → xEv L xs (d + 1) 189 88 [.ref 86, .int nw, .int to, .int tm, .int hr, .int t, .int (I 92 mN), .int (I 93 mN), .int (I 95 mN), .int aq, wa, wb] [] (124, I, J, R) v h' := by
    rcases ka with ⟨ha1, xa⟩ | ⟨ha0, xa⟩
    · exact ⟨0, Or.inl rfl, ⟨fun h => absurd h (by decide), fun h => by rw [ha1] at h; exact absurd h.1 (by decide)⟩, fun v h' z => qqs_3 hG xa z⟩
    · by_cases ho : o2.toInt ≤ 0
      · exact ⟨0, Or.inl rfl, ⟨fun h => absurd h (by decide), fun h => by omega⟩, fun v h' z => qqs_4 hG xa x2 ho z⟩
      · exact ⟨1, Or.inr rfl, ⟨fun _ => ⟨ha0, by omega⟩, fun _ => rfl⟩, fun v h' z => qqs_5 hG xa x2 (by omega) z⟩
  obtain ⟨bq, bq01, bqI, fb⟩ := second
  obtain ⟨J1, y1, y2, y3, y4, y5⟩ := qqs_all (L := L) (xs := xs) (d := d) (I := I) (J := J) hG (nw := nw) (to := to) (tm := tm) (hr := hr) (t := t) (a := I 92 mN) (b := I 93 mN) (c := I 95 mN) (aq := aq) (bq := bq) hnp n7 s8 g hv
  have e0 : (0 : Int32).toInt = 0 := by decide
  have e1 : (1 : Int32).toInt = 1 := by decide
  have e10 : (10 : Int32).toInt = 10 := by decide
  have ec10 : (10 - I 95 mN).toInt = 10 - cN := by rw [i_sub (by omega) (by omega), e10, hc]
  have t3 : tn (sN + 1) = tn sN * 10 := tn_1 sN
  have t2 := tn_lt (show sN + 1 < 9 * 16 by omega)
  have va := hv aN an
  have vb := hv bN bn
  have a0 := (rV_b (g aN (by omega))).1
  have b0 := (rV_b (g bN (by omega))).1
  -- one row mixed, then the next rows come
  have mixed : ∀ (lo hi : Int32) (lN hN : Nat), lo.toInt = lN → hi.toInt = hN → lN < np → hN < np → rV J lN ≤ tn sN → rV J hN ≤ tn sN → 0 ≤ rV J lN → 0 ≤ rV J hN → ∃ J2 J3, xEv L xs d 192 0 [.ref 86, .int lo, .int lo, .int (10 - I 95 mN), .int hi, .int (I 95 mN), xmk, xmk, xmk, xmk, xmk] [] (124, I, J1, R) none (124, I, J2, R) ∧ xEv L xs d 193 0 [.ref 86, xmk] [] (124, I, J2, R) none (124, I, J3, R) ∧ rG J3 ∧ rV J3 lN = (10 - cN) * rV J lN + cN * rV J hN ∧ ∀ p, p < np → p ≠ lN → rV J3 p = 10 * rV J p := by
    intro lo hi lN hN el eh ln hn v1 v2 v3 v4
    have p1 := Int.mul_le_mul_of_nonneg_left v1 (show (0 : Int) ≤ 10 - cN by omega)
    have p2 := Int.mul_le_mul_of_nonneg_left v2 (show (0 : Int) ≤ cN by omega)
    have p3 : (10 - (cN : Int)) * tn sN + cN * tn sN = 10 * tn sN := by rw [← Int.add_mul]; congr 1; omega
    obtain ⟨J2, z1, z2, z3, z4⟩ := qqm_run (L := L) (xs := xs) (d := d) (I := I) (J := J1) hG (p := lo) (a := lo) (u := 10 - I 95 mN) (b := hi) (v := I 95 mN) el el eh (by omega) (by omega) (by omega) (by omega) (by omega) (by omega) (by omega) y3 (by rw [y4 lN (by omega), y4 hN (by omega), ec10, hc]; omega)
    rw [y4 lN (by omega), y4 hN (by omega), ec10, hc] at z4
    obtain ⟨J3, u1, u2, u3⟩ := qqn_run (L := L) (xs := xs) (d := d) (I := I) (J := J2) hG
    obtain ⟨g3, u4⟩ := qqn_v u2 u3 z3
    refine ⟨J2, J3, z1, u1, g3, by rw [u4 lN (by omega), z4], fun p hp hne => ?_⟩
    rw [u4 p (by omega), ← y5 p hp]
    exact sT_c _ (fun i hi => by
      show (J2 108 (16 * (7 + p) + i)).toInt = (J1 108 (16 * (7 + p) + i)).toInt
      rw [z2 _ _ (by omega)])
  have enp : (I 88 0).toInt = np := hnp
  by_cases qa : aq = 1
  · obtain ⟨qa1, qa2⟩ := aqI.mp qa
    have qb : bq = 0 := by
      rcases bq01 with h | h
      · exact h
      · have := (bqI.mp h).2
        omega
    obtain ⟨J2, J3, z1, z2, z3, z4, z5⟩ := mixed (I 92 mN) (I 93 mN) aN bN ha hb an bn va vb a0 b0
    exact ⟨J3, _, _, _, _, _, _, dx, hdx, fun v h' z => fa v h' (fb v h' (y1 v h' (I 88 0) enp (qqs_7 hG (by omega) (by rw [qa, e1]; decide) z1 (by rw [qb]; exact e0) z2 hdx z))), z3, Or.inr (Or.inl ⟨⟨qa1, qa2⟩, z4, z5⟩)⟩
  · have qa0 : aq = 0 := by rcases aq01 with h | h; exact h; exact absurd h qa
    by_cases qb : bq = 1
    · obtain ⟨qb1, qb2⟩ := bqI.mp qb
      obtain ⟨J2, J3, z1, z2, z3, z4, z5⟩ := mixed (I 93 mN) (I 92 mN) bN aN hb ha bn an vb va b0 a0
      exact ⟨J3, _, _, _, _, _, _, dx, hdx, fun v h' z => fa v h' (fb v h' (y1 v h' (I 88 0) enp (qqs_8 hG (by omega) (by rw [qa0]; exact e0) (by rw [qb, e1]; decide) z1 z2 hdx z))), z3, Or.inr (Or.inr ⟨⟨qb1, qb2⟩, z4, z5⟩)⟩
    · have qb0 : bq = 0 := by rcases bq01 with h | h; exact h; exact absurd h qb
      obtain ⟨J3, u1, u2, u3⟩ := qqn_run (L := L) (xs := xs) (d := d) (I := I) (J := J1) hG
      obtain ⟨g3, u4⟩ := qqn_v u2 u3 y3
      exact ⟨J3, _, _, _, _, _, _, dx, hdx, fun v h' z => fa v h' (fb v h' (y1 v h' (I 88 0) enp (qqs_6 hG (by omega) (by rw [qa0]; exact e0) (by rw [qb0]; exact e0) u1 hdx z))), g3, Or.inl ⟨fun h => qa (aqI.mpr h), fun h => qb (bqI.mpr h), fun p hp => by rw [u4 p (by omega), y5 p hp]⟩⟩
set_option maxRecDepth 20000 in
theorem qb_s_3 {L : Nat} {xs : Nat → Int32} {d : Nat} {I : Nat → Nat → Int32} {J : Nat → Nat → Int64} {R : Nat → Nat → Nat} {I1 : Nat → Nat → Int32} {J1 : Nat → Nat → Int64} {bar to tm bh : Int32} (hG : aGd R) (c1 : xEv L xs d 70 0 [.ref 53, .int to, .int (bh - tm)] [] (124, I, J, R) none (124, I1, J1, R)) {v : Option Value} {h' : xH} (hk : xEv L xs (d + 1) 69 16 [.ref 53, .ref 17, .int bar, .int to, .int tm, .int bh, .int (bh - 1), xmk, xmk, xmk] [] (124, I1, J1, R) v h') : xEv L xs (d + 1) 69 0 [.ref 53, .ref 17, .int bar, .int to, .int tm, .int bh, xmk, xmk, xmk, xmk] [] (124, I, J, R) v h' := by
  refine ev_go 5 (pc1 := 7) (lv1 := [.ref 53, .ref 17, .int bar, .int to, .int tm, .int bh, xmk, xmk, xmk, xmk]) (st1 := [.int (bh - tm), .int to, .ref 53]) (h1 := (124, I, J, R)) rfl ?_
  refine ev_call (v1 := none) (h1 := (124, I1, J1, R)) rfl rfl c1 ?_
  refine ev_go 4 (pc1 := 16) (lv1 := [.ref 53, .ref 17, .int bar, .int to, .int tm, .int bh, .int (bh - 1), xmk, xmk, xmk]) (st1 := []) (h1 := (124, I1, J1, R)) rfl ?_
  exact hk
set_option maxRecDepth 20000 in
theorem qb_e_3 {L : Nat} {xs : Nat → Int32} {d : Nat} {I : Nat → Nat → Int32} {J : Nat → Nat → Int64} {R : Nat → Nat → Nat} {bar to tm bh t : Int32} {w7 w8 w9 : Value} (hG : aGd R) (b1 : t.toInt < tm.toInt) : xEv L xs d 69 16 [.ref 53, .ref 17, .int bar, .int to, .int tm, .int bh, .int t, w7, w8, w9] [] (124, I, J, R) none (124, I, J, R) := by
  refine ev_go 2 (pc1 := 20) (lv1 := [.ref 53, .ref 17, .int bar, .int to, .int tm, .int bh, .int t, w7, w8, w9]) (st1 := [.int tm, .int t]) (h1 := (124, I, J, R)) rfl ?_
  refine ev_br (b1 := true) rfl rfl (xcd_lt (x := t) (y := tm) (by first | exact b1 | omega)) ?_
  exact ev_ret rfl rfl
set_option maxRecDepth 20000 in
theorem qb_1_3 {L : Nat} {xs : Nat → Int32} {d : Nat} {I : Nat → Nat → Int32} {J : Nat → Nat → Int64} {R : Nat → Nat → Nat} {J1 : Nat → Nat → Int64} {bar to tm bh t a b o c dx1 : Int32} {w7 w8 w9 : Value} (hG : aGd R) (b1 : t.toInt ≥ tm.toInt) (c1 : xEv L xs d 39 0 [.ref 20, .int t] [] (124, I, J, R) (some (.int a)) (124, I, J, R)) (c2 : xEv L xs d 39 0 [.ref 21, .int t] [] (124, I, J, R) (some (.int b)) (124, I, J, R)) (c3 : xEv L xs d 72 0 [.ref 53, .int a, .int b, xmk, xmk] [] (124, I, J, R) (some (.int o)) (124, I, J, R)) (b2 : o.toInt < 0) (b3 : ((bar >>> (b &&& 31)) &&& 1).toInt = 0) (c4 : xEv L xs d 39 0 [.ref 22, .int t] [] (124, I, J, R) (some (.int c)) (124, I, J, R)) (c5 : xEv L xs d 74 0 [.ref 53, .int a, .int b, .int c] [] (124, I, J, R) none (124, I, J1, R)) (i1 : t + (-1) = dx1) {v : Option Value} {h' : xH} (hk : xEv L xs (d + 1) 69 16 [.ref 53, .ref 17, .int bar, .int to, .int tm, .int bh, .int dx1, .int a, .int b, .int o] [] (124, I, J1, R) v h') : xEv L xs (d + 1) 69 16 [.ref 53, .ref 17, .int bar, .int to, .int tm, .int bh, .int t, w7, w8, w9] [] (124, I, J, R) v h' := by
  refine ev_go 2 (pc1 := 20) (lv1 := [.ref 53, .ref 17, .int bar, .int to, .int tm, .int bh, .int t, w7, w8, w9]) (st1 := [.int tm, .int t]) (h1 := (124, I, J, R)) rfl ?_
  refine ev_br (b1 := false) rfl rfl (xcd_nlt (x := t) (y := tm) (by first | exact b1 | omega)) ?_
  refine ev_go 1 (pc1 := 24) (lv1 := [.ref 53, .ref 17, .int bar, .int to, .int tm, .int bh, .int t, w7, w8, w9]) (st1 := [.ref 17]) (h1 := (124, I, J, R)) rfl ?_
  refine ev_gf (c := 17) (t := 20) (X := R 17 2) rfl rfl (fun _ => rfl) rfl (hG 17 2 20 rfl rfl) ?_
  refine ev_go 1 (pc1 := 29) (lv1 := [.ref 53, .ref 17, .int bar, .int to, .int tm, .int bh, .int t, w7, w8, w9]) (st1 := [.int t, .ref 20]) (h1 := (124, I, J, R)) rfl ?_
  refine ev_call (v1 := (some (.int a))) (h1 := (124, I, J, R)) rfl rfl c1 ?_
  refine ev_go 2 (pc1 := 35) (lv1 := [.ref 53, .ref 17, .int bar, .int to, .int tm, .int bh, .int t, .int a, w8, w9]) (st1 := [.ref 17]) (h1 := (124, I, J, R)) rfl ?_
  refine ev_gf (c := 17) (t := 21) (X := R 17 3) rfl rfl (fun _ => rfl) rfl (hG 17 3 21 rfl rfl) ?_
  refine ev_go 1 (pc1 := 40) (lv1 := [.ref 53, .ref 17, .int bar, .int to, .int tm, .int bh, .int t, .int a, w8, w9]) (st1 := [.int t, .ref 21]) (h1 := (124, I, J, R)) rfl ?_
  refine ev_call (v1 := (some (.int b))) (h1 := (124, I, J, R)) rfl rfl c2 ?_
  refine ev_go 4 (pc1 := 50) (lv1 := [.ref 53, .ref 17, .int bar, .int to, .int tm, .int bh, .int t, .int a, .int b, w9]) (st1 := [.int b, .int a, .ref 53]) (h1 := (124, I, J, R)) rfl ?_
  refine ev_call (v1 := (some (.int o))) (h1 := (124, I, J, R)) rfl rfl c3 ?_
  refine ev_go 2 (pc1 := 57) (lv1 := [.ref 53, .ref 17, .int bar, .int to, .int tm, .int bh, .int t, .int a, .int b, .int o]) (st1 := [.int o]) (h1 := (124, I, J, R)) rfl ?_
  refine ev_br (b1 := false) rfl rfl (xcd_nge (x := o) (y := 0) (by rw [show ((0 : Int32)).toInt = 0 from by decide]; first | exact b2 | omega)) ?_
  refine ev_go 2 (pc1 := 63) (lv1 := [.ref 53, .ref 17, .int bar, .int to, .int tm, .int bh, .int t, .int a, .int b, .int o]) (st1 := [.int b, .int bar]) (h1 := (124, I, J, R)) rfl ?_
  refine ev_go 3 (pc1 := 66) (lv1 := [.ref 53, .ref 17, .int bar, .int to, .int tm, .int bh, .int t, .int a, .int b, .int o]) (st1 := [.int ((bar >>> (b &&& 31)) &&& 1)]) (h1 := (124, I, J, R)) rfl ?_
  refine ev_br (b1 := false) rfl rfl (xcd_nne (x := ((bar >>> (b &&& 31)) &&& 1)) (y := 0) (by rw [show ((0 : Int32)).toInt = 0 from by decide]; first | exact b3 | omega)) ?_
  refine ev_go 4 (pc1 := 75) (lv1 := [.ref 53, .ref 17, .int bar, .int to, .int tm, .int bh, .int t, .int a, .int b, .int o]) (st1 := [.ref 17, .int b, .int a, .ref 53]) (h1 := (124, I, J, R)) rfl ?_
  refine ev_gf (c := 17) (t := 22) (X := R 17 4) rfl rfl (fun _ => rfl) rfl (hG 17 4 22 rfl rfl) ?_
  refine ev_go 1 (pc1 := 80) (lv1 := [.ref 53, .ref 17, .int bar, .int to, .int tm, .int bh, .int t, .int a, .int b, .int o]) (st1 := [.int t, .ref 22, .int b, .int a, .ref 53]) (h1 := (124, I, J, R)) rfl ?_
  refine ev_call (v1 := (some (.int c))) (h1 := (124, I, J, R)) rfl rfl c4 ?_
  refine ev_call (v1 := none) (h1 := (124, I, J1, R)) rfl rfl c5 ?_
  refine ev_go 1 (pc1 := 120) (lv1 := [.ref 53, .ref 17, .int bar, .int to, .int tm, .int bh, .int t, .int a, .int b, .int o]) (st1 := []) (h1 := (124, I, J1, R)) rfl ?_
  refine ev_iinc (x := t) (y := dx1) (lv1 := [.ref 53, .ref 17, .int bar, .int to, .int tm, .int bh, .int dx1, .int a, .int b, .int o]) rfl rfl (by rw [show Int32.ofInt (-1) = (-1) from by decide]; exact i1) rfl ?_
  refine ev_go 1 (pc1 := 16) (lv1 := [.ref 53, .ref 17, .int bar, .int to, .int tm, .int bh, .int dx1, .int a, .int b, .int o]) (st1 := []) (h1 := (124, I, J1, R)) rfl ?_
  exact hk
set_option maxRecDepth 20000 in
theorem qb_2_3 {L : Nat} {xs : Nat → Int32} {d : Nat} {I : Nat → Nat → Int32} {J : Nat → Nat → Int64} {R : Nat → Nat → Nat} {bar to tm bh t a b o dx1 : Int32} {w7 w8 w9 : Value} (hG : aGd R) (b1 : t.toInt ≥ tm.toInt) (c1 : xEv L xs d 39 0 [.ref 20, .int t] [] (124, I, J, R) (some (.int a)) (124, I, J, R)) (c2 : xEv L xs d 39 0 [.ref 21, .int t] [] (124, I, J, R) (some (.int b)) (124, I, J, R)) (c3 : xEv L xs d 72 0 [.ref 53, .int a, .int b, xmk, xmk] [] (124, I, J, R) (some (.int o)) (124, I, J, R)) (b2 : o.toInt < 0) (b3 : ((bar >>> (b &&& 31)) &&& 1).toInt ≠ 0) (b4 : o.toInt ≤ 0) (i1 : t + (-1) = dx1) {v : Option Value} {h' : xH} (hk : xEv L xs (d + 1) 69 16 [.ref 53, .ref 17, .int bar, .int to, .int tm, .int bh, .int dx1, .int a, .int b, .int o] [] (124, I, J, R) v h') : xEv L xs (d + 1) 69 16 [.ref 53, .ref 17, .int bar, .int to, .int tm, .int bh, .int t, w7, w8, w9] [] (124, I, J, R) v h' := by
  refine ev_go 2 (pc1 := 20) (lv1 := [.ref 53, .ref 17, .int bar, .int to, .int tm, .int bh, .int t, w7, w8, w9]) (st1 := [.int tm, .int t]) (h1 := (124, I, J, R)) rfl ?_
  refine ev_br (b1 := false) rfl rfl (xcd_nlt (x := t) (y := tm) (by first | exact b1 | omega)) ?_
  refine ev_go 1 (pc1 := 24) (lv1 := [.ref 53, .ref 17, .int bar, .int to, .int tm, .int bh, .int t, w7, w8, w9]) (st1 := [.ref 17]) (h1 := (124, I, J, R)) rfl ?_
  refine ev_gf (c := 17) (t := 20) (X := R 17 2) rfl rfl (fun _ => rfl) rfl (hG 17 2 20 rfl rfl) ?_
  refine ev_go 1 (pc1 := 29) (lv1 := [.ref 53, .ref 17, .int bar, .int to, .int tm, .int bh, .int t, w7, w8, w9]) (st1 := [.int t, .ref 20]) (h1 := (124, I, J, R)) rfl ?_
  refine ev_call (v1 := (some (.int a))) (h1 := (124, I, J, R)) rfl rfl c1 ?_
  refine ev_go 2 (pc1 := 35) (lv1 := [.ref 53, .ref 17, .int bar, .int to, .int tm, .int bh, .int t, .int a, w8, w9]) (st1 := [.ref 17]) (h1 := (124, I, J, R)) rfl ?_
  refine ev_gf (c := 17) (t := 21) (X := R 17 3) rfl rfl (fun _ => rfl) rfl (hG 17 3 21 rfl rfl) ?_
  refine ev_go 1 (pc1 := 40) (lv1 := [.ref 53, .ref 17, .int bar, .int to, .int tm, .int bh, .int t, .int a, w8, w9]) (st1 := [.int t, .ref 21]) (h1 := (124, I, J, R)) rfl ?_
  refine ev_call (v1 := (some (.int b))) (h1 := (124, I, J, R)) rfl rfl c2 ?_
  refine ev_go 4 (pc1 := 50) (lv1 := [.ref 53, .ref 17, .int bar, .int to, .int tm, .int bh, .int t, .int a, .int b, w9]) (st1 := [.int b, .int a, .ref 53]) (h1 := (124, I, J, R)) rfl ?_
  refine ev_call (v1 := (some (.int o))) (h1 := (124, I, J, R)) rfl rfl c3 ?_
  refine ev_go 2 (pc1 := 57) (lv1 := [.ref 53, .ref 17, .int bar, .int to, .int tm, .int bh, .int t, .int a, .int b, .int o]) (st1 := [.int o]) (h1 := (124, I, J, R)) rfl ?_
  refine ev_br (b1 := false) rfl rfl (xcd_nge (x := o) (y := 0) (by rw [show ((0 : Int32)).toInt = 0 from by decide]; first | exact b2 | omega)) ?_
  refine ev_go 2 (pc1 := 63) (lv1 := [.ref 53, .ref 17, .int bar, .int to, .int tm, .int bh, .int t, .int a, .int b, .int o]) (st1 := [.int b, .int bar]) (h1 := (124, I, J, R)) rfl ?_
  refine ev_go 3 (pc1 := 66) (lv1 := [.ref 53, .ref 17, .int bar, .int to, .int tm, .int bh, .int t, .int a, .int b, .int o]) (st1 := [.int ((bar >>> (b &&& 31)) &&& 1)]) (h1 := (124, I, J, R)) rfl ?_
  refine ev_br (b1 := true) rfl rfl (xcd_ne (x := ((bar >>> (b &&& 31)) &&& 1)) (y := 0) (by rw [show ((0 : Int32)).toInt = 0 from by decide]; first | exact b3 | omega)) ?_
  refine ev_go 1 (pc1 := 91) (lv1 := [.ref 53, .ref 17, .int bar, .int to, .int tm, .int bh, .int t, .int a, .int b, .int o]) (st1 := [.int o]) (h1 := (124, I, J, R)) rfl ?_
  refine ev_br (b1 := true) rfl rfl (xcd_le (x := o) (y := 0) (by rw [show ((0 : Int32)).toInt = 0 from by decide]; first | exact b4 | omega)) ?_
  refine ev_iinc (x := t) (y := dx1) (lv1 := [.ref 53, .ref 17, .int bar, .int to, .int tm, .int bh, .int dx1, .int a, .int b, .int o]) rfl rfl (by rw [show Int32.ofInt (-1) = (-1) from by decide]; exact i1) rfl ?_
  refine ev_go 1 (pc1 := 16) (lv1 := [.ref 53, .ref 17, .int bar, .int to, .int tm, .int bh, .int dx1, .int a, .int b, .int o]) (st1 := []) (h1 := (124, I, J, R)) rfl ?_
  exact hk
set_option maxRecDepth 20000 in
theorem qb_3_3 {L : Nat} {xs : Nat → Int32} {d : Nat} {I : Nat → Nat → Int32} {J : Nat → Nat → Int64} {R : Nat → Nat → Nat} {bar to tm bh t a b o dx1 : Int32} {w7 w8 w9 : Value} (hG : aGd R) (b1 : t.toInt ≥ tm.toInt) (c1 : xEv L xs d 39 0 [.ref 20, .int t] [] (124, I, J, R) (some (.int a)) (124, I, J, R)) (c2 : xEv L xs d 39 0 [.ref 21, .int t] [] (124, I, J, R) (some (.int b)) (124, I, J, R)) (c3 : xEv L xs d 72 0 [.ref 53, .int a, .int b, xmk, xmk] [] (124, I, J, R) (some (.int o)) (124, I, J, R)) (b2 : o.toInt ≥ 0) (b3 : o.toInt ≤ 0) (i1 : t + (-1) = dx1) {v : Option Value} {h' : xH} (hk : xEv L xs (d + 1) 69 16 [.ref 53, .ref 17, .int bar, .int to, .int tm, .int bh, .int dx1, .int a, .int b, .int o] [] (124, I, J, R) v h') : xEv L xs (d + 1) 69 16 [.ref 53, .ref 17, .int bar, .int to, .int tm, .int bh, .int t, w7, w8, w9] [] (124, I, J, R) v h' := by
  refine ev_go 2 (pc1 := 20) (lv1 := [.ref 53, .ref 17, .int bar, .int to, .int tm, .int bh, .int t, w7, w8, w9]) (st1 := [.int tm, .int t]) (h1 := (124, I, J, R)) rfl ?_
  refine ev_br (b1 := false) rfl rfl (xcd_nlt (x := t) (y := tm) (by first | exact b1 | omega)) ?_
  refine ev_go 1 (pc1 := 24) (lv1 := [.ref 53, .ref 17, .int bar, .int to, .int tm, .int bh, .int t, w7, w8, w9]) (st1 := [.ref 17]) (h1 := (124, I, J, R)) rfl ?_
  refine ev_gf (c := 17) (t := 20) (X := R 17 2) rfl rfl (fun _ => rfl) rfl (hG 17 2 20 rfl rfl) ?_
  refine ev_go 1 (pc1 := 29) (lv1 := [.ref 53, .ref 17, .int bar, .int to, .int tm, .int bh, .int t, w7, w8, w9]) (st1 := [.int t, .ref 20]) (h1 := (124, I, J, R)) rfl ?_
  refine ev_call (v1 := (some (.int a))) (h1 := (124, I, J, R)) rfl rfl c1 ?_
  refine ev_go 2 (pc1 := 35) (lv1 := [.ref 53, .ref 17, .int bar, .int to, .int tm, .int bh, .int t, .int a, w8, w9]) (st1 := [.ref 17]) (h1 := (124, I, J, R)) rfl ?_
  refine ev_gf (c := 17) (t := 21) (X := R 17 3) rfl rfl (fun _ => rfl) rfl (hG 17 3 21 rfl rfl) ?_
  refine ev_go 1 (pc1 := 40) (lv1 := [.ref 53, .ref 17, .int bar, .int to, .int tm, .int bh, .int t, .int a, w8, w9]) (st1 := [.int t, .ref 21]) (h1 := (124, I, J, R)) rfl ?_
  refine ev_call (v1 := (some (.int b))) (h1 := (124, I, J, R)) rfl rfl c2 ?_
  refine ev_go 4 (pc1 := 50) (lv1 := [.ref 53, .ref 17, .int bar, .int to, .int tm, .int bh, .int t, .int a, .int b, w9]) (st1 := [.int b, .int a, .ref 53]) (h1 := (124, I, J, R)) rfl ?_
  refine ev_call (v1 := (some (.int o))) (h1 := (124, I, J, R)) rfl rfl c3 ?_
  refine ev_go 2 (pc1 := 57) (lv1 := [.ref 53, .ref 17, .int bar, .int to, .int tm, .int bh, .int t, .int a, .int b, .int o]) (st1 := [.int o]) (h1 := (124, I, J, R)) rfl ?_
  refine ev_br (b1 := true) rfl rfl (xcd_ge (x := o) (y := 0) (by rw [show ((0 : Int32)).toInt = 0 from by decide]; first | exact b2 | omega)) ?_
  refine ev_go 1 (pc1 := 91) (lv1 := [.ref 53, .ref 17, .int bar, .int to, .int tm, .int bh, .int t, .int a, .int b, .int o]) (st1 := [.int o]) (h1 := (124, I, J, R)) rfl ?_
  refine ev_br (b1 := true) rfl rfl (xcd_le (x := o) (y := 0) (by rw [show ((0 : Int32)).toInt = 0 from by decide]; first | exact b3 | omega)) ?_
  refine ev_iinc (x := t) (y := dx1) (lv1 := [.ref 53, .ref 17, .int bar, .int to, .int tm, .int bh, .int dx1, .int a, .int b, .int o]) rfl rfl (by rw [show Int32.ofInt (-1) = (-1) from by decide]; exact i1) rfl ?_
  refine ev_go 1 (pc1 := 16) (lv1 := [.ref 53, .ref 17, .int bar, .int to, .int tm, .int bh, .int dx1, .int a, .int b, .int o]) (st1 := []) (h1 := (124, I, J, R)) rfl ?_
  exact hk
set_option maxRecDepth 20000 in
theorem qb_4_3 {L : Nat} {xs : Nat → Int32} {d : Nat} {I : Nat → Nat → Int32} {J : Nat → Nat → Int64} {R : Nat → Nat → Nat} {bar to tm bh t a b o dx1 : Int32} {w7 w8 w9 : Value} (hG : aGd R) (b1 : t.toInt ≥ tm.toInt) (c1 : xEv L xs d 39 0 [.ref 20, .int t] [] (124, I, J, R) (some (.int a)) (124, I, J, R)) (c2 : xEv L xs d 39 0 [.ref 21, .int t] [] (124, I, J, R) (some (.int b)) (124, I, J, R)) (c3 : xEv L xs d 72 0 [.ref 53, .int a, .int b, xmk, xmk] [] (124, I, J, R) (some (.int o)) (124, I, J, R)) (b2 : o.toInt ≥ 0) (b3 : o.toInt > 0) (b4 : ((bar >>> (a &&& 31)) &&& 1).toInt ≠ 0) (i1 : t + (-1) = dx1) {v : Option Value} {h' : xH} (hk : xEv L xs (d + 1) 69 16 [.ref 53, .ref 17, .int bar, .int to, .int tm, .int bh, .int dx1, .int a, .int b, .int o] [] (124, I, J, R) v h') : xEv L xs (d + 1) 69 16 [.ref 53, .ref 17, .int bar, .int to, .int tm, .int bh, .int t, w7, w8, w9] [] (124, I, J, R) v h' := by
  refine ev_go 2 (pc1 := 20) (lv1 := [.ref 53, .ref 17, .int bar, .int to, .int tm, .int bh, .int t, w7, w8, w9]) (st1 := [.int tm, .int t]) (h1 := (124, I, J, R)) rfl ?_
  refine ev_br (b1 := false) rfl rfl (xcd_nlt (x := t) (y := tm) (by first | exact b1 | omega)) ?_
  refine ev_go 1 (pc1 := 24) (lv1 := [.ref 53, .ref 17, .int bar, .int to, .int tm, .int bh, .int t, w7, w8, w9]) (st1 := [.ref 17]) (h1 := (124, I, J, R)) rfl ?_
  refine ev_gf (c := 17) (t := 20) (X := R 17 2) rfl rfl (fun _ => rfl) rfl (hG 17 2 20 rfl rfl) ?_
  refine ev_go 1 (pc1 := 29) (lv1 := [.ref 53, .ref 17, .int bar, .int to, .int tm, .int bh, .int t, w7, w8, w9]) (st1 := [.int t, .ref 20]) (h1 := (124, I, J, R)) rfl ?_
  refine ev_call (v1 := (some (.int a))) (h1 := (124, I, J, R)) rfl rfl c1 ?_
  refine ev_go 2 (pc1 := 35) (lv1 := [.ref 53, .ref 17, .int bar, .int to, .int tm, .int bh, .int t, .int a, w8, w9]) (st1 := [.ref 17]) (h1 := (124, I, J, R)) rfl ?_
  refine ev_gf (c := 17) (t := 21) (X := R 17 3) rfl rfl (fun _ => rfl) rfl (hG 17 3 21 rfl rfl) ?_
  refine ev_go 1 (pc1 := 40) (lv1 := [.ref 53, .ref 17, .int bar, .int to, .int tm, .int bh, .int t, .int a, w8, w9]) (st1 := [.int t, .ref 21]) (h1 := (124, I, J, R)) rfl ?_
  refine ev_call (v1 := (some (.int b))) (h1 := (124, I, J, R)) rfl rfl c2 ?_
  refine ev_go 4 (pc1 := 50) (lv1 := [.ref 53, .ref 17, .int bar, .int to, .int tm, .int bh, .int t, .int a, .int b, w9]) (st1 := [.int b, .int a, .ref 53]) (h1 := (124, I, J, R)) rfl ?_
  refine ev_call (v1 := (some (.int o))) (h1 := (124, I, J, R)) rfl rfl c3 ?_
  refine ev_go 2 (pc1 := 57) (lv1 := [.ref 53, .ref 17, .int bar, .int to, .int tm, .int bh, .int t, .int a, .int b, .int o]) (st1 := [.int o]) (h1 := (124, I, J, R)) rfl ?_
  refine ev_br (b1 := true) rfl rfl (xcd_ge (x := o) (y := 0) (by rw [show ((0 : Int32)).toInt = 0 from by decide]; first | exact b2 | omega)) ?_
  refine ev_go 1 (pc1 := 91) (lv1 := [.ref 53, .ref 17, .int bar, .int to, .int tm, .int bh, .int t, .int a, .int b, .int o]) (st1 := [.int o]) (h1 := (124, I, J, R)) rfl ?_
  refine ev_br (b1 := false) rfl rfl (xcd_nle (x := o) (y := 0) (by rw [show ((0 : Int32)).toInt = 0 from by decide]; first | exact b3 | omega)) ?_
  refine ev_go 2 (pc1 := 97) (lv1 := [.ref 53, .ref 17, .int bar, .int to, .int tm, .int bh, .int t, .int a, .int b, .int o]) (st1 := [.int a, .int bar]) (h1 := (124, I, J, R)) rfl ?_
  refine ev_go 3 (pc1 := 100) (lv1 := [.ref 53, .ref 17, .int bar, .int to, .int tm, .int bh, .int t, .int a, .int b, .int o]) (st1 := [.int ((bar >>> (a &&& 31)) &&& 1)]) (h1 := (124, I, J, R)) rfl ?_
  refine ev_br (b1 := true) rfl rfl (xcd_ne (x := ((bar >>> (a &&& 31)) &&& 1)) (y := 0) (by rw [show ((0 : Int32)).toInt = 0 from by decide]; first | exact b4 | omega)) ?_
  refine ev_iinc (x := t) (y := dx1) (lv1 := [.ref 53, .ref 17, .int bar, .int to, .int tm, .int bh, .int dx1, .int a, .int b, .int o]) rfl rfl (by rw [show Int32.ofInt (-1) = (-1) from by decide]; exact i1) rfl ?_
  refine ev_go 1 (pc1 := 16) (lv1 := [.ref 53, .ref 17, .int bar, .int to, .int tm, .int bh, .int dx1, .int a, .int b, .int o]) (st1 := []) (h1 := (124, I, J, R)) rfl ?_
  exact hk
set_option maxRecDepth 20000 in
theorem qb_5_3 {L : Nat} {xs : Nat → Int32} {d : Nat} {I : Nat → Nat → Int32} {J : Nat → Nat → Int64} {R : Nat → Nat → Nat} {J1 : Nat → Nat → Int64} {bar to tm bh t a b o c dx1 : Int32} {w7 w8 w9 : Value} (hG : aGd R) (b1 : t.toInt ≥ tm.toInt) (c1 : xEv L xs d 39 0 [.ref 20, .int t] [] (124, I, J, R) (some (.int a)) (124, I, J, R)) (c2 : xEv L xs d 39 0 [.ref 21, .int t] [] (124, I, J, R) (some (.int b)) (124, I, J, R)) (c3 : xEv L xs d 72 0 [.ref 53, .int a, .int b, xmk, xmk] [] (124, I, J, R) (some (.int o)) (124, I, J, R)) (b2 : o.toInt ≥ 0) (b3 : o.toInt > 0) (b4 : ((bar >>> (a &&& 31)) &&& 1).toInt = 0) (c4 : xEv L xs d 39 0 [.ref 22, .int t] [] (124, I, J, R) (some (.int c)) (124, I, J, R)) (c5 : xEv L xs d 74 0 [.ref 53, .int b, .int a, .int c] [] (124, I, J, R) none (124, I, J1, R)) (i1 : t + (-1) = dx1) {v : Option Value} {h' : xH} (hk : xEv L xs (d + 1) 69 16 [.ref 53, .ref 17, .int bar, .int to, .int tm, .int bh, .int dx1, .int a, .int b, .int o] [] (124, I, J1, R) v h') : xEv L xs (d + 1) 69 16 [.ref 53, .ref 17, .int bar, .int to, .int tm, .int bh, .int t, w7, w8, w9] [] (124, I, J, R) v h' := by
  refine ev_go 2 (pc1 := 20) (lv1 := [.ref 53, .ref 17, .int bar, .int to, .int tm, .int bh, .int t, w7, w8, w9]) (st1 := [.int tm, .int t]) (h1 := (124, I, J, R)) rfl ?_
  refine ev_br (b1 := false) rfl rfl (xcd_nlt (x := t) (y := tm) (by first | exact b1 | omega)) ?_
  refine ev_go 1 (pc1 := 24) (lv1 := [.ref 53, .ref 17, .int bar, .int to, .int tm, .int bh, .int t, w7, w8, w9]) (st1 := [.ref 17]) (h1 := (124, I, J, R)) rfl ?_
  refine ev_gf (c := 17) (t := 20) (X := R 17 2) rfl rfl (fun _ => rfl) rfl (hG 17 2 20 rfl rfl) ?_
  refine ev_go 1 (pc1 := 29) (lv1 := [.ref 53, .ref 17, .int bar, .int to, .int tm, .int bh, .int t, w7, w8, w9]) (st1 := [.int t, .ref 20]) (h1 := (124, I, J, R)) rfl ?_
  refine ev_call (v1 := (some (.int a))) (h1 := (124, I, J, R)) rfl rfl c1 ?_
  refine ev_go 2 (pc1 := 35) (lv1 := [.ref 53, .ref 17, .int bar, .int to, .int tm, .int bh, .int t, .int a, w8, w9]) (st1 := [.ref 17]) (h1 := (124, I, J, R)) rfl ?_
  refine ev_gf (c := 17) (t := 21) (X := R 17 3) rfl rfl (fun _ => rfl) rfl (hG 17 3 21 rfl rfl) ?_
  refine ev_go 1 (pc1 := 40) (lv1 := [.ref 53, .ref 17, .int bar, .int to, .int tm, .int bh, .int t, .int a, w8, w9]) (st1 := [.int t, .ref 21]) (h1 := (124, I, J, R)) rfl ?_
  refine ev_call (v1 := (some (.int b))) (h1 := (124, I, J, R)) rfl rfl c2 ?_
  refine ev_go 4 (pc1 := 50) (lv1 := [.ref 53, .ref 17, .int bar, .int to, .int tm, .int bh, .int t, .int a, .int b, w9]) (st1 := [.int b, .int a, .ref 53]) (h1 := (124, I, J, R)) rfl ?_
  refine ev_call (v1 := (some (.int o))) (h1 := (124, I, J, R)) rfl rfl c3 ?_
  refine ev_go 2 (pc1 := 57) (lv1 := [.ref 53, .ref 17, .int bar, .int to, .int tm, .int bh, .int t, .int a, .int b, .int o]) (st1 := [.int o]) (h1 := (124, I, J, R)) rfl ?_
  refine ev_br (b1 := true) rfl rfl (xcd_ge (x := o) (y := 0) (by rw [show ((0 : Int32)).toInt = 0 from by decide]; first | exact b2 | omega)) ?_
  refine ev_go 1 (pc1 := 91) (lv1 := [.ref 53, .ref 17, .int bar, .int to, .int tm, .int bh, .int t, .int a, .int b, .int o]) (st1 := [.int o]) (h1 := (124, I, J, R)) rfl ?_
  refine ev_br (b1 := false) rfl rfl (xcd_nle (x := o) (y := 0) (by rw [show ((0 : Int32)).toInt = 0 from by decide]; first | exact b3 | omega)) ?_
  refine ev_go 2 (pc1 := 97) (lv1 := [.ref 53, .ref 17, .int bar, .int to, .int tm, .int bh, .int t, .int a, .int b, .int o]) (st1 := [.int a, .int bar]) (h1 := (124, I, J, R)) rfl ?_
  refine ev_go 3 (pc1 := 100) (lv1 := [.ref 53, .ref 17, .int bar, .int to, .int tm, .int bh, .int t, .int a, .int b, .int o]) (st1 := [.int ((bar >>> (a &&& 31)) &&& 1)]) (h1 := (124, I, J, R)) rfl ?_
  refine ev_br (b1 := false) rfl rfl (xcd_nne (x := ((bar >>> (a &&& 31)) &&& 1)) (y := 0) (by rw [show ((0 : Int32)).toInt = 0 from by decide]; first | exact b4 | omega)) ?_
  refine ev_go 4 (pc1 := 109) (lv1 := [.ref 53, .ref 17, .int bar, .int to, .int tm, .int bh, .int t, .int a, .int b, .int o]) (st1 := [.ref 17, .int a, .int b, .ref 53]) (h1 := (124, I, J, R)) rfl ?_
  refine ev_gf (c := 17) (t := 22) (X := R 17 4) rfl rfl (fun _ => rfl) rfl (hG 17 4 22 rfl rfl) ?_
  refine ev_go 1 (pc1 := 114) (lv1 := [.ref 53, .ref 17, .int bar, .int to, .int tm, .int bh, .int t, .int a, .int b, .int o]) (st1 := [.int t, .ref 22, .int a, .int b, .ref 53]) (h1 := (124, I, J, R)) rfl ?_
  refine ev_call (v1 := (some (.int c))) (h1 := (124, I, J, R)) rfl rfl c4 ?_
  refine ev_call (v1 := none) (h1 := (124, I, J1, R)) rfl rfl c5 ?_
  refine ev_iinc (x := t) (y := dx1) (lv1 := [.ref 53, .ref 17, .int bar, .int to, .int tm, .int bh, .int dx1, .int a, .int b, .int o]) rfl rfl (by rw [show Int32.ofInt (-1) = (-1) from by decide]; exact i1) rfl ?_
  refine ev_go 1 (pc1 := 16) (lv1 := [.ref 53, .ref 17, .int bar, .int to, .int tm, .int bh, .int dx1, .int a, .int b, .int o]) (st1 := []) (h1 := (124, I, J1, R)) rfl ?_
  exact hk
/-- one time in the class -/
theorem qb_step_3 {L : Nat} {xs : Nat → Int32} {d : Nat} {I : Nat → Nat → Int32} {J : Nat → Nat → Int64} {R : Nat → Nat → Nat} (hG : aGd R) {bar to tm bh t : Int32} {w7 w8 w9 : Value} {un tN aN bN cN : Nat} (hu : (I 53 1).toInt = un) (h1 : 1 ≤ un) (h9 : un ≤ 9) (gj : cG J un) (ht : tm.toInt ≤ t.toInt) (et : t.toInt = tN) (t64 : tN < 64) (ha : (I 20 tN).toInt = aN) (hb : (I 21 tN).toInt = bN) (hc : (I 22 tN).toInt = cN) (an : aN < 7) (bn : bN < 7) (hab : aN ≠ bN) (c10 : cN ≤ 10) (va : cV J un aN ≤ tn (16 * (un - 1))) (vb : cV J un bN ≤ tn (16 * (un - 1))) {m : Int} (hx : cN * (cV J un aN - cV J un bN) = 10 * m) :
    ∃ (J' : Nat → Nat → Int64) (w7' w8' w9' : Value), (∀ (v : Option Value) (h' : xH) (dx : Int32), t + (-1) = dx → xEv L xs (d + 3) 69 16 [.ref 53, .ref 17, .int bar, .int to, .int tm, .int bh, .int dx, w7', w8', w9'] [] (124, I, J', R) v h' → xEv L xs (d + 3) 69 16 [.ref 53, .ref 17, .int bar, .int to, .int tm, .int bh, .int t, w7, w8, w9] [] (124, I, J, R) v h') ∧ (∀ c, c ≠ 54 → ∀ q, J' c q = J c q) ∧ cG J' un ∧
      ((¬ (((bar >>> (I 21 tN &&& 31)) &&& 1).toInt = 0 ∧ cV J un aN < cV J un bN) ∧ ¬ (((bar >>> (I 20 tN &&& 31)) &&& 1).toInt = 0 ∧ cV J un bN < cV J un aN) ∧ ∀ p, p < 7 → cV J' un p = cV J un p) ∨
       ((((bar >>> (I 21 tN &&& 31)) &&& 1).toInt = 0 ∧ cV J un aN < cV J un bN) ∧ cV J' un aN = cV J un aN - m ∧ ∀ p, p < 7 → p ≠ aN → cV J' un p = cV J un p) ∨
       ((((bar >>> (I 20 tN &&& 31)) &&& 1).toInt = 0 ∧ cV J un bN < cV J un aN) ∧ cV J' un bN = cV J un bN + m ∧ ∀ p, p < 7 → p ≠ bN → cV J' un p = cV J un p)) := by
  have ec := clamp_s (i := t) (by omega)
  have ekt : t.toNatClampNeg = tN := by omega
  have at1 : ∀ c, (∀ g : FieldType → Nat → Option xR, xarr (124, I, J, R) c g = g .int 64) → ∀ d, xEv L xs d 39 0 [.ref c, .int t] [] (124, I, J, R) (some (.int (I c tN))) (124, I, J, R) := by
    intro c ho d
    have h4 := at_run (L := L) (xs := xs) (d := d) (h := (124, I, J, R)) ho (by decide) t
    rw [if_pos ⟨by omega, by omega⟩, ekt] at h4
    exact h4
  have k1 := at1 20 (fun _ => rfl) (d + 2)
  have k2 := at1 21 (fun _ => rfl) (d + 2)
  have k3 := at1 22 (fun _ => rfl) (d + 2)
  obtain ⟨o, x1, x2⟩ := qc_run (L := L) (xs := xs) (d := d + 1) (I := I) (J := J) hG hu h1 h9 ha hb (by omega) (by omega) (gj.1 aN (by omega)) (gj.1 bN (by omega))
  have bitb := ai_andr (x := bar >>> (I 21 tN &&& 31)) (y := 1) (by decide)
  have bita := ai_andr (x := bar >>> (I 20 tN &&& 31)) (y := 1) (by decide)
  by_cases ho : o.toInt < 0
  · by_cases hb0 : ((bar >>> (I 21 tN &&& 31)) &&& 1).toInt = 0
    · have hmm : (I 22 tN).toInt * (cV J un bN - cV J un aN) = 10 * (-m) := by
        rw [hc, Int.mul_neg, ← hx, ← Int.mul_neg]
        congr 1
        omega
      obtain ⟨J', y1, y2, y3, y4, y5⟩ := qr_run (L := L) (xs := xs) (d := d) (I := I) (J := J) hG (lo := I 20 tN) (hi := I 21 tN) (t := I 22 tN) hu h1 h9 ha hb an bn hab (by omega) (by omega) gj (by omega) vb hmm
      exact ⟨J', _, _, _, fun v h' dx hdx z => qb_1_3 hG (by omega) k1 k2 x1 ho hb0 k3 y1 hdx z, y2, y3, Or.inr (Or.inl ⟨⟨hb0, by omega⟩, by rw [y4]; omega, y5⟩)⟩
    · exact ⟨J, _, _, _, fun v h' dx hdx z => qb_2_3 hG (by omega) k1 k2 x1 ho (by omega) (by omega) hdx z, fun _ _ _ => rfl, gj, Or.inl ⟨fun h => hb0 h.1, fun h => by omega, fun _ _ => rfl⟩⟩
  · by_cases ho2 : o.toInt ≤ 0
    · exact ⟨J, _, _, _, fun v h' dx hdx z => qb_3_3 hG (by omega) k1 k2 x1 (by omega) ho2 hdx z, fun _ _ _ => rfl, gj, Or.inl ⟨fun h => by omega, fun h => by omega, fun _ _ => rfl⟩⟩
    · by_cases ha0 : ((bar >>> (I 20 tN &&& 31)) &&& 1).toInt = 0
      · have hmm : (I 22 tN).toInt * (cV J un aN - cV J un bN) = 10 * m := by rw [hc]; exact hx
        obtain ⟨J', y1, y2, y3, y4, y5⟩ := qr_run (L := L) (xs := xs) (d := d) (I := I) (J := J) hG (lo := I 21 tN) (hi := I 20 tN) (t := I 22 tN) hu h1 h9 hb ha bn an (fun h => hab h.symm) (by omega) (by omega) gj (by omega) va hmm
        exact ⟨J', _, _, _, fun v h' dx hdx z => qb_5_3 hG (by omega) k1 k2 x1 (by omega) (by omega) ha0 k3 y1 hdx z, y2, y3, Or.inr (Or.inr ⟨⟨ha0, by omega⟩, y4, y5⟩)⟩
      · exact ⟨J, _, _, _, fun v h' dx hdx z => qb_4_3 hG (by omega) k1 k2 x1 (by omega) (by omega) ha0 hdx z, fun _ _ _ => rfl, gj, Or.inl ⟨fun h => by omega, fun h => ha0 h.1, fun _ _ => rfl⟩⟩
theorem tmz_3 {np nm nn : Nat} {l : List (Nat × Nat)} {I Ir : Nat → Nat → Int32} (hV : VR_3 np nm nn l I Ir) {t : Nat} (h : t < l.length) : ∃ b, b < nm ∧ nm ≤ 16 ∧ (Ir 101 t).toInt = (b : Int) ∧ I 20 t = Ir 92 b ∧ I 21 t = Ir 93 b ∧ I 22 t = Ir 95 b ∧ 0 ≤ (Ir 92 b).toInt ∧ (Ir 92 b).toInt < np ∧ 0 ≤ (Ir 93 b).toInt ∧ (Ir 93 b).toInt < np ∧ (Ir 92 b).toInt ≠ (Ir 93 b).toInt := by
  obtain ⟨⟨p1, p2, p3⟩, p4, p5, p6, ⟨q1, q2⟩, ⟨q3, q4⟩, ⟨q5, q6⟩, q7, q8, q9, ⟨q10, q11⟩, q12, q13, q14, q15, -⟩ := hV
  have hb := (p6 l[t] (List.getElem_mem h)).2
  obtain ⟨-, -, -, w4, w5, w6, w7⟩ := q12 t (l[t]).1 (l[t]).2 (List.getElem?_eq_getElem h)
  obtain ⟨e1, e2, -⟩ := q8 _ hb
  obtain ⟨r1, r2, r3, r4, r5⟩ := q15 _ hb
  rw [e1] at r1 r2 r5
  rw [e2] at r3 r4 r5
  exact ⟨(l[t]).2, hb, p2, w4, w5, w6, w7, r1, r2, r3, r4, r5⟩
/-- class and reference: the same chances, behind s tens -/
theorem qlb_3 {L : Nat} {xs : Nat → Int32} {d d' : Nat} {R Rr : Nat → Nat → Nat} (hG : aGd R) (hGr : aGd Rr) {np nm nn : Nat} {l : List (Nat × Nat)} {I0 I Ir0 : Nat → Nat → Int32} (hV : VR_3 np nm nn l I0 Ir0) (hI : ∀ c k, ¬ (c = 53 ∧ k = 1) → I c k = I0 c k) (hch : ∀ q, q < 16 → 0 ≤ (Ir0 95 q).toInt ∧ (Ir0 95 q).toInt ≤ 10) {to tm bh nw hr : Int32} {un tmN : Nat} (hu : (I 53 1).toInt = un) (h1 : 1 ≤ un) (h9 : un ≤ 9) (htm : tm.toInt = tmN) (n0 : 0 ≤ nw.toInt) (n4 : nw.toInt < nn) : ∀ (n sN : Nat) (t : Int32) (w7 w8 w9 u6 u7 u8 u9 ua ub : Value) (Ir : Nat → Nat → Int32) (J Jr : Nat → Nat → Int64), t.toInt = (tmN : Int) + n - 1 → tmN + n ≤ l.length → sN + n ≤ 16 * (un - 1) → sN + n ≤ 128 → (∀ c k, ¬ (c = 86 ∧ k = 40) → Ir c k = Ir0 c k) → (Ir 86 40).toInt = sN → cG J un → rG Jr → (∀ p, p < np → cV J un p = rV Jr p * tn (16 * (un - 1) - sN) ∧ rV Jr p ≤ tn sN) →
    ∃ (Ir' : Nat → Nat → Int32) (J' Jr' : Nat → Nat → Int64), xEv L xs (d + 3) 69 16 [.ref 53, .ref 17, .int (Ir0 100 nw.toNatClampNeg), .int to, .int tm, .int bh, .int t, w7, w8, w9] [] (124, I, J, R) none (124, I, J', R) ∧ xEv L xs (d' + 1) 189 24 [.ref 86, .int nw, .int to, .int tm, .int hr, .int t, u6, u7, u8, u9, ua, ub] [] (124, Ir, Jr, Rr) none (124, Ir', Jr', Rr) ∧ (∀ c k, ¬ (c = 86 ∧ k = 40) → Ir' c k = Ir0 c k) ∧ (Ir' 86 40).toInt = (sN + n : Nat) ∧ (∀ c, c ≠ 54 → ∀ q, J' c q = J c q) ∧ cG J' un ∧ rG Jr' ∧ (∀ p, p < np → cV J' un p = rV Jr' p * tn (16 * (un - 1) - (sN + n)) ∧ rV Jr' p ≤ tn (sN + n)) := by
  have hV0 := hV
  obtain ⟨⟨p1, p2, p3⟩, p4, p5, p6, ⟨q1, q2⟩, ⟨q3, q4⟩, ⟨q5, q6⟩, q7, -⟩ := hV
  intro n
  induction n with
  | zero =>
    intro sN t w7 w8 w9 u6 u7 u8 u9 ua ub Ir J Jr et tl sE s8 hIr hs gj gr hR
    exact ⟨Ir, J, Jr, qb_e_3 hG (by omega), qqs_e hGr (by omega), hIr, by rw [Nat.add_zero]; exact hs, fun _ _ _ => rfl, gj, gr, by rw [Nat.add_zero]; exact hR⟩
  | succ n ih =>
    intro sN t w7 w8 w9 u6 u7 u8 u9 ua ub Ir J Jr et tl sE s8 hIr hs gj gr hR
    obtain ⟨tN, htN⟩ : ∃ tN : Nat, tN = tmN + n := ⟨_, rfl⟩
    have et' : t.toInt = (tN : Nat) := by omega
    have ec := clamp_s (i := t) (by omega)
    have ekt : t.toNatClampNeg = tN := by omega
    obtain ⟨b, hb, -, e1, e2, e3, e4, g1, g2, g3, g4, g5⟩ := tmz_3 hV0 (t := tN) (by omega)
    obtain ⟨aN, ha⟩ := Int.eq_ofNat_of_zero_le g1
    obtain ⟨bN, hbN⟩ := Int.eq_ofNat_of_zero_le g3
    obtain ⟨cN, hcN⟩ := Int.eq_ofNat_of_zero_le (hch b (by omega)).1
    have c10 := (hch b (by omega)).2
    have hR' := fun p (hp : p < np) => hR p hp
    obtain ⟨ra, va⟩ := hR aN (by omega)
    obtain ⟨rb, vb⟩ := hR bN (by omega)
    have hR10 : ∀ p, p < np → rV Jr p ≤ tn sN := fun p hp => (hR p hp).2
    obtain ⟨E, hE⟩ : ∃ E, 16 * (un - 1) - sN = E + 1 := ⟨16 * (un - 1) - sN - 1, by omega⟩
    have hE2 : 16 * (un - 1) - (sN + 1) = E := by omega
    have tE : tn (E + 1) = tn E * 10 := tn_1 E
    have tpos := tn_pos E
    have tpos1 := tn_pos (E + 1)
    rw [hE] at ra rb
    have full : tn (16 * (un - 1)) = tn sN * tn (E + 1) := by rw [← tn_add]; congr 1; omega
    have ca : cV J un aN ≤ tn (16 * (un - 1)) := by rw [ra, full]; exact Int.mul_le_mul_of_nonneg_right va (Int.le_of_lt tpos1)
    have cb : cV J un bN ≤ tn (16 * (un - 1)) := by rw [rb, full]; exact Int.mul_le_mul_of_nonneg_right vb (Int.le_of_lt tpos1)
    have hx : (cN : Int) * (cV J un aN - cV J un bN) = 10 * (cN * (rV Jr aN - rV Jr bN) * tn E) := by
      rw [ra, rb, ← Int.sub_mul, tE]
      ac_rfl
    have lt1 : cV J un aN < cV J un bN ↔ rV Jr aN < rV Jr bN := by
      rw [ra, rb]
      exact ⟨fun h => Int.lt_of_mul_lt_mul_right h (Int.le_of_lt tpos1), fun h => Int.mul_lt_mul_of_pos_right h tpos1⟩
    have lt2 : cV J un bN < cV J un aN ↔ rV Jr bN < rV Jr aN := by
      rw [ra, rb]
      exact ⟨fun h => Int.lt_of_mul_lt_mul_right h (Int.le_of_lt tpos1), fun h => Int.mul_lt_mul_of_pos_right h tpos1⟩
    have f1 : I 20 tN = Ir0 92 b := by rw [hI _ _ (by omega)]; exact e2
    have f2 : I 21 tN = Ir0 93 b := by rw [hI _ _ (by omega)]; exact e3
    have f3 : I 22 tN = Ir0 95 b := by rw [hI _ _ (by omega)]; exact e4
    have ecn := clamp_s (i := nw) n0
    have r92 : Ir 92 b = Ir0 92 b := hIr _ _ (by omega)
    have r93 : Ir 93 b = Ir0 93 b := hIr _ _ (by omega)
    have r95 : Ir 95 b = Ir0 95 b := hIr _ _ (by omega)
    have r100 : Ir 100 nw.toNatClampNeg = Ir0 100 nw.toNatClampNeg := hIr _ _ (by omega)
    obtain ⟨J1, w7', w8', w9', x1, x2, x3, x4⟩ := qb_step_3 (L := L) (xs := xs) (d := d) (I := I) (J := J) hG (bar := Ir0 100 nw.toNatClampNeg) (to := to) (tm := tm) (bh := bh) (t := t) (w7 := w7) (w8 := w8) (w9 := w9) hu h1 h9 gj (by omega) et' (by omega) (by rw [f1]; exact ha) (by rw [f2]; exact hbN) (by rw [f3]; exact hcN) (by omega) (by omega) (by omega) (by omega) ca cb hx
    obtain ⟨Jr1, u6', u7', u8', u9', ua', ub', dx, hdx, y1, y2, y3⟩ := qqs_step (L := L) (xs := xs) (d := d') (I := Ir) (J := Jr) hGr (nw := nw) (to := to) (tm := tm) (hr := hr) (t := t) (w6 := u6) (w7 := u7) (w8 := u8) (w9 := u9) (wa := ua) (wb := ub) (np := np) (sN := sN) (mN := b) (aN := aN) (bN := bN) (cN := cN) (by rw [hIr _ _ (by omega)]; exact q2) p1 (by omega) hs gr hR10 (by omega) (by omega) (by omega) (by rw [ekt, hIr _ _ (by omega)]; exact e1) (by omega) (by rw [r92]; exact ha) (by rw [r93]; exact hbN) (by rw [r95]; exact hcN) (by omega) (by omega) (by omega) (by omega) n0 (by omega)
    rw [r100, r93, r92] at y3
    rw [f1, f2] at x4
    have edx : dx.toInt = (tmN : Int) + n - 1 := by
      rw [← hdx, i_add (by rw [show (-1 : Int32).toInt = -1 from by decide]; omega) (by rw [show (-1 : Int32).toInt = -1 from by decide]; omega), show (-1 : Int32).toInt = -1 from by decide]
      omega
    have t3 : tn (sN + 1) = tn sN * 10 := tn_1 sN
    have s40 : ((uI Ir 86 40 (Ir 86 40 + 1)) 86 40).toInt = (sN + 1 : Nat) := by rw [uI_s, i_add1 (by omega)]; omega
    -- the relation one time on
    have same : ∀ p, p < np → cV J1 un p = cV J un p → rV Jr1 p = 10 * rV Jr p → cV J1 un p = rV Jr1 p * tn (16 * (un - 1) - (sN + 1)) ∧ rV Jr1 p ≤ tn (sN + 1) := by
      intro p hp h1 h2
      obtain ⟨k1, k2⟩ := hR p hp
      refine ⟨?_, by omega⟩
      rw [h1, k1, h2, hE2, hE, tE]
      ac_rfl
    have mixd : ∀ (lo hi : Nat), lo < np → hi < np → cV J1 un lo = cV J un lo + cN * (rV Jr hi - rV Jr lo) * tn E → rV Jr1 lo = (10 - cN) * rV Jr lo + cN * rV Jr hi → cV J1 un lo = rV Jr1 lo * tn (16 * (un - 1) - (sN + 1)) ∧ rV Jr1 lo ≤ tn (sN + 1) := by
      intro lo hi hlo hhi h1 h2
      obtain ⟨k1, k2⟩ := hR lo hlo
      obtain ⟨k3, k4⟩ := hR hi hhi
      have m1 := Int.mul_le_mul_of_nonneg_left k2 (show (0 : Int) ≤ 10 - cN by omega)
      have m2 := Int.mul_le_mul_of_nonneg_left k4 (show (0 : Int) ≤ cN by omega)
      have m3 : (10 - (cN : Int)) * tn sN + cN * tn sN = 10 * tn sN := by rw [← Int.add_mul]; congr 1; omega
      refine ⟨?_, by omega⟩
      rw [h1, k1, h2, hE2, hE, tE, Int.add_mul, Int.sub_mul, Int.sub_mul, Int.mul_sub, Int.sub_mul]
      have z1 : rV Jr lo * (tn E * 10) = 10 * rV Jr lo * tn E := by ac_rfl
      rw [z1]
      omega
    have hR1 : ∀ p, p < np → cV J1 un p = rV Jr1 p * tn (16 * (un - 1) - (sN + 1)) ∧ rV Jr1 p ≤ tn (sN + 1) := by
      rcases x4 with ⟨k1, k2, k3⟩ | ⟨k1, k2, k3⟩ | ⟨k1, k2, k3⟩
      · rcases y3 with ⟨z1, z2, z3⟩ | ⟨z1, z2, z3⟩ | ⟨z1, z2, z3⟩
        · exact fun p hp => same p hp (k3 p (by omega)) (z3 p hp)
        · exact absurd ⟨z1.1, lt1.mpr z1.2⟩ k1
        · exact absurd ⟨z1.1, lt2.mpr z1.2⟩ k2
      · rcases y3 with ⟨z1, z2, z3⟩ | ⟨z1, z2, z3⟩ | ⟨z1, z2, z3⟩
        · exact absurd ⟨k1.1, lt1.mp k1.2⟩ z1
        · intro p hp
          by_cases e : p = aN
          · rw [e]
            refine mixd aN bN (by omega) (by omega) ?_ z2
            rw [k2, ← Int.neg_sub (rV Jr aN), Int.mul_neg, Int.neg_mul]
            omega
          · exact same p hp (k3 p (by omega) e) (z3 p hp e)
        · have := lt1.mp k1.2
          omega
      · rcases y3 with ⟨z1, z2, z3⟩ | ⟨z1, z2, z3⟩ | ⟨z1, z2, z3⟩
        · exact absurd ⟨k1.1, lt2.mp k1.2⟩ z2
        · have := lt2.mp k1.2
          omega
        · intro p hp
          by_cases e : p = bN
          · rw [e]
            exact mixd bN aN (by omega) (by omega) k2 z2
          · exact same p hp (k3 p (by omega) e) (z3 p hp e)
    obtain ⟨Ir', J', Jr', v1, v2, v3, v4, v5, v6, v7, v8⟩ := ih (sN + 1) dx w7' w8' w9' u6' u7' u8' u9' ua' ub' (uI Ir 86 40 (Ir 86 40 + 1)) J1 Jr1 edx (by omega) (by omega) (by omega) (fun c k hc => by rw [uI_n _ _ hc]; exact hIr c k hc) s40 x3 y2 hR1
    rw [show sN + 1 + n = sN + (n + 1) from by omega] at v4 v8
    exact ⟨Ir', J', Jr', x1 _ _ dx hdx v1, y1 _ _ v2, v3, v4, fun c hc q => by rw [v5 c hc q, x2 c hc q], v6, v7, v8⟩
set_option maxRecDepth 20000 in
theorem qb_s_23 {L : Nat} {xs : Nat → Int32} {d : Nat} {I : Nat → Nat → Int32} {J : Nat → Nat → Int64} {R : Nat → Nat → Nat} {I1 : Nat → Nat → Int32} {J1 : Nat → Nat → Int64} {bar to tm bh : Int32} (hG : aGd R) (c1 : xEv L xs d 70 0 [.ref 53, .int to, .int (bh - tm)] [] (124, I, J, R) none (124, I1, J1, R)) {v : Option Value} {h' : xH} (hk : xEv L xs (d + 1) 69 16 [.ref 53, .ref 37, .int bar, .int to, .int tm, .int bh, .int (bh - 1), xmk, xmk, xmk] [] (124, I1, J1, R) v h') : xEv L xs (d + 1) 69 0 [.ref 53, .ref 37, .int bar, .int to, .int tm, .int bh, xmk, xmk, xmk, xmk] [] (124, I, J, R) v h' := by
  refine ev_go 5 (pc1 := 7) (lv1 := [.ref 53, .ref 37, .int bar, .int to, .int tm, .int bh, xmk, xmk, xmk, xmk]) (st1 := [.int (bh - tm), .int to, .ref 53]) (h1 := (124, I, J, R)) rfl ?_
  refine ev_call (v1 := none) (h1 := (124, I1, J1, R)) rfl rfl c1 ?_
  refine ev_go 4 (pc1 := 16) (lv1 := [.ref 53, .ref 37, .int bar, .int to, .int tm, .int bh, .int (bh - 1), xmk, xmk, xmk]) (st1 := []) (h1 := (124, I1, J1, R)) rfl ?_
  exact hk
set_option maxRecDepth 20000 in
theorem qb_e_23 {L : Nat} {xs : Nat → Int32} {d : Nat} {I : Nat → Nat → Int32} {J : Nat → Nat → Int64} {R : Nat → Nat → Nat} {bar to tm bh t : Int32} {w7 w8 w9 : Value} (hG : aGd R) (b1 : t.toInt < tm.toInt) : xEv L xs d 69 16 [.ref 53, .ref 37, .int bar, .int to, .int tm, .int bh, .int t, w7, w8, w9] [] (124, I, J, R) none (124, I, J, R) := by
  refine ev_go 2 (pc1 := 20) (lv1 := [.ref 53, .ref 37, .int bar, .int to, .int tm, .int bh, .int t, w7, w8, w9]) (st1 := [.int tm, .int t]) (h1 := (124, I, J, R)) rfl ?_
  refine ev_br (b1 := true) rfl rfl (xcd_lt (x := t) (y := tm) (by first | exact b1 | omega)) ?_
  exact ev_ret rfl rfl
set_option maxRecDepth 20000 in
theorem qb_1_23 {L : Nat} {xs : Nat → Int32} {d : Nat} {I : Nat → Nat → Int32} {J : Nat → Nat → Int64} {R : Nat → Nat → Nat} {J1 : Nat → Nat → Int64} {bar to tm bh t a b o c dx1 : Int32} {w7 w8 w9 : Value} (hG : aGd R) (b1 : t.toInt ≥ tm.toInt) (c1 : xEv L xs d 39 0 [.ref 40, .int t] [] (124, I, J, R) (some (.int a)) (124, I, J, R)) (c2 : xEv L xs d 39 0 [.ref 41, .int t] [] (124, I, J, R) (some (.int b)) (124, I, J, R)) (c3 : xEv L xs d 72 0 [.ref 53, .int a, .int b, xmk, xmk] [] (124, I, J, R) (some (.int o)) (124, I, J, R)) (b2 : o.toInt < 0) (b3 : ((bar >>> (b &&& 31)) &&& 1).toInt = 0) (c4 : xEv L xs d 39 0 [.ref 42, .int t] [] (124, I, J, R) (some (.int c)) (124, I, J, R)) (c5 : xEv L xs d 74 0 [.ref 53, .int a, .int b, .int c] [] (124, I, J, R) none (124, I, J1, R)) (i1 : t + (-1) = dx1) {v : Option Value} {h' : xH} (hk : xEv L xs (d + 1) 69 16 [.ref 53, .ref 37, .int bar, .int to, .int tm, .int bh, .int dx1, .int a, .int b, .int o] [] (124, I, J1, R) v h') : xEv L xs (d + 1) 69 16 [.ref 53, .ref 37, .int bar, .int to, .int tm, .int bh, .int t, w7, w8, w9] [] (124, I, J, R) v h' := by
  refine ev_go 2 (pc1 := 20) (lv1 := [.ref 53, .ref 37, .int bar, .int to, .int tm, .int bh, .int t, w7, w8, w9]) (st1 := [.int tm, .int t]) (h1 := (124, I, J, R)) rfl ?_
  refine ev_br (b1 := false) rfl rfl (xcd_nlt (x := t) (y := tm) (by first | exact b1 | omega)) ?_
  refine ev_go 1 (pc1 := 24) (lv1 := [.ref 53, .ref 37, .int bar, .int to, .int tm, .int bh, .int t, w7, w8, w9]) (st1 := [.ref 37]) (h1 := (124, I, J, R)) rfl ?_
  refine ev_gf (c := 37) (t := 40) (X := R 37 2) rfl rfl (fun _ => rfl) rfl (hG 37 2 40 rfl rfl) ?_
  refine ev_go 1 (pc1 := 29) (lv1 := [.ref 53, .ref 37, .int bar, .int to, .int tm, .int bh, .int t, w7, w8, w9]) (st1 := [.int t, .ref 40]) (h1 := (124, I, J, R)) rfl ?_
  refine ev_call (v1 := (some (.int a))) (h1 := (124, I, J, R)) rfl rfl c1 ?_
  refine ev_go 2 (pc1 := 35) (lv1 := [.ref 53, .ref 37, .int bar, .int to, .int tm, .int bh, .int t, .int a, w8, w9]) (st1 := [.ref 37]) (h1 := (124, I, J, R)) rfl ?_
  refine ev_gf (c := 37) (t := 41) (X := R 37 3) rfl rfl (fun _ => rfl) rfl (hG 37 3 41 rfl rfl) ?_
  refine ev_go 1 (pc1 := 40) (lv1 := [.ref 53, .ref 37, .int bar, .int to, .int tm, .int bh, .int t, .int a, w8, w9]) (st1 := [.int t, .ref 41]) (h1 := (124, I, J, R)) rfl ?_
  refine ev_call (v1 := (some (.int b))) (h1 := (124, I, J, R)) rfl rfl c2 ?_
  refine ev_go 4 (pc1 := 50) (lv1 := [.ref 53, .ref 37, .int bar, .int to, .int tm, .int bh, .int t, .int a, .int b, w9]) (st1 := [.int b, .int a, .ref 53]) (h1 := (124, I, J, R)) rfl ?_
  refine ev_call (v1 := (some (.int o))) (h1 := (124, I, J, R)) rfl rfl c3 ?_
  refine ev_go 2 (pc1 := 57) (lv1 := [.ref 53, .ref 37, .int bar, .int to, .int tm, .int bh, .int t, .int a, .int b, .int o]) (st1 := [.int o]) (h1 := (124, I, J, R)) rfl ?_
  refine ev_br (b1 := false) rfl rfl (xcd_nge (x := o) (y := 0) (by rw [show ((0 : Int32)).toInt = 0 from by decide]; first | exact b2 | omega)) ?_
  refine ev_go 2 (pc1 := 63) (lv1 := [.ref 53, .ref 37, .int bar, .int to, .int tm, .int bh, .int t, .int a, .int b, .int o]) (st1 := [.int b, .int bar]) (h1 := (124, I, J, R)) rfl ?_
  refine ev_go 3 (pc1 := 66) (lv1 := [.ref 53, .ref 37, .int bar, .int to, .int tm, .int bh, .int t, .int a, .int b, .int o]) (st1 := [.int ((bar >>> (b &&& 31)) &&& 1)]) (h1 := (124, I, J, R)) rfl ?_
  refine ev_br (b1 := false) rfl rfl (xcd_nne (x := ((bar >>> (b &&& 31)) &&& 1)) (y := 0) (by rw [show ((0 : Int32)).toInt = 0 from by decide]; first | exact b3 | omega)) ?_
  refine ev_go 4 (pc1 := 75) (lv1 := [.ref 53, .ref 37, .int bar, .int to, .int tm, .int bh, .int t, .int a, .int b, .int o]) (st1 := [.ref 37, .int b, .int a, .ref 53]) (h1 := (124, I, J, R)) rfl ?_
  refine ev_gf (c := 37) (t := 42) (X := R 37 4) rfl rfl (fun _ => rfl) rfl (hG 37 4 42 rfl rfl) ?_
  refine ev_go 1 (pc1 := 80) (lv1 := [.ref 53, .ref 37, .int bar, .int to, .int tm, .int bh, .int t, .int a, .int b, .int o]) (st1 := [.int t, .ref 42, .int b, .int a, .ref 53]) (h1 := (124, I, J, R)) rfl ?_
  refine ev_call (v1 := (some (.int c))) (h1 := (124, I, J, R)) rfl rfl c4 ?_
  refine ev_call (v1 := none) (h1 := (124, I, J1, R)) rfl rfl c5 ?_
  refine ev_go 1 (pc1 := 120) (lv1 := [.ref 53, .ref 37, .int bar, .int to, .int tm, .int bh, .int t, .int a, .int b, .int o]) (st1 := []) (h1 := (124, I, J1, R)) rfl ?_
  refine ev_iinc (x := t) (y := dx1) (lv1 := [.ref 53, .ref 37, .int bar, .int to, .int tm, .int bh, .int dx1, .int a, .int b, .int o]) rfl rfl (by rw [show Int32.ofInt (-1) = (-1) from by decide]; exact i1) rfl ?_
  refine ev_go 1 (pc1 := 16) (lv1 := [.ref 53, .ref 37, .int bar, .int to, .int tm, .int bh, .int dx1, .int a, .int b, .int o]) (st1 := []) (h1 := (124, I, J1, R)) rfl ?_
  exact hk
set_option maxRecDepth 20000 in
theorem qb_2_23 {L : Nat} {xs : Nat → Int32} {d : Nat} {I : Nat → Nat → Int32} {J : Nat → Nat → Int64} {R : Nat → Nat → Nat} {bar to tm bh t a b o dx1 : Int32} {w7 w8 w9 : Value} (hG : aGd R) (b1 : t.toInt ≥ tm.toInt) (c1 : xEv L xs d 39 0 [.ref 40, .int t] [] (124, I, J, R) (some (.int a)) (124, I, J, R)) (c2 : xEv L xs d 39 0 [.ref 41, .int t] [] (124, I, J, R) (some (.int b)) (124, I, J, R)) (c3 : xEv L xs d 72 0 [.ref 53, .int a, .int b, xmk, xmk] [] (124, I, J, R) (some (.int o)) (124, I, J, R)) (b2 : o.toInt < 0) (b3 : ((bar >>> (b &&& 31)) &&& 1).toInt ≠ 0) (b4 : o.toInt ≤ 0) (i1 : t + (-1) = dx1) {v : Option Value} {h' : xH} (hk : xEv L xs (d + 1) 69 16 [.ref 53, .ref 37, .int bar, .int to, .int tm, .int bh, .int dx1, .int a, .int b, .int o] [] (124, I, J, R) v h') : xEv L xs (d + 1) 69 16 [.ref 53, .ref 37, .int bar, .int to, .int tm, .int bh, .int t, w7, w8, w9] [] (124, I, J, R) v h' := by
  refine ev_go 2 (pc1 := 20) (lv1 := [.ref 53, .ref 37, .int bar, .int to, .int tm, .int bh, .int t, w7, w8, w9]) (st1 := [.int tm, .int t]) (h1 := (124, I, J, R)) rfl ?_
  refine ev_br (b1 := false) rfl rfl (xcd_nlt (x := t) (y := tm) (by first | exact b1 | omega)) ?_
  refine ev_go 1 (pc1 := 24) (lv1 := [.ref 53, .ref 37, .int bar, .int to, .int tm, .int bh, .int t, w7, w8, w9]) (st1 := [.ref 37]) (h1 := (124, I, J, R)) rfl ?_
  refine ev_gf (c := 37) (t := 40) (X := R 37 2) rfl rfl (fun _ => rfl) rfl (hG 37 2 40 rfl rfl) ?_
  refine ev_go 1 (pc1 := 29) (lv1 := [.ref 53, .ref 37, .int bar, .int to, .int tm, .int bh, .int t, w7, w8, w9]) (st1 := [.int t, .ref 40]) (h1 := (124, I, J, R)) rfl ?_
  refine ev_call (v1 := (some (.int a))) (h1 := (124, I, J, R)) rfl rfl c1 ?_
  refine ev_go 2 (pc1 := 35) (lv1 := [.ref 53, .ref 37, .int bar, .int to, .int tm, .int bh, .int t, .int a, w8, w9]) (st1 := [.ref 37]) (h1 := (124, I, J, R)) rfl ?_
  refine ev_gf (c := 37) (t := 41) (X := R 37 3) rfl rfl (fun _ => rfl) rfl (hG 37 3 41 rfl rfl) ?_
  refine ev_go 1 (pc1 := 40) (lv1 := [.ref 53, .ref 37, .int bar, .int to, .int tm, .int bh, .int t, .int a, w8, w9]) (st1 := [.int t, .ref 41]) (h1 := (124, I, J, R)) rfl ?_
  refine ev_call (v1 := (some (.int b))) (h1 := (124, I, J, R)) rfl rfl c2 ?_
  refine ev_go 4 (pc1 := 50) (lv1 := [.ref 53, .ref 37, .int bar, .int to, .int tm, .int bh, .int t, .int a, .int b, w9]) (st1 := [.int b, .int a, .ref 53]) (h1 := (124, I, J, R)) rfl ?_
  refine ev_call (v1 := (some (.int o))) (h1 := (124, I, J, R)) rfl rfl c3 ?_
  refine ev_go 2 (pc1 := 57) (lv1 := [.ref 53, .ref 37, .int bar, .int to, .int tm, .int bh, .int t, .int a, .int b, .int o]) (st1 := [.int o]) (h1 := (124, I, J, R)) rfl ?_
  refine ev_br (b1 := false) rfl rfl (xcd_nge (x := o) (y := 0) (by rw [show ((0 : Int32)).toInt = 0 from by decide]; first | exact b2 | omega)) ?_
  refine ev_go 2 (pc1 := 63) (lv1 := [.ref 53, .ref 37, .int bar, .int to, .int tm, .int bh, .int t, .int a, .int b, .int o]) (st1 := [.int b, .int bar]) (h1 := (124, I, J, R)) rfl ?_
  refine ev_go 3 (pc1 := 66) (lv1 := [.ref 53, .ref 37, .int bar, .int to, .int tm, .int bh, .int t, .int a, .int b, .int o]) (st1 := [.int ((bar >>> (b &&& 31)) &&& 1)]) (h1 := (124, I, J, R)) rfl ?_
  refine ev_br (b1 := true) rfl rfl (xcd_ne (x := ((bar >>> (b &&& 31)) &&& 1)) (y := 0) (by rw [show ((0 : Int32)).toInt = 0 from by decide]; first | exact b3 | omega)) ?_
  refine ev_go 1 (pc1 := 91) (lv1 := [.ref 53, .ref 37, .int bar, .int to, .int tm, .int bh, .int t, .int a, .int b, .int o]) (st1 := [.int o]) (h1 := (124, I, J, R)) rfl ?_
  refine ev_br (b1 := true) rfl rfl (xcd_le (x := o) (y := 0) (by rw [show ((0 : Int32)).toInt = 0 from by decide]; first | exact b4 | omega)) ?_
  refine ev_iinc (x := t) (y := dx1) (lv1 := [.ref 53, .ref 37, .int bar, .int to, .int tm, .int bh, .int dx1, .int a, .int b, .int o]) rfl rfl (by rw [show Int32.ofInt (-1) = (-1) from by decide]; exact i1) rfl ?_
  refine ev_go 1 (pc1 := 16) (lv1 := [.ref 53, .ref 37, .int bar, .int to, .int tm, .int bh, .int dx1, .int a, .int b, .int o]) (st1 := []) (h1 := (124, I, J, R)) rfl ?_
  exact hk
set_option maxRecDepth 20000 in
theorem qb_3_23 {L : Nat} {xs : Nat → Int32} {d : Nat} {I : Nat → Nat → Int32} {J : Nat → Nat → Int64} {R : Nat → Nat → Nat} {bar to tm bh t a b o dx1 : Int32} {w7 w8 w9 : Value} (hG : aGd R) (b1 : t.toInt ≥ tm.toInt) (c1 : xEv L xs d 39 0 [.ref 40, .int t] [] (124, I, J, R) (some (.int a)) (124, I, J, R)) (c2 : xEv L xs d 39 0 [.ref 41, .int t] [] (124, I, J, R) (some (.int b)) (124, I, J, R)) (c3 : xEv L xs d 72 0 [.ref 53, .int a, .int b, xmk, xmk] [] (124, I, J, R) (some (.int o)) (124, I, J, R)) (b2 : o.toInt ≥ 0) (b3 : o.toInt ≤ 0) (i1 : t + (-1) = dx1) {v : Option Value} {h' : xH} (hk : xEv L xs (d + 1) 69 16 [.ref 53, .ref 37, .int bar, .int to, .int tm, .int bh, .int dx1, .int a, .int b, .int o] [] (124, I, J, R) v h') : xEv L xs (d + 1) 69 16 [.ref 53, .ref 37, .int bar, .int to, .int tm, .int bh, .int t, w7, w8, w9] [] (124, I, J, R) v h' := by
  refine ev_go 2 (pc1 := 20) (lv1 := [.ref 53, .ref 37, .int bar, .int to, .int tm, .int bh, .int t, w7, w8, w9]) (st1 := [.int tm, .int t]) (h1 := (124, I, J, R)) rfl ?_
  refine ev_br (b1 := false) rfl rfl (xcd_nlt (x := t) (y := tm) (by first | exact b1 | omega)) ?_
  refine ev_go 1 (pc1 := 24) (lv1 := [.ref 53, .ref 37, .int bar, .int to, .int tm, .int bh, .int t, w7, w8, w9]) (st1 := [.ref 37]) (h1 := (124, I, J, R)) rfl ?_
  refine ev_gf (c := 37) (t := 40) (X := R 37 2) rfl rfl (fun _ => rfl) rfl (hG 37 2 40 rfl rfl) ?_
  refine ev_go 1 (pc1 := 29) (lv1 := [.ref 53, .ref 37, .int bar, .int to, .int tm, .int bh, .int t, w7, w8, w9]) (st1 := [.int t, .ref 40]) (h1 := (124, I, J, R)) rfl ?_
  refine ev_call (v1 := (some (.int a))) (h1 := (124, I, J, R)) rfl rfl c1 ?_
  refine ev_go 2 (pc1 := 35) (lv1 := [.ref 53, .ref 37, .int bar, .int to, .int tm, .int bh, .int t, .int a, w8, w9]) (st1 := [.ref 37]) (h1 := (124, I, J, R)) rfl ?_
  refine ev_gf (c := 37) (t := 41) (X := R 37 3) rfl rfl (fun _ => rfl) rfl (hG 37 3 41 rfl rfl) ?_
  refine ev_go 1 (pc1 := 40) (lv1 := [.ref 53, .ref 37, .int bar, .int to, .int tm, .int bh, .int t, .int a, w8, w9]) (st1 := [.int t, .ref 41]) (h1 := (124, I, J, R)) rfl ?_
  refine ev_call (v1 := (some (.int b))) (h1 := (124, I, J, R)) rfl rfl c2 ?_
  refine ev_go 4 (pc1 := 50) (lv1 := [.ref 53, .ref 37, .int bar, .int to, .int tm, .int bh, .int t, .int a, .int b, w9]) (st1 := [.int b, .int a, .ref 53]) (h1 := (124, I, J, R)) rfl ?_
  refine ev_call (v1 := (some (.int o))) (h1 := (124, I, J, R)) rfl rfl c3 ?_
  refine ev_go 2 (pc1 := 57) (lv1 := [.ref 53, .ref 37, .int bar, .int to, .int tm, .int bh, .int t, .int a, .int b, .int o]) (st1 := [.int o]) (h1 := (124, I, J, R)) rfl ?_
  refine ev_br (b1 := true) rfl rfl (xcd_ge (x := o) (y := 0) (by rw [show ((0 : Int32)).toInt = 0 from by decide]; first | exact b2 | omega)) ?_
  refine ev_go 1 (pc1 := 91) (lv1 := [.ref 53, .ref 37, .int bar, .int to, .int tm, .int bh, .int t, .int a, .int b, .int o]) (st1 := [.int o]) (h1 := (124, I, J, R)) rfl ?_
  refine ev_br (b1 := true) rfl rfl (xcd_le (x := o) (y := 0) (by rw [show ((0 : Int32)).toInt = 0 from by decide]; first | exact b3 | omega)) ?_
  refine ev_iinc (x := t) (y := dx1) (lv1 := [.ref 53, .ref 37, .int bar, .int to, .int tm, .int bh, .int dx1, .int a, .int b, .int o]) rfl rfl (by rw [show Int32.ofInt (-1) = (-1) from by decide]; exact i1) rfl ?_
  refine ev_go 1 (pc1 := 16) (lv1 := [.ref 53, .ref 37, .int bar, .int to, .int tm, .int bh, .int dx1, .int a, .int b, .int o]) (st1 := []) (h1 := (124, I, J, R)) rfl ?_
  exact hk
set_option maxRecDepth 20000 in
theorem qb_4_23 {L : Nat} {xs : Nat → Int32} {d : Nat} {I : Nat → Nat → Int32} {J : Nat → Nat → Int64} {R : Nat → Nat → Nat} {bar to tm bh t a b o dx1 : Int32} {w7 w8 w9 : Value} (hG : aGd R) (b1 : t.toInt ≥ tm.toInt) (c1 : xEv L xs d 39 0 [.ref 40, .int t] [] (124, I, J, R) (some (.int a)) (124, I, J, R)) (c2 : xEv L xs d 39 0 [.ref 41, .int t] [] (124, I, J, R) (some (.int b)) (124, I, J, R)) (c3 : xEv L xs d 72 0 [.ref 53, .int a, .int b, xmk, xmk] [] (124, I, J, R) (some (.int o)) (124, I, J, R)) (b2 : o.toInt ≥ 0) (b3 : o.toInt > 0) (b4 : ((bar >>> (a &&& 31)) &&& 1).toInt ≠ 0) (i1 : t + (-1) = dx1) {v : Option Value} {h' : xH} (hk : xEv L xs (d + 1) 69 16 [.ref 53, .ref 37, .int bar, .int to, .int tm, .int bh, .int dx1, .int a, .int b, .int o] [] (124, I, J, R) v h') : xEv L xs (d + 1) 69 16 [.ref 53, .ref 37, .int bar, .int to, .int tm, .int bh, .int t, w7, w8, w9] [] (124, I, J, R) v h' := by
  refine ev_go 2 (pc1 := 20) (lv1 := [.ref 53, .ref 37, .int bar, .int to, .int tm, .int bh, .int t, w7, w8, w9]) (st1 := [.int tm, .int t]) (h1 := (124, I, J, R)) rfl ?_
  refine ev_br (b1 := false) rfl rfl (xcd_nlt (x := t) (y := tm) (by first | exact b1 | omega)) ?_
  refine ev_go 1 (pc1 := 24) (lv1 := [.ref 53, .ref 37, .int bar, .int to, .int tm, .int bh, .int t, w7, w8, w9]) (st1 := [.ref 37]) (h1 := (124, I, J, R)) rfl ?_
  refine ev_gf (c := 37) (t := 40) (X := R 37 2) rfl rfl (fun _ => rfl) rfl (hG 37 2 40 rfl rfl) ?_
  refine ev_go 1 (pc1 := 29) (lv1 := [.ref 53, .ref 37, .int bar, .int to, .int tm, .int bh, .int t, w7, w8, w9]) (st1 := [.int t, .ref 40]) (h1 := (124, I, J, R)) rfl ?_
  refine ev_call (v1 := (some (.int a))) (h1 := (124, I, J, R)) rfl rfl c1 ?_
  refine ev_go 2 (pc1 := 35) (lv1 := [.ref 53, .ref 37, .int bar, .int to, .int tm, .int bh, .int t, .int a, w8, w9]) (st1 := [.ref 37]) (h1 := (124, I, J, R)) rfl ?_
  refine ev_gf (c := 37) (t := 41) (X := R 37 3) rfl rfl (fun _ => rfl) rfl (hG 37 3 41 rfl rfl) ?_
  refine ev_go 1 (pc1 := 40) (lv1 := [.ref 53, .ref 37, .int bar, .int to, .int tm, .int bh, .int t, .int a, w8, w9]) (st1 := [.int t, .ref 41]) (h1 := (124, I, J, R)) rfl ?_
  refine ev_call (v1 := (some (.int b))) (h1 := (124, I, J, R)) rfl rfl c2 ?_
  refine ev_go 4 (pc1 := 50) (lv1 := [.ref 53, .ref 37, .int bar, .int to, .int tm, .int bh, .int t, .int a, .int b, w9]) (st1 := [.int b, .int a, .ref 53]) (h1 := (124, I, J, R)) rfl ?_
  refine ev_call (v1 := (some (.int o))) (h1 := (124, I, J, R)) rfl rfl c3 ?_
  refine ev_go 2 (pc1 := 57) (lv1 := [.ref 53, .ref 37, .int bar, .int to, .int tm, .int bh, .int t, .int a, .int b, .int o]) (st1 := [.int o]) (h1 := (124, I, J, R)) rfl ?_
  refine ev_br (b1 := true) rfl rfl (xcd_ge (x := o) (y := 0) (by rw [show ((0 : Int32)).toInt = 0 from by decide]; first | exact b2 | omega)) ?_
  refine ev_go 1 (pc1 := 91) (lv1 := [.ref 53, .ref 37, .int bar, .int to, .int tm, .int bh, .int t, .int a, .int b, .int o]) (st1 := [.int o]) (h1 := (124, I, J, R)) rfl ?_
  refine ev_br (b1 := false) rfl rfl (xcd_nle (x := o) (y := 0) (by rw [show ((0 : Int32)).toInt = 0 from by decide]; first | exact b3 | omega)) ?_
  refine ev_go 2 (pc1 := 97) (lv1 := [.ref 53, .ref 37, .int bar, .int to, .int tm, .int bh, .int t, .int a, .int b, .int o]) (st1 := [.int a, .int bar]) (h1 := (124, I, J, R)) rfl ?_
  refine ev_go 3 (pc1 := 100) (lv1 := [.ref 53, .ref 37, .int bar, .int to, .int tm, .int bh, .int t, .int a, .int b, .int o]) (st1 := [.int ((bar >>> (a &&& 31)) &&& 1)]) (h1 := (124, I, J, R)) rfl ?_
  refine ev_br (b1 := true) rfl rfl (xcd_ne (x := ((bar >>> (a &&& 31)) &&& 1)) (y := 0) (by rw [show ((0 : Int32)).toInt = 0 from by decide]; first | exact b4 | omega)) ?_
  refine ev_iinc (x := t) (y := dx1) (lv1 := [.ref 53, .ref 37, .int bar, .int to, .int tm, .int bh, .int dx1, .int a, .int b, .int o]) rfl rfl (by rw [show Int32.ofInt (-1) = (-1) from by decide]; exact i1) rfl ?_
  refine ev_go 1 (pc1 := 16) (lv1 := [.ref 53, .ref 37, .int bar, .int to, .int tm, .int bh, .int dx1, .int a, .int b, .int o]) (st1 := []) (h1 := (124, I, J, R)) rfl ?_
  exact hk
set_option maxRecDepth 20000 in
theorem qb_5_23 {L : Nat} {xs : Nat → Int32} {d : Nat} {I : Nat → Nat → Int32} {J : Nat → Nat → Int64} {R : Nat → Nat → Nat} {J1 : Nat → Nat → Int64} {bar to tm bh t a b o c dx1 : Int32} {w7 w8 w9 : Value} (hG : aGd R) (b1 : t.toInt ≥ tm.toInt) (c1 : xEv L xs d 39 0 [.ref 40, .int t] [] (124, I, J, R) (some (.int a)) (124, I, J, R)) (c2 : xEv L xs d 39 0 [.ref 41, .int t] [] (124, I, J, R) (some (.int b)) (124, I, J, R)) (c3 : xEv L xs d 72 0 [.ref 53, .int a, .int b, xmk, xmk] [] (124, I, J, R) (some (.int o)) (124, I, J, R)) (b2 : o.toInt ≥ 0) (b3 : o.toInt > 0) (b4 : ((bar >>> (a &&& 31)) &&& 1).toInt = 0) (c4 : xEv L xs d 39 0 [.ref 42, .int t] [] (124, I, J, R) (some (.int c)) (124, I, J, R)) (c5 : xEv L xs d 74 0 [.ref 53, .int b, .int a, .int c] [] (124, I, J, R) none (124, I, J1, R)) (i1 : t + (-1) = dx1) {v : Option Value} {h' : xH} (hk : xEv L xs (d + 1) 69 16 [.ref 53, .ref 37, .int bar, .int to, .int tm, .int bh, .int dx1, .int a, .int b, .int o] [] (124, I, J1, R) v h') : xEv L xs (d + 1) 69 16 [.ref 53, .ref 37, .int bar, .int to, .int tm, .int bh, .int t, w7, w8, w9] [] (124, I, J, R) v h' := by
  refine ev_go 2 (pc1 := 20) (lv1 := [.ref 53, .ref 37, .int bar, .int to, .int tm, .int bh, .int t, w7, w8, w9]) (st1 := [.int tm, .int t]) (h1 := (124, I, J, R)) rfl ?_
  refine ev_br (b1 := false) rfl rfl (xcd_nlt (x := t) (y := tm) (by first | exact b1 | omega)) ?_
  refine ev_go 1 (pc1 := 24) (lv1 := [.ref 53, .ref 37, .int bar, .int to, .int tm, .int bh, .int t, w7, w8, w9]) (st1 := [.ref 37]) (h1 := (124, I, J, R)) rfl ?_
  refine ev_gf (c := 37) (t := 40) (X := R 37 2) rfl rfl (fun _ => rfl) rfl (hG 37 2 40 rfl rfl) ?_
  refine ev_go 1 (pc1 := 29) (lv1 := [.ref 53, .ref 37, .int bar, .int to, .int tm, .int bh, .int t, w7, w8, w9]) (st1 := [.int t, .ref 40]) (h1 := (124, I, J, R)) rfl ?_
  refine ev_call (v1 := (some (.int a))) (h1 := (124, I, J, R)) rfl rfl c1 ?_
  refine ev_go 2 (pc1 := 35) (lv1 := [.ref 53, .ref 37, .int bar, .int to, .int tm, .int bh, .int t, .int a, w8, w9]) (st1 := [.ref 37]) (h1 := (124, I, J, R)) rfl ?_
  refine ev_gf (c := 37) (t := 41) (X := R 37 3) rfl rfl (fun _ => rfl) rfl (hG 37 3 41 rfl rfl) ?_
  refine ev_go 1 (pc1 := 40) (lv1 := [.ref 53, .ref 37, .int bar, .int to, .int tm, .int bh, .int t, .int a, w8, w9]) (st1 := [.int t, .ref 41]) (h1 := (124, I, J, R)) rfl ?_
  refine ev_call (v1 := (some (.int b))) (h1 := (124, I, J, R)) rfl rfl c2 ?_
  refine ev_go 4 (pc1 := 50) (lv1 := [.ref 53, .ref 37, .int bar, .int to, .int tm, .int bh, .int t, .int a, .int b, w9]) (st1 := [.int b, .int a, .ref 53]) (h1 := (124, I, J, R)) rfl ?_
  refine ev_call (v1 := (some (.int o))) (h1 := (124, I, J, R)) rfl rfl c3 ?_
  refine ev_go 2 (pc1 := 57) (lv1 := [.ref 53, .ref 37, .int bar, .int to, .int tm, .int bh, .int t, .int a, .int b, .int o]) (st1 := [.int o]) (h1 := (124, I, J, R)) rfl ?_
  refine ev_br (b1 := true) rfl rfl (xcd_ge (x := o) (y := 0) (by rw [show ((0 : Int32)).toInt = 0 from by decide]; first | exact b2 | omega)) ?_
  refine ev_go 1 (pc1 := 91) (lv1 := [.ref 53, .ref 37, .int bar, .int to, .int tm, .int bh, .int t, .int a, .int b, .int o]) (st1 := [.int o]) (h1 := (124, I, J, R)) rfl ?_
  refine ev_br (b1 := false) rfl rfl (xcd_nle (x := o) (y := 0) (by rw [show ((0 : Int32)).toInt = 0 from by decide]; first | exact b3 | omega)) ?_
  refine ev_go 2 (pc1 := 97) (lv1 := [.ref 53, .ref 37, .int bar, .int to, .int tm, .int bh, .int t, .int a, .int b, .int o]) (st1 := [.int a, .int bar]) (h1 := (124, I, J, R)) rfl ?_
  refine ev_go 3 (pc1 := 100) (lv1 := [.ref 53, .ref 37, .int bar, .int to, .int tm, .int bh, .int t, .int a, .int b, .int o]) (st1 := [.int ((bar >>> (a &&& 31)) &&& 1)]) (h1 := (124, I, J, R)) rfl ?_
  refine ev_br (b1 := false) rfl rfl (xcd_nne (x := ((bar >>> (a &&& 31)) &&& 1)) (y := 0) (by rw [show ((0 : Int32)).toInt = 0 from by decide]; first | exact b4 | omega)) ?_
  refine ev_go 4 (pc1 := 109) (lv1 := [.ref 53, .ref 37, .int bar, .int to, .int tm, .int bh, .int t, .int a, .int b, .int o]) (st1 := [.ref 37, .int a, .int b, .ref 53]) (h1 := (124, I, J, R)) rfl ?_
  refine ev_gf (c := 37) (t := 42) (X := R 37 4) rfl rfl (fun _ => rfl) rfl (hG 37 4 42 rfl rfl) ?_
  refine ev_go 1 (pc1 := 114) (lv1 := [.ref 53, .ref 37, .int bar, .int to, .int tm, .int bh, .int t, .int a, .int b, .int o]) (st1 := [.int t, .ref 42, .int a, .int b, .ref 53]) (h1 := (124, I, J, R)) rfl ?_
  refine ev_call (v1 := (some (.int c))) (h1 := (124, I, J, R)) rfl rfl c4 ?_
  refine ev_call (v1 := none) (h1 := (124, I, J1, R)) rfl rfl c5 ?_
  refine ev_iinc (x := t) (y := dx1) (lv1 := [.ref 53, .ref 37, .int bar, .int to, .int tm, .int bh, .int dx1, .int a, .int b, .int o]) rfl rfl (by rw [show Int32.ofInt (-1) = (-1) from by decide]; exact i1) rfl ?_
  refine ev_go 1 (pc1 := 16) (lv1 := [.ref 53, .ref 37, .int bar, .int to, .int tm, .int bh, .int dx1, .int a, .int b, .int o]) (st1 := []) (h1 := (124, I, J1, R)) rfl ?_
  exact hk
/-- one time in the class -/
theorem qb_step_23 {L : Nat} {xs : Nat → Int32} {d : Nat} {I : Nat → Nat → Int32} {J : Nat → Nat → Int64} {R : Nat → Nat → Nat} (hG : aGd R) {bar to tm bh t : Int32} {w7 w8 w9 : Value} {un tN aN bN cN : Nat} (hu : (I 53 1).toInt = un) (h1 : 1 ≤ un) (h9 : un ≤ 9) (gj : cG J un) (ht : tm.toInt ≤ t.toInt) (et : t.toInt = tN) (t64 : tN < 64) (ha : (I 40 tN).toInt = aN) (hb : (I 41 tN).toInt = bN) (hc : (I 42 tN).toInt = cN) (an : aN < 7) (bn : bN < 7) (hab : aN ≠ bN) (c10 : cN ≤ 10) (va : cV J un aN ≤ tn (16 * (un - 1))) (vb : cV J un bN ≤ tn (16 * (un - 1))) {m : Int} (hx : cN * (cV J un aN - cV J un bN) = 10 * m) :
    ∃ (J' : Nat → Nat → Int64) (w7' w8' w9' : Value), (∀ (v : Option Value) (h' : xH) (dx : Int32), t + (-1) = dx → xEv L xs (d + 3) 69 16 [.ref 53, .ref 37, .int bar, .int to, .int tm, .int bh, .int dx, w7', w8', w9'] [] (124, I, J', R) v h' → xEv L xs (d + 3) 69 16 [.ref 53, .ref 37, .int bar, .int to, .int tm, .int bh, .int t, w7, w8, w9] [] (124, I, J, R) v h') ∧ (∀ c, c ≠ 54 → ∀ q, J' c q = J c q) ∧ cG J' un ∧
      ((¬ (((bar >>> (I 41 tN &&& 31)) &&& 1).toInt = 0 ∧ cV J un aN < cV J un bN) ∧ ¬ (((bar >>> (I 40 tN &&& 31)) &&& 1).toInt = 0 ∧ cV J un bN < cV J un aN) ∧ ∀ p, p < 7 → cV J' un p = cV J un p) ∨
       ((((bar >>> (I 41 tN &&& 31)) &&& 1).toInt = 0 ∧ cV J un aN < cV J un bN) ∧ cV J' un aN = cV J un aN - m ∧ ∀ p, p < 7 → p ≠ aN → cV J' un p = cV J un p) ∨
       ((((bar >>> (I 40 tN &&& 31)) &&& 1).toInt = 0 ∧ cV J un bN < cV J un aN) ∧ cV J' un bN = cV J un bN + m ∧ ∀ p, p < 7 → p ≠ bN → cV J' un p = cV J un p)) := by
  have ec := clamp_s (i := t) (by omega)
  have ekt : t.toNatClampNeg = tN := by omega
  have at1 : ∀ c, (∀ g : FieldType → Nat → Option xR, xarr (124, I, J, R) c g = g .int 64) → ∀ d, xEv L xs d 39 0 [.ref c, .int t] [] (124, I, J, R) (some (.int (I c tN))) (124, I, J, R) := by
    intro c ho d
    have h4 := at_run (L := L) (xs := xs) (d := d) (h := (124, I, J, R)) ho (by decide) t
    rw [if_pos ⟨by omega, by omega⟩, ekt] at h4
    exact h4
  have k1 := at1 40 (fun _ => rfl) (d + 2)
  have k2 := at1 41 (fun _ => rfl) (d + 2)
  have k3 := at1 42 (fun _ => rfl) (d + 2)
  obtain ⟨o, x1, x2⟩ := qc_run (L := L) (xs := xs) (d := d + 1) (I := I) (J := J) hG hu h1 h9 ha hb (by omega) (by omega) (gj.1 aN (by omega)) (gj.1 bN (by omega))
  have bitb := ai_andr (x := bar >>> (I 41 tN &&& 31)) (y := 1) (by decide)
  have bita := ai_andr (x := bar >>> (I 40 tN &&& 31)) (y := 1) (by decide)
  by_cases ho : o.toInt < 0
  · by_cases hb0 : ((bar >>> (I 41 tN &&& 31)) &&& 1).toInt = 0
    · have hmm : (I 42 tN).toInt * (cV J un bN - cV J un aN) = 10 * (-m) := by
        rw [hc, Int.mul_neg, ← hx, ← Int.mul_neg]
        congr 1
        omega
      obtain ⟨J', y1, y2, y3, y4, y5⟩ := qr_run (L := L) (xs := xs) (d := d) (I := I) (J := J) hG (lo := I 40 tN) (hi := I 41 tN) (t := I 42 tN) hu h1 h9 ha hb an bn hab (by omega) (by omega) gj (by omega) vb hmm
      exact ⟨J', _, _, _, fun v h' dx hdx z => qb_1_23 hG (by omega) k1 k2 x1 ho hb0 k3 y1 hdx z, y2, y3, Or.inr (Or.inl ⟨⟨hb0, by omega⟩, by rw [y4]; omega, y5⟩)⟩
    · exact ⟨J, _, _, _, fun v h' dx hdx z => qb_2_23 hG (by omega) k1 k2 x1 ho (by omega) (by omega) hdx z, fun _ _ _ => rfl, gj, Or.inl ⟨fun h => hb0 h.1, fun h => by omega, fun _ _ => rfl⟩⟩
  · by_cases ho2 : o.toInt ≤ 0
    · exact ⟨J, _, _, _, fun v h' dx hdx z => qb_3_23 hG (by omega) k1 k2 x1 (by omega) ho2 hdx z, fun _ _ _ => rfl, gj, Or.inl ⟨fun h => by omega, fun h => by omega, fun _ _ => rfl⟩⟩
    · by_cases ha0 : ((bar >>> (I 40 tN &&& 31)) &&& 1).toInt = 0
      · have hmm : (I 42 tN).toInt * (cV J un aN - cV J un bN) = 10 * m := by rw [hc]; exact hx
        obtain ⟨J', y1, y2, y3, y4, y5⟩ := qr_run (L := L) (xs := xs) (d := d) (I := I) (J := J) hG (lo := I 41 tN) (hi := I 40 tN) (t := I 42 tN) hu h1 h9 hb ha bn an (fun h => hab h.symm) (by omega) (by omega) gj (by omega) va hmm
        exact ⟨J', _, _, _, fun v h' dx hdx z => qb_5_23 hG (by omega) k1 k2 x1 (by omega) (by omega) ha0 k3 y1 hdx z, y2, y3, Or.inr (Or.inr ⟨⟨ha0, by omega⟩, y4, y5⟩)⟩
      · exact ⟨J, _, _, _, fun v h' dx hdx z => qb_4_23 hG (by omega) k1 k2 x1 (by omega) (by omega) ha0 hdx z, fun _ _ _ => rfl, gj, Or.inl ⟨fun h => by omega, fun h => ha0 h.1, fun _ _ => rfl⟩⟩
theorem tmz_23 {np nm nn : Nat} {l : List (Nat × Nat)} {I Ir : Nat → Nat → Int32} (hV : VR_23 np nm nn l I Ir) {t : Nat} (h : t < l.length) : ∃ b, b < nm ∧ nm ≤ 16 ∧ (Ir 101 t).toInt = (b : Int) ∧ I 40 t = Ir 92 b ∧ I 41 t = Ir 93 b ∧ I 42 t = Ir 95 b ∧ 0 ≤ (Ir 92 b).toInt ∧ (Ir 92 b).toInt < np ∧ 0 ≤ (Ir 93 b).toInt ∧ (Ir 93 b).toInt < np ∧ (Ir 92 b).toInt ≠ (Ir 93 b).toInt := by
  obtain ⟨⟨p1, p2, p3⟩, p4, p5, p6, ⟨q1, q2⟩, ⟨q3, q4⟩, ⟨q5, q6⟩, q7, q8, q9, ⟨q10, q11⟩, q12, q13, q14, q15, -⟩ := hV
  have hb := (p6 l[t] (List.getElem_mem h)).2
  obtain ⟨-, -, -, w4, w5, w6, w7⟩ := q12 t (l[t]).1 (l[t]).2 (List.getElem?_eq_getElem h)
  obtain ⟨e1, e2, -⟩ := q8 _ hb
  obtain ⟨r1, r2, r3, r4, r5⟩ := q15 _ hb
  rw [e1] at r1 r2 r5
  rw [e2] at r3 r4 r5
  exact ⟨(l[t]).2, hb, p2, w4, w5, w6, w7, r1, r2, r3, r4, r5⟩
/-- class and reference: the same chances, behind s tens -/
theorem qlb_23 {L : Nat} {xs : Nat → Int32} {d d' : Nat} {R Rr : Nat → Nat → Nat} (hG : aGd R) (hGr : aGd Rr) {np nm nn : Nat} {l : List (Nat × Nat)} {I0 I Ir0 : Nat → Nat → Int32} (hV : VR_23 np nm nn l I0 Ir0) (hI : ∀ c k, ¬ (c = 53 ∧ k = 1) → I c k = I0 c k) (hch : ∀ q, q < 16 → 0 ≤ (Ir0 95 q).toInt ∧ (Ir0 95 q).toInt ≤ 10) {to tm bh nw hr : Int32} {un tmN : Nat} (hu : (I 53 1).toInt = un) (h1 : 1 ≤ un) (h9 : un ≤ 9) (htm : tm.toInt = tmN) (n0 : 0 ≤ nw.toInt) (n4 : nw.toInt < nn) : ∀ (n sN : Nat) (t : Int32) (w7 w8 w9 u6 u7 u8 u9 ua ub : Value) (Ir : Nat → Nat → Int32) (J Jr : Nat → Nat → Int64), t.toInt = (tmN : Int) + n - 1 → tmN + n ≤ l.length → sN + n ≤ 16 * (un - 1) → sN + n ≤ 128 → (∀ c k, ¬ (c = 86 ∧ k = 40) → Ir c k = Ir0 c k) → (Ir 86 40).toInt = sN → cG J un → rG Jr → (∀ p, p < np → cV J un p = rV Jr p * tn (16 * (un - 1) - sN) ∧ rV Jr p ≤ tn sN) →
    ∃ (Ir' : Nat → Nat → Int32) (J' Jr' : Nat → Nat → Int64), xEv L xs (d + 3) 69 16 [.ref 53, .ref 37, .int (Ir0 100 nw.toNatClampNeg), .int to, .int tm, .int bh, .int t, w7, w8, w9] [] (124, I, J, R) none (124, I, J', R) ∧ xEv L xs (d' + 1) 189 24 [.ref 86, .int nw, .int to, .int tm, .int hr, .int t, u6, u7, u8, u9, ua, ub] [] (124, Ir, Jr, Rr) none (124, Ir', Jr', Rr) ∧ (∀ c k, ¬ (c = 86 ∧ k = 40) → Ir' c k = Ir0 c k) ∧ (Ir' 86 40).toInt = (sN + n : Nat) ∧ (∀ c, c ≠ 54 → ∀ q, J' c q = J c q) ∧ cG J' un ∧ rG Jr' ∧ (∀ p, p < np → cV J' un p = rV Jr' p * tn (16 * (un - 1) - (sN + n)) ∧ rV Jr' p ≤ tn (sN + n)) := by
  have hV0 := hV
  obtain ⟨⟨p1, p2, p3⟩, p4, p5, p6, ⟨q1, q2⟩, ⟨q3, q4⟩, ⟨q5, q6⟩, q7, -⟩ := hV
  intro n
  induction n with
  | zero =>
    intro sN t w7 w8 w9 u6 u7 u8 u9 ua ub Ir J Jr et tl sE s8 hIr hs gj gr hR
    exact ⟨Ir, J, Jr, qb_e_23 hG (by omega), qqs_e hGr (by omega), hIr, by rw [Nat.add_zero]; exact hs, fun _ _ _ => rfl, gj, gr, by rw [Nat.add_zero]; exact hR⟩
  | succ n ih =>
    intro sN t w7 w8 w9 u6 u7 u8 u9 ua ub Ir J Jr et tl sE s8 hIr hs gj gr hR
    obtain ⟨tN, htN⟩ : ∃ tN : Nat, tN = tmN + n := ⟨_, rfl⟩
    have et' : t.toInt = (tN : Nat) := by omega
    have ec := clamp_s (i := t) (by omega)
    have ekt : t.toNatClampNeg = tN := by omega
    obtain ⟨b, hb, -, e1, e2, e3, e4, g1, g2, g3, g4, g5⟩ := tmz_23 hV0 (t := tN) (by omega)
    obtain ⟨aN, ha⟩ := Int.eq_ofNat_of_zero_le g1
    obtain ⟨bN, hbN⟩ := Int.eq_ofNat_of_zero_le g3
    obtain ⟨cN, hcN⟩ := Int.eq_ofNat_of_zero_le (hch b (by omega)).1
    have c10 := (hch b (by omega)).2
    have hR' := fun p (hp : p < np) => hR p hp
    obtain ⟨ra, va⟩ := hR aN (by omega)
    obtain ⟨rb, vb⟩ := hR bN (by omega)
    have hR10 : ∀ p, p < np → rV Jr p ≤ tn sN := fun p hp => (hR p hp).2
    obtain ⟨E, hE⟩ : ∃ E, 16 * (un - 1) - sN = E + 1 := ⟨16 * (un - 1) - sN - 1, by omega⟩
    have hE2 : 16 * (un - 1) - (sN + 1) = E := by omega
    have tE : tn (E + 1) = tn E * 10 := tn_1 E
    have tpos := tn_pos E
    have tpos1 := tn_pos (E + 1)
    rw [hE] at ra rb
    have full : tn (16 * (un - 1)) = tn sN * tn (E + 1) := by rw [← tn_add]; congr 1; omega
    have ca : cV J un aN ≤ tn (16 * (un - 1)) := by rw [ra, full]; exact Int.mul_le_mul_of_nonneg_right va (Int.le_of_lt tpos1)
    have cb : cV J un bN ≤ tn (16 * (un - 1)) := by rw [rb, full]; exact Int.mul_le_mul_of_nonneg_right vb (Int.le_of_lt tpos1)
    have hx : (cN : Int) * (cV J un aN - cV J un bN) = 10 * (cN * (rV Jr aN - rV Jr bN) * tn E) := by
      rw [ra, rb, ← Int.sub_mul, tE]
      ac_rfl
    have lt1 : cV J un aN < cV J un bN ↔ rV Jr aN < rV Jr bN := by
      rw [ra, rb]
      exact ⟨fun h => Int.lt_of_mul_lt_mul_right h (Int.le_of_lt tpos1), fun h => Int.mul_lt_mul_of_pos_right h tpos1⟩
    have lt2 : cV J un bN < cV J un aN ↔ rV Jr bN < rV Jr aN := by
      rw [ra, rb]
      exact ⟨fun h => Int.lt_of_mul_lt_mul_right h (Int.le_of_lt tpos1), fun h => Int.mul_lt_mul_of_pos_right h tpos1⟩
    have f1 : I 40 tN = Ir0 92 b := by rw [hI _ _ (by omega)]; exact e2
    have f2 : I 41 tN = Ir0 93 b := by rw [hI _ _ (by omega)]; exact e3
    have f3 : I 42 tN = Ir0 95 b := by rw [hI _ _ (by omega)]; exact e4
    have ecn := clamp_s (i := nw) n0
    have r92 : Ir 92 b = Ir0 92 b := hIr _ _ (by omega)
    have r93 : Ir 93 b = Ir0 93 b := hIr _ _ (by omega)
    have r95 : Ir 95 b = Ir0 95 b := hIr _ _ (by omega)
    have r100 : Ir 100 nw.toNatClampNeg = Ir0 100 nw.toNatClampNeg := hIr _ _ (by omega)
    obtain ⟨J1, w7', w8', w9', x1, x2, x3, x4⟩ := qb_step_23 (L := L) (xs := xs) (d := d) (I := I) (J := J) hG (bar := Ir0 100 nw.toNatClampNeg) (to := to) (tm := tm) (bh := bh) (t := t) (w7 := w7) (w8 := w8) (w9 := w9) hu h1 h9 gj (by omega) et' (by omega) (by rw [f1]; exact ha) (by rw [f2]; exact hbN) (by rw [f3]; exact hcN) (by omega) (by omega) (by omega) (by omega) ca cb hx
    obtain ⟨Jr1, u6', u7', u8', u9', ua', ub', dx, hdx, y1, y2, y3⟩ := qqs_step (L := L) (xs := xs) (d := d') (I := Ir) (J := Jr) hGr (nw := nw) (to := to) (tm := tm) (hr := hr) (t := t) (w6 := u6) (w7 := u7) (w8 := u8) (w9 := u9) (wa := ua) (wb := ub) (np := np) (sN := sN) (mN := b) (aN := aN) (bN := bN) (cN := cN) (by rw [hIr _ _ (by omega)]; exact q2) p1 (by omega) hs gr hR10 (by omega) (by omega) (by omega) (by rw [ekt, hIr _ _ (by omega)]; exact e1) (by omega) (by rw [r92]; exact ha) (by rw [r93]; exact hbN) (by rw [r95]; exact hcN) (by omega) (by omega) (by omega) (by omega) n0 (by omega)
    rw [r100, r93, r92] at y3
    rw [f1, f2] at x4
    have edx : dx.toInt = (tmN : Int) + n - 1 := by
      rw [← hdx, i_add (by rw [show (-1 : Int32).toInt = -1 from by decide]; omega) (by rw [show (-1 : Int32).toInt = -1 from by decide]; omega), show (-1 : Int32).toInt = -1 from by decide]
      omega
    have t3 : tn (sN + 1) = tn sN * 10 := tn_1 sN
    have s40 : ((uI Ir 86 40 (Ir 86 40 + 1)) 86 40).toInt = (sN + 1 : Nat) := by rw [uI_s, i_add1 (by omega)]; omega
    -- the relation one time on
    have same : ∀ p, p < np → cV J1 un p = cV J un p → rV Jr1 p = 10 * rV Jr p → cV J1 un p = rV Jr1 p * tn (16 * (un - 1) - (sN + 1)) ∧ rV Jr1 p ≤ tn (sN + 1) := by
      intro p hp h1 h2
      obtain ⟨k1, k2⟩ := hR p hp
      refine ⟨?_, by omega⟩
      rw [h1, k1, h2, hE2, hE, tE]
      ac_rfl
    have mixd : ∀ (lo hi : Nat), lo < np → hi < np → cV J1 un lo = cV J un lo + cN * (rV Jr hi - rV Jr lo) * tn E → rV Jr1 lo = (10 - cN) * rV Jr lo + cN * rV Jr hi → cV J1 un lo = rV Jr1 lo * tn (16 * (un - 1) - (sN + 1)) ∧ rV Jr1 lo ≤ tn (sN + 1) := by
      intro lo hi hlo hhi h1 h2
      obtain ⟨k1, k2⟩ := hR lo hlo
      obtain ⟨k3, k4⟩ := hR hi hhi
      have m1 := Int.mul_le_mul_of_nonneg_left k2 (show (0 : Int) ≤ 10 - cN by omega)
      have m2 := Int.mul_le_mul_of_nonneg_left k4 (show (0 : Int) ≤ cN by omega)
      have m3 : (10 - (cN : Int)) * tn sN + cN * tn sN = 10 * tn sN := by rw [← Int.add_mul]; congr 1; omega
      refine ⟨?_, by omega⟩
      rw [h1, k1, h2, hE2, hE, tE, Int.add_mul, Int.sub_mul, Int.sub_mul, Int.mul_sub, Int.sub_mul]
      have z1 : rV Jr lo * (tn E * 10) = 10 * rV Jr lo * tn E := by ac_rfl
      rw [z1]
      omega
    have hR1 : ∀ p, p < np → cV J1 un p = rV Jr1 p * tn (16 * (un - 1) - (sN + 1)) ∧ rV Jr1 p ≤ tn (sN + 1) := by
      rcases x4 with ⟨k1, k2, k3⟩ | ⟨k1, k2, k3⟩ | ⟨k1, k2, k3⟩
      · rcases y3 with ⟨z1, z2, z3⟩ | ⟨z1, z2, z3⟩ | ⟨z1, z2, z3⟩
        · exact fun p hp => same p hp (k3 p (by omega)) (z3 p hp)
        · exact absurd ⟨z1.1, lt1.mpr z1.2⟩ k1
        · exact absurd ⟨z1.1, lt2.mpr z1.2⟩ k2
      · rcases y3 with ⟨z1, z2, z3⟩ | ⟨z1, z2, z3⟩ | ⟨z1, z2, z3⟩
        · exact absurd ⟨k1.1, lt1.mp k1.2⟩ z1
        · intro p hp
          by_cases e : p = aN
          · rw [e]
            refine mixd aN bN (by omega) (by omega) ?_ z2
            rw [k2, ← Int.neg_sub (rV Jr aN), Int.mul_neg, Int.neg_mul]
            omega
          · exact same p hp (k3 p (by omega) e) (z3 p hp e)
        · have := lt1.mp k1.2
          omega
      · rcases y3 with ⟨z1, z2, z3⟩ | ⟨z1, z2, z3⟩ | ⟨z1, z2, z3⟩
        · exact absurd ⟨k1.1, lt2.mp k1.2⟩ z2
        · have := lt2.mp k1.2
          omega
        · intro p hp
          by_cases e : p = bN
          · rw [e]
            exact mixd bN aN (by omega) (by omega) k2 z2
          · exact same p hp (k3 p (by omega) e) (z3 p hp e)
    obtain ⟨Ir', J', Jr', v1, v2, v3, v4, v5, v6, v7, v8⟩ := ih (sN + 1) dx w7' w8' w9' u6' u7' u8' u9' ua' ub' (uI Ir 86 40 (Ir 86 40 + 1)) J1 Jr1 edx (by omega) (by omega) (by omega) (fun c k hc => by rw [uI_n _ _ hc]; exact hIr c k hc) s40 x3 y2 hR1
    rw [show sN + 1 + n = sN + (n + 1) from by omega] at v4 v8
    exact ⟨Ir', J', Jr', x1 _ _ dx hdx v1, y1 _ _ v2, v3, v4, fun c hc q => by rw [v5 c hc q, x2 c hc q], v6, v7, v8⟩
