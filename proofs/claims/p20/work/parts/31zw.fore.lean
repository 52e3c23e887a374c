set_option maxRecDepth 20000 in
theorem qqw_s {L : Nat} {xs : Nat → Int32} {d : Nat} {I : Nat → Nat → Int32} {J : Nat → Nat → Int64} {R : Nat → Nat → Nat} {I1 : Nat → Nat → Int32} {J1 : Nat → Nat → Int64} {nw fr tm u z : Int32} (hG : aGd R) (c1 : xEv L xs d 190 0 [.ref 86, xmk] [] (124, I, J, R) none (124, I1, J1, R)) (n1 : 0 ≤ (16 * fr).toInt) (m1 : (16 * fr).toInt < 224) {v : Option Value} {h' : xH} (hk : xEv L xs (d + 1) 217 17 [.ref 86, .int nw, .int fr, .int tm, .int u, .int z, .int tm, xmk, xmk, xmk, xmk, xmk, xmk] [] (124, I1, (uL J1 108 (16 * fr).toNatClampNeg 1), R) v h') : xEv L xs (d + 1) 217 0 [.ref 86, .int nw, .int fr, .int tm, .int u, .int z, xmk, xmk, xmk, xmk, xmk, xmk, xmk] [] (124, I, J, R) v h' := by
  refine ev_go 1 (pc1 := 1) (lv1 := [.ref 86, .int nw, .int fr, .int tm, .int u, .int z, xmk, xmk, xmk, xmk, xmk, xmk, xmk]) (st1 := [.ref 86]) (h1 := (124, I, J, R)) rfl ?_
  refine ev_call (v1 := none) (h1 := (124, I1, J1, R)) rfl rfl c1 ?_
  refine ev_go 1 (pc1 := 5) (lv1 := [.ref 86, .int nw, .int fr, .int tm, .int u, .int z, xmk, xmk, xmk, xmk, xmk, xmk, xmk]) (st1 := [.ref 86]) (h1 := (124, I1, J1, R)) rfl ?_
  refine ev_gf (c := 86) (t := 108) (X := R 86 38) rfl rfl (fun _ => rfl) rfl (hG 86 38 108 rfl rfl) ?_
  refine ev_go 4 (pc1 := 13) (lv1 := [.ref 86, .int nw, .int fr, .int tm, .int u, .int z, xmk, xmk, xmk, xmk, xmk, xmk, xmk]) (st1 := [.long 1, .int (16 * fr), .ref 108]) (h1 := (124, I1, J1, R)) rfl ?_
  refine ev_lst (n := 224) rfl rfl (fun _ => rfl) n1 m1 ?_
  refine ev_go 2 (pc1 := 17) (lv1 := [.ref 86, .int nw, .int fr, .int tm, .int u, .int z, .int tm, xmk, xmk, xmk, xmk, xmk, xmk]) (st1 := []) (h1 := (124, I1, (uL J1 108 (16 * fr).toNatClampNeg 1), R)) rfl ?_
  exact hk
set_option maxRecDepth 20000 in
theorem qqw_e {L : Nat} {xs : Nat → Int32} {d : Nat} {I : Nat → Nat → Int32} {J : Nat → Nat → Int64} {R : Nat → Nat → Nat} {nw fr tm u z t : Int32} {w7 w8 w9 wa wb wc : Value} (hG : aGd R) (b1 : t.toInt ≥ z.toInt) : xEv L xs d 217 17 [.ref 86, .int nw, .int fr, .int tm, .int u, .int z, .int t, w7, w8, w9, wa, wb, wc] [] (124, I, J, R) none (124, I, J, R) := by
  refine ev_go 2 (pc1 := 21) (lv1 := [.ref 86, .int nw, .int fr, .int tm, .int u, .int z, .int t, w7, w8, w9, wa, wb, wc]) (st1 := [.int z, .int t]) (h1 := (124, I, J, R)) rfl ?_
  refine ev_br (b1 := true) rfl rfl (xcd_ge (x := t) (y := z) (by first | exact b1 | omega)) ?_
  exact ev_ret rfl rfl
set_option maxRecDepth 20000 in
theorem qqw_0 {L : Nat} {xs : Nat → Int32} {d : Nat} {I : Nat → Nat → Int32} {J : Nat → Nat → Int64} {R : Nat → Nat → Nat} {nw fr tm u z t a b : Int32} {w7 w8 w9 wa wb wc : Value} (hG : aGd R) (b1 : t.toInt < z.toInt) (c1 : xEv L xs d 177 0 [.ref 86, .int t] [] (124, I, J, R) (some (.int a)) (124, I, J, R)) (c2 : xEv L xs d 178 0 [.ref 86, .int t] [] (124, I, J, R) (some (.int b)) (124, I, J, R)) (n1 : 0 ≤ t.toInt) (m1 : t.toInt < 64) (n2 : 0 ≤ (I 101 t.toNatClampNeg).toInt) (m2 : (I 101 t.toNatClampNeg).toInt < 32) (c3 : xEv L xs d 179 0 [.ref 86, .int nw, .int a] [] (124, I, J, R) (some (.int 1)) (124, I, J, R)) {v : Option Value} {h' : xH} (hk : xEv L xs (d + 1) 217 75 [.ref 86, .int nw, .int fr, .int tm, .int u, .int z, .int t, .int a, .int b, .int ((I 95 (I 101 t.toNatClampNeg).toNatClampNeg) * u), .int 0, wb, wc] [] (124, I, J, R) v h') : xEv L xs (d + 1) 217 17 [.ref 86, .int nw, .int fr, .int tm, .int u, .int z, .int t, w7, w8, w9, wa, wb, wc] [] (124, I, J, R) v h' := by
  refine ev_go 2 (pc1 := 21) (lv1 := [.ref 86, .int nw, .int fr, .int tm, .int u, .int z, .int t, w7, w8, w9, wa, wb, wc]) (st1 := [.int z, .int t]) (h1 := (124, I, J, R)) rfl ?_
  refine ev_br (b1 := false) rfl rfl (xcd_nge (x := t) (y := z) (by first | exact b1 | omega)) ?_
  refine ev_go 2 (pc1 := 27) (lv1 := [.ref 86, .int nw, .int fr, .int tm, .int u, .int z, .int t, w7, w8, w9, wa, wb, wc]) (st1 := [.int t, .ref 86]) (h1 := (124, I, J, R)) rfl ?_
  refine ev_call (v1 := (some (.int a))) (h1 := (124, I, J, R)) rfl rfl c1 ?_
  refine ev_go 3 (pc1 := 35) (lv1 := [.ref 86, .int nw, .int fr, .int tm, .int u, .int z, .int t, .int a, w8, w9, wa, wb, wc]) (st1 := [.int t, .ref 86]) (h1 := (124, I, J, R)) rfl ?_
  refine ev_call (v1 := (some (.int b))) (h1 := (124, I, J, R)) rfl rfl c2 ?_
  refine ev_go 2 (pc1 := 41) (lv1 := [.ref 86, .int nw, .int fr, .int tm, .int u, .int z, .int t, .int a, .int b, w9, wa, wb, wc]) (st1 := [.ref 86]) (h1 := (124, I, J, R)) rfl ?_
  refine ev_gf (c := 86) (t := 95) (X := R 86 19) rfl rfl (fun _ => rfl) rfl (hG 86 19 95 rfl rfl) ?_
  refine ev_go 1 (pc1 := 45) (lv1 := [.ref 86, .int nw, .int fr, .int tm, .int u, .int z, .int t, .int a, .int b, w9, wa, wb, wc]) (st1 := [.ref 86, .ref 95]) (h1 := (124, I, J, R)) rfl ?_
  refine ev_gf (c := 86) (t := 101) (X := R 86 27) rfl rfl (fun _ => rfl) rfl (hG 86 27 101 rfl rfl) ?_
  refine ev_go 1 (pc1 := 50) (lv1 := [.ref 86, .int nw, .int fr, .int tm, .int u, .int z, .int t, .int a, .int b, w9, wa, wb, wc]) (st1 := [.int t, .ref 101, .ref 95]) (h1 := (124, I, J, R)) rfl ?_
  refine ev_ild (n := 64) rfl rfl (fun _ => rfl) n1 m1 ?_
  refine ev_ild (n := 32) rfl rfl (fun _ => rfl) n2 m2 ?_
  refine ev_go 6 (pc1 := 61) (lv1 := [.ref 86, .int nw, .int fr, .int tm, .int u, .int z, .int t, .int a, .int b, .int ((I 95 (I 101 t.toNatClampNeg).toNatClampNeg) * u), wa, wb, wc]) (st1 := [.int a, .int nw, .ref 86]) (h1 := (124, I, J, R)) rfl ?_
  refine ev_call (v1 := (some (.int 1))) (h1 := (124, I, J, R)) rfl rfl c3 ?_
  refine ev_go 4 (pc1 := 75) (lv1 := [.ref 86, .int nw, .int fr, .int tm, .int u, .int z, .int t, .int a, .int b, .int ((I 95 (I 101 t.toNatClampNeg).toNatClampNeg) * u), .int 0, wb, wc]) (st1 := []) (h1 := (124, I, J, R)) rfl ?_
  exact hk
set_option maxRecDepth 20000 in
theorem qqw_1 {L : Nat} {xs : Nat → Int32} {d : Nat} {I : Nat → Nat → Int32} {J : Nat → Nat → Int64} {R : Nat → Nat → Nat} {nw fr tm u z t a b : Int32} {w7 w8 w9 wa wb wc : Value} (hG : aGd R) (b1 : t.toInt < z.toInt) (c1 : xEv L xs d 177 0 [.ref 86, .int t] [] (124, I, J, R) (some (.int a)) (124, I, J, R)) (c2 : xEv L xs d 178 0 [.ref 86, .int t] [] (124, I, J, R) (some (.int b)) (124, I, J, R)) (n1 : 0 ≤ t.toInt) (m1 : t.toInt < 64) (n2 : 0 ≤ (I 101 t.toNatClampNeg).toInt) (m2 : (I 101 t.toNatClampNeg).toInt < 32) (c3 : xEv L xs d 179 0 [.ref 86, .int nw, .int a] [] (124, I, J, R) (some (.int 0)) (124, I, J, R)) {v : Option Value} {h' : xH} (hk : xEv L xs (d + 1) 217 75 [.ref 86, .int nw, .int fr, .int tm, .int u, .int z, .int t, .int a, .int b, .int ((I 95 (I 101 t.toNatClampNeg).toNatClampNeg) * u), .int ((I 95 (I 101 t.toNatClampNeg).toNatClampNeg) * u), wb, wc] [] (124, I, J, R) v h') : xEv L xs (d + 1) 217 17 [.ref 86, .int nw, .int fr, .int tm, .int u, .int z, .int t, w7, w8, w9, wa, wb, wc] [] (124, I, J, R) v h' := by
  refine ev_go 2 (pc1 := 21) (lv1 := [.ref 86, .int nw, .int fr, .int tm, .int u, .int z, .int t, w7, w8, w9, wa, wb, wc]) (st1 := [.int z, .int t]) (h1 := (124, I, J, R)) rfl ?_
  refine ev_br (b1 := false) rfl rfl (xcd_nge (x := t) (y := z) (by first | exact b1 | omega)) ?_
  refine ev_go 2 (pc1 := 27) (lv1 := [.ref 86, .int nw, .int fr, .int tm, .int u, .int z, .int t, w7, w8, w9, wa, wb, wc]) (st1 := [.int t, .ref 86]) (h1 := (124, I, J, R)) rfl ?_
  refine ev_call (v1 := (some (.int a))) (h1 := (124, I, J, R)) rfl rfl c1 ?_
  refine ev_go 3 (pc1 := 35) (lv1 := [.ref 86, .int nw, .int fr, .int tm, .int u, .int z, .int t, .int a, w8, w9, wa, wb, wc]) (st1 := [.int t, .ref 86]) (h1 := (124, I, J, R)) rfl ?_
  refine ev_call (v1 := (some (.int b))) (h1 := (124, I, J, R)) rfl rfl c2 ?_
  refine ev_go 2 (pc1 := 41) (lv1 := [.ref 86, .int nw, .int fr, .int tm, .int u, .int z, .int t, .int a, .int b, w9, wa, wb, wc]) (st1 := [.ref 86]) (h1 := (124, I, J, R)) rfl ?_
  refine ev_gf (c := 86) (t := 95) (X := R 86 19) rfl rfl (fun _ => rfl) rfl (hG 86 19 95 rfl rfl) ?_
  refine ev_go 1 (pc1 := 45) (lv1 := [.ref 86, .int nw, .int fr, .int tm, .int u, .int z, .int t, .int a, .int b, w9, wa, wb, wc]) (st1 := [.ref 86, .ref 95]) (h1 := (124, I, J, R)) rfl ?_
  refine ev_gf (c := 86) (t := 101) (X := R 86 27) rfl rfl (fun _ => rfl) rfl (hG 86 27 101 rfl rfl) ?_
  refine ev_go 1 (pc1 := 50) (lv1 := [.ref 86, .int nw, .int fr, .int tm, .int u, .int z, .int t, .int a, .int b, w9, wa, wb, wc]) (st1 := [.int t, .ref 101, .ref 95]) (h1 := (124, I, J, R)) rfl ?_
  refine ev_ild (n := 64) rfl rfl (fun _ => rfl) n1 m1 ?_
  refine ev_ild (n := 32) rfl rfl (fun _ => rfl) n2 m2 ?_
  refine ev_go 6 (pc1 := 61) (lv1 := [.ref 86, .int nw, .int fr, .int tm, .int u, .int z, .int t, .int a, .int b, .int ((I 95 (I 101 t.toNatClampNeg).toNatClampNeg) * u), wa, wb, wc]) (st1 := [.int a, .int nw, .ref 86]) (h1 := (124, I, J, R)) rfl ?_
  refine ev_call (v1 := (some (.int 0))) (h1 := (124, I, J, R)) rfl rfl c3 ?_
  refine ev_go 3 (pc1 := 75) (lv1 := [.ref 86, .int nw, .int fr, .int tm, .int u, .int z, .int t, .int a, .int b, .int ((I 95 (I 101 t.toNatClampNeg).toNatClampNeg) * u), .int ((I 95 (I 101 t.toNatClampNeg).toNatClampNeg) * u), wb, wc]) (st1 := []) (h1 := (124, I, J, R)) rfl ?_
  exact hk
set_option maxRecDepth 20000 in
theorem qqw_2 {L : Nat} {xs : Nat → Int32} {d : Nat} {I : Nat → Nat → Int32} {J : Nat → Nat → Int64} {R : Nat → Nat → Nat} {nw fr tm u z t a b c ta : Int32} {wb wc : Value} (hG : aGd R) (c1 : xEv L xs d 179 0 [.ref 86, .int nw, .int b] [] (124, I, J, R) (some (.int 1)) (124, I, J, R)) {v : Option Value} {h' : xH} (hk : xEv L xs (d + 1) 217 96 [.ref 86, .int nw, .int fr, .int tm, .int u, .int z, .int t, .int a, .int b, .int c, .int ta, .int 0, .int 0] [] (124, I, J, R) v h') : xEv L xs (d + 1) 217 75 [.ref 86, .int nw, .int fr, .int tm, .int u, .int z, .int t, .int a, .int b, .int c, .int ta, wb, wc] [] (124, I, J, R) v h' := by
  refine ev_go 3 (pc1 := 79) (lv1 := [.ref 86, .int nw, .int fr, .int tm, .int u, .int z, .int t, .int a, .int b, .int c, .int ta, wb, wc]) (st1 := [.int b, .int nw, .ref 86]) (h1 := (124, I, J, R)) rfl ?_
  refine ev_call (v1 := (some (.int 1))) (h1 := (124, I, J, R)) rfl rfl c1 ?_
  refine ev_go 6 (pc1 := 96) (lv1 := [.ref 86, .int nw, .int fr, .int tm, .int u, .int z, .int t, .int a, .int b, .int c, .int ta, .int 0, .int 0]) (st1 := []) (h1 := (124, I, J, R)) rfl ?_
  exact hk
set_option maxRecDepth 20000 in
theorem qqw_3 {L : Nat} {xs : Nat → Int32} {d : Nat} {I : Nat → Nat → Int32} {J : Nat → Nat → Int64} {R : Nat → Nat → Nat} {nw fr tm u z t a b c ta : Int32} {wb wc : Value} (hG : aGd R) (c1 : xEv L xs d 179 0 [.ref 86, .int nw, .int b] [] (124, I, J, R) (some (.int 0)) (124, I, J, R)) {v : Option Value} {h' : xH} (hk : xEv L xs (d + 1) 217 96 [.ref 86, .int nw, .int fr, .int tm, .int u, .int z, .int t, .int a, .int b, .int c, .int ta, .int c, .int 0] [] (124, I, J, R) v h') : xEv L xs (d + 1) 217 75 [.ref 86, .int nw, .int fr, .int tm, .int u, .int z, .int t, .int a, .int b, .int c, .int ta, wb, wc] [] (124, I, J, R) v h' := by
  refine ev_go 3 (pc1 := 79) (lv1 := [.ref 86, .int nw, .int fr, .int tm, .int u, .int z, .int t, .int a, .int b, .int c, .int ta, wb, wc]) (st1 := [.int b, .int nw, .ref 86]) (h1 := (124, I, J, R)) rfl ?_
  refine ev_call (v1 := (some (.int 0))) (h1 := (124, I, J, R)) rfl rfl c1 ?_
  refine ev_go 5 (pc1 := 96) (lv1 := [.ref 86, .int nw, .int fr, .int tm, .int u, .int z, .int t, .int a, .int b, .int c, .int ta, .int c, .int 0]) (st1 := []) (h1 := (124, I, J, R)) rfl ?_
  exact hk
set_option maxRecDepth 20000 in
theorem qqw_p {L : Nat} {xs : Nat → Int32} {d : Nat} {I : Nat → Nat → Int32} {J : Nat → Nat → Int64} {R : Nat → Nat → Nat} {J1 : Nat → Nat → Int64} {nw fr tm u z t a b c ta tb_ p : Int32} (hG : aGd R) (b1 : p.toInt < (I 88 0).toInt) (c1 : xEv L xs d 192 0 [.ref 86, .int p, .int p, .int 100, .int p, .int 0, xmk, xmk, xmk, xmk, xmk] [] (124, I, J, R) none (124, I, J1, R)) {v : Option Value} {h' : xH} (hk : xEv L xs (d + 1) 217 96 [.ref 86, .int nw, .int fr, .int tm, .int u, .int z, .int t, .int a, .int b, .int c, .int ta, .int tb_, .int (p + 1)] [] (124, I, J1, R) v h') : xEv L xs (d + 1) 217 96 [.ref 86, .int nw, .int fr, .int tm, .int u, .int z, .int t, .int a, .int b, .int c, .int ta, .int tb_, .int p] [] (124, I, J, R) v h' := by
  refine ev_go 2 (pc1 := 99) (lv1 := [.ref 86, .int nw, .int fr, .int tm, .int u, .int z, .int t, .int a, .int b, .int c, .int ta, .int tb_, .int p]) (st1 := [.ref 86, .int p]) (h1 := (124, I, J, R)) rfl ?_
  refine ev_gf (c := 86) (t := 88) (X := R 86 12) rfl rfl (fun _ => rfl) rfl (hG 86 12 88 rfl rfl) ?_
  refine ev_go 2 (pc1 := 104) (lv1 := [.ref 86, .int nw, .int fr, .int tm, .int u, .int z, .int t, .int a, .int b, .int c, .int ta, .int tb_, .int p]) (st1 := [.int (I 88 0), .int p]) (h1 := (124, I, J, R)) rfl ?_
  refine ev_br (b1 := false) rfl rfl (xcd_nge (x := p) (y := (I 88 0)) (by first | exact b1 | omega)) ?_
  refine ev_go 6 (pc1 := 117) (lv1 := [.ref 86, .int nw, .int fr, .int tm, .int u, .int z, .int t, .int a, .int b, .int c, .int ta, .int tb_, .int p]) (st1 := [.int 0, .int p, .int 100, .int p, .int p, .ref 86]) (h1 := (124, I, J, R)) rfl ?_
  refine ev_call (v1 := none) (h1 := (124, I, J1, R)) rfl rfl c1 ?_
  refine ev_go 2 (pc1 := 96) (lv1 := [.ref 86, .int nw, .int fr, .int tm, .int u, .int z, .int t, .int a, .int b, .int c, .int ta, .int tb_, .int (p + 1)]) (st1 := []) (h1 := (124, I, J1, R)) rfl ?_
  exact hk
set_option maxRecDepth 20000 in
theorem qqw_q {L : Nat} {xs : Nat → Int32} {d : Nat} {I : Nat → Nat → Int32} {J : Nat → Nat → Int64} {R : Nat → Nat → Nat} {J1 : Nat → Nat → Int64} {J2 : Nat → Nat → Int64} {J3 : Nat → Nat → Int64} {nw fr tm u z t a b c ta tb_ p : Int32} (hG : aGd R) (b1 : p.toInt ≥ (I 88 0).toInt) (c1 : xEv L xs d 192 0 [.ref 86, .int a, .int a, .int (100 - tb_), .int b, .int ta, xmk, xmk, xmk, xmk, xmk] [] (124, I, J, R) none (124, I, J1, R)) (c2 : xEv L xs d 192 0 [.ref 86, .int b, .int b, .int (100 - ta), .int a, .int tb_, xmk, xmk, xmk, xmk, xmk] [] (124, I, J1, R) none (124, I, J2, R)) (c3 : xEv L xs d 193 0 [.ref 86, xmk] [] (124, I, J2, R) none (124, I, J3, R)) {v : Option Value} {h' : xH} (hk : xEv L xs (d + 1) 217 17 [.ref 86, .int nw, .int fr, .int tm, .int u, .int z, .int (t + 1), .int a, .int b, .int c, .int ta, .int tb_, .int p] [] (124, (uI I 86 40 ((I 86 40) + 2)), J3, R) v h') : xEv L xs (d + 1) 217 96 [.ref 86, .int nw, .int fr, .int tm, .int u, .int z, .int t, .int a, .int b, .int c, .int ta, .int tb_, .int p] [] (124, I, J, R) v h' := by
  refine ev_go 2 (pc1 := 99) (lv1 := [.ref 86, .int nw, .int fr, .int tm, .int u, .int z, .int t, .int a, .int b, .int c, .int ta, .int tb_, .int p]) (st1 := [.ref 86, .int p]) (h1 := (124, I, J, R)) rfl ?_
  refine ev_gf (c := 86) (t := 88) (X := R 86 12) rfl rfl (fun _ => rfl) rfl (hG 86 12 88 rfl rfl) ?_
  refine ev_go 2 (pc1 := 104) (lv1 := [.ref 86, .int nw, .int fr, .int tm, .int u, .int z, .int t, .int a, .int b, .int c, .int ta, .int tb_, .int p]) (st1 := [.int (I 88 0), .int p]) (h1 := (124, I, J, R)) rfl ?_
  refine ev_br (b1 := true) rfl rfl (xcd_ge (x := p) (y := (I 88 0)) (by first | exact b1 | omega)) ?_
  refine ev_go 8 (pc1 := 140) (lv1 := [.ref 86, .int nw, .int fr, .int tm, .int u, .int z, .int t, .int a, .int b, .int c, .int ta, .int tb_, .int p]) (st1 := [.int ta, .int b, .int (100 - tb_), .int a, .int a, .ref 86]) (h1 := (124, I, J, R)) rfl ?_
  refine ev_call (v1 := none) (h1 := (124, I, J1, R)) rfl rfl c1 ?_
  refine ev_go 8 (pc1 := 157) (lv1 := [.ref 86, .int nw, .int fr, .int tm, .int u, .int z, .int t, .int a, .int b, .int c, .int ta, .int tb_, .int p]) (st1 := [.int tb_, .int a, .int (100 - ta), .int b, .int b, .ref 86]) (h1 := (124, I, J1, R)) rfl ?_
  refine ev_call (v1 := none) (h1 := (124, I, J2, R)) rfl rfl c2 ?_
  refine ev_go 1 (pc1 := 161) (lv1 := [.ref 86, .int nw, .int fr, .int tm, .int u, .int z, .int t, .int a, .int b, .int c, .int ta, .int tb_, .int p]) (st1 := [.ref 86]) (h1 := (124, I, J2, R)) rfl ?_
  refine ev_call (v1 := none) (h1 := (124, I, J3, R)) rfl rfl c3 ?_
  refine ev_go 8 (pc1 := 17) (lv1 := [.ref 86, .int nw, .int fr, .int tm, .int u, .int z, .int (t + 1), .int a, .int b, .int c, .int ta, .int tb_, .int p]) (st1 := []) (h1 := (124, (uI I 86 40 ((I 86 40) + 2)), J3, R)) rfl ?_
  exact hk
/-! sums over the people -/
theorem s0_s (f : Nat → Int) (n : Nat) : sT 0 f (n + 1) = sT 0 f n + f n := by
  rw [sT_s, Nat.zero_mul, tn_0, Int.mul_one]
theorem s0_le {f : Nat → Int} : ∀ (n : Nat), (∀ q, q < n → 0 ≤ f q) → 0 ≤ sT 0 f n ∧ ∀ q, q < n → f q ≤ sT 0 f n := by
  intro n
  induction n with
  | zero => exact fun _ => ⟨by rw [sT_0]; exact Int.le_refl _, fun q hq => absurd hq (by omega)⟩
  | succ n ih =>
    intro h
    obtain ⟨i1, i2⟩ := ih (fun q hq => h q (by omega))
    have hn := h n (by omega)
    rw [s0_s]
    refine ⟨by omega, fun q hq => ?_⟩
    by_cases e : q = n
    · rw [e]
      omega
    · have := i2 q (by omega)
      omega
/-- two places change, the sum is k times as great -/
theorem s0_2 {f g : Nat → Int} {k : Int} {a b : Nat} (hab : a ≠ b) : ∀ n, (∀ q, q < n → q ≠ a → q ≠ b → g q = k * f q) → sT 0 g n = k * sT 0 f n + (if a < n then g a - k * f a else 0) + (if b < n then g b - k * f b else 0) := by
  intro n
  induction n with
  | zero =>
    intro _
    rw [if_neg (by omega), if_neg (by omega)]
    simp only [sT_0]
    rw [Int.mul_zero]
    rfl
  | succ n ih =>
    intro h
    have i1 := ih (fun q hq => h q (by omega))
    rw [s0_s, s0_s, i1, Int.mul_add]
    by_cases ea : a = n
    · subst ea
      rw [if_neg (show ¬ a < a by omega), if_pos (show a < a + 1 by omega)]
      by_cases hb : b < a
      · rw [if_pos hb, if_pos (show b < a + 1 by omega)]
        omega
      · rw [if_neg hb, if_neg (show ¬ b < a + 1 by omega)]
        omega
    · by_cases eb : b = n
      · subst eb
        rw [if_neg (show ¬ b < b by omega), if_pos (show b < b + 1 by omega)]
        by_cases ha : a < b
        · rw [if_pos ha, if_pos (show a < b + 1 by omega)]
          omega
        · rw [if_neg ha, if_neg (show ¬ a < b + 1 by omega)]
          omega
      · rw [h n (by omega) (fun e => ea e.symm) (fun e => eb e.symm)]
        have p1 : (a < n + 1) = (a < n) := propext ⟨fun _ => by omega, fun _ => by omega⟩
        have p2 : (b < n + 1) = (b < n) := propext ⟨fun _ => by omega, fun _ => by omega⟩
        simp only [p1, p2]
        omega
theorem qqw_all {L : Nat} {xs : Nat → Int32} {d : Nat} {I : Nat → Nat → Int32} {J : Nat → Nat → Int64} {R : Nat → Nat → Nat} (hG : aGd R) {nw fr tm u z t a b c ta tb_ : Int32} {np sN : Nat} (hnp : (I 88 0).toInt = np) (n7 : np ≤ 7) (s8 : sN + 2 ≤ 128) (g : rG J) (hv : ∀ p, p < np → rV J p ≤ tn sN) : ∃ J', (∀ (v : Option Value) (h' : xH) (x : Int32), x.toInt = np → xEv L xs (d + 1) 217 96 [.ref 86, .int nw, .int fr, .int tm, .int u, .int z, .int t, .int a, .int b, .int c, .int ta, .int tb_, .int x] [] (124, I, J', R) v h' → xEv L xs (d + 1) 217 96 [.ref 86, .int nw, .int fr, .int tm, .int u, .int z, .int t, .int a, .int b, .int c, .int ta, .int tb_, .int 0] [] (124, I, J, R) v h') ∧ (∀ c q, ¬ (c = 108 ∧ 112 ≤ q ∧ q < 224) → J' c q = J c q) ∧ rG J' ∧ (∀ p, p < 7 → rV J' p = rV J p) ∧ ∀ p, p < np → rV J' (7 + p) = 100 * rV J p := by
  have e10 : (100 : Int32).toInt = 100 := by decide
  have e0 : (0 : Int32).toInt = 0 := by decide
  have lp : ∀ (f kN : Nat) (k : Int32) (J2 : Nat → Nat → Int64), kN + f = np → k.toInt = kN → rG J2 → (∀ c q, ¬ (c = 108 ∧ 112 ≤ q ∧ q < 224) → J2 c q = J c q) → (∀ p, p < kN → rV J2 (7 + p) = 100 * rV J p) → ∃ J', (∀ (v : Option Value) (h' : xH) (x : Int32), x.toInt = np → xEv L xs (d + 1) 217 96 [.ref 86, .int nw, .int fr, .int tm, .int u, .int z, .int t, .int a, .int b, .int c, .int ta, .int tb_, .int x] [] (124, I, J', R) v h' → xEv L xs (d + 1) 217 96 [.ref 86, .int nw, .int fr, .int tm, .int u, .int z, .int t, .int a, .int b, .int c, .int ta, .int tb_, .int k] [] (124, I, J2, R) v h') ∧ (∀ c q, ¬ (c = 108 ∧ 112 ≤ q ∧ q < 224) → J' c q = J c q) ∧ rG J' ∧ ∀ p, p < np → rV J' (7 + p) = 100 * rV J p := by
    intro f
    induction f with
    | zero =>
      intro kN k J2 hk ek hg hF hV
      have e : kN = np := by omega
      subst e
      exact ⟨J2, fun v h' x hx z => by rw [show k = x from Int32.toInt_inj.mp (by omega)]; exact z, hF, hg, hV⟩
    | succ f ih =>
      intro kN k J2 hk ek hg hF hV
      have hk' : (k + 1).toInt = (kN + 1 : Nat) := by rw [i_add1 (by omega)]; omega
      have lowV : ∀ p, p < 7 → rV J2 p = rV J p := fun p hp => sT_c _ (fun i hi => by
        show (J2 108 (16 * p + i)).toInt = (J 108 (16 * p + i)).toInt
        rw [hF _ _ (by omega)])
      have b0 := (rV_b (g kN (by omega))).1
      have t1 := hv kN (by omega)
      have t2 := tn_lt (show sN + 2 < 9 * 16 by omega)
      have t3 : tn (sN + 2) = tn sN * 10 * 10 := by rw [tn_1 (sN + 1), tn_1 sN]
      obtain ⟨J3, y1, y2, y3, y4⟩ := qqm_run (L := L) (xs := xs) (d := d) (I := I) (J := J2) hG (p := k) (a := k) (u := 100) (b := k) (v := 0) ek ek ek (by omega) (by omega) (by omega) (by omega) (by omega) (by omega) (by omega) hg (by rw [lowV kN (by omega), e10, e0]; omega)
      rw [e10, e0, lowV kN (by omega), Int.zero_mul, Int.add_zero] at y4
      obtain ⟨J', z1, z2, z3, z4⟩ := ih (kN + 1) (k + 1) J3 (by omega) hk' y3 (fun c q hc => by rw [y2 c q (by omega)]; exact hF c q hc) (fun p hp => by
        by_cases e : p = kN
        · rw [e]
          exact y4
        · rw [← hV p (by omega)]
          exact sT_c _ (fun i hi => by
            show (J3 108 (16 * (7 + p) + i)).toInt = (J2 108 (16 * (7 + p) + i)).toInt
            rw [y2 _ _ (by omega)]))
      exact ⟨J', fun v h' x hx z => qqw_p hG (by omega) y1 (z1 v h' x hx z), z2, z3, z4⟩
  obtain ⟨J', x1, x2, x3, x4⟩ := lp np 0 0 J (by omega) (by decide) g (fun _ _ _ => rfl) (fun p hp => absurd hp (by omega))
  exact ⟨J', x1, x2, x3, fun p hp => sT_c _ (fun i hi => by
    show (J' 108 (16 * p + i)).toInt = (J 108 (16 * p + i)).toInt
    rw [x2 _ _ (by omega)]), x4⟩
/-- what goes to who is not barred -/
def qhu (n w x : Int32) : Int32 := if ((n >>> (w &&& 31)) &&& 1).toInt = 0 then x else 0
theorem qhu_b {n w x : Int32} {k : Int} (h0 : 0 ≤ x.toInt) (h1 : x.toInt ≤ k) : 0 ≤ (qhu n w x).toInt ∧ (qhu n w x).toInt ≤ k := by
  have e0 : (0 : Int32).toInt = 0 := by decide
  unfold qhu
  split
  · exact ⟨h0, h1⟩
  · rw [e0]
    omega
theorem qqw_step {L : Nat} {xs : Nat → Int32} {d : Nat} {I : Nat → Nat → Int32} {J : Nat → Nat → Int64} {R : Nat → Nat → Nat} (hG : aGd R) {nw fr tm u z t : Int32} {w7 w8 w9 wa wb wc : Value} {np sN mN : Nat} {aN bN : Nat} (hnp : (I 88 0).toInt = np) (n7 : np ≤ 7) (s8 : sN + 2 ≤ 128) (hs : (I 86 40).toInt = sN) (g : rG J) (hv : ∀ p, p < np → rV J p ≤ tn sN) (ht : t.toInt < z.toInt) (t0 : 0 ≤ t.toInt) (t64 : t.toInt < 64) (hm : (I 101 t.toNatClampNeg).toInt = mN) (m16 : mN < 16) (ha : (I 92 mN).toInt = aN) (hb : (I 93 mN).toInt = bN) (an : aN < np) (bn : bN < np) (hab : aN ≠ bN) (n0 : 0 ≤ nw.toInt) (n8 : nw.toInt < 8) (hc0 : 0 ≤ ((I 95 mN) * u).toInt) (hc1 : ((I 95 mN) * u).toInt ≤ 100) :
    ∃ (J' : Nat → Nat → Int64) (w7' w8' w9' wa' wb' wc' : Value), (∀ (v : Option Value) (h' : xH), xEv L xs (d + 1) 217 17 [.ref 86, .int nw, .int fr, .int tm, .int u, .int z, .int (t + 1), w7', w8', w9', wa', wb', wc'] [] (124, uI I 86 40 (I 86 40 + 2), J', R) v h' → xEv L xs (d + 1) 217 17 [.ref 86, .int nw, .int fr, .int tm, .int u, .int z, .int t, w7, w8, w9, wa, wb, wc] [] (124, I, J, R) v h') ∧ rG J' ∧ rV J' aN = (100 - (qhu (I 100 nw.toNatClampNeg) (I 93 mN) ((I 95 mN) * u)).toInt) * rV J aN + (qhu (I 100 nw.toNatClampNeg) (I 92 mN) ((I 95 mN) * u)).toInt * rV J bN ∧ rV J' bN = (100 - (qhu (I 100 nw.toNatClampNeg) (I 92 mN) ((I 95 mN) * u)).toInt) * rV J bN + (qhu (I 100 nw.toNatClampNeg) (I 93 mN) ((I 95 mN) * u)).toInt * rV J aN ∧ ∀ p, p < np → p ≠ aN → p ≠ bN → rV J' p = 100 * rV J p := by
  have ec := clamp_s (i := t) t0
  have ecm := clamp_s (i := I 101 t.toNatClampNeg) (by omega)
  have ekm : (I 101 t.toNatClampNeg).toNatClampNeg = mN := by omega
  have m1 := oA (L := L) (xs := xs) (d := d) (I := I) (J := J) (t := t) hG t0 t64 (by omega) (by omega)
  have m2 := tA (L := L) (xs := xs) (d := d) (I := I) (J := J) (t := t) hG t0 t64 (by omega) (by omega)
  rw [ekm] at m1 m2
  have kb := qib_run (L := L) (xs := xs) (d := d) (I := I) (J := J) hG (n := nw) (w := I 93 mN) n0 n8
  have ka := qib_run (L := L) (xs := xs) (d := d) (I := I) (J := J) hG (n := nw) (w := I 92 mN) n0 n8
  obtain ⟨qa, hqa⟩ : ∃ x, qhu (I 100 nw.toNatClampNeg) (I 92 mN) ((I 95 mN) * u) = x := ⟨_, rfl⟩
  obtain ⟨qb, hqb⟩ : ∃ x, qhu (I 100 nw.toNatClampNeg) (I 93 mN) ((I 95 mN) * u) = x := ⟨_, rfl⟩
  have first : ∀ (v : Option Value) (h' : xH), xEv L xs (d + 1) 217 75 [.ref 86, .int nw, .int fr, .int tm, .int u, .int z, .int t, .int (I 92 mN), .int (I 93 mN), .int ((I 95 mN) * u), .int qa, wb, wc] [] (124, I, J, R) v h' → xEv L xs (d + 1) 217 17 [.ref 86, .int nw, .int fr, .int tm, .int u, .int z, .int t, w7, w8, w9, wa, wb, wc] [] (124, I, J, R) v h' := by
    intro v h' zz
    rcases ka with ⟨h1, xa⟩ | ⟨h1, xa⟩
    · have e : qa = 0 := by rw [← hqa]; exact if_neg (by rw [h1]; decide)
      rw [e] at zz
      exact qqw_0 hG (by omega) m1 m2 t0 (by omega) (by omega) (by omega) xa (by rw [ekm]; exact zz)
    · have e : qa = (I 95 mN) * u := by rw [← hqa]; exact if_pos h1
      rw [e] at zz
      exact qqw_1 hG (by omega) m1 m2 t0 (by omega) (by omega) (by omega) xa (by rw [ekm]; exact zz)
  have second : ∀ (v : Option Value) (h' : xH), xEv L xs (d + 1) 217 96 [.ref 86, .int nw, .int fr, .int tm, .int u, .int z, .int t, .int (I 92 mN), .int (I 93 mN), .int ((I 95 mN) * u), .int qa, .int qb, .int 0] [] (124, I, J, R) v h' → xEv L xs (d + 1) 217 75 [.ref 86, .int nw, .int fr, .int tm, .int u, .int z, .int t, .int (I 92 mN), .int (I 93 mN), .int ((I 95 mN) * u), .int qa, wb, wc] [] (124, I, J, R) v h' := by
    intro v h' zz
    rcases kb with ⟨h1, xb⟩ | ⟨h1, xb⟩
    · have e : qb = 0 := by rw [← hqb]; exact if_neg (by rw [h1]; decide)
      rw [e] at zz
      exact qqw_2 hG xb zz
    · have e : qb = (I 95 mN) * u := by rw [← hqb]; exact if_pos h1
      rw [e] at zz
      exact qqw_3 hG xb zz
  obtain ⟨J1, y1, y2, y3, y4, y5⟩ := qqw_all (L := L) (xs := xs) (d := d) (I := I) (J := J) hG (nw := nw) (fr := fr) (tm := tm) (u := u) (z := z) (t := t) (a := I 92 mN) (b := I 93 mN) (c := (I 95 mN) * u) (ta := qa) (tb_ := qb) hnp n7 s8 g hv
  have e100 : (100 : Int32).toInt = 100 := by decide
  have ba := qhu_b (n := I 100 nw.toNatClampNeg) (w := I 92 mN) hc0 hc1
  have bb := qhu_b (n := I 100 nw.toNatClampNeg) (w := I 93 mN) hc0 hc1
  rw [hqa] at ba
  rw [hqb] at bb
  rw [hqa, hqb]
  have ea : (100 - qa).toInt = 100 - qa.toInt := by rw [i_sub (by omega) (by omega), e100]
  have eb : (100 - qb).toInt = 100 - qb.toInt := by rw [i_sub (by omega) (by omega), e100]
  have t3 : tn (sN + 2) = tn sN * 10 * 10 := by rw [tn_1 (sN + 1), tn_1 sN]
  have t2 := tn_lt (show sN + 2 < 9 * 16 by omega)
  have va := hv aN an
  have vb := hv bN bn
  have tp := tn_pos sN
  have p1 := Int.mul_le_mul_of_nonneg_left va (show (0 : Int) ≤ 100 - qb.toInt by omega)
  have p2 := Int.mul_le_mul_of_nonneg_left vb (show (0 : Int) ≤ qa.toInt by omega)
  have p3 := Int.mul_le_mul_of_nonneg_left vb (show (0 : Int) ≤ 100 - qa.toInt by omega)
  have p4 := Int.mul_le_mul_of_nonneg_left va (show (0 : Int) ≤ qb.toInt by omega)
  have p5 := Int.mul_le_mul_of_nonneg_right ba.2 (Int.le_of_lt tp)
  have p6 := Int.mul_le_mul_of_nonneg_right bb.2 (Int.le_of_lt tp)
  have p7 : (100 - qb.toInt) * tn sN = 100 * tn sN - qb.toInt * tn sN := Int.sub_mul _ _ _
  have p8 : (100 - qa.toInt) * tn sN = 100 * tn sN - qa.toInt * tn sN := Int.sub_mul _ _ _
  have p9 := Int.mul_nonneg ba.1 (Int.le_of_lt tp)
  have pa := Int.mul_nonneg bb.1 (Int.le_of_lt tp)
  obtain ⟨e4, he4⟩ : ∃ e, e = sN + 4 := ⟨_, rfl⟩
  have t4 : tn (sN + 3) = tn sN * 10 * 10 * 10 := by rw [tn_1 (sN + 2), tn_1 (sN + 1), tn_1 sN]
  have t5 := tn_lt (show sN + 3 < 9 * 16 by omega)
  obtain ⟨J2, z1, z2, z3, z4⟩ := qqm_run (L := L) (xs := xs) (d := d) (I := I) (J := J1) hG (p := I 92 mN) (a := I 92 mN) (u := 100 - qb) (b := I 93 mN) (v := qa) ha ha hb (by omega) (by omega) (by omega) (by omega) (by omega) (by omega) (by omega) y3 (by rw [y4 aN (by omega), y4 bN (by omega), eb]; omega)
  rw [y4 aN (by omega), y4 bN (by omega), eb] at z4
  have low2 : ∀ p, p < 7 → rV J2 p = rV J1 p := fun p hp => sT_c _ (fun i hi => by
    show (J2 108 (16 * p + i)).toInt = (J1 108 (16 * p + i)).toInt
    rw [z2 _ _ (by omega)])
  obtain ⟨J3, u1, u2, u3, u4⟩ := qqm_run (L := L) (xs := xs) (d := d) (I := I) (J := J2) hG (p := I 93 mN) (a := I 93 mN) (u := 100 - qa) (b := I 92 mN) (v := qb) hb hb ha (by omega) (by omega) (by omega) (by omega) (by omega) (by omega) (by omega) z3 (by rw [low2 aN (by omega), low2 bN (by omega), y4 aN (by omega), y4 bN (by omega), ea]; omega)
  rw [low2 aN (by omega), low2 bN (by omega), y4 aN (by omega), y4 bN (by omega), ea] at u4
  obtain ⟨J4, v1, v2, v3⟩ := qqn_run (L := L) (xs := xs) (d := d) (I := I) (J := J3) hG
  obtain ⟨g4, v4⟩ := qqn_v v2 v3 u3
  have hi3 : ∀ p, p < np → p ≠ bN → rV J3 (7 + p) = rV J2 (7 + p) := fun p hp hne => sT_c _ (fun i hi => by
    show (J3 108 (16 * (7 + p) + i)).toInt = (J2 108 (16 * (7 + p) + i)).toInt
    rw [u2 _ _ (by omega)])
  have hi2 : ∀ p, p < np → p ≠ aN → rV J2 (7 + p) = rV J1 (7 + p) := fun p hp hne => sT_c _ (fun i hi => by
    show (J2 108 (16 * (7 + p) + i)).toInt = (J1 108 (16 * (7 + p) + i)).toInt
    rw [z2 _ _ (by omega)])
  exact ⟨J4, _, _, _, _, _, _, fun v h' zz => first v h' (second v h' (y1 v h' (I 88 0) hnp (qqw_q hG (by omega) z1 u1 v1 zz))), g4, by rw [v4 aN (by omega), hi3 aN an hab, z4], by rw [v4 bN (by omega), u4], fun p hp h1 h2 => by rw [v4 p (by omega), hi3 p hp h2, hi2 p hp h1, y5 p hp]⟩
/-- the eight words of a time in the class -/
theorem qw_ops {L : Nat} {xs : Nat → Int32} {d : Nat} {I : Nat → Nat → Int32} {J : Nat → Nat → Int64} {R : Nat → Nat → Nat} (hG : aGd R) {fa fb a b : Int32} {un aN bN : Nat} (hu : (I 53 1).toInt = un) (h1 : 1 ≤ un) (h9 : un ≤ 9) (ha : a.toInt = aN) (hb : b.toInt = bN) (a7 : aN < 7) (b7 : bN < 7) (hab : aN ≠ bN) (a0 : 0 ≤ fa.toInt) (a1 : fa.toInt ≤ 100) (b0 : 0 ≤ fb.toInt) (b1 : fb.toInt ≤ 100) (gj : cG J un) (va : cV J un aN ≤ tn (16 * (un - 1))) (vb : cV J un bN ≤ tn (16 * (un - 1))) {mx my : Int} (hx : fb.toInt * cV J un aN = 100 * mx) (hy : fa.toInt * cV J un bN = 100 * my) :
    ∃ (J1 J2 J3 J4 J5 J6 J7 J8 : Nat → Nat → Int64), xEv L xs (d + 1) 75 0 [.ref 53, .int a, .int 7] [] (124, I, J, R) none (124, I, J1, R) ∧ xEv L xs (d + 1) 77 0 [.ref 53, .int 7, .int fb, .int 100, xmk, xmk, xmk, xmk, xmk, xmk, xmk] [] (124, I, J1, R) none (124, I, J2, R) ∧ xEv L xs (d + 1) 75 0 [.ref 53, .int b, .int 8] [] (124, I, J2, R) none (124, I, J3, R) ∧ xEv L xs (d + 1) 77 0 [.ref 53, .int 8, .int fa, .int 100, xmk, xmk, xmk, xmk, xmk, xmk, xmk] [] (124, I, J3, R) none (124, I, J4, R) ∧ xEv L xs (d + 1) 76 0 [.ref 53, .int 7, .int a, xmk, xmk, xmk, xmk, xmk] [] (124, I, J4, R) none (124, I, J5, R) ∧ xEv L xs (d + 1) 78 0 [.ref 53, .int 8, .int a, xmk, xmk, xmk, xmk, xmk] [] (124, I, J5, R) none (124, I, J6, R) ∧ xEv L xs (d + 1) 76 0 [.ref 53, .int 8, .int b, xmk, xmk, xmk, xmk, xmk] [] (124, I, J6, R) none (124, I, J7, R) ∧ xEv L xs (d + 1) 78 0 [.ref 53, .int 7, .int b, xmk, xmk, xmk, xmk, xmk] [] (124, I, J7, R) none (124, I, J8, R) ∧ (∀ c, c ≠ 54 → ∀ q, J8 c q = J c q) ∧ cG J8 un ∧ cV J8 un aN = cV J un aN - mx + my ∧ cV J8 un bN = cV J un bN - my + mx ∧ ∀ p, p < 7 → p ≠ aN → p ≠ bN → cV J8 un p = cV J un p := by
  have e7 : (7 : Int32).toInt = (7 : Nat) := by decide
  have e8 : (8 : Int32).toInt = (8 : Nat) := by decide
  have na := (cV_b (gj.1 aN (by omega)) h9).1
  have nb := (cV_b (gj.1 bN (by omega)) h9).1
  have px := Int.mul_le_mul_of_nonneg_right b1 na
  have py := Int.mul_le_mul_of_nonneg_right a1 nb
  have nx := Int.mul_nonneg b0 na
  have ny := Int.mul_nonneg a0 nb
  have tu : tn (16 * un) = tn (16 * (un - 1)) * 10000000000000000 := by
    rw [show 16 * un = 16 * (un - 1) + 16 from by omega, tn_add, tn_16]
  have tp := tn_pos (16 * (un - 1))
  obtain ⟨J1, x1, x2, x3⟩ := qy_run (L := L) (xs := xs) (d := d) (I := I) (J := J) hG hu h9 ha e7 (by omega) (by omega)
  have k1 : cK J J1 un 7 := fun c q hc => x3 c q (by omega)
  have d1 : cD J1 7 := fun i hi => by
    by_cases g : i < un
    · rw [x2 i g]
      exact gj.1 aN (by omega) i hi
    · rw [x3 _ _ (by omega)]
      exact gj.1 7 (by omega) i hi
  have g1 := cG_f h9 gj k1 d1
  have v1 : cV J1 un 7 = cV J un aN := cV_y x2
  obtain ⟨J2, y1, k2, y3, z, za, zb, zc⟩ := q100_run (L := L) (xs := xs) (d := d + 1) (I := I) (J := J1) hG hu h1 h9 e7 (by omega) b0 b1 d1 (cV_1 h1 h9 d1 (by rw [v1]; exact va))
  have g2 := cG_f h9 g1 k2 y3
  rw [v1, hx] at zc
  have v2 : cV J2 un 7 = mx := by omega
  have w2 : ∀ p, p < 7 → cV J2 un p = cV J un p := fun p hp => by rw [cV_k h9 k2 (by omega), cV_k h9 k1 (by omega)]
  obtain ⟨J3, c1, c2, c3⟩ := qy_run (L := L) (xs := xs) (d := d) (I := I) (J := J2) hG hu h9 hb e8 (by omega) (by omega)
  have k3 : cK J2 J3 un 8 := fun c q hc => c3 c q (by omega)
  have d3 : cD J3 8 := fun i hi => by
    by_cases g : i < un
    · rw [c2 i g]
      exact g2.1 bN (by omega) i hi
    · rw [c3 _ _ (by omega)]
      exact g2.1 8 (by omega) i hi
  have g3 := cG_f h9 g2 k3 d3
  have v3 : cV J3 un 8 = cV J un bN := by rw [cV_y c2]; exact w2 bN b7
  obtain ⟨J4, o1, k4, o3, z', za', zb', zc'⟩ := q100_run (L := L) (xs := xs) (d := d + 1) (I := I) (J := J3) hG hu h1 h9 e8 (by omega) a0 a1 d3 (cV_1 h1 h9 d3 (by rw [v3]; exact vb))
  have g4 := cG_f h9 g3 k4 o3
  rw [v3, hy] at zc'
  have v4 : cV J4 un 8 = my := by omega
  have v47 : cV J4 un 7 = mx := by rw [cV_k h9 k4 (by omega), cV_k h9 k3 (by omega)]; exact v2
  have w4 : ∀ p, p < 7 → cV J4 un p = cV J un p := fun p hp => by rw [cV_k h9 k4 (by omega), cV_k h9 k3 (by omega)]; exact w2 p hp
  obtain ⟨J5, s1, k5, s3, s4⟩ := qu_run (L := L) (xs := xs) (d := d + 1) (I := I) (J := J4) hG hu h1 h9 e7 ha (by omega) (by omega) (by omega) (g4.1 7 (by omega)) (g4.1 aN (by omega)) (by rw [v47, w4 aN a7]; omega)
  have g5 := cG_f h9 g4 k5 s3
  rw [v47, w4 aN a7] at s4
  have v58 : cV J5 un 8 = my := by rw [cV_k h9 k5 (by omega)]; exact v4
  have v57 : cV J5 un 7 = mx := by rw [cV_k h9 k5 (by omega)]; exact v47
  obtain ⟨J6, r1, k6, r3, r4⟩ := qd_run (L := L) (xs := xs) (d := d + 1) (I := I) (J := J5) hG hu h1 h9 e8 ha (by omega) (by omega) (by omega) (g5.1 8 (by omega)) (g5.1 aN (by omega)) (by rw [v58, s4]; omega)
  have g6 := cG_f h9 g5 k6 r3
  rw [v58, s4] at r4
  have v6b : cV J6 un bN = cV J un bN := by rw [cV_k h9 k6 (fun h => hab h.symm), cV_k h9 k5 (fun h => hab h.symm)]; exact w4 bN b7
  have v68 : cV J6 un 8 = my := by rw [cV_k h9 k6 (by omega)]; exact v58
  have v67 : cV J6 un 7 = mx := by rw [cV_k h9 k6 (by omega)]; exact v57
  obtain ⟨J7, t1, k7, t3, t4⟩ := qu_run (L := L) (xs := xs) (d := d + 1) (I := I) (J := J6) hG hu h1 h9 e8 hb (by omega) (by omega) (by omega) (g6.1 8 (by omega)) (g6.1 bN (by omega)) (by rw [v68, v6b]; omega)
  have g7 := cG_f h9 g6 k7 t3
  rw [v68, v6b] at t4
  have v77 : cV J7 un 7 = mx := by rw [cV_k h9 k7 (by omega)]; exact v67
  obtain ⟨J8, f1, k8, f3, f4⟩ := qd_run (L := L) (xs := xs) (d := d + 1) (I := I) (J := J7) hG hu h1 h9 e7 hb (by omega) (by omega) (by omega) (g7.1 7 (by omega)) (g7.1 bN (by omega)) (by rw [v77, t4]; omega)
  have g8 := cG_f h9 g7 k8 f3
  rw [v77, t4] at f4
  exact ⟨J1, J2, J3, J4, J5, J6, J7, J8, x1, y1, c1, o1, s1, r1, t1, f1, fun c hc q => by rw [k8 c q (fun h => hc h.1), k7 c q (fun h => hc h.1), k6 c q (fun h => hc h.1), k5 c q (fun h => hc h.1), k4 c q (fun h => hc h.1), k3 c q (fun h => hc h.1), k2 c q (fun h => hc h.1), k1 c q (fun h => hc h.1)], g8, by rw [cV_k h9 k8 hab, cV_k h9 k7 hab]; exact r4, f4, fun p hp ha hb => by rw [cV_k h9 k8 hb, cV_k h9 k7 hb, cV_k h9 k6 ha, cV_k h9 k5 ha]; exact w4 p hp⟩
