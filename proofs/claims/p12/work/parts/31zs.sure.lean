set_option maxRecDepth 20000 in
theorem qt_x {L : Nat} {xs : Nat → Int32} {d : Nat} {I : Nat → Nat → Int32} {J : Nat → Nat → Int64} {R : Nat → Nat → Nat} {a b c t h w : Int32} (hG : aGd R) (c1 : xEv L xs d 183 0 [.ref 86, .int a, .int b, .int c, .int t] [] (124, I, J, R) (some (.int 0)) (124, I, J, R)) : xEv L xs (d + 1) 188 0 [.ref 86, .int a, .int b, .int c, .int t, .int h, .int w] [] (124, I, J, R) (some (.int (-2))) (124, I, J, R) := by
  refine ev_go 5 (pc1 := 6) (lv1 := [.ref 86, .int a, .int b, .int c, .int t, .int h, .int w]) (st1 := [.int t, .int c, .int b, .int a, .ref 86]) (h1 := (124, I, J, R)) rfl ?_
  refine ev_call (v1 := (some (.int 0))) (h1 := (124, I, J, R)) rfl rfl c1 ?_
  refine ev_go 2 (pc1 := 35) (lv1 := [.ref 86, .int a, .int b, .int c, .int t, .int h, .int w]) (st1 := [.int (-2)]) (h1 := (124, I, J, R)) rfl ?_
  exact ev_ret rfl rfl
set_option maxRecDepth 20000 in
theorem qt_y {L : Nat} {xs : Nat → Int32} {d : Nat} {I : Nat → Nat → Int32} {J : Nat → Nat → Int64} {R : Nat → Nat → Nat} {a b c t h w : Int32} (hG : aGd R) (c1 : xEv L xs d 183 0 [.ref 86, .int a, .int b, .int c, .int t] [] (124, I, J, R) (some (.int 1)) (124, I, J, R)) (c2 : xEv L xs d 160 0 [.int h, .int 0, .int 95] [] (124, I, J, R) (some (.int 0)) (124, I, J, R)) : xEv L xs (d + 1) 188 0 [.ref 86, .int a, .int b, .int c, .int t, .int h, .int w] [] (124, I, J, R) (some (.int (-2))) (124, I, J, R) := by
  refine ev_go 5 (pc1 := 6) (lv1 := [.ref 86, .int a, .int b, .int c, .int t, .int h, .int w]) (st1 := [.int t, .int c, .int b, .int a, .ref 86]) (h1 := (124, I, J, R)) rfl ?_
  refine ev_call (v1 := (some (.int 1))) (h1 := (124, I, J, R)) rfl rfl c1 ?_
  refine ev_go 4 (pc1 := 17) (lv1 := [.ref 86, .int a, .int b, .int c, .int t, .int h, .int w]) (st1 := [.int 95, .int 0, .int h]) (h1 := (124, I, J, R)) rfl ?_
  refine ev_call (v1 := (some (.int 0))) (h1 := (124, I, J, R)) rfl rfl c2 ?_
  refine ev_go 2 (pc1 := 35) (lv1 := [.ref 86, .int a, .int b, .int c, .int t, .int h, .int w]) (st1 := [.int (-2)]) (h1 := (124, I, J, R)) rfl ?_
  exact ev_ret rfl rfl
set_option maxRecDepth 20000 in
theorem qt_z {L : Nat} {xs : Nat → Int32} {d : Nat} {I : Nat → Nat → Int32} {J : Nat → Nat → Int64} {R : Nat → Nat → Nat} {a b c t h w : Int32} (hG : aGd R) (c1 : xEv L xs d 183 0 [.ref 86, .int a, .int b, .int c, .int t] [] (124, I, J, R) (some (.int 1)) (124, I, J, R)) (c2 : xEv L xs d 160 0 [.int h, .int 0, .int 95] [] (124, I, J, R) (some (.int 1)) (124, I, J, R)) (c3 : xEv L xs d 160 0 [.int w, .int 0, .int 1] [] (124, I, J, R) (some (.int 0)) (124, I, J, R)) : xEv L xs (d + 1) 188 0 [.ref 86, .int a, .int b, .int c, .int t, .int h, .int w] [] (124, I, J, R) (some (.int (-2))) (124, I, J, R) := by
  refine ev_go 5 (pc1 := 6) (lv1 := [.ref 86, .int a, .int b, .int c, .int t, .int h, .int w]) (st1 := [.int t, .int c, .int b, .int a, .ref 86]) (h1 := (124, I, J, R)) rfl ?_
  refine ev_call (v1 := (some (.int 1))) (h1 := (124, I, J, R)) rfl rfl c1 ?_
  refine ev_go 4 (pc1 := 17) (lv1 := [.ref 86, .int a, .int b, .int c, .int t, .int h, .int w]) (st1 := [.int 95, .int 0, .int h]) (h1 := (124, I, J, R)) rfl ?_
  refine ev_call (v1 := (some (.int 1))) (h1 := (124, I, J, R)) rfl rfl c2 ?_
  refine ev_go 4 (pc1 := 27) (lv1 := [.ref 86, .int a, .int b, .int c, .int t, .int h, .int w]) (st1 := [.int 1, .int 0, .int w]) (h1 := (124, I, J, R)) rfl ?_
  refine ev_call (v1 := (some (.int 0))) (h1 := (124, I, J, R)) rfl rfl c3 ?_
  refine ev_go 2 (pc1 := 35) (lv1 := [.ref 86, .int a, .int b, .int c, .int t, .int h, .int w]) (st1 := [.int (-2)]) (h1 := (124, I, J, R)) rfl ?_
  exact ev_ret rfl rfl
set_option maxRecDepth 20000 in
theorem qt_0 {L : Nat} {xs : Nat → Int32} {d : Nat} {I : Nat → Nat → Int32} {J : Nat → Nat → Int64} {R : Nat → Nat → Nat} {I1 : Nat → Nat → Int32} {J1 : Nat → Nat → Int64} {J2 : Nat → Nat → Int64} {a b c t h w r1 : Int32} (hG : aGd R) (c1 : xEv L xs d 183 0 [.ref 86, .int a, .int b, .int c, .int t] [] (124, I, J, R) (some (.int 1)) (124, I, J, R)) (c2 : xEv L xs d 160 0 [.int h, .int 0, .int 95] [] (124, I, J, R) (some (.int 1)) (124, I, J, R)) (c3 : xEv L xs d 160 0 [.int w, .int 0, .int 1] [] (124, I, J, R) (some (.int 1)) (124, I, J, R)) (c4 : xEv L xs d 189 0 [.ref 86, .int a, .int c, .int t, .int h, xmk, xmk, xmk, xmk, xmk, xmk, xmk] [] (124, I, J, R) none (124, I1, J1, R)) (b1 : w.toInt = 0) (c5 : xEv L xs d 194 0 [.ref 86, .int b, xmk, xmk, xmk] [] (124, I1, J1, R) (some (.int r1)) (124, I1, J2, R)) : xEv L xs (d + 1) 188 0 [.ref 86, .int a, .int b, .int c, .int t, .int h, .int w] [] (124, I, J, R) (some (.int r1)) (124, I1, J2, R) := by
  refine ev_go 5 (pc1 := 6) (lv1 := [.ref 86, .int a, .int b, .int c, .int t, .int h, .int w]) (st1 := [.int t, .int c, .int b, .int a, .ref 86]) (h1 := (124, I, J, R)) rfl ?_
  refine ev_call (v1 := (some (.int 1))) (h1 := (124, I, J, R)) rfl rfl c1 ?_
  refine ev_go 4 (pc1 := 17) (lv1 := [.ref 86, .int a, .int b, .int c, .int t, .int h, .int w]) (st1 := [.int 95, .int 0, .int h]) (h1 := (124, I, J, R)) rfl ?_
  refine ev_call (v1 := (some (.int 1))) (h1 := (124, I, J, R)) rfl rfl c2 ?_
  refine ev_go 4 (pc1 := 27) (lv1 := [.ref 86, .int a, .int b, .int c, .int t, .int h, .int w]) (st1 := [.int 1, .int 0, .int w]) (h1 := (124, I, J, R)) rfl ?_
  refine ev_call (v1 := (some (.int 1))) (h1 := (124, I, J, R)) rfl rfl c3 ?_
  refine ev_go 6 (pc1 := 43) (lv1 := [.ref 86, .int a, .int b, .int c, .int t, .int h, .int w]) (st1 := [.int h, .int t, .int c, .int a, .ref 86]) (h1 := (124, I, J, R)) rfl ?_
  refine ev_call (v1 := none) (h1 := (124, I1, J1, R)) rfl rfl c4 ?_
  refine ev_go 1 (pc1 := 48) (lv1 := [.ref 86, .int a, .int b, .int c, .int t, .int h, .int w]) (st1 := [.int w]) (h1 := (124, I1, J1, R)) rfl ?_
  refine ev_br (b1 := false) rfl rfl (xcd_nne (x := w) (y := 0) (by rw [show ((0 : Int32)).toInt = 0 from by decide]; first | exact b1 | omega)) ?_
  refine ev_go 2 (pc1 := 53) (lv1 := [.ref 86, .int a, .int b, .int c, .int t, .int h, .int w]) (st1 := [.int b, .ref 86]) (h1 := (124, I1, J1, R)) rfl ?_
  refine ev_call (v1 := (some (.int r1))) (h1 := (124, I1, J2, R)) rfl rfl c5 ?_
  refine ev_go 1 (pc1 := 64) (lv1 := [.ref 86, .int a, .int b, .int c, .int t, .int h, .int w]) (st1 := [.int r1]) (h1 := (124, I1, J2, R)) rfl ?_
  exact ev_ret rfl rfl
set_option maxRecDepth 20000 in
theorem qt_1 {L : Nat} {xs : Nat → Int32} {d : Nat} {I : Nat → Nat → Int32} {J : Nat → Nat → Int64} {R : Nat → Nat → Nat} {I1 : Nat → Nat → Int32} {J1 : Nat → Nat → Int64} {J2 : Nat → Nat → Int64} {a b c t h w r1 : Int32} (hG : aGd R) (c1 : xEv L xs d 183 0 [.ref 86, .int a, .int b, .int c, .int t] [] (124, I, J, R) (some (.int 1)) (124, I, J, R)) (c2 : xEv L xs d 160 0 [.int h, .int 0, .int 95] [] (124, I, J, R) (some (.int 1)) (124, I, J, R)) (c3 : xEv L xs d 160 0 [.int w, .int 0, .int 1] [] (124, I, J, R) (some (.int 1)) (124, I, J, R)) (c4 : xEv L xs d 189 0 [.ref 86, .int a, .int c, .int t, .int h, xmk, xmk, xmk, xmk, xmk, xmk, xmk] [] (124, I, J, R) none (124, I1, J1, R)) (b1 : w.toInt ≠ 0) (c5 : xEv L xs d 197 0 [.ref 86, .int b, xmk] [] (124, I1, J1, R) (some (.int r1)) (124, I1, J2, R)) : xEv L xs (d + 1) 188 0 [.ref 86, .int a, .int b, .int c, .int t, .int h, .int w] [] (124, I, J, R) (some (.int r1)) (124, I1, J2, R) := by
  refine ev_go 5 (pc1 := 6) (lv1 := [.ref 86, .int a, .int b, .int c, .int t, .int h, .int w]) (st1 := [.int t, .int c, .int b, .int a, .ref 86]) (h1 := (124, I, J, R)) rfl ?_
  refine ev_call (v1 := (some (.int 1))) (h1 := (124, I, J, R)) rfl rfl c1 ?_
  refine ev_go 4 (pc1 := 17) (lv1 := [.ref 86, .int a, .int b, .int c, .int t, .int h, .int w]) (st1 := [.int 95, .int 0, .int h]) (h1 := (124, I, J, R)) rfl ?_
  refine ev_call (v1 := (some (.int 1))) (h1 := (124, I, J, R)) rfl rfl c2 ?_
  refine ev_go 4 (pc1 := 27) (lv1 := [.ref 86, .int a, .int b, .int c, .int t, .int h, .int w]) (st1 := [.int 1, .int 0, .int w]) (h1 := (124, I, J, R)) rfl ?_
  refine ev_call (v1 := (some (.int 1))) (h1 := (124, I, J, R)) rfl rfl c3 ?_
  refine ev_go 6 (pc1 := 43) (lv1 := [.ref 86, .int a, .int b, .int c, .int t, .int h, .int w]) (st1 := [.int h, .int t, .int c, .int a, .ref 86]) (h1 := (124, I, J, R)) rfl ?_
  refine ev_call (v1 := none) (h1 := (124, I1, J1, R)) rfl rfl c4 ?_
  refine ev_go 1 (pc1 := 48) (lv1 := [.ref 86, .int a, .int b, .int c, .int t, .int h, .int w]) (st1 := [.int w]) (h1 := (124, I1, J1, R)) rfl ?_
  refine ev_br (b1 := true) rfl rfl (xcd_ne (x := w) (y := 0) (by rw [show ((0 : Int32)).toInt = 0 from by decide]; first | exact b1 | omega)) ?_
  refine ev_go 2 (pc1 := 61) (lv1 := [.ref 86, .int a, .int b, .int c, .int t, .int h, .int w]) (st1 := [.int b, .ref 86]) (h1 := (124, I1, J1, R)) rfl ?_
  refine ev_call (v1 := (some (.int r1))) (h1 := (124, I1, J2, R)) rfl rfl c5 ?_
  exact ev_ret rfl rfl
set_option maxRecDepth 20000 in
theorem qv_n_3 {L : Nat} {xs : Nat → Int32} {d : Nat} {I : Nat → Nat → Int32} {J : Nat → Nat → Int64} {R : Nat → Nat → Nat} {a b c t h w : Int32} (hG : aGd R) (r_R_0_8 : R 0 8 = 4) (c1 : xEv L xs d 59 0 [.ref 3, .int a] [] (124, I, J, R) (some (.int 0)) (124, I, J, R)) : xEv L xs (d + 1) 68 0 [.ref 0, .int a, .int b, .int c, .int t, .int h, .int w, xmk] [] (124, I, J, R) (some (.int (-2))) (124, I, J, R) := by
  refine ev_go 1 (pc1 := 1) (lv1 := [.ref 0, .int a, .int b, .int c, .int t, .int h, .int w, xmk]) (st1 := [.ref 0]) (h1 := (124, I, J, R)) rfl ?_
  refine ev_gf (c := 0) (t := 3) (X := R 0 8) rfl rfl (fun _ => rfl) rfl r_R_0_8 ?_
  refine ev_go 1 (pc1 := 5) (lv1 := [.ref 0, .int a, .int b, .int c, .int t, .int h, .int w, xmk]) (st1 := [.int a, .ref 3]) (h1 := (124, I, J, R)) rfl ?_
  refine ev_call (v1 := (some (.int 0))) (h1 := (124, I, J, R)) rfl rfl c1 ?_
  refine ev_go 2 (pc1 := 73) (lv1 := [.ref 0, .int a, .int b, .int c, .int t, .int h, .int w, xmk]) (st1 := [.int (-2)]) (h1 := (124, I, J, R)) rfl ?_
  exact ev_ret rfl rfl
set_option maxRecDepth 20000 in
theorem qv_p_3 {L : Nat} {xs : Nat → Int32} {d : Nat} {I : Nat → Nat → Int32} {J : Nat → Nat → Int64} {R : Nat → Nat → Nat} {a b c t h w : Int32} (hG : aGd R) (r_R_0_8 : R 0 8 = 4) (c1 : xEv L xs d 59 0 [.ref 3, .int a] [] (124, I, J, R) (some (.int 1)) (124, I, J, R)) (c2 : xEv L xs d 64 0 [.ref 3, .int b] [] (124, I, J, R) (some (.int 0)) (124, I, J, R)) : xEv L xs (d + 1) 68 0 [.ref 0, .int a, .int b, .int c, .int t, .int h, .int w, xmk] [] (124, I, J, R) (some (.int (-2))) (124, I, J, R) := by
  refine ev_go 1 (pc1 := 1) (lv1 := [.ref 0, .int a, .int b, .int c, .int t, .int h, .int w, xmk]) (st1 := [.ref 0]) (h1 := (124, I, J, R)) rfl ?_
  refine ev_gf (c := 0) (t := 3) (X := R 0 8) rfl rfl (fun _ => rfl) rfl r_R_0_8 ?_
  refine ev_go 1 (pc1 := 5) (lv1 := [.ref 0, .int a, .int b, .int c, .int t, .int h, .int w, xmk]) (st1 := [.int a, .ref 3]) (h1 := (124, I, J, R)) rfl ?_
  refine ev_call (v1 := (some (.int 1))) (h1 := (124, I, J, R)) rfl rfl c1 ?_
  refine ev_go 2 (pc1 := 12) (lv1 := [.ref 0, .int a, .int b, .int c, .int t, .int h, .int w, xmk]) (st1 := [.ref 0]) (h1 := (124, I, J, R)) rfl ?_
  refine ev_gf (c := 0) (t := 3) (X := R 0 8) rfl rfl (fun _ => rfl) rfl r_R_0_8 ?_
  refine ev_go 1 (pc1 := 16) (lv1 := [.ref 0, .int a, .int b, .int c, .int t, .int h, .int w, xmk]) (st1 := [.int b, .ref 3]) (h1 := (124, I, J, R)) rfl ?_
  refine ev_call (v1 := (some (.int 0))) (h1 := (124, I, J, R)) rfl rfl c2 ?_
  refine ev_go 2 (pc1 := 73) (lv1 := [.ref 0, .int a, .int b, .int c, .int t, .int h, .int w, xmk]) (st1 := [.int (-2)]) (h1 := (124, I, J, R)) rfl ?_
  exact ev_ret rfl rfl
set_option maxRecDepth 20000 in
theorem qv_q_3 {L : Nat} {xs : Nat → Int32} {d : Nat} {I : Nat → Nat → Int32} {J : Nat → Nat → Int64} {R : Nat → Nat → Nat} {a b c t h w : Int32} (hG : aGd R) (r_R_0_8 : R 0 8 = 4) (c1 : xEv L xs d 59 0 [.ref 3, .int a] [] (124, I, J, R) (some (.int 1)) (124, I, J, R)) (c2 : xEv L xs d 64 0 [.ref 3, .int b] [] (124, I, J, R) (some (.int 1)) (124, I, J, R)) (c3 : xEv L xs d 64 0 [.ref 3, .int c] [] (124, I, J, R) (some (.int 0)) (124, I, J, R)) : xEv L xs (d + 1) 68 0 [.ref 0, .int a, .int b, .int c, .int t, .int h, .int w, xmk] [] (124, I, J, R) (some (.int (-2))) (124, I, J, R) := by
  refine ev_go 1 (pc1 := 1) (lv1 := [.ref 0, .int a, .int b, .int c, .int t, .int h, .int w, xmk]) (st1 := [.ref 0]) (h1 := (124, I, J, R)) rfl ?_
  refine ev_gf (c := 0) (t := 3) (X := R 0 8) rfl rfl (fun _ => rfl) rfl r_R_0_8 ?_
  refine ev_go 1 (pc1 := 5) (lv1 := [.ref 0, .int a, .int b, .int c, .int t, .int h, .int w, xmk]) (st1 := [.int a, .ref 3]) (h1 := (124, I, J, R)) rfl ?_
  refine ev_call (v1 := (some (.int 1))) (h1 := (124, I, J, R)) rfl rfl c1 ?_
  refine ev_go 2 (pc1 := 12) (lv1 := [.ref 0, .int a, .int b, .int c, .int t, .int h, .int w, xmk]) (st1 := [.ref 0]) (h1 := (124, I, J, R)) rfl ?_
  refine ev_gf (c := 0) (t := 3) (X := R 0 8) rfl rfl (fun _ => rfl) rfl r_R_0_8 ?_
  refine ev_go 1 (pc1 := 16) (lv1 := [.ref 0, .int a, .int b, .int c, .int t, .int h, .int w, xmk]) (st1 := [.int b, .ref 3]) (h1 := (124, I, J, R)) rfl ?_
  refine ev_call (v1 := (some (.int 1))) (h1 := (124, I, J, R)) rfl rfl c2 ?_
  refine ev_go 2 (pc1 := 23) (lv1 := [.ref 0, .int a, .int b, .int c, .int t, .int h, .int w, xmk]) (st1 := [.ref 0]) (h1 := (124, I, J, R)) rfl ?_
  refine ev_gf (c := 0) (t := 3) (X := R 0 8) rfl rfl (fun _ => rfl) rfl r_R_0_8 ?_
  refine ev_go 1 (pc1 := 27) (lv1 := [.ref 0, .int a, .int b, .int c, .int t, .int h, .int w, xmk]) (st1 := [.int c, .ref 3]) (h1 := (124, I, J, R)) rfl ?_
  refine ev_call (v1 := (some (.int 0))) (h1 := (124, I, J, R)) rfl rfl c3 ?_
  refine ev_go 2 (pc1 := 73) (lv1 := [.ref 0, .int a, .int b, .int c, .int t, .int h, .int w, xmk]) (st1 := [.int (-2)]) (h1 := (124, I, J, R)) rfl ?_
  exact ev_ret rfl rfl
set_option maxRecDepth 20000 in
theorem qv_m_3 {L : Nat} {xs : Nat → Int32} {d : Nat} {I : Nat → Nat → Int32} {J : Nat → Nat → Int64} {R : Nat → Nat → Nat} {a b c t h w : Int32} (hG : aGd R) (r_R_0_8 : R 0 8 = 4) (c1 : xEv L xs d 59 0 [.ref 3, .int a] [] (124, I, J, R) (some (.int 1)) (124, I, J, R)) (c2 : xEv L xs d 64 0 [.ref 3, .int b] [] (124, I, J, R) (some (.int 1)) (124, I, J, R)) (c3 : xEv L xs d 64 0 [.ref 3, .int c] [] (124, I, J, R) (some (.int 1)) (124, I, J, R)) (c4 : xEv L xs d 65 0 [.ref 17, .int t] [] (124, I, J, R) (some (.int 0)) (124, I, J, R)) : xEv L xs (d + 1) 68 0 [.ref 0, .int a, .int b, .int c, .int t, .int h, .int w, xmk] [] (124, I, J, R) (some (.int (-2))) (124, I, J, R) := by
  refine ev_go 1 (pc1 := 1) (lv1 := [.ref 0, .int a, .int b, .int c, .int t, .int h, .int w, xmk]) (st1 := [.ref 0]) (h1 := (124, I, J, R)) rfl ?_
  refine ev_gf (c := 0) (t := 3) (X := R 0 8) rfl rfl (fun _ => rfl) rfl r_R_0_8 ?_
  refine ev_go 1 (pc1 := 5) (lv1 := [.ref 0, .int a, .int b, .int c, .int t, .int h, .int w, xmk]) (st1 := [.int a, .ref 3]) (h1 := (124, I, J, R)) rfl ?_
  refine ev_call (v1 := (some (.int 1))) (h1 := (124, I, J, R)) rfl rfl c1 ?_
  refine ev_go 2 (pc1 := 12) (lv1 := [.ref 0, .int a, .int b, .int c, .int t, .int h, .int w, xmk]) (st1 := [.ref 0]) (h1 := (124, I, J, R)) rfl ?_
  refine ev_gf (c := 0) (t := 3) (X := R 0 8) rfl rfl (fun _ => rfl) rfl r_R_0_8 ?_
  refine ev_go 1 (pc1 := 16) (lv1 := [.ref 0, .int a, .int b, .int c, .int t, .int h, .int w, xmk]) (st1 := [.int b, .ref 3]) (h1 := (124, I, J, R)) rfl ?_
  refine ev_call (v1 := (some (.int 1))) (h1 := (124, I, J, R)) rfl rfl c2 ?_
  refine ev_go 2 (pc1 := 23) (lv1 := [.ref 0, .int a, .int b, .int c, .int t, .int h, .int w, xmk]) (st1 := [.ref 0]) (h1 := (124, I, J, R)) rfl ?_
  refine ev_gf (c := 0) (t := 3) (X := R 0 8) rfl rfl (fun _ => rfl) rfl r_R_0_8 ?_
  refine ev_go 1 (pc1 := 27) (lv1 := [.ref 0, .int a, .int b, .int c, .int t, .int h, .int w, xmk]) (st1 := [.int c, .ref 3]) (h1 := (124, I, J, R)) rfl ?_
  refine ev_call (v1 := (some (.int 1))) (h1 := (124, I, J, R)) rfl rfl c3 ?_
  refine ev_go 2 (pc1 := 34) (lv1 := [.ref 0, .int a, .int b, .int c, .int t, .int h, .int w, xmk]) (st1 := [.ref 0]) (h1 := (124, I, J, R)) rfl ?_
  refine ev_gf (c := 0) (t := 3) (X := R 0 8) rfl rfl (fun _ => rfl) rfl r_R_0_8 ?_
  refine ev_gf (c := 3) (t := 17) (X := R 3 13) rfl rfl (fun _ => rfl) rfl (hG 3 13 17 rfl rfl) ?_
  refine ev_go 1 (pc1 := 42) (lv1 := [.ref 0, .int a, .int b, .int c, .int t, .int h, .int w, xmk]) (st1 := [.int t, .ref 17]) (h1 := (124, I, J, R)) rfl ?_
  refine ev_call (v1 := (some (.int 0))) (h1 := (124, I, J, R)) rfl rfl c4 ?_
  refine ev_go 2 (pc1 := 73) (lv1 := [.ref 0, .int a, .int b, .int c, .int t, .int h, .int w, xmk]) (st1 := [.int (-2)]) (h1 := (124, I, J, R)) rfl ?_
  exact ev_ret rfl rfl
set_option maxRecDepth 20000 in
theorem qv_h_3 {L : Nat} {xs : Nat → Int32} {d : Nat} {I : Nat → Nat → Int32} {J : Nat → Nat → Int64} {R : Nat → Nat → Nat} {a b c t h w : Int32} (hG : aGd R) (r_R_0_8 : R 0 8 = 4) (c1 : xEv L xs d 59 0 [.ref 3, .int a] [] (124, I, J, R) (some (.int 1)) (124, I, J, R)) (c2 : xEv L xs d 64 0 [.ref 3, .int b] [] (124, I, J, R) (some (.int 1)) (124, I, J, R)) (c3 : xEv L xs d 64 0 [.ref 3, .int c] [] (124, I, J, R) (some (.int 1)) (124, I, J, R)) (c4 : xEv L xs d 65 0 [.ref 17, .int t] [] (124, I, J, R) (some (.int 1)) (124, I, J, R)) (b1 : h.toInt < 0) : xEv L xs (d + 1) 68 0 [.ref 0, .int a, .int b, .int c, .int t, .int h, .int w, xmk] [] (124, I, J, R) (some (.int (-2))) (124, I, J, R) := by
  refine ev_go 1 (pc1 := 1) (lv1 := [.ref 0, .int a, .int b, .int c, .int t, .int h, .int w, xmk]) (st1 := [.ref 0]) (h1 := (124, I, J, R)) rfl ?_
  refine ev_gf (c := 0) (t := 3) (X := R 0 8) rfl rfl (fun _ => rfl) rfl r_R_0_8 ?_
  refine ev_go 1 (pc1 := 5) (lv1 := [.ref 0, .int a, .int b, .int c, .int t, .int h, .int w, xmk]) (st1 := [.int a, .ref 3]) (h1 := (124, I, J, R)) rfl ?_
  refine ev_call (v1 := (some (.int 1))) (h1 := (124, I, J, R)) rfl rfl c1 ?_
  refine ev_go 2 (pc1 := 12) (lv1 := [.ref 0, .int a, .int b, .int c, .int t, .int h, .int w, xmk]) (st1 := [.ref 0]) (h1 := (124, I, J, R)) rfl ?_
  refine ev_gf (c := 0) (t := 3) (X := R 0 8) rfl rfl (fun _ => rfl) rfl r_R_0_8 ?_
  refine ev_go 1 (pc1 := 16) (lv1 := [.ref 0, .int a, .int b, .int c, .int t, .int h, .int w, xmk]) (st1 := [.int b, .ref 3]) (h1 := (124, I, J, R)) rfl ?_
  refine ev_call (v1 := (some (.int 1))) (h1 := (124, I, J, R)) rfl rfl c2 ?_
  refine ev_go 2 (pc1 := 23) (lv1 := [.ref 0, .int a, .int b, .int c, .int t, .int h, .int w, xmk]) (st1 := [.ref 0]) (h1 := (124, I, J, R)) rfl ?_
  refine ev_gf (c := 0) (t := 3) (X := R 0 8) rfl rfl (fun _ => rfl) rfl r_R_0_8 ?_
  refine ev_go 1 (pc1 := 27) (lv1 := [.ref 0, .int a, .int b, .int c, .int t, .int h, .int w, xmk]) (st1 := [.int c, .ref 3]) (h1 := (124, I, J, R)) rfl ?_
  refine ev_call (v1 := (some (.int 1))) (h1 := (124, I, J, R)) rfl rfl c3 ?_
  refine ev_go 2 (pc1 := 34) (lv1 := [.ref 0, .int a, .int b, .int c, .int t, .int h, .int w, xmk]) (st1 := [.ref 0]) (h1 := (124, I, J, R)) rfl ?_
  refine ev_gf (c := 0) (t := 3) (X := R 0 8) rfl rfl (fun _ => rfl) rfl r_R_0_8 ?_
  refine ev_gf (c := 3) (t := 17) (X := R 3 13) rfl rfl (fun _ => rfl) rfl (hG 3 13 17 rfl rfl) ?_
  refine ev_go 1 (pc1 := 42) (lv1 := [.ref 0, .int a, .int b, .int c, .int t, .int h, .int w, xmk]) (st1 := [.int t, .ref 17]) (h1 := (124, I, J, R)) rfl ?_
  refine ev_call (v1 := (some (.int 1))) (h1 := (124, I, J, R)) rfl rfl c4 ?_
  refine ev_go 2 (pc1 := 50) (lv1 := [.ref 0, .int a, .int b, .int c, .int t, .int h, .int w, xmk]) (st1 := [.int h]) (h1 := (124, I, J, R)) rfl ?_
  refine ev_br (b1 := true) rfl rfl (xcd_lt (x := h) (y := 0) (by rw [show ((0 : Int32)).toInt = 0 from by decide]; first | exact b1 | omega)) ?_
  refine ev_go 1 (pc1 := 73) (lv1 := [.ref 0, .int a, .int b, .int c, .int t, .int h, .int w, xmk]) (st1 := [.int (-2)]) (h1 := (124, I, J, R)) rfl ?_
  exact ev_ret rfl rfl
set_option maxRecDepth 20000 in
theorem qv_i_3 {L : Nat} {xs : Nat → Int32} {d : Nat} {I : Nat → Nat → Int32} {J : Nat → Nat → Int64} {R : Nat → Nat → Nat} {a b c t h w : Int32} (hG : aGd R) (r_R_0_8 : R 0 8 = 4) (c1 : xEv L xs d 59 0 [.ref 3, .int a] [] (124, I, J, R) (some (.int 1)) (124, I, J, R)) (c2 : xEv L xs d 64 0 [.ref 3, .int b] [] (124, I, J, R) (some (.int 1)) (124, I, J, R)) (c3 : xEv L xs d 64 0 [.ref 3, .int c] [] (124, I, J, R) (some (.int 1)) (124, I, J, R)) (c4 : xEv L xs d 65 0 [.ref 17, .int t] [] (124, I, J, R) (some (.int 1)) (124, I, J, R)) (b1 : h.toInt ≥ 0) (b2 : h.toInt > 95) : xEv L xs (d + 1) 68 0 [.ref 0, .int a, .int b, .int c, .int t, .int h, .int w, xmk] [] (124, I, J, R) (some (.int (-2))) (124, I, J, R) := by
  refine ev_go 1 (pc1 := 1) (lv1 := [.ref 0, .int a, .int b, .int c, .int t, .int h, .int w, xmk]) (st1 := [.ref 0]) (h1 := (124, I, J, R)) rfl ?_
  refine ev_gf (c := 0) (t := 3) (X := R 0 8) rfl rfl (fun _ => rfl) rfl r_R_0_8 ?_
  refine ev_go 1 (pc1 := 5) (lv1 := [.ref 0, .int a, .int b, .int c, .int t, .int h, .int w, xmk]) (st1 := [.int a, .ref 3]) (h1 := (124, I, J, R)) rfl ?_
  refine ev_call (v1 := (some (.int 1))) (h1 := (124, I, J, R)) rfl rfl c1 ?_
  refine ev_go 2 (pc1 := 12) (lv1 := [.ref 0, .int a, .int b, .int c, .int t, .int h, .int w, xmk]) (st1 := [.ref 0]) (h1 := (124, I, J, R)) rfl ?_
  refine ev_gf (c := 0) (t := 3) (X := R 0 8) rfl rfl (fun _ => rfl) rfl r_R_0_8 ?_
  refine ev_go 1 (pc1 := 16) (lv1 := [.ref 0, .int a, .int b, .int c, .int t, .int h, .int w, xmk]) (st1 := [.int b, .ref 3]) (h1 := (124, I, J, R)) rfl ?_
  refine ev_call (v1 := (some (.int 1))) (h1 := (124, I, J, R)) rfl rfl c2 ?_
  refine ev_go 2 (pc1 := 23) (lv1 := [.ref 0, .int a, .int b, .int c, .int t, .int h, .int w, xmk]) (st1 := [.ref 0]) (h1 := (124, I, J, R)) rfl ?_
  refine ev_gf (c := 0) (t := 3) (X := R 0 8) rfl rfl (fun _ => rfl) rfl r_R_0_8 ?_
  refine ev_go 1 (pc1 := 27) (lv1 := [.ref 0, .int a, .int b, .int c, .int t, .int h, .int w, xmk]) (st1 := [.int c, .ref 3]) (h1 := (124, I, J, R)) rfl ?_
  refine ev_call (v1 := (some (.int 1))) (h1 := (124, I, J, R)) rfl rfl c3 ?_
  refine ev_go 2 (pc1 := 34) (lv1 := [.ref 0, .int a, .int b, .int c, .int t, .int h, .int w, xmk]) (st1 := [.ref 0]) (h1 := (124, I, J, R)) rfl ?_
  refine ev_gf (c := 0) (t := 3) (X := R 0 8) rfl rfl (fun _ => rfl) rfl r_R_0_8 ?_
  refine ev_gf (c := 3) (t := 17) (X := R 3 13) rfl rfl (fun _ => rfl) rfl (hG 3 13 17 rfl rfl) ?_
  refine ev_go 1 (pc1 := 42) (lv1 := [.ref 0, .int a, .int b, .int c, .int t, .int h, .int w, xmk]) (st1 := [.int t, .ref 17]) (h1 := (124, I, J, R)) rfl ?_
  refine ev_call (v1 := (some (.int 1))) (h1 := (124, I, J, R)) rfl rfl c4 ?_
  refine ev_go 2 (pc1 := 50) (lv1 := [.ref 0, .int a, .int b, .int c, .int t, .int h, .int w, xmk]) (st1 := [.int h]) (h1 := (124, I, J, R)) rfl ?_
  refine ev_br (b1 := false) rfl rfl (xcd_nlt (x := h) (y := 0) (by rw [show ((0 : Int32)).toInt = 0 from by decide]; first | exact b1 | omega)) ?_
  refine ev_go 2 (pc1 := 57) (lv1 := [.ref 0, .int a, .int b, .int c, .int t, .int h, .int w, xmk]) (st1 := [.int 95, .int h]) (h1 := (124, I, J, R)) rfl ?_
  refine ev_br (b1 := true) rfl rfl (xcd_gt (x := h) (y := 95) (by rw [show ((95 : Int32)).toInt = 95 from by decide]; first | exact b2 | omega)) ?_
  refine ev_go 1 (pc1 := 73) (lv1 := [.ref 0, .int a, .int b, .int c, .int t, .int h, .int w, xmk]) (st1 := [.int (-2)]) (h1 := (124, I, J, R)) rfl ?_
  exact ev_ret rfl rfl
set_option maxRecDepth 20000 in
theorem qv_j_3 {L : Nat} {xs : Nat → Int32} {d : Nat} {I : Nat → Nat → Int32} {J : Nat → Nat → Int64} {R : Nat → Nat → Nat} {a b c t h w : Int32} (hG : aGd R) (r_R_0_8 : R 0 8 = 4) (c1 : xEv L xs d 59 0 [.ref 3, .int a] [] (124, I, J, R) (some (.int 1)) (124, I, J, R)) (c2 : xEv L xs d 64 0 [.ref 3, .int b] [] (124, I, J, R) (some (.int 1)) (124, I, J, R)) (c3 : xEv L xs d 64 0 [.ref 3, .int c] [] (124, I, J, R) (some (.int 1)) (124, I, J, R)) (c4 : xEv L xs d 65 0 [.ref 17, .int t] [] (124, I, J, R) (some (.int 1)) (124, I, J, R)) (b1 : h.toInt ≥ 0) (b2 : h.toInt ≤ 95) (b3 : w.toInt < 0) : xEv L xs (d + 1) 68 0 [.ref 0, .int a, .int b, .int c, .int t, .int h, .int w, xmk] [] (124, I, J, R) (some (.int (-2))) (124, I, J, R) := by
  refine ev_go 1 (pc1 := 1) (lv1 := [.ref 0, .int a, .int b, .int c, .int t, .int h, .int w, xmk]) (st1 := [.ref 0]) (h1 := (124, I, J, R)) rfl ?_
  refine ev_gf (c := 0) (t := 3) (X := R 0 8) rfl rfl (fun _ => rfl) rfl r_R_0_8 ?_
  refine ev_go 1 (pc1 := 5) (lv1 := [.ref 0, .int a, .int b, .int c, .int t, .int h, .int w, xmk]) (st1 := [.int a, .ref 3]) (h1 := (124, I, J, R)) rfl ?_
  refine ev_call (v1 := (some (.int 1))) (h1 := (124, I, J, R)) rfl rfl c1 ?_
  refine ev_go 2 (pc1 := 12) (lv1 := [.ref 0, .int a, .int b, .int c, .int t, .int h, .int w, xmk]) (st1 := [.ref 0]) (h1 := (124, I, J, R)) rfl ?_
  refine ev_gf (c := 0) (t := 3) (X := R 0 8) rfl rfl (fun _ => rfl) rfl r_R_0_8 ?_
  refine ev_go 1 (pc1 := 16) (lv1 := [.ref 0, .int a, .int b, .int c, .int t, .int h, .int w, xmk]) (st1 := [.int b, .ref 3]) (h1 := (124, I, J, R)) rfl ?_
  refine ev_call (v1 := (some (.int 1))) (h1 := (124, I, J, R)) rfl rfl c2 ?_
  refine ev_go 2 (pc1 := 23) (lv1 := [.ref 0, .int a, .int b, .int c, .int t, .int h, .int w, xmk]) (st1 := [.ref 0]) (h1 := (124, I, J, R)) rfl ?_
  refine ev_gf (c := 0) (t := 3) (X := R 0 8) rfl rfl (fun _ => rfl) rfl r_R_0_8 ?_
  refine ev_go 1 (pc1 := 27) (lv1 := [.ref 0, .int a, .int b, .int c, .int t, .int h, .int w, xmk]) (st1 := [.int c, .ref 3]) (h1 := (124, I, J, R)) rfl ?_
  refine ev_call (v1 := (some (.int 1))) (h1 := (124, I, J, R)) rfl rfl c3 ?_
  refine ev_go 2 (pc1 := 34) (lv1 := [.ref 0, .int a, .int b, .int c, .int t, .int h, .int w, xmk]) (st1 := [.ref 0]) (h1 := (124, I, J, R)) rfl ?_
  refine ev_gf (c := 0) (t := 3) (X := R 0 8) rfl rfl (fun _ => rfl) rfl r_R_0_8 ?_
  refine ev_gf (c := 3) (t := 17) (X := R 3 13) rfl rfl (fun _ => rfl) rfl (hG 3 13 17 rfl rfl) ?_
  refine ev_go 1 (pc1 := 42) (lv1 := [.ref 0, .int a, .int b, .int c, .int t, .int h, .int w, xmk]) (st1 := [.int t, .ref 17]) (h1 := (124, I, J, R)) rfl ?_
  refine ev_call (v1 := (some (.int 1))) (h1 := (124, I, J, R)) rfl rfl c4 ?_
  refine ev_go 2 (pc1 := 50) (lv1 := [.ref 0, .int a, .int b, .int c, .int t, .int h, .int w, xmk]) (st1 := [.int h]) (h1 := (124, I, J, R)) rfl ?_
  refine ev_br (b1 := false) rfl rfl (xcd_nlt (x := h) (y := 0) (by rw [show ((0 : Int32)).toInt = 0 from by decide]; first | exact b1 | omega)) ?_
  refine ev_go 2 (pc1 := 57) (lv1 := [.ref 0, .int a, .int b, .int c, .int t, .int h, .int w, xmk]) (st1 := [.int 95, .int h]) (h1 := (124, I, J, R)) rfl ?_
  refine ev_br (b1 := false) rfl rfl (xcd_ngt (x := h) (y := 95) (by rw [show ((95 : Int32)).toInt = 95 from by decide]; first | exact b2 | omega)) ?_
  refine ev_go 1 (pc1 := 62) (lv1 := [.ref 0, .int a, .int b, .int c, .int t, .int h, .int w, xmk]) (st1 := [.int w]) (h1 := (124, I, J, R)) rfl ?_
  refine ev_br (b1 := true) rfl rfl (xcd_lt (x := w) (y := 0) (by rw [show ((0 : Int32)).toInt = 0 from by decide]; first | exact b3 | omega)) ?_
  refine ev_go 1 (pc1 := 73) (lv1 := [.ref 0, .int a, .int b, .int c, .int t, .int h, .int w, xmk]) (st1 := [.int (-2)]) (h1 := (124, I, J, R)) rfl ?_
  exact ev_ret rfl rfl
set_option maxRecDepth 20000 in
theorem qv_k_3 {L : Nat} {xs : Nat → Int32} {d : Nat} {I : Nat → Nat → Int32} {J : Nat → Nat → Int64} {R : Nat → Nat → Nat} {a b c t h w : Int32} (hG : aGd R) (r_R_0_8 : R 0 8 = 4) (c1 : xEv L xs d 59 0 [.ref 3, .int a] [] (124, I, J, R) (some (.int 1)) (124, I, J, R)) (c2 : xEv L xs d 64 0 [.ref 3, .int b] [] (124, I, J, R) (some (.int 1)) (124, I, J, R)) (c3 : xEv L xs d 64 0 [.ref 3, .int c] [] (124, I, J, R) (some (.int 1)) (124, I, J, R)) (c4 : xEv L xs d 65 0 [.ref 17, .int t] [] (124, I, J, R) (some (.int 1)) (124, I, J, R)) (b1 : h.toInt ≥ 0) (b2 : h.toInt ≤ 95) (b3 : w.toInt ≥ 0) (b4 : w.toInt > 1) : xEv L xs (d + 1) 68 0 [.ref 0, .int a, .int b, .int c, .int t, .int h, .int w, xmk] [] (124, I, J, R) (some (.int (-2))) (124, I, J, R) := by
  refine ev_go 1 (pc1 := 1) (lv1 := [.ref 0, .int a, .int b, .int c, .int t, .int h, .int w, xmk]) (st1 := [.ref 0]) (h1 := (124, I, J, R)) rfl ?_
  refine ev_gf (c := 0) (t := 3) (X := R 0 8) rfl rfl (fun _ => rfl) rfl r_R_0_8 ?_
  refine ev_go 1 (pc1 := 5) (lv1 := [.ref 0, .int a, .int b, .int c, .int t, .int h, .int w, xmk]) (st1 := [.int a, .ref 3]) (h1 := (124, I, J, R)) rfl ?_
  refine ev_call (v1 := (some (.int 1))) (h1 := (124, I, J, R)) rfl rfl c1 ?_
  refine ev_go 2 (pc1 := 12) (lv1 := [.ref 0, .int a, .int b, .int c, .int t, .int h, .int w, xmk]) (st1 := [.ref 0]) (h1 := (124, I, J, R)) rfl ?_
  refine ev_gf (c := 0) (t := 3) (X := R 0 8) rfl rfl (fun _ => rfl) rfl r_R_0_8 ?_
  refine ev_go 1 (pc1 := 16) (lv1 := [.ref 0, .int a, .int b, .int c, .int t, .int h, .int w, xmk]) (st1 := [.int b, .ref 3]) (h1 := (124, I, J, R)) rfl ?_
  refine ev_call (v1 := (some (.int 1))) (h1 := (124, I, J, R)) rfl rfl c2 ?_
  refine ev_go 2 (pc1 := 23) (lv1 := [.ref 0, .int a, .int b, .int c, .int t, .int h, .int w, xmk]) (st1 := [.ref 0]) (h1 := (124, I, J, R)) rfl ?_
  refine ev_gf (c := 0) (t := 3) (X := R 0 8) rfl rfl (fun _ => rfl) rfl r_R_0_8 ?_
  refine ev_go 1 (pc1 := 27) (lv1 := [.ref 0, .int a, .int b, .int c, .int t, .int h, .int w, xmk]) (st1 := [.int c, .ref 3]) (h1 := (124, I, J, R)) rfl ?_
  refine ev_call (v1 := (some (.int 1))) (h1 := (124, I, J, R)) rfl rfl c3 ?_
  refine ev_go 2 (pc1 := 34) (lv1 := [.ref 0, .int a, .int b, .int c, .int t, .int h, .int w, xmk]) (st1 := [.ref 0]) (h1 := (124, I, J, R)) rfl ?_
  refine ev_gf (c := 0) (t := 3) (X := R 0 8) rfl rfl (fun _ => rfl) rfl r_R_0_8 ?_
  refine ev_gf (c := 3) (t := 17) (X := R 3 13) rfl rfl (fun _ => rfl) rfl (hG 3 13 17 rfl rfl) ?_
  refine ev_go 1 (pc1 := 42) (lv1 := [.ref 0, .int a, .int b, .int c, .int t, .int h, .int w, xmk]) (st1 := [.int t, .ref 17]) (h1 := (124, I, J, R)) rfl ?_
  refine ev_call (v1 := (some (.int 1))) (h1 := (124, I, J, R)) rfl rfl c4 ?_
  refine ev_go 2 (pc1 := 50) (lv1 := [.ref 0, .int a, .int b, .int c, .int t, .int h, .int w, xmk]) (st1 := [.int h]) (h1 := (124, I, J, R)) rfl ?_
  refine ev_br (b1 := false) rfl rfl (xcd_nlt (x := h) (y := 0) (by rw [show ((0 : Int32)).toInt = 0 from by decide]; first | exact b1 | omega)) ?_
  refine ev_go 2 (pc1 := 57) (lv1 := [.ref 0, .int a, .int b, .int c, .int t, .int h, .int w, xmk]) (st1 := [.int 95, .int h]) (h1 := (124, I, J, R)) rfl ?_
  refine ev_br (b1 := false) rfl rfl (xcd_ngt (x := h) (y := 95) (by rw [show ((95 : Int32)).toInt = 95 from by decide]; first | exact b2 | omega)) ?_
  refine ev_go 1 (pc1 := 62) (lv1 := [.ref 0, .int a, .int b, .int c, .int t, .int h, .int w, xmk]) (st1 := [.int w]) (h1 := (124, I, J, R)) rfl ?_
  refine ev_br (b1 := false) rfl rfl (xcd_nlt (x := w) (y := 0) (by rw [show ((0 : Int32)).toInt = 0 from by decide]; first | exact b3 | omega)) ?_
  refine ev_go 2 (pc1 := 68) (lv1 := [.ref 0, .int a, .int b, .int c, .int t, .int h, .int w, xmk]) (st1 := [.int 1, .int w]) (h1 := (124, I, J, R)) rfl ?_
  refine ev_br (b1 := false) rfl rfl (xcd_nle (x := w) (y := 1) (by rw [show ((1 : Int32)).toInt = 1 from by decide]; first | exact b4 | omega)) ?_
  refine ev_go 1 (pc1 := 73) (lv1 := [.ref 0, .int a, .int b, .int c, .int t, .int h, .int w, xmk]) (st1 := [.int (-2)]) (h1 := (124, I, J, R)) rfl ?_
  exact ev_ret rfl rfl
set_option maxRecDepth 20000 in
theorem qv_0_3 {L : Nat} {xs : Nat → Int32} {d : Nat} {I : Nat → Nat → Int32} {J : Nat → Nat → Int64} {R : Nat → Nat → Nat} {I1 : Nat → Nat → Int32} {J1 : Nat → Nat → Int64} {a b c t h w bar u r1 : Int32} (hG : aGd R) (r_R_0_8 : R 0 8 = 4) (c1 : xEv L xs d 59 0 [.ref 3, .int a] [] (124, I, J, R) (some (.int 1)) (124, I, J, R)) (c2 : xEv L xs d 64 0 [.ref 3, .int b] [] (124, I, J, R) (some (.int 1)) (124, I, J, R)) (c3 : xEv L xs d 64 0 [.ref 3, .int c] [] (124, I, J, R) (some (.int 1)) (124, I, J, R)) (c4 : xEv L xs d 65 0 [.ref 17, .int t] [] (124, I, J, R) (some (.int 1)) (124, I, J, R)) (b1 : h.toInt ≥ 0) (b2 : h.toInt ≤ 95) (b3 : w.toInt ≥ 0) (b4 : w.toInt ≤ 1) (c5 : xEv L xs d 39 0 [.ref 15, .int a] [] (124, I, J, R) (some (.int bar)) (124, I, J, R)) (c6 : xEv L xs d 45 0 [.ref 17, .int h, xmk, xmk] [] (124, I, J, R) (some (.int u)) (124, I, J, R)) (c7 : xEv L xs d 69 0 [.ref 53, .ref 17, .int bar, .int c, .int t, .int u, xmk, xmk, xmk, xmk] [] (124, I, J, R) none (124, I1, J1, R)) (b5 : w.toInt = 0) (c8 : xEv L xs d 79 0 [.ref 53, .int b] [] (124, I1, J1, R) (some (.int r1)) (124, I1, J1, R)) : xEv L xs (d + 1) 68 0 [.ref 0, .int a, .int b, .int c, .int t, .int h, .int w, xmk] [] (124, I, J, R) (some (.int r1)) (124, I1, J1, R) := by
  refine ev_go 1 (pc1 := 1) (lv1 := [.ref 0, .int a, .int b, .int c, .int t, .int h, .int w, xmk]) (st1 := [.ref 0]) (h1 := (124, I, J, R)) rfl ?_
  refine ev_gf (c := 0) (t := 3) (X := R 0 8) rfl rfl (fun _ => rfl) rfl r_R_0_8 ?_
  refine ev_go 1 (pc1 := 5) (lv1 := [.ref 0, .int a, .int b, .int c, .int t, .int h, .int w, xmk]) (st1 := [.int a, .ref 3]) (h1 := (124, I, J, R)) rfl ?_
  refine ev_call (v1 := (some (.int 1))) (h1 := (124, I, J, R)) rfl rfl c1 ?_
  refine ev_go 2 (pc1 := 12) (lv1 := [.ref 0, .int a, .int b, .int c, .int t, .int h, .int w, xmk]) (st1 := [.ref 0]) (h1 := (124, I, J, R)) rfl ?_
  refine ev_gf (c := 0) (t := 3) (X := R 0 8) rfl rfl (fun _ => rfl) rfl r_R_0_8 ?_
  refine ev_go 1 (pc1 := 16) (lv1 := [.ref 0, .int a, .int b, .int c, .int t, .int h, .int w, xmk]) (st1 := [.int b, .ref 3]) (h1 := (124, I, J, R)) rfl ?_
  refine ev_call (v1 := (some (.int 1))) (h1 := (124, I, J, R)) rfl rfl c2 ?_
  refine ev_go 2 (pc1 := 23) (lv1 := [.ref 0, .int a, .int b, .int c, .int t, .int h, .int w, xmk]) (st1 := [.ref 0]) (h1 := (124, I, J, R)) rfl ?_
  refine ev_gf (c := 0) (t := 3) (X := R 0 8) rfl rfl (fun _ => rfl) rfl r_R_0_8 ?_
  refine ev_go 1 (pc1 := 27) (lv1 := [.ref 0, .int a, .int b, .int c, .int t, .int h, .int w, xmk]) (st1 := [.int c, .ref 3]) (h1 := (124, I, J, R)) rfl ?_
  refine ev_call (v1 := (some (.int 1))) (h1 := (124, I, J, R)) rfl rfl c3 ?_
  refine ev_go 2 (pc1 := 34) (lv1 := [.ref 0, .int a, .int b, .int c, .int t, .int h, .int w, xmk]) (st1 := [.ref 0]) (h1 := (124, I, J, R)) rfl ?_
  refine ev_gf (c := 0) (t := 3) (X := R 0 8) rfl rfl (fun _ => rfl) rfl r_R_0_8 ?_
  refine ev_gf (c := 3) (t := 17) (X := R 3 13) rfl rfl (fun _ => rfl) rfl (hG 3 13 17 rfl rfl) ?_
  refine ev_go 1 (pc1 := 42) (lv1 := [.ref 0, .int a, .int b, .int c, .int t, .int h, .int w, xmk]) (st1 := [.int t, .ref 17]) (h1 := (124, I, J, R)) rfl ?_
  refine ev_call (v1 := (some (.int 1))) (h1 := (124, I, J, R)) rfl rfl c4 ?_
  refine ev_go 2 (pc1 := 50) (lv1 := [.ref 0, .int a, .int b, .int c, .int t, .int h, .int w, xmk]) (st1 := [.int h]) (h1 := (124, I, J, R)) rfl ?_
  refine ev_br (b1 := false) rfl rfl (xcd_nlt (x := h) (y := 0) (by rw [show ((0 : Int32)).toInt = 0 from by decide]; first | exact b1 | omega)) ?_
  refine ev_go 2 (pc1 := 57) (lv1 := [.ref 0, .int a, .int b, .int c, .int t, .int h, .int w, xmk]) (st1 := [.int 95, .int h]) (h1 := (124, I, J, R)) rfl ?_
  refine ev_br (b1 := false) rfl rfl (xcd_ngt (x := h) (y := 95) (by rw [show ((95 : Int32)).toInt = 95 from by decide]; first | exact b2 | omega)) ?_
  refine ev_go 1 (pc1 := 62) (lv1 := [.ref 0, .int a, .int b, .int c, .int t, .int h, .int w, xmk]) (st1 := [.int w]) (h1 := (124, I, J, R)) rfl ?_
  refine ev_br (b1 := false) rfl rfl (xcd_nlt (x := w) (y := 0) (by rw [show ((0 : Int32)).toInt = 0 from by decide]; first | exact b3 | omega)) ?_
  refine ev_go 2 (pc1 := 68) (lv1 := [.ref 0, .int a, .int b, .int c, .int t, .int h, .int w, xmk]) (st1 := [.int 1, .int w]) (h1 := (124, I, J, R)) rfl ?_
  refine ev_br (b1 := true) rfl rfl (xcd_le (x := w) (y := 1) (by rw [show ((1 : Int32)).toInt = 1 from by decide]; first | exact b4 | omega)) ?_
  refine ev_go 1 (pc1 := 75) (lv1 := [.ref 0, .int a, .int b, .int c, .int t, .int h, .int w, xmk]) (st1 := [.ref 0]) (h1 := (124, I, J, R)) rfl ?_
  refine ev_gf (c := 0) (t := 3) (X := R 0 8) rfl rfl (fun _ => rfl) rfl r_R_0_8 ?_
  refine ev_gf (c := 3) (t := 17) (X := R 3 13) rfl rfl (fun _ => rfl) rfl (hG 3 13 17 rfl rfl) ?_
  refine ev_go 2 (pc1 := 84) (lv1 := [.ref 0, .int a, .int b, .int c, .int t, .int h, .int w, .ref 17]) (st1 := [.ref 0]) (h1 := (124, I, J, R)) rfl ?_
  refine ev_gf (c := 0) (t := 53) (X := R 0 4) rfl rfl (fun _ => rfl) rfl (hG 0 4 53 rfl rfl) ?_
  refine ev_go 2 (pc1 := 90) (lv1 := [.ref 0, .int a, .int b, .int c, .int t, .int h, .int w, .ref 17]) (st1 := [.ref 0, .ref 17, .ref 53]) (h1 := (124, I, J, R)) rfl ?_
  refine ev_gf (c := 0) (t := 3) (X := R 0 8) rfl rfl (fun _ => rfl) rfl r_R_0_8 ?_
  refine ev_gf (c := 3) (t := 15) (X := R 3 11) rfl rfl (fun _ => rfl) rfl (hG 3 11 15 rfl rfl) ?_
  refine ev_go 1 (pc1 := 97) (lv1 := [.ref 0, .int a, .int b, .int c, .int t, .int h, .int w, .ref 17]) (st1 := [.int a, .ref 15, .ref 17, .ref 53]) (h1 := (124, I, J, R)) rfl ?_
  refine ev_call (v1 := (some (.int bar))) (h1 := (124, I, J, R)) rfl rfl c5 ?_
  refine ev_go 4 (pc1 := 107) (lv1 := [.ref 0, .int a, .int b, .int c, .int t, .int h, .int w, .ref 17]) (st1 := [.int h, .ref 17, .int t, .int c, .int bar, .ref 17, .ref 53]) (h1 := (124, I, J, R)) rfl ?_
  refine ev_call (v1 := (some (.int u))) (h1 := (124, I, J, R)) rfl rfl c6 ?_
  refine ev_call (v1 := none) (h1 := (124, I1, J1, R)) rfl rfl c7 ?_
  refine ev_go 1 (pc1 := 115) (lv1 := [.ref 0, .int a, .int b, .int c, .int t, .int h, .int w, .ref 17]) (st1 := [.int w]) (h1 := (124, I1, J1, R)) rfl ?_
  refine ev_br (b1 := false) rfl rfl (xcd_nne (x := w) (y := 0) (by rw [show ((0 : Int32)).toInt = 0 from by decide]; first | exact b5 | omega)) ?_
  refine ev_go 1 (pc1 := 119) (lv1 := [.ref 0, .int a, .int b, .int c, .int t, .int h, .int w, .ref 17]) (st1 := [.ref 0]) (h1 := (124, I1, J1, R)) rfl ?_
  refine ev_gf (c := 0) (t := 53) (X := R 0 4) rfl rfl (fun _ => rfl) rfl (hG 0 4 53 rfl rfl) ?_
  refine ev_go 1 (pc1 := 123) (lv1 := [.ref 0, .int a, .int b, .int c, .int t, .int h, .int w, .ref 17]) (st1 := [.int b, .ref 53]) (h1 := (124, I1, J1, R)) rfl ?_
  refine ev_call (v1 := (some (.int r1))) (h1 := (124, I1, J1, R)) rfl rfl c8 ?_
  refine ev_go 1 (pc1 := 137) (lv1 := [.ref 0, .int a, .int b, .int c, .int t, .int h, .int w, .ref 17]) (st1 := [.int r1]) (h1 := (124, I1, J1, R)) rfl ?_
  exact ev_ret rfl rfl
set_option maxRecDepth 20000 in
theorem qv_1_3 {L : Nat} {xs : Nat → Int32} {d : Nat} {I : Nat → Nat → Int32} {J : Nat → Nat → Int64} {R : Nat → Nat → Nat} {I1 : Nat → Nat → Int32} {J1 : Nat → Nat → Int64} {a b c t h w bar u r1 : Int32} (hG : aGd R) (r_R_0_8 : R 0 8 = 4) (c1 : xEv L xs d 59 0 [.ref 3, .int a] [] (124, I, J, R) (some (.int 1)) (124, I, J, R)) (c2 : xEv L xs d 64 0 [.ref 3, .int b] [] (124, I, J, R) (some (.int 1)) (124, I, J, R)) (c3 : xEv L xs d 64 0 [.ref 3, .int c] [] (124, I, J, R) (some (.int 1)) (124, I, J, R)) (c4 : xEv L xs d 65 0 [.ref 17, .int t] [] (124, I, J, R) (some (.int 1)) (124, I, J, R)) (b1 : h.toInt ≥ 0) (b2 : h.toInt ≤ 95) (b3 : w.toInt ≥ 0) (b4 : w.toInt ≤ 1) (c5 : xEv L xs d 39 0 [.ref 15, .int a] [] (124, I, J, R) (some (.int bar)) (124, I, J, R)) (c6 : xEv L xs d 45 0 [.ref 17, .int h, xmk, xmk] [] (124, I, J, R) (some (.int u)) (124, I, J, R)) (c7 : xEv L xs d 69 0 [.ref 53, .ref 17, .int bar, .int c, .int t, .int u, xmk, xmk, xmk, xmk] [] (124, I, J, R) none (124, I1, J1, R)) (b5 : w.toInt ≠ 0) (c8 : xEv L xs d 80 0 [.ref 53, .int b, xmk, xmk, xmk] [] (124, I1, J1, R) (some (.int r1)) (124, I1, J1, R)) : xEv L xs (d + 1) 68 0 [.ref 0, .int a, .int b, .int c, .int t, .int h, .int w, xmk] [] (124, I, J, R) (some (.int r1)) (124, I1, J1, R) := by
  refine ev_go 1 (pc1 := 1) (lv1 := [.ref 0, .int a, .int b, .int c, .int t, .int h, .int w, xmk]) (st1 := [.ref 0]) (h1 := (124, I, J, R)) rfl ?_
  refine ev_gf (c := 0) (t := 3) (X := R 0 8) rfl rfl (fun _ => rfl) rfl r_R_0_8 ?_
  refine ev_go 1 (pc1 := 5) (lv1 := [.ref 0, .int a, .int b, .int c, .int t, .int h, .int w, xmk]) (st1 := [.int a, .ref 3]) (h1 := (124, I, J, R)) rfl ?_
  refine ev_call (v1 := (some (.int 1))) (h1 := (124, I, J, R)) rfl rfl c1 ?_
  refine ev_go 2 (pc1 := 12) (lv1 := [.ref 0, .int a, .int b, .int c, .int t, .int h, .int w, xmk]) (st1 := [.ref 0]) (h1 := (124, I, J, R)) rfl ?_
  refine ev_gf (c := 0) (t := 3) (X := R 0 8) rfl rfl (fun _ => rfl) rfl r_R_0_8 ?_
  refine ev_go 1 (pc1 := 16) (lv1 := [.ref 0, .int a, .int b, .int c, .int t, .int h, .int w, xmk]) (st1 := [.int b, .ref 3]) (h1 := (124, I, J, R)) rfl ?_
  refine ev_call (v1 := (some (.int 1))) (h1 := (124, I, J, R)) rfl rfl c2 ?_
  refine ev_go 2 (pc1 := 23) (lv1 := [.ref 0, .int a, .int b, .int c, .int t, .int h, .int w, xmk]) (st1 := [.ref 0]) (h1 := (124, I, J, R)) rfl ?_
  refine ev_gf (c := 0) (t := 3) (X := R 0 8) rfl rfl (fun _ => rfl) rfl r_R_0_8 ?_
  refine ev_go 1 (pc1 := 27) (lv1 := [.ref 0, .int a, .int b, .int c, .int t, .int h, .int w, xmk]) (st1 := [.int c, .ref 3]) (h1 := (124, I, J, R)) rfl ?_
  refine ev_call (v1 := (some (.int 1))) (h1 := (124, I, J, R)) rfl rfl c3 ?_
  refine ev_go 2 (pc1 := 34) (lv1 := [.ref 0, .int a, .int b, .int c, .int t, .int h, .int w, xmk]) (st1 := [.ref 0]) (h1 := (124, I, J, R)) rfl ?_
  refine ev_gf (c := 0) (t := 3) (X := R 0 8) rfl rfl (fun _ => rfl) rfl r_R_0_8 ?_
  refine ev_gf (c := 3) (t := 17) (X := R 3 13) rfl rfl (fun _ => rfl) rfl (hG 3 13 17 rfl rfl) ?_
  refine ev_go 1 (pc1 := 42) (lv1 := [.ref 0, .int a, .int b, .int c, .int t, .int h, .int w, xmk]) (st1 := [.int t, .ref 17]) (h1 := (124, I, J, R)) rfl ?_
  refine ev_call (v1 := (some (.int 1))) (h1 := (124, I, J, R)) rfl rfl c4 ?_
  refine ev_go 2 (pc1 := 50) (lv1 := [.ref 0, .int a, .int b, .int c, .int t, .int h, .int w, xmk]) (st1 := [.int h]) (h1 := (124, I, J, R)) rfl ?_
  refine ev_br (b1 := false) rfl rfl (xcd_nlt (x := h) (y := 0) (by rw [show ((0 : Int32)).toInt = 0 from by decide]; first | exact b1 | omega)) ?_
  refine ev_go 2 (pc1 := 57) (lv1 := [.ref 0, .int a, .int b, .int c, .int t, .int h, .int w, xmk]) (st1 := [.int 95, .int h]) (h1 := (124, I, J, R)) rfl ?_
  refine ev_br (b1 := false) rfl rfl (xcd_ngt (x := h) (y := 95) (by rw [show ((95 : Int32)).toInt = 95 from by decide]; first | exact b2 | omega)) ?_
  refine ev_go 1 (pc1 := 62) (lv1 := [.ref 0, .int a, .int b, .int c, .int t, .int h, .int w, xmk]) (st1 := [.int w]) (h1 := (124, I, J, R)) rfl ?_
  refine ev_br (b1 := false) rfl rfl (xcd_nlt (x := w) (y := 0) (by rw [show ((0 : Int32)).toInt = 0 from by decide]; first | exact b3 | omega)) ?_
  refine ev_go 2 (pc1 := 68) (lv1 := [.ref 0, .int a, .int b, .int c, .int t, .int h, .int w, xmk]) (st1 := [.int 1, .int w]) (h1 := (124, I, J, R)) rfl ?_
  refine ev_br (b1 := true) rfl rfl (xcd_le (x := w) (y := 1) (by rw [show ((1 : Int32)).toInt = 1 from by decide]; first | exact b4 | omega)) ?_
  refine ev_go 1 (pc1 := 75) (lv1 := [.ref 0, .int a, .int b, .int c, .int t, .int h, .int w, xmk]) (st1 := [.ref 0]) (h1 := (124, I, J, R)) rfl ?_
  refine ev_gf (c := 0) (t := 3) (X := R 0 8) rfl rfl (fun _ => rfl) rfl r_R_0_8 ?_
  refine ev_gf (c := 3) (t := 17) (X := R 3 13) rfl rfl (fun _ => rfl) rfl (hG 3 13 17 rfl rfl) ?_
  refine ev_go 2 (pc1 := 84) (lv1 := [.ref 0, .int a, .int b, .int c, .int t, .int h, .int w, .ref 17]) (st1 := [.ref 0]) (h1 := (124, I, J, R)) rfl ?_
  refine ev_gf (c := 0) (t := 53) (X := R 0 4) rfl rfl (fun _ => rfl) rfl (hG 0 4 53 rfl rfl) ?_
  refine ev_go 2 (pc1 := 90) (lv1 := [.ref 0, .int a, .int b, .int c, .int t, .int h, .int w, .ref 17]) (st1 := [.ref 0, .ref 17, .ref 53]) (h1 := (124, I, J, R)) rfl ?_
  refine ev_gf (c := 0) (t := 3) (X := R 0 8) rfl rfl (fun _ => rfl) rfl r_R_0_8 ?_
  refine ev_gf (c := 3) (t := 15) (X := R 3 11) rfl rfl (fun _ => rfl) rfl (hG 3 11 15 rfl rfl) ?_
  refine ev_go 1 (pc1 := 97) (lv1 := [.ref 0, .int a, .int b, .int c, .int t, .int h, .int w, .ref 17]) (st1 := [.int a, .ref 15, .ref 17, .ref 53]) (h1 := (124, I, J, R)) rfl ?_
  refine ev_call (v1 := (some (.int bar))) (h1 := (124, I, J, R)) rfl rfl c5 ?_
  refine ev_go 4 (pc1 := 107) (lv1 := [.ref 0, .int a, .int b, .int c, .int t, .int h, .int w, .ref 17]) (st1 := [.int h, .ref 17, .int t, .int c, .int bar, .ref 17, .ref 53]) (h1 := (124, I, J, R)) rfl ?_
  refine ev_call (v1 := (some (.int u))) (h1 := (124, I, J, R)) rfl rfl c6 ?_
  refine ev_call (v1 := none) (h1 := (124, I1, J1, R)) rfl rfl c7 ?_
  refine ev_go 1 (pc1 := 115) (lv1 := [.ref 0, .int a, .int b, .int c, .int t, .int h, .int w, .ref 17]) (st1 := [.int w]) (h1 := (124, I1, J1, R)) rfl ?_
  refine ev_br (b1 := true) rfl rfl (xcd_ne (x := w) (y := 0) (by rw [show ((0 : Int32)).toInt = 0 from by decide]; first | exact b5 | omega)) ?_
  refine ev_go 1 (pc1 := 130) (lv1 := [.ref 0, .int a, .int b, .int c, .int t, .int h, .int w, .ref 17]) (st1 := [.ref 0]) (h1 := (124, I1, J1, R)) rfl ?_
  refine ev_gf (c := 0) (t := 53) (X := R 0 4) rfl rfl (fun _ => rfl) rfl (hG 0 4 53 rfl rfl) ?_
  refine ev_go 1 (pc1 := 134) (lv1 := [.ref 0, .int a, .int b, .int c, .int t, .int h, .int w, .ref 17]) (st1 := [.int b, .ref 53]) (h1 := (124, I1, J1, R)) rfl ?_
  refine ev_call (v1 := (some (.int r1))) (h1 := (124, I1, J1, R)) rfl rfl c8 ?_
  exact ev_ret rfl rfl
theorem sus_3 {L : Nat} {xs : Nat → Int32} {d d' : Nat} {I Ir : Nat → Nat → Int32} {J Jr : Nat → Nat → Int64} {R Rr : Nat → Nat → Nat} (hG : aGd R) (hGr : aGd Rr) (h8 : R 0 8 = 4) {np nm nn : Nat} {l : List (Nat × Nat)} (hV : VR_3 np nm nn l I Ir) (hch : ∀ q, q < 16 → 0 ≤ (Ir 95 q).toInt ∧ (Ir 95 q).toInt ≤ 10) (a b c t h w : Int32) : ∃ (r : Int32) (I' Ir' : Nat → Nat → Int32) (J' Jr' : Nat → Nat → Int64), xEv L xs (d + 5) 68 0 [.ref 0, .int a, .int b, .int c, .int t, .int h, .int w, xmk] [] (124, I, J, R) (some (.int r)) (124, I', J', R) ∧ xEv L xs (d' + 4) 188 0 [.ref 86, .int a, .int b, .int c, .int t, .int h, .int w] [] (124, Ir, Jr, Rr) (some (.int r)) (124, Ir', Jr', Rr) := by
  have hV0 := hV
  obtain ⟨⟨p1, p2, p3⟩, p4, p5, p6, ⟨q1, q2⟩, ⟨q3, q4⟩, ⟨q5, q6⟩, q7, q8, q9, ⟨q10, q11⟩, q12, -⟩ := hV
  have e0 : (0 : Int32).toInt = 0 := by decide
  have e1 : (1 : Int32).toInt = 1 := by decide
  have e95 : (95 : Int32).toInt = 95 := by decide
  have rw_ := wy_run (L := L) (xs := xs) (d := d' + 1) (I := Ir) (J := Jr) hGr q2 q6 q11 a b c t
  have rh := in_ex (L := L) (xs := xs) (d := d' + 3) (I := Ir) (J := Jr) hGr h 0 95
  have rv := in_ex (L := L) (xs := xs) (d := d' + 3) (I := Ir) (J := Jr) hGr w 0 1
  rw [e0, e95] at rh
  rw [e0, e1] at rv
  -- the guards of the class
  rcases hn_run_3 (L := L) (xs := xs) (d := d + 4) (I := I) (J := J) hG q5 a with ⟨ha, xa⟩ | ⟨ha, xa⟩
  rotate_left
  · rcases rw_ with ⟨g, -⟩ | ⟨-, y⟩
    · exact absurd g.1 ha
    · exact ⟨-2, _, _, _, _, qv_n_3 hG h8 xa, qt_x hGr y⟩
  rcases hp_run_3 (L := L) (xs := xs) (d := d + 4) (I := I) (J := J) hG q1 b with ⟨hb, xb⟩ | ⟨hb, xb⟩
  rotate_left
  · rcases rw_ with ⟨g, -⟩ | ⟨-, y⟩
    · exact absurd g.2.1 hb
    · exact ⟨-2, _, _, _, _, qv_p_3 hG h8 xa xb, qt_x hGr y⟩
  rcases hp_run_3 (L := L) (xs := xs) (d := d + 4) (I := I) (J := J) hG q1 c with ⟨hc, xc⟩ | ⟨hc, xc⟩
  rotate_left
  · rcases rw_ with ⟨g, -⟩ | ⟨-, y⟩
    · exact absurd g.2.2.1 hc
    · exact ⟨-2, _, _, _, _, qv_q_3 hG h8 xa xb xc, qt_x hGr y⟩
  rcases hm_run_3 (L := L) (xs := xs) (d := d + 4) (I := I) (J := J) hG q10 t with ⟨ht, xt⟩ | ⟨ht, xt⟩
  rotate_left
  · rcases rw_ with ⟨g, -⟩ | ⟨-, y⟩
    · exact absurd g.2.2.2 ht
    · exact ⟨-2, _, _, _, _, qv_m_3 hG h8 xa xb xc xt, qt_x hGr y⟩
  have y1 : xEv L xs (d' + 3) 183 0 [.ref 86, .int a, .int b, .int c, .int t] [] (124, Ir, Jr, Rr) (some (.int 1)) (124, Ir, Jr, Rr) := by
    rcases rw_ with ⟨-, y⟩ | ⟨g, -⟩
    · exact y
    · exact absurd ⟨ha, hb, hc, ht⟩ g
  by_cases h0 : h.toInt < 0
  · rcases rh with ⟨g, -⟩ | ⟨-, y⟩
    · exact absurd g (by omega)
    · exact ⟨-2, _, _, _, _, qv_h_3 hG h8 xa xb xc xt h0, qt_y hGr y1 y⟩
  by_cases h95 : h.toInt > 95
  · rcases rh with ⟨g, -⟩ | ⟨-, y⟩
    · exact absurd g (by omega)
    · exact ⟨-2, _, _, _, _, qv_i_3 hG h8 xa xb xc xt (by omega) h95, qt_y hGr y1 y⟩
  have y2 : xEv L xs (d' + 3) 160 0 [.int h, .int 0, .int 95] [] (124, Ir, Jr, Rr) (some (.int 1)) (124, Ir, Jr, Rr) := by
    rcases rh with ⟨-, y⟩ | ⟨g, -⟩
    · exact y
    · exact absurd ⟨by omega, by omega⟩ g
  by_cases w0 : w.toInt < 0
  · rcases rv with ⟨g, -⟩ | ⟨-, y⟩
    · exact absurd g (by omega)
    · exact ⟨-2, _, _, _, _, qv_j_3 hG h8 xa xb xc xt (by omega) (by omega) w0, qt_z hGr y1 y2 y⟩
  by_cases w1 : w.toInt > 1
  · rcases rv with ⟨g, -⟩ | ⟨-, y⟩
    · exact absurd g (by omega)
    · exact ⟨-2, _, _, _, _, qv_k_3 hG h8 xa xb xc xt (by omega) (by omega) (by omega) w1, qt_z hGr y1 y2 y⟩
  have y3 : xEv L xs (d' + 3) 160 0 [.int w, .int 0, .int 1] [] (124, Ir, Jr, Rr) (some (.int 1)) (124, Ir, Jr, Rr) := by
    rcases rv with ⟨-, y⟩ | ⟨g, -⟩
    · exact y
    · exact absurd ⟨by omega, by omega⟩ g
  -- the numbers
  obtain ⟨aN, eaN⟩ := Int.eq_ofNat_of_zero_le ha.1
  obtain ⟨bN, ebN⟩ := Int.eq_ofNat_of_zero_le hb.1
  obtain ⟨cN, ecN⟩ := Int.eq_ofNat_of_zero_le hc.1
  obtain ⟨tN, etN⟩ := Int.eq_ofNat_of_zero_le ht.1
  have eca := clamp_s (i := a) ha.1
  have eka : a.toNatClampNeg = aN := by omega
  obtain ⟨u, xu, hu⟩ := ut_run_3 (L := L) (xs := xs) (d := d + 3) (I := I) (J := J) hG q10 p4 (fun t a b hl => (q12 t a b hl).1) h
  have dle : dlN l h.toInt ≤ l.length := List.length_filter_le _ _
  have xbar := at_run (L := L) (xs := xs) (d := d + 4) (h := (124, I, J, R)) (c := 15) (n := 4) (fun _ => rfl) (by decide) a
  rw [if_pos ⟨by omega, by omega⟩, eka] at xbar
  have ebar : I 15 aN = Ir 100 aN := (q9 aN (by omega)).2.2.2.2.1
  have xbar' : xEv L xs (d + 4) 39 0 [.ref 15, .int a] [] (124, I, J, R) (some (.int (Ir 100 a.toNatClampNeg))) (124, I, J, R) := by
    rw [eka, ← ebar]
    exact xbar
  -- both begin
  have edg : (u - t).toInt = u.toInt - t.toInt := i_sub (by omega) (by omega)
  obtain ⟨I1, J1, un, s1, s2, s3, s4, s5, s6, s7, s8, s9, s10⟩ := qs_run (L := L) (xs := xs) (d := d + 2) (I := I) (J := J) hG (q := c) (dg := u - t) ecN (by omega) (by omega) (by omega)
  obtain ⟨Jr1, z1, z2, z3⟩ := qqc_run (L := L) (xs := xs) (d := d' + 2) (I := Ir) (J := Jr) hGr
  obtain ⟨k1, k2, k3⟩ := ix160 ecN (by omega)
  obtain ⟨ur, xur, hur⟩ := tu_run (L := L) (xs := xs) (d := d' + 2) (I := uI Ir 86 40 0) (J := uL Jr1 108 (16 * cN) 1) hGr p5 (by rw [uI_n _ _ (by omega)]; exact q11) p4 (fun t a b hl => by rw [uI_n _ _ (by omega)]; exact (q12 t a b hl).2.1) h
  have eur : ur = u := Int32.toInt_inj.mp (by rw [hu, hur])
  subst eur
  have e0L : (0 : Int64).toInt = 0 := by decide
  have e1L : (1 : Int64).toInt = 1 := by decide
  have at0 : ∀ p i, p < 14 → i < 16 → ((uL Jr1 108 (16 * cN) 1) 108 (16 * p + i)).toInt = if p = cN ∧ i = 0 then 1 else 0 := fun p i hp hi => by
    by_cases g : p = cN ∧ i = 0
    · rw [if_pos g, g.1, g.2, Nat.add_zero, uL_s, e1L]
    · rw [if_neg g, uL_n _ _ (by omega), z3 _ (by omega), e0L]
  have gr : rG (uL Jr1 108 (16 * cN) 1) := fun p hp i hi => by
    rw [at0 p i hp hi]
    split <;> omega
  have rv0 : ∀ p, p < 7 → rV (uL Jr1 108 (16 * cN) 1) p = if p = cN then 1 else 0 := fun p hp => by
    have sp := sT_p (e := 9) (f := rF (uL Jr1 108 (16 * cN) 1) p) 1 15
    have z := sT_z (e := 9) (f := fun i => rF (uL Jr1 108 (16 * cN) 1) p (1 + i)) 0 15 (fun i _ hi => by
      show ((uL Jr1 108 (16 * cN) 1) 108 (16 * p + (1 + i))).toInt = 0
      rw [at0 _ _ (by omega) (by omega), if_neg (by omega)])
    rw [Nat.zero_add] at z
    have ez : sT 9 (fun i => rF (uL Jr1 108 (16 * cN) 1) p (1 + i)) 0 = 0 := sT_0 _ _
    have f0 : sT 9 (rF (uL Jr1 108 (16 * cN) 1) p) 1 = if p = cN then 1 else 0 := by
      rw [sT_1]
      show ((uL Jr1 108 (16 * cN) 1) 108 (16 * p + 0)).toInt = _
      rw [at0 _ _ (by omega) (by omega)]
      by_cases g : p = cN
      · rw [if_pos ⟨g, rfl⟩, if_pos g]
      · rw [if_neg (fun h => g h.1), if_neg g]
    show sT 9 (rF (uL Jr1 108 (16 * cN) 1) p) (1 + 15) = _
    rw [sp, z, ez, Int.mul_zero, Int.add_zero, f0]
  have start : ∀ p, p < np → cV J1 un p = rV (uL Jr1 108 (16 * cN) 1) p * tn (16 * (un - 1) - 0) ∧ rV (uL Jr1 108 (16 * cN) 1) p ≤ tn 0 := fun p hp => by
    rw [rv0 p (by omega), Nat.sub_zero, tn_0]
    by_cases g : p = cN
    · rw [if_pos g, g, s9, Int.one_mul]
      exact ⟨rfl, Int.le_refl _⟩
    · rw [if_neg g, s10 p (by omega) g, Int.zero_mul]
      exact ⟨rfl, by decide⟩
  have em1 : (ur - 1).toInt = ur.toInt - 1 := by rw [i_sub (by rw [e1]; omega) (by rw [e1]; omega), e1]
  have both : ∃ (n : Nat) (Ir' : Nat → Nat → Int32) (J' Jr' : Nat → Nat → Int64), xEv L xs (d + 4) 69 16 [.ref 53, .ref 17, .int (Ir 100 a.toNatClampNeg), .int c, .int t, .int ur, .int (ur - 1), xmk, xmk, xmk] [] (124, I1, J1, R) none (124, I1, J', R) ∧ xEv L xs (d' + 3) 189 24 [.ref 86, .int a, .int c, .int t, .int h, .int (ur - 1), xmk, xmk, xmk, xmk, xmk, xmk] [] (124, uI Ir 86 40 0, uL Jr1 108 (16 * cN) 1, Rr) none (124, Ir', Jr', Rr) ∧ n ≤ 16 * (un - 1) ∧ n ≤ 64 ∧ (Ir' 86 40).toInt = n ∧ cG J' un ∧ rG Jr' ∧ (∀ p, p < np → cV J' un p = rV Jr' p * tn (16 * (un - 1) - n) ∧ rV Jr' p ≤ tn n) := by
    by_cases hlt : ur.toInt ≤ t.toInt
    · exact ⟨0, _, _, _, qb_e_3 hG (by omega), qqs_e hGr (by omega), Nat.zero_le _, by omega, by rw [uI_s]; decide, s8, gr, start⟩
    · obtain ⟨n, hn⟩ := Int.eq_ofNat_of_zero_le (show 0 ≤ ur.toInt - t.toInt by omega)
      obtain ⟨Ir', J', Jr', v1, v2, v3, v4, v5, v6, v7, v8⟩ := qlb_3 (L := L) (xs := xs) (d := d + 1) (d' := d' + 2) hG hGr hV0 s2 hch (to := c) (tm := t) (bh := ur) (nw := a) (hr := h) s4 s5 s6 etN ha.1 ha.2 n 0 (ur - 1) xmk xmk xmk xmk xmk xmk xmk xmk xmk (uI Ir 86 40 0) J1 (uL Jr1 108 (16 * cN) 1) (by omega) (by omega) (by omega) (by omega) (fun c k hc => uI_n _ _ hc) (by rw [uI_s]; decide) s8 gr start
      rw [Nat.zero_add] at v4 v8
      exact ⟨n, Ir', J', Jr', v1, v2, by omega, by omega, v4, v6, v7, v8⟩
  obtain ⟨n, Ir', J', Jr', v1, v2, v3, v4, v5, v6, v7, v8⟩ := both
  have runC := qb_s_3 hG s1 v1
  have runR : xEv L xs (d' + 3) 189 0 [.ref 86, .int a, .int c, .int t, .int h, xmk, xmk, xmk, xmk, xmk, xmk, xmk] [] (124, Ir, Jr, Rr) none (124, Ir', Jr', Rr) := qqs_s hGr z1 k1 k2 (by rw [k3]; exact xur) (by rw [k3]; exact v2)
  obtain ⟨w1', w2'⟩ := v8 bN (by omega)
  have eE : tn (16 * (un - 1)) = tn n * tn (16 * (un - 1) - n) := by rw [← tn_add]; congr 1; omega
  have tp := tn_pos (16 * (un - 1) - n)
  have cle : cV J' un bN ≤ tn (16 * (un - 1)) := by rw [w1', eE]; exact Int.mul_le_mul_of_nonneg_right w2' (Int.le_of_lt tp)
  by_cases w00 : w.toInt = 0
  · obtain ⟨r1, o1, o2⟩ := qi_run (L := L) (xs := xs) (d := d + 4) (I := I1) hG s5 s6 ebN (by omega) v6 cle
    obtain ⟨r2, Jr2, o3, o4, o5⟩ := qqi_run (L := L) (xs := xs) (d := d' + 2) hGr ebN (by omega) v5 (by omega) v7 w2'
    have er : r2 = r1 := Int32.toInt_inj.mp (by
      rw [o2, o5, w1', eE, Int.mul_assoc, Int.mul_comm (tn (16 * (un - 1) - n)) 1000000, ← Int.mul_assoc, Int.mul_ediv_mul_of_pos_left _ _ tp])
    subst er
    exact ⟨r2, _, _, _, _, qv_0_3 hG h8 xa xb xc xt (by omega) (by omega) (by omega) (by omega) xbar' xu runC w00 o1, qt_0 hGr y1 y2 y3 runR w00 o3⟩
  · obtain ⟨r1, n1, o1, o2, o3⟩ := qg_run (L := L) (xs := xs) (d := d + 3) (I := I1) hG s4 s5 s6 ebN (by omega) v6
    obtain ⟨r2, n2, Jr2, o4, o5, o6, o7⟩ := qqf_run (L := L) (xs := xs) (d := d' + 2) hGr ebN (by omega) v5 (by omega) v7
    have hh : cV J' un bN * tn n = rV Jr' bN * tn (16 * (un - 1)) := by
      rw [w1', eE, Int.mul_assoc, Int.mul_comm (tn (16 * (un - 1) - n))]
    have en := fgM_u (fgM_x hh o3) o7
    have er : r2 = r1 := Int32.toInt_inj.mp (by rw [o2, o6, en])
    subst er
    exact ⟨r2, _, _, _, _, qv_1_3 hG h8 xa xb xc xt (by omega) (by omega) (by omega) (by omega) xbar' xu runC w00 o1, qt_1 hGr y1 y2 y3 runR w00 o4⟩
set_option maxRecDepth 20000 in
theorem qv_n_23 {L : Nat} {xs : Nat → Int32} {d : Nat} {I : Nat → Nat → Int32} {J : Nat → Nat → Int64} {R : Nat → Nat → Nat} {a b c t h w : Int32} (hG : aGd R) (r_R_0_8 : R 0 8 = 24) (c1 : xEv L xs d 59 0 [.ref 23, .int a] [] (124, I, J, R) (some (.int 0)) (124, I, J, R)) : xEv L xs (d + 1) 68 0 [.ref 0, .int a, .int b, .int c, .int t, .int h, .int w, xmk] [] (124, I, J, R) (some (.int (-2))) (124, I, J, R) := by
  refine ev_go 1 (pc1 := 1) (lv1 := [.ref 0, .int a, .int b, .int c, .int t, .int h, .int w, xmk]) (st1 := [.ref 0]) (h1 := (124, I, J, R)) rfl ?_
  refine ev_gf (c := 0) (t := 23) (X := R 0 8) rfl rfl (fun _ => rfl) rfl r_R_0_8 ?_
  refine ev_go 1 (pc1 := 5) (lv1 := [.ref 0, .int a, .int b, .int c, .int t, .int h, .int w, xmk]) (st1 := [.int a, .ref 23]) (h1 := (124, I, J, R)) rfl ?_
  refine ev_call (v1 := (some (.int 0))) (h1 := (124, I, J, R)) rfl rfl c1 ?_
  refine ev_go 2 (pc1 := 73) (lv1 := [.ref 0, .int a, .int b, .int c, .int t, .int h, .int w, xmk]) (st1 := [.int (-2)]) (h1 := (124, I, J, R)) rfl ?_
  exact ev_ret rfl rfl
set_option maxRecDepth 20000 in
theorem qv_p_23 {L : Nat} {xs : Nat → Int32} {d : Nat} {I : Nat → Nat → Int32} {J : Nat → Nat → Int64} {R : Nat → Nat → Nat} {a b c t h w : Int32} (hG : aGd R) (r_R_0_8 : R 0 8 = 24) (c1 : xEv L xs d 59 0 [.ref 23, .int a] [] (124, I, J, R) (some (.int 1)) (124, I, J, R)) (c2 : xEv L xs d 64 0 [.ref 23, .int b] [] (124, I, J, R) (some (.int 0)) (124, I, J, R)) : xEv L xs (d + 1) 68 0 [.ref 0, .int a, .int b, .int c, .int t, .int h, .int w, xmk] [] (124, I, J, R) (some (.int (-2))) (124, I, J, R) := by
  refine ev_go 1 (pc1 := 1) (lv1 := [.ref 0, .int a, .int b, .int c, .int t, .int h, .int w, xmk]) (st1 := [.ref 0]) (h1 := (124, I, J, R)) rfl ?_
  refine ev_gf (c := 0) (t := 23) (X := R 0 8) rfl rfl (fun _ => rfl) rfl r_R_0_8 ?_
  refine ev_go 1 (pc1 := 5) (lv1 := [.ref 0, .int a, .int b, .int c, .int t, .int h, .int w, xmk]) (st1 := [.int a, .ref 23]) (h1 := (124, I, J, R)) rfl ?_
  refine ev_call (v1 := (some (.int 1))) (h1 := (124, I, J, R)) rfl rfl c1 ?_
  refine ev_go 2 (pc1 := 12) (lv1 := [.ref 0, .int a, .int b, .int c, .int t, .int h, .int w, xmk]) (st1 := [.ref 0]) (h1 := (124, I, J, R)) rfl ?_
  refine ev_gf (c := 0) (t := 23) (X := R 0 8) rfl rfl (fun _ => rfl) rfl r_R_0_8 ?_
  refine ev_go 1 (pc1 := 16) (lv1 := [.ref 0, .int a, .int b, .int c, .int t, .int h, .int w, xmk]) (st1 := [.int b, .ref 23]) (h1 := (124, I, J, R)) rfl ?_
  refine ev_call (v1 := (some (.int 0))) (h1 := (124, I, J, R)) rfl rfl c2 ?_
  refine ev_go 2 (pc1 := 73) (lv1 := [.ref 0, .int a, .int b, .int c, .int t, .int h, .int w, xmk]) (st1 := [.int (-2)]) (h1 := (124, I, J, R)) rfl ?_
  exact ev_ret rfl rfl
set_option maxRecDepth 20000 in
theorem qv_q_23 {L : Nat} {xs : Nat → Int32} {d : Nat} {I : Nat → Nat → Int32} {J : Nat → Nat → Int64} {R : Nat → Nat → Nat} {a b c t h w : Int32} (hG : aGd R) (r_R_0_8 : R 0 8 = 24) (c1 : xEv L xs d 59 0 [.ref 23, .int a] [] (124, I, J, R) (some (.int 1)) (124, I, J, R)) (c2 : xEv L xs d 64 0 [.ref 23, .int b] [] (124, I, J, R) (some (.int 1)) (124, I, J, R)) (c3 : xEv L xs d 64 0 [.ref 23, .int c] [] (124, I, J, R) (some (.int 0)) (124, I, J, R)) : xEv L xs (d + 1) 68 0 [.ref 0, .int a, .int b, .int c, .int t, .int h, .int w, xmk] [] (124, I, J, R) (some (.int (-2))) (124, I, J, R) := by
  refine ev_go 1 (pc1 := 1) (lv1 := [.ref 0, .int a, .int b, .int c, .int t, .int h, .int w, xmk]) (st1 := [.ref 0]) (h1 := (124, I, J, R)) rfl ?_
  refine ev_gf (c := 0) (t := 23) (X := R 0 8) rfl rfl (fun _ => rfl) rfl r_R_0_8 ?_
  refine ev_go 1 (pc1 := 5) (lv1 := [.ref 0, .int a, .int b, .int c, .int t, .int h, .int w, xmk]) (st1 := [.int a, .ref 23]) (h1 := (124, I, J, R)) rfl ?_
  refine ev_call (v1 := (some (.int 1))) (h1 := (124, I, J, R)) rfl rfl c1 ?_
  refine ev_go 2 (pc1 := 12) (lv1 := [.ref 0, .int a, .int b, .int c, .int t, .int h, .int w, xmk]) (st1 := [.ref 0]) (h1 := (124, I, J, R)) rfl ?_
  refine ev_gf (c := 0) (t := 23) (X := R 0 8) rfl rfl (fun _ => rfl) rfl r_R_0_8 ?_
  refine ev_go 1 (pc1 := 16) (lv1 := [.ref 0, .int a, .int b, .int c, .int t, .int h, .int w, xmk]) (st1 := [.int b, .ref 23]) (h1 := (124, I, J, R)) rfl ?_
  refine ev_call (v1 := (some (.int 1))) (h1 := (124, I, J, R)) rfl rfl c2 ?_
  refine ev_go 2 (pc1 := 23) (lv1 := [.ref 0, .int a, .int b, .int c, .int t, .int h, .int w, xmk]) (st1 := [.ref 0]) (h1 := (124, I, J, R)) rfl ?_
  refine ev_gf (c := 0) (t := 23) (X := R 0 8) rfl rfl (fun _ => rfl) rfl r_R_0_8 ?_
  refine ev_go 1 (pc1 := 27) (lv1 := [.ref 0, .int a, .int b, .int c, .int t, .int h, .int w, xmk]) (st1 := [.int c, .ref 23]) (h1 := (124, I, J, R)) rfl ?_
  refine ev_call (v1 := (some (.int 0))) (h1 := (124, I, J, R)) rfl rfl c3 ?_
  refine ev_go 2 (pc1 := 73) (lv1 := [.ref 0, .int a, .int b, .int c, .int t, .int h, .int w, xmk]) (st1 := [.int (-2)]) (h1 := (124, I, J, R)) rfl ?_
  exact ev_ret rfl rfl
set_option maxRecDepth 20000 in
theorem qv_m_23 {L : Nat} {xs : Nat → Int32} {d : Nat} {I : Nat → Nat → Int32} {J : Nat → Nat → Int64} {R : Nat → Nat → Nat} {a b c t h w : Int32} (hG : aGd R) (r_R_0_8 : R 0 8 = 24) (c1 : xEv L xs d 59 0 [.ref 23, .int a] [] (124, I, J, R) (some (.int 1)) (124, I, J, R)) (c2 : xEv L xs d 64 0 [.ref 23, .int b] [] (124, I, J, R) (some (.int 1)) (124, I, J, R)) (c3 : xEv L xs d 64 0 [.ref 23, .int c] [] (124, I, J, R) (some (.int 1)) (124, I, J, R)) (c4 : xEv L xs d 65 0 [.ref 37, .int t] [] (124, I, J, R) (some (.int 0)) (124, I, J, R)) : xEv L xs (d + 1) 68 0 [.ref 0, .int a, .int b, .int c, .int t, .int h, .int w, xmk] [] (124, I, J, R) (some (.int (-2))) (124, I, J, R) := by
  refine ev_go 1 (pc1 := 1) (lv1 := [.ref 0, .int a, .int b, .int c, .int t, .int h, .int w, xmk]) (st1 := [.ref 0]) (h1 := (124, I, J, R)) rfl ?_
  refine ev_gf (c := 0) (t := 23) (X := R 0 8) rfl rfl (fun _ => rfl) rfl r_R_0_8 ?_
  refine ev_go 1 (pc1 := 5) (lv1 := [.ref 0, .int a, .int b, .int c, .int t, .int h, .int w, xmk]) (st1 := [.int a, .ref 23]) (h1 := (124, I, J, R)) rfl ?_
  refine ev_call (v1 := (some (.int 1))) (h1 := (124, I, J, R)) rfl rfl c1 ?_
  refine ev_go 2 (pc1 := 12) (lv1 := [.ref 0, .int a, .int b, .int c, .int t, .int h, .int w, xmk]) (st1 := [.ref 0]) (h1 := (124, I, J, R)) rfl ?_
  refine ev_gf (c := 0) (t := 23) (X := R 0 8) rfl rfl (fun _ => rfl) rfl r_R_0_8 ?_
  refine ev_go 1 (pc1 := 16) (lv1 := [.ref 0, .int a, .int b, .int c, .int t, .int h, .int w, xmk]) (st1 := [.int b, .ref 23]) (h1 := (124, I, J, R)) rfl ?_
  refine ev_call (v1 := (some (.int 1))) (h1 := (124, I, J, R)) rfl rfl c2 ?_
  refine ev_go 2 (pc1 := 23) (lv1 := [.ref 0, .int a, .int b, .int c, .int t, .int h, .int w, xmk]) (st1 := [.ref 0]) (h1 := (124, I, J, R)) rfl ?_
  refine ev_gf (c := 0) (t := 23) (X := R 0 8) rfl rfl (fun _ => rfl) rfl r_R_0_8 ?_
  refine ev_go 1 (pc1 := 27) (lv1 := [.ref 0, .int a, .int b, .int c, .int t, .int h, .int w, xmk]) (st1 := [.int c, .ref 23]) (h1 := (124, I, J, R)) rfl ?_
  refine ev_call (v1 := (some (.int 1))) (h1 := (124, I, J, R)) rfl rfl c3 ?_
  refine ev_go 2 (pc1 := 34) (lv1 := [.ref 0, .int a, .int b, .int c, .int t, .int h, .int w, xmk]) (st1 := [.ref 0]) (h1 := (124, I, J, R)) rfl ?_
  refine ev_gf (c := 0) (t := 23) (X := R 0 8) rfl rfl (fun _ => rfl) rfl r_R_0_8 ?_
  refine ev_gf (c := 23) (t := 37) (X := R 23 13) rfl rfl (fun _ => rfl) rfl (hG 23 13 37 rfl rfl) ?_
  refine ev_go 1 (pc1 := 42) (lv1 := [.ref 0, .int a, .int b, .int c, .int t, .int h, .int w, xmk]) (st1 := [.int t, .ref 37]) (h1 := (124, I, J, R)) rfl ?_
  refine ev_call (v1 := (some (.int 0))) (h1 := (124, I, J, R)) rfl rfl c4 ?_
  refine ev_go 2 (pc1 := 73) (lv1 := [.ref 0, .int a, .int b, .int c, .int t, .int h, .int w, xmk]) (st1 := [.int (-2)]) (h1 := (124, I, J, R)) rfl ?_
  exact ev_ret rfl rfl
set_option maxRecDepth 20000 in
theorem qv_h_23 {L : Nat} {xs : Nat → Int32} {d : Nat} {I : Nat → Nat → Int32} {J : Nat → Nat → Int64} {R : Nat → Nat → Nat} {a b c t h w : Int32} (hG : aGd R) (r_R_0_8 : R 0 8 = 24) (c1 : xEv L xs d 59 0 [.ref 23, .int a] [] (124, I, J, R) (some (.int 1)) (124, I, J, R)) (c2 : xEv L xs d 64 0 [.ref 23, .int b] [] (124, I, J, R) (some (.int 1)) (124, I, J, R)) (c3 : xEv L xs d 64 0 [.ref 23, .int c] [] (124, I, J, R) (some (.int 1)) (124, I, J, R)) (c4 : xEv L xs d 65 0 [.ref 37, .int t] [] (124, I, J, R) (some (.int 1)) (124, I, J, R)) (b1 : h.toInt < 0) : xEv L xs (d + 1) 68 0 [.ref 0, .int a, .int b, .int c, .int t, .int h, .int w, xmk] [] (124, I, J, R) (some (.int (-2))) (124, I, J, R) := by
  refine ev_go 1 (pc1 := 1) (lv1 := [.ref 0, .int a, .int b, .int c, .int t, .int h, .int w, xmk]) (st1 := [.ref 0]) (h1 := (124, I, J, R)) rfl ?_
  refine ev_gf (c := 0) (t := 23) (X := R 0 8) rfl rfl (fun _ => rfl) rfl r_R_0_8 ?_
  refine ev_go 1 (pc1 := 5) (lv1 := [.ref 0, .int a, .int b, .int c, .int t, .int h, .int w, xmk]) (st1 := [.int a, .ref 23]) (h1 := (124, I, J, R)) rfl ?_
  refine ev_call (v1 := (some (.int 1))) (h1 := (124, I, J, R)) rfl rfl c1 ?_
  refine ev_go 2 (pc1 := 12) (lv1 := [.ref 0, .int a, .int b, .int c, .int t, .int h, .int w, xmk]) (st1 := [.ref 0]) (h1 := (124, I, J, R)) rfl ?_
  refine ev_gf (c := 0) (t := 23) (X := R 0 8) rfl rfl (fun _ => rfl) rfl r_R_0_8 ?_
  refine ev_go 1 (pc1 := 16) (lv1 := [.ref 0, .int a, .int b, .int c, .int t, .int h, .int w, xmk]) (st1 := [.int b, .ref 23]) (h1 := (124, I, J, R)) rfl ?_
  refine ev_call (v1 := (some (.int 1))) (h1 := (124, I, J, R)) rfl rfl c2 ?_
  refine ev_go 2 (pc1 := 23) (lv1 := [.ref 0, .int a, .int b, .int c, .int t, .int h, .int w, xmk]) (st1 := [.ref 0]) (h1 := (124, I, J, R)) rfl ?_
  refine ev_gf (c := 0) (t := 23) (X := R 0 8) rfl rfl (fun _ => rfl) rfl r_R_0_8 ?_
  refine ev_go 1 (pc1 := 27) (lv1 := [.ref 0, .int a, .int b, .int c, .int t, .int h, .int w, xmk]) (st1 := [.int c, .ref 23]) (h1 := (124, I, J, R)) rfl ?_
  refine ev_call (v1 := (some (.int 1))) (h1 := (124, I, J, R)) rfl rfl c3 ?_
  refine ev_go 2 (pc1 := 34) (lv1 := [.ref 0, .int a, .int b, .int c, .int t, .int h, .int w, xmk]) (st1 := [.ref 0]) (h1 := (124, I, J, R)) rfl ?_
  refine ev_gf (c := 0) (t := 23) (X := R 0 8) rfl rfl (fun _ => rfl) rfl r_R_0_8 ?_
  refine ev_gf (c := 23) (t := 37) (X := R 23 13) rfl rfl (fun _ => rfl) rfl (hG 23 13 37 rfl rfl) ?_
  refine ev_go 1 (pc1 := 42) (lv1 := [.ref 0, .int a, .int b, .int c, .int t, .int h, .int w, xmk]) (st1 := [.int t, .ref 37]) (h1 := (124, I, J, R)) rfl ?_
  refine ev_call (v1 := (some (.int 1))) (h1 := (124, I, J, R)) rfl rfl c4 ?_
  refine ev_go 2 (pc1 := 50) (lv1 := [.ref 0, .int a, .int b, .int c, .int t, .int h, .int w, xmk]) (st1 := [.int h]) (h1 := (124, I, J, R)) rfl ?_
  refine ev_br (b1 := true) rfl rfl (xcd_lt (x := h) (y := 0) (by rw [show ((0 : Int32)).toInt = 0 from by decide]; first | exact b1 | omega)) ?_
  refine ev_go 1 (pc1 := 73) (lv1 := [.ref 0, .int a, .int b, .int c, .int t, .int h, .int w, xmk]) (st1 := [.int (-2)]) (h1 := (124, I, J, R)) rfl ?_
  exact ev_ret rfl rfl
set_option maxRecDepth 20000 in
theorem qv_i_23 {L : Nat} {xs : Nat → Int32} {d : Nat} {I : Nat → Nat → Int32} {J : Nat → Nat → Int64} {R : Nat → Nat → Nat} {a b c t h w : Int32} (hG : aGd R) (r_R_0_8 : R 0 8 = 24) (c1 : xEv L xs d 59 0 [.ref 23, .int a] [] (124, I, J, R) (some (.int 1)) (124, I, J, R)) (c2 : xEv L xs d 64 0 [.ref 23, .int b] [] (124, I, J, R) (some (.int 1)) (124, I, J, R)) (c3 : xEv L xs d 64 0 [.ref 23, .int c] [] (124, I, J, R) (some (.int 1)) (124, I, J, R)) (c4 : xEv L xs d 65 0 [.ref 37, .int t] [] (124, I, J, R) (some (.int 1)) (124, I, J, R)) (b1 : h.toInt ≥ 0) (b2 : h.toInt > 95) : xEv L xs (d + 1) 68 0 [.ref 0, .int a, .int b, .int c, .int t, .int h, .int w, xmk] [] (124, I, J, R) (some (.int (-2))) (124, I, J, R) := by
  refine ev_go 1 (pc1 := 1) (lv1 := [.ref 0, .int a, .int b, .int c, .int t, .int h, .int w, xmk]) (st1 := [.ref 0]) (h1 := (124, I, J, R)) rfl ?_
  refine ev_gf (c := 0) (t := 23) (X := R 0 8) rfl rfl (fun _ => rfl) rfl r_R_0_8 ?_
  refine ev_go 1 (pc1 := 5) (lv1 := [.ref 0, .int a, .int b, .int c, .int t, .int h, .int w, xmk]) (st1 := [.int a, .ref 23]) (h1 := (124, I, J, R)) rfl ?_
  refine ev_call (v1 := (some (.int 1))) (h1 := (124, I, J, R)) rfl rfl c1 ?_
  refine ev_go 2 (pc1 := 12) (lv1 := [.ref 0, .int a, .int b, .int c, .int t, .int h, .int w, xmk]) (st1 := [.ref 0]) (h1 := (124, I, J, R)) rfl ?_
  refine ev_gf (c := 0) (t := 23) (X := R 0 8) rfl rfl (fun _ => rfl) rfl r_R_0_8 ?_
  refine ev_go 1 (pc1 := 16) (lv1 := [.ref 0, .int a, .int b, .int c, .int t, .int h, .int w, xmk]) (st1 := [.int b, .ref 23]) (h1 := (124, I, J, R)) rfl ?_
  refine ev_call (v1 := (some (.int 1))) (h1 := (124, I, J, R)) rfl rfl c2 ?_
  refine ev_go 2 (pc1 := 23) (lv1 := [.ref 0, .int a, .int b, .int c, .int t, .int h, .int w, xmk]) (st1 := [.ref 0]) (h1 := (124, I, J, R)) rfl ?_
  refine ev_gf (c := 0) (t := 23) (X := R 0 8) rfl rfl (fun _ => rfl) rfl r_R_0_8 ?_
  refine ev_go 1 (pc1 := 27) (lv1 := [.ref 0, .int a, .int b, .int c, .int t, .int h, .int w, xmk]) (st1 := [.int c, .ref 23]) (h1 := (124, I, J, R)) rfl ?_
  refine ev_call (v1 := (some (.int 1))) (h1 := (124, I, J, R)) rfl rfl c3 ?_
  refine ev_go 2 (pc1 := 34) (lv1 := [.ref 0, .int a, .int b, .int c, .int t, .int h, .int w, xmk]) (st1 := [.ref 0]) (h1 := (124, I, J, R)) rfl ?_
  refine ev_gf (c := 0) (t := 23) (X := R 0 8) rfl rfl (fun _ => rfl) rfl r_R_0_8 ?_
  refine ev_gf (c := 23) (t := 37) (X := R 23 13) rfl rfl (fun _ => rfl) rfl (hG 23 13 37 rfl rfl) ?_
  refine ev_go 1 (pc1 := 42) (lv1 := [.ref 0, .int a, .int b, .int c, .int t, .int h, .int w, xmk]) (st1 := [.int t, .ref 37]) (h1 := (124, I, J, R)) rfl ?_
  refine ev_call (v1 := (some (.int 1))) (h1 := (124, I, J, R)) rfl rfl c4 ?_
  refine ev_go 2 (pc1 := 50) (lv1 := [.ref 0, .int a, .int b, .int c, .int t, .int h, .int w, xmk]) (st1 := [.int h]) (h1 := (124, I, J, R)) rfl ?_
  refine ev_br (b1 := false) rfl rfl (xcd_nlt (x := h) (y := 0) (by rw [show ((0 : Int32)).toInt = 0 from by decide]; first | exact b1 | omega)) ?_
  refine ev_go 2 (pc1 := 57) (lv1 := [.ref 0, .int a, .int b, .int c, .int t, .int h, .int w, xmk]) (st1 := [.int 95, .int h]) (h1 := (124, I, J, R)) rfl ?_
  refine ev_br (b1 := true) rfl rfl (xcd_gt (x := h) (y := 95) (by rw [show ((95 : Int32)).toInt = 95 from by decide]; first | exact b2 | omega)) ?_
  refine ev_go 1 (pc1 := 73) (lv1 := [.ref 0, .int a, .int b, .int c, .int t, .int h, .int w, xmk]) (st1 := [.int (-2)]) (h1 := (124, I, J, R)) rfl ?_
  exact ev_ret rfl rfl
set_option maxRecDepth 20000 in
theorem qv_j_23 {L : Nat} {xs : Nat → Int32} {d : Nat} {I : Nat → Nat → Int32} {J : Nat → Nat → Int64} {R : Nat → Nat → Nat} {a b c t h w : Int32} (hG : aGd R) (r_R_0_8 : R 0 8 = 24) (c1 : xEv L xs d 59 0 [.ref 23, .int a] [] (124, I, J, R) (some (.int 1)) (124, I, J, R)) (c2 : xEv L xs d 64 0 [.ref 23, .int b] [] (124, I, J, R) (some (.int 1)) (124, I, J, R)) (c3 : xEv L xs d 64 0 [.ref 23, .int c] [] (124, I, J, R) (some (.int 1)) (124, I, J, R)) (c4 : xEv L xs d 65 0 [.ref 37, .int t] [] (124, I, J, R) (some (.int 1)) (124, I, J, R)) (b1 : h.toInt ≥ 0) (b2 : h.toInt ≤ 95) (b3 : w.toInt < 0) : xEv L xs (d + 1) 68 0 [.ref 0, .int a, .int b, .int c, .int t, .int h, .int w, xmk] [] (124, I, J, R) (some (.int (-2))) (124, I, J, R) := by
  refine ev_go 1 (pc1 := 1) (lv1 := [.ref 0, .int a, .int b, .int c, .int t, .int h, .int w, xmk]) (st1 := [.ref 0]) (h1 := (124, I, J, R)) rfl ?_
  refine ev_gf (c := 0) (t := 23) (X := R 0 8) rfl rfl (fun _ => rfl) rfl r_R_0_8 ?_
  refine ev_go 1 (pc1 := 5) (lv1 := [.ref 0, .int a, .int b, .int c, .int t, .int h, .int w, xmk]) (st1 := [.int a, .ref 23]) (h1 := (124, I, J, R)) rfl ?_
  refine ev_call (v1 := (some (.int 1))) (h1 := (124, I, J, R)) rfl rfl c1 ?_
  refine ev_go 2 (pc1 := 12) (lv1 := [.ref 0, .int a, .int b, .int c, .int t, .int h, .int w, xmk]) (st1 := [.ref 0]) (h1 := (124, I, J, R)) rfl ?_
  refine ev_gf (c := 0) (t := 23) (X := R 0 8) rfl rfl (fun _ => rfl) rfl r_R_0_8 ?_
  refine ev_go 1 (pc1 := 16) (lv1 := [.ref 0, .int a, .int b, .int c, .int t, .int h, .int w, xmk]) (st1 := [.int b, .ref 23]) (h1 := (124, I, J, R)) rfl ?_
  refine ev_call (v1 := (some (.int 1))) (h1 := (124, I, J, R)) rfl rfl c2 ?_
  refine ev_go 2 (pc1 := 23) (lv1 := [.ref 0, .int a, .int b, .int c, .int t, .int h, .int w, xmk]) (st1 := [.ref 0]) (h1 := (124, I, J, R)) rfl ?_
  refine ev_gf (c := 0) (t := 23) (X := R 0 8) rfl rfl (fun _ => rfl) rfl r_R_0_8 ?_
  refine ev_go 1 (pc1 := 27) (lv1 := [.ref 0, .int a, .int b, .int c, .int t, .int h, .int w, xmk]) (st1 := [.int c, .ref 23]) (h1 := (124, I, J, R)) rfl ?_
  refine ev_call (v1 := (some (.int 1))) (h1 := (124, I, J, R)) rfl rfl c3 ?_
  refine ev_go 2 (pc1 := 34) (lv1 := [.ref 0, .int a, .int b, .int c, .int t, .int h, .int w, xmk]) (st1 := [.ref 0]) (h1 := (124, I, J, R)) rfl ?_
  refine ev_gf (c := 0) (t := 23) (X := R 0 8) rfl rfl (fun _ => rfl) rfl r_R_0_8 ?_
  refine ev_gf (c := 23) (t := 37) (X := R 23 13) rfl rfl (fun _ => rfl) rfl (hG 23 13 37 rfl rfl) ?_
  refine ev_go 1 (pc1 := 42) (lv1 := [.ref 0, .int a, .int b, .int c, .int t, .int h, .int w, xmk]) (st1 := [.int t, .ref 37]) (h1 := (124, I, J, R)) rfl ?_
  refine ev_call (v1 := (some (.int 1))) (h1 := (124, I, J, R)) rfl rfl c4 ?_
  refine ev_go 2 (pc1 := 50) (lv1 := [.ref 0, .int a, .int b, .int c, .int t, .int h, .int w, xmk]) (st1 := [.int h]) (h1 := (124, I, J, R)) rfl ?_
  refine ev_br (b1 := false) rfl rfl (xcd_nlt (x := h) (y := 0) (by rw [show ((0 : Int32)).toInt = 0 from by decide]; first | exact b1 | omega)) ?_
  refine ev_go 2 (pc1 := 57) (lv1 := [.ref 0, .int a, .int b, .int c, .int t, .int h, .int w, xmk]) (st1 := [.int 95, .int h]) (h1 := (124, I, J, R)) rfl ?_
  refine ev_br (b1 := false) rfl rfl (xcd_ngt (x := h) (y := 95) (by rw [show ((95 : Int32)).toInt = 95 from by decide]; first | exact b2 | omega)) ?_
  refine ev_go 1 (pc1 := 62) (lv1 := [.ref 0, .int a, .int b, .int c, .int t, .int h, .int w, xmk]) (st1 := [.int w]) (h1 := (124, I, J, R)) rfl ?_
  refine ev_br (b1 := true) rfl rfl (xcd_lt (x := w) (y := 0) (by rw [show ((0 : Int32)).toInt = 0 from by decide]; first | exact b3 | omega)) ?_
  refine ev_go 1 (pc1 := 73) (lv1 := [.ref 0, .int a, .int b, .int c, .int t, .int h, .int w, xmk]) (st1 := [.int (-2)]) (h1 := (124, I, J, R)) rfl ?_
  exact ev_ret rfl rfl
set_option maxRecDepth 20000 in
theorem qv_k_23 {L : Nat} {xs : Nat → Int32} {d : Nat} {I : Nat → Nat → Int32} {J : Nat → Nat → Int64} {R : Nat → Nat → Nat} {a b c t h w : Int32} (hG : aGd R) (r_R_0_8 : R 0 8 = 24) (c1 : xEv L xs d 59 0 [.ref 23, .int a] [] (124, I, J, R) (some (.int 1)) (124, I, J, R)) (c2 : xEv L xs d 64 0 [.ref 23, .int b] [] (124, I, J, R) (some (.int 1)) (124, I, J, R)) (c3 : xEv L xs d 64 0 [.ref 23, .int c] [] (124, I, J, R) (some (.int 1)) (124, I, J, R)) (c4 : xEv L xs d 65 0 [.ref 37, .int t] [] (124, I, J, R) (some (.int 1)) (124, I, J, R)) (b1 : h.toInt ≥ 0) (b2 : h.toInt ≤ 95) (b3 : w.toInt ≥ 0) (b4 : w.toInt > 1) : xEv L xs (d + 1) 68 0 [.ref 0, .int a, .int b, .int c, .int t, .int h, .int w, xmk] [] (124, I, J, R) (some (.int (-2))) (124, I, J, R) := by
  refine ev_go 1 (pc1 := 1) (lv1 := [.ref 0, .int a, .int b, .int c, .int t, .int h, .int w, xmk]) (st1 := [.ref 0]) (h1 := (124, I, J, R)) rfl ?_
  refine ev_gf (c := 0) (t := 23) (X := R 0 8) rfl rfl (fun _ => rfl) rfl r_R_0_8 ?_
  refine ev_go 1 (pc1 := 5) (lv1 := [.ref 0, .int a, .int b, .int c, .int t, .int h, .int w, xmk]) (st1 := [.int a, .ref 23]) (h1 := (124, I, J, R)) rfl ?_
  refine ev_call (v1 := (some (.int 1))) (h1 := (124, I, J, R)) rfl rfl c1 ?_
  refine ev_go 2 (pc1 := 12) (lv1 := [.ref 0, .int a, .int b, .int c, .int t, .int h, .int w, xmk]) (st1 := [.ref 0]) (h1 := (124, I, J, R)) rfl ?_
  refine ev_gf (c := 0) (t := 23) (X := R 0 8) rfl rfl (fun _ => rfl) rfl r_R_0_8 ?_
  refine ev_go 1 (pc1 := 16) (lv1 := [.ref 0, .int a, .int b, .int c, .int t, .int h, .int w, xmk]) (st1 := [.int b, .ref 23]) (h1 := (124, I, J, R)) rfl ?_
  refine ev_call (v1 := (some (.int 1))) (h1 := (124, I, J, R)) rfl rfl c2 ?_
  refine ev_go 2 (pc1 := 23) (lv1 := [.ref 0, .int a, .int b, .int c, .int t, .int h, .int w, xmk]) (st1 := [.ref 0]) (h1 := (124, I, J, R)) rfl ?_
  refine ev_gf (c := 0) (t := 23) (X := R 0 8) rfl rfl (fun _ => rfl) rfl r_R_0_8 ?_
  refine ev_go 1 (pc1 := 27) (lv1 := [.ref 0, .int a, .int b, .int c, .int t, .int h, .int w, xmk]) (st1 := [.int c, .ref 23]) (h1 := (124, I, J, R)) rfl ?_
  refine ev_call (v1 := (some (.int 1))) (h1 := (124, I, J, R)) rfl rfl c3 ?_
  refine ev_go 2 (pc1 := 34) (lv1 := [.ref 0, .int a, .int b, .int c, .int t, .int h, .int w, xmk]) (st1 := [.ref 0]) (h1 := (124, I, J, R)) rfl ?_
  refine ev_gf (c := 0) (t := 23) (X := R 0 8) rfl rfl (fun _ => rfl) rfl r_R_0_8 ?_
  refine ev_gf (c := 23) (t := 37) (X := R 23 13) rfl rfl (fun _ => rfl) rfl (hG 23 13 37 rfl rfl) ?_
  refine ev_go 1 (pc1 := 42) (lv1 := [.ref 0, .int a, .int b, .int c, .int t, .int h, .int w, xmk]) (st1 := [.int t, .ref 37]) (h1 := (124, I, J, R)) rfl ?_
  refine ev_call (v1 := (some (.int 1))) (h1 := (124, I, J, R)) rfl rfl c4 ?_
  refine ev_go 2 (pc1 := 50) (lv1 := [.ref 0, .int a, .int b, .int c, .int t, .int h, .int w, xmk]) (st1 := [.int h]) (h1 := (124, I, J, R)) rfl ?_
  refine ev_br (b1 := false) rfl rfl (xcd_nlt (x := h) (y := 0) (by rw [show ((0 : Int32)).toInt = 0 from by decide]; first | exact b1 | omega)) ?_
  refine ev_go 2 (pc1 := 57) (lv1 := [.ref 0, .int a, .int b, .int c, .int t, .int h, .int w, xmk]) (st1 := [.int 95, .int h]) (h1 := (124, I, J, R)) rfl ?_
  refine ev_br (b1 := false) rfl rfl (xcd_ngt (x := h) (y := 95) (by rw [show ((95 : Int32)).toInt = 95 from by decide]; first | exact b2 | omega)) ?_
  refine ev_go 1 (pc1 := 62) (lv1 := [.ref 0, .int a, .int b, .int c, .int t, .int h, .int w, xmk]) (st1 := [.int w]) (h1 := (124, I, J, R)) rfl ?_
  refine ev_br (b1 := false) rfl rfl (xcd_nlt (x := w) (y := 0) (by rw [show ((0 : Int32)).toInt = 0 from by decide]; first | exact b3 | omega)) ?_
  refine ev_go 2 (pc1 := 68) (lv1 := [.ref 0, .int a, .int b, .int c, .int t, .int h, .int w, xmk]) (st1 := [.int 1, .int w]) (h1 := (124, I, J, R)) rfl ?_
  refine ev_br (b1 := false) rfl rfl (xcd_nle (x := w) (y := 1) (by rw [show ((1 : Int32)).toInt = 1 from by decide]; first | exact b4 | omega)) ?_
  refine ev_go 1 (pc1 := 73) (lv1 := [.ref 0, .int a, .int b, .int c, .int t, .int h, .int w, xmk]) (st1 := [.int (-2)]) (h1 := (124, I, J, R)) rfl ?_
  exact ev_ret rfl rfl
set_option maxRecDepth 20000 in
theorem qv_0_23 {L : Nat} {xs : Nat → Int32} {d : Nat} {I : Nat → Nat → Int32} {J : Nat → Nat → Int64} {R : Nat → Nat → Nat} {I1 : Nat → Nat → Int32} {J1 : Nat → Nat → Int64} {a b c t h w bar u r1 : Int32} (hG : aGd R) (r_R_0_8 : R 0 8 = 24) (c1 : xEv L xs d 59 0 [.ref 23, .int a] [] (124, I, J, R) (some (.int 1)) (124, I, J, R)) (c2 : xEv L xs d 64 0 [.ref 23, .int b] [] (124, I, J, R) (some (.int 1)) (124, I, J, R)) (c3 : xEv L xs d 64 0 [.ref 23, .int c] [] (124, I, J, R) (some (.int 1)) (124, I, J, R)) (c4 : xEv L xs d 65 0 [.ref 37, .int t] [] (124, I, J, R) (some (.int 1)) (124, I, J, R)) (b1 : h.toInt ≥ 0) (b2 : h.toInt ≤ 95) (b3 : w.toInt ≥ 0) (b4 : w.toInt ≤ 1) (c5 : xEv L xs d 39 0 [.ref 35, .int a] [] (124, I, J, R) (some (.int bar)) (124, I, J, R)) (c6 : xEv L xs d 45 0 [.ref 37, .int h, xmk, xmk] [] (124, I, J, R) (some (.int u)) (124, I, J, R)) (c7 : xEv L xs d 69 0 [.ref 53, .ref 37, .int bar, .int c, .int t, .int u, xmk, xmk, xmk, xmk] [] (124, I, J, R) none (124, I1, J1, R)) (b5 : w.toInt = 0) (c8 : xEv L xs d 79 0 [.ref 53, .int b] [] (124, I1, J1, R) (some (.int r1)) (124, I1, J1, R)) : xEv L xs (d + 1) 68 0 [.ref 0, .int a, .int b, .int c, .int t, .int h, .int w, xmk] [] (124, I, J, R) (some (.int r1)) (124, I1, J1, R) := by
  refine ev_go 1 (pc1 := 1) (lv1 := [.ref 0, .int a, .int b, .int c, .int t, .int h, .int w, xmk]) (st1 := [.ref 0]) (h1 := (124, I, J, R)) rfl ?_
  refine ev_gf (c := 0) (t := 23) (X := R 0 8) rfl rfl (fun _ => rfl) rfl r_R_0_8 ?_
  refine ev_go 1 (pc1 := 5) (lv1 := [.ref 0, .int a, .int b, .int c, .int t, .int h, .int w, xmk]) (st1 := [.int a, .ref 23]) (h1 := (124, I, J, R)) rfl ?_
  refine ev_call (v1 := (some (.int 1))) (h1 := (124, I, J, R)) rfl rfl c1 ?_
  refine ev_go 2 (pc1 := 12) (lv1 := [.ref 0, .int a, .int b, .int c, .int t, .int h, .int w, xmk]) (st1 := [.ref 0]) (h1 := (124, I, J, R)) rfl ?_
  refine ev_gf (c := 0) (t := 23) (X := R 0 8) rfl rfl (fun _ => rfl) rfl r_R_0_8 ?_
  refine ev_go 1 (pc1 := 16) (lv1 := [.ref 0, .int a, .int b, .int c, .int t, .int h, .int w, xmk]) (st1 := [.int b, .ref 23]) (h1 := (124, I, J, R)) rfl ?_
  refine ev_call (v1 := (some (.int 1))) (h1 := (124, I, J, R)) rfl rfl c2 ?_
  refine ev_go 2 (pc1 := 23) (lv1 := [.ref 0, .int a, .int b, .int c, .int t, .int h, .int w, xmk]) (st1 := [.ref 0]) (h1 := (124, I, J, R)) rfl ?_
  refine ev_gf (c := 0) (t := 23) (X := R 0 8) rfl rfl (fun _ => rfl) rfl r_R_0_8 ?_
  refine ev_go 1 (pc1 := 27) (lv1 := [.ref 0, .int a, .int b, .int c, .int t, .int h, .int w, xmk]) (st1 := [.int c, .ref 23]) (h1 := (124, I, J, R)) rfl ?_
  refine ev_call (v1 := (some (.int 1))) (h1 := (124, I, J, R)) rfl rfl c3 ?_
  refine ev_go 2 (pc1 := 34) (lv1 := [.ref 0, .int a, .int b, .int c, .int t, .int h, .int w, xmk]) (st1 := [.ref 0]) (h1 := (124, I, J, R)) rfl ?_
  refine ev_gf (c := 0) (t := 23) (X := R 0 8) rfl rfl (fun _ => rfl) rfl r_R_0_8 ?_
  refine ev_gf (c := 23) (t := 37) (X := R 23 13) rfl rfl (fun _ => rfl) rfl (hG 23 13 37 rfl rfl) ?_
  refine ev_go 1 (pc1 := 42) (lv1 := [.ref 0, .int a, .int b, .int c, .int t, .int h, .int w, xmk]) (st1 := [.int t, .ref 37]) (h1 := (124, I, J, R)) rfl ?_
  refine ev_call (v1 := (some (.int 1))) (h1 := (124, I, J, R)) rfl rfl c4 ?_
  refine ev_go 2 (pc1 := 50) (lv1 := [.ref 0, .int a, .int b, .int c, .int t, .int h, .int w, xmk]) (st1 := [.int h]) (h1 := (124, I, J, R)) rfl ?_
  refine ev_br (b1 := false) rfl rfl (xcd_nlt (x := h) (y := 0) (by rw [show ((0 : Int32)).toInt = 0 from by decide]; first | exact b1 | omega)) ?_
  refine ev_go 2 (pc1 := 57) (lv1 := [.ref 0, .int a, .int b, .int c, .int t, .int h, .int w, xmk]) (st1 := [.int 95, .int h]) (h1 := (124, I, J, R)) rfl ?_
  refine ev_br (b1 := false) rfl rfl (xcd_ngt (x := h) (y := 95) (by rw [show ((95 : Int32)).toInt = 95 from by decide]; first | exact b2 | omega)) ?_
  refine ev_go 1 (pc1 := 62) (lv1 := [.ref 0, .int a, .int b, .int c, .int t, .int h, .int w, xmk]) (st1 := [.int w]) (h1 := (124, I, J, R)) rfl ?_
  refine ev_br (b1 := false) rfl rfl (xcd_nlt (x := w) (y := 0) (by rw [show ((0 : Int32)).toInt = 0 from by decide]; first | exact b3 | omega)) ?_
  refine ev_go 2 (pc1 := 68) (lv1 := [.ref 0, .int a, .int b, .int c, .int t, .int h, .int w, xmk]) (st1 := [.int 1, .int w]) (h1 := (124, I, J, R)) rfl ?_
  refine ev_br (b1 := true) rfl rfl (xcd_le (x := w) (y := 1) (by rw [show ((1 : Int32)).toInt = 1 from by decide]; first | exact b4 | omega)) ?_
  refine ev_go 1 (pc1 := 75) (lv1 := [.ref 0, .int a, .int b, .int c, .int t, .int h, .int w, xmk]) (st1 := [.ref 0]) (h1 := (124, I, J, R)) rfl ?_
  refine ev_gf (c := 0) (t := 23) (X := R 0 8) rfl rfl (fun _ => rfl) rfl r_R_0_8 ?_
  refine ev_gf (c := 23) (t := 37) (X := R 23 13) rfl rfl (fun _ => rfl) rfl (hG 23 13 37 rfl rfl) ?_
  refine ev_go 2 (pc1 := 84) (lv1 := [.ref 0, .int a, .int b, .int c, .int t, .int h, .int w, .ref 37]) (st1 := [.ref 0]) (h1 := (124, I, J, R)) rfl ?_
  refine ev_gf (c := 0) (t := 53) (X := R 0 4) rfl rfl (fun _ => rfl) rfl (hG 0 4 53 rfl rfl) ?_
  refine ev_go 2 (pc1 := 90) (lv1 := [.ref 0, .int a, .int b, .int c, .int t, .int h, .int w, .ref 37]) (st1 := [.ref 0, .ref 37, .ref 53]) (h1 := (124, I, J, R)) rfl ?_
  refine ev_gf (c := 0) (t := 23) (X := R 0 8) rfl rfl (fun _ => rfl) rfl r_R_0_8 ?_
  refine ev_gf (c := 23) (t := 35) (X := R 23 11) rfl rfl (fun _ => rfl) rfl (hG 23 11 35 rfl rfl) ?_
  refine ev_go 1 (pc1 := 97) (lv1 := [.ref 0, .int a, .int b, .int c, .int t, .int h, .int w, .ref 37]) (st1 := [.int a, .ref 35, .ref 37, .ref 53]) (h1 := (124, I, J, R)) rfl ?_
  refine ev_call (v1 := (some (.int bar))) (h1 := (124, I, J, R)) rfl rfl c5 ?_
  refine ev_go 4 (pc1 := 107) (lv1 := [.ref 0, .int a, .int b, .int c, .int t, .int h, .int w, .ref 37]) (st1 := [.int h, .ref 37, .int t, .int c, .int bar, .ref 37, .ref 53]) (h1 := (124, I, J, R)) rfl ?_
  refine ev_call (v1 := (some (.int u))) (h1 := (124, I, J, R)) rfl rfl c6 ?_
  refine ev_call (v1 := none) (h1 := (124, I1, J1, R)) rfl rfl c7 ?_
  refine ev_go 1 (pc1 := 115) (lv1 := [.ref 0, .int a, .int b, .int c, .int t, .int h, .int w, .ref 37]) (st1 := [.int w]) (h1 := (124, I1, J1, R)) rfl ?_
  refine ev_br (b1 := false) rfl rfl (xcd_nne (x := w) (y := 0) (by rw [show ((0 : Int32)).toInt = 0 from by decide]; first | exact b5 | omega)) ?_
  refine ev_go 1 (pc1 := 119) (lv1 := [.ref 0, .int a, .int b, .int c, .int t, .int h, .int w, .ref 37]) (st1 := [.ref 0]) (h1 := (124, I1, J1, R)) rfl ?_
  refine ev_gf (c := 0) (t := 53) (X := R 0 4) rfl rfl (fun _ => rfl) rfl (hG 0 4 53 rfl rfl) ?_
  refine ev_go 1 (pc1 := 123) (lv1 := [.ref 0, .int a, .int b, .int c, .int t, .int h, .int w, .ref 37]) (st1 := [.int b, .ref 53]) (h1 := (124, I1, J1, R)) rfl ?_
  refine ev_call (v1 := (some (.int r1))) (h1 := (124, I1, J1, R)) rfl rfl c8 ?_
  refine ev_go 1 (pc1 := 137) (lv1 := [.ref 0, .int a, .int b, .int c, .int t, .int h, .int w, .ref 37]) (st1 := [.int r1]) (h1 := (124, I1, J1, R)) rfl ?_
  exact ev_ret rfl rfl
set_option maxRecDepth 20000 in
theorem qv_1_23 {L : Nat} {xs : Nat → Int32} {d : Nat} {I : Nat → Nat → Int32} {J : Nat → Nat → Int64} {R : Nat → Nat → Nat} {I1 : Nat → Nat → Int32} {J1 : Nat → Nat → Int64} {a b c t h w bar u r1 : Int32} (hG : aGd R) (r_R_0_8 : R 0 8 = 24) (c1 : xEv L xs d 59 0 [.ref 23, .int a] [] (124, I, J, R) (some (.int 1)) (124, I, J, R)) (c2 : xEv L xs d 64 0 [.ref 23, .int b] [] (124, I, J, R) (some (.int 1)) (124, I, J, R)) (c3 : xEv L xs d 64 0 [.ref 23, .int c] [] (124, I, J, R) (some (.int 1)) (124, I, J, R)) (c4 : xEv L xs d 65 0 [.ref 37, .int t] [] (124, I, J, R) (some (.int 1)) (124, I, J, R)) (b1 : h.toInt ≥ 0) (b2 : h.toInt ≤ 95) (b3 : w.toInt ≥ 0) (b4 : w.toInt ≤ 1) (c5 : xEv L xs d 39 0 [.ref 35, .int a] [] (124, I, J, R) (some (.int bar)) (124, I, J, R)) (c6 : xEv L xs d 45 0 [.ref 37, .int h, xmk, xmk] [] (124, I, J, R) (some (.int u)) (124, I, J, R)) (c7 : xEv L xs d 69 0 [.ref 53, .ref 37, .int bar, .int c, .int t, .int u, xmk, xmk, xmk, xmk] [] (124, I, J, R) none (124, I1, J1, R)) (b5 : w.toInt ≠ 0) (c8 : xEv L xs d 80 0 [.ref 53, .int b, xmk, xmk, xmk] [] (124, I1, J1, R) (some (.int r1)) (124, I1, J1, R)) : xEv L xs (d + 1) 68 0 [.ref 0, .int a, .int b, .int c, .int t, .int h, .int w, xmk] [] (124, I, J, R) (some (.int r1)) (124, I1, J1, R) := by
  refine ev_go 1 (pc1 := 1) (lv1 := [.ref 0, .int a, .int b, .int c, .int t, .int h, .int w, xmk]) (st1 := [.ref 0]) (h1 := (124, I, J, R)) rfl ?_
  refine ev_gf (c := 0) (t := 23) (X := R 0 8) rfl rfl (fun _ => rfl) rfl r_R_0_8 ?_
  refine ev_go 1 (pc1 := 5) (lv1 := [.ref 0, .int a, .int b, .int c, .int t, .int h, .int w, xmk]) (st1 := [.int a, .ref 23]) (h1 := (124, I, J, R)) rfl ?_
  refine ev_call (v1 := (some (.int 1))) (h1 := (124, I, J, R)) rfl rfl c1 ?_
  refine ev_go 2 (pc1 := 12) (lv1 := [.ref 0, .int a, .int b, .int c, .int t, .int h, .int w, xmk]) (st1 := [.ref 0]) (h1 := (124, I, J, R)) rfl ?_
  refine ev_gf (c := 0) (t := 23) (X := R 0 8) rfl rfl (fun _ => rfl) rfl r_R_0_8 ?_
  refine ev_go 1 (pc1 := 16) (lv1 := [.ref 0, .int a, .int b, .int c, .int t, .int h, .int w, xmk]) (st1 := [.int b, .ref 23]) (h1 := (124, I, J, R)) rfl ?_
  refine ev_call (v1 := (some (.int 1))) (h1 := (124, I, J, R)) rfl rfl c2 ?_
  refine ev_go 2 (pc1 := 23) (lv1 := [.ref 0, .int a, .int b, .int c, .int t, .int h, .int w, xmk]) (st1 := [.ref 0]) (h1 := (124, I, J, R)) rfl ?_
  refine ev_gf (c := 0) (t := 23) (X := R 0 8) rfl rfl (fun _ => rfl) rfl r_R_0_8 ?_
  refine ev_go 1 (pc1 := 27) (lv1 := [.ref 0, .int a, .int b, .int c, .int t, .int h, .int w, xmk]) (st1 := [.int c, .ref 23]) (h1 := (124, I, J, R)) rfl ?_
  refine ev_call (v1 := (some (.int 1))) (h1 := (124, I, J, R)) rfl rfl c3 ?_
  refine ev_go 2 (pc1 := 34) (lv1 := [.ref 0, .int a, .int b, .int c, .int t, .int h, .int w, xmk]) (st1 := [.ref 0]) (h1 := (124, I, J, R)) rfl ?_
  refine ev_gf (c := 0) (t := 23) (X := R 0 8) rfl rfl (fun _ => rfl) rfl r_R_0_8 ?_
  refine ev_gf (c := 23) (t := 37) (X := R 23 13) rfl rfl (fun _ => rfl) rfl (hG 23 13 37 rfl rfl) ?_
  refine ev_go 1 (pc1 := 42) (lv1 := [.ref 0, .int a, .int b, .int c, .int t, .int h, .int w, xmk]) (st1 := [.int t, .ref 37]) (h1 := (124, I, J, R)) rfl ?_
  refine ev_call (v1 := (some (.int 1))) (h1 := (124, I, J, R)) rfl rfl c4 ?_
  refine ev_go 2 (pc1 := 50) (lv1 := [.ref 0, .int a, .int b, .int c, .int t, .int h, .int w, xmk]) (st1 := [.int h]) (h1 := (124, I, J, R)) rfl ?_
  refine ev_br (b1 := false) rfl rfl (xcd_nlt (x := h) (y := 0) (by rw [show ((0 : Int32)).toInt = 0 from by decide]; first | exact b1 | omega)) ?_
  refine ev_go 2 (pc1 := 57) (lv1 := [.ref 0, .int a, .int b, .int c, .int t, .int h, .int w, xmk]) (st1 := [.int 95, .int h]) (h1 := (124, I, J, R)) rfl ?_
  refine ev_br (b1 := false) rfl rfl (xcd_ngt (x := h) (y := 95) (by rw [show ((95 : Int32)).toInt = 95 from by decide]; first | exact b2 | omega)) ?_
  refine ev_go 1 (pc1 := 62) (lv1 := [.ref 0, .int a, .int b, .int c, .int t, .int h, .int w, xmk]) (st1 := [.int w]) (h1 := (124, I, J, R)) rfl ?_
  refine ev_br (b1 := false) rfl rfl (xcd_nlt (x := w) (y := 0) (by rw [show ((0 : Int32)).toInt = 0 from by decide]; first | exact b3 | omega)) ?_
  refine ev_go 2 (pc1 := 68) (lv1 := [.ref 0, .int a, .int b, .int c, .int t, .int h, .int w, xmk]) (st1 := [.int 1, .int w]) (h1 := (124, I, J, R)) rfl ?_
  refine ev_br (b1 := true) rfl rfl (xcd_le (x := w) (y := 1) (by rw [show ((1 : Int32)).toInt = 1 from by decide]; first | exact b4 | omega)) ?_
  refine ev_go 1 (pc1 := 75) (lv1 := [.ref 0, .int a, .int b, .int c, .int t, .int h, .int w, xmk]) (st1 := [.ref 0]) (h1 := (124, I, J, R)) rfl ?_
  refine ev_gf (c := 0) (t := 23) (X := R 0 8) rfl rfl (fun _ => rfl) rfl r_R_0_8 ?_
  refine ev_gf (c := 23) (t := 37) (X := R 23 13) rfl rfl (fun _ => rfl) rfl (hG 23 13 37 rfl rfl) ?_
  refine ev_go 2 (pc1 := 84) (lv1 := [.ref 0, .int a, .int b, .int c, .int t, .int h, .int w, .ref 37]) (st1 := [.ref 0]) (h1 := (124, I, J, R)) rfl ?_
  refine ev_gf (c := 0) (t := 53) (X := R 0 4) rfl rfl (fun _ => rfl) rfl (hG 0 4 53 rfl rfl) ?_
  refine ev_go 2 (pc1 := 90) (lv1 := [.ref 0, .int a, .int b, .int c, .int t, .int h, .int w, .ref 37]) (st1 := [.ref 0, .ref 37, .ref 53]) (h1 := (124, I, J, R)) rfl ?_
  refine ev_gf (c := 0) (t := 23) (X := R 0 8) rfl rfl (fun _ => rfl) rfl r_R_0_8 ?_
  refine ev_gf (c := 23) (t := 35) (X := R 23 11) rfl rfl (fun _ => rfl) rfl (hG 23 11 35 rfl rfl) ?_
  refine ev_go 1 (pc1 := 97) (lv1 := [.ref 0, .int a, .int b, .int c, .int t, .int h, .int w, .ref 37]) (st1 := [.int a, .ref 35, .ref 37, .ref 53]) (h1 := (124, I, J, R)) rfl ?_
  refine ev_call (v1 := (some (.int bar))) (h1 := (124, I, J, R)) rfl rfl c5 ?_
  refine ev_go 4 (pc1 := 107) (lv1 := [.ref 0, .int a, .int b, .int c, .int t, .int h, .int w, .ref 37]) (st1 := [.int h, .ref 37, .int t, .int c, .int bar, .ref 37, .ref 53]) (h1 := (124, I, J, R)) rfl ?_
  refine ev_call (v1 := (some (.int u))) (h1 := (124, I, J, R)) rfl rfl c6 ?_
  refine ev_call (v1 := none) (h1 := (124, I1, J1, R)) rfl rfl c7 ?_
  refine ev_go 1 (pc1 := 115) (lv1 := [.ref 0, .int a, .int b, .int c, .int t, .int h, .int w, .ref 37]) (st1 := [.int w]) (h1 := (124, I1, J1, R)) rfl ?_
  refine ev_br (b1 := true) rfl rfl (xcd_ne (x := w) (y := 0) (by rw [show ((0 : Int32)).toInt = 0 from by decide]; first | exact b5 | omega)) ?_
  refine ev_go 1 (pc1 := 130) (lv1 := [.ref 0, .int a, .int b, .int c, .int t, .int h, .int w, .ref 37]) (st1 := [.ref 0]) (h1 := (124, I1, J1, R)) rfl ?_
  refine ev_gf (c := 0) (t := 53) (X := R 0 4) rfl rfl (fun _ => rfl) rfl (hG 0 4 53 rfl rfl) ?_
  refine ev_go 1 (pc1 := 134) (lv1 := [.ref 0, .int a, .int b, .int c, .int t, .int h, .int w, .ref 37]) (st1 := [.int b, .ref 53]) (h1 := (124, I1, J1, R)) rfl ?_
  refine ev_call (v1 := (some (.int r1))) (h1 := (124, I1, J1, R)) rfl rfl c8 ?_
  exact ev_ret rfl rfl
theorem sus_23 {L : Nat} {xs : Nat → Int32} {d d' : Nat} {I Ir : Nat → Nat → Int32} {J Jr : Nat → Nat → Int64} {R Rr : Nat → Nat → Nat} (hG : aGd R) (hGr : aGd Rr) (h8 : R 0 8 = 24) {np nm nn : Nat} {l : List (Nat × Nat)} (hV : VR_23 np nm nn l I Ir) (hch : ∀ q, q < 16 → 0 ≤ (Ir 95 q).toInt ∧ (Ir 95 q).toInt ≤ 10) (a b c t h w : Int32) : ∃ (r : Int32) (I' Ir' : Nat → Nat → Int32) (J' Jr' : Nat → Nat → Int64), xEv L xs (d + 5) 68 0 [.ref 0, .int a, .int b, .int c, .int t, .int h, .int w, xmk] [] (124, I, J, R) (some (.int r)) (124, I', J', R) ∧ xEv L xs (d' + 4) 188 0 [.ref 86, .int a, .int b, .int c, .int t, .int h, .int w] [] (124, Ir, Jr, Rr) (some (.int r)) (124, Ir', Jr', Rr) := by
  have hV0 := hV
  obtain ⟨⟨p1, p2, p3⟩, p4, p5, p6, ⟨q1, q2⟩, ⟨q3, q4⟩, ⟨q5, q6⟩, q7, q8, q9, ⟨q10, q11⟩, q12, -⟩ := hV
  have e0 : (0 : Int32).toInt = 0 := by decide
  have e1 : (1 : Int32).toInt = 1 := by decide
  have e95 : (95 : Int32).toInt = 95 := by decide
  have rw_ := wy_run (L := L) (xs := xs) (d := d' + 1) (I := Ir) (J := Jr) hGr q2 q6 q11 a b c t
  have rh := in_ex (L := L) (xs := xs) (d := d' + 3) (I := Ir) (J := Jr) hGr h 0 95
  have rv := in_ex (L := L) (xs := xs) (d := d' + 3) (I := Ir) (J := Jr) hGr w 0 1
  rw [e0, e95] at rh
  rw [e0, e1] at rv
  -- the guards of the class
  rcases hn_run_23 (L := L) (xs := xs) (d := d + 4) (I := I) (J := J) hG q5 a with ⟨ha, xa⟩ | ⟨ha, xa⟩
  rotate_left
  · rcases rw_ with ⟨g, -⟩ | ⟨-, y⟩
    · exact absurd g.1 ha
    · exact ⟨-2, _, _, _, _, qv_n_23 hG h8 xa, qt_x hGr y⟩
  rcases hp_run_23 (L := L) (xs := xs) (d := d + 4) (I := I) (J := J) hG q1 b with ⟨hb, xb⟩ | ⟨hb, xb⟩
  rotate_left
  · rcases rw_ with ⟨g, -⟩ | ⟨-, y⟩
    · exact absurd g.2.1 hb
    · exact ⟨-2, _, _, _, _, qv_p_23 hG h8 xa xb, qt_x hGr y⟩
  rcases hp_run_23 (L := L) (xs := xs) (d := d + 4) (I := I) (J := J) hG q1 c with ⟨hc, xc⟩ | ⟨hc, xc⟩
  rotate_left
  · rcases rw_ with ⟨g, -⟩ | ⟨-, y⟩
    · exact absurd g.2.2.1 hc
    · exact ⟨-2, _, _, _, _, qv_q_23 hG h8 xa xb xc, qt_x hGr y⟩
  rcases hm_run_23 (L := L) (xs := xs) (d := d + 4) (I := I) (J := J) hG q10 t with ⟨ht, xt⟩ | ⟨ht, xt⟩
  rotate_left
  · rcases rw_ with ⟨g, -⟩ | ⟨-, y⟩
    · exact absurd g.2.2.2 ht
    · exact ⟨-2, _, _, _, _, qv_m_23 hG h8 xa xb xc xt, qt_x hGr y⟩
  have y1 : xEv L xs (d' + 3) 183 0 [.ref 86, .int a, .int b, .int c, .int t] [] (124, Ir, Jr, Rr) (some (.int 1)) (124, Ir, Jr, Rr) := by
    rcases rw_ with ⟨-, y⟩ | ⟨g, -⟩
    · exact y
    · exact absurd ⟨ha, hb, hc, ht⟩ g
  by_cases h0 : h.toInt < 0
  · rcases rh with ⟨g, -⟩ | ⟨-, y⟩
    · exact absurd g (by omega)
    · exact ⟨-2, _, _, _, _, qv_h_23 hG h8 xa xb xc xt h0, qt_y hGr y1 y⟩
  by_cases h95 : h.toInt > 95
  · rcases rh with ⟨g, -⟩ | ⟨-, y⟩
    · exact absurd g (by omega)
    · exact ⟨-2, _, _, _, _, qv_i_23 hG h8 xa xb xc xt (by omega) h95, qt_y hGr y1 y⟩
  have y2 : xEv L xs (d' + 3) 160 0 [.int h, .int 0, .int 95] [] (124, Ir, Jr, Rr) (some (.int 1)) (124, Ir, Jr, Rr) := by
    rcases rh with ⟨-, y⟩ | ⟨g, -⟩
    · exact y
    · exact absurd ⟨by omega, by omega⟩ g
  by_cases w0 : w.toInt < 0
  · rcases rv with ⟨g, -⟩ | ⟨-, y⟩
    · exact absurd g (by omega)
    · exact ⟨-2, _, _, _, _, qv_j_23 hG h8 xa xb xc xt (by omega) (by omega) w0, qt_z hGr y1 y2 y⟩
  by_cases w1 : w.toInt > 1
  · rcases rv with ⟨g, -⟩ | ⟨-, y⟩
    · exact absurd g (by omega)
    · exact ⟨-2, _, _, _, _, qv_k_23 hG h8 xa xb xc xt (by omega) (by omega) (by omega) w1, qt_z hGr y1 y2 y⟩
  have y3 : xEv L xs (d' + 3) 160 0 [.int w, .int 0, .int 1] [] (124, Ir, Jr, Rr) (some (.int 1)) (124, Ir, Jr, Rr) := by
    rcases rv with ⟨-, y⟩ | ⟨g, -⟩
    · exact y
    · exact absurd ⟨by omega, by omega⟩ g
  -- the numbers
  obtain ⟨aN, eaN⟩ := Int.eq_ofNat_of_zero_le ha.1
  obtain ⟨bN, ebN⟩ := Int.eq_ofNat_of_zero_le hb.1
  obtain ⟨cN, ecN⟩ := Int.eq_ofNat_of_zero_le hc.1
  obtain ⟨tN, etN⟩ := Int.eq_ofNat_of_zero_le ht.1
  have eca := clamp_s (i := a) ha.1
  have eka : a.toNatClampNeg = aN := by omega
  obtain ⟨u, xu, hu⟩ := ut_run_23 (L := L) (xs := xs) (d := d + 3) (I := I) (J := J) hG q10 p4 (fun t a b hl => (q12 t a b hl).1) h
  have dle : dlN l h.toInt ≤ l.length := List.length_filter_le _ _
  have xbar := at_run (L := L) (xs := xs) (d := d + 4) (h := (124, I, J, R)) (c := 35) (n := 4) (fun _ => rfl) (by decide) a
  rw [if_pos ⟨by omega, by omega⟩, eka] at xbar
  have ebar : I 35 aN = Ir 100 aN := (q9 aN (by omega)).2.2.2.2.1
  have xbar' : xEv L xs (d + 4) 39 0 [.ref 35, .int a] [] (124, I, J, R) (some (.int (Ir 100 a.toNatClampNeg))) (124, I, J, R) := by
    rw [eka, ← ebar]
    exact xbar
  -- both begin
  have edg : (u - t).toInt = u.toInt - t.toInt := i_sub (by omega) (by omega)
  obtain ⟨I1, J1, un, s1, s2, s3, s4, s5, s6, s7, s8, s9, s10⟩ := qs_run (L := L) (xs := xs) (d := d + 2) (I := I) (J := J) hG (q := c) (dg := u - t) ecN (by omega) (by omega) (by omega)
  obtain ⟨Jr1, z1, z2, z3⟩ := qqc_run (L := L) (xs := xs) (d := d' + 2) (I := Ir) (J := Jr) hGr
  obtain ⟨k1, k2, k3⟩ := ix160 ecN (by omega)
  obtain ⟨ur, xur, hur⟩ := tu_run (L := L) (xs := xs) (d := d' + 2) (I := uI Ir 86 40 0) (J := uL Jr1 108 (16 * cN) 1) hGr p5 (by rw [uI_n _ _ (by omega)]; exact q11) p4 (fun t a b hl => by rw [uI_n _ _ (by omega)]; exact (q12 t a b hl).2.1) h
  have eur : ur = u := Int32.toInt_inj.mp (by rw [hu, hur])
  subst eur
  have e0L : (0 : Int64).toInt = 0 := by decide
  have e1L : (1 : Int64).toInt = 1 := by decide
  have at0 : ∀ p i, p < 14 → i < 16 → ((uL Jr1 108 (16 * cN) 1) 108 (16 * p + i)).toInt = if p = cN ∧ i = 0 then 1 else 0 := fun p i hp hi => by
    by_cases g : p = cN ∧ i = 0
    · rw [if_pos g, g.1, g.2, Nat.add_zero, uL_s, e1L]
    · rw [if_neg g, uL_n _ _ (by omega), z3 _ (by omega), e0L]
  have gr : rG (uL Jr1 108 (16 * cN) 1) := fun p hp i hi => by
    rw [at0 p i hp hi]
    split <;> omega
  have rv0 : ∀ p, p < 7 → rV (uL Jr1 108 (16 * cN) 1) p = if p = cN then 1 else 0 := fun p hp => by
    have sp := sT_p (e := 9) (f := rF (uL Jr1 108 (16 * cN) 1) p) 1 15
    have z := sT_z (e := 9) (f := fun i => rF (uL Jr1 108 (16 * cN) 1) p (1 + i)) 0 15 (fun i _ hi => by
      show ((uL Jr1 108 (16 * cN) 1) 108 (16 * p + (1 + i))).toInt = 0
      rw [at0 _ _ (by omega) (by omega), if_neg (by omega)])
    rw [Nat.zero_add] at z
    have ez : sT 9 (fun i => rF (uL Jr1 108 (16 * cN) 1) p (1 + i)) 0 = 0 := sT_0 _ _
    have f0 : sT 9 (rF (uL Jr1 108 (16 * cN) 1) p) 1 = if p = cN then 1 else 0 := by
      rw [sT_1]
      show ((uL Jr1 108 (16 * cN) 1) 108 (16 * p + 0)).toInt = _
      rw [at0 _ _ (by omega) (by omega)]
      by_cases g : p = cN
      · rw [if_pos ⟨g, rfl⟩, if_pos g]
      · rw [if_neg (fun h => g h.1), if_neg g]
    show sT 9 (rF (uL Jr1 108 (16 * cN) 1) p) (1 + 15) = _
    rw [sp, z, ez, Int.mul_zero, Int.add_zero, f0]
  have start : ∀ p, p < np → cV J1 un p = rV (uL Jr1 108 (16 * cN) 1) p * tn (16 * (un - 1) - 0) ∧ rV (uL Jr1 108 (16 * cN) 1) p ≤ tn 0 := fun p hp => by
    rw [rv0 p (by omega), Nat.sub_zero, tn_0]
    by_cases g : p = cN
    · rw [if_pos g, g, s9, Int.one_mul]
      exact ⟨rfl, Int.le_refl _⟩
    · rw [if_neg g, s10 p (by omega) g, Int.zero_mul]
      exact ⟨rfl, by decide⟩
  have em1 : (ur - 1).toInt = ur.toInt - 1 := by rw [i_sub (by rw [e1]; omega) (by rw [e1]; omega), e1]
  have both : ∃ (n : Nat) (Ir' : Nat → Nat → Int32) (J' Jr' : Nat → Nat → Int64), xEv L xs (d + 4) 69 16 [.ref 53, .ref 37, .int (Ir 100 a.toNatClampNeg), .int c, .int t, .int ur, .int (ur - 1), xmk, xmk, xmk] [] (124, I1, J1, R) none (124, I1, J', R) ∧ xEv L xs (d' + 3) 189 24 [.ref 86, .int a, .int c, .int t, .int h, .int (ur - 1), xmk, xmk, xmk, xmk, xmk, xmk] [] (124, uI Ir 86 40 0, uL Jr1 108 (16 * cN) 1, Rr) none (124, Ir', Jr', Rr) ∧ n ≤ 16 * (un - 1) ∧ n ≤ 64 ∧ (Ir' 86 40).toInt = n ∧ cG J' un ∧ rG Jr' ∧ (∀ p, p < np → cV J' un p = rV Jr' p * tn (16 * (un - 1) - n) ∧ rV Jr' p ≤ tn n) := by
    by_cases hlt : ur.toInt ≤ t.toInt
    · exact ⟨0, _, _, _, qb_e_23 hG (by omega), qqs_e hGr (by omega), Nat.zero_le _, by omega, by rw [uI_s]; decide, s8, gr, start⟩
    · obtain ⟨n, hn⟩ := Int.eq_ofNat_of_zero_le (show 0 ≤ ur.toInt - t.toInt by omega)
      obtain ⟨Ir', J', Jr', v1, v2, v3, v4, v5, v6, v7, v8⟩ := qlb_23 (L := L) (xs := xs) (d := d + 1) (d' := d' + 2) hG hGr hV0 s2 hch (to := c) (tm := t) (bh := ur) (nw := a) (hr := h) s4 s5 s6 etN ha.1 ha.2 n 0 (ur - 1) xmk xmk xmk xmk xmk xmk xmk xmk xmk (uI Ir 86 40 0) J1 (uL Jr1 108 (16 * cN) 1) (by omega) (by omega) (by omega) (by omega) (fun c k hc => uI_n _ _ hc) (by rw [uI_s]; decide) s8 gr start
      rw [Nat.zero_add] at v4 v8
      exact ⟨n, Ir', J', Jr', v1, v2, by omega, by omega, v4, v6, v7, v8⟩
  obtain ⟨n, Ir', J', Jr', v1, v2, v3, v4, v5, v6, v7, v8⟩ := both
  have runC := qb_s_23 hG s1 v1
  have runR : xEv L xs (d' + 3) 189 0 [.ref 86, .int a, .int c, .int t, .int h, xmk, xmk, xmk, xmk, xmk, xmk, xmk] [] (124, Ir, Jr, Rr) none (124, Ir', Jr', Rr) := qqs_s hGr z1 k1 k2 (by rw [k3]; exact xur) (by rw [k3]; exact v2)
  obtain ⟨w1', w2'⟩ := v8 bN (by omega)
  have eE : tn (16 * (un - 1)) = tn n * tn (16 * (un - 1) - n) := by rw [← tn_add]; congr 1; omega
  have tp := tn_pos (16 * (un - 1) - n)
  have cle : cV J' un bN ≤ tn (16 * (un - 1)) := by rw [w1', eE]; exact Int.mul_le_mul_of_nonneg_right w2' (Int.le_of_lt tp)
  by_cases w00 : w.toInt = 0
  · obtain ⟨r1, o1, o2⟩ := qi_run (L := L) (xs := xs) (d := d + 4) (I := I1) hG s5 s6 ebN (by omega) v6 cle
    obtain ⟨r2, Jr2, o3, o4, o5⟩ := qqi_run (L := L) (xs := xs) (d := d' + 2) hGr ebN (by omega) v5 (by omega) v7 w2'
    have er : r2 = r1 := Int32.toInt_inj.mp (by
      rw [o2, o5, w1', eE, Int.mul_assoc, Int.mul_comm (tn (16 * (un - 1) - n)) 1000000, ← Int.mul_assoc, Int.mul_ediv_mul_of_pos_left _ _ tp])
    subst er
    exact ⟨r2, _, _, _, _, qv_0_23 hG h8 xa xb xc xt (by omega) (by omega) (by omega) (by omega) xbar' xu runC w00 o1, qt_0 hGr y1 y2 y3 runR w00 o3⟩
  · obtain ⟨r1, n1, o1, o2, o3⟩ := qg_run (L := L) (xs := xs) (d := d + 3) (I := I1) hG s4 s5 s6 ebN (by omega) v6
    obtain ⟨r2, n2, Jr2, o4, o5, o6, o7⟩ := qqf_run (L := L) (xs := xs) (d := d' + 2) hGr ebN (by omega) v5 (by omega) v7
    have hh : cV J' un bN * tn n = rV Jr' bN * tn (16 * (un - 1)) := by
      rw [w1', eE, Int.mul_assoc, Int.mul_comm (tn (16 * (un - 1) - n))]
    have en := fgM_u (fgM_x hh o3) o7
    have er : r2 = r1 := Int32.toInt_inj.mp (by rw [o2, o6, en])
    subst er
    exact ⟨r2, _, _, _, _, qv_1_23 hG h8 xa xb xc xt (by omega) (by omega) (by omega) (by omega) xbar' xu runC w00 o1, qt_1 hGr y1 y2 y3 runR w00 o4⟩
