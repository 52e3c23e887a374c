set_option maxRecDepth 20000 in
theorem uv_m {L : Nat} {xs : Nat → Int32} {d : Nat} {I : Nat → Nat → Int32} {J : Nat → Nat → Int64} {R : Nat → Nat → Nat} {I1 : Nat → Nat → Int32} {I2 : Nat → Nat → Int32} {I3 : Nat → Nat → Int32} {n p q w : Int32} (hG : aGd R) (c1 : xEv L xs d 33 0 [.ref 67, .int n, .int q] [] (124, I, J, R) none (124, I1, J, R)) (c2 : xEv L xs d 33 0 [.ref 70, .int n, .int p] [] (124, I1, J, R) none (124, I2, J, R)) (c3 : xEv L xs d 39 0 [.ref 68, .int n] [] (124, I2, J, R) (some (.int w)) (124, I2, J, R)) (c4 : xEv L xs d 33 0 [.ref 68, .int n, .int (w + 1)] [] (124, I2, J, R) none (124, I3, J, R)) : xEv L xs (d + 1) 129 0 [.ref 66, .int n, .int p, .int q] [] (124, I, J, R) none (124, I3, J, R) := by
  refine ev_go 1 (pc1 := 1) (lv1 := [.ref 66, .int n, .int p, .int q]) (st1 := [.ref 66]) (h1 := (124, I, J, R)) rfl ?_
  refine ev_gf (c := 66) (t := 67) (X := R 66 0) rfl rfl (fun _ => rfl) rfl (hG 66 0 67 rfl rfl) ?_
  refine ev_go 2 (pc1 := 6) (lv1 := [.ref 66, .int n, .int p, .int q]) (st1 := [.int q, .int n, .ref 67]) (h1 := (124, I, J, R)) rfl ?_
  refine ev_call (v1 := none) (h1 := (124, I1, J, R)) rfl rfl c1 ?_
  refine ev_go 1 (pc1 := 10) (lv1 := [.ref 66, .int n, .int p, .int q]) (st1 := [.ref 66]) (h1 := (124, I1, J, R)) rfl ?_
  refine ev_gf (c := 66) (t := 70) (X := R 66 3) rfl rfl (fun _ => rfl) rfl (hG 66 3 70 rfl rfl) ?_
  refine ev_go 2 (pc1 := 15) (lv1 := [.ref 66, .int n, .int p, .int q]) (st1 := [.int p, .int n, .ref 70]) (h1 := (124, I1, J, R)) rfl ?_
  refine ev_call (v1 := none) (h1 := (124, I2, J, R)) rfl rfl c2 ?_
  refine ev_go 1 (pc1 := 19) (lv1 := [.ref 66, .int n, .int p, .int q]) (st1 := [.ref 66]) (h1 := (124, I2, J, R)) rfl ?_
  refine ev_gf (c := 66) (t := 68) (X := R 66 1) rfl rfl (fun _ => rfl) rfl (hG 66 1 68 rfl rfl) ?_
  refine ev_go 2 (pc1 := 24) (lv1 := [.ref 66, .int n, .int p, .int q]) (st1 := [.ref 66, .int n, .ref 68]) (h1 := (124, I2, J, R)) rfl ?_
  refine ev_gf (c := 66) (t := 68) (X := R 66 1) rfl rfl (fun _ => rfl) rfl (hG 66 1 68 rfl rfl) ?_
  refine ev_go 1 (pc1 := 28) (lv1 := [.ref 66, .int n, .int p, .int q]) (st1 := [.int n, .ref 68, .int n, .ref 68]) (h1 := (124, I2, J, R)) rfl ?_
  refine ev_call (v1 := (some (.int w))) (h1 := (124, I2, J, R)) rfl rfl c3 ?_
  refine ev_go 2 (pc1 := 33) (lv1 := [.ref 66, .int n, .int p, .int q]) (st1 := [.int (w + 1), .int n, .ref 68]) (h1 := (124, I2, J, R)) rfl ?_
  refine ev_call (v1 := none) (h1 := (124, I3, J, R)) rfl rfl c4 ?_
  exact ev_ret rfl rfl
set_option maxRecDepth 20000 in
theorem utl_s_3 {L : Nat} {xs : Nat → Int32} {d : Nat} {I : Nat → Nat → Int32} {J : Nat → Nat → Int64} {R : Nat → Nat → Nat} {had p q : Int32} (hG : aGd R)  {v : Option Value} {h' : xH} (hk : xEv L xs d 126 3 [.ref 63, .ref 3, .int had, .int p, .int q, .int 0] [] (124, I, J, R) v h') : xEv L xs d 126 0 [.ref 63, .ref 3, .int had, .int p, .int q, xmk] [] (124, I, J, R) v h' := by
  refine ev_go 2 (pc1 := 3) (lv1 := [.ref 63, .ref 3, .int had, .int p, .int q, .int 0]) (st1 := []) (h1 := (124, I, J, R)) rfl ?_
  exact hk
set_option maxRecDepth 20000 in
theorem utl_e_3 {L : Nat} {xs : Nat → Int32} {d : Nat} {I : Nat → Nat → Int32} {J : Nat → Nat → Int64} {R : Nat → Nat → Nat} {had p q i : Int32} (hG : aGd R) (b1 : i.toInt ≥ (I 3 16).toInt) : xEv L xs d 126 3 [.ref 63, .ref 3, .int had, .int p, .int q, .int i] [] (124, I, J, R) none (124, I, J, R) := by
  refine ev_go 3 (pc1 := 9) (lv1 := [.ref 63, .ref 3, .int had, .int p, .int q, .int i]) (st1 := [.int (I 3 16), .int i]) (h1 := (124, I, J, R)) rfl ?_
  refine ev_br (b1 := true) rfl rfl (xcd_ge (x := i) (y := (I 3 16)) (by first | exact b1 | omega)) ?_
  exact ev_ret rfl rfl
set_option maxRecDepth 20000 in
theorem utl_b_3 {L : Nat} {xs : Nat → Int32} {d : Nat} {I : Nat → Nat → Int32} {J : Nat → Nat → Int64} {R : Nat → Nat → Nat} {had p q i : Int32} (hG : aGd R) (b1 : i.toInt < (I 3 16).toInt) (b2 : ((had >>> (i &&& 31)) &&& 1).toInt ≠ 1) {v : Option Value} {h' : xH} (hk : xEv L xs d 126 3 [.ref 63, .ref 3, .int had, .int p, .int q, .int (i + 1)] [] (124, I, J, R) v h') : xEv L xs d 126 3 [.ref 63, .ref 3, .int had, .int p, .int q, .int i] [] (124, I, J, R) v h' := by
  refine ev_go 3 (pc1 := 9) (lv1 := [.ref 63, .ref 3, .int had, .int p, .int q, .int i]) (st1 := [.int (I 3 16), .int i]) (h1 := (124, I, J, R)) rfl ?_
  refine ev_br (b1 := false) rfl rfl (xcd_nge (x := i) (y := (I 3 16)) (by first | exact b1 | omega)) ?_
  refine ev_go 2 (pc1 := 15) (lv1 := [.ref 63, .ref 3, .int had, .int p, .int q, .int i]) (st1 := [.int i, .int had]) (h1 := (124, I, J, R)) rfl ?_
  refine ev_go 4 (pc1 := 19) (lv1 := [.ref 63, .ref 3, .int had, .int p, .int q, .int i]) (st1 := [.int 1, .int ((had >>> (i &&& 31)) &&& 1)]) (h1 := (124, I, J, R)) rfl ?_
  refine ev_br (b1 := true) rfl rfl (xcd_ne (x := ((had >>> (i &&& 31)) &&& 1)) (y := 1) (by rw [show ((1 : Int32)).toInt = 1 from by decide]; first | exact b2 | omega)) ?_
  refine ev_go 2 (pc1 := 3) (lv1 := [.ref 63, .ref 3, .int had, .int p, .int q, .int (i + 1)]) (st1 := []) (h1 := (124, I, J, R)) rfl ?_
  exact hk
set_option maxRecDepth 20000 in
theorem utl_m_3 {L : Nat} {xs : Nat → Int32} {d : Nat} {I : Nat → Nat → Int32} {J : Nat → Nat → Int64} {R : Nat → Nat → Nat} {had p q i m : Int32} (hG : aGd R) (b1 : i.toInt < (I 3 16).toInt) (b2 : ((had >>> (i &&& 31)) &&& 1).toInt = 1) (c1 : xEv L xs d 127 0 [.ref 63, .ref 3, .int i, .int p, .int q] [] (124, I, J, R) (some (.int m)) (124, I, J, R)) (b3 : m.toInt = 0) {v : Option Value} {h' : xH} (hk : xEv L xs (d + 1) 126 3 [.ref 63, .ref 3, .int had, .int p, .int q, .int (i + 1)] [] (124, I, J, R) v h') : xEv L xs (d + 1) 126 3 [.ref 63, .ref 3, .int had, .int p, .int q, .int i] [] (124, I, J, R) v h' := by
  refine ev_go 3 (pc1 := 9) (lv1 := [.ref 63, .ref 3, .int had, .int p, .int q, .int i]) (st1 := [.int (I 3 16), .int i]) (h1 := (124, I, J, R)) rfl ?_
  refine ev_br (b1 := false) rfl rfl (xcd_nge (x := i) (y := (I 3 16)) (by first | exact b1 | omega)) ?_
  refine ev_go 2 (pc1 := 15) (lv1 := [.ref 63, .ref 3, .int had, .int p, .int q, .int i]) (st1 := [.int i, .int had]) (h1 := (124, I, J, R)) rfl ?_
  refine ev_go 4 (pc1 := 19) (lv1 := [.ref 63, .ref 3, .int had, .int p, .int q, .int i]) (st1 := [.int 1, .int ((had >>> (i &&& 31)) &&& 1)]) (h1 := (124, I, J, R)) rfl ?_
  refine ev_br (b1 := false) rfl rfl (xcd_nne (x := ((had >>> (i &&& 31)) &&& 1)) (y := 1) (by rw [show ((1 : Int32)).toInt = 1 from by decide]; first | exact b2 | omega)) ?_
  refine ev_go 5 (pc1 := 29) (lv1 := [.ref 63, .ref 3, .int had, .int p, .int q, .int i]) (st1 := [.int q, .int p, .int i, .ref 3, .ref 63]) (h1 := (124, I, J, R)) rfl ?_
  refine ev_call (v1 := (some (.int m))) (h1 := (124, I, J, R)) rfl rfl c1 ?_
  refine ev_br (b1 := true) rfl rfl (xcd_eq (x := m) (y := 0) (by rw [show ((0 : Int32)).toInt = 0 from by decide]; first | exact b3 | omega)) ?_
  refine ev_go 2 (pc1 := 3) (lv1 := [.ref 63, .ref 3, .int had, .int p, .int q, .int (i + 1)]) (st1 := []) (h1 := (124, I, J, R)) rfl ?_
  exact hk
set_option maxRecDepth 20000 in
theorem utl_w_3 {L : Nat} {xs : Nat → Int32} {d : Nat} {I : Nat → Nat → Int32} {J : Nat → Nat → Int64} {R : Nat → Nat → Nat} {I1 : Nat → Nat → Int32} {J1 : Nat → Nat → Int64} {had p q i m w : Int32} (hG : aGd R) (b1 : i.toInt < (I 3 16).toInt) (b2 : ((had >>> (i &&& 31)) &&& 1).toInt = 1) (c1 : xEv L xs d 127 0 [.ref 63, .ref 3, .int i, .int p, .int q] [] (124, I, J, R) (some (.int m)) (124, I, J, R)) (b3 : m.toInt ≠ 0) (c2 : xEv L xs d 128 0 [.ref 63, .ref 3, .int i, .int p, .int q, xmk, xmk, xmk, xmk, xmk, xmk] [] (124, I, J, R) (some (.int w)) (124, I1, J1, R)) (b4 : w.toInt = 0) {v : Option Value} {h' : xH} (hk : xEv L xs (d + 1) 126 3 [.ref 63, .ref 3, .int had, .int p, .int q, .int (i + 1)] [] (124, I1, J1, R) v h') : xEv L xs (d + 1) 126 3 [.ref 63, .ref 3, .int had, .int p, .int q, .int i] [] (124, I, J, R) v h' := by
  refine ev_go 3 (pc1 := 9) (lv1 := [.ref 63, .ref 3, .int had, .int p, .int q, .int i]) (st1 := [.int (I 3 16), .int i]) (h1 := (124, I, J, R)) rfl ?_
  refine ev_br (b1 := false) rfl rfl (xcd_nge (x := i) (y := (I 3 16)) (by first | exact b1 | omega)) ?_
  refine ev_go 2 (pc1 := 15) (lv1 := [.ref 63, .ref 3, .int had, .int p, .int q, .int i]) (st1 := [.int i, .int had]) (h1 := (124, I, J, R)) rfl ?_
  refine ev_go 4 (pc1 := 19) (lv1 := [.ref 63, .ref 3, .int had, .int p, .int q, .int i]) (st1 := [.int 1, .int ((had >>> (i &&& 31)) &&& 1)]) (h1 := (124, I, J, R)) rfl ?_
  refine ev_br (b1 := false) rfl rfl (xcd_nne (x := ((had >>> (i &&& 31)) &&& 1)) (y := 1) (by rw [show ((1 : Int32)).toInt = 1 from by decide]; first | exact b2 | omega)) ?_
  refine ev_go 5 (pc1 := 29) (lv1 := [.ref 63, .ref 3, .int had, .int p, .int q, .int i]) (st1 := [.int q, .int p, .int i, .ref 3, .ref 63]) (h1 := (124, I, J, R)) rfl ?_
  refine ev_call (v1 := (some (.int m))) (h1 := (124, I, J, R)) rfl rfl c1 ?_
  refine ev_br (b1 := false) rfl rfl (xcd_neq (x := m) (y := 0) (by rw [show ((0 : Int32)).toInt = 0 from by decide]; first | exact b3 | omega)) ?_
  refine ev_go 5 (pc1 := 42) (lv1 := [.ref 63, .ref 3, .int had, .int p, .int q, .int i]) (st1 := [.int q, .int p, .int i, .ref 3, .ref 63]) (h1 := (124, I, J, R)) rfl ?_
  refine ev_call (v1 := (some (.int w))) (h1 := (124, I1, J1, R)) rfl rfl c2 ?_
  refine ev_br (b1 := true) rfl rfl (xcd_eq (x := w) (y := 0) (by rw [show ((0 : Int32)).toInt = 0 from by decide]; first | exact b4 | omega)) ?_
  refine ev_go 2 (pc1 := 3) (lv1 := [.ref 63, .ref 3, .int had, .int p, .int q, .int (i + 1)]) (st1 := []) (h1 := (124, I1, J1, R)) rfl ?_
  exact hk
set_option maxRecDepth 20000 in
theorem utl_t_3 {L : Nat} {xs : Nat → Int32} {d : Nat} {I : Nat → Nat → Int32} {J : Nat → Nat → Int64} {R : Nat → Nat → Nat} {I1 : Nat → Nat → Int32} {J1 : Nat → Nat → Int64} {I2 : Nat → Nat → Int32} {had p q i m w f : Int32} (hG : aGd R) (b1 : i.toInt < (I 3 16).toInt) (b2 : ((had >>> (i &&& 31)) &&& 1).toInt = 1) (c1 : xEv L xs d 127 0 [.ref 63, .ref 3, .int i, .int p, .int q] [] (124, I, J, R) (some (.int m)) (124, I, J, R)) (b3 : m.toInt ≠ 0) (c2 : xEv L xs d 128 0 [.ref 63, .ref 3, .int i, .int p, .int q, xmk, xmk, xmk, xmk, xmk, xmk] [] (124, I, J, R) (some (.int w)) (124, I1, J1, R)) (b4 : w.toInt ≠ 0) (c3 : xEv L xs d 129 0 [.ref 66, .int i, .int p, .int q] [] (124, I1, J1, R) none (124, I2, J1, R)) (c4 : xEv L xs d 39 0 [.ref 12, .int i] [] (124, I2, J1, R) (some (.int f)) (124, I2, J1, R)) (b5 : q.toInt ≠ f.toInt) {v : Option Value} {h' : xH} (hk : xEv L xs (d + 1) 126 3 [.ref 63, .ref 3, .int had, .int p, .int q, .int (i + 1)] [] (124, I2, J1, R) v h') : xEv L xs (d + 1) 126 3 [.ref 63, .ref 3, .int had, .int p, .int q, .int i] [] (124, I, J, R) v h' := by
  refine ev_go 3 (pc1 := 9) (lv1 := [.ref 63, .ref 3, .int had, .int p, .int q, .int i]) (st1 := [.int (I 3 16), .int i]) (h1 := (124, I, J, R)) rfl ?_
  refine ev_br (b1 := false) rfl rfl (xcd_nge (x := i) (y := (I 3 16)) (by first | exact b1 | omega)) ?_
  refine ev_go 2 (pc1 := 15) (lv1 := [.ref 63, .ref 3, .int had, .int p, .int q, .int i]) (st1 := [.int i, .int had]) (h1 := (124, I, J, R)) rfl ?_
  refine ev_go 4 (pc1 := 19) (lv1 := [.ref 63, .ref 3, .int had, .int p, .int q, .int i]) (st1 := [.int 1, .int ((had >>> (i &&& 31)) &&& 1)]) (h1 := (124, I, J, R)) rfl ?_
  refine ev_br (b1 := false) rfl rfl (xcd_nne (x := ((had >>> (i &&& 31)) &&& 1)) (y := 1) (by rw [show ((1 : Int32)).toInt = 1 from by decide]; first | exact b2 | omega)) ?_
  refine ev_go 5 (pc1 := 29) (lv1 := [.ref 63, .ref 3, .int had, .int p, .int q, .int i]) (st1 := [.int q, .int p, .int i, .ref 3, .ref 63]) (h1 := (124, I, J, R)) rfl ?_
  refine ev_call (v1 := (some (.int m))) (h1 := (124, I, J, R)) rfl rfl c1 ?_
  refine ev_br (b1 := false) rfl rfl (xcd_neq (x := m) (y := 0) (by rw [show ((0 : Int32)).toInt = 0 from by decide]; first | exact b3 | omega)) ?_
  refine ev_go 5 (pc1 := 42) (lv1 := [.ref 63, .ref 3, .int had, .int p, .int q, .int i]) (st1 := [.int q, .int p, .int i, .ref 3, .ref 63]) (h1 := (124, I, J, R)) rfl ?_
  refine ev_call (v1 := (some (.int w))) (h1 := (124, I1, J1, R)) rfl rfl c2 ?_
  refine ev_br (b1 := false) rfl rfl (xcd_neq (x := w) (y := 0) (by rw [show ((0 : Int32)).toInt = 0 from by decide]; first | exact b4 | omega)) ?_
  refine ev_go 1 (pc1 := 49) (lv1 := [.ref 63, .ref 3, .int had, .int p, .int q, .int i]) (st1 := [.ref 63]) (h1 := (124, I1, J1, R)) rfl ?_
  refine ev_gf (c := 63) (t := 66) (X := R 63 3) rfl rfl (fun _ => rfl) rfl (hG 63 3 66 rfl rfl) ?_
  refine ev_go 3 (pc1 := 57) (lv1 := [.ref 63, .ref 3, .int had, .int p, .int q, .int i]) (st1 := [.int q, .int p, .int i, .ref 66]) (h1 := (124, I1, J1, R)) rfl ?_
  refine ev_call (v1 := none) (h1 := (124, I2, J1, R)) rfl rfl c3 ?_
  refine ev_go 2 (pc1 := 63) (lv1 := [.ref 63, .ref 3, .int had, .int p, .int q, .int i]) (st1 := [.ref 3, .int q]) (h1 := (124, I2, J1, R)) rfl ?_
  refine ev_gf (c := 3) (t := 12) (X := R 3 8) rfl rfl (fun _ => rfl) rfl (hG 3 8 12 rfl rfl) ?_
  refine ev_go 1 (pc1 := 68) (lv1 := [.ref 63, .ref 3, .int had, .int p, .int q, .int i]) (st1 := [.int i, .ref 12, .int q]) (h1 := (124, I2, J1, R)) rfl ?_
  refine ev_call (v1 := (some (.int f))) (h1 := (124, I2, J1, R)) rfl rfl c4 ?_
  refine ev_br (b1 := true) rfl rfl (xcd_ne (x := q) (y := f) (by first | exact b5 | omega)) ?_
  refine ev_go 2 (pc1 := 3) (lv1 := [.ref 63, .ref 3, .int had, .int p, .int q, .int (i + 1)]) (st1 := []) (h1 := (124, I2, J1, R)) rfl ?_
  exact hk
set_option maxRecDepth 20000 in
theorem utl_c_3 {L : Nat} {xs : Nat → Int32} {d : Nat} {I : Nat → Nat → Int32} {J : Nat → Nat → Int64} {R : Nat → Nat → Nat} {I1 : Nat → Nat → Int32} {J1 : Nat → Nat → Int64} {I2 : Nat → Nat → Int32} {had p q i m w f g : Int32} (hG : aGd R) (b1 : i.toInt < (I 3 16).toInt) (b2 : ((had >>> (i &&& 31)) &&& 1).toInt = 1) (c1 : xEv L xs d 127 0 [.ref 63, .ref 3, .int i, .int p, .int q] [] (124, I, J, R) (some (.int m)) (124, I, J, R)) (b3 : m.toInt ≠ 0) (c2 : xEv L xs d 128 0 [.ref 63, .ref 3, .int i, .int p, .int q, xmk, xmk, xmk, xmk, xmk, xmk] [] (124, I, J, R) (some (.int w)) (124, I1, J1, R)) (b4 : w.toInt ≠ 0) (c3 : xEv L xs d 129 0 [.ref 66, .int i, .int p, .int q] [] (124, I1, J1, R) none (124, I2, J1, R)) (c4 : xEv L xs d 39 0 [.ref 12, .int i] [] (124, I2, J1, R) (some (.int f)) (124, I2, J1, R)) (b5 : q.toInt = f.toInt) (c5 : xEv L xs d 39 0 [.ref 69, .int i] [] (124, I2, J1, R) (some (.int g)) (124, I2, J1, R)) (b6 : g.toInt ≠ -1) {v : Option Value} {h' : xH} (hk : xEv L xs (d + 1) 126 3 [.ref 63, .ref 3, .int had, .int p, .int q, .int (i + 1)] [] (124, I2, J1, R) v h') : xEv L xs (d + 1) 126 3 [.ref 63, .ref 3, .int had, .int p, .int q, .int i] [] (124, I, J, R) v h' := by
  refine ev_go 3 (pc1 := 9) (lv1 := [.ref 63, .ref 3, .int had, .int p, .int q, .int i]) (st1 := [.int (I 3 16), .int i]) (h1 := (124, I, J, R)) rfl ?_
  refine ev_br (b1 := false) rfl rfl (xcd_nge (x := i) (y := (I 3 16)) (by first | exact b1 | omega)) ?_
  refine ev_go 2 (pc1 := 15) (lv1 := [.ref 63, .ref 3, .int had, .int p, .int q, .int i]) (st1 := [.int i, .int had]) (h1 := (124, I, J, R)) rfl ?_
  refine ev_go 4 (pc1 := 19) (lv1 := [.ref 63, .ref 3, .int had, .int p, .int q, .int i]) (st1 := [.int 1, .int ((had >>> (i &&& 31)) &&& 1)]) (h1 := (124, I, J, R)) rfl ?_
  refine ev_br (b1 := false) rfl rfl (xcd_nne (x := ((had >>> (i &&& 31)) &&& 1)) (y := 1) (by rw [show ((1 : Int32)).toInt = 1 from by decide]; first | exact b2 | omega)) ?_
  refine ev_go 5 (pc1 := 29) (lv1 := [.ref 63, .ref 3, .int had, .int p, .int q, .int i]) (st1 := [.int q, .int p, .int i, .ref 3, .ref 63]) (h1 := (124, I, J, R)) rfl ?_
  refine ev_call (v1 := (some (.int m))) (h1 := (124, I, J, R)) rfl rfl c1 ?_
  refine ev_br (b1 := false) rfl rfl (xcd_neq (x := m) (y := 0) (by rw [show ((0 : Int32)).toInt = 0 from by decide]; first | exact b3 | omega)) ?_
  refine ev_go 5 (pc1 := 42) (lv1 := [.ref 63, .ref 3, .int had, .int p, .int q, .int i]) (st1 := [.int q, .int p, .int i, .ref 3, .ref 63]) (h1 := (124, I, J, R)) rfl ?_
  refine ev_call (v1 := (some (.int w))) (h1 := (124, I1, J1, R)) rfl rfl c2 ?_
  refine ev_br (b1 := false) rfl rfl (xcd_neq (x := w) (y := 0) (by rw [show ((0 : Int32)).toInt = 0 from by decide]; first | exact b4 | omega)) ?_
  refine ev_go 1 (pc1 := 49) (lv1 := [.ref 63, .ref 3, .int had, .int p, .int q, .int i]) (st1 := [.ref 63]) (h1 := (124, I1, J1, R)) rfl ?_
  refine ev_gf (c := 63) (t := 66) (X := R 63 3) rfl rfl (fun _ => rfl) rfl (hG 63 3 66 rfl rfl) ?_
  refine ev_go 3 (pc1 := 57) (lv1 := [.ref 63, .ref 3, .int had, .int p, .int q, .int i]) (st1 := [.int q, .int p, .int i, .ref 66]) (h1 := (124, I1, J1, R)) rfl ?_
  refine ev_call (v1 := none) (h1 := (124, I2, J1, R)) rfl rfl c3 ?_
  refine ev_go 2 (pc1 := 63) (lv1 := [.ref 63, .ref 3, .int had, .int p, .int q, .int i]) (st1 := [.ref 3, .int q]) (h1 := (124, I2, J1, R)) rfl ?_
  refine ev_gf (c := 3) (t := 12) (X := R 3 8) rfl rfl (fun _ => rfl) rfl (hG 3 8 12 rfl rfl) ?_
  refine ev_go 1 (pc1 := 68) (lv1 := [.ref 63, .ref 3, .int had, .int p, .int q, .int i]) (st1 := [.int i, .ref 12, .int q]) (h1 := (124, I2, J1, R)) rfl ?_
  refine ev_call (v1 := (some (.int f))) (h1 := (124, I2, J1, R)) rfl rfl c4 ?_
  refine ev_br (b1 := false) rfl rfl (xcd_nne (x := q) (y := f) (by first | exact b5 | omega)) ?_
  refine ev_go 1 (pc1 := 75) (lv1 := [.ref 63, .ref 3, .int had, .int p, .int q, .int i]) (st1 := [.ref 63]) (h1 := (124, I2, J1, R)) rfl ?_
  refine ev_gf (c := 63) (t := 66) (X := R 63 3) rfl rfl (fun _ => rfl) rfl (hG 63 3 66 rfl rfl) ?_
  refine ev_gf (c := 66) (t := 69) (X := R 66 2) rfl rfl (fun _ => rfl) rfl (hG 66 2 69 rfl rfl) ?_
  refine ev_go 1 (pc1 := 83) (lv1 := [.ref 63, .ref 3, .int had, .int p, .int q, .int i]) (st1 := [.int i, .ref 69]) (h1 := (124, I2, J1, R)) rfl ?_
  refine ev_call (v1 := (some (.int g))) (h1 := (124, I2, J1, R)) rfl rfl c5 ?_
  refine ev_go 1 (pc1 := 87) (lv1 := [.ref 63, .ref 3, .int had, .int p, .int q, .int i]) (st1 := [.int (-1), .int g]) (h1 := (124, I2, J1, R)) rfl ?_
  refine ev_br (b1 := true) rfl rfl (xcd_ne (x := g) (y := (-1)) (by rw [show ((-1 : Int32)).toInt = -1 from by decide]; first | exact b6 | omega)) ?_
  refine ev_go 2 (pc1 := 3) (lv1 := [.ref 63, .ref 3, .int had, .int p, .int q, .int (i + 1)]) (st1 := []) (h1 := (124, I2, J1, R)) rfl ?_
  exact hk
set_option maxRecDepth 20000 in
theorem utl_p_3 {L : Nat} {xs : Nat → Int32} {d : Nat} {I : Nat → Nat → Int32} {J : Nat → Nat → Int64} {R : Nat → Nat → Nat} {I1 : Nat → Nat → Int32} {J1 : Nat → Nat → Int64} {I2 : Nat → Nat → Int32} {I3 : Nat → Nat → Int32} {had p q i m w f g : Int32} (hG : aGd R) (b1 : i.toInt < (I 3 16).toInt) (b2 : ((had >>> (i &&& 31)) &&& 1).toInt = 1) (c1 : xEv L xs d 127 0 [.ref 63, .ref 3, .int i, .int p, .int q] [] (124, I, J, R) (some (.int m)) (124, I, J, R)) (b3 : m.toInt ≠ 0) (c2 : xEv L xs d 128 0 [.ref 63, .ref 3, .int i, .int p, .int q, xmk, xmk, xmk, xmk, xmk, xmk] [] (124, I, J, R) (some (.int w)) (124, I1, J1, R)) (b4 : w.toInt ≠ 0) (c3 : xEv L xs d 129 0 [.ref 66, .int i, .int p, .int q] [] (124, I1, J1, R) none (124, I2, J1, R)) (c4 : xEv L xs d 39 0 [.ref 12, .int i] [] (124, I2, J1, R) (some (.int f)) (124, I2, J1, R)) (b5 : q.toInt = f.toInt) (c5 : xEv L xs d 39 0 [.ref 69, .int i] [] (124, I2, J1, R) (some (.int g)) (124, I2, J1, R)) (b6 : g.toInt = -1) (c6 : xEv L xs d 33 0 [.ref 69, .int i, .int (I2 66 5)] [] (124, I2, J1, R) none (124, I3, J1, R)) {v : Option Value} {h' : xH} (hk : xEv L xs (d + 1) 126 3 [.ref 63, .ref 3, .int had, .int p, .int q, .int (i + 1)] [] (124, I3, J1, R) v h') : xEv L xs (d + 1) 126 3 [.ref 63, .ref 3, .int had, .int p, .int q, .int i] [] (124, I, J, R) v h' := by
  refine ev_go 3 (pc1 := 9) (lv1 := [.ref 63, .ref 3, .int had, .int p, .int q, .int i]) (st1 := [.int (I 3 16), .int i]) (h1 := (124, I, J, R)) rfl ?_
  refine ev_br (b1 := false) rfl rfl (xcd_nge (x := i) (y := (I 3 16)) (by first | exact b1 | omega)) ?_
  refine ev_go 2 (pc1 := 15) (lv1 := [.ref 63, .ref 3, .int had, .int p, .int q, .int i]) (st1 := [.int i, .int had]) (h1 := (124, I, J, R)) rfl ?_
  refine ev_go 4 (pc1 := 19) (lv1 := [.ref 63, .ref 3, .int had, .int p, .int q, .int i]) (st1 := [.int 1, .int ((had >>> (i &&& 31)) &&& 1)]) (h1 := (124, I, J, R)) rfl ?_
  refine ev_br (b1 := false) rfl rfl (xcd_nne (x := ((had >>> (i &&& 31)) &&& 1)) (y := 1) (by rw [show ((1 : Int32)).toInt = 1 from by decide]; first | exact b2 | omega)) ?_
  refine ev_go 5 (pc1 := 29) (lv1 := [.ref 63, .ref 3, .int had, .int p, .int q, .int i]) (st1 := [.int q, .int p, .int i, .ref 3, .ref 63]) (h1 := (124, I, J, R)) rfl ?_
  refine ev_call (v1 := (some (.int m))) (h1 := (124, I, J, R)) rfl rfl c1 ?_
  refine ev_br (b1 := false) rfl rfl (xcd_neq (x := m) (y := 0) (by rw [show ((0 : Int32)).toInt = 0 from by decide]; first | exact b3 | omega)) ?_
  refine ev_go 5 (pc1 := 42) (lv1 := [.ref 63, .ref 3, .int had, .int p, .int q, .int i]) (st1 := [.int q, .int p, .int i, .ref 3, .ref 63]) (h1 := (124, I, J, R)) rfl ?_
  refine ev_call (v1 := (some (.int w))) (h1 := (124, I1, J1, R)) rfl rfl c2 ?_
  refine ev_br (b1 := false) rfl rfl (xcd_neq (x := w) (y := 0) (by rw [show ((0 : Int32)).toInt = 0 from by decide]; first | exact b4 | omega)) ?_
  refine ev_go 1 (pc1 := 49) (lv1 := [.ref 63, .ref 3, .int had, .int p, .int q, .int i]) (st1 := [.ref 63]) (h1 := (124, I1, J1, R)) rfl ?_
  refine ev_gf (c := 63) (t := 66) (X := R 63 3) rfl rfl (fun _ => rfl) rfl (hG 63 3 66 rfl rfl) ?_
  refine ev_go 3 (pc1 := 57) (lv1 := [.ref 63, .ref 3, .int had, .int p, .int q, .int i]) (st1 := [.int q, .int p, .int i, .ref 66]) (h1 := (124, I1, J1, R)) rfl ?_
  refine ev_call (v1 := none) (h1 := (124, I2, J1, R)) rfl rfl c3 ?_
  refine ev_go 2 (pc1 := 63) (lv1 := [.ref 63, .ref 3, .int had, .int p, .int q, .int i]) (st1 := [.ref 3, .int q]) (h1 := (124, I2, J1, R)) rfl ?_
  refine ev_gf (c := 3) (t := 12) (X := R 3 8) rfl rfl (fun _ => rfl) rfl (hG 3 8 12 rfl rfl) ?_
  refine ev_go 1 (pc1 := 68) (lv1 := [.ref 63, .ref 3, .int had, .int p, .int q, .int i]) (st1 := [.int i, .ref 12, .int q]) (h1 := (124, I2, J1, R)) rfl ?_
  refine ev_call (v1 := (some (.int f))) (h1 := (124, I2, J1, R)) rfl rfl c4 ?_
  refine ev_br (b1 := false) rfl rfl (xcd_nne (x := q) (y := f) (by first | exact b5 | omega)) ?_
  refine ev_go 1 (pc1 := 75) (lv1 := [.ref 63, .ref 3, .int had, .int p, .int q, .int i]) (st1 := [.ref 63]) (h1 := (124, I2, J1, R)) rfl ?_
  refine ev_gf (c := 63) (t := 66) (X := R 63 3) rfl rfl (fun _ => rfl) rfl (hG 63 3 66 rfl rfl) ?_
  refine ev_gf (c := 66) (t := 69) (X := R 66 2) rfl rfl (fun _ => rfl) rfl (hG 66 2 69 rfl rfl) ?_
  refine ev_go 1 (pc1 := 83) (lv1 := [.ref 63, .ref 3, .int had, .int p, .int q, .int i]) (st1 := [.int i, .ref 69]) (h1 := (124, I2, J1, R)) rfl ?_
  refine ev_call (v1 := (some (.int g))) (h1 := (124, I2, J1, R)) rfl rfl c5 ?_
  refine ev_go 1 (pc1 := 87) (lv1 := [.ref 63, .ref 3, .int had, .int p, .int q, .int i]) (st1 := [.int (-1), .int g]) (h1 := (124, I2, J1, R)) rfl ?_
  refine ev_br (b1 := false) rfl rfl (xcd_nne (x := g) (y := (-1)) (by rw [show ((-1 : Int32)).toInt = -1 from by decide]; first | exact b6 | omega)) ?_
  refine ev_go 1 (pc1 := 91) (lv1 := [.ref 63, .ref 3, .int had, .int p, .int q, .int i]) (st1 := [.ref 63]) (h1 := (124, I2, J1, R)) rfl ?_
  refine ev_gf (c := 63) (t := 66) (X := R 63 3) rfl rfl (fun _ => rfl) rfl (hG 63 3 66 rfl rfl) ?_
  refine ev_gf (c := 66) (t := 69) (X := R 66 2) rfl rfl (fun _ => rfl) rfl (hG 66 2 69 rfl rfl) ?_
  refine ev_go 2 (pc1 := 100) (lv1 := [.ref 63, .ref 3, .int had, .int p, .int q, .int i]) (st1 := [.ref 63, .int i, .ref 69]) (h1 := (124, I2, J1, R)) rfl ?_
  refine ev_gf (c := 63) (t := 66) (X := R 63 3) rfl rfl (fun _ => rfl) rfl (hG 63 3 66 rfl rfl) ?_
  refine ev_go 1 (pc1 := 106) (lv1 := [.ref 63, .ref 3, .int had, .int p, .int q, .int i]) (st1 := [.int (I2 66 5), .int i, .ref 69]) (h1 := (124, I2, J1, R)) rfl ?_
  refine ev_call (v1 := none) (h1 := (124, I3, J1, R)) rfl rfl c6 ?_
  refine ev_go 2 (pc1 := 3) (lv1 := [.ref 63, .ref 3, .int had, .int p, .int q, .int (i + 1)]) (st1 := []) (h1 := (124, I3, J1, R)) rfl ?_
  exact hk
set_option maxRecDepth 20000 in
theorem utl_s_23 {L : Nat} {xs : Nat → Int32} {d : Nat} {I : Nat → Nat → Int32} {J : Nat → Nat → Int64} {R : Nat → Nat → Nat} {had p q : Int32} (hG : aGd R)  {v : Option Value} {h' : xH} (hk : xEv L xs d 126 3 [.ref 63, .ref 23, .int had, .int p, .int q, .int 0] [] (124, I, J, R) v h') : xEv L xs d 126 0 [.ref 63, .ref 23, .int had, .int p, .int q, xmk] [] (124, I, J, R) v h' := by
  refine ev_go 2 (pc1 := 3) (lv1 := [.ref 63, .ref 23, .int had, .int p, .int q, .int 0]) (st1 := []) (h1 := (124, I, J, R)) rfl ?_
  exact hk
set_option maxRecDepth 20000 in
theorem utl_e_23 {L : Nat} {xs : Nat → Int32} {d : Nat} {I : Nat → Nat → Int32} {J : Nat → Nat → Int64} {R : Nat → Nat → Nat} {had p q i : Int32} (hG : aGd R) (b1 : i.toInt ≥ (I 23 16).toInt) : xEv L xs d 126 3 [.ref 63, .ref 23, .int had, .int p, .int q, .int i] [] (124, I, J, R) none (124, I, J, R) := by
  refine ev_go 3 (pc1 := 9) (lv1 := [.ref 63, .ref 23, .int had, .int p, .int q, .int i]) (st1 := [.int (I 23 16), .int i]) (h1 := (124, I, J, R)) rfl ?_
  refine ev_br (b1 := true) rfl rfl (xcd_ge (x := i) (y := (I 23 16)) (by first | exact b1 | omega)) ?_
  exact ev_ret rfl rfl
set_option maxRecDepth 20000 in
theorem utl_b_23 {L : Nat} {xs : Nat → Int32} {d : Nat} {I : Nat → Nat → Int32} {J : Nat → Nat → Int64} {R : Nat → Nat → Nat} {had p q i : Int32} (hG : aGd R) (b1 : i.toInt < (I 23 16).toInt) (b2 : ((had >>> (i &&& 31)) &&& 1).toInt ≠ 1) {v : Option Value} {h' : xH} (hk : xEv L xs d 126 3 [.ref 63, .ref 23, .int had, .int p, .int q, .int (i + 1)] [] (124, I, J, R) v h') : xEv L xs d 126 3 [.ref 63, .ref 23, .int had, .int p, .int q, .int i] [] (124, I, J, R) v h' := by
  refine ev_go 3 (pc1 := 9) (lv1 := [.ref 63, .ref 23, .int had, .int p, .int q, .int i]) (st1 := [.int (I 23 16), .int i]) (h1 := (124, I, J, R)) rfl ?_
  refine ev_br (b1 := false) rfl rfl (xcd_nge (x := i) (y := (I 23 16)) (by first | exact b1 | omega)) ?_
  refine ev_go 2 (pc1 := 15) (lv1 := [.ref 63, .ref 23, .int had, .int p, .int q, .int i]) (st1 := [.int i, .int had]) (h1 := (124, I, J, R)) rfl ?_
  refine ev_go 4 (pc1 := 19) (lv1 := [.ref 63, .ref 23, .int had, .int p, .int q, .int i]) (st1 := [.int 1, .int ((had >>> (i &&& 31)) &&& 1)]) (h1 := (124, I, J, R)) rfl ?_
  refine ev_br (b1 := true) rfl rfl (xcd_ne (x := ((had >>> (i &&& 31)) &&& 1)) (y := 1) (by rw [show ((1 : Int32)).toInt = 1 from by decide]; first | exact b2 | omega)) ?_
  refine ev_go 2 (pc1 := 3) (lv1 := [.ref 63, .ref 23, .int had, .int p, .int q, .int (i + 1)]) (st1 := []) (h1 := (124, I, J, R)) rfl ?_
  exact hk
set_option maxRecDepth 20000 in
theorem utl_m_23 {L : Nat} {xs : Nat → Int32} {d : Nat} {I : Nat → Nat → Int32} {J : Nat → Nat → Int64} {R : Nat → Nat → Nat} {had p q i m : Int32} (hG : aGd R) (b1 : i.toInt < (I 23 16).toInt) (b2 : ((had >>> (i &&& 31)) &&& 1).toInt = 1) (c1 : xEv L xs d 127 0 [.ref 63, .ref 23, .int i, .int p, .int q] [] (124, I, J, R) (some (.int m)) (124, I, J, R)) (b3 : m.toInt = 0) {v : Option Value} {h' : xH} (hk : xEv L xs (d + 1) 126 3 [.ref 63, .ref 23, .int had, .int p, .int q, .int (i + 1)] [] (124, I, J, R) v h') : xEv L xs (d + 1) 126 3 [.ref 63, .ref 23, .int had, .int p, .int q, .int i] [] (124, I, J, R) v h' := by
  refine ev_go 3 (pc1 := 9) (lv1 := [.ref 63, .ref 23, .int had, .int p, .int q, .int i]) (st1 := [.int (I 23 16), .int i]) (h1 := (124, I, J, R)) rfl ?_
  refine ev_br (b1 := false) rfl rfl (xcd_nge (x := i) (y := (I 23 16)) (by first | exact b1 | omega)) ?_
  refine ev_go 2 (pc1 := 15) (lv1 := [.ref 63, .ref 23, .int had, .int p, .int q, .int i]) (st1 := [.int i, .int had]) (h1 := (124, I, J, R)) rfl ?_
  refine ev_go 4 (pc1 := 19) (lv1 := [.ref 63, .ref 23, .int had, .int p, .int q, .int i]) (st1 := [.int 1, .int ((had >>> (i &&& 31)) &&& 1)]) (h1 := (124, I, J, R)) rfl ?_
  refine ev_br (b1 := false) rfl rfl (xcd_nne (x := ((had >>> (i &&& 31)) &&& 1)) (y := 1) (by rw [show ((1 : Int32)).toInt = 1 from by decide]; first | exact b2 | omega)) ?_
  refine ev_go 5 (pc1 := 29) (lv1 := [.ref 63, .ref 23, .int had, .int p, .int q, .int i]) (st1 := [.int q, .int p, .int i, .ref 23, .ref 63]) (h1 := (124, I, J, R)) rfl ?_
  refine ev_call (v1 := (some (.int m))) (h1 := (124, I, J, R)) rfl rfl c1 ?_
  refine ev_br (b1 := true) rfl rfl (xcd_eq (x := m) (y := 0) (by rw [show ((0 : Int32)).toInt = 0 from by decide]; first | exact b3 | omega)) ?_
  refine ev_go 2 (pc1 := 3) (lv1 := [.ref 63, .ref 23, .int had, .int p, .int q, .int (i + 1)]) (st1 := []) (h1 := (124, I, J, R)) rfl ?_
  exact hk
set_option maxRecDepth 20000 in
theorem utl_w_23 {L : Nat} {xs : Nat → Int32} {d : Nat} {I : Nat → Nat → Int32} {J : Nat → Nat → Int64} {R : Nat → Nat → Nat} {I1 : Nat → Nat → Int32} {J1 : Nat → Nat → Int64} {had p q i m w : Int32} (hG : aGd R) (b1 : i.toInt < (I 23 16).toInt) (b2 : ((had >>> (i &&& 31)) &&& 1).toInt = 1) (c1 : xEv L xs d 127 0 [.ref 63, .ref 23, .int i, .int p, .int q] [] (124, I, J, R) (some (.int m)) (124, I, J, R)) (b3 : m.toInt ≠ 0) (c2 : xEv L xs d 128 0 [.ref 63, .ref 23, .int i, .int p, .int q, xmk, xmk, xmk, xmk, xmk, xmk] [] (124, I, J, R) (some (.int w)) (124, I1, J1, R)) (b4 : w.toInt = 0) {v : Option Value} {h' : xH} (hk : xEv L xs (d + 1) 126 3 [.ref 63, .ref 23, .int had, .int p, .int q, .int (i + 1)] [] (124, I1, J1, R) v h') : xEv L xs (d + 1) 126 3 [.ref 63, .ref 23, .int had, .int p, .int q, .int i] [] (124, I, J, R) v h' := by
  refine ev_go 3 (pc1 := 9) (lv1 := [.ref 63, .ref 23, .int had, .int p, .int q, .int i]) (st1 := [.int (I 23 16), .int i]) (h1 := (124, I, J, R)) rfl ?_
  refine ev_br (b1 := false) rfl rfl (xcd_nge (x := i) (y := (I 23 16)) (by first | exact b1 | omega)) ?_
  refine ev_go 2 (pc1 := 15) (lv1 := [.ref 63, .ref 23, .int had, .int p, .int q, .int i]) (st1 := [.int i, .int had]) (h1 := (124, I, J, R)) rfl ?_
  refine ev_go 4 (pc1 := 19) (lv1 := [.ref 63, .ref 23, .int had, .int p, .int q, .int i]) (st1 := [.int 1, .int ((had >>> (i &&& 31)) &&& 1)]) (h1 := (124, I, J, R)) rfl ?_
  refine ev_br (b1 := false) rfl rfl (xcd_nne (x := ((had >>> (i &&& 31)) &&& 1)) (y := 1) (by rw [show ((1 : Int32)).toInt = 1 from by decide]; first | exact b2 | omega)) ?_
  refine ev_go 5 (pc1 := 29) (lv1 := [.ref 63, .ref 23, .int had, .int p, .int q, .int i]) (st1 := [.int q, .int p, .int i, .ref 23, .ref 63]) (h1 := (124, I, J, R)) rfl ?_
  refine ev_call (v1 := (some (.int m))) (h1 := (124, I, J, R)) rfl rfl c1 ?_
  refine ev_br (b1 := false) rfl rfl (xcd_neq (x := m) (y := 0) (by rw [show ((0 : Int32)).toInt = 0 from by decide]; first | exact b3 | omega)) ?_
  refine ev_go 5 (pc1 := 42) (lv1 := [.ref 63, .ref 23, .int had, .int p, .int q, .int i]) (st1 := [.int q, .int p, .int i, .ref 23, .ref 63]) (h1 := (124, I, J, R)) rfl ?_
  refine ev_call (v1 := (some (.int w))) (h1 := (124, I1, J1, R)) rfl rfl c2 ?_
  refine ev_br (b1 := true) rfl rfl (xcd_eq (x := w) (y := 0) (by rw [show ((0 : Int32)).toInt = 0 from by decide]; first | exact b4 | omega)) ?_
  refine ev_go 2 (pc1 := 3) (lv1 := [.ref 63, .ref 23, .int had, .int p, .int q, .int (i + 1)]) (st1 := []) (h1 := (124, I1, J1, R)) rfl ?_
  exact hk
set_option maxRecDepth 20000 in
theorem utl_t_23 {L : Nat} {xs : Nat → Int32} {d : Nat} {I : Nat → Nat → Int32} {J : Nat → Nat → Int64} {R : Nat → Nat → Nat} {I1 : Nat → Nat → Int32} {J1 : Nat → Nat → Int64} {I2 : Nat → Nat → Int32} {had p q i m w f : Int32} (hG : aGd R) (b1 : i.toInt < (I 23 16).toInt) (b2 : ((had >>> (i &&& 31)) &&& 1).toInt = 1) (c1 : xEv L xs d 127 0 [.ref 63, .ref 23, .int i, .int p, .int q] [] (124, I, J, R) (some (.int m)) (124, I, J, R)) (b3 : m.toInt ≠ 0) (c2 : xEv L xs d 128 0 [.ref 63, .ref 23, .int i, .int p, .int q, xmk, xmk, xmk, xmk, xmk, xmk] [] (124, I, J, R) (some (.int w)) (124, I1, J1, R)) (b4 : w.toInt ≠ 0) (c3 : xEv L xs d 129 0 [.ref 66, .int i, .int p, .int q] [] (124, I1, J1, R) none (124, I2, J1, R)) (c4 : xEv L xs d 39 0 [.ref 32, .int i] [] (124, I2, J1, R) (some (.int f)) (124, I2, J1, R)) (b5 : q.toInt ≠ f.toInt) {v : Option Value} {h' : xH} (hk : xEv L xs (d + 1) 126 3 [.ref 63, .ref 23, .int had, .int p, .int q, .int (i + 1)] [] (124, I2, J1, R) v h') : xEv L xs (d + 1) 126 3 [.ref 63, .ref 23, .int had, .int p, .int q, .int i] [] (124, I, J, R) v h' := by
  refine ev_go 3 (pc1 := 9) (lv1 := [.ref 63, .ref 23, .int had, .int p, .int q, .int i]) (st1 := [.int (I 23 16), .int i]) (h1 := (124, I, J, R)) rfl ?_
  refine ev_br (b1 := false) rfl rfl (xcd_nge (x := i) (y := (I 23 16)) (by first | exact b1 | omega)) ?_
  refine ev_go 2 (pc1 := 15) (lv1 := [.ref 63, .ref 23, .int had, .int p, .int q, .int i]) (st1 := [.int i, .int had]) (h1 := (124, I, J, R)) rfl ?_
  refine ev_go 4 (pc1 := 19) (lv1 := [.ref 63, .ref 23, .int had, .int p, .int q, .int i]) (st1 := [.int 1, .int ((had >>> (i &&& 31)) &&& 1)]) (h1 := (124, I, J, R)) rfl ?_
  refine ev_br (b1 := false) rfl rfl (xcd_nne (x := ((had >>> (i &&& 31)) &&& 1)) (y := 1) (by rw [show ((1 : Int32)).toInt = 1 from by decide]; first | exact b2 | omega)) ?_
  refine ev_go 5 (pc1 := 29) (lv1 := [.ref 63, .ref 23, .int had, .int p, .int q, .int i]) (st1 := [.int q, .int p, .int i, .ref 23, .ref 63]) (h1 := (124, I, J, R)) rfl ?_
  refine ev_call (v1 := (some (.int m))) (h1 := (124, I, J, R)) rfl rfl c1 ?_
  refine ev_br (b1 := false) rfl rfl (xcd_neq (x := m) (y := 0) (by rw [show ((0 : Int32)).toInt = 0 from by decide]; first | exact b3 | omega)) ?_
  refine ev_go 5 (pc1 := 42) (lv1 := [.ref 63, .ref 23, .int had, .int p, .int q, .int i]) (st1 := [.int q, .int p, .int i, .ref 23, .ref 63]) (h1 := (124, I, J, R)) rfl ?_
  refine ev_call (v1 := (some (.int w))) (h1 := (124, I1, J1, R)) rfl rfl c2 ?_
  refine ev_br (b1 := false) rfl rfl (xcd_neq (x := w) (y := 0) (by rw [show ((0 : Int32)).toInt = 0 from by decide]; first | exact b4 | omega)) ?_
  refine ev_go 1 (pc1 := 49) (lv1 := [.ref 63, .ref 23, .int had, .int p, .int q, .int i]) (st1 := [.ref 63]) (h1 := (124, I1, J1, R)) rfl ?_
  refine ev_gf (c := 63) (t := 66) (X := R 63 3) rfl rfl (fun _ => rfl) rfl (hG 63 3 66 rfl rfl) ?_
  refine ev_go 3 (pc1 := 57) (lv1 := [.ref 63, .ref 23, .int had, .int p, .int q, .int i]) (st1 := [.int q, .int p, .int i, .ref 66]) (h1 := (124, I1, J1, R)) rfl ?_
  refine ev_call (v1 := none) (h1 := (124, I2, J1, R)) rfl rfl c3 ?_
  refine ev_go 2 (pc1 := 63) (lv1 := [.ref 63, .ref 23, .int had, .int p, .int q, .int i]) (st1 := [.ref 23, .int q]) (h1 := (124, I2, J1, R)) rfl ?_
  refine ev_gf (c := 23) (t := 32) (X := R 23 8) rfl rfl (fun _ => rfl) rfl (hG 23 8 32 rfl rfl) ?_
  refine ev_go 1 (pc1 := 68) (lv1 := [.ref 63, .ref 23, .int had, .int p, .int q, .int i]) (st1 := [.int i, .ref 32, .int q]) (h1 := (124, I2, J1, R)) rfl ?_
  refine ev_call (v1 := (some (.int f))) (h1 := (124, I2, J1, R)) rfl rfl c4 ?_
  refine ev_br (b1 := true) rfl rfl (xcd_ne (x := q) (y := f) (by first | exact b5 | omega)) ?_
  refine ev_go 2 (pc1 := 3) (lv1 := [.ref 63, .ref 23, .int had, .int p, .int q, .int (i + 1)]) (st1 := []) (h1 := (124, I2, J1, R)) rfl ?_
  exact hk
set_option maxRecDepth 20000 in
theorem utl_c_23 {L : Nat} {xs : Nat → Int32} {d : Nat} {I : Nat → Nat → Int32} {J : Nat → Nat → Int64} {R : Nat → Nat → Nat} {I1 : Nat → Nat → Int32} {J1 : Nat → Nat → Int64} {I2 : Nat → Nat → Int32} {had p q i m w f g : Int32} (hG : aGd R) (b1 : i.toInt < (I 23 16).toInt) (b2 : ((had >>> (i &&& 31)) &&& 1).toInt = 1) (c1 : xEv L xs d 127 0 [.ref 63, .ref 23, .int i, .int p, .int q] [] (124, I, J, R) (some (.int m)) (124, I, J, R)) (b3 : m.toInt ≠ 0) (c2 : xEv L xs d 128 0 [.ref 63, .ref 23, .int i, .int p, .int q, xmk, xmk, xmk, xmk, xmk, xmk] [] (124, I, J, R) (some (.int w)) (124, I1, J1, R)) (b4 : w.toInt ≠ 0) (c3 : xEv L xs d 129 0 [.ref 66, .int i, .int p, .int q] [] (124, I1, J1, R) none (124, I2, J1, R)) (c4 : xEv L xs d 39 0 [.ref 32, .int i] [] (124, I2, J1, R) (some (.int f)) (124, I2, J1, R)) (b5 : q.toInt = f.toInt) (c5 : xEv L xs d 39 0 [.ref 69, .int i] [] (124, I2, J1, R) (some (.int g)) (124, I2, J1, R)) (b6 : g.toInt ≠ -1) {v : Option Value} {h' : xH} (hk : xEv L xs (d + 1) 126 3 [.ref 63, .ref 23, .int had, .int p, .int q, .int (i + 1)] [] (124, I2, J1, R) v h') : xEv L xs (d + 1) 126 3 [.ref 63, .ref 23, .int had, .int p, .int q, .int i] [] (124, I, J, R) v h' := by
  refine ev_go 3 (pc1 := 9) (lv1 := [.ref 63, .ref 23, .int had, .int p, .int q, .int i]) (st1 := [.int (I 23 16), .int i]) (h1 := (124, I, J, R)) rfl ?_
  refine ev_br (b1 := false) rfl rfl (xcd_nge (x := i) (y := (I 23 16)) (by first | exact b1 | omega)) ?_
  refine ev_go 2 (pc1 := 15) (lv1 := [.ref 63, .ref 23, .int had, .int p, .int q, .int i]) (st1 := [.int i, .int had]) (h1 := (124, I, J, R)) rfl ?_
  refine ev_go 4 (pc1 := 19) (lv1 := [.ref 63, .ref 23, .int had, .int p, .int q, .int i]) (st1 := [.int 1, .int ((had >>> (i &&& 31)) &&& 1)]) (h1 := (124, I, J, R)) rfl ?_
  refine ev_br (b1 := false) rfl rfl (xcd_nne (x := ((had >>> (i &&& 31)) &&& 1)) (y := 1) (by rw [show ((1 : Int32)).toInt = 1 from by decide]; first | exact b2 | omega)) ?_
  refine ev_go 5 (pc1 := 29) (lv1 := [.ref 63, .ref 23, .int had, .int p, .int q, .int i]) (st1 := [.int q, .int p, .int i, .ref 23, .ref 63]) (h1 := (124, I, J, R)) rfl ?_
  refine ev_call (v1 := (some (.int m))) (h1 := (124, I, J, R)) rfl rfl c1 ?_
  refine ev_br (b1 := false) rfl rfl (xcd_neq (x := m) (y := 0) (by rw [show ((0 : Int32)).toInt = 0 from by decide]; first | exact b3 | omega)) ?_
  refine ev_go 5 (pc1 := 42) (lv1 := [.ref 63, .ref 23, .int had, .int p, .int q, .int i]) (st1 := [.int q, .int p, .int i, .ref 23, .ref 63]) (h1 := (124, I, J, R)) rfl ?_
  refine ev_call (v1 := (some (.int w))) (h1 := (124, I1, J1, R)) rfl rfl c2 ?_
  refine ev_br (b1 := false) rfl rfl (xcd_neq (x := w) (y := 0) (by rw [show ((0 : Int32)).toInt = 0 from by decide]; first | exact b4 | omega)) ?_
  refine ev_go 1 (pc1 := 49) (lv1 := [.ref 63, .ref 23, .int had, .int p, .int q, .int i]) (st1 := [.ref 63]) (h1 := (124, I1, J1, R)) rfl ?_
  refine ev_gf (c := 63) (t := 66) (X := R 63 3) rfl rfl (fun _ => rfl) rfl (hG 63 3 66 rfl rfl) ?_
  refine ev_go 3 (pc1 := 57) (lv1 := [.ref 63, .ref 23, .int had, .int p, .int q, .int i]) (st1 := [.int q, .int p, .int i, .ref 66]) (h1 := (124, I1, J1, R)) rfl ?_
  refine ev_call (v1 := none) (h1 := (124, I2, J1, R)) rfl rfl c3 ?_
  refine ev_go 2 (pc1 := 63) (lv1 := [.ref 63, .ref 23, .int had, .int p, .int q, .int i]) (st1 := [.ref 23, .int q]) (h1 := (124, I2, J1, R)) rfl ?_
  refine ev_gf (c := 23) (t := 32) (X := R 23 8) rfl rfl (fun _ => rfl) rfl (hG 23 8 32 rfl rfl) ?_
  refine ev_go 1 (pc1 := 68) (lv1 := [.ref 63, .ref 23, .int had, .int p, .int q, .int i]) (st1 := [.int i, .ref 32, .int q]) (h1 := (124, I2, J1, R)) rfl ?_
  refine ev_call (v1 := (some (.int f))) (h1 := (124, I2, J1, R)) rfl rfl c4 ?_
  refine ev_br (b1 := false) rfl rfl (xcd_nne (x := q) (y := f) (by first | exact b5 | omega)) ?_
  refine ev_go 1 (pc1 := 75) (lv1 := [.ref 63, .ref 23, .int had, .int p, .int q, .int i]) (st1 := [.ref 63]) (h1 := (124, I2, J1, R)) rfl ?_
  refine ev_gf (c := 63) (t := 66) (X := R 63 3) rfl rfl (fun _ => rfl) rfl (hG 63 3 66 rfl rfl) ?_
  refine ev_gf (c := 66) (t := 69) (X := R 66 2) rfl rfl (fun _ => rfl) rfl (hG 66 2 69 rfl rfl) ?_
  refine ev_go 1 (pc1 := 83) (lv1 := [.ref 63, .ref 23, .int had, .int p, .int q, .int i]) (st1 := [.int i, .ref 69]) (h1 := (124, I2, J1, R)) rfl ?_
  refine ev_call (v1 := (some (.int g))) (h1 := (124, I2, J1, R)) rfl rfl c5 ?_
  refine ev_go 1 (pc1 := 87) (lv1 := [.ref 63, .ref 23, .int had, .int p, .int q, .int i]) (st1 := [.int (-1), .int g]) (h1 := (124, I2, J1, R)) rfl ?_
  refine ev_br (b1 := true) rfl rfl (xcd_ne (x := g) (y := (-1)) (by rw [show ((-1 : Int32)).toInt = -1 from by decide]; first | exact b6 | omega)) ?_
  refine ev_go 2 (pc1 := 3) (lv1 := [.ref 63, .ref 23, .int had, .int p, .int q, .int (i + 1)]) (st1 := []) (h1 := (124, I2, J1, R)) rfl ?_
  exact hk
set_option maxRecDepth 20000 in
theorem utl_p_23 {L : Nat} {xs : Nat → Int32} {d : Nat} {I : Nat → Nat → Int32} {J : Nat → Nat → Int64} {R : Nat → Nat → Nat} {I1 : Nat → Nat → Int32} {J1 : Nat → Nat → Int64} {I2 : Nat → Nat → Int32} {I3 : Nat → Nat → Int32} {had p q i m w f g : Int32} (hG : aGd R) (b1 : i.toInt < (I 23 16).toInt) (b2 : ((had >>> (i &&& 31)) &&& 1).toInt = 1) (c1 : xEv L xs d 127 0 [.ref 63, .ref 23, .int i, .int p, .int q] [] (124, I, J, R) (some (.int m)) (124, I, J, R)) (b3 : m.toInt ≠ 0) (c2 : xEv L xs d 128 0 [.ref 63, .ref 23, .int i, .int p, .int q, xmk, xmk, xmk, xmk, xmk, xmk] [] (124, I, J, R) (some (.int w)) (124, I1, J1, R)) (b4 : w.toInt ≠ 0) (c3 : xEv L xs d 129 0 [.ref 66, .int i, .int p, .int q] [] (124, I1, J1, R) none (124, I2, J1, R)) (c4 : xEv L xs d 39 0 [.ref 32, .int i] [] (124, I2, J1, R) (some (.int f)) (124, I2, J1, R)) (b5 : q.toInt = f.toInt) (c5 : xEv L xs d 39 0 [.ref 69, .int i] [] (124, I2, J1, R) (some (.int g)) (124, I2, J1, R)) (b6 : g.toInt = -1) (c6 : xEv L xs d 33 0 [.ref 69, .int i, .int (I2 66 5)] [] (124, I2, J1, R) none (124, I3, J1, R)) {v : Option Value} {h' : xH} (hk : xEv L xs (d + 1) 126 3 [.ref 63, .ref 23, .int had, .int p, .int q, .int (i + 1)] [] (124, I3, J1, R) v h') : xEv L xs (d + 1) 126 3 [.ref 63, .ref 23, .int had, .int p, .int q, .int i] [] (124, I, J, R) v h' := by
  refine ev_go 3 (pc1 := 9) (lv1 := [.ref 63, .ref 23, .int had, .int p, .int q, .int i]) (st1 := [.int (I 23 16), .int i]) (h1 := (124, I, J, R)) rfl ?_
  refine ev_br (b1 := false) rfl rfl (xcd_nge (x := i) (y := (I 23 16)) (by first | exact b1 | omega)) ?_
  refine ev_go 2 (pc1 := 15) (lv1 := [.ref 63, .ref 23, .int had, .int p, .int q, .int i]) (st1 := [.int i, .int had]) (h1 := (124, I, J, R)) rfl ?_
  refine ev_go 4 (pc1 := 19) (lv1 := [.ref 63, .ref 23, .int had, .int p, .int q, .int i]) (st1 := [.int 1, .int ((had >>> (i &&& 31)) &&& 1)]) (h1 := (124, I, J, R)) rfl ?_
  refine ev_br (b1 := false) rfl rfl (xcd_nne (x := ((had >>> (i &&& 31)) &&& 1)) (y := 1) (by rw [show ((1 : Int32)).toInt = 1 from by decide]; first | exact b2 | omega)) ?_
  refine ev_go 5 (pc1 := 29) (lv1 := [.ref 63, .ref 23, .int had, .int p, .int q, .int i]) (st1 := [.int q, .int p, .int i, .ref 23, .ref 63]) (h1 := (124, I, J, R)) rfl ?_
  refine ev_call (v1 := (some (.int m))) (h1 := (124, I, J, R)) rfl rfl c1 ?_
  refine ev_br (b1 := false) rfl rfl (xcd_neq (x := m) (y := 0) (by rw [show ((0 : Int32)).toInt = 0 from by decide]; first | exact b3 | omega)) ?_
  refine ev_go 5 (pc1 := 42) (lv1 := [.ref 63, .ref 23, .int had, .int p, .int q, .int i]) (st1 := [.int q, .int p, .int i, .ref 23, .ref 63]) (h1 := (124, I, J, R)) rfl ?_
  refine ev_call (v1 := (some (.int w))) (h1 := (124, I1, J1, R)) rfl rfl c2 ?_
  refine ev_br (b1 := false) rfl rfl (xcd_neq (x := w) (y := 0) (by rw [show ((0 : Int32)).toInt = 0 from by decide]; first | exact b4 | omega)) ?_
  refine ev_go 1 (pc1 := 49) (lv1 := [.ref 63, .ref 23, .int had, .int p, .int q, .int i]) (st1 := [.ref 63]) (h1 := (124, I1, J1, R)) rfl ?_
  refine ev_gf (c := 63) (t := 66) (X := R 63 3) rfl rfl (fun _ => rfl) rfl (hG 63 3 66 rfl rfl) ?_
  refine ev_go 3 (pc1 := 57) (lv1 := [.ref 63, .ref 23, .int had, .int p, .int q, .int i]) (st1 := [.int q, .int p, .int i, .ref 66]) (h1 := (124, I1, J1, R)) rfl ?_
  refine ev_call (v1 := none) (h1 := (124, I2, J1, R)) rfl rfl c3 ?_
  refine ev_go 2 (pc1 := 63) (lv1 := [.ref 63, .ref 23, .int had, .int p, .int q, .int i]) (st1 := [.ref 23, .int q]) (h1 := (124, I2, J1, R)) rfl ?_
  refine ev_gf (c := 23) (t := 32) (X := R 23 8) rfl rfl (fun _ => rfl) rfl (hG 23 8 32 rfl rfl) ?_
  refine ev_go 1 (pc1 := 68) (lv1 := [.ref 63, .ref 23, .int had, .int p, .int q, .int i]) (st1 := [.int i, .ref 32, .int q]) (h1 := (124, I2, J1, R)) rfl ?_
  refine ev_call (v1 := (some (.int f))) (h1 := (124, I2, J1, R)) rfl rfl c4 ?_
  refine ev_br (b1 := false) rfl rfl (xcd_nne (x := q) (y := f) (by first | exact b5 | omega)) ?_
  refine ev_go 1 (pc1 := 75) (lv1 := [.ref 63, .ref 23, .int had, .int p, .int q, .int i]) (st1 := [.ref 63]) (h1 := (124, I2, J1, R)) rfl ?_
  refine ev_gf (c := 63) (t := 66) (X := R 63 3) rfl rfl (fun _ => rfl) rfl (hG 63 3 66 rfl rfl) ?_
  refine ev_gf (c := 66) (t := 69) (X := R 66 2) rfl rfl (fun _ => rfl) rfl (hG 66 2 69 rfl rfl) ?_
  refine ev_go 1 (pc1 := 83) (lv1 := [.ref 63, .ref 23, .int had, .int p, .int q, .int i]) (st1 := [.int i, .ref 69]) (h1 := (124, I2, J1, R)) rfl ?_
  refine ev_call (v1 := (some (.int g))) (h1 := (124, I2, J1, R)) rfl rfl c5 ?_
  refine ev_go 1 (pc1 := 87) (lv1 := [.ref 63, .ref 23, .int had, .int p, .int q, .int i]) (st1 := [.int (-1), .int g]) (h1 := (124, I2, J1, R)) rfl ?_
  refine ev_br (b1 := false) rfl rfl (xcd_nne (x := g) (y := (-1)) (by rw [show ((-1 : Int32)).toInt = -1 from by decide]; first | exact b6 | omega)) ?_
  refine ev_go 1 (pc1 := 91) (lv1 := [.ref 63, .ref 23, .int had, .int p, .int q, .int i]) (st1 := [.ref 63]) (h1 := (124, I2, J1, R)) rfl ?_
  refine ev_gf (c := 63) (t := 66) (X := R 63 3) rfl rfl (fun _ => rfl) rfl (hG 63 3 66 rfl rfl) ?_
  refine ev_gf (c := 66) (t := 69) (X := R 66 2) rfl rfl (fun _ => rfl) rfl (hG 66 2 69 rfl rfl) ?_
  refine ev_go 2 (pc1 := 100) (lv1 := [.ref 63, .ref 23, .int had, .int p, .int q, .int i]) (st1 := [.ref 63, .int i, .ref 69]) (h1 := (124, I2, J1, R)) rfl ?_
  refine ev_gf (c := 63) (t := 66) (X := R 63 3) rfl rfl (fun _ => rfl) rfl (hG 63 3 66 rfl rfl) ?_
  refine ev_go 1 (pc1 := 106) (lv1 := [.ref 63, .ref 23, .int had, .int p, .int q, .int i]) (st1 := [.int (I2 66 5), .int i, .ref 69]) (h1 := (124, I2, J1, R)) rfl ?_
  refine ev_call (v1 := none) (h1 := (124, I3, J1, R)) rfl rfl c6 ?_
  refine ev_go 2 (pc1 := 3) (lv1 := [.ref 63, .ref 23, .int had, .int p, .int q, .int (i + 1)]) (st1 := []) (h1 := (124, I3, J1, R)) rfl ?_
  exact hk
set_option maxRecDepth 20000 in
theorem vt_s {L : Nat} {xs : Nat → Int32} {d : Nat} {I : Nat → Nat → Int32} {J : Nat → Nat → Int64} {R : Nat → Nat → Nat} {p q had t : Int32} (hG : aGd R)  {v : Option Value} {h' : xH} (hk : xEv L xs d 227 3 [.ref 86, .int p, .int q, .int had, .int t, .int 0, xmk] [] (124, I, J, R) v h') : xEv L xs d 227 0 [.ref 86, .int p, .int q, .int had, .int t, xmk, xmk] [] (124, I, J, R) v h' := by
  refine ev_go 2 (pc1 := 3) (lv1 := [.ref 86, .int p, .int q, .int had, .int t, .int 0, xmk]) (st1 := []) (h1 := (124, I, J, R)) rfl ?_
  exact hk
set_option maxRecDepth 20000 in
theorem vt_e {L : Nat} {xs : Nat → Int32} {d : Nat} {I : Nat → Nat → Int32} {J : Nat → Nat → Int64} {R : Nat → Nat → Nat} {p q had t i : Int32} {w6 : Value} (hG : aGd R) (b1 : i.toInt ≥ (I 88 2).toInt) : xEv L xs d 227 3 [.ref 86, .int p, .int q, .int had, .int t, .int i, w6] [] (124, I, J, R) none (124, I, J, R) := by
  refine ev_go 2 (pc1 := 6) (lv1 := [.ref 86, .int p, .int q, .int had, .int t, .int i, w6]) (st1 := [.ref 86, .int i]) (h1 := (124, I, J, R)) rfl ?_
  refine ev_gf (c := 86) (t := 88) (X := R 86 12) rfl rfl (fun _ => rfl) rfl (hG 86 12 88 rfl rfl) ?_
  refine ev_go 2 (pc1 := 11) (lv1 := [.ref 86, .int p, .int q, .int had, .int t, .int i, w6]) (st1 := [.int (I 88 2), .int i]) (h1 := (124, I, J, R)) rfl ?_
  refine ev_br (b1 := true) rfl rfl (xcd_ge (x := i) (y := (I 88 2)) (by first | exact b1 | omega)) ?_
  exact ev_ret rfl rfl
set_option maxRecDepth 20000 in
theorem vt_b {L : Nat} {xs : Nat → Int32} {d : Nat} {I : Nat → Nat → Int32} {J : Nat → Nat → Int64} {R : Nat → Nat → Nat} {p q had t i : Int32} {w6 : Value} (hG : aGd R) (b1 : i.toInt < (I 88 2).toInt) (b2 : ((had >>> (i &&& 31)) &&& 1).toInt ≠ 1) {v : Option Value} {h' : xH} (hk : xEv L xs d 227 3 [.ref 86, .int p, .int q, .int had, .int t, .int (i + 1), .int 0] [] (124, I, J, R) v h') : xEv L xs d 227 3 [.ref 86, .int p, .int q, .int had, .int t, .int i, w6] [] (124, I, J, R) v h' := by
  refine ev_go 2 (pc1 := 6) (lv1 := [.ref 86, .int p, .int q, .int had, .int t, .int i, w6]) (st1 := [.ref 86, .int i]) (h1 := (124, I, J, R)) rfl ?_
  refine ev_gf (c := 86) (t := 88) (X := R 86 12) rfl rfl (fun _ => rfl) rfl (hG 86 12 88 rfl rfl) ?_
  refine ev_go 2 (pc1 := 11) (lv1 := [.ref 86, .int p, .int q, .int had, .int t, .int i, w6]) (st1 := [.int (I 88 2), .int i]) (h1 := (124, I, J, R)) rfl ?_
  refine ev_br (b1 := false) rfl rfl (xcd_nge (x := i) (y := (I 88 2)) (by first | exact b1 | omega)) ?_
  refine ev_go 2 (pc1 := 17) (lv1 := [.ref 86, .int p, .int q, .int had, .int t, .int i, w6]) (st1 := [.int i, .int had]) (h1 := (124, I, J, R)) rfl ?_
  refine ev_go 4 (pc1 := 21) (lv1 := [.ref 86, .int p, .int q, .int had, .int t, .int i, w6]) (st1 := [.int 1, .int ((had >>> (i &&& 31)) &&& 1)]) (h1 := (124, I, J, R)) rfl ?_
  refine ev_br (b1 := true) rfl rfl (xcd_ne (x := ((had >>> (i &&& 31)) &&& 1)) (y := 1) (by rw [show ((1 : Int32)).toInt = 1 from by decide]; first | exact b2 | omega)) ?_
  refine ev_go 6 (pc1 := 3) (lv1 := [.ref 86, .int p, .int q, .int had, .int t, .int (i + 1), .int 0]) (st1 := []) (h1 := (124, I, J, R)) rfl ?_
  exact hk
set_option maxRecDepth 20000 in
theorem vt_n {L : Nat} {xs : Nat → Int32} {d : Nat} {I : Nat → Nat → Int32} {J : Nat → Nat → Int64} {R : Nat → Nat → Nat} {p q had t i : Int32} {w6 : Value} (hG : aGd R) (b1 : i.toInt < (I 88 2).toInt) (b2 : ((had >>> (i &&& 31)) &&& 1).toInt = 1) (n1 : 0 ≤ (9 + i).toInt) (m1 : (9 + i).toInt < 100) (b3 : (I 121 (9 + i).toNatClampNeg).toInt ≠ p.toInt) {v : Option Value} {h' : xH} (hk : xEv L xs d 227 3 [.ref 86, .int p, .int q, .int had, .int t, .int (i + 1), .int 0] [] (124, I, J, R) v h') : xEv L xs d 227 3 [.ref 86, .int p, .int q, .int had, .int t, .int i, w6] [] (124, I, J, R) v h' := by
  refine ev_go 2 (pc1 := 6) (lv1 := [.ref 86, .int p, .int q, .int had, .int t, .int i, w6]) (st1 := [.ref 86, .int i]) (h1 := (124, I, J, R)) rfl ?_
  refine ev_gf (c := 86) (t := 88) (X := R 86 12) rfl rfl (fun _ => rfl) rfl (hG 86 12 88 rfl rfl) ?_
  refine ev_go 2 (pc1 := 11) (lv1 := [.ref 86, .int p, .int q, .int had, .int t, .int i, w6]) (st1 := [.int (I 88 2), .int i]) (h1 := (124, I, J, R)) rfl ?_
  refine ev_br (b1 := false) rfl rfl (xcd_nge (x := i) (y := (I 88 2)) (by first | exact b1 | omega)) ?_
  refine ev_go 2 (pc1 := 17) (lv1 := [.ref 86, .int p, .int q, .int had, .int t, .int i, w6]) (st1 := [.int i, .int had]) (h1 := (124, I, J, R)) rfl ?_
  refine ev_go 4 (pc1 := 21) (lv1 := [.ref 86, .int p, .int q, .int had, .int t, .int i, w6]) (st1 := [.int 1, .int ((had >>> (i &&& 31)) &&& 1)]) (h1 := (124, I, J, R)) rfl ?_
  refine ev_br (b1 := false) rfl rfl (xcd_nne (x := ((had >>> (i &&& 31)) &&& 1)) (y := 1) (by rw [show ((1 : Int32)).toInt = 1 from by decide]; first | exact b2 | omega)) ?_
  refine ev_go 1 (pc1 := 25) (lv1 := [.ref 86, .int p, .int q, .int had, .int t, .int i, w6]) (st1 := [.ref 86]) (h1 := (124, I, J, R)) rfl ?_
  refine ev_gf (c := 86) (t := 121) (X := R 86 56) rfl rfl (fun _ => rfl) rfl (hG 86 56 121 rfl rfl) ?_
  refine ev_go 3 (pc1 := 33) (lv1 := [.ref 86, .int p, .int q, .int had, .int t, .int i, w6]) (st1 := [.int (9 + i), .ref 121]) (h1 := (124, I, J, R)) rfl ?_
  refine ev_ild (n := 100) rfl rfl (fun _ => rfl) n1 m1 ?_
  refine ev_go 1 (pc1 := 35) (lv1 := [.ref 86, .int p, .int q, .int had, .int t, .int i, w6]) (st1 := [.int p, .int (I 121 (9 + i).toNatClampNeg)]) (h1 := (124, I, J, R)) rfl ?_
  refine ev_br (b1 := true) rfl rfl (xcd_ne (x := (I 121 (9 + i).toNatClampNeg)) (y := p) (by first | exact b3 | omega)) ?_
  refine ev_go 6 (pc1 := 3) (lv1 := [.ref 86, .int p, .int q, .int had, .int t, .int (i + 1), .int 0]) (st1 := []) (h1 := (124, I, J, R)) rfl ?_
  exact hk
set_option maxRecDepth 20000 in
theorem vt_r {L : Nat} {xs : Nat → Int32} {d : Nat} {I : Nat → Nat → Int32} {J : Nat → Nat → Int64} {R : Nat → Nat → Nat} {p q had t i g : Int32} {w6 : Value} (hG : aGd R) (b1 : i.toInt < (I 88 2).toInt) (b2 : ((had >>> (i &&& 31)) &&& 1).toInt = 1) (n1 : 0 ≤ (9 + i).toInt) (m1 : (9 + i).toInt < 100) (b3 : (I 121 (9 + i).toNatClampNeg).toInt = p.toInt) (c1 : xEv L xs d 179 0 [.ref 86, .int i, .int q] [] (124, I, J, R) (some (.int g)) (124, I, J, R)) (b4 : g.toInt ≠ 0) {v : Option Value} {h' : xH} (hk : xEv L xs (d + 1) 227 3 [.ref 86, .int p, .int q, .int had, .int t, .int (i + 1), .int 0] [] (124, I, J, R) v h') : xEv L xs (d + 1) 227 3 [.ref 86, .int p, .int q, .int had, .int t, .int i, w6] [] (124, I, J, R) v h' := by
  refine ev_go 2 (pc1 := 6) (lv1 := [.ref 86, .int p, .int q, .int had, .int t, .int i, w6]) (st1 := [.ref 86, .int i]) (h1 := (124, I, J, R)) rfl ?_
  refine ev_gf (c := 86) (t := 88) (X := R 86 12) rfl rfl (fun _ => rfl) rfl (hG 86 12 88 rfl rfl) ?_
  refine ev_go 2 (pc1 := 11) (lv1 := [.ref 86, .int p, .int q, .int had, .int t, .int i, w6]) (st1 := [.int (I 88 2), .int i]) (h1 := (124, I, J, R)) rfl ?_
  refine ev_br (b1 := false) rfl rfl (xcd_nge (x := i) (y := (I 88 2)) (by first | exact b1 | omega)) ?_
  refine ev_go 2 (pc1 := 17) (lv1 := [.ref 86, .int p, .int q, .int had, .int t, .int i, w6]) (st1 := [.int i, .int had]) (h1 := (124, I, J, R)) rfl ?_
  refine ev_go 4 (pc1 := 21) (lv1 := [.ref 86, .int p, .int q, .int had, .int t, .int i, w6]) (st1 := [.int 1, .int ((had >>> (i &&& 31)) &&& 1)]) (h1 := (124, I, J, R)) rfl ?_
  refine ev_br (b1 := false) rfl rfl (xcd_nne (x := ((had >>> (i &&& 31)) &&& 1)) (y := 1) (by rw [show ((1 : Int32)).toInt = 1 from by decide]; first | exact b2 | omega)) ?_
  refine ev_go 1 (pc1 := 25) (lv1 := [.ref 86, .int p, .int q, .int had, .int t, .int i, w6]) (st1 := [.ref 86]) (h1 := (124, I, J, R)) rfl ?_
  refine ev_gf (c := 86) (t := 121) (X := R 86 56) rfl rfl (fun _ => rfl) rfl (hG 86 56 121 rfl rfl) ?_
  refine ev_go 3 (pc1 := 33) (lv1 := [.ref 86, .int p, .int q, .int had, .int t, .int i, w6]) (st1 := [.int (9 + i), .ref 121]) (h1 := (124, I, J, R)) rfl ?_
  refine ev_ild (n := 100) rfl rfl (fun _ => rfl) n1 m1 ?_
  refine ev_go 1 (pc1 := 35) (lv1 := [.ref 86, .int p, .int q, .int had, .int t, .int i, w6]) (st1 := [.int p, .int (I 121 (9 + i).toNatClampNeg)]) (h1 := (124, I, J, R)) rfl ?_
  refine ev_br (b1 := false) rfl rfl (xcd_nne (x := (I 121 (9 + i).toNatClampNeg)) (y := p) (by first | exact b3 | omega)) ?_
  refine ev_go 3 (pc1 := 42) (lv1 := [.ref 86, .int p, .int q, .int had, .int t, .int i, w6]) (st1 := [.int q, .int i, .ref 86]) (h1 := (124, I, J, R)) rfl ?_
  refine ev_call (v1 := (some (.int g))) (h1 := (124, I, J, R)) rfl rfl c1 ?_
  refine ev_br (b1 := true) rfl rfl (xcd_ne (x := g) (y := 0) (by rw [show ((0 : Int32)).toInt = 0 from by decide]; first | exact b4 | omega)) ?_
  refine ev_go 6 (pc1 := 3) (lv1 := [.ref 86, .int p, .int q, .int had, .int t, .int (i + 1), .int 0]) (st1 := []) (h1 := (124, I, J, R)) rfl ?_
  exact hk
set_option maxRecDepth 20000 in
theorem vt_f {L : Nat} {xs : Nat → Int32} {d : Nat} {I : Nat → Nat → Int32} {J : Nat → Nat → Int64} {R : Nat → Nat → Nat} {p q had t i g c : Int32} {w6 : Value} (hG : aGd R) (b1 : i.toInt < (I 88 2).toInt) (b2 : ((had >>> (i &&& 31)) &&& 1).toInt = 1) (n1 : 0 ≤ (9 + i).toInt) (m1 : (9 + i).toInt < 100) (b3 : (I 121 (9 + i).toNatClampNeg).toInt = p.toInt) (c1 : xEv L xs d 179 0 [.ref 86, .int i, .int q] [] (124, I, J, R) (some (.int g)) (124, I, J, R)) (b4 : g.toInt = 0) (c2 : xEv L xs d 228 0 [.ref 86, .int q, xmk, xmk] [] (124, I, J, R) (some (.int c)) (124, I, J, R)) (n2 : 0 ≤ q.toInt) (m2 : q.toInt < 14) (b5 : c.toInt ≥ (I 90 q.toNatClampNeg).toInt) {v : Option Value} {h' : xH} (hk : xEv L xs (d + 1) 227 3 [.ref 86, .int p, .int q, .int had, .int t, .int (i + 1), .int 0] [] (124, I, J, R) v h') : xEv L xs (d + 1) 227 3 [.ref 86, .int p, .int q, .int had, .int t, .int i, w6] [] (124, I, J, R) v h' := by
  refine ev_go 2 (pc1 := 6) (lv1 := [.ref 86, .int p, .int q, .int had, .int t, .int i, w6]) (st1 := [.ref 86, .int i]) (h1 := (124, I, J, R)) rfl ?_
  refine ev_gf (c := 86) (t := 88) (X := R 86 12) rfl rfl (fun _ => rfl) rfl (hG 86 12 88 rfl rfl) ?_
  refine ev_go 2 (pc1 := 11) (lv1 := [.ref 86, .int p, .int q, .int had, .int t, .int i, w6]) (st1 := [.int (I 88 2), .int i]) (h1 := (124, I, J, R)) rfl ?_
  refine ev_br (b1 := false) rfl rfl (xcd_nge (x := i) (y := (I 88 2)) (by first | exact b1 | omega)) ?_
  refine ev_go 2 (pc1 := 17) (lv1 := [.ref 86, .int p, .int q, .int had, .int t, .int i, w6]) (st1 := [.int i, .int had]) (h1 := (124, I, J, R)) rfl ?_
  refine ev_go 4 (pc1 := 21) (lv1 := [.ref 86, .int p, .int q, .int had, .int t, .int i, w6]) (st1 := [.int 1, .int ((had >>> (i &&& 31)) &&& 1)]) (h1 := (124, I, J, R)) rfl ?_
  refine ev_br (b1 := false) rfl rfl (xcd_nne (x := ((had >>> (i &&& 31)) &&& 1)) (y := 1) (by rw [show ((1 : Int32)).toInt = 1 from by decide]; first | exact b2 | omega)) ?_
  refine ev_go 1 (pc1 := 25) (lv1 := [.ref 86, .int p, .int q, .int had, .int t, .int i, w6]) (st1 := [.ref 86]) (h1 := (124, I, J, R)) rfl ?_
  refine ev_gf (c := 86) (t := 121) (X := R 86 56) rfl rfl (fun _ => rfl) rfl (hG 86 56 121 rfl rfl) ?_
  refine ev_go 3 (pc1 := 33) (lv1 := [.ref 86, .int p, .int q, .int had, .int t, .int i, w6]) (st1 := [.int (9 + i), .ref 121]) (h1 := (124, I, J, R)) rfl ?_
  refine ev_ild (n := 100) rfl rfl (fun _ => rfl) n1 m1 ?_
  refine ev_go 1 (pc1 := 35) (lv1 := [.ref 86, .int p, .int q, .int had, .int t, .int i, w6]) (st1 := [.int p, .int (I 121 (9 + i).toNatClampNeg)]) (h1 := (124, I, J, R)) rfl ?_
  refine ev_br (b1 := false) rfl rfl (xcd_nne (x := (I 121 (9 + i).toNatClampNeg)) (y := p) (by first | exact b3 | omega)) ?_
  refine ev_go 3 (pc1 := 42) (lv1 := [.ref 86, .int p, .int q, .int had, .int t, .int i, w6]) (st1 := [.int q, .int i, .ref 86]) (h1 := (124, I, J, R)) rfl ?_
  refine ev_call (v1 := (some (.int g))) (h1 := (124, I, J, R)) rfl rfl c1 ?_
  refine ev_br (b1 := false) rfl rfl (xcd_nne (x := g) (y := 0) (by rw [show ((0 : Int32)).toInt = 0 from by decide]; first | exact b4 | omega)) ?_
  refine ev_go 2 (pc1 := 50) (lv1 := [.ref 86, .int p, .int q, .int had, .int t, .int i, w6]) (st1 := [.int q, .ref 86]) (h1 := (124, I, J, R)) rfl ?_
  refine ev_call (v1 := (some (.int c))) (h1 := (124, I, J, R)) rfl rfl c2 ?_
  refine ev_go 1 (pc1 := 54) (lv1 := [.ref 86, .int p, .int q, .int had, .int t, .int i, w6]) (st1 := [.ref 86, .int c]) (h1 := (124, I, J, R)) rfl ?_
  refine ev_gf (c := 86) (t := 90) (X := R 86 14) rfl rfl (fun _ => rfl) rfl (hG 86 14 90 rfl rfl) ?_
  refine ev_go 1 (pc1 := 58) (lv1 := [.ref 86, .int p, .int q, .int had, .int t, .int i, w6]) (st1 := [.int q, .ref 90, .int c]) (h1 := (124, I, J, R)) rfl ?_
  refine ev_ild (n := 14) rfl rfl (fun _ => rfl) n2 m2 ?_
  refine ev_br (b1 := true) rfl rfl (xcd_ge (x := c) (y := (I 90 q.toNatClampNeg)) (by first | exact b5 | omega)) ?_
  refine ev_go 6 (pc1 := 3) (lv1 := [.ref 86, .int p, .int q, .int had, .int t, .int (i + 1), .int 0]) (st1 := []) (h1 := (124, I, J, R)) rfl ?_
  exact hk
set_option maxRecDepth 20000 in
theorem vt_w {L : Nat} {xs : Nat → Int32} {d : Nat} {I : Nat → Nat → Int32} {J : Nat → Nat → Int64} {R : Nat → Nat → Nat} {I1 : Nat → Nat → Int32} {J1 : Nat → Nat → Int64} {p q had t i g c w : Int32} {w6 : Value} (hG : aGd R) (b1 : i.toInt < (I 88 2).toInt) (b2 : ((had >>> (i &&& 31)) &&& 1).toInt = 1) (n1 : 0 ≤ (9 + i).toInt) (m1 : (9 + i).toInt < 100) (b3 : (I 121 (9 + i).toNatClampNeg).toInt = p.toInt) (c1 : xEv L xs d 179 0 [.ref 86, .int i, .int q] [] (124, I, J, R) (some (.int g)) (124, I, J, R)) (b4 : g.toInt = 0) (c2 : xEv L xs d 228 0 [.ref 86, .int q, xmk, xmk] [] (124, I, J, R) (some (.int c)) (124, I, J, R)) (n2 : 0 ≤ q.toInt) (m2 : q.toInt < 14) (b5 : c.toInt < (I 90 q.toNatClampNeg).toInt) (c3 : xEv L xs d 229 0 [.ref 86, .int i, .int p, .int q, .int t] [] (124, I, J, R) (some (.int w)) (124, I1, J1, R)) (b6 : w.toInt = 0) {v : Option Value} {h' : xH} (hk : xEv L xs (d + 1) 227 3 [.ref 86, .int p, .int q, .int had, .int t, .int (i + 1), .int 1] [] (124, I1, J1, R) v h') : xEv L xs (d + 1) 227 3 [.ref 86, .int p, .int q, .int had, .int t, .int i, w6] [] (124, I, J, R) v h' := by
  refine ev_go 2 (pc1 := 6) (lv1 := [.ref 86, .int p, .int q, .int had, .int t, .int i, w6]) (st1 := [.ref 86, .int i]) (h1 := (124, I, J, R)) rfl ?_
  refine ev_gf (c := 86) (t := 88) (X := R 86 12) rfl rfl (fun _ => rfl) rfl (hG 86 12 88 rfl rfl) ?_
  refine ev_go 2 (pc1 := 11) (lv1 := [.ref 86, .int p, .int q, .int had, .int t, .int i, w6]) (st1 := [.int (I 88 2), .int i]) (h1 := (124, I, J, R)) rfl ?_
  refine ev_br (b1 := false) rfl rfl (xcd_nge (x := i) (y := (I 88 2)) (by first | exact b1 | omega)) ?_
  refine ev_go 2 (pc1 := 17) (lv1 := [.ref 86, .int p, .int q, .int had, .int t, .int i, w6]) (st1 := [.int i, .int had]) (h1 := (124, I, J, R)) rfl ?_
  refine ev_go 4 (pc1 := 21) (lv1 := [.ref 86, .int p, .int q, .int had, .int t, .int i, w6]) (st1 := [.int 1, .int ((had >>> (i &&& 31)) &&& 1)]) (h1 := (124, I, J, R)) rfl ?_
  refine ev_br (b1 := false) rfl rfl (xcd_nne (x := ((had >>> (i &&& 31)) &&& 1)) (y := 1) (by rw [show ((1 : Int32)).toInt = 1 from by decide]; first | exact b2 | omega)) ?_
  refine ev_go 1 (pc1 := 25) (lv1 := [.ref 86, .int p, .int q, .int had, .int t, .int i, w6]) (st1 := [.ref 86]) (h1 := (124, I, J, R)) rfl ?_
  refine ev_gf (c := 86) (t := 121) (X := R 86 56) rfl rfl (fun _ => rfl) rfl (hG 86 56 121 rfl rfl) ?_
  refine ev_go 3 (pc1 := 33) (lv1 := [.ref 86, .int p, .int q, .int had, .int t, .int i, w6]) (st1 := [.int (9 + i), .ref 121]) (h1 := (124, I, J, R)) rfl ?_
  refine ev_ild (n := 100) rfl rfl (fun _ => rfl) n1 m1 ?_
  refine ev_go 1 (pc1 := 35) (lv1 := [.ref 86, .int p, .int q, .int had, .int t, .int i, w6]) (st1 := [.int p, .int (I 121 (9 + i).toNatClampNeg)]) (h1 := (124, I, J, R)) rfl ?_
  refine ev_br (b1 := false) rfl rfl (xcd_nne (x := (I 121 (9 + i).toNatClampNeg)) (y := p) (by first | exact b3 | omega)) ?_
  refine ev_go 3 (pc1 := 42) (lv1 := [.ref 86, .int p, .int q, .int had, .int t, .int i, w6]) (st1 := [.int q, .int i, .ref 86]) (h1 := (124, I, J, R)) rfl ?_
  refine ev_call (v1 := (some (.int g))) (h1 := (124, I, J, R)) rfl rfl c1 ?_
  refine ev_br (b1 := false) rfl rfl (xcd_nne (x := g) (y := 0) (by rw [show ((0 : Int32)).toInt = 0 from by decide]; first | exact b4 | omega)) ?_
  refine ev_go 2 (pc1 := 50) (lv1 := [.ref 86, .int p, .int q, .int had, .int t, .int i, w6]) (st1 := [.int q, .ref 86]) (h1 := (124, I, J, R)) rfl ?_
  refine ev_call (v1 := (some (.int c))) (h1 := (124, I, J, R)) rfl rfl c2 ?_
  refine ev_go 1 (pc1 := 54) (lv1 := [.ref 86, .int p, .int q, .int had, .int t, .int i, w6]) (st1 := [.ref 86, .int c]) (h1 := (124, I, J, R)) rfl ?_
  refine ev_gf (c := 86) (t := 90) (X := R 86 14) rfl rfl (fun _ => rfl) rfl (hG 86 14 90 rfl rfl) ?_
  refine ev_go 1 (pc1 := 58) (lv1 := [.ref 86, .int p, .int q, .int had, .int t, .int i, w6]) (st1 := [.int q, .ref 90, .int c]) (h1 := (124, I, J, R)) rfl ?_
  refine ev_ild (n := 14) rfl rfl (fun _ => rfl) n2 m2 ?_
  refine ev_br (b1 := false) rfl rfl (xcd_nge (x := c) (y := (I 90 q.toNatClampNeg)) (by first | exact b5 | omega)) ?_
  refine ev_go 10 (pc1 := 81) (lv1 := [.ref 86, .int p, .int q, .int had, .int t, .int i, .int 1]) (st1 := [.int t, .int q, .int p, .int i, .ref 86]) (h1 := (124, I, J, R)) rfl ?_
  refine ev_call (v1 := (some (.int w))) (h1 := (124, I1, J1, R)) rfl rfl c3 ?_
  refine ev_br (b1 := false) rfl rfl (xcd_nne (x := w) (y := 0) (by rw [show ((0 : Int32)).toInt = 0 from by decide]; first | exact b6 | omega)) ?_
  refine ev_go 3 (pc1 := 3) (lv1 := [.ref 86, .int p, .int q, .int had, .int t, .int (i + 1), .int 1]) (st1 := []) (h1 := (124, I1, J1, R)) rfl ?_
  exact hk
set_option maxRecDepth 20000 in
theorem vt_t {L : Nat} {xs : Nat → Int32} {d : Nat} {I : Nat → Nat → Int32} {J : Nat → Nat → Int64} {R : Nat → Nat → Nat} {I1 : Nat → Nat → Int32} {J1 : Nat → Nat → Int64} {p q had t i g c w : Int32} {w6 : Value} (hG : aGd R) (b1 : i.toInt < (I 88 2).toInt) (b2 : ((had >>> (i &&& 31)) &&& 1).toInt = 1) (n1 : 0 ≤ (9 + i).toInt) (m1 : (9 + i).toInt < 100) (b3 : (I 121 (9 + i).toNatClampNeg).toInt = p.toInt) (c1 : xEv L xs d 179 0 [.ref 86, .int i, .int q] [] (124, I, J, R) (some (.int g)) (124, I, J, R)) (b4 : g.toInt = 0) (c2 : xEv L xs d 228 0 [.ref 86, .int q, xmk, xmk] [] (124, I, J, R) (some (.int c)) (124, I, J, R)) (n2 : 0 ≤ q.toInt) (m2 : q.toInt < 14) (b5 : c.toInt < (I 90 q.toNatClampNeg).toInt) (c3 : xEv L xs d 229 0 [.ref 86, .int i, .int p, .int q, .int t] [] (124, I, J, R) (some (.int w)) (124, I1, J1, R)) (b6 : w.toInt ≠ 0) (n3 : 0 ≤ (9 + i).toInt) (m3 : (9 + i).toInt < 100) (n4 : 0 ≤ (13 + i).toInt) (m4 : (13 + i).toInt < 100) (n5 : 0 ≤ (13 + i).toInt) (m5 : (13 + i).toInt < 100) (n6 : 0 ≤ (21 + i).toInt) (m6 : (21 + i).toInt < 100) (n7 : 0 ≤ i.toInt) (m7 : i.toInt < 8) (b7 : q.toInt ≠ (I1 97 i.toNatClampNeg).toInt) {v : Option Value} {h' : xH} (hk : xEv L xs (d + 1) 227 3 [.ref 86, .int p, .int q, .int had, .int t, .int (i + 1), .int 1] [] (124, (uI (uI (uI I1 121 (9 + i).toNatClampNeg q) 121 (13 + i).toNatClampNeg (((uI I1 121 (9 + i).toNatClampNeg q) 121 (13 + i).toNatClampNeg) + 1)) 121 (21 + i).toNatClampNeg p), J1, R) v h') : xEv L xs (d + 1) 227 3 [.ref 86, .int p, .int q, .int had, .int t, .int i, w6] [] (124, I, J, R) v h' := by
  refine ev_go 2 (pc1 := 6) (lv1 := [.ref 86, .int p, .int q, .int had, .int t, .int i, w6]) (st1 := [.ref 86, .int i]) (h1 := (124, I, J, R)) rfl ?_
  refine ev_gf (c := 86) (t := 88) (X := R 86 12) rfl rfl (fun _ => rfl) rfl (hG 86 12 88 rfl rfl) ?_
  refine ev_go 2 (pc1 := 11) (lv1 := [.ref 86, .int p, .int q, .int had, .int t, .int i, w6]) (st1 := [.int (I 88 2), .int i]) (h1 := (124, I, J, R)) rfl ?_
  refine ev_br (b1 := false) rfl rfl (xcd_nge (x := i) (y := (I 88 2)) (by first | exact b1 | omega)) ?_
  refine ev_go 2 (pc1 := 17) (lv1 := [.ref 86, .int p, .int q, .int had, .int t, .int i, w6]) (st1 := [.int i, .int had]) (h1 := (124, I, J, R)) rfl ?_
  refine ev_go 4 (pc1 := 21) (lv1 := [.ref 86, .int p, .int q, .int had, .int t, .int i, w6]) (st1 := [.int 1, .int ((had >>> (i &&& 31)) &&& 1)]) (h1 := (124, I, J, R)) rfl ?_
  refine ev_br (b1 := false) rfl rfl (xcd_nne (x := ((had >>> (i &&& 31)) &&& 1)) (y := 1) (by rw [show ((1 : Int32)).toInt = 1 from by decide]; first | exact b2 | omega)) ?_
  refine ev_go 1 (pc1 := 25) (lv1 := [.ref 86, .int p, .int q, .int had, .int t, .int i, w6]) (st1 := [.ref 86]) (h1 := (124, I, J, R)) rfl ?_
  refine ev_gf (c := 86) (t := 121) (X := R 86 56) rfl rfl (fun _ => rfl) rfl (hG 86 56 121 rfl rfl) ?_
  refine ev_go 3 (pc1 := 33) (lv1 := [.ref 86, .int p, .int q, .int had, .int t, .int i, w6]) (st1 := [.int (9 + i), .ref 121]) (h1 := (124, I, J, R)) rfl ?_
  refine ev_ild (n := 100) rfl rfl (fun _ => rfl) n1 m1 ?_
  refine ev_go 1 (pc1 := 35) (lv1 := [.ref 86, .int p, .int q, .int had, .int t, .int i, w6]) (st1 := [.int p, .int (I 121 (9 + i).toNatClampNeg)]) (h1 := (124, I, J, R)) rfl ?_
  refine ev_br (b1 := false) rfl rfl (xcd_nne (x := (I 121 (9 + i).toNatClampNeg)) (y := p) (by first | exact b3 | omega)) ?_
  refine ev_go 3 (pc1 := 42) (lv1 := [.ref 86, .int p, .int q, .int had, .int t, .int i, w6]) (st1 := [.int q, .int i, .ref 86]) (h1 := (124, I, J, R)) rfl ?_
  refine ev_call (v1 := (some (.int g))) (h1 := (124, I, J, R)) rfl rfl c1 ?_
  refine ev_br (b1 := false) rfl rfl (xcd_nne (x := g) (y := 0) (by rw [show ((0 : Int32)).toInt = 0 from by decide]; first | exact b4 | omega)) ?_
  refine ev_go 2 (pc1 := 50) (lv1 := [.ref 86, .int p, .int q, .int had, .int t, .int i, w6]) (st1 := [.int q, .ref 86]) (h1 := (124, I, J, R)) rfl ?_
  refine ev_call (v1 := (some (.int c))) (h1 := (124, I, J, R)) rfl rfl c2 ?_
  refine ev_go 1 (pc1 := 54) (lv1 := [.ref 86, .int p, .int q, .int had, .int t, .int i, w6]) (st1 := [.ref 86, .int c]) (h1 := (124, I, J, R)) rfl ?_
  refine ev_gf (c := 86) (t := 90) (X := R 86 14) rfl rfl (fun _ => rfl) rfl (hG 86 14 90 rfl rfl) ?_
  refine ev_go 1 (pc1 := 58) (lv1 := [.ref 86, .int p, .int q, .int had, .int t, .int i, w6]) (st1 := [.int q, .ref 90, .int c]) (h1 := (124, I, J, R)) rfl ?_
  refine ev_ild (n := 14) rfl rfl (fun _ => rfl) n2 m2 ?_
  refine ev_br (b1 := false) rfl rfl (xcd_nge (x := c) (y := (I 90 q.toNatClampNeg)) (by first | exact b5 | omega)) ?_
  refine ev_go 10 (pc1 := 81) (lv1 := [.ref 86, .int p, .int q, .int had, .int t, .int i, .int 1]) (st1 := [.int t, .int q, .int p, .int i, .ref 86]) (h1 := (124, I, J, R)) rfl ?_
  refine ev_call (v1 := (some (.int w))) (h1 := (124, I1, J1, R)) rfl rfl c3 ?_
  refine ev_br (b1 := true) rfl rfl (xcd_ne (x := w) (y := 0) (by rw [show ((0 : Int32)).toInt = 0 from by decide]; first | exact b6 | omega)) ?_
  refine ev_go 1 (pc1 := 91) (lv1 := [.ref 86, .int p, .int q, .int had, .int t, .int i, .int 1]) (st1 := [.ref 86]) (h1 := (124, I1, J1, R)) rfl ?_
  refine ev_gf (c := 86) (t := 121) (X := R 86 56) rfl rfl (fun _ => rfl) rfl (hG 86 56 121 rfl rfl) ?_
  refine ev_go 4 (pc1 := 100) (lv1 := [.ref 86, .int p, .int q, .int had, .int t, .int i, .int 1]) (st1 := [.int q, .int (9 + i), .ref 121]) (h1 := (124, I1, J1, R)) rfl ?_
  refine ev_ist (n := 100) rfl rfl (fun _ => rfl) n3 m3 ?_
  refine ev_go 1 (pc1 := 102) (lv1 := [.ref 86, .int p, .int q, .int had, .int t, .int i, .int 1]) (st1 := [.ref 86]) (h1 := (124, (uI I1 121 (9 + i).toNatClampNeg q), J1, R)) rfl ?_
  refine ev_gf (c := 86) (t := 121) (X := R 86 56) rfl rfl (fun _ => rfl) rfl (hG 86 56 121 rfl rfl) ?_
  refine ev_go 4 (pc1 := 111) (lv1 := [.ref 86, .int p, .int q, .int had, .int t, .int i, .int 1]) (st1 := [.int (13 + i), .ref 121, .int (13 + i), .ref 121]) (h1 := (124, (uI I1 121 (9 + i).toNatClampNeg q), J1, R)) rfl ?_
  refine ev_ild (n := 100) rfl rfl (fun _ => rfl) n4 m4 ?_
  refine ev_go 2 (pc1 := 114) (lv1 := [.ref 86, .int p, .int q, .int had, .int t, .int i, .int 1]) (st1 := [.int (((uI I1 121 (9 + i).toNatClampNeg q) 121 (13 + i).toNatClampNeg) + 1), .int (13 + i), .ref 121]) (h1 := (124, (uI I1 121 (9 + i).toNatClampNeg q), J1, R)) rfl ?_
  refine ev_ist (n := 100) rfl rfl (fun _ => rfl) n5 m5 ?_
  refine ev_go 1 (pc1 := 116) (lv1 := [.ref 86, .int p, .int q, .int had, .int t, .int i, .int 1]) (st1 := [.ref 86]) (h1 := (124, (uI (uI I1 121 (9 + i).toNatClampNeg q) 121 (13 + i).toNatClampNeg (((uI I1 121 (9 + i).toNatClampNeg q) 121 (13 + i).toNatClampNeg) + 1)), J1, R)) rfl ?_
  refine ev_gf (c := 86) (t := 121) (X := R 86 56) rfl rfl (fun _ => rfl) rfl (hG 86 56 121 rfl rfl) ?_
  refine ev_go 4 (pc1 := 125) (lv1 := [.ref 86, .int p, .int q, .int had, .int t, .int i, .int 1]) (st1 := [.int p, .int (21 + i), .ref 121]) (h1 := (124, (uI (uI I1 121 (9 + i).toNatClampNeg q) 121 (13 + i).toNatClampNeg (((uI I1 121 (9 + i).toNatClampNeg q) 121 (13 + i).toNatClampNeg) + 1)), J1, R)) rfl ?_
  refine ev_ist (n := 100) rfl rfl (fun _ => rfl) n6 m6 ?_
  refine ev_go 2 (pc1 := 128) (lv1 := [.ref 86, .int p, .int q, .int had, .int t, .int i, .int 1]) (st1 := [.ref 86, .int q]) (h1 := (124, (uI (uI (uI I1 121 (9 + i).toNatClampNeg q) 121 (13 + i).toNatClampNeg (((uI I1 121 (9 + i).toNatClampNeg q) 121 (13 + i).toNatClampNeg) + 1)) 121 (21 + i).toNatClampNeg p), J1, R)) rfl ?_
  refine ev_gf (c := 86) (t := 97) (X := R 86 21) rfl rfl (fun _ => rfl) rfl (hG 86 21 97 rfl rfl) ?_
  refine ev_go 1 (pc1 := 133) (lv1 := [.ref 86, .int p, .int q, .int had, .int t, .int i, .int 1]) (st1 := [.int i, .ref 97, .int q]) (h1 := (124, (uI (uI (uI I1 121 (9 + i).toNatClampNeg q) 121 (13 + i).toNatClampNeg (((uI I1 121 (9 + i).toNatClampNeg q) 121 (13 + i).toNatClampNeg) + 1)) 121 (21 + i).toNatClampNeg p), J1, R)) rfl ?_
  refine ev_ild (n := 8) rfl rfl (fun _ => rfl) n7 m7 ?_
  refine ev_br (b1 := true) rfl rfl (xcd_ne (x := q) (y := (I1 97 i.toNatClampNeg)) (by first | exact b7 | omega)) ?_
  refine ev_go 2 (pc1 := 3) (lv1 := [.ref 86, .int p, .int q, .int had, .int t, .int (i + 1), .int 1]) (st1 := []) (h1 := (124, (uI (uI (uI I1 121 (9 + i).toNatClampNeg q) 121 (13 + i).toNatClampNeg (((uI I1 121 (9 + i).toNatClampNeg q) 121 (13 + i).toNatClampNeg) + 1)) 121 (21 + i).toNatClampNeg p), J1, R)) rfl ?_
  exact hk
set_option maxRecDepth 20000 in
theorem vt_c {L : Nat} {xs : Nat → Int32} {d : Nat} {I : Nat → Nat → Int32} {J : Nat → Nat → Int64} {R : Nat → Nat → Nat} {I1 : Nat → Nat → Int32} {J1 : Nat → Nat → Int64} {p q had t i g c w : Int32} {w6 : Value} (hG : aGd R) (b1 : i.toInt < (I 88 2).toInt) (b2 : ((had >>> (i &&& 31)) &&& 1).toInt = 1) (n1 : 0 ≤ (9 + i).toInt) (m1 : (9 + i).toInt < 100) (b3 : (I 121 (9 + i).toNatClampNeg).toInt = p.toInt) (c1 : xEv L xs d 179 0 [.ref 86, .int i, .int q] [] (124, I, J, R) (some (.int g)) (124, I, J, R)) (b4 : g.toInt = 0) (c2 : xEv L xs d 228 0 [.ref 86, .int q, xmk, xmk] [] (124, I, J, R) (some (.int c)) (124, I, J, R)) (n2 : 0 ≤ q.toInt) (m2 : q.toInt < 14) (b5 : c.toInt < (I 90 q.toNatClampNeg).toInt) (c3 : xEv L xs d 229 0 [.ref 86, .int i, .int p, .int q, .int t] [] (124, I, J, R) (some (.int w)) (124, I1, J1, R)) (b6 : w.toInt ≠ 0) (n3 : 0 ≤ (9 + i).toInt) (m3 : (9 + i).toInt < 100) (n4 : 0 ≤ (13 + i).toInt) (m4 : (13 + i).toInt < 100) (n5 : 0 ≤ (13 + i).toInt) (m5 : (13 + i).toInt < 100) (n6 : 0 ≤ (21 + i).toInt) (m6 : (21 + i).toInt < 100) (n7 : 0 ≤ i.toInt) (m7 : i.toInt < 8) (b7 : q.toInt = (I1 97 i.toNatClampNeg).toInt) (n8 : 0 ≤ (17 + i).toInt) (m8 : (17 + i).toInt < 100) (b8 : ((uI (uI (uI I1 121 (9 + i).toNatClampNeg q) 121 (13 + i).toNatClampNeg (((uI I1 121 (9 + i).toNatClampNeg q) 121 (13 + i).toNatClampNeg) + 1)) 121 (21 + i).toNatClampNeg p) 121 (17 + i).toNatClampNeg).toInt ≠ -1) {v : Option Value} {h' : xH} (hk : xEv L xs (d + 1) 227 3 [.ref 86, .int p, .int q, .int had, .int t, .int (i + 1), .int 1] [] (124, (uI (uI (uI I1 121 (9 + i).toNatClampNeg q) 121 (13 + i).toNatClampNeg (((uI I1 121 (9 + i).toNatClampNeg q) 121 (13 + i).toNatClampNeg) + 1)) 121 (21 + i).toNatClampNeg p), J1, R) v h') : xEv L xs (d + 1) 227 3 [.ref 86, .int p, .int q, .int had, .int t, .int i, w6] [] (124, I, J, R) v h' := by
  refine ev_go 2 (pc1 := 6) (lv1 := [.ref 86, .int p, .int q, .int had, .int t, .int i, w6]) (st1 := [.ref 86, .int i]) (h1 := (124, I, J, R)) rfl ?_
  refine ev_gf (c := 86) (t := 88) (X := R 86 12) rfl rfl (fun _ => rfl) rfl (hG 86 12 88 rfl rfl) ?_
  refine ev_go 2 (pc1 := 11) (lv1 := [.ref 86, .int p, .int q, .int had, .int t, .int i, w6]) (st1 := [.int (I 88 2), .int i]) (h1 := (124, I, J, R)) rfl ?_
  refine ev_br (b1 := false) rfl rfl (xcd_nge (x := i) (y := (I 88 2)) (by first | exact b1 | omega)) ?_
  refine ev_go 2 (pc1 := 17) (lv1 := [.ref 86, .int p, .int q, .int had, .int t, .int i, w6]) (st1 := [.int i, .int had]) (h1 := (124, I, J, R)) rfl ?_
  refine ev_go 4 (pc1 := 21) (lv1 := [.ref 86, .int p, .int q, .int had, .int t, .int i, w6]) (st1 := [.int 1, .int ((had >>> (i &&& 31)) &&& 1)]) (h1 := (124, I, J, R)) rfl ?_
  refine ev_br (b1 := false) rfl rfl (xcd_nne (x := ((had >>> (i &&& 31)) &&& 1)) (y := 1) (by rw [show ((1 : Int32)).toInt = 1 from by decide]; first | exact b2 | omega)) ?_
  refine ev_go 1 (pc1 := 25) (lv1 := [.ref 86, .int p, .int q, .int had, .int t, .int i, w6]) (st1 := [.ref 86]) (h1 := (124, I, J, R)) rfl ?_
  refine ev_gf (c := 86) (t := 121) (X := R 86 56) rfl rfl (fun _ => rfl) rfl (hG 86 56 121 rfl rfl) ?_
  refine ev_go 3 (pc1 := 33) (lv1 := [.ref 86, .int p, .int q, .int had, .int t, .int i, w6]) (st1 := [.int (9 + i), .ref 121]) (h1 := (124, I, J, R)) rfl ?_
  refine ev_ild (n := 100) rfl rfl (fun _ => rfl) n1 m1 ?_
  refine ev_go 1 (pc1 := 35) (lv1 := [.ref 86, .int p, .int q, .int had, .int t, .int i, w6]) (st1 := [.int p, .int (I 121 (9 + i).toNatClampNeg)]) (h1 := (124, I, J, R)) rfl ?_
  refine ev_br (b1 := false) rfl rfl (xcd_nne (x := (I 121 (9 + i).toNatClampNeg)) (y := p) (by first | exact b3 | omega)) ?_
  refine ev_go 3 (pc1 := 42) (lv1 := [.ref 86, .int p, .int q, .int had, .int t, .int i, w6]) (st1 := [.int q, .int i, .ref 86]) (h1 := (124, I, J, R)) rfl ?_
  refine ev_call (v1 := (some (.int g))) (h1 := (124, I, J, R)) rfl rfl c1 ?_
  refine ev_br (b1 := false) rfl rfl (xcd_nne (x := g) (y := 0) (by rw [show ((0 : Int32)).toInt = 0 from by decide]; first | exact b4 | omega)) ?_
  refine ev_go 2 (pc1 := 50) (lv1 := [.ref 86, .int p, .int q, .int had, .int t, .int i, w6]) (st1 := [.int q, .ref 86]) (h1 := (124, I, J, R)) rfl ?_
  refine ev_call (v1 := (some (.int c))) (h1 := (124, I, J, R)) rfl rfl c2 ?_
  refine ev_go 1 (pc1 := 54) (lv1 := [.ref 86, .int p, .int q, .int had, .int t, .int i, w6]) (st1 := [.ref 86, .int c]) (h1 := (124, I, J, R)) rfl ?_
  refine ev_gf (c := 86) (t := 90) (X := R 86 14) rfl rfl (fun _ => rfl) rfl (hG 86 14 90 rfl rfl) ?_
  refine ev_go 1 (pc1 := 58) (lv1 := [.ref 86, .int p, .int q, .int had, .int t, .int i, w6]) (st1 := [.int q, .ref 90, .int c]) (h1 := (124, I, J, R)) rfl ?_
  refine ev_ild (n := 14) rfl rfl (fun _ => rfl) n2 m2 ?_
  refine ev_br (b1 := false) rfl rfl (xcd_nge (x := c) (y := (I 90 q.toNatClampNeg)) (by first | exact b5 | omega)) ?_
  refine ev_go 10 (pc1 := 81) (lv1 := [.ref 86, .int p, .int q, .int had, .int t, .int i, .int 1]) (st1 := [.int t, .int q, .int p, .int i, .ref 86]) (h1 := (124, I, J, R)) rfl ?_
  refine ev_call (v1 := (some (.int w))) (h1 := (124, I1, J1, R)) rfl rfl c3 ?_
  refine ev_br (b1 := true) rfl rfl (xcd_ne (x := w) (y := 0) (by rw [show ((0 : Int32)).toInt = 0 from by decide]; first | exact b6 | omega)) ?_
  refine ev_go 1 (pc1 := 91) (lv1 := [.ref 86, .int p, .int q, .int had, .int t, .int i, .int 1]) (st1 := [.ref 86]) (h1 := (124, I1, J1, R)) rfl ?_
  refine ev_gf (c := 86) (t := 121) (X := R 86 56) rfl rfl (fun _ => rfl) rfl (hG 86 56 121 rfl rfl) ?_
  refine ev_go 4 (pc1 := 100) (lv1 := [.ref 86, .int p, .int q, .int had, .int t, .int i, .int 1]) (st1 := [.int q, .int (9 + i), .ref 121]) (h1 := (124, I1, J1, R)) rfl ?_
  refine ev_ist (n := 100) rfl rfl (fun _ => rfl) n3 m3 ?_
  refine ev_go 1 (pc1 := 102) (lv1 := [.ref 86, .int p, .int q, .int had, .int t, .int i, .int 1]) (st1 := [.ref 86]) (h1 := (124, (uI I1 121 (9 + i).toNatClampNeg q), J1, R)) rfl ?_
  refine ev_gf (c := 86) (t := 121) (X := R 86 56) rfl rfl (fun _ => rfl) rfl (hG 86 56 121 rfl rfl) ?_
  refine ev_go 4 (pc1 := 111) (lv1 := [.ref 86, .int p, .int q, .int had, .int t, .int i, .int 1]) (st1 := [.int (13 + i), .ref 121, .int (13 + i), .ref 121]) (h1 := (124, (uI I1 121 (9 + i).toNatClampNeg q), J1, R)) rfl ?_
  refine ev_ild (n := 100) rfl rfl (fun _ => rfl) n4 m4 ?_
  refine ev_go 2 (pc1 := 114) (lv1 := [.ref 86, .int p, .int q, .int had, .int t, .int i, .int 1]) (st1 := [.int (((uI I1 121 (9 + i).toNatClampNeg q) 121 (13 + i).toNatClampNeg) + 1), .int (13 + i), .ref 121]) (h1 := (124, (uI I1 121 (9 + i).toNatClampNeg q), J1, R)) rfl ?_
  refine ev_ist (n := 100) rfl rfl (fun _ => rfl) n5 m5 ?_
  refine ev_go 1 (pc1 := 116) (lv1 := [.ref 86, .int p, .int q, .int had, .int t, .int i, .int 1]) (st1 := [.ref 86]) (h1 := (124, (uI (uI I1 121 (9 + i).toNatClampNeg q) 121 (13 + i).toNatClampNeg (((uI I1 121 (9 + i).toNatClampNeg q) 121 (13 + i).toNatClampNeg) + 1)), J1, R)) rfl ?_
  refine ev_gf (c := 86) (t := 121) (X := R 86 56) rfl rfl (fun _ => rfl) rfl (hG 86 56 121 rfl rfl) ?_
  refine ev_go 4 (pc1 := 125) (lv1 := [.ref 86, .int p, .int q, .int had, .int t, .int i, .int 1]) (st1 := [.int p, .int (21 + i), .ref 121]) (h1 := (124, (uI (uI I1 121 (9 + i).toNatClampNeg q) 121 (13 + i).toNatClampNeg (((uI I1 121 (9 + i).toNatClampNeg q) 121 (13 + i).toNatClampNeg) + 1)), J1, R)) rfl ?_
  refine ev_ist (n := 100) rfl rfl (fun _ => rfl) n6 m6 ?_
  refine ev_go 2 (pc1 := 128) (lv1 := [.ref 86, .int p, .int q, .int had, .int t, .int i, .int 1]) (st1 := [.ref 86, .int q]) (h1 := (124, (uI (uI (uI I1 121 (9 + i).toNatClampNeg q) 121 (13 + i).toNatClampNeg (((uI I1 121 (9 + i).toNatClampNeg q) 121 (13 + i).toNatClampNeg) + 1)) 121 (21 + i).toNatClampNeg p), J1, R)) rfl ?_
  refine ev_gf (c := 86) (t := 97) (X := R 86 21) rfl rfl (fun _ => rfl) rfl (hG 86 21 97 rfl rfl) ?_
  refine ev_go 1 (pc1 := 133) (lv1 := [.ref 86, .int p, .int q, .int had, .int t, .int i, .int 1]) (st1 := [.int i, .ref 97, .int q]) (h1 := (124, (uI (uI (uI I1 121 (9 + i).toNatClampNeg q) 121 (13 + i).toNatClampNeg (((uI I1 121 (9 + i).toNatClampNeg q) 121 (13 + i).toNatClampNeg) + 1)) 121 (21 + i).toNatClampNeg p), J1, R)) rfl ?_
  refine ev_ild (n := 8) rfl rfl (fun _ => rfl) n7 m7 ?_
  refine ev_br (b1 := false) rfl rfl (xcd_nne (x := q) (y := (I1 97 i.toNatClampNeg)) (by first | exact b7 | omega)) ?_
  refine ev_go 1 (pc1 := 138) (lv1 := [.ref 86, .int p, .int q, .int had, .int t, .int i, .int 1]) (st1 := [.ref 86]) (h1 := (124, (uI (uI (uI I1 121 (9 + i).toNatClampNeg q) 121 (13 + i).toNatClampNeg (((uI I1 121 (9 + i).toNatClampNeg q) 121 (13 + i).toNatClampNeg) + 1)) 121 (21 + i).toNatClampNeg p), J1, R)) rfl ?_
  refine ev_gf (c := 86) (t := 121) (X := R 86 56) rfl rfl (fun _ => rfl) rfl (hG 86 56 121 rfl rfl) ?_
  refine ev_go 3 (pc1 := 146) (lv1 := [.ref 86, .int p, .int q, .int had, .int t, .int i, .int 1]) (st1 := [.int (17 + i), .ref 121]) (h1 := (124, (uI (uI (uI I1 121 (9 + i).toNatClampNeg q) 121 (13 + i).toNatClampNeg (((uI I1 121 (9 + i).toNatClampNeg q) 121 (13 + i).toNatClampNeg) + 1)) 121 (21 + i).toNatClampNeg p), J1, R)) rfl ?_
  refine ev_ild (n := 100) rfl rfl (fun _ => rfl) n8 m8 ?_
  refine ev_go 1 (pc1 := 148) (lv1 := [.ref 86, .int p, .int q, .int had, .int t, .int i, .int 1]) (st1 := [.int (-1), .int ((uI (uI (uI I1 121 (9 + i).toNatClampNeg q) 121 (13 + i).toNatClampNeg (((uI I1 121 (9 + i).toNatClampNeg q) 121 (13 + i).toNatClampNeg) + 1)) 121 (21 + i).toNatClampNeg p) 121 (17 + i).toNatClampNeg)]) (h1 := (124, (uI (uI (uI I1 121 (9 + i).toNatClampNeg q) 121 (13 + i).toNatClampNeg (((uI I1 121 (9 + i).toNatClampNeg q) 121 (13 + i).toNatClampNeg) + 1)) 121 (21 + i).toNatClampNeg p), J1, R)) rfl ?_
  refine ev_br (b1 := true) rfl rfl (xcd_ne (x := ((uI (uI (uI I1 121 (9 + i).toNatClampNeg q) 121 (13 + i).toNatClampNeg (((uI I1 121 (9 + i).toNatClampNeg q) 121 (13 + i).toNatClampNeg) + 1)) 121 (21 + i).toNatClampNeg p) 121 (17 + i).toNatClampNeg)) (y := (-1)) (by rw [show ((-1 : Int32)).toInt = -1 from by decide]; first | exact b8 | omega)) ?_
  refine ev_go 2 (pc1 := 3) (lv1 := [.ref 86, .int p, .int q, .int had, .int t, .int (i + 1), .int 1]) (st1 := []) (h1 := (124, (uI (uI (uI I1 121 (9 + i).toNatClampNeg q) 121 (13 + i).toNatClampNeg (((uI I1 121 (9 + i).toNatClampNeg q) 121 (13 + i).toNatClampNeg) + 1)) 121 (21 + i).toNatClampNeg p), J1, R)) rfl ?_
  exact hk
set_option maxRecDepth 20000 in
theorem vt_p {L : Nat} {xs : Nat → Int32} {d : Nat} {I : Nat → Nat → Int32} {J : Nat → Nat → Int64} {R : Nat → Nat → Nat} {I1 : Nat → Nat → Int32} {J1 : Nat → Nat → Int64} {p q had t i g c w : Int32} {w6 : Value} (hG : aGd R) (b1 : i.toInt < (I 88 2).toInt) (b2 : ((had >>> (i &&& 31)) &&& 1).toInt = 1) (n1 : 0 ≤ (9 + i).toInt) (m1 : (9 + i).toInt < 100) (b3 : (I 121 (9 + i).toNatClampNeg).toInt = p.toInt) (c1 : xEv L xs d 179 0 [.ref 86, .int i, .int q] [] (124, I, J, R) (some (.int g)) (124, I, J, R)) (b4 : g.toInt = 0) (c2 : xEv L xs d 228 0 [.ref 86, .int q, xmk, xmk] [] (124, I, J, R) (some (.int c)) (124, I, J, R)) (n2 : 0 ≤ q.toInt) (m2 : q.toInt < 14) (b5 : c.toInt < (I 90 q.toNatClampNeg).toInt) (c3 : xEv L xs d 229 0 [.ref 86, .int i, .int p, .int q, .int t] [] (124, I, J, R) (some (.int w)) (124, I1, J1, R)) (b6 : w.toInt ≠ 0) (n3 : 0 ≤ (9 + i).toInt) (m3 : (9 + i).toInt < 100) (n4 : 0 ≤ (13 + i).toInt) (m4 : (13 + i).toInt < 100) (n5 : 0 ≤ (13 + i).toInt) (m5 : (13 + i).toInt < 100) (n6 : 0 ≤ (21 + i).toInt) (m6 : (21 + i).toInt < 100) (n7 : 0 ≤ i.toInt) (m7 : i.toInt < 8) (b7 : q.toInt = (I1 97 i.toNatClampNeg).toInt) (n8 : 0 ≤ (17 + i).toInt) (m8 : (17 + i).toInt < 100) (b8 : ((uI (uI (uI I1 121 (9 + i).toNatClampNeg q) 121 (13 + i).toNatClampNeg (((uI I1 121 (9 + i).toNatClampNeg q) 121 (13 + i).toNatClampNeg) + 1)) 121 (21 + i).toNatClampNeg p) 121 (17 + i).toNatClampNeg).toInt = -1) (n9 : 0 ≤ (17 + i).toInt) (m9 : (17 + i).toInt < 100) {v : Option Value} {h' : xH} (hk : xEv L xs (d + 1) 227 3 [.ref 86, .int p, .int q, .int had, .int t, .int (i + 1), .int 1] [] (124, (uI (uI (uI (uI I1 121 (9 + i).toNatClampNeg q) 121 (13 + i).toNatClampNeg (((uI I1 121 (9 + i).toNatClampNeg q) 121 (13 + i).toNatClampNeg) + 1)) 121 (21 + i).toNatClampNeg p) 121 (17 + i).toNatClampNeg t), J1, R) v h') : xEv L xs (d + 1) 227 3 [.ref 86, .int p, .int q, .int had, .int t, .int i, w6] [] (124, I, J, R) v h' := by
  refine ev_go 2 (pc1 := 6) (lv1 := [.ref 86, .int p, .int q, .int had, .int t, .int i, w6]) (st1 := [.ref 86, .int i]) (h1 := (124, I, J, R)) rfl ?_
  refine ev_gf (c := 86) (t := 88) (X := R 86 12) rfl rfl (fun _ => rfl) rfl (hG 86 12 88 rfl rfl) ?_
  refine ev_go 2 (pc1 := 11) (lv1 := [.ref 86, .int p, .int q, .int had, .int t, .int i, w6]) (st1 := [.int (I 88 2), .int i]) (h1 := (124, I, J, R)) rfl ?_
  refine ev_br (b1 := false) rfl rfl (xcd_nge (x := i) (y := (I 88 2)) (by first | exact b1 | omega)) ?_
  refine ev_go 2 (pc1 := 17) (lv1 := [.ref 86, .int p, .int q, .int had, .int t, .int i, w6]) (st1 := [.int i, .int had]) (h1 := (124, I, J, R)) rfl ?_
  refine ev_go 4 (pc1 := 21) (lv1 := [.ref 86, .int p, .int q, .int had, .int t, .int i, w6]) (st1 := [.int 1, .int ((had >>> (i &&& 31)) &&& 1)]) (h1 := (124, I, J, R)) rfl ?_
  refine ev_br (b1 := false) rfl rfl (xcd_nne (x := ((had >>> (i &&& 31)) &&& 1)) (y := 1) (by rw [show ((1 : Int32)).toInt = 1 from by decide]; first | exact b2 | omega)) ?_
  refine ev_go 1 (pc1 := 25) (lv1 := [.ref 86, .int p, .int q, .int had, .int t, .int i, w6]) (st1 := [.ref 86]) (h1 := (124, I, J, R)) rfl ?_
  refine ev_gf (c := 86) (t := 121) (X := R 86 56) rfl rfl (fun _ => rfl) rfl (hG 86 56 121 rfl rfl) ?_
  refine ev_go 3 (pc1 := 33) (lv1 := [.ref 86, .int p, .int q, .int had, .int t, .int i, w6]) (st1 := [.int (9 + i), .ref 121]) (h1 := (124, I, J, R)) rfl ?_
  refine ev_ild (n := 100) rfl rfl (fun _ => rfl) n1 m1 ?_
  refine ev_go 1 (pc1 := 35) (lv1 := [.ref 86, .int p, .int q, .int had, .int t, .int i, w6]) (st1 := [.int p, .int (I 121 (9 + i).toNatClampNeg)]) (h1 := (124, I, J, R)) rfl ?_
  refine ev_br (b1 := false) rfl rfl (xcd_nne (x := (I 121 (9 + i).toNatClampNeg)) (y := p) (by first | exact b3 | omega)) ?_
  refine ev_go 3 (pc1 := 42) (lv1 := [.ref 86, .int p, .int q, .int had, .int t, .int i, w6]) (st1 := [.int q, .int i, .ref 86]) (h1 := (124, I, J, R)) rfl ?_
  refine ev_call (v1 := (some (.int g))) (h1 := (124, I, J, R)) rfl rfl c1 ?_
  refine ev_br (b1 := false) rfl rfl (xcd_nne (x := g) (y := 0) (by rw [show ((0 : Int32)).toInt = 0 from by decide]; first | exact b4 | omega)) ?_
  refine ev_go 2 (pc1 := 50) (lv1 := [.ref 86, .int p, .int q, .int had, .int t, .int i, w6]) (st1 := [.int q, .ref 86]) (h1 := (124, I, J, R)) rfl ?_
  refine ev_call (v1 := (some (.int c))) (h1 := (124, I, J, R)) rfl rfl c2 ?_
  refine ev_go 1 (pc1 := 54) (lv1 := [.ref 86, .int p, .int q, .int had, .int t, .int i, w6]) (st1 := [.ref 86, .int c]) (h1 := (124, I, J, R)) rfl ?_
  refine ev_gf (c := 86) (t := 90) (X := R 86 14) rfl rfl (fun _ => rfl) rfl (hG 86 14 90 rfl rfl) ?_
  refine ev_go 1 (pc1 := 58) (lv1 := [.ref 86, .int p, .int q, .int had, .int t, .int i, w6]) (st1 := [.int q, .ref 90, .int c]) (h1 := (124, I, J, R)) rfl ?_
  refine ev_ild (n := 14) rfl rfl (fun _ => rfl) n2 m2 ?_
  refine ev_br (b1 := false) rfl rfl (xcd_nge (x := c) (y := (I 90 q.toNatClampNeg)) (by first | exact b5 | omega)) ?_
  refine ev_go 10 (pc1 := 81) (lv1 := [.ref 86, .int p, .int q, .int had, .int t, .int i, .int 1]) (st1 := [.int t, .int q, .int p, .int i, .ref 86]) (h1 := (124, I, J, R)) rfl ?_
  refine ev_call (v1 := (some (.int w))) (h1 := (124, I1, J1, R)) rfl rfl c3 ?_
  refine ev_br (b1 := true) rfl rfl (xcd_ne (x := w) (y := 0) (by rw [show ((0 : Int32)).toInt = 0 from by decide]; first | exact b6 | omega)) ?_
  refine ev_go 1 (pc1 := 91) (lv1 := [.ref 86, .int p, .int q, .int had, .int t, .int i, .int 1]) (st1 := [.ref 86]) (h1 := (124, I1, J1, R)) rfl ?_
  refine ev_gf (c := 86) (t := 121) (X := R 86 56) rfl rfl (fun _ => rfl) rfl (hG 86 56 121 rfl rfl) ?_
  refine ev_go 4 (pc1 := 100) (lv1 := [.ref 86, .int p, .int q, .int had, .int t, .int i, .int 1]) (st1 := [.int q, .int (9 + i), .ref 121]) (h1 := (124, I1, J1, R)) rfl ?_
  refine ev_ist (n := 100) rfl rfl (fun _ => rfl) n3 m3 ?_
  refine ev_go 1 (pc1 := 102) (lv1 := [.ref 86, .int p, .int q, .int had, .int t, .int i, .int 1]) (st1 := [.ref 86]) (h1 := (124, (uI I1 121 (9 + i).toNatClampNeg q), J1, R)) rfl ?_
  refine ev_gf (c := 86) (t := 121) (X := R 86 56) rfl rfl (fun _ => rfl) rfl (hG 86 56 121 rfl rfl) ?_
  refine ev_go 4 (pc1 := 111) (lv1 := [.ref 86, .int p, .int q, .int had, .int t, .int i, .int 1]) (st1 := [.int (13 + i), .ref 121, .int (13 + i), .ref 121]) (h1 := (124, (uI I1 121 (9 + i).toNatClampNeg q), J1, R)) rfl ?_
  refine ev_ild (n := 100) rfl rfl (fun _ => rfl) n4 m4 ?_
  refine ev_go 2 (pc1 := 114) (lv1 := [.ref 86, .int p, .int q, .int had, .int t, .int i, .int 1]) (st1 := [.int (((uI I1 121 (9 + i).toNatClampNeg q) 121 (13 + i).toNatClampNeg) + 1), .int (13 + i), .ref 121]) (h1 := (124, (uI I1 121 (9 + i).toNatClampNeg q), J1, R)) rfl ?_
  refine ev_ist (n := 100) rfl rfl (fun _ => rfl) n5 m5 ?_
  refine ev_go 1 (pc1 := 116) (lv1 := [.ref 86, .int p, .int q, .int had, .int t, .int i, .int 1]) (st1 := [.ref 86]) (h1 := (124, (uI (uI I1 121 (9 + i).toNatClampNeg q) 121 (13 + i).toNatClampNeg (((uI I1 121 (9 + i).toNatClampNeg q) 121 (13 + i).toNatClampNeg) + 1)), J1, R)) rfl ?_
  refine ev_gf (c := 86) (t := 121) (X := R 86 56) rfl rfl (fun _ => rfl) rfl (hG 86 56 121 rfl rfl) ?_
  refine ev_go 4 (pc1 := 125) (lv1 := [.ref 86, .int p, .int q, .int had, .int t, .int i, .int 1]) (st1 := [.int p, .int (21 + i), .ref 121]) (h1 := (124, (uI (uI I1 121 (9 + i).toNatClampNeg q) 121 (13 + i).toNatClampNeg (((uI I1 121 (9 + i).toNatClampNeg q) 121 (13 + i).toNatClampNeg) + 1)), J1, R)) rfl ?_
  refine ev_ist (n := 100) rfl rfl (fun _ => rfl) n6 m6 ?_
  refine ev_go 2 (pc1 := 128) (lv1 := [.ref 86, .int p, .int q, .int had, .int t, .int i, .int 1]) (st1 := [.ref 86, .int q]) (h1 := (124, (uI (uI (uI I1 121 (9 + i).toNatClampNeg q) 121 (13 + i).toNatClampNeg (((uI I1 121 (9 + i).toNatClampNeg q) 121 (13 + i).toNatClampNeg) + 1)) 121 (21 + i).toNatClampNeg p), J1, R)) rfl ?_
  refine ev_gf (c := 86) (t := 97) (X := R 86 21) rfl rfl (fun _ => rfl) rfl (hG 86 21 97 rfl rfl) ?_
  refine ev_go 1 (pc1 := 133) (lv1 := [.ref 86, .int p, .int q, .int had, .int t, .int i, .int 1]) (st1 := [.int i, .ref 97, .int q]) (h1 := (124, (uI (uI (uI I1 121 (9 + i).toNatClampNeg q) 121 (13 + i).toNatClampNeg (((uI I1 121 (9 + i).toNatClampNeg q) 121 (13 + i).toNatClampNeg) + 1)) 121 (21 + i).toNatClampNeg p), J1, R)) rfl ?_
  refine ev_ild (n := 8) rfl rfl (fun _ => rfl) n7 m7 ?_
  refine ev_br (b1 := false) rfl rfl (xcd_nne (x := q) (y := (I1 97 i.toNatClampNeg)) (by first | exact b7 | omega)) ?_
  refine ev_go 1 (pc1 := 138) (lv1 := [.ref 86, .int p, .int q, .int had, .int t, .int i, .int 1]) (st1 := [.ref 86]) (h1 := (124, (uI (uI (uI I1 121 (9 + i).toNatClampNeg q) 121 (13 + i).toNatClampNeg (((uI I1 121 (9 + i).toNatClampNeg q) 121 (13 + i).toNatClampNeg) + 1)) 121 (21 + i).toNatClampNeg p), J1, R)) rfl ?_
  refine ev_gf (c := 86) (t := 121) (X := R 86 56) rfl rfl (fun _ => rfl) rfl (hG 86 56 121 rfl rfl) ?_
  refine ev_go 3 (pc1 := 146) (lv1 := [.ref 86, .int p, .int q, .int had, .int t, .int i, .int 1]) (st1 := [.int (17 + i), .ref 121]) (h1 := (124, (uI (uI (uI I1 121 (9 + i).toNatClampNeg q) 121 (13 + i).toNatClampNeg (((uI I1 121 (9 + i).toNatClampNeg q) 121 (13 + i).toNatClampNeg) + 1)) 121 (21 + i).toNatClampNeg p), J1, R)) rfl ?_
  refine ev_ild (n := 100) rfl rfl (fun _ => rfl) n8 m8 ?_
  refine ev_go 1 (pc1 := 148) (lv1 := [.ref 86, .int p, .int q, .int had, .int t, .int i, .int 1]) (st1 := [.int (-1), .int ((uI (uI (uI I1 121 (9 + i).toNatClampNeg q) 121 (13 + i).toNatClampNeg (((uI I1 121 (9 + i).toNatClampNeg q) 121 (13 + i).toNatClampNeg) + 1)) 121 (21 + i).toNatClampNeg p) 121 (17 + i).toNatClampNeg)]) (h1 := (124, (uI (uI (uI I1 121 (9 + i).toNatClampNeg q) 121 (13 + i).toNatClampNeg (((uI I1 121 (9 + i).toNatClampNeg q) 121 (13 + i).toNatClampNeg) + 1)) 121 (21 + i).toNatClampNeg p), J1, R)) rfl ?_
  refine ev_br (b1 := false) rfl rfl (xcd_nne (x := ((uI (uI (uI I1 121 (9 + i).toNatClampNeg q) 121 (13 + i).toNatClampNeg (((uI I1 121 (9 + i).toNatClampNeg q) 121 (13 + i).toNatClampNeg) + 1)) 121 (21 + i).toNatClampNeg p) 121 (17 + i).toNatClampNeg)) (y := (-1)) (by rw [show ((-1 : Int32)).toInt = -1 from by decide]; first | exact b8 | omega)) ?_
  refine ev_go 1 (pc1 := 152) (lv1 := [.ref 86, .int p, .int q, .int had, .int t, .int i, .int 1]) (st1 := [.ref 86]) (h1 := (124, (uI (uI (uI I1 121 (9 + i).toNatClampNeg q) 121 (13 + i).toNatClampNeg (((uI I1 121 (9 + i).toNatClampNeg q) 121 (13 + i).toNatClampNeg) + 1)) 121 (21 + i).toNatClampNeg p), J1, R)) rfl ?_
  refine ev_gf (c := 86) (t := 121) (X := R 86 56) rfl rfl (fun _ => rfl) rfl (hG 86 56 121 rfl rfl) ?_
  refine ev_go 4 (pc1 := 162) (lv1 := [.ref 86, .int p, .int q, .int had, .int t, .int i, .int 1]) (st1 := [.int t, .int (17 + i), .ref 121]) (h1 := (124, (uI (uI (uI I1 121 (9 + i).toNatClampNeg q) 121 (13 + i).toNatClampNeg (((uI I1 121 (9 + i).toNatClampNeg q) 121 (13 + i).toNatClampNeg) + 1)) 121 (21 + i).toNatClampNeg p), J1, R)) rfl ?_
  refine ev_ist (n := 100) rfl rfl (fun _ => rfl) n9 m9 ?_
  refine ev_go 2 (pc1 := 3) (lv1 := [.ref 86, .int p, .int q, .int had, .int t, .int (i + 1), .int 1]) (st1 := []) (h1 := (124, (uI (uI (uI (uI I1 121 (9 + i).toNatClampNeg q) 121 (13 + i).toNatClampNeg (((uI I1 121 (9 + i).toNatClampNeg q) 121 (13 + i).toNatClampNeg) + 1)) 121 (21 + i).toNatClampNeg p) 121 (17 + i).toNatClampNeg t), J1, R)) rfl ?_
  exact hk
