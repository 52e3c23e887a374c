set_option maxRecDepth 20000 in
theorem bu_s {L : Nat} {xs : Nat → Int32} {d : Nat} {I : Nat → Nat → Int32} {J : Nat → Nat → Int64} {R : Nat → Nat → Nat} {p : Int32} (hG : aGd R)  {v : Option Value} {h' : xH} (hk : xEv L xs d 132 16 [.ref 66, .int p, .int 0] [] (124, (uI I 66 6 ((I 66 6) &&& ((1 <<< (p &&& 31)) ^^^ (-1)))), J, R) v h') : xEv L xs d 132 0 [.ref 66, .int p, xmk] [] (124, I, J, R) v h' := by
  refine ev_go 5 (pc1 := 7) (lv1 := [.ref 66, .int p, xmk]) (st1 := [.int p, .int 1, .int (I 66 6), .ref 66]) (h1 := (124, I, J, R)) rfl ?_
  refine ev_go 7 (pc1 := 16) (lv1 := [.ref 66, .int p, .int 0]) (st1 := []) (h1 := (124, (uI I 66 6 ((I 66 6) &&& ((1 <<< (p &&& 31)) ^^^ (-1)))), J, R)) rfl ?_
  exact hk
set_option maxRecDepth 20000 in
theorem bu_e {L : Nat} {xs : Nat → Int32} {d : Nat} {I : Nat → Nat → Int32} {J : Nat → Nat → Int64} {R : Nat → Nat → Nat} {p i : Int32} (hG : aGd R) (b1 : i.toInt ≥ 4) : xEv L xs d 132 16 [.ref 66, .int p, .int i] [] (124, I, J, R) none (124, I, J, R) := by
  refine ev_go 2 (pc1 := 18) (lv1 := [.ref 66, .int p, .int i]) (st1 := [.int 4, .int i]) (h1 := (124, I, J, R)) rfl ?_
  refine ev_br (b1 := true) rfl rfl (xcd_ge (x := i) (y := 4) (by rw [show ((4 : Int32)).toInt = 4 from by decide]; first | exact b1 | omega)) ?_
  exact ev_ret rfl rfl
set_option maxRecDepth 20000 in
theorem bu_n {L : Nat} {xs : Nat → Int32} {d : Nat} {I : Nat → Nat → Int32} {J : Nat → Nat → Int64} {R : Nat → Nat → Nat} {p i w : Int32} (hG : aGd R) (b1 : i.toInt < 4) (c1 : xEv L xs d 39 0 [.ref 67, .int i] [] (124, I, J, R) (some (.int w)) (124, I, J, R)) (b2 : w.toInt ≠ p.toInt) {v : Option Value} {h' : xH} (hk : xEv L xs (d + 1) 132 16 [.ref 66, .int p, .int (i + 1)] [] (124, I, J, R) v h') : xEv L xs (d + 1) 132 16 [.ref 66, .int p, .int i] [] (124, I, J, R) v h' := by
  refine ev_go 2 (pc1 := 18) (lv1 := [.ref 66, .int p, .int i]) (st1 := [.int 4, .int i]) (h1 := (124, I, J, R)) rfl ?_
  refine ev_br (b1 := false) rfl rfl (xcd_nge (x := i) (y := 4) (by rw [show ((4 : Int32)).toInt = 4 from by decide]; first | exact b1 | omega)) ?_
  refine ev_go 1 (pc1 := 22) (lv1 := [.ref 66, .int p, .int i]) (st1 := [.ref 66]) (h1 := (124, I, J, R)) rfl ?_
  refine ev_gf (c := 66) (t := 67) (X := R 66 0) rfl rfl (fun _ => rfl) rfl (hG 66 0 67 rfl rfl) ?_
  refine ev_go 1 (pc1 := 26) (lv1 := [.ref 66, .int p, .int i]) (st1 := [.int i, .ref 67]) (h1 := (124, I, J, R)) rfl ?_
  refine ev_call (v1 := (some (.int w))) (h1 := (124, I, J, R)) rfl rfl c1 ?_
  refine ev_go 1 (pc1 := 30) (lv1 := [.ref 66, .int p, .int i]) (st1 := [.int p, .int w]) (h1 := (124, I, J, R)) rfl ?_
  refine ev_br (b1 := true) rfl rfl (xcd_ne (x := w) (y := p) (by first | exact b2 | omega)) ?_
  refine ev_go 2 (pc1 := 16) (lv1 := [.ref 66, .int p, .int (i + 1)]) (st1 := []) (h1 := (124, I, J, R)) rfl ?_
  exact hk
set_option maxRecDepth 20000 in
theorem bu_y {L : Nat} {xs : Nat → Int32} {d : Nat} {I : Nat → Nat → Int32} {J : Nat → Nat → Int64} {R : Nat → Nat → Nat} {I1 : Nat → Nat → Int32} {p i w : Int32} (hG : aGd R) (b1 : i.toInt < 4) (c1 : xEv L xs d 39 0 [.ref 67, .int i] [] (124, I, J, R) (some (.int w)) (124, I, J, R)) (b2 : w.toInt = p.toInt) (c2 : xEv L xs d 33 0 [.ref 67, .int i, .int (-1)] [] (124, I, J, R) none (124, I1, J, R)) {v : Option Value} {h' : xH} (hk : xEv L xs (d + 1) 132 16 [.ref 66, .int p, .int (i + 1)] [] (124, I1, J, R) v h') : xEv L xs (d + 1) 132 16 [.ref 66, .int p, .int i] [] (124, I, J, R) v h' := by
  refine ev_go 2 (pc1 := 18) (lv1 := [.ref 66, .int p, .int i]) (st1 := [.int 4, .int i]) (h1 := (124, I, J, R)) rfl ?_
  refine ev_br (b1 := false) rfl rfl (xcd_nge (x := i) (y := 4) (by rw [show ((4 : Int32)).toInt = 4 from by decide]; first | exact b1 | omega)) ?_
  refine ev_go 1 (pc1 := 22) (lv1 := [.ref 66, .int p, .int i]) (st1 := [.ref 66]) (h1 := (124, I, J, R)) rfl ?_
  refine ev_gf (c := 66) (t := 67) (X := R 66 0) rfl rfl (fun _ => rfl) rfl (hG 66 0 67 rfl rfl) ?_
  refine ev_go 1 (pc1 := 26) (lv1 := [.ref 66, .int p, .int i]) (st1 := [.int i, .ref 67]) (h1 := (124, I, J, R)) rfl ?_
  refine ev_call (v1 := (some (.int w))) (h1 := (124, I, J, R)) rfl rfl c1 ?_
  refine ev_go 1 (pc1 := 30) (lv1 := [.ref 66, .int p, .int i]) (st1 := [.int p, .int w]) (h1 := (124, I, J, R)) rfl ?_
  refine ev_br (b1 := false) rfl rfl (xcd_nne (x := w) (y := p) (by first | exact b2 | omega)) ?_
  refine ev_go 1 (pc1 := 34) (lv1 := [.ref 66, .int p, .int i]) (st1 := [.ref 66]) (h1 := (124, I, J, R)) rfl ?_
  refine ev_gf (c := 66) (t := 67) (X := R 66 0) rfl rfl (fun _ => rfl) rfl (hG 66 0 67 rfl rfl) ?_
  refine ev_go 2 (pc1 := 39) (lv1 := [.ref 66, .int p, .int i]) (st1 := [.int (-1), .int i, .ref 67]) (h1 := (124, I, J, R)) rfl ?_
  refine ev_call (v1 := none) (h1 := (124, I1, J, R)) rfl rfl c2 ?_
  refine ev_go 2 (pc1 := 16) (lv1 := [.ref 66, .int p, .int (i + 1)]) (st1 := []) (h1 := (124, I1, J, R)) rfl ?_
  exact hk
set_option maxRecDepth 20000 in
theorem un_s_3 {L : Nat} {xs : Nat → Int32} {d : Nat} {I : Nat → Nat → Int32} {J : Nat → Nat → Int64} {R : Nat → Nat → Nat} (hG : aGd R)  {v : Option Value} {h' : xH} (hk : xEv L xs d 131 2 [.ref 63, .ref 3, .int 0] [] (124, I, J, R) v h') : xEv L xs d 131 0 [.ref 63, .ref 3, xmk] [] (124, I, J, R) v h' := by
  refine ev_go 2 (pc1 := 2) (lv1 := [.ref 63, .ref 3, .int 0]) (st1 := []) (h1 := (124, I, J, R)) rfl ?_
  exact hk
set_option maxRecDepth 20000 in
theorem un_e_3 {L : Nat} {xs : Nat → Int32} {d : Nat} {I : Nat → Nat → Int32} {J : Nat → Nat → Int64} {R : Nat → Nat → Nat} {i : Int32} (hG : aGd R) (b1 : i.toInt ≥ (I 3 14).toInt) : xEv L xs d 131 2 [.ref 63, .ref 3, .int i] [] (124, I, J, R) none (124, I, J, R) := by
  refine ev_go 3 (pc1 := 7) (lv1 := [.ref 63, .ref 3, .int i]) (st1 := [.int (I 3 14), .int i]) (h1 := (124, I, J, R)) rfl ?_
  refine ev_br (b1 := true) rfl rfl (xcd_ge (x := i) (y := (I 3 14)) (by first | exact b1 | omega)) ?_
  exact ev_ret rfl rfl
set_option maxRecDepth 20000 in
theorem un_d_3 {L : Nat} {xs : Nat → Int32} {d : Nat} {I : Nat → Nat → Int32} {J : Nat → Nat → Int64} {R : Nat → Nat → Nat} {i : Int32} (hG : aGd R) (b1 : i.toInt < (I 3 14).toInt) (b2 : (((I 66 6) >>> (i &&& 31)) &&& 1).toInt ≠ 1) {v : Option Value} {h' : xH} (hk : xEv L xs d 131 2 [.ref 63, .ref 3, .int (i + 1)] [] (124, I, J, R) v h') : xEv L xs d 131 2 [.ref 63, .ref 3, .int i] [] (124, I, J, R) v h' := by
  refine ev_go 3 (pc1 := 7) (lv1 := [.ref 63, .ref 3, .int i]) (st1 := [.int (I 3 14), .int i]) (h1 := (124, I, J, R)) rfl ?_
  refine ev_br (b1 := false) rfl rfl (xcd_nge (x := i) (y := (I 3 14)) (by first | exact b1 | omega)) ?_
  refine ev_go 1 (pc1 := 11) (lv1 := [.ref 63, .ref 3, .int i]) (st1 := [.ref 63]) (h1 := (124, I, J, R)) rfl ?_
  refine ev_gf (c := 63) (t := 66) (X := R 63 3) rfl rfl (fun _ => rfl) rfl (hG 63 3 66 rfl rfl) ?_
  refine ev_go 2 (pc1 := 18) (lv1 := [.ref 63, .ref 3, .int i]) (st1 := [.int i, .int (I 66 6)]) (h1 := (124, I, J, R)) rfl ?_
  refine ev_go 4 (pc1 := 22) (lv1 := [.ref 63, .ref 3, .int i]) (st1 := [.int 1, .int (((I 66 6) >>> (i &&& 31)) &&& 1)]) (h1 := (124, I, J, R)) rfl ?_
  refine ev_br (b1 := true) rfl rfl (xcd_ne (x := (((I 66 6) >>> (i &&& 31)) &&& 1)) (y := 1) (by rw [show ((1 : Int32)).toInt = 1 from by decide]; first | exact b2 | omega)) ?_
  refine ev_go 2 (pc1 := 2) (lv1 := [.ref 63, .ref 3, .int (i + 1)]) (st1 := []) (h1 := (124, I, J, R)) rfl ?_
  exact hk
set_option maxRecDepth 20000 in
theorem un_k_3 {L : Nat} {xs : Nat → Int32} {d : Nat} {I : Nat → Nat → Int32} {J : Nat → Nat → Int64} {R : Nat → Nat → Nat} {J1 : Nat → Nat → Int64} {i w o : Int32} (hG : aGd R) (b1 : i.toInt < (I 3 14).toInt) (b2 : (((I 66 6) >>> (i &&& 31)) &&& 1).toInt = 1) (c1 : xEv L xs d 124 0 [.ref 66, .int 1000] [] (124, I, J, R) (some (.int w)) (124, I, J1, R)) (c2 : xEv L xs d 39 0 [.ref 6, .int i] [] (124, I, J1, R) (some (.int o)) (124, I, J1, R)) (b3 : w.toInt ≥ o.toInt) {v : Option Value} {h' : xH} (hk : xEv L xs (d + 1) 131 2 [.ref 63, .ref 3, .int (i + 1)] [] (124, I, J1, R) v h') : xEv L xs (d + 1) 131 2 [.ref 63, .ref 3, .int i] [] (124, I, J, R) v h' := by
  refine ev_go 3 (pc1 := 7) (lv1 := [.ref 63, .ref 3, .int i]) (st1 := [.int (I 3 14), .int i]) (h1 := (124, I, J, R)) rfl ?_
  refine ev_br (b1 := false) rfl rfl (xcd_nge (x := i) (y := (I 3 14)) (by first | exact b1 | omega)) ?_
  refine ev_go 1 (pc1 := 11) (lv1 := [.ref 63, .ref 3, .int i]) (st1 := [.ref 63]) (h1 := (124, I, J, R)) rfl ?_
  refine ev_gf (c := 63) (t := 66) (X := R 63 3) rfl rfl (fun _ => rfl) rfl (hG 63 3 66 rfl rfl) ?_
  refine ev_go 2 (pc1 := 18) (lv1 := [.ref 63, .ref 3, .int i]) (st1 := [.int i, .int (I 66 6)]) (h1 := (124, I, J, R)) rfl ?_
  refine ev_go 4 (pc1 := 22) (lv1 := [.ref 63, .ref 3, .int i]) (st1 := [.int 1, .int (((I 66 6) >>> (i &&& 31)) &&& 1)]) (h1 := (124, I, J, R)) rfl ?_
  refine ev_br (b1 := false) rfl rfl (xcd_nne (x := (((I 66 6) >>> (i &&& 31)) &&& 1)) (y := 1) (by rw [show ((1 : Int32)).toInt = 1 from by decide]; first | exact b2 | omega)) ?_
  refine ev_go 1 (pc1 := 26) (lv1 := [.ref 63, .ref 3, .int i]) (st1 := [.ref 63]) (h1 := (124, I, J, R)) rfl ?_
  refine ev_gf (c := 63) (t := 66) (X := R 63 3) rfl rfl (fun _ => rfl) rfl (hG 63 3 66 rfl rfl) ?_
  refine ev_go 1 (pc1 := 32) (lv1 := [.ref 63, .ref 3, .int i]) (st1 := [.int 1000, .ref 66]) (h1 := (124, I, J, R)) rfl ?_
  refine ev_call (v1 := (some (.int w))) (h1 := (124, I, J1, R)) rfl rfl c1 ?_
  refine ev_go 1 (pc1 := 36) (lv1 := [.ref 63, .ref 3, .int i]) (st1 := [.ref 3, .int w]) (h1 := (124, I, J1, R)) rfl ?_
  refine ev_gf (c := 3) (t := 6) (X := R 3 2) rfl rfl (fun _ => rfl) rfl (hG 3 2 6 rfl rfl) ?_
  refine ev_go 1 (pc1 := 40) (lv1 := [.ref 63, .ref 3, .int i]) (st1 := [.int i, .ref 6, .int w]) (h1 := (124, I, J1, R)) rfl ?_
  refine ev_call (v1 := (some (.int o))) (h1 := (124, I, J1, R)) rfl rfl c2 ?_
  refine ev_br (b1 := true) rfl rfl (xcd_ge (x := w) (y := o) (by first | exact b3 | omega)) ?_
  refine ev_go 2 (pc1 := 2) (lv1 := [.ref 63, .ref 3, .int (i + 1)]) (st1 := []) (h1 := (124, I, J1, R)) rfl ?_
  exact hk
set_option maxRecDepth 20000 in
theorem un_b_3 {L : Nat} {xs : Nat → Int32} {d : Nat} {I : Nat → Nat → Int32} {J : Nat → Nat → Int64} {R : Nat → Nat → Nat} {J1 : Nat → Nat → Int64} {I2 : Nat → Nat → Int32} {i w o : Int32} (hG : aGd R) (b1 : i.toInt < (I 3 14).toInt) (b2 : (((I 66 6) >>> (i &&& 31)) &&& 1).toInt = 1) (c1 : xEv L xs d 124 0 [.ref 66, .int 1000] [] (124, I, J, R) (some (.int w)) (124, I, J1, R)) (c2 : xEv L xs d 39 0 [.ref 6, .int i] [] (124, I, J1, R) (some (.int o)) (124, I, J1, R)) (b3 : w.toInt < o.toInt) (c3 : xEv L xs d 132 0 [.ref 66, .int i, xmk] [] (124, I, J1, R) none (124, I2, J1, R)) {v : Option Value} {h' : xH} (hk : xEv L xs (d + 1) 131 2 [.ref 63, .ref 3, .int (i + 1)] [] (124, I2, J1, R) v h') : xEv L xs (d + 1) 131 2 [.ref 63, .ref 3, .int i] [] (124, I, J, R) v h' := by
  refine ev_go 3 (pc1 := 7) (lv1 := [.ref 63, .ref 3, .int i]) (st1 := [.int (I 3 14), .int i]) (h1 := (124, I, J, R)) rfl ?_
  refine ev_br (b1 := false) rfl rfl (xcd_nge (x := i) (y := (I 3 14)) (by first | exact b1 | omega)) ?_
  refine ev_go 1 (pc1 := 11) (lv1 := [.ref 63, .ref 3, .int i]) (st1 := [.ref 63]) (h1 := (124, I, J, R)) rfl ?_
  refine ev_gf (c := 63) (t := 66) (X := R 63 3) rfl rfl (fun _ => rfl) rfl (hG 63 3 66 rfl rfl) ?_
  refine ev_go 2 (pc1 := 18) (lv1 := [.ref 63, .ref 3, .int i]) (st1 := [.int i, .int (I 66 6)]) (h1 := (124, I, J, R)) rfl ?_
  refine ev_go 4 (pc1 := 22) (lv1 := [.ref 63, .ref 3, .int i]) (st1 := [.int 1, .int (((I 66 6) >>> (i &&& 31)) &&& 1)]) (h1 := (124, I, J, R)) rfl ?_
  refine ev_br (b1 := false) rfl rfl (xcd_nne (x := (((I 66 6) >>> (i &&& 31)) &&& 1)) (y := 1) (by rw [show ((1 : Int32)).toInt = 1 from by decide]; first | exact b2 | omega)) ?_
  refine ev_go 1 (pc1 := 26) (lv1 := [.ref 63, .ref 3, .int i]) (st1 := [.ref 63]) (h1 := (124, I, J, R)) rfl ?_
  refine ev_gf (c := 63) (t := 66) (X := R 63 3) rfl rfl (fun _ => rfl) rfl (hG 63 3 66 rfl rfl) ?_
  refine ev_go 1 (pc1 := 32) (lv1 := [.ref 63, .ref 3, .int i]) (st1 := [.int 1000, .ref 66]) (h1 := (124, I, J, R)) rfl ?_
  refine ev_call (v1 := (some (.int w))) (h1 := (124, I, J1, R)) rfl rfl c1 ?_
  refine ev_go 1 (pc1 := 36) (lv1 := [.ref 63, .ref 3, .int i]) (st1 := [.ref 3, .int w]) (h1 := (124, I, J1, R)) rfl ?_
  refine ev_gf (c := 3) (t := 6) (X := R 3 2) rfl rfl (fun _ => rfl) rfl (hG 3 2 6 rfl rfl) ?_
  refine ev_go 1 (pc1 := 40) (lv1 := [.ref 63, .ref 3, .int i]) (st1 := [.int i, .ref 6, .int w]) (h1 := (124, I, J1, R)) rfl ?_
  refine ev_call (v1 := (some (.int o))) (h1 := (124, I, J1, R)) rfl rfl c2 ?_
  refine ev_br (b1 := false) rfl rfl (xcd_nge (x := w) (y := o) (by first | exact b3 | omega)) ?_
  refine ev_go 1 (pc1 := 47) (lv1 := [.ref 63, .ref 3, .int i]) (st1 := [.ref 63]) (h1 := (124, I, J1, R)) rfl ?_
  refine ev_gf (c := 63) (t := 66) (X := R 63 3) rfl rfl (fun _ => rfl) rfl (hG 63 3 66 rfl rfl) ?_
  refine ev_go 1 (pc1 := 51) (lv1 := [.ref 63, .ref 3, .int i]) (st1 := [.int i, .ref 66]) (h1 := (124, I, J1, R)) rfl ?_
  refine ev_call (v1 := none) (h1 := (124, I2, J1, R)) rfl rfl c3 ?_
  refine ev_go 2 (pc1 := 2) (lv1 := [.ref 63, .ref 3, .int (i + 1)]) (st1 := []) (h1 := (124, I2, J1, R)) rfl ?_
  exact hk
set_option maxRecDepth 20000 in
theorem un_s_23 {L : Nat} {xs : Nat → Int32} {d : Nat} {I : Nat → Nat → Int32} {J : Nat → Nat → Int64} {R : Nat → Nat → Nat} (hG : aGd R)  {v : Option Value} {h' : xH} (hk : xEv L xs d 131 2 [.ref 63, .ref 23, .int 0] [] (124, I, J, R) v h') : xEv L xs d 131 0 [.ref 63, .ref 23, xmk] [] (124, I, J, R) v h' := by
  refine ev_go 2 (pc1 := 2) (lv1 := [.ref 63, .ref 23, .int 0]) (st1 := []) (h1 := (124, I, J, R)) rfl ?_
  exact hk
set_option maxRecDepth 20000 in
theorem un_e_23 {L : Nat} {xs : Nat → Int32} {d : Nat} {I : Nat → Nat → Int32} {J : Nat → Nat → Int64} {R : Nat → Nat → Nat} {i : Int32} (hG : aGd R) (b1 : i.toInt ≥ (I 23 14).toInt) : xEv L xs d 131 2 [.ref 63, .ref 23, .int i] [] (124, I, J, R) none (124, I, J, R) := by
  refine ev_go 3 (pc1 := 7) (lv1 := [.ref 63, .ref 23, .int i]) (st1 := [.int (I 23 14), .int i]) (h1 := (124, I, J, R)) rfl ?_
  refine ev_br (b1 := true) rfl rfl (xcd_ge (x := i) (y := (I 23 14)) (by first | exact b1 | omega)) ?_
  exact ev_ret rfl rfl
set_option maxRecDepth 20000 in
theorem un_d_23 {L : Nat} {xs : Nat → Int32} {d : Nat} {I : Nat → Nat → Int32} {J : Nat → Nat → Int64} {R : Nat → Nat → Nat} {i : Int32} (hG : aGd R) (b1 : i.toInt < (I 23 14).toInt) (b2 : (((I 66 6) >>> (i &&& 31)) &&& 1).toInt ≠ 1) {v : Option Value} {h' : xH} (hk : xEv L xs d 131 2 [.ref 63, .ref 23, .int (i + 1)] [] (124, I, J, R) v h') : xEv L xs d 131 2 [.ref 63, .ref 23, .int i] [] (124, I, J, R) v h' := by
  refine ev_go 3 (pc1 := 7) (lv1 := [.ref 63, .ref 23, .int i]) (st1 := [.int (I 23 14), .int i]) (h1 := (124, I, J, R)) rfl ?_
  refine ev_br (b1 := false) rfl rfl (xcd_nge (x := i) (y := (I 23 14)) (by first | exact b1 | omega)) ?_
  refine ev_go 1 (pc1 := 11) (lv1 := [.ref 63, .ref 23, .int i]) (st1 := [.ref 63]) (h1 := (124, I, J, R)) rfl ?_
  refine ev_gf (c := 63) (t := 66) (X := R 63 3) rfl rfl (fun _ => rfl) rfl (hG 63 3 66 rfl rfl) ?_
  refine ev_go 2 (pc1 := 18) (lv1 := [.ref 63, .ref 23, .int i]) (st1 := [.int i, .int (I 66 6)]) (h1 := (124, I, J, R)) rfl ?_
  refine ev_go 4 (pc1 := 22) (lv1 := [.ref 63, .ref 23, .int i]) (st1 := [.int 1, .int (((I 66 6) >>> (i &&& 31)) &&& 1)]) (h1 := (124, I, J, R)) rfl ?_
  refine ev_br (b1 := true) rfl rfl (xcd_ne (x := (((I 66 6) >>> (i &&& 31)) &&& 1)) (y := 1) (by rw [show ((1 : Int32)).toInt = 1 from by decide]; first | exact b2 | omega)) ?_
  refine ev_go 2 (pc1 := 2) (lv1 := [.ref 63, .ref 23, .int (i + 1)]) (st1 := []) (h1 := (124, I, J, R)) rfl ?_
  exact hk
set_option maxRecDepth 20000 in
theorem un_k_23 {L : Nat} {xs : Nat → Int32} {d : Nat} {I : Nat → Nat → Int32} {J : Nat → Nat → Int64} {R : Nat → Nat → Nat} {J1 : Nat → Nat → Int64} {i w o : Int32} (hG : aGd R) (b1 : i.toInt < (I 23 14).toInt) (b2 : (((I 66 6) >>> (i &&& 31)) &&& 1).toInt = 1) (c1 : xEv L xs d 124 0 [.ref 66, .int 1000] [] (124, I, J, R) (some (.int w)) (124, I, J1, R)) (c2 : xEv L xs d 39 0 [.ref 26, .int i] [] (124, I, J1, R) (some (.int o)) (124, I, J1, R)) (b3 : w.toInt ≥ o.toInt) {v : Option Value} {h' : xH} (hk : xEv L xs (d + 1) 131 2 [.ref 63, .ref 23, .int (i + 1)] [] (124, I, J1, R) v h') : xEv L xs (d + 1) 131 2 [.ref 63, .ref 23, .int i] [] (124, I, J, R) v h' := by
  refine ev_go 3 (pc1 := 7) (lv1 := [.ref 63, .ref 23, .int i]) (st1 := [.int (I 23 14), .int i]) (h1 := (124, I, J, R)) rfl ?_
  refine ev_br (b1 := false) rfl rfl (xcd_nge (x := i) (y := (I 23 14)) (by first | exact b1 | omega)) ?_
  refine ev_go 1 (pc1 := 11) (lv1 := [.ref 63, .ref 23, .int i]) (st1 := [.ref 63]) (h1 := (124, I, J, R)) rfl ?_
  refine ev_gf (c := 63) (t := 66) (X := R 63 3) rfl rfl (fun _ => rfl) rfl (hG 63 3 66 rfl rfl) ?_
  refine ev_go 2 (pc1 := 18) (lv1 := [.ref 63, .ref 23, .int i]) (st1 := [.int i, .int (I 66 6)]) (h1 := (124, I, J, R)) rfl ?_
  refine ev_go 4 (pc1 := 22) (lv1 := [.ref 63, .ref 23, .int i]) (st1 := [.int 1, .int (((I 66 6) >>> (i &&& 31)) &&& 1)]) (h1 := (124, I, J, R)) rfl ?_
  refine ev_br (b1 := false) rfl rfl (xcd_nne (x := (((I 66 6) >>> (i &&& 31)) &&& 1)) (y := 1) (by rw [show ((1 : Int32)).toInt = 1 from by decide]; first | exact b2 | omega)) ?_
  refine ev_go 1 (pc1 := 26) (lv1 := [.ref 63, .ref 23, .int i]) (st1 := [.ref 63]) (h1 := (124, I, J, R)) rfl ?_
  refine ev_gf (c := 63) (t := 66) (X := R 63 3) rfl rfl (fun _ => rfl) rfl (hG 63 3 66 rfl rfl) ?_
  refine ev_go 1 (pc1 := 32) (lv1 := [.ref 63, .ref 23, .int i]) (st1 := [.int 1000, .ref 66]) (h1 := (124, I, J, R)) rfl ?_
  refine ev_call (v1 := (some (.int w))) (h1 := (124, I, J1, R)) rfl rfl c1 ?_
  refine ev_go 1 (pc1 := 36) (lv1 := [.ref 63, .ref 23, .int i]) (st1 := [.ref 23, .int w]) (h1 := (124, I, J1, R)) rfl ?_
  refine ev_gf (c := 23) (t := 26) (X := R 23 2) rfl rfl (fun _ => rfl) rfl (hG 23 2 26 rfl rfl) ?_
  refine ev_go 1 (pc1 := 40) (lv1 := [.ref 63, .ref 23, .int i]) (st1 := [.int i, .ref 26, .int w]) (h1 := (124, I, J1, R)) rfl ?_
  refine ev_call (v1 := (some (.int o))) (h1 := (124, I, J1, R)) rfl rfl c2 ?_
  refine ev_br (b1 := true) rfl rfl (xcd_ge (x := w) (y := o) (by first | exact b3 | omega)) ?_
  refine ev_go 2 (pc1 := 2) (lv1 := [.ref 63, .ref 23, .int (i + 1)]) (st1 := []) (h1 := (124, I, J1, R)) rfl ?_
  exact hk
set_option maxRecDepth 20000 in
theorem un_b_23 {L : Nat} {xs : Nat → Int32} {d : Nat} {I : Nat → Nat → Int32} {J : Nat → Nat → Int64} {R : Nat → Nat → Nat} {J1 : Nat → Nat → Int64} {I2 : Nat → Nat → Int32} {i w o : Int32} (hG : aGd R) (b1 : i.toInt < (I 23 14).toInt) (b2 : (((I 66 6) >>> (i &&& 31)) &&& 1).toInt = 1) (c1 : xEv L xs d 124 0 [.ref 66, .int 1000] [] (124, I, J, R) (some (.int w)) (124, I, J1, R)) (c2 : xEv L xs d 39 0 [.ref 26, .int i] [] (124, I, J1, R) (some (.int o)) (124, I, J1, R)) (b3 : w.toInt < o.toInt) (c3 : xEv L xs d 132 0 [.ref 66, .int i, xmk] [] (124, I, J1, R) none (124, I2, J1, R)) {v : Option Value} {h' : xH} (hk : xEv L xs (d + 1) 131 2 [.ref 63, .ref 23, .int (i + 1)] [] (124, I2, J1, R) v h') : xEv L xs (d + 1) 131 2 [.ref 63, .ref 23, .int i] [] (124, I, J, R) v h' := by
  refine ev_go 3 (pc1 := 7) (lv1 := [.ref 63, .ref 23, .int i]) (st1 := [.int (I 23 14), .int i]) (h1 := (124, I, J, R)) rfl ?_
  refine ev_br (b1 := false) rfl rfl (xcd_nge (x := i) (y := (I 23 14)) (by first | exact b1 | omega)) ?_
  refine ev_go 1 (pc1 := 11) (lv1 := [.ref 63, .ref 23, .int i]) (st1 := [.ref 63]) (h1 := (124, I, J, R)) rfl ?_
  refine ev_gf (c := 63) (t := 66) (X := R 63 3) rfl rfl (fun _ => rfl) rfl (hG 63 3 66 rfl rfl) ?_
  refine ev_go 2 (pc1 := 18) (lv1 := [.ref 63, .ref 23, .int i]) (st1 := [.int i, .int (I 66 6)]) (h1 := (124, I, J, R)) rfl ?_
  refine ev_go 4 (pc1 := 22) (lv1 := [.ref 63, .ref 23, .int i]) (st1 := [.int 1, .int (((I 66 6) >>> (i &&& 31)) &&& 1)]) (h1 := (124, I, J, R)) rfl ?_
  refine ev_br (b1 := false) rfl rfl (xcd_nne (x := (((I 66 6) >>> (i &&& 31)) &&& 1)) (y := 1) (by rw [show ((1 : Int32)).toInt = 1 from by decide]; first | exact b2 | omega)) ?_
  refine ev_go 1 (pc1 := 26) (lv1 := [.ref 63, .ref 23, .int i]) (st1 := [.ref 63]) (h1 := (124, I, J, R)) rfl ?_
  refine ev_gf (c := 63) (t := 66) (X := R 63 3) rfl rfl (fun _ => rfl) rfl (hG 63 3 66 rfl rfl) ?_
  refine ev_go 1 (pc1 := 32) (lv1 := [.ref 63, .ref 23, .int i]) (st1 := [.int 1000, .ref 66]) (h1 := (124, I, J, R)) rfl ?_
  refine ev_call (v1 := (some (.int w))) (h1 := (124, I, J1, R)) rfl rfl c1 ?_
  refine ev_go 1 (pc1 := 36) (lv1 := [.ref 63, .ref 23, .int i]) (st1 := [.ref 23, .int w]) (h1 := (124, I, J1, R)) rfl ?_
  refine ev_gf (c := 23) (t := 26) (X := R 23 2) rfl rfl (fun _ => rfl) rfl (hG 23 2 26 rfl rfl) ?_
  refine ev_go 1 (pc1 := 40) (lv1 := [.ref 63, .ref 23, .int i]) (st1 := [.int i, .ref 26, .int w]) (h1 := (124, I, J1, R)) rfl ?_
  refine ev_call (v1 := (some (.int o))) (h1 := (124, I, J1, R)) rfl rfl c2 ?_
  refine ev_br (b1 := false) rfl rfl (xcd_nge (x := w) (y := o) (by first | exact b3 | omega)) ?_
  refine ev_go 1 (pc1 := 47) (lv1 := [.ref 63, .ref 23, .int i]) (st1 := [.ref 63]) (h1 := (124, I, J1, R)) rfl ?_
  refine ev_gf (c := 63) (t := 66) (X := R 63 3) rfl rfl (fun _ => rfl) rfl (hG 63 3 66 rfl rfl) ?_
  refine ev_go 1 (pc1 := 51) (lv1 := [.ref 63, .ref 23, .int i]) (st1 := [.int i, .ref 66]) (h1 := (124, I, J1, R)) rfl ?_
  refine ev_call (v1 := none) (h1 := (124, I2, J1, R)) rfl rfl c3 ?_
  refine ev_go 2 (pc1 := 2) (lv1 := [.ref 63, .ref 23, .int (i + 1)]) (st1 := []) (h1 := (124, I2, J1, R)) rfl ?_
  exact hk
set_option maxRecDepth 20000 in
theorem vn_s {L : Nat} {xs : Nat → Int32} {d : Nat} {I : Nat → Nat → Int32} {J : Nat → Nat → Int64} {R : Nat → Nat → Nat} (hG : aGd R)  {v : Option Value} {h' : xH} (hk : xEv L xs d 230 2 [.ref 86, .int 0, xmk] [] (124, I, J, R) v h') : xEv L xs d 230 0 [.ref 86, xmk, xmk] [] (124, I, J, R) v h' := by
  refine ev_go 2 (pc1 := 2) (lv1 := [.ref 86, .int 0, xmk]) (st1 := []) (h1 := (124, I, J, R)) rfl ?_
  exact hk
set_option maxRecDepth 20000 in
theorem vn_e {L : Nat} {xs : Nat → Int32} {d : Nat} {I : Nat → Nat → Int32} {J : Nat → Nat → Int64} {R : Nat → Nat → Nat} {i : Int32} {w2 : Value} (hG : aGd R) (b1 : i.toInt ≥ (I 88 0).toInt) : xEv L xs d 230 2 [.ref 86, .int i, w2] [] (124, I, J, R) none (124, I, J, R) := by
  refine ev_go 2 (pc1 := 4) (lv1 := [.ref 86, .int i, w2]) (st1 := [.ref 86, .int i]) (h1 := (124, I, J, R)) rfl ?_
  refine ev_gf (c := 86) (t := 88) (X := R 86 12) rfl rfl (fun _ => rfl) rfl (hG 86 12 88 rfl rfl) ?_
  refine ev_go 2 (pc1 := 9) (lv1 := [.ref 86, .int i, w2]) (st1 := [.int (I 88 0), .int i]) (h1 := (124, I, J, R)) rfl ?_
  refine ev_br (b1 := true) rfl rfl (xcd_ge (x := i) (y := (I 88 0)) (by first | exact b1 | omega)) ?_
  exact ev_ret rfl rfl
set_option maxRecDepth 20000 in
theorem vn_d {L : Nat} {xs : Nat → Int32} {d : Nat} {I : Nat → Nat → Int32} {J : Nat → Nat → Int64} {R : Nat → Nat → Nat} {i : Int32} {w2 : Value} (hG : aGd R) (b1 : i.toInt < (I 88 0).toInt) (n1 : 0 ≤ (2 + i).toInt) (m1 : (2 + i).toInt < 100) (b2 : (I 121 (2 + i).toNatClampNeg).toInt = 0) {v : Option Value} {h' : xH} (hk : xEv L xs d 230 2 [.ref 86, .int (i + 1), w2] [] (124, I, J, R) v h') : xEv L xs d 230 2 [.ref 86, .int i, w2] [] (124, I, J, R) v h' := by
  refine ev_go 2 (pc1 := 4) (lv1 := [.ref 86, .int i, w2]) (st1 := [.ref 86, .int i]) (h1 := (124, I, J, R)) rfl ?_
  refine ev_gf (c := 86) (t := 88) (X := R 86 12) rfl rfl (fun _ => rfl) rfl (hG 86 12 88 rfl rfl) ?_
  refine ev_go 2 (pc1 := 9) (lv1 := [.ref 86, .int i, w2]) (st1 := [.int (I 88 0), .int i]) (h1 := (124, I, J, R)) rfl ?_
  refine ev_br (b1 := false) rfl rfl (xcd_nge (x := i) (y := (I 88 0)) (by first | exact b1 | omega)) ?_
  refine ev_go 1 (pc1 := 13) (lv1 := [.ref 86, .int i, w2]) (st1 := [.ref 86]) (h1 := (124, I, J, R)) rfl ?_
  refine ev_gf (c := 86) (t := 121) (X := R 86 56) rfl rfl (fun _ => rfl) rfl (hG 86 56 121 rfl rfl) ?_
  refine ev_go 3 (pc1 := 19) (lv1 := [.ref 86, .int i, w2]) (st1 := [.int (2 + i), .ref 121]) (h1 := (124, I, J, R)) rfl ?_
  refine ev_ild (n := 100) rfl rfl (fun _ => rfl) n1 m1 ?_
  refine ev_br (b1 := true) rfl rfl (xcd_eq (x := (I 121 (2 + i).toNatClampNeg)) (y := 0) (by rw [show ((0 : Int32)).toInt = 0 from by decide]; first | exact b2 | omega)) ?_
  refine ev_go 2 (pc1 := 2) (lv1 := [.ref 86, .int (i + 1), w2]) (st1 := []) (h1 := (124, I, J, R)) rfl ?_
  exact hk
set_option maxRecDepth 20000 in
theorem vn_k {L : Nat} {xs : Nat → Int32} {d : Nat} {I : Nat → Nat → Int32} {J : Nat → Nat → Int64} {R : Nat → Nat → Nat} {J1 : Nat → Nat → Int64} {i w : Int32} {w2 : Value} (hG : aGd R) (b1 : i.toInt < (I 88 0).toInt) (n1 : 0 ≤ (2 + i).toInt) (m1 : (2 + i).toInt < 100) (b2 : (I 121 (2 + i).toNatClampNeg).toInt ≠ 0) (c1 : xEv L xs d 225 0 [.ref 86, .int 1000] [] (124, I, J, R) (some (.int w)) (124, I, J1, R)) (n2 : 0 ≤ i.toInt) (m2 : i.toInt < 14) (b3 : w.toInt ≥ (I 91 i.toNatClampNeg).toInt) {v : Option Value} {h' : xH} (hk : xEv L xs (d + 1) 230 2 [.ref 86, .int (i + 1), w2] [] (124, I, J1, R) v h') : xEv L xs (d + 1) 230 2 [.ref 86, .int i, w2] [] (124, I, J, R) v h' := by
  refine ev_go 2 (pc1 := 4) (lv1 := [.ref 86, .int i, w2]) (st1 := [.ref 86, .int i]) (h1 := (124, I, J, R)) rfl ?_
  refine ev_gf (c := 86) (t := 88) (X := R 86 12) rfl rfl (fun _ => rfl) rfl (hG 86 12 88 rfl rfl) ?_
  refine ev_go 2 (pc1 := 9) (lv1 := [.ref 86, .int i, w2]) (st1 := [.int (I 88 0), .int i]) (h1 := (124, I, J, R)) rfl ?_
  refine ev_br (b1 := false) rfl rfl (xcd_nge (x := i) (y := (I 88 0)) (by first | exact b1 | omega)) ?_
  refine ev_go 1 (pc1 := 13) (lv1 := [.ref 86, .int i, w2]) (st1 := [.ref 86]) (h1 := (124, I, J, R)) rfl ?_
  refine ev_gf (c := 86) (t := 121) (X := R 86 56) rfl rfl (fun _ => rfl) rfl (hG 86 56 121 rfl rfl) ?_
  refine ev_go 3 (pc1 := 19) (lv1 := [.ref 86, .int i, w2]) (st1 := [.int (2 + i), .ref 121]) (h1 := (124, I, J, R)) rfl ?_
  refine ev_ild (n := 100) rfl rfl (fun _ => rfl) n1 m1 ?_
  refine ev_br (b1 := false) rfl rfl (xcd_neq (x := (I 121 (2 + i).toNatClampNeg)) (y := 0) (by rw [show ((0 : Int32)).toInt = 0 from by decide]; first | exact b2 | omega)) ?_
  refine ev_go 2 (pc1 := 27) (lv1 := [.ref 86, .int i, w2]) (st1 := [.int 1000, .ref 86]) (h1 := (124, I, J, R)) rfl ?_
  refine ev_call (v1 := (some (.int w))) (h1 := (124, I, J1, R)) rfl rfl c1 ?_
  refine ev_go 1 (pc1 := 31) (lv1 := [.ref 86, .int i, w2]) (st1 := [.ref 86, .int w]) (h1 := (124, I, J1, R)) rfl ?_
  refine ev_gf (c := 86) (t := 91) (X := R 86 15) rfl rfl (fun _ => rfl) rfl (hG 86 15 91 rfl rfl) ?_
  refine ev_go 1 (pc1 := 35) (lv1 := [.ref 86, .int i, w2]) (st1 := [.int i, .ref 91, .int w]) (h1 := (124, I, J1, R)) rfl ?_
  refine ev_ild (n := 14) rfl rfl (fun _ => rfl) n2 m2 ?_
  refine ev_br (b1 := false) rfl rfl (xcd_nlt (x := w) (y := (I 91 i.toNatClampNeg)) (by first | exact b3 | omega)) ?_
  refine ev_go 3 (pc1 := 2) (lv1 := [.ref 86, .int (i + 1), w2]) (st1 := []) (h1 := (124, I, J1, R)) rfl ?_
  exact hk
set_option maxRecDepth 20000 in
theorem vn_b {L : Nat} {xs : Nat → Int32} {d : Nat} {I : Nat → Nat → Int32} {J : Nat → Nat → Int64} {R : Nat → Nat → Nat} {J1 : Nat → Nat → Int64} {i w : Int32} {w2 : Value} (hG : aGd R) (b1 : i.toInt < (I 88 0).toInt) (n1 : 0 ≤ (2 + i).toInt) (m1 : (2 + i).toInt < 100) (b2 : (I 121 (2 + i).toNatClampNeg).toInt ≠ 0) (c1 : xEv L xs d 225 0 [.ref 86, .int 1000] [] (124, I, J, R) (some (.int w)) (124, I, J1, R)) (n2 : 0 ≤ i.toInt) (m2 : i.toInt < 14) (b3 : w.toInt < (I 91 i.toNatClampNeg).toInt) (n3 : 0 ≤ (2 + i).toInt) (m3 : (2 + i).toInt < 100) {v : Option Value} {h' : xH} (hk : xEv L xs (d + 1) 230 53 [.ref 86, .int i, .int 0] [] (124, (uI I 121 (2 + i).toNatClampNeg 0), J1, R) v h') : xEv L xs (d + 1) 230 2 [.ref 86, .int i, w2] [] (124, I, J, R) v h' := by
  refine ev_go 2 (pc1 := 4) (lv1 := [.ref 86, .int i, w2]) (st1 := [.ref 86, .int i]) (h1 := (124, I, J, R)) rfl ?_
  refine ev_gf (c := 86) (t := 88) (X := R 86 12) rfl rfl (fun _ => rfl) rfl (hG 86 12 88 rfl rfl) ?_
  refine ev_go 2 (pc1 := 9) (lv1 := [.ref 86, .int i, w2]) (st1 := [.int (I 88 0), .int i]) (h1 := (124, I, J, R)) rfl ?_
  refine ev_br (b1 := false) rfl rfl (xcd_nge (x := i) (y := (I 88 0)) (by first | exact b1 | omega)) ?_
  refine ev_go 1 (pc1 := 13) (lv1 := [.ref 86, .int i, w2]) (st1 := [.ref 86]) (h1 := (124, I, J, R)) rfl ?_
  refine ev_gf (c := 86) (t := 121) (X := R 86 56) rfl rfl (fun _ => rfl) rfl (hG 86 56 121 rfl rfl) ?_
  refine ev_go 3 (pc1 := 19) (lv1 := [.ref 86, .int i, w2]) (st1 := [.int (2 + i), .ref 121]) (h1 := (124, I, J, R)) rfl ?_
  refine ev_ild (n := 100) rfl rfl (fun _ => rfl) n1 m1 ?_
  refine ev_br (b1 := false) rfl rfl (xcd_neq (x := (I 121 (2 + i).toNatClampNeg)) (y := 0) (by rw [show ((0 : Int32)).toInt = 0 from by decide]; first | exact b2 | omega)) ?_
  refine ev_go 2 (pc1 := 27) (lv1 := [.ref 86, .int i, w2]) (st1 := [.int 1000, .ref 86]) (h1 := (124, I, J, R)) rfl ?_
  refine ev_call (v1 := (some (.int w))) (h1 := (124, I, J1, R)) rfl rfl c1 ?_
  refine ev_go 1 (pc1 := 31) (lv1 := [.ref 86, .int i, w2]) (st1 := [.ref 86, .int w]) (h1 := (124, I, J1, R)) rfl ?_
  refine ev_gf (c := 86) (t := 91) (X := R 86 15) rfl rfl (fun _ => rfl) rfl (hG 86 15 91 rfl rfl) ?_
  refine ev_go 1 (pc1 := 35) (lv1 := [.ref 86, .int i, w2]) (st1 := [.int i, .ref 91, .int w]) (h1 := (124, I, J1, R)) rfl ?_
  refine ev_ild (n := 14) rfl rfl (fun _ => rfl) n2 m2 ?_
  refine ev_br (b1 := true) rfl rfl (xcd_lt (x := w) (y := (I 91 i.toNatClampNeg)) (by first | exact b3 | omega)) ?_
  refine ev_go 1 (pc1 := 43) (lv1 := [.ref 86, .int i, w2]) (st1 := [.ref 86]) (h1 := (124, I, J1, R)) rfl ?_
  refine ev_gf (c := 86) (t := 121) (X := R 86 56) rfl rfl (fun _ => rfl) rfl (hG 86 56 121 rfl rfl) ?_
  refine ev_go 4 (pc1 := 50) (lv1 := [.ref 86, .int i, w2]) (st1 := [.int 0, .int (2 + i), .ref 121]) (h1 := (124, I, J1, R)) rfl ?_
  refine ev_ist (n := 100) rfl rfl (fun _ => rfl) n3 m3 ?_
  refine ev_go 2 (pc1 := 53) (lv1 := [.ref 86, .int i, .int 0]) (st1 := []) (h1 := (124, (uI I 121 (2 + i).toNatClampNeg 0), J1, R)) rfl ?_
  exact hk
set_option maxRecDepth 20000 in
theorem vb_e {L : Nat} {xs : Nat → Int32} {d : Nat} {I : Nat → Nat → Int32} {J : Nat → Nat → Int64} {R : Nat → Nat → Nat} {i k : Int32} (hG : aGd R) (b1 : k.toInt ≥ (I 88 2).toInt) {v : Option Value} {h' : xH} (hk : xEv L xs d 230 2 [.ref 86, .int (i + 1), .int k] [] (124, I, J, R) v h') : xEv L xs d 230 53 [.ref 86, .int i, .int k] [] (124, I, J, R) v h' := by
  refine ev_go 2 (pc1 := 55) (lv1 := [.ref 86, .int i, .int k]) (st1 := [.ref 86, .int k]) (h1 := (124, I, J, R)) rfl ?_
  refine ev_gf (c := 86) (t := 88) (X := R 86 12) rfl rfl (fun _ => rfl) rfl (hG 86 12 88 rfl rfl) ?_
  refine ev_go 2 (pc1 := 60) (lv1 := [.ref 86, .int i, .int k]) (st1 := [.int (I 88 2), .int k]) (h1 := (124, I, J, R)) rfl ?_
  refine ev_br (b1 := true) rfl rfl (xcd_ge (x := k) (y := (I 88 2)) (by first | exact b1 | omega)) ?_
  refine ev_go 2 (pc1 := 2) (lv1 := [.ref 86, .int (i + 1), .int k]) (st1 := []) (h1 := (124, I, J, R)) rfl ?_
  exact hk
set_option maxRecDepth 20000 in
theorem vb_n {L : Nat} {xs : Nat → Int32} {d : Nat} {I : Nat → Nat → Int32} {J : Nat → Nat → Int64} {R : Nat → Nat → Nat} {i k : Int32} (hG : aGd R) (b1 : k.toInt < (I 88 2).toInt) (n1 : 0 ≤ (9 + k).toInt) (m1 : (9 + k).toInt < 100) (b2 : (I 121 (9 + k).toNatClampNeg).toInt ≠ i.toInt) {v : Option Value} {h' : xH} (hk : xEv L xs d 230 53 [.ref 86, .int i, .int (k + 1)] [] (124, I, J, R) v h') : xEv L xs d 230 53 [.ref 86, .int i, .int k] [] (124, I, J, R) v h' := by
  refine ev_go 2 (pc1 := 55) (lv1 := [.ref 86, .int i, .int k]) (st1 := [.ref 86, .int k]) (h1 := (124, I, J, R)) rfl ?_
  refine ev_gf (c := 86) (t := 88) (X := R 86 12) rfl rfl (fun _ => rfl) rfl (hG 86 12 88 rfl rfl) ?_
  refine ev_go 2 (pc1 := 60) (lv1 := [.ref 86, .int i, .int k]) (st1 := [.int (I 88 2), .int k]) (h1 := (124, I, J, R)) rfl ?_
  refine ev_br (b1 := false) rfl rfl (xcd_nge (x := k) (y := (I 88 2)) (by first | exact b1 | omega)) ?_
  refine ev_go 1 (pc1 := 64) (lv1 := [.ref 86, .int i, .int k]) (st1 := [.ref 86]) (h1 := (124, I, J, R)) rfl ?_
  refine ev_gf (c := 86) (t := 121) (X := R 86 56) rfl rfl (fun _ => rfl) rfl (hG 86 56 121 rfl rfl) ?_
  refine ev_go 3 (pc1 := 71) (lv1 := [.ref 86, .int i, .int k]) (st1 := [.int (9 + k), .ref 121]) (h1 := (124, I, J, R)) rfl ?_
  refine ev_ild (n := 100) rfl rfl (fun _ => rfl) n1 m1 ?_
  refine ev_go 1 (pc1 := 73) (lv1 := [.ref 86, .int i, .int k]) (st1 := [.int i, .int (I 121 (9 + k).toNatClampNeg)]) (h1 := (124, I, J, R)) rfl ?_
  refine ev_br (b1 := true) rfl rfl (xcd_ne (x := (I 121 (9 + k).toNatClampNeg)) (y := i) (by first | exact b2 | omega)) ?_
  refine ev_go 2 (pc1 := 53) (lv1 := [.ref 86, .int i, .int (k + 1)]) (st1 := []) (h1 := (124, I, J, R)) rfl ?_
  exact hk
set_option maxRecDepth 20000 in
theorem vb_y {L : Nat} {xs : Nat → Int32} {d : Nat} {I : Nat → Nat → Int32} {J : Nat → Nat → Int64} {R : Nat → Nat → Nat} {i k : Int32} (hG : aGd R) (b1 : k.toInt < (I 88 2).toInt) (n1 : 0 ≤ (9 + k).toInt) (m1 : (9 + k).toInt < 100) (b2 : (I 121 (9 + k).toNatClampNeg).toInt = i.toInt) (n2 : 0 ≤ (9 + k).toInt) (m2 : (9 + k).toInt < 100) {v : Option Value} {h' : xH} (hk : xEv L xs d 230 53 [.ref 86, .int i, .int (k + 1)] [] (124, (uI I 121 (9 + k).toNatClampNeg (-1)), J, R) v h') : xEv L xs d 230 53 [.ref 86, .int i, .int k] [] (124, I, J, R) v h' := by
  refine ev_go 2 (pc1 := 55) (lv1 := [.ref 86, .int i, .int k]) (st1 := [.ref 86, .int k]) (h1 := (124, I, J, R)) rfl ?_
  refine ev_gf (c := 86) (t := 88) (X := R 86 12) rfl rfl (fun _ => rfl) rfl (hG 86 12 88 rfl rfl) ?_
  refine ev_go 2 (pc1 := 60) (lv1 := [.ref 86, .int i, .int k]) (st1 := [.int (I 88 2), .int k]) (h1 := (124, I, J, R)) rfl ?_
  refine ev_br (b1 := false) rfl rfl (xcd_nge (x := k) (y := (I 88 2)) (by first | exact b1 | omega)) ?_
  refine ev_go 1 (pc1 := 64) (lv1 := [.ref 86, .int i, .int k]) (st1 := [.ref 86]) (h1 := (124, I, J, R)) rfl ?_
  refine ev_gf (c := 86) (t := 121) (X := R 86 56) rfl rfl (fun _ => rfl) rfl (hG 86 56 121 rfl rfl) ?_
  refine ev_go 3 (pc1 := 71) (lv1 := [.ref 86, .int i, .int k]) (st1 := [.int (9 + k), .ref 121]) (h1 := (124, I, J, R)) rfl ?_
  refine ev_ild (n := 100) rfl rfl (fun _ => rfl) n1 m1 ?_
  refine ev_go 1 (pc1 := 73) (lv1 := [.ref 86, .int i, .int k]) (st1 := [.int i, .int (I 121 (9 + k).toNatClampNeg)]) (h1 := (124, I, J, R)) rfl ?_
  refine ev_br (b1 := false) rfl rfl (xcd_nne (x := (I 121 (9 + k).toNatClampNeg)) (y := i) (by first | exact b2 | omega)) ?_
  refine ev_go 1 (pc1 := 77) (lv1 := [.ref 86, .int i, .int k]) (st1 := [.ref 86]) (h1 := (124, I, J, R)) rfl ?_
  refine ev_gf (c := 86) (t := 121) (X := R 86 56) rfl rfl (fun _ => rfl) rfl (hG 86 56 121 rfl rfl) ?_
  refine ev_go 4 (pc1 := 85) (lv1 := [.ref 86, .int i, .int k]) (st1 := [.int (-1), .int (9 + k), .ref 121]) (h1 := (124, I, J, R)) rfl ?_
  refine ev_ist (n := 100) rfl rfl (fun _ => rfl) n2 m2 ?_
  refine ev_go 2 (pc1 := 53) (lv1 := [.ref 86, .int i, .int (k + 1)]) (st1 := []) (h1 := (124, (uI I 121 (9 + k).toNatClampNeg (-1)), J, R)) rfl ?_
  exact hk
theorem bury_run {L : Nat} {xs : Nat → Int32} {d : Nat} {I : Nat → Nat → Int32} {J : Nat → Nat → Int64} {R : Nat → Nat → Nat} (hG : aGd R) (p : Int32) : ∃ I1 : Nat → Nat → Int32, xEv L xs (d + 1) 132 0 [.ref 66, .int p, xmk] [] (124, I, J, R) none (124, I1, J, R) ∧ I1 66 6 = I 66 6 &&& ((1 <<< (p &&& 31)) ^^^ (-1)) ∧ (∀ k, k < 4 → I1 67 k = if I 67 k = p then -1 else I 67 k) ∧ (∀ c k, ¬ (c = 66 ∧ k = 6) → c ≠ 67 → I1 c k = I c k) := by
  have lp : ∀ (f m : Nat) (i : Int32) (I2 : Nat → Nat → Int32), m + f = 4 → i.toInt = m → (∀ k, k < m → I2 67 k = if I 67 k = p then -1 else I 67 k) → (∀ k, m ≤ k → I2 67 k = I 67 k) → I2 66 6 = I 66 6 &&& ((1 <<< (p &&& 31)) ^^^ (-1)) → (∀ c k, ¬ (c = 66 ∧ k = 6) → c ≠ 67 → I2 c k = I c k) → ∃ I1 : Nat → Nat → Int32, xEv L xs (d + 1) 132 16 [.ref 66, .int p, .int i] [] (124, I2, J, R) none (124, I1, J, R) ∧ I1 66 6 = I 66 6 &&& ((1 <<< (p &&& 31)) ^^^ (-1)) ∧ (∀ k, k < 4 → I1 67 k = if I 67 k = p then -1 else I 67 k) ∧ (∀ c k, ¬ (c = 66 ∧ k = 6) → c ≠ 67 → I1 c k = I c k) := by
    intro f
    induction f with
    | zero =>
      intro m i I2 hm hi h1 h2 h3 h4
      exact ⟨I2, bu_e hG (by omega), h3, fun k hk => h1 k (by omega), h4⟩
    | succ f ih =>
      intro m i I2 hm hi h1 h2 h3 h4
      have hi' : (i + 1).toInt = (m + 1 : Nat) := by rw [i_add1 (by omega)]; omega
      have c1 := at_k (L := L) (xs := xs) (d := d) (I := I2) (J := J) (R := R) (c := 67) (m := 4) (fun _ => rfl) (by decide) hi (by omega)
      rw [h2 m (Nat.le_refl _)] at c1
      by_cases g : I 67 m = p
      · have c2 := pt_k (L := L) (xs := xs) (d := d) (I := I2) (J := J) (R := R) (c := 67) (m := 4) (fun _ => rfl) (by decide) hi (by omega) (-1)
        obtain ⟨I1, x1, x2⟩ := ih (m + 1) (i + 1) (uI I2 67 m (-1)) (by omega) hi' (fun k hk => by
          by_cases e : k = m
          · rw [e, uI_s, if_pos g]
          · rw [uI_n _ _ (by omega)]
            exact h1 k (by omega)) (fun k hk => by rw [uI_n _ _ (by omega)]; exact h2 k (by omega)) (by rw [uI_n _ _ (by omega)]; exact h3) (fun c k g1 g2 => by rw [uI_n _ _ (by omega)]; exact h4 c k g1 g2)
        exact ⟨I1, bu_y hG (by omega) c1 (by rw [g]) c2 x1, x2⟩
      · obtain ⟨I1, x1, x2⟩ := ih (m + 1) (i + 1) I2 (by omega) hi' (fun k hk => by
          by_cases e : k = m
          · rw [e, if_neg g]
            exact h2 m (Nat.le_refl _)
          · exact h1 k (by omega)) (fun k hk => h2 k (by omega)) h3 h4
        exact ⟨I1, bu_n hG (by omega) c1 (fun e => g (Int32.toInt_inj.mp e)) x1, x2⟩
  obtain ⟨I1, x1, x2⟩ := lp 4 0 0 (uI I 66 6 (I 66 6 &&& ((1 <<< (p &&& 31)) ^^^ (-1)))) (by omega) (by decide) (fun k hk => by omega) (fun k _ => uI_n _ _ (by omega)) (uI_s _ _ _ _) (fun c k g1 g2 => uI_n _ _ g1)
  exact ⟨I1, bu_s hG x1, x2⟩
/-- the reference buries -/
theorem vb_run {L : Nat} {xs : Nat → Int32} {d : Nat} {J : Nat → Nat → Int64} {R : Nat → Nat → Nat} (hG : aGd R) {I : Nat → Nat → Int32} {nn : Nat} (h88 : (I 88 2).toInt = nn) (n4 : nn ≤ 4) (i : Int32) : ∃ (I1 : Nat → Nat → Int32) (w2 : Value), (∀ (v : Option Value) (h' : xH), xEv L xs d 230 2 [.ref 86, .int (i + 1), w2] [] (124, I1, J, R) v h' → xEv L xs d 230 53 [.ref 86, .int i, .int 0] [] (124, I, J, R) v h') ∧ (∀ k, k < 4 → I1 121 (9 + k) = if k < nn ∧ I 121 (9 + k) = i then -1 else I 121 (9 + k)) ∧ (∀ c k, ¬ (c = 121 ∧ 9 ≤ k ∧ k < 13) → I1 c k = I c k) := by
  have lp : ∀ (f m : Nat) (j : Int32) (I2 : Nat → Nat → Int32), m + f = nn → j.toInt = m → (∀ k, k < m → I2 121 (9 + k) = if I 121 (9 + k) = i then -1 else I 121 (9 + k)) → (∀ k, m ≤ k → I2 121 (9 + k) = I 121 (9 + k)) → (∀ c k, ¬ (c = 121 ∧ 9 ≤ k ∧ k < 13) → I2 c k = I c k) → ∃ (I1 : Nat → Nat → Int32) (w2 : Value), (∀ (v : Option Value) (h' : xH), xEv L xs d 230 2 [.ref 86, .int (i + 1), w2] [] (124, I1, J, R) v h' → xEv L xs d 230 53 [.ref 86, .int i, .int j] [] (124, I2, J, R) v h') ∧ (∀ k, k < 4 → I1 121 (9 + k) = if k < nn ∧ I 121 (9 + k) = i then -1 else I 121 (9 + k)) ∧ (∀ c k, ¬ (c = 121 ∧ 9 ≤ k ∧ k < 13) → I1 c k = I c k) := by
    intro f
    induction f with
    | zero =>
      intro m j I2 hm hj h1 h2 h4
      refine ⟨I2, .int j, fun v h' hk => vb_e hG (by rw [h4 88 2 (by omega)]; omega) hk, fun k hk => ?_, h4⟩
      by_cases g : k < nn
      · rw [h1 k (by omega)]
        by_cases e : I 121 (9 + k) = i
        · rw [if_pos e, if_pos ⟨g, e⟩]
        · rw [if_neg e, if_neg (fun h => e h.2)]
      · rw [if_neg (fun h => g h.1)]
        exact h2 k (by omega)
    | succ f ih =>
      intro m j I2 hm hj h1 h2 h4
      have hj' : (j + 1).toInt = (m + 1 : Nat) := by rw [i_add1 (by omega)]; omega
      have j9 := at9_i (x := 9) (z := 9) (by decide) (by decide) hj (by omega)
      have at9' : I2 121 (9 + j).toNatClampNeg = I 121 (9 + m) := by rw [j9.2.2]; exact h2 m (Nat.le_refl _)
      have l88 : j.toInt < (I2 88 2).toInt := by rw [h4 88 2 (by omega)]; omega
      by_cases g : I 121 (9 + m) = i
      · obtain ⟨I1, w2, x1, x2⟩ := ih (m + 1) (j + 1) (uI I2 121 (9 + m) (-1)) (by omega) hj' (fun k hk => by
          by_cases e : k = m
          · rw [e, uI_s, if_pos g]
          · rw [uI_n _ _ (by omega)]
            exact h1 k (by omega)) (fun k hk => by rw [uI_n _ _ (by omega)]; exact h2 k (by omega)) (fun c k g1 => by rw [uI_n _ _ (by omega)]; exact h4 c k g1)
        exact ⟨I1, w2, fun v h' hk => vb_y hG l88 j9.1 j9.2.1 (by rw [at9', g]) j9.1 j9.2.1 (by rw [j9.2.2]; exact x1 v h' hk), x2⟩
      · obtain ⟨I1, w2, x1, x2⟩ := ih (m + 1) (j + 1) I2 (by omega) hj' (fun k hk => by
          by_cases e : k = m
          · rw [e, if_neg g]
            exact h2 m (Nat.le_refl _)
          · exact h1 k (by omega)) (fun k hk => h2 k (by omega)) h4
        exact ⟨I1, w2, fun v h' hk => vb_n hG l88 j9.1 j9.2.1 (by rw [at9']; exact fun e => g (Int32.toInt_inj.mp e)) (x1 v h' hk), x2⟩
  exact lp nn 0 0 I (by omega) (by decide) (fun k hk => by omega) (fun _ _ => rfl) (fun _ _ _ => rfl)
/-- who has died is dead in both -/
theorem tb_bury {x p : Int32} {z i : Nat} (hp : p.toInt = z) (hz : z < 31) (hi : i < 32) : tb (x &&& ((1 <<< (p &&& 31)) ^^^ (-1))) i = (tb x i && !decide (i = z)) := by
  rw [tb_and, tb_not hi, tb_shl hp hz]
