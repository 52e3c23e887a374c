set_option maxRecDepth 20000 in
theorem zst_s {L : Nat} {xs : Nat → Int32} {d : Nat} {I : Nat → Nat → Int32} {J : Nat → Nat → Int64} {R : Nat → Nat → Nat} (hG : aGd R)  {v : Option Value} {h' : xH} (hk : xEv L xs d 200 4 [.ref 86, .int 1, .int 0] [] (124, I, J, R) v h') : xEv L xs d 200 0 [.ref 86, xmk, xmk] [] (124, I, J, R) v h' := by
  refine ev_go 4 (pc1 := 4) (lv1 := [.ref 86, .int 1, .int 0]) (st1 := []) (h1 := (124, I, J, R)) rfl ?_
  exact hk
set_option maxRecDepth 20000 in
theorem zst_e {L : Nat} {xs : Nat → Int32} {d : Nat} {I : Nat → Nat → Int32} {J : Nat → Nat → Int64} {R : Nat → Nat → Nat} {n k : Int32} (hG : aGd R) (b1 : k.toInt ≥ (I 88 2).toInt) : xEv L xs d 200 4 [.ref 86, .int n, .int k] [] (124, I, J, R) (some (.int n)) (124, I, J, R) := by
  refine ev_go 2 (pc1 := 6) (lv1 := [.ref 86, .int n, .int k]) (st1 := [.ref 86, .int k]) (h1 := (124, I, J, R)) rfl ?_
  refine ev_gf (c := 86) (t := 88) (X := R 86 12) rfl rfl (fun _ => rfl) rfl (hG 86 12 88 rfl rfl) ?_
  refine ev_go 2 (pc1 := 11) (lv1 := [.ref 86, .int n, .int k]) (st1 := [.int (I 88 2), .int k]) (h1 := (124, I, J, R)) rfl ?_
  refine ev_br (b1 := true) rfl rfl (xcd_ge (x := k) (y := (I 88 2)) (by first | exact b1 | omega)) ?_
  refine ev_go 1 (pc1 := 26) (lv1 := [.ref 86, .int n, .int k]) (st1 := [.int n]) (h1 := (124, I, J, R)) rfl ?_
  exact ev_ret rfl rfl
set_option maxRecDepth 20000 in
theorem zst_y {L : Nat} {xs : Nat → Int32} {d : Nat} {I : Nat → Nat → Int32} {J : Nat → Nat → Int64} {R : Nat → Nat → Nat} {n k : Int32} (hG : aGd R) (b1 : k.toInt < (I 88 2).toInt) {v : Option Value} {h' : xH} (hk : xEv L xs d 200 4 [.ref 86, .int (n * 7), .int (k + 1)] [] (124, I, J, R) v h') : xEv L xs d 200 4 [.ref 86, .int n, .int k] [] (124, I, J, R) v h' := by
  refine ev_go 2 (pc1 := 6) (lv1 := [.ref 86, .int n, .int k]) (st1 := [.ref 86, .int k]) (h1 := (124, I, J, R)) rfl ?_
  refine ev_gf (c := 86) (t := 88) (X := R 86 12) rfl rfl (fun _ => rfl) rfl (hG 86 12 88 rfl rfl) ?_
  refine ev_go 2 (pc1 := 11) (lv1 := [.ref 86, .int n, .int k]) (st1 := [.int (I 88 2), .int k]) (h1 := (124, I, J, R)) rfl ?_
  refine ev_br (b1 := false) rfl rfl (xcd_nge (x := k) (y := (I 88 2)) (by first | exact b1 | omega)) ?_
  refine ev_go 6 (pc1 := 4) (lv1 := [.ref 86, .int (n * 7), .int (k + 1)]) (st1 := []) (h1 := (124, I, J, R)) rfl ?_
  exact hk
set_option maxRecDepth 20000 in
theorem zpo_s {L : Nat} {xs : Nat → Int32} {d : Nat} {I : Nat → Nat → Int32} {J : Nat → Nat → Int64} {R : Nat → Nat → Nat} {x : Int32} (hG : aGd R)  {v : Option Value} {h' : xH} (hk : xEv L xs d 201 4 [.ref 86, .int x, .int x, .int 0] [] (124, I, J, R) v h') : xEv L xs d 201 0 [.ref 86, .int x, xmk, xmk] [] (124, I, J, R) v h' := by
  refine ev_go 4 (pc1 := 4) (lv1 := [.ref 86, .int x, .int x, .int 0]) (st1 := []) (h1 := (124, I, J, R)) rfl ?_
  exact hk
set_option maxRecDepth 20000 in
theorem zpo_e {L : Nat} {xs : Nat → Int32} {d : Nat} {I : Nat → Nat → Int32} {J : Nat → Nat → Int64} {R : Nat → Nat → Nat} {x a n : Int32} (hG : aGd R) (b1 : n.toInt ≥ (I 88 2).toInt) : xEv L xs d 201 4 [.ref 86, .int x, .int a, .int n] [] (124, I, J, R) none (124, I, J, R) := by
  refine ev_go 2 (pc1 := 6) (lv1 := [.ref 86, .int x, .int a, .int n]) (st1 := [.ref 86, .int n]) (h1 := (124, I, J, R)) rfl ?_
  refine ev_gf (c := 86) (t := 88) (X := R 86 12) rfl rfl (fun _ => rfl) rfl (hG 86 12 88 rfl rfl) ?_
  refine ev_go 2 (pc1 := 11) (lv1 := [.ref 86, .int x, .int a, .int n]) (st1 := [.int (I 88 2), .int n]) (h1 := (124, I, J, R)) rfl ?_
  refine ev_br (b1 := true) rfl rfl (xcd_ge (x := n) (y := (I 88 2)) (by first | exact b1 | omega)) ?_
  exact ev_ret rfl rfl
set_option maxRecDepth 20000 in
theorem zpo_y {L : Nat} {xs : Nat → Int32} {d : Nat} {I : Nat → Nat → Int32} {J : Nat → Nat → Int64} {R : Nat → Nat → Nat} {x a n : Int32} (hG : aGd R) (b1 : n.toInt < (I 88 2).toInt) (n1 : 0 ≤ n.toInt) (m1 : n.toInt < 4) {v : Option Value} {h' : xH} (hk : xEv L xs d 201 4 [.ref 86, .int x, .int (a / 7), .int (n + 1)] [] (124, (uI I 114 n.toNatClampNeg (a - a / 7 * 7)), J, R) v h') : xEv L xs d 201 4 [.ref 86, .int x, .int a, .int n] [] (124, I, J, R) v h' := by
  refine ev_go 2 (pc1 := 6) (lv1 := [.ref 86, .int x, .int a, .int n]) (st1 := [.ref 86, .int n]) (h1 := (124, I, J, R)) rfl ?_
  refine ev_gf (c := 86) (t := 88) (X := R 86 12) rfl rfl (fun _ => rfl) rfl (hG 86 12 88 rfl rfl) ?_
  refine ev_go 2 (pc1 := 11) (lv1 := [.ref 86, .int x, .int a, .int n]) (st1 := [.int (I 88 2), .int n]) (h1 := (124, I, J, R)) rfl ?_
  refine ev_br (b1 := false) rfl rfl (xcd_nge (x := n) (y := (I 88 2)) (by first | exact b1 | omega)) ?_
  refine ev_go 1 (pc1 := 15) (lv1 := [.ref 86, .int x, .int a, .int n]) (st1 := [.ref 86]) (h1 := (124, I, J, R)) rfl ?_
  refine ev_gf (c := 86) (t := 114) (X := R 86 45) rfl rfl (fun _ => rfl) rfl (hG 86 45 114 rfl rfl) ?_
  refine ev_go 3 (pc1 := 22) (lv1 := [.ref 86, .int x, .int a, .int n]) (st1 := [.int 7, .int a, .int n, .ref 114]) (h1 := (124, I, J, R)) rfl ?_
  refine ev_go 1 (pc1 := 23) (lv1 := [.ref 86, .int x, .int a, .int n]) (st1 := [.int (a - a / 7 * 7), .int n, .ref 114]) (h1 := (124, I, J, R)) rfl ?_
  refine ev_ist (n := 4) rfl rfl (fun _ => rfl) n1 m1 ?_
  refine ev_go 2 (pc1 := 27) (lv1 := [.ref 86, .int x, .int a, .int n]) (st1 := [.int 7, .int a]) (h1 := (124, (uI I 114 n.toNatClampNeg (a - a / 7 * 7)), J, R)) rfl ?_
  refine ev_go 4 (pc1 := 4) (lv1 := [.ref 86, .int x, .int (a / 7), .int (n + 1)]) (st1 := []) (h1 := (124, (uI I 114 n.toNatClampNeg (a - a / 7 * 7)), J, R)) rfl ?_
  exact hk
set_option maxRecDepth 20000 in
theorem zso_s {L : Nat} {xs : Nat → Int32} {d : Nat} {I : Nat → Nat → Int32} {J : Nat → Nat → Int64} {R : Nat → Nat → Nat} (hG : aGd R)  {v : Option Value} {h' : xH} (hk : xEv L xs d 203 11 [.ref 86, .int 0, .int ((I 88 2) - 1)] [] (124, I, J, R) v h') : xEv L xs d 203 0 [.ref 86, xmk, xmk] [] (124, I, J, R) v h' := by
  refine ev_go 3 (pc1 := 3) (lv1 := [.ref 86, .int 0, xmk]) (st1 := [.ref 86]) (h1 := (124, I, J, R)) rfl ?_
  refine ev_gf (c := 86) (t := 88) (X := R 86 12) rfl rfl (fun _ => rfl) rfl (hG 86 12 88 rfl rfl) ?_
  refine ev_go 5 (pc1 := 11) (lv1 := [.ref 86, .int 0, .int ((I 88 2) - 1)]) (st1 := []) (h1 := (124, I, J, R)) rfl ?_
  exact hk
set_option maxRecDepth 20000 in
theorem zso_e {L : Nat} {xs : Nat → Int32} {d : Nat} {I : Nat → Nat → Int32} {J : Nat → Nat → Int64} {R : Nat → Nat → Nat} {a n : Int32} (hG : aGd R) (b1 : n.toInt < 0) : xEv L xs d 203 11 [.ref 86, .int a, .int n] [] (124, I, J, R) (some (.int a)) (124, I, J, R) := by
  refine ev_go 1 (pc1 := 12) (lv1 := [.ref 86, .int a, .int n]) (st1 := [.int n]) (h1 := (124, I, J, R)) rfl ?_
  refine ev_br (b1 := true) rfl rfl (xcd_lt (x := n) (y := 0) (by rw [show ((0 : Int32)).toInt = 0 from by decide]; first | exact b1 | omega)) ?_
  refine ev_go 1 (pc1 := 34) (lv1 := [.ref 86, .int a, .int n]) (st1 := [.int a]) (h1 := (124, I, J, R)) rfl ?_
  exact ev_ret rfl rfl
set_option maxRecDepth 20000 in
theorem zso_y {L : Nat} {xs : Nat → Int32} {d : Nat} {I : Nat → Nat → Int32} {J : Nat → Nat → Int64} {R : Nat → Nat → Nat} {a n dx1 : Int32} (hG : aGd R) (b1 : n.toInt ≥ 0) (n1 : 0 ≤ n.toInt) (m1 : n.toInt < 4) (i1 : n + (-1) = dx1) {v : Option Value} {h' : xH} (hk : xEv L xs d 203 11 [.ref 86, .int ((7 * a) + (I 114 n.toNatClampNeg)), .int dx1] [] (124, I, J, R) v h') : xEv L xs d 203 11 [.ref 86, .int a, .int n] [] (124, I, J, R) v h' := by
  refine ev_go 1 (pc1 := 12) (lv1 := [.ref 86, .int a, .int n]) (st1 := [.int n]) (h1 := (124, I, J, R)) rfl ?_
  refine ev_br (b1 := false) rfl rfl (xcd_nlt (x := n) (y := 0) (by rw [show ((0 : Int32)).toInt = 0 from by decide]; first | exact b1 | omega)) ?_
  refine ev_go 4 (pc1 := 20) (lv1 := [.ref 86, .int a, .int n]) (st1 := [.ref 86, .int (7 * a)]) (h1 := (124, I, J, R)) rfl ?_
  refine ev_gf (c := 86) (t := 114) (X := R 86 45) rfl rfl (fun _ => rfl) rfl (hG 86 45 114 rfl rfl) ?_
  refine ev_go 1 (pc1 := 24) (lv1 := [.ref 86, .int a, .int n]) (st1 := [.int n, .ref 114, .int (7 * a)]) (h1 := (124, I, J, R)) rfl ?_
  refine ev_ild (n := 4) rfl rfl (fun _ => rfl) n1 m1 ?_
  refine ev_go 2 (pc1 := 27) (lv1 := [.ref 86, .int ((7 * a) + (I 114 n.toNatClampNeg)), .int n]) (st1 := []) (h1 := (124, I, J, R)) rfl ?_
  refine ev_iinc (x := n) (y := dx1) (lv1 := [.ref 86, .int ((7 * a) + (I 114 n.toNatClampNeg)), .int dx1]) rfl rfl (by rw [show Int32.ofInt (-1) = (-1) from by decide]; exact i1) rfl ?_
  refine ev_go 1 (pc1 := 11) (lv1 := [.ref 86, .int ((7 * a) + (I 114 n.toNatClampNeg)), .int dx1]) (st1 := []) (h1 := (124, I, J, R)) rfl ?_
  exact hk
set_option maxRecDepth 20000 in
theorem zha_s {L : Nat} {xs : Nat → Int32} {d : Nat} {I : Nat → Nat → Int32} {J : Nat → Nat → Int64} {R : Nat → Nat → Nat} {q : Int32} (hG : aGd R)  {v : Option Value} {h' : xH} (hk : xEv L xs d 205 4 [.ref 86, .int q, .int 0, .int 0] [] (124, I, J, R) v h') : xEv L xs d 205 0 [.ref 86, .int q, xmk, xmk] [] (124, I, J, R) v h' := by
  refine ev_go 4 (pc1 := 4) (lv1 := [.ref 86, .int q, .int 0, .int 0]) (st1 := []) (h1 := (124, I, J, R)) rfl ?_
  exact hk
set_option maxRecDepth 20000 in
theorem zha_e {L : Nat} {xs : Nat → Int32} {d : Nat} {I : Nat → Nat → Int32} {J : Nat → Nat → Int64} {R : Nat → Nat → Nat} {q k n : Int32} (hG : aGd R) (b1 : n.toInt ≥ (I 88 2).toInt) : xEv L xs d 205 4 [.ref 86, .int q, .int k, .int n] [] (124, I, J, R) (some (.int k)) (124, I, J, R) := by
  refine ev_go 2 (pc1 := 6) (lv1 := [.ref 86, .int q, .int k, .int n]) (st1 := [.ref 86, .int n]) (h1 := (124, I, J, R)) rfl ?_
  refine ev_gf (c := 86) (t := 88) (X := R 86 12) rfl rfl (fun _ => rfl) rfl (hG 86 12 88 rfl rfl) ?_
  refine ev_go 2 (pc1 := 11) (lv1 := [.ref 86, .int q, .int k, .int n]) (st1 := [.int (I 88 2), .int n]) (h1 := (124, I, J, R)) rfl ?_
  refine ev_br (b1 := true) rfl rfl (xcd_ge (x := n) (y := (I 88 2)) (by first | exact b1 | omega)) ?_
  refine ev_go 1 (pc1 := 39) (lv1 := [.ref 86, .int q, .int k, .int n]) (st1 := [.int k]) (h1 := (124, I, J, R)) rfl ?_
  exact ev_ret rfl rfl
set_option maxRecDepth 20000 in
theorem zha_0 {L : Nat} {xs : Nat → Int32} {d : Nat} {I : Nat → Nat → Int32} {J : Nat → Nat → Int64} {R : Nat → Nat → Nat} {q k n : Int32} (hG : aGd R) (b1 : n.toInt < (I 88 2).toInt) (n1 : 0 ≤ n.toInt) (m1 : n.toInt < 4) (b2 : (I 114 n.toNatClampNeg).toInt ≠ q.toInt) {v : Option Value} {h' : xH} (hk : xEv L xs d 205 4 [.ref 86, .int q, .int (k + 0), .int (n + 1)] [] (124, I, J, R) v h') : xEv L xs d 205 4 [.ref 86, .int q, .int k, .int n] [] (124, I, J, R) v h' := by
  refine ev_go 2 (pc1 := 6) (lv1 := [.ref 86, .int q, .int k, .int n]) (st1 := [.ref 86, .int n]) (h1 := (124, I, J, R)) rfl ?_
  refine ev_gf (c := 86) (t := 88) (X := R 86 12) rfl rfl (fun _ => rfl) rfl (hG 86 12 88 rfl rfl) ?_
  refine ev_go 2 (pc1 := 11) (lv1 := [.ref 86, .int q, .int k, .int n]) (st1 := [.int (I 88 2), .int n]) (h1 := (124, I, J, R)) rfl ?_
  refine ev_br (b1 := false) rfl rfl (xcd_nge (x := n) (y := (I 88 2)) (by first | exact b1 | omega)) ?_
  refine ev_go 2 (pc1 := 16) (lv1 := [.ref 86, .int q, .int k, .int n]) (st1 := [.ref 86, .int k]) (h1 := (124, I, J, R)) rfl ?_
  refine ev_gf (c := 86) (t := 114) (X := R 86 45) rfl rfl (fun _ => rfl) rfl (hG 86 45 114 rfl rfl) ?_
  refine ev_go 1 (pc1 := 20) (lv1 := [.ref 86, .int q, .int k, .int n]) (st1 := [.int n, .ref 114, .int k]) (h1 := (124, I, J, R)) rfl ?_
  refine ev_ild (n := 4) rfl rfl (fun _ => rfl) n1 m1 ?_
  refine ev_go 1 (pc1 := 22) (lv1 := [.ref 86, .int q, .int k, .int n]) (st1 := [.int q, .int (I 114 n.toNatClampNeg), .int k]) (h1 := (124, I, J, R)) rfl ?_
  refine ev_br (b1 := true) rfl rfl (xcd_ne (x := (I 114 n.toNatClampNeg)) (y := q) (by first | exact b2 | omega)) ?_
  refine ev_go 5 (pc1 := 4) (lv1 := [.ref 86, .int q, .int (k + 0), .int (n + 1)]) (st1 := []) (h1 := (124, I, J, R)) rfl ?_
  exact hk
set_option maxRecDepth 20000 in
theorem zha_1 {L : Nat} {xs : Nat → Int32} {d : Nat} {I : Nat → Nat → Int32} {J : Nat → Nat → Int64} {R : Nat → Nat → Nat} {q k n : Int32} (hG : aGd R) (b1 : n.toInt < (I 88 2).toInt) (n1 : 0 ≤ n.toInt) (m1 : n.toInt < 4) (b2 : (I 114 n.toNatClampNeg).toInt = q.toInt) {v : Option Value} {h' : xH} (hk : xEv L xs d 205 4 [.ref 86, .int q, .int (k + 1), .int (n + 1)] [] (124, I, J, R) v h') : xEv L xs d 205 4 [.ref 86, .int q, .int k, .int n] [] (124, I, J, R) v h' := by
  refine ev_go 2 (pc1 := 6) (lv1 := [.ref 86, .int q, .int k, .int n]) (st1 := [.ref 86, .int n]) (h1 := (124, I, J, R)) rfl ?_
  refine ev_gf (c := 86) (t := 88) (X := R 86 12) rfl rfl (fun _ => rfl) rfl (hG 86 12 88 rfl rfl) ?_
  refine ev_go 2 (pc1 := 11) (lv1 := [.ref 86, .int q, .int k, .int n]) (st1 := [.int (I 88 2), .int n]) (h1 := (124, I, J, R)) rfl ?_
  refine ev_br (b1 := false) rfl rfl (xcd_nge (x := n) (y := (I 88 2)) (by first | exact b1 | omega)) ?_
  refine ev_go 2 (pc1 := 16) (lv1 := [.ref 86, .int q, .int k, .int n]) (st1 := [.ref 86, .int k]) (h1 := (124, I, J, R)) rfl ?_
  refine ev_gf (c := 86) (t := 114) (X := R 86 45) rfl rfl (fun _ => rfl) rfl (hG 86 45 114 rfl rfl) ?_
  refine ev_go 1 (pc1 := 20) (lv1 := [.ref 86, .int q, .int k, .int n]) (st1 := [.int n, .ref 114, .int k]) (h1 := (124, I, J, R)) rfl ?_
  refine ev_ild (n := 4) rfl rfl (fun _ => rfl) n1 m1 ?_
  refine ev_go 1 (pc1 := 22) (lv1 := [.ref 86, .int q, .int k, .int n]) (st1 := [.int q, .int (I 114 n.toNatClampNeg), .int k]) (h1 := (124, I, J, R)) rfl ?_
  refine ev_br (b1 := false) rfl rfl (xcd_nne (x := (I 114 n.toNatClampNeg)) (y := q) (by first | exact b2 | omega)) ?_
  refine ev_go 6 (pc1 := 4) (lv1 := [.ref 86, .int q, .int (k + 1), .int (n + 1)]) (st1 := []) (h1 := (124, I, J, R)) rfl ?_
  exact hk
set_option maxRecDepth 20000 in
theorem zin_s {L : Nat} {xs : Nat → Int32} {d : Nat} {I : Nat → Nat → Int32} {J : Nat → Nat → Int64} {R : Nat → Nat → Nat} {b : Int32} (hG : aGd R)  {v : Option Value} {h' : xH} (hk : xEv L xs d 204 4 [.ref 86, .int b, .int 0, .int 0] [] (124, I, J, R) v h') : xEv L xs d 204 0 [.ref 86, .int b, xmk, xmk] [] (124, I, J, R) v h' := by
  refine ev_go 4 (pc1 := 4) (lv1 := [.ref 86, .int b, .int 0, .int 0]) (st1 := []) (h1 := (124, I, J, R)) rfl ?_
  exact hk
set_option maxRecDepth 20000 in
theorem zin_e {L : Nat} {xs : Nat → Int32} {d : Nat} {I : Nat → Nat → Int32} {J : Nat → Nat → Int64} {R : Nat → Nat → Nat} {b k n : Int32} (hG : aGd R) (b1 : n.toInt ≥ (I 88 2).toInt) : xEv L xs d 204 4 [.ref 86, .int b, .int k, .int n] [] (124, I, J, R) (some (.int k)) (124, I, J, R) := by
  refine ev_go 2 (pc1 := 6) (lv1 := [.ref 86, .int b, .int k, .int n]) (st1 := [.ref 86, .int n]) (h1 := (124, I, J, R)) rfl ?_
  refine ev_gf (c := 86) (t := 88) (X := R 86 12) rfl rfl (fun _ => rfl) rfl (hG 86 12 88 rfl rfl) ?_
  refine ev_go 2 (pc1 := 11) (lv1 := [.ref 86, .int b, .int k, .int n]) (st1 := [.int (I 88 2), .int n]) (h1 := (124, I, J, R)) rfl ?_
  refine ev_br (b1 := true) rfl rfl (xcd_ge (x := n) (y := (I 88 2)) (by first | exact b1 | omega)) ?_
  refine ev_go 1 (pc1 := 59) (lv1 := [.ref 86, .int b, .int k, .int n]) (st1 := [.int k]) (h1 := (124, I, J, R)) rfl ?_
  exact ev_ret rfl rfl
set_option maxRecDepth 20000 in
theorem zin_0 {L : Nat} {xs : Nat → Int32} {d : Nat} {I : Nat → Nat → Int32} {J : Nat → Nat → Int64} {R : Nat → Nat → Nat} {b k n : Int32} (hG : aGd R) (b1 : n.toInt < (I 88 2).toInt) (n1 : 0 ≤ n.toInt) (m1 : n.toInt < 4) (b2 : (I 103 n.toNatClampNeg).toInt ≠ b.toInt) {v : Option Value} {h' : xH} (hk : xEv L xs d 204 4 [.ref 86, .int b, .int (k + 0), .int (n + 1)] [] (124, I, J, R) v h') : xEv L xs d 204 4 [.ref 86, .int b, .int k, .int n] [] (124, I, J, R) v h' := by
  refine ev_go 2 (pc1 := 6) (lv1 := [.ref 86, .int b, .int k, .int n]) (st1 := [.ref 86, .int n]) (h1 := (124, I, J, R)) rfl ?_
  refine ev_gf (c := 86) (t := 88) (X := R 86 12) rfl rfl (fun _ => rfl) rfl (hG 86 12 88 rfl rfl) ?_
  refine ev_go 2 (pc1 := 11) (lv1 := [.ref 86, .int b, .int k, .int n]) (st1 := [.int (I 88 2), .int n]) (h1 := (124, I, J, R)) rfl ?_
  refine ev_br (b1 := false) rfl rfl (xcd_nge (x := n) (y := (I 88 2)) (by first | exact b1 | omega)) ?_
  refine ev_go 2 (pc1 := 16) (lv1 := [.ref 86, .int b, .int k, .int n]) (st1 := [.ref 86, .int k]) (h1 := (124, I, J, R)) rfl ?_
  refine ev_gf (c := 86) (t := 103) (X := R 86 29) rfl rfl (fun _ => rfl) rfl (hG 86 29 103 rfl rfl) ?_
  refine ev_go 1 (pc1 := 20) (lv1 := [.ref 86, .int b, .int k, .int n]) (st1 := [.int n, .ref 103, .int k]) (h1 := (124, I, J, R)) rfl ?_
  refine ev_ild (n := 4) rfl rfl (fun _ => rfl) n1 m1 ?_
  refine ev_go 1 (pc1 := 22) (lv1 := [.ref 86, .int b, .int k, .int n]) (st1 := [.int b, .int (I 103 n.toNatClampNeg), .int k]) (h1 := (124, I, J, R)) rfl ?_
  refine ev_br (b1 := true) rfl rfl (xcd_ne (x := (I 103 n.toNatClampNeg)) (y := b) (by first | exact b2 | omega)) ?_
  refine ev_go 5 (pc1 := 4) (lv1 := [.ref 86, .int b, .int (k + 0), .int (n + 1)]) (st1 := []) (h1 := (124, I, J, R)) rfl ?_
  exact hk
set_option maxRecDepth 20000 in
theorem zin_1 {L : Nat} {xs : Nat → Int32} {d : Nat} {I : Nat → Nat → Int32} {J : Nat → Nat → Int64} {R : Nat → Nat → Nat} {b k n : Int32} (hG : aGd R) (b1 : n.toInt < (I 88 2).toInt) (n1 : 0 ≤ n.toInt) (m1 : n.toInt < 4) (b2 : (I 103 n.toNatClampNeg).toInt = b.toInt) (n2 : 0 ≤ n.toInt) (m2 : n.toInt < 4) (n3 : 0 ≤ n.toInt) (m3 : n.toInt < 8) (b3 : (I 114 n.toNatClampNeg).toInt ≠ (I 97 n.toNatClampNeg).toInt) {v : Option Value} {h' : xH} (hk : xEv L xs d 204 4 [.ref 86, .int b, .int (k + 0), .int (n + 1)] [] (124, I, J, R) v h') : xEv L xs d 204 4 [.ref 86, .int b, .int k, .int n] [] (124, I, J, R) v h' := by
  refine ev_go 2 (pc1 := 6) (lv1 := [.ref 86, .int b, .int k, .int n]) (st1 := [.ref 86, .int n]) (h1 := (124, I, J, R)) rfl ?_
  refine ev_gf (c := 86) (t := 88) (X := R 86 12) rfl rfl (fun _ => rfl) rfl (hG 86 12 88 rfl rfl) ?_
  refine ev_go 2 (pc1 := 11) (lv1 := [.ref 86, .int b, .int k, .int n]) (st1 := [.int (I 88 2), .int n]) (h1 := (124, I, J, R)) rfl ?_
  refine ev_br (b1 := false) rfl rfl (xcd_nge (x := n) (y := (I 88 2)) (by first | exact b1 | omega)) ?_
  refine ev_go 2 (pc1 := 16) (lv1 := [.ref 86, .int b, .int k, .int n]) (st1 := [.ref 86, .int k]) (h1 := (124, I, J, R)) rfl ?_
  refine ev_gf (c := 86) (t := 103) (X := R 86 29) rfl rfl (fun _ => rfl) rfl (hG 86 29 103 rfl rfl) ?_
  refine ev_go 1 (pc1 := 20) (lv1 := [.ref 86, .int b, .int k, .int n]) (st1 := [.int n, .ref 103, .int k]) (h1 := (124, I, J, R)) rfl ?_
  refine ev_ild (n := 4) rfl rfl (fun _ => rfl) n1 m1 ?_
  refine ev_go 1 (pc1 := 22) (lv1 := [.ref 86, .int b, .int k, .int n]) (st1 := [.int b, .int (I 103 n.toNatClampNeg), .int k]) (h1 := (124, I, J, R)) rfl ?_
  refine ev_br (b1 := false) rfl rfl (xcd_nne (x := (I 103 n.toNatClampNeg)) (y := b) (by first | exact b2 | omega)) ?_
  refine ev_go 1 (pc1 := 26) (lv1 := [.ref 86, .int b, .int k, .int n]) (st1 := [.ref 86, .int k]) (h1 := (124, I, J, R)) rfl ?_
  refine ev_gf (c := 86) (t := 114) (X := R 86 45) rfl rfl (fun _ => rfl) rfl (hG 86 45 114 rfl rfl) ?_
  refine ev_go 1 (pc1 := 30) (lv1 := [.ref 86, .int b, .int k, .int n]) (st1 := [.int n, .ref 114, .int k]) (h1 := (124, I, J, R)) rfl ?_
  refine ev_ild (n := 4) rfl rfl (fun _ => rfl) n2 m2 ?_
  refine ev_go 1 (pc1 := 32) (lv1 := [.ref 86, .int b, .int k, .int n]) (st1 := [.ref 86, .int (I 114 n.toNatClampNeg), .int k]) (h1 := (124, I, J, R)) rfl ?_
  refine ev_gf (c := 86) (t := 97) (X := R 86 21) rfl rfl (fun _ => rfl) rfl (hG 86 21 97 rfl rfl) ?_
  refine ev_go 1 (pc1 := 36) (lv1 := [.ref 86, .int b, .int k, .int n]) (st1 := [.int n, .ref 97, .int (I 114 n.toNatClampNeg), .int k]) (h1 := (124, I, J, R)) rfl ?_
  refine ev_ild (n := 8) rfl rfl (fun _ => rfl) n3 m3 ?_
  refine ev_br (b1 := true) rfl rfl (xcd_ne (x := (I 114 n.toNatClampNeg)) (y := (I 97 n.toNatClampNeg)) (by first | exact b3 | omega)) ?_
  refine ev_go 5 (pc1 := 4) (lv1 := [.ref 86, .int b, .int (k + 0), .int (n + 1)]) (st1 := []) (h1 := (124, I, J, R)) rfl ?_
  exact hk
set_option maxRecDepth 20000 in
theorem zin_2 {L : Nat} {xs : Nat → Int32} {d : Nat} {I : Nat → Nat → Int32} {J : Nat → Nat → Int64} {R : Nat → Nat → Nat} {b k n : Int32} (hG : aGd R) (b1 : n.toInt < (I 88 2).toInt) (n1 : 0 ≤ n.toInt) (m1 : n.toInt < 4) (b2 : (I 103 n.toNatClampNeg).toInt = b.toInt) (n2 : 0 ≤ n.toInt) (m2 : n.toInt < 4) (n3 : 0 ≤ n.toInt) (m3 : n.toInt < 8) (b3 : (I 114 n.toNatClampNeg).toInt = (I 97 n.toNatClampNeg).toInt) (n4 : 0 ≤ n.toInt) (m4 : n.toInt < 8) {v : Option Value} {h' : xH} (hk : xEv L xs d 204 4 [.ref 86, .int b, .int (k + (I 99 n.toNatClampNeg)), .int (n + 1)] [] (124, I, J, R) v h') : xEv L xs d 204 4 [.ref 86, .int b, .int k, .int n] [] (124, I, J, R) v h' := by
  refine ev_go 2 (pc1 := 6) (lv1 := [.ref 86, .int b, .int k, .int n]) (st1 := [.ref 86, .int n]) (h1 := (124, I, J, R)) rfl ?_
  refine ev_gf (c := 86) (t := 88) (X := R 86 12) rfl rfl (fun _ => rfl) rfl (hG 86 12 88 rfl rfl) ?_
  refine ev_go 2 (pc1 := 11) (lv1 := [.ref 86, .int b, .int k, .int n]) (st1 := [.int (I 88 2), .int n]) (h1 := (124, I, J, R)) rfl ?_
  refine ev_br (b1 := false) rfl rfl (xcd_nge (x := n) (y := (I 88 2)) (by first | exact b1 | omega)) ?_
  refine ev_go 2 (pc1 := 16) (lv1 := [.ref 86, .int b, .int k, .int n]) (st1 := [.ref 86, .int k]) (h1 := (124, I, J, R)) rfl ?_
  refine ev_gf (c := 86) (t := 103) (X := R 86 29) rfl rfl (fun _ => rfl) rfl (hG 86 29 103 rfl rfl) ?_
  refine ev_go 1 (pc1 := 20) (lv1 := [.ref 86, .int b, .int k, .int n]) (st1 := [.int n, .ref 103, .int k]) (h1 := (124, I, J, R)) rfl ?_
  refine ev_ild (n := 4) rfl rfl (fun _ => rfl) n1 m1 ?_
  refine ev_go 1 (pc1 := 22) (lv1 := [.ref 86, .int b, .int k, .int n]) (st1 := [.int b, .int (I 103 n.toNatClampNeg), .int k]) (h1 := (124, I, J, R)) rfl ?_
  refine ev_br (b1 := false) rfl rfl (xcd_nne (x := (I 103 n.toNatClampNeg)) (y := b) (by first | exact b2 | omega)) ?_
  refine ev_go 1 (pc1 := 26) (lv1 := [.ref 86, .int b, .int k, .int n]) (st1 := [.ref 86, .int k]) (h1 := (124, I, J, R)) rfl ?_
  refine ev_gf (c := 86) (t := 114) (X := R 86 45) rfl rfl (fun _ => rfl) rfl (hG 86 45 114 rfl rfl) ?_
  refine ev_go 1 (pc1 := 30) (lv1 := [.ref 86, .int b, .int k, .int n]) (st1 := [.int n, .ref 114, .int k]) (h1 := (124, I, J, R)) rfl ?_
  refine ev_ild (n := 4) rfl rfl (fun _ => rfl) n2 m2 ?_
  refine ev_go 1 (pc1 := 32) (lv1 := [.ref 86, .int b, .int k, .int n]) (st1 := [.ref 86, .int (I 114 n.toNatClampNeg), .int k]) (h1 := (124, I, J, R)) rfl ?_
  refine ev_gf (c := 86) (t := 97) (X := R 86 21) rfl rfl (fun _ => rfl) rfl (hG 86 21 97 rfl rfl) ?_
  refine ev_go 1 (pc1 := 36) (lv1 := [.ref 86, .int b, .int k, .int n]) (st1 := [.int n, .ref 97, .int (I 114 n.toNatClampNeg), .int k]) (h1 := (124, I, J, R)) rfl ?_
  refine ev_ild (n := 8) rfl rfl (fun _ => rfl) n3 m3 ?_
  refine ev_br (b1 := false) rfl rfl (xcd_nne (x := (I 114 n.toNatClampNeg)) (y := (I 97 n.toNatClampNeg)) (by first | exact b3 | omega)) ?_
  refine ev_go 1 (pc1 := 41) (lv1 := [.ref 86, .int b, .int k, .int n]) (st1 := [.ref 86, .int k]) (h1 := (124, I, J, R)) rfl ?_
  refine ev_gf (c := 86) (t := 99) (X := R 86 23) rfl rfl (fun _ => rfl) rfl (hG 86 23 99 rfl rfl) ?_
  refine ev_go 1 (pc1 := 45) (lv1 := [.ref 86, .int b, .int k, .int n]) (st1 := [.int n, .ref 99, .int k]) (h1 := (124, I, J, R)) rfl ?_
  refine ev_ild (n := 8) rfl rfl (fun _ => rfl) n4 m4 ?_
  refine ev_go 5 (pc1 := 4) (lv1 := [.ref 86, .int b, .int (k + (I 99 n.toNatClampNeg)), .int (n + 1)]) (st1 := []) (h1 := (124, I, J, R)) rfl ?_
  exact hk
set_option maxRecDepth 20000 in
theorem zfs_s {L : Nat} {xs : Nat → Int32} {d : Nat} {I : Nat → Nat → Int32} {J : Nat → Nat → Int64} {R : Nat → Nat → Nat} (hG : aGd R)  {v : Option Value} {h' : xH} (hk : xEv L xs d 206 2 [.ref 86, .int 0] [] (124, I, J, R) v h') : xEv L xs d 206 0 [.ref 86, xmk] [] (124, I, J, R) v h' := by
  refine ev_go 2 (pc1 := 2) (lv1 := [.ref 86, .int 0]) (st1 := []) (h1 := (124, I, J, R)) rfl ?_
  exact hk
set_option maxRecDepth 20000 in
theorem zfs_e {L : Nat} {xs : Nat → Int32} {d : Nat} {I : Nat → Nat → Int32} {J : Nat → Nat → Int64} {R : Nat → Nat → Nat} {n w : Int32} (hG : aGd R) (b1 : n.toInt ≥ (I 88 2).toInt) (c1 : xEv L xs d 203 0 [.ref 86, xmk, xmk] [] (124, I, J, R) (some (.int w)) (124, I, J, R)) : xEv L xs (d + 1) 206 2 [.ref 86, .int n] [] (124, I, J, R) (some (.int w)) (124, I, J, R) := by
  refine ev_go 2 (pc1 := 4) (lv1 := [.ref 86, .int n]) (st1 := [.ref 86, .int n]) (h1 := (124, I, J, R)) rfl ?_
  refine ev_gf (c := 86) (t := 88) (X := R 86 12) rfl rfl (fun _ => rfl) rfl (hG 86 12 88 rfl rfl) ?_
  refine ev_go 2 (pc1 := 9) (lv1 := [.ref 86, .int n]) (st1 := [.int (I 88 2), .int n]) (h1 := (124, I, J, R)) rfl ?_
  refine ev_br (b1 := true) rfl rfl (xcd_ge (x := n) (y := (I 88 2)) (by first | exact b1 | omega)) ?_
  refine ev_go 1 (pc1 := 31) (lv1 := [.ref 86, .int n]) (st1 := [.ref 86]) (h1 := (124, I, J, R)) rfl ?_
  refine ev_call (v1 := (some (.int w))) (h1 := (124, I, J, R)) rfl rfl c1 ?_
  exact ev_ret rfl rfl
set_option maxRecDepth 20000 in
theorem zfs_y {L : Nat} {xs : Nat → Int32} {d : Nat} {I : Nat → Nat → Int32} {J : Nat → Nat → Int64} {R : Nat → Nat → Nat} {n : Int32} (hG : aGd R) (b1 : n.toInt < (I 88 2).toInt) (n1 : 0 ≤ n.toInt) (m1 : n.toInt < 8) (n2 : 0 ≤ n.toInt) (m2 : n.toInt < 4) {v : Option Value} {h' : xH} (hk : xEv L xs d 206 2 [.ref 86, .int (n + 1)] [] (124, (uI I 114 n.toNatClampNeg (I 96 n.toNatClampNeg)), J, R) v h') : xEv L xs d 206 2 [.ref 86, .int n] [] (124, I, J, R) v h' := by
  refine ev_go 2 (pc1 := 4) (lv1 := [.ref 86, .int n]) (st1 := [.ref 86, .int n]) (h1 := (124, I, J, R)) rfl ?_
  refine ev_gf (c := 86) (t := 88) (X := R 86 12) rfl rfl (fun _ => rfl) rfl (hG 86 12 88 rfl rfl) ?_
  refine ev_go 2 (pc1 := 9) (lv1 := [.ref 86, .int n]) (st1 := [.int (I 88 2), .int n]) (h1 := (124, I, J, R)) rfl ?_
  refine ev_br (b1 := false) rfl rfl (xcd_nge (x := n) (y := (I 88 2)) (by first | exact b1 | omega)) ?_
  refine ev_go 1 (pc1 := 13) (lv1 := [.ref 86, .int n]) (st1 := [.ref 86]) (h1 := (124, I, J, R)) rfl ?_
  refine ev_gf (c := 86) (t := 114) (X := R 86 45) rfl rfl (fun _ => rfl) rfl (hG 86 45 114 rfl rfl) ?_
  refine ev_go 2 (pc1 := 18) (lv1 := [.ref 86, .int n]) (st1 := [.ref 86, .int n, .ref 114]) (h1 := (124, I, J, R)) rfl ?_
  refine ev_gf (c := 86) (t := 96) (X := R 86 20) rfl rfl (fun _ => rfl) rfl (hG 86 20 96 rfl rfl) ?_
  refine ev_go 1 (pc1 := 22) (lv1 := [.ref 86, .int n]) (st1 := [.int n, .ref 96, .int n, .ref 114]) (h1 := (124, I, J, R)) rfl ?_
  refine ev_ild (n := 8) rfl rfl (fun _ => rfl) n1 m1 ?_
  refine ev_ist (n := 4) rfl rfl (fun _ => rfl) n2 m2 ?_
  refine ev_go 2 (pc1 := 2) (lv1 := [.ref 86, .int (n + 1)]) (st1 := []) (h1 := (124, (uI I 114 n.toNatClampNeg (I 96 n.toNatClampNeg)), J, R)) rfl ?_
  exact hk
set_option maxRecDepth 20000 in
theorem zaw_s {L : Nat} {xs : Nat → Int32} {d : Nat} {I : Nat → Nat → Int32} {J : Nat → Nat → Int64} {R : Nat → Nat → Nat} {I1 : Nat → Nat → Int32} {x u q : Int32} (hG : aGd R) (c1 : xEv L xs d 201 0 [.ref 86, .int x, xmk, xmk] [] (124, I, J, R) none (124, I1, J, R)) {v : Option Value} {h' : xH} (hk : xEv L xs (d + 1) 209 8 [.ref 86, .int x, .int u, .int q, .int 0] [] (124, I1, J, R) v h') : xEv L xs (d + 1) 209 0 [.ref 86, .int x, .int u, .int q, xmk] [] (124, I, J, R) v h' := by
  refine ev_go 2 (pc1 := 2) (lv1 := [.ref 86, .int x, .int u, .int q, xmk]) (st1 := [.int x, .ref 86]) (h1 := (124, I, J, R)) rfl ?_
  refine ev_call (v1 := none) (h1 := (124, I1, J, R)) rfl rfl c1 ?_
  refine ev_go 2 (pc1 := 8) (lv1 := [.ref 86, .int x, .int u, .int q, .int 0]) (st1 := []) (h1 := (124, I1, J, R)) rfl ?_
  exact hk
set_option maxRecDepth 20000 in
theorem zaw_e {L : Nat} {xs : Nat → Int32} {d : Nat} {I : Nat → Nat → Int32} {J : Nat → Nat → Int64} {R : Nat → Nat → Nat} {x u q n : Int32} (hG : aGd R) (b1 : n.toInt ≥ (I 88 2).toInt) : xEv L xs d 209 8 [.ref 86, .int x, .int u, .int q, .int n] [] (124, I, J, R) (some (.int 1)) (124, I, J, R) := by
  refine ev_go 2 (pc1 := 11) (lv1 := [.ref 86, .int x, .int u, .int q, .int n]) (st1 := [.ref 86, .int n]) (h1 := (124, I, J, R)) rfl ?_
  refine ev_gf (c := 86) (t := 88) (X := R 86 12) rfl rfl (fun _ => rfl) rfl (hG 86 12 88 rfl rfl) ?_
  refine ev_go 2 (pc1 := 16) (lv1 := [.ref 86, .int x, .int u, .int q, .int n]) (st1 := [.int (I 88 2), .int n]) (h1 := (124, I, J, R)) rfl ?_
  refine ev_br (b1 := true) rfl rfl (xcd_ge (x := n) (y := (I 88 2)) (by first | exact b1 | omega)) ?_
  refine ev_go 1 (pc1 := 49) (lv1 := [.ref 86, .int x, .int u, .int q, .int n]) (st1 := [.int 1]) (h1 := (124, I, J, R)) rfl ?_
  exact ev_ret rfl rfl
set_option maxRecDepth 20000 in
theorem zaw_0 {L : Nat} {xs : Nat → Int32} {d : Nat} {I : Nat → Nat → Int32} {J : Nat → Nat → Int64} {R : Nat → Nat → Nat} {x u q n : Int32} (hG : aGd R) (b1 : n.toInt < (I 88 2).toInt) (b2 : ((u >>> (n &&& 31)) &&& 1).toInt ≠ 1) {v : Option Value} {h' : xH} (hk : xEv L xs d 209 8 [.ref 86, .int x, .int u, .int q, .int (n + 1)] [] (124, I, J, R) v h') : xEv L xs d 209 8 [.ref 86, .int x, .int u, .int q, .int n] [] (124, I, J, R) v h' := by
  refine ev_go 2 (pc1 := 11) (lv1 := [.ref 86, .int x, .int u, .int q, .int n]) (st1 := [.ref 86, .int n]) (h1 := (124, I, J, R)) rfl ?_
  refine ev_gf (c := 86) (t := 88) (X := R 86 12) rfl rfl (fun _ => rfl) rfl (hG 86 12 88 rfl rfl) ?_
  refine ev_go 2 (pc1 := 16) (lv1 := [.ref 86, .int x, .int u, .int q, .int n]) (st1 := [.int (I 88 2), .int n]) (h1 := (124, I, J, R)) rfl ?_
  refine ev_br (b1 := false) rfl rfl (xcd_nge (x := n) (y := (I 88 2)) (by first | exact b1 | omega)) ?_
  refine ev_go 2 (pc1 := 22) (lv1 := [.ref 86, .int x, .int u, .int q, .int n]) (st1 := [.int n, .int u]) (h1 := (124, I, J, R)) rfl ?_
  refine ev_go 4 (pc1 := 26) (lv1 := [.ref 86, .int x, .int u, .int q, .int n]) (st1 := [.int 1, .int ((u >>> (n &&& 31)) &&& 1)]) (h1 := (124, I, J, R)) rfl ?_
  refine ev_br (b1 := true) rfl rfl (xcd_ne (x := ((u >>> (n &&& 31)) &&& 1)) (y := 1) (by rw [show ((1 : Int32)).toInt = 1 from by decide]; first | exact b2 | omega)) ?_
  refine ev_go 2 (pc1 := 8) (lv1 := [.ref 86, .int x, .int u, .int q, .int (n + 1)]) (st1 := []) (h1 := (124, I, J, R)) rfl ?_
  exact hk
set_option maxRecDepth 20000 in
theorem zaw_1 {L : Nat} {xs : Nat → Int32} {d : Nat} {I : Nat → Nat → Int32} {J : Nat → Nat → Int64} {R : Nat → Nat → Nat} {x u q n : Int32} (hG : aGd R) (b1 : n.toInt < (I 88 2).toInt) (b2 : ((u >>> (n &&& 31)) &&& 1).toInt = 1) (n1 : 0 ≤ n.toInt) (m1 : n.toInt < 4) (b3 : (I 114 n.toNatClampNeg).toInt = q.toInt) {v : Option Value} {h' : xH} (hk : xEv L xs d 209 8 [.ref 86, .int x, .int u, .int q, .int (n + 1)] [] (124, I, J, R) v h') : xEv L xs d 209 8 [.ref 86, .int x, .int u, .int q, .int n] [] (124, I, J, R) v h' := by
  refine ev_go 2 (pc1 := 11) (lv1 := [.ref 86, .int x, .int u, .int q, .int n]) (st1 := [.ref 86, .int n]) (h1 := (124, I, J, R)) rfl ?_
  refine ev_gf (c := 86) (t := 88) (X := R 86 12) rfl rfl (fun _ => rfl) rfl (hG 86 12 88 rfl rfl) ?_
  refine ev_go 2 (pc1 := 16) (lv1 := [.ref 86, .int x, .int u, .int q, .int n]) (st1 := [.int (I 88 2), .int n]) (h1 := (124, I, J, R)) rfl ?_
  refine ev_br (b1 := false) rfl rfl (xcd_nge (x := n) (y := (I 88 2)) (by first | exact b1 | omega)) ?_
  refine ev_go 2 (pc1 := 22) (lv1 := [.ref 86, .int x, .int u, .int q, .int n]) (st1 := [.int n, .int u]) (h1 := (124, I, J, R)) rfl ?_
  refine ev_go 4 (pc1 := 26) (lv1 := [.ref 86, .int x, .int u, .int q, .int n]) (st1 := [.int 1, .int ((u >>> (n &&& 31)) &&& 1)]) (h1 := (124, I, J, R)) rfl ?_
  refine ev_br (b1 := false) rfl rfl (xcd_nne (x := ((u >>> (n &&& 31)) &&& 1)) (y := 1) (by rw [show ((1 : Int32)).toInt = 1 from by decide]; first | exact b2 | omega)) ?_
  refine ev_go 1 (pc1 := 30) (lv1 := [.ref 86, .int x, .int u, .int q, .int n]) (st1 := [.ref 86]) (h1 := (124, I, J, R)) rfl ?_
  refine ev_gf (c := 86) (t := 114) (X := R 86 45) rfl rfl (fun _ => rfl) rfl (hG 86 45 114 rfl rfl) ?_
  refine ev_go 1 (pc1 := 35) (lv1 := [.ref 86, .int x, .int u, .int q, .int n]) (st1 := [.int n, .ref 114]) (h1 := (124, I, J, R)) rfl ?_
  refine ev_ild (n := 4) rfl rfl (fun _ => rfl) n1 m1 ?_
  refine ev_go 1 (pc1 := 37) (lv1 := [.ref 86, .int x, .int u, .int q, .int n]) (st1 := [.int q, .int (I 114 n.toNatClampNeg)]) (h1 := (124, I, J, R)) rfl ?_
  refine ev_br (b1 := true) rfl rfl (xcd_eq (x := (I 114 n.toNatClampNeg)) (y := q) (by first | exact b3 | omega)) ?_
  refine ev_go 2 (pc1 := 8) (lv1 := [.ref 86, .int x, .int u, .int q, .int (n + 1)]) (st1 := []) (h1 := (124, I, J, R)) rfl ?_
  exact hk
set_option maxRecDepth 20000 in
theorem zaw_2 {L : Nat} {xs : Nat → Int32} {d : Nat} {I : Nat → Nat → Int32} {J : Nat → Nat → Int64} {R : Nat → Nat → Nat} {x u q n : Int32} (hG : aGd R) (b1 : n.toInt < (I 88 2).toInt) (b2 : ((u >>> (n &&& 31)) &&& 1).toInt = 1) (n1 : 0 ≤ n.toInt) (m1 : n.toInt < 4) (b3 : (I 114 n.toNatClampNeg).toInt ≠ q.toInt) : xEv L xs d 209 8 [.ref 86, .int x, .int u, .int q, .int n] [] (124, I, J, R) (some (.int 0)) (124, I, J, R) := by
  refine ev_go 2 (pc1 := 11) (lv1 := [.ref 86, .int x, .int u, .int q, .int n]) (st1 := [.ref 86, .int n]) (h1 := (124, I, J, R)) rfl ?_
  refine ev_gf (c := 86) (t := 88) (X := R 86 12) rfl rfl (fun _ => rfl) rfl (hG 86 12 88 rfl rfl) ?_
  refine ev_go 2 (pc1 := 16) (lv1 := [.ref 86, .int x, .int u, .int q, .int n]) (st1 := [.int (I 88 2), .int n]) (h1 := (124, I, J, R)) rfl ?_
  refine ev_br (b1 := false) rfl rfl (xcd_nge (x := n) (y := (I 88 2)) (by first | exact b1 | omega)) ?_
  refine ev_go 2 (pc1 := 22) (lv1 := [.ref 86, .int x, .int u, .int q, .int n]) (st1 := [.int n, .int u]) (h1 := (124, I, J, R)) rfl ?_
  refine ev_go 4 (pc1 := 26) (lv1 := [.ref 86, .int x, .int u, .int q, .int n]) (st1 := [.int 1, .int ((u >>> (n &&& 31)) &&& 1)]) (h1 := (124, I, J, R)) rfl ?_
  refine ev_br (b1 := false) rfl rfl (xcd_nne (x := ((u >>> (n &&& 31)) &&& 1)) (y := 1) (by rw [show ((1 : Int32)).toInt = 1 from by decide]; first | exact b2 | omega)) ?_
  refine ev_go 1 (pc1 := 30) (lv1 := [.ref 86, .int x, .int u, .int q, .int n]) (st1 := [.ref 86]) (h1 := (124, I, J, R)) rfl ?_
  refine ev_gf (c := 86) (t := 114) (X := R 86 45) rfl rfl (fun _ => rfl) rfl (hG 86 45 114 rfl rfl) ?_
  refine ev_go 1 (pc1 := 35) (lv1 := [.ref 86, .int x, .int u, .int q, .int n]) (st1 := [.int n, .ref 114]) (h1 := (124, I, J, R)) rfl ?_
  refine ev_ild (n := 4) rfl rfl (fun _ => rfl) n1 m1 ?_
  refine ev_go 1 (pc1 := 37) (lv1 := [.ref 86, .int x, .int u, .int q, .int n]) (st1 := [.int q, .int (I 114 n.toNatClampNeg)]) (h1 := (124, I, J, R)) rfl ?_
  refine ev_br (b1 := false) rfl rfl (xcd_neq (x := (I 114 n.toNatClampNeg)) (y := q) (by first | exact b3 | omega)) ?_
  refine ev_go 1 (pc1 := 41) (lv1 := [.ref 86, .int x, .int u, .int q, .int n]) (st1 := [.int 0]) (h1 := (124, I, J, R)) rfl ?_
  exact ev_ret rfl rfl
set_option maxRecDepth 20000 in
theorem zmb_0 {L : Nat} {xs : Nat → Int32} {d : Nat} {I : Nat → Nat → Int32} {J : Nat → Nat → Int64} {R : Nat → Nat → Nat} {q t r1 r2 : Int32} (hG : aGd R) (c1 : xEv L xs d 177 0 [.ref 86, .int t] [] (124, I, J, R) (some (.int r1)) (124, I, J, R)) (b1 : q.toInt = r1.toInt) (c2 : xEv L xs d 178 0 [.ref 86, .int t] [] (124, I, J, R) (some (.int r2)) (124, I, J, R)) : xEv L xs (d + 1) 176 0 [.ref 86, .int q, .int t] [] (124, I, J, R) (some (.int r2)) (124, I, J, R) := by
  refine ev_go 3 (pc1 := 3) (lv1 := [.ref 86, .int q, .int t]) (st1 := [.int t, .ref 86, .int q]) (h1 := (124, I, J, R)) rfl ?_
  refine ev_call (v1 := (some (.int r1))) (h1 := (124, I, J, R)) rfl rfl c1 ?_
  refine ev_br (b1 := false) rfl rfl (xcd_nne (x := q) (y := r1) (by first | exact b1 | omega)) ?_
  refine ev_go 2 (pc1 := 11) (lv1 := [.ref 86, .int q, .int t]) (st1 := [.int t, .ref 86]) (h1 := (124, I, J, R)) rfl ?_
  refine ev_call (v1 := (some (.int r2))) (h1 := (124, I, J, R)) rfl rfl c2 ?_
  refine ev_go 1 (pc1 := 35) (lv1 := [.ref 86, .int q, .int t]) (st1 := [.int r2]) (h1 := (124, I, J, R)) rfl ?_
  exact ev_ret rfl rfl
set_option maxRecDepth 20000 in
theorem zmb_1 {L : Nat} {xs : Nat → Int32} {d : Nat} {I : Nat → Nat → Int32} {J : Nat → Nat → Int64} {R : Nat → Nat → Nat} {q t r1 r2 : Int32} (hG : aGd R) (c1 : xEv L xs d 177 0 [.ref 86, .int t] [] (124, I, J, R) (some (.int r1)) (124, I, J, R)) (b1 : q.toInt ≠ r1.toInt) (c2 : xEv L xs d 178 0 [.ref 86, .int t] [] (124, I, J, R) (some (.int r2)) (124, I, J, R)) (b2 : q.toInt = r2.toInt) (c3 : xEv L xs d 177 0 [.ref 86, .int t] [] (124, I, J, R) (some (.int r1)) (124, I, J, R)) : xEv L xs (d + 1) 176 0 [.ref 86, .int q, .int t] [] (124, I, J, R) (some (.int r1)) (124, I, J, R) := by
  refine ev_go 3 (pc1 := 3) (lv1 := [.ref 86, .int q, .int t]) (st1 := [.int t, .ref 86, .int q]) (h1 := (124, I, J, R)) rfl ?_
  refine ev_call (v1 := (some (.int r1))) (h1 := (124, I, J, R)) rfl rfl c1 ?_
  refine ev_br (b1 := true) rfl rfl (xcd_ne (x := q) (y := r1) (by first | exact b1 | omega)) ?_
  refine ev_go 3 (pc1 := 20) (lv1 := [.ref 86, .int q, .int t]) (st1 := [.int t, .ref 86, .int q]) (h1 := (124, I, J, R)) rfl ?_
  refine ev_call (v1 := (some (.int r2))) (h1 := (124, I, J, R)) rfl rfl c2 ?_
  refine ev_br (b1 := false) rfl rfl (xcd_nne (x := q) (y := r2) (by first | exact b2 | omega)) ?_
  refine ev_go 2 (pc1 := 28) (lv1 := [.ref 86, .int q, .int t]) (st1 := [.int t, .ref 86]) (h1 := (124, I, J, R)) rfl ?_
  refine ev_call (v1 := (some (.int r1))) (h1 := (124, I, J, R)) rfl rfl c3 ?_
  refine ev_go 1 (pc1 := 35) (lv1 := [.ref 86, .int q, .int t]) (st1 := [.int r1]) (h1 := (124, I, J, R)) rfl ?_
  exact ev_ret rfl rfl
set_option maxRecDepth 20000 in
theorem zmb_2 {L : Nat} {xs : Nat → Int32} {d : Nat} {I : Nat → Nat → Int32} {J : Nat → Nat → Int64} {R : Nat → Nat → Nat} {q t r1 r2 : Int32} (hG : aGd R) (c1 : xEv L xs d 177 0 [.ref 86, .int t] [] (124, I, J, R) (some (.int r1)) (124, I, J, R)) (b1 : q.toInt ≠ r1.toInt) (c2 : xEv L xs d 178 0 [.ref 86, .int t] [] (124, I, J, R) (some (.int r2)) (124, I, J, R)) (b2 : q.toInt ≠ r2.toInt) : xEv L xs (d + 1) 176 0 [.ref 86, .int q, .int t] [] (124, I, J, R) (some (.int (-1))) (124, I, J, R) := by
  refine ev_go 3 (pc1 := 3) (lv1 := [.ref 86, .int q, .int t]) (st1 := [.int t, .ref 86, .int q]) (h1 := (124, I, J, R)) rfl ?_
  refine ev_call (v1 := (some (.int r1))) (h1 := (124, I, J, R)) rfl rfl c1 ?_
  refine ev_br (b1 := true) rfl rfl (xcd_ne (x := q) (y := r1) (by first | exact b1 | omega)) ?_
  refine ev_go 3 (pc1 := 20) (lv1 := [.ref 86, .int q, .int t]) (st1 := [.int t, .ref 86, .int q]) (h1 := (124, I, J, R)) rfl ?_
  refine ev_call (v1 := (some (.int r2))) (h1 := (124, I, J, R)) rfl rfl c2 ?_
  refine ev_br (b1 := true) rfl rfl (xcd_ne (x := q) (y := r2) (by first | exact b2 | omega)) ?_
  refine ev_go 1 (pc1 := 35) (lv1 := [.ref 86, .int q, .int t]) (st1 := [.int (-1)]) (h1 := (124, I, J, R)) rfl ?_
  exact ev_ret rfl rfl
set_option maxRecDepth 20000 in
theorem zib_0 {L : Nat} {xs : Nat → Int32} {d : Nat} {I : Nat → Nat → Int32} {J : Nat → Nat → Int64} {R : Nat → Nat → Nat} {n q : Int32} (hG : aGd R) (n1 : 0 ≤ n.toInt) (m1 : n.toInt < 8) (b1 : (((I 100 n.toNatClampNeg) >>> (q &&& 31)) &&& 1).toInt ≠ 1) : xEv L xs d 179 0 [.ref 86, .int n, .int q] [] (124, I, J, R) (some (.int 0)) (124, I, J, R) := by
  refine ev_go 1 (pc1 := 1) (lv1 := [.ref 86, .int n, .int q]) (st1 := [.ref 86]) (h1 := (124, I, J, R)) rfl ?_
  refine ev_gf (c := 86) (t := 100) (X := R 86 24) rfl rfl (fun _ => rfl) rfl (hG 86 24 100 rfl rfl) ?_
  refine ev_go 1 (pc1 := 5) (lv1 := [.ref 86, .int n, .int q]) (st1 := [.int n, .ref 100]) (h1 := (124, I, J, R)) rfl ?_
  refine ev_ild (n := 8) rfl rfl (fun _ => rfl) n1 m1 ?_
  refine ev_go 1 (pc1 := 7) (lv1 := [.ref 86, .int n, .int q]) (st1 := [.int q, .int (I 100 n.toNatClampNeg)]) (h1 := (124, I, J, R)) rfl ?_
  refine ev_go 4 (pc1 := 11) (lv1 := [.ref 86, .int n, .int q]) (st1 := [.int 1, .int (((I 100 n.toNatClampNeg) >>> (q &&& 31)) &&& 1)]) (h1 := (124, I, J, R)) rfl ?_
  refine ev_br (b1 := true) rfl rfl (xcd_ne (x := (((I 100 n.toNatClampNeg) >>> (q &&& 31)) &&& 1)) (y := 1) (by rw [show ((1 : Int32)).toInt = 1 from by decide]; first | exact b1 | omega)) ?_
  refine ev_go 1 (pc1 := 19) (lv1 := [.ref 86, .int n, .int q]) (st1 := [.int 0]) (h1 := (124, I, J, R)) rfl ?_
  exact ev_ret rfl rfl
set_option maxRecDepth 20000 in
theorem zib_1 {L : Nat} {xs : Nat → Int32} {d : Nat} {I : Nat → Nat → Int32} {J : Nat → Nat → Int64} {R : Nat → Nat → Nat} {n q : Int32} (hG : aGd R) (n1 : 0 ≤ n.toInt) (m1 : n.toInt < 8) (b1 : (((I 100 n.toNatClampNeg) >>> (q &&& 31)) &&& 1).toInt = 1) : xEv L xs d 179 0 [.ref 86, .int n, .int q] [] (124, I, J, R) (some (.int 1)) (124, I, J, R) := by
  refine ev_go 1 (pc1 := 1) (lv1 := [.ref 86, .int n, .int q]) (st1 := [.ref 86]) (h1 := (124, I, J, R)) rfl ?_
  refine ev_gf (c := 86) (t := 100) (X := R 86 24) rfl rfl (fun _ => rfl) rfl (hG 86 24 100 rfl rfl) ?_
  refine ev_go 1 (pc1 := 5) (lv1 := [.ref 86, .int n, .int q]) (st1 := [.int n, .ref 100]) (h1 := (124, I, J, R)) rfl ?_
  refine ev_ild (n := 8) rfl rfl (fun _ => rfl) n1 m1 ?_
  refine ev_go 1 (pc1 := 7) (lv1 := [.ref 86, .int n, .int q]) (st1 := [.int q, .int (I 100 n.toNatClampNeg)]) (h1 := (124, I, J, R)) rfl ?_
  refine ev_go 4 (pc1 := 11) (lv1 := [.ref 86, .int n, .int q]) (st1 := [.int 1, .int (((I 100 n.toNatClampNeg) >>> (q &&& 31)) &&& 1)]) (h1 := (124, I, J, R)) rfl ?_
  refine ev_br (b1 := false) rfl rfl (xcd_nne (x := (((I 100 n.toNatClampNeg) >>> (q &&& 31)) &&& 1)) (y := 1) (by rw [show ((1 : Int32)).toInt = 1 from by decide]; first | exact b1 | omega)) ?_
  refine ev_go 2 (pc1 := 19) (lv1 := [.ref 86, .int n, .int q]) (st1 := [.int 1]) (h1 := (124, I, J, R)) rfl ?_
  exact ev_ret rfl rfl
set_option maxRecDepth 20000 in
theorem zta_m {L : Nat} {xs : Nat → Int32} {d : Nat} {I : Nat → Nat → Int32} {J : Nat → Nat → Int64} {R : Nat → Nat → Nat} {t m x : Int32} (hG : aGd R) (c1 : xEv L xs d 203 0 [.ref 86, xmk, xmk] [] (124, I, J, R) (some (.int x)) (124, I, J, R)) (b1 : (I 86 47).toInt ≠ 0) (n1 : 0 ≤ x.toInt) (m1 : x.toInt < 2401) {v : Option Value} {h' : xH} (hk : xEv L xs (d + 1) 202 60 [.ref 86, .int t, .int m, .int x, xmk, xmk, xmk] [] (124, (uI I 113 x.toNatClampNeg (vp_nar .boolean 1)), J, R) v h') : xEv L xs (d + 1) 202 0 [.ref 86, .int t, .int m, xmk, xmk, xmk, xmk] [] (124, I, J, R) v h' := by
  refine ev_go 1 (pc1 := 1) (lv1 := [.ref 86, .int t, .int m, xmk, xmk, xmk, xmk]) (st1 := [.ref 86]) (h1 := (124, I, J, R)) rfl ?_
  refine ev_call (v1 := (some (.int x))) (h1 := (124, I, J, R)) rfl rfl c1 ?_
  refine ev_go 3 (pc1 := 9) (lv1 := [.ref 86, .int t, .int m, .int x, xmk, xmk, xmk]) (st1 := [.int (I 86 47)]) (h1 := (124, I, J, R)) rfl ?_
  refine ev_br (b1 := false) rfl rfl (xcd_neq (x := (I 86 47)) (y := 0) (by rw [show ((0 : Int32)).toInt = 0 from by decide]; first | exact b1 | omega)) ?_
  refine ev_go 1 (pc1 := 13) (lv1 := [.ref 86, .int t, .int m, .int x, xmk, xmk, xmk]) (st1 := [.ref 86]) (h1 := (124, I, J, R)) rfl ?_
  refine ev_gf (c := 86) (t := 113) (X := R 86 44) rfl rfl (fun _ => rfl) rfl (hG 86 44 113 rfl rfl) ?_
  refine ev_go 2 (pc1 := 18) (lv1 := [.ref 86, .int t, .int m, .int x, xmk, xmk, xmk]) (st1 := [.int 1, .int x, .ref 113]) (h1 := (124, I, J, R)) rfl ?_
  refine ev_bst (n := 2401) (t := .boolean) rfl rfl (fun _ => rfl) (fun _ => rfl) n1 m1 ?_
  refine ev_go 1 (pc1 := 60) (lv1 := [.ref 86, .int t, .int m, .int x, xmk, xmk, xmk]) (st1 := []) (h1 := (124, (uI I 113 x.toNatClampNeg (vp_nar .boolean 1)), J, R)) rfl ?_
  exact hk
set_option maxRecDepth 20000 in
theorem zta_a {L : Nat} {xs : Nat → Int32} {d : Nat} {I : Nat → Nat → Int32} {J : Nat → Nat → Int64} {R : Nat → Nat → Nat} {t m x a : Int32} (hG : aGd R) (c1 : xEv L xs d 203 0 [.ref 86, xmk, xmk] [] (124, I, J, R) (some (.int x)) (124, I, J, R)) (b1 : (I 86 47).toInt = 0) (c2 : xEv L xs d 204 0 [.ref 86, .int (t + 1), xmk, xmk] [] (124, I, J, R) (some (.int a)) (124, I, J, R)) (n1 : 0 ≤ x.toInt) (m1 : x.toInt < 2401) (b2 : (a + (I 111 x.toNatClampNeg)).toInt ≤ (I 86 46).toInt) {v : Option Value} {h' : xH} (hk : xEv L xs (d + 1) 202 60 [.ref 86, .int t, .int m, .int x, .int (a + (I 111 x.toNatClampNeg)), xmk, xmk] [] (124, (uI I 86 46 (I 86 46)), J, R) v h') : xEv L xs (d + 1) 202 0 [.ref 86, .int t, .int m, xmk, xmk, xmk, xmk] [] (124, I, J, R) v h' := by
  refine ev_go 1 (pc1 := 1) (lv1 := [.ref 86, .int t, .int m, xmk, xmk, xmk, xmk]) (st1 := [.ref 86]) (h1 := (124, I, J, R)) rfl ?_
  refine ev_call (v1 := (some (.int x))) (h1 := (124, I, J, R)) rfl rfl c1 ?_
  refine ev_go 3 (pc1 := 9) (lv1 := [.ref 86, .int t, .int m, .int x, xmk, xmk, xmk]) (st1 := [.int (I 86 47)]) (h1 := (124, I, J, R)) rfl ?_
  refine ev_br (b1 := true) rfl rfl (xcd_eq (x := (I 86 47)) (y := 0) (by rw [show ((0 : Int32)).toInt = 0 from by decide]; first | exact b1 | omega)) ?_
  refine ev_go 4 (pc1 := 26) (lv1 := [.ref 86, .int t, .int m, .int x, xmk, xmk, xmk]) (st1 := [.int (t + 1), .ref 86]) (h1 := (124, I, J, R)) rfl ?_
  refine ev_call (v1 := (some (.int a))) (h1 := (124, I, J, R)) rfl rfl c2 ?_
  refine ev_go 1 (pc1 := 30) (lv1 := [.ref 86, .int t, .int m, .int x, xmk, xmk, xmk]) (st1 := [.ref 86, .int a]) (h1 := (124, I, J, R)) rfl ?_
  refine ev_gf (c := 86) (t := 111) (X := R 86 42) rfl rfl (fun _ => rfl) rfl (hG 86 42 111 rfl rfl) ?_
  refine ev_go 1 (pc1 := 34) (lv1 := [.ref 86, .int t, .int m, .int x, xmk, xmk, xmk]) (st1 := [.int x, .ref 111, .int a]) (h1 := (124, I, J, R)) rfl ?_
  refine ev_ild (n := 2401) rfl rfl (fun _ => rfl) n1 m1 ?_
  refine ev_go 6 (pc1 := 45) (lv1 := [.ref 86, .int t, .int m, .int x, .int (a + (I 111 x.toNatClampNeg)), xmk, xmk]) (st1 := [.int (I 86 46), .int (a + (I 111 x.toNatClampNeg)), .ref 86]) (h1 := (124, I, J, R)) rfl ?_
  refine ev_br (b1 := true) rfl rfl (xcd_le (x := (a + (I 111 x.toNatClampNeg))) (y := (I 86 46)) (by first | exact b2 | omega)) ?_
  refine ev_go 3 (pc1 := 60) (lv1 := [.ref 86, .int t, .int m, .int x, .int (a + (I 111 x.toNatClampNeg)), xmk, xmk]) (st1 := []) (h1 := (124, (uI I 86 46 (I 86 46)), J, R)) rfl ?_
  exact hk
set_option maxRecDepth 20000 in
theorem zta_b {L : Nat} {xs : Nat → Int32} {d : Nat} {I : Nat → Nat → Int32} {J : Nat → Nat → Int64} {R : Nat → Nat → Nat} {t m x a : Int32} (hG : aGd R) (c1 : xEv L xs d 203 0 [.ref 86, xmk, xmk] [] (124, I, J, R) (some (.int x)) (124, I, J, R)) (b1 : (I 86 47).toInt = 0) (c2 : xEv L xs d 204 0 [.ref 86, .int (t + 1), xmk, xmk] [] (124, I, J, R) (some (.int a)) (124, I, J, R)) (n1 : 0 ≤ x.toInt) (m1 : x.toInt < 2401) (b2 : (a + (I 111 x.toNatClampNeg)).toInt > (I 86 46).toInt) {v : Option Value} {h' : xH} (hk : xEv L xs (d + 1) 202 60 [.ref 86, .int t, .int m, .int x, .int (a + (I 111 x.toNatClampNeg)), xmk, xmk] [] (124, (uI I 86 46 (a + (I 111 x.toNatClampNeg))), J, R) v h') : xEv L xs (d + 1) 202 0 [.ref 86, .int t, .int m, xmk, xmk, xmk, xmk] [] (124, I, J, R) v h' := by
  refine ev_go 1 (pc1 := 1) (lv1 := [.ref 86, .int t, .int m, xmk, xmk, xmk, xmk]) (st1 := [.ref 86]) (h1 := (124, I, J, R)) rfl ?_
  refine ev_call (v1 := (some (.int x))) (h1 := (124, I, J, R)) rfl rfl c1 ?_
  refine ev_go 3 (pc1 := 9) (lv1 := [.ref 86, .int t, .int m, .int x, xmk, xmk, xmk]) (st1 := [.int (I 86 47)]) (h1 := (124, I, J, R)) rfl ?_
  refine ev_br (b1 := true) rfl rfl (xcd_eq (x := (I 86 47)) (y := 0) (by rw [show ((0 : Int32)).toInt = 0 from by decide]; first | exact b1 | omega)) ?_
  refine ev_go 4 (pc1 := 26) (lv1 := [.ref 86, .int t, .int m, .int x, xmk, xmk, xmk]) (st1 := [.int (t + 1), .ref 86]) (h1 := (124, I, J, R)) rfl ?_
  refine ev_call (v1 := (some (.int a))) (h1 := (124, I, J, R)) rfl rfl c2 ?_
  refine ev_go 1 (pc1 := 30) (lv1 := [.ref 86, .int t, .int m, .int x, xmk, xmk, xmk]) (st1 := [.ref 86, .int a]) (h1 := (124, I, J, R)) rfl ?_
  refine ev_gf (c := 86) (t := 111) (X := R 86 42) rfl rfl (fun _ => rfl) rfl (hG 86 42 111 rfl rfl) ?_
  refine ev_go 1 (pc1 := 34) (lv1 := [.ref 86, .int t, .int m, .int x, xmk, xmk, xmk]) (st1 := [.int x, .ref 111, .int a]) (h1 := (124, I, J, R)) rfl ?_
  refine ev_ild (n := 2401) rfl rfl (fun _ => rfl) n1 m1 ?_
  refine ev_go 6 (pc1 := 45) (lv1 := [.ref 86, .int t, .int m, .int x, .int (a + (I 111 x.toNatClampNeg)), xmk, xmk]) (st1 := [.int (I 86 46), .int (a + (I 111 x.toNatClampNeg)), .ref 86]) (h1 := (124, I, J, R)) rfl ?_
  refine ev_br (b1 := false) rfl rfl (xcd_nle (x := (a + (I 111 x.toNatClampNeg))) (y := (I 86 46)) (by first | exact b2 | omega)) ?_
  refine ev_go 3 (pc1 := 60) (lv1 := [.ref 86, .int t, .int m, .int x, .int (a + (I 111 x.toNatClampNeg)), xmk, xmk]) (st1 := []) (h1 := (124, (uI I 86 46 (a + (I 111 x.toNatClampNeg))), J, R)) rfl ?_
  exact hk
set_option maxRecDepth 20000 in
theorem zta_0 {L : Nat} {xs : Nat → Int32} {d : Nat} {I : Nat → Nat → Int32} {J : Nat → Nat → Int64} {R : Nat → Nat → Nat} {t m x : Int32} {w4 : Value} (hG : aGd R) (c1 : xEv L xs d 186 0 [.ref 86, .int t] [] (124, I, J, R) (some (.int 0)) (124, I, J, R)) : xEv L xs (d + 1) 202 60 [.ref 86, .int t, .int m, .int x, w4, xmk, xmk] [] (124, I, J, R) none (124, I, J, R) := by
  refine ev_go 2 (pc1 := 62) (lv1 := [.ref 86, .int t, .int m, .int x, w4, xmk, xmk]) (st1 := [.int t, .ref 86]) (h1 := (124, I, J, R)) rfl ?_
  refine ev_call (v1 := (some (.int 0))) (h1 := (124, I, J, R)) rfl rfl c1 ?_
  refine ev_go 1 (pc1 := 68) (lv1 := [.ref 86, .int t, .int m, .int x, w4, xmk, xmk]) (st1 := []) (h1 := (124, I, J, R)) rfl ?_
  exact ev_ret rfl rfl
set_option maxRecDepth 20000 in
theorem zta_1 {L : Nat} {xs : Nat → Int32} {d : Nat} {I : Nat → Nat → Int32} {J : Nat → Nat → Int64} {R : Nat → Nat → Nat} {t m x : Int32} {w4 : Value} (hG : aGd R) (c1 : xEv L xs d 186 0 [.ref 86, .int t] [] (124, I, J, R) (some (.int 1)) (124, I, J, R)) {v : Option Value} {h' : xH} (hk : xEv L xs (d + 1) 202 72 [.ref 86, .int t, .int m, .int x, .int 0, xmk, xmk] [] (124, I, J, R) v h') : xEv L xs (d + 1) 202 60 [.ref 86, .int t, .int m, .int x, w4, xmk, xmk] [] (124, I, J, R) v h' := by
  refine ev_go 2 (pc1 := 62) (lv1 := [.ref 86, .int t, .int m, .int x, w4, xmk, xmk]) (st1 := [.int t, .ref 86]) (h1 := (124, I, J, R)) rfl ?_
  refine ev_call (v1 := (some (.int 1))) (h1 := (124, I, J, R)) rfl rfl c1 ?_
  refine ev_go 3 (pc1 := 72) (lv1 := [.ref 86, .int t, .int m, .int x, .int 0, xmk, xmk]) (st1 := []) (h1 := (124, I, J, R)) rfl ?_
  exact hk
set_option maxRecDepth 20000 in
theorem zta_e {L : Nat} {xs : Nat → Int32} {d : Nat} {I : Nat → Nat → Int32} {J : Nat → Nat → Int64} {R : Nat → Nat → Nat} {t m x n : Int32} {w5 w6 : Value} (hG : aGd R) (b1 : n.toInt ≥ (I 88 2).toInt) : xEv L xs d 202 72 [.ref 86, .int t, .int m, .int x, .int n, w5, w6] [] (124, I, J, R) none (124, I, J, R) := by
  refine ev_go 2 (pc1 := 75) (lv1 := [.ref 86, .int t, .int m, .int x, .int n, w5, w6]) (st1 := [.ref 86, .int n]) (h1 := (124, I, J, R)) rfl ?_
  refine ev_gf (c := 86) (t := 88) (X := R 86 12) rfl rfl (fun _ => rfl) rfl (hG 86 12 88 rfl rfl) ?_
  refine ev_go 2 (pc1 := 80) (lv1 := [.ref 86, .int t, .int m, .int x, .int n, w5, w6]) (st1 := [.int (I 88 2), .int n]) (h1 := (124, I, J, R)) rfl ?_
  refine ev_br (b1 := true) rfl rfl (xcd_ge (x := n) (y := (I 88 2)) (by first | exact b1 | omega)) ?_
  exact ev_ret rfl rfl
set_option maxRecDepth 20000 in
theorem zta_mv {L : Nat} {xs : Nat → Int32} {d : Nat} {I : Nat → Nat → Int32} {J : Nat → Nat → Int64} {R : Nat → Nat → Nat} {t m x n : Int32} {w5 w6 : Value} (hG : aGd R) (b1 : n.toInt < (I 88 2).toInt) (n1 : 0 ≤ n.toInt) (m1 : n.toInt < 4) (b2 : ((m >>> (n &&& 31)) &&& 1).toInt = 1) {v : Option Value} {h' : xH} (hk : xEv L xs d 202 72 [.ref 86, .int t, .int m, .int x, .int (n + 1), .int (I 114 n.toNatClampNeg), .int (-1)] [] (124, I, J, R) v h') : xEv L xs d 202 72 [.ref 86, .int t, .int m, .int x, .int n, w5, w6] [] (124, I, J, R) v h' := by
  refine ev_go 2 (pc1 := 75) (lv1 := [.ref 86, .int t, .int m, .int x, .int n, w5, w6]) (st1 := [.ref 86, .int n]) (h1 := (124, I, J, R)) rfl ?_
  refine ev_gf (c := 86) (t := 88) (X := R 86 12) rfl rfl (fun _ => rfl) rfl (hG 86 12 88 rfl rfl) ?_
  refine ev_go 2 (pc1 := 80) (lv1 := [.ref 86, .int t, .int m, .int x, .int n, w5, w6]) (st1 := [.int (I 88 2), .int n]) (h1 := (124, I, J, R)) rfl ?_
  refine ev_br (b1 := false) rfl rfl (xcd_nge (x := n) (y := (I 88 2)) (by first | exact b1 | omega)) ?_
  refine ev_go 1 (pc1 := 84) (lv1 := [.ref 86, .int t, .int m, .int x, .int n, w5, w6]) (st1 := [.ref 86]) (h1 := (124, I, J, R)) rfl ?_
  refine ev_gf (c := 86) (t := 114) (X := R 86 45) rfl rfl (fun _ => rfl) rfl (hG 86 45 114 rfl rfl) ?_
  refine ev_go 1 (pc1 := 89) (lv1 := [.ref 86, .int t, .int m, .int x, .int n, w5, w6]) (st1 := [.int n, .ref 114]) (h1 := (124, I, J, R)) rfl ?_
  refine ev_ild (n := 4) rfl rfl (fun _ => rfl) n1 m1 ?_
  refine ev_go 3 (pc1 := 95) (lv1 := [.ref 86, .int t, .int m, .int x, .int n, .int (I 114 n.toNatClampNeg), w6]) (st1 := [.int n, .int m]) (h1 := (124, I, J, R)) rfl ?_
  refine ev_go 4 (pc1 := 99) (lv1 := [.ref 86, .int t, .int m, .int x, .int n, .int (I 114 n.toNatClampNeg), w6]) (st1 := [.int 1, .int ((m >>> (n &&& 31)) &&& 1)]) (h1 := (124, I, J, R)) rfl ?_
  refine ev_br (b1 := false) rfl rfl (xcd_nne (x := ((m >>> (n &&& 31)) &&& 1)) (y := 1) (by rw [show ((1 : Int32)).toInt = 1 from by decide]; first | exact b2 | omega)) ?_
  refine ev_go 8 (pc1 := 72) (lv1 := [.ref 86, .int t, .int m, .int x, .int (n + 1), .int (I 114 n.toNatClampNeg), .int (-1)]) (st1 := []) (h1 := (124, I, J, R)) rfl ?_
  exact hk
set_option maxRecDepth 20000 in
theorem zta_no {L : Nat} {xs : Nat → Int32} {d : Nat} {I : Nat → Nat → Int32} {J : Nat → Nat → Int64} {R : Nat → Nat → Nat} {t m x n q : Int32} {w5 w6 : Value} (hG : aGd R) (b1 : n.toInt < (I 88 2).toInt) (n1 : 0 ≤ n.toInt) (m1 : n.toInt < 4) (b2 : ((m >>> (n &&& 31)) &&& 1).toInt ≠ 1) (c1 : xEv L xs d 176 0 [.ref 86, .int (I 114 n.toNatClampNeg), .int t] [] (124, I, J, R) (some (.int q)) (124, I, J, R)) (b3 : q.toInt = -1) {v : Option Value} {h' : xH} (hk : xEv L xs (d + 1) 202 72 [.ref 86, .int t, .int m, .int x, .int (n + 1), .int (I 114 n.toNatClampNeg), .int q] [] (124, I, J, R) v h') : xEv L xs (d + 1) 202 72 [.ref 86, .int t, .int m, .int x, .int n, w5, w6] [] (124, I, J, R) v h' := by
  refine ev_go 2 (pc1 := 75) (lv1 := [.ref 86, .int t, .int m, .int x, .int n, w5, w6]) (st1 := [.ref 86, .int n]) (h1 := (124, I, J, R)) rfl ?_
  refine ev_gf (c := 86) (t := 88) (X := R 86 12) rfl rfl (fun _ => rfl) rfl (hG 86 12 88 rfl rfl) ?_
  refine ev_go 2 (pc1 := 80) (lv1 := [.ref 86, .int t, .int m, .int x, .int n, w5, w6]) (st1 := [.int (I 88 2), .int n]) (h1 := (124, I, J, R)) rfl ?_
  refine ev_br (b1 := false) rfl rfl (xcd_nge (x := n) (y := (I 88 2)) (by first | exact b1 | omega)) ?_
  refine ev_go 1 (pc1 := 84) (lv1 := [.ref 86, .int t, .int m, .int x, .int n, w5, w6]) (st1 := [.ref 86]) (h1 := (124, I, J, R)) rfl ?_
  refine ev_gf (c := 86) (t := 114) (X := R 86 45) rfl rfl (fun _ => rfl) rfl (hG 86 45 114 rfl rfl) ?_
  refine ev_go 1 (pc1 := 89) (lv1 := [.ref 86, .int t, .int m, .int x, .int n, w5, w6]) (st1 := [.int n, .ref 114]) (h1 := (124, I, J, R)) rfl ?_
  refine ev_ild (n := 4) rfl rfl (fun _ => rfl) n1 m1 ?_
  refine ev_go 3 (pc1 := 95) (lv1 := [.ref 86, .int t, .int m, .int x, .int n, .int (I 114 n.toNatClampNeg), w6]) (st1 := [.int n, .int m]) (h1 := (124, I, J, R)) rfl ?_
  refine ev_go 4 (pc1 := 99) (lv1 := [.ref 86, .int t, .int m, .int x, .int n, .int (I 114 n.toNatClampNeg), w6]) (st1 := [.int 1, .int ((m >>> (n &&& 31)) &&& 1)]) (h1 := (124, I, J, R)) rfl ?_
  refine ev_br (b1 := true) rfl rfl (xcd_ne (x := ((m >>> (n &&& 31)) &&& 1)) (y := 1) (by rw [show ((1 : Int32)).toInt = 1 from by decide]; first | exact b2 | omega)) ?_
  refine ev_go 3 (pc1 := 110) (lv1 := [.ref 86, .int t, .int m, .int x, .int n, .int (I 114 n.toNatClampNeg), w6]) (st1 := [.int t, .int (I 114 n.toNatClampNeg), .ref 86]) (h1 := (124, I, J, R)) rfl ?_
  refine ev_call (v1 := (some (.int q))) (h1 := (124, I, J, R)) rfl rfl c1 ?_
  refine ev_go 3 (pc1 := 118) (lv1 := [.ref 86, .int t, .int m, .int x, .int n, .int (I 114 n.toNatClampNeg), .int q]) (st1 := [.int (-1), .int q]) (h1 := (124, I, J, R)) rfl ?_
  refine ev_br (b1 := true) rfl rfl (xcd_eq (x := q) (y := (-1)) (by rw [show ((-1 : Int32)).toInt = -1 from by decide]; first | exact b3 | omega)) ?_
  refine ev_go 2 (pc1 := 72) (lv1 := [.ref 86, .int t, .int m, .int x, .int (n + 1), .int (I 114 n.toNatClampNeg), .int q]) (st1 := []) (h1 := (124, I, J, R)) rfl ?_
  exact hk
set_option maxRecDepth 20000 in
theorem zta_ba {L : Nat} {xs : Nat → Int32} {d : Nat} {I : Nat → Nat → Int32} {J : Nat → Nat → Int64} {R : Nat → Nat → Nat} {t m x n q : Int32} {w5 w6 : Value} (hG : aGd R) (b1 : n.toInt < (I 88 2).toInt) (n1 : 0 ≤ n.toInt) (m1 : n.toInt < 4) (b2 : ((m >>> (n &&& 31)) &&& 1).toInt ≠ 1) (c1 : xEv L xs d 176 0 [.ref 86, .int (I 114 n.toNatClampNeg), .int t] [] (124, I, J, R) (some (.int q)) (124, I, J, R)) (b3 : q.toInt ≠ -1) (c2 : xEv L xs d 179 0 [.ref 86, .int n, .int q] [] (124, I, J, R) (some (.int 1)) (124, I, J, R)) {v : Option Value} {h' : xH} (hk : xEv L xs (d + 1) 202 72 [.ref 86, .int t, .int m, .int x, .int (n + 1), .int (I 114 n.toNatClampNeg), .int q] [] (124, I, J, R) v h') : xEv L xs (d + 1) 202 72 [.ref 86, .int t, .int m, .int x, .int n, w5, w6] [] (124, I, J, R) v h' := by
  refine ev_go 2 (pc1 := 75) (lv1 := [.ref 86, .int t, .int m, .int x, .int n, w5, w6]) (st1 := [.ref 86, .int n]) (h1 := (124, I, J, R)) rfl ?_
  refine ev_gf (c := 86) (t := 88) (X := R 86 12) rfl rfl (fun _ => rfl) rfl (hG 86 12 88 rfl rfl) ?_
  refine ev_go 2 (pc1 := 80) (lv1 := [.ref 86, .int t, .int m, .int x, .int n, w5, w6]) (st1 := [.int (I 88 2), .int n]) (h1 := (124, I, J, R)) rfl ?_
  refine ev_br (b1 := false) rfl rfl (xcd_nge (x := n) (y := (I 88 2)) (by first | exact b1 | omega)) ?_
  refine ev_go 1 (pc1 := 84) (lv1 := [.ref 86, .int t, .int m, .int x, .int n, w5, w6]) (st1 := [.ref 86]) (h1 := (124, I, J, R)) rfl ?_
  refine ev_gf (c := 86) (t := 114) (X := R 86 45) rfl rfl (fun _ => rfl) rfl (hG 86 45 114 rfl rfl) ?_
  refine ev_go 1 (pc1 := 89) (lv1 := [.ref 86, .int t, .int m, .int x, .int n, w5, w6]) (st1 := [.int n, .ref 114]) (h1 := (124, I, J, R)) rfl ?_
  refine ev_ild (n := 4) rfl rfl (fun _ => rfl) n1 m1 ?_
  refine ev_go 3 (pc1 := 95) (lv1 := [.ref 86, .int t, .int m, .int x, .int n, .int (I 114 n.toNatClampNeg), w6]) (st1 := [.int n, .int m]) (h1 := (124, I, J, R)) rfl ?_
  refine ev_go 4 (pc1 := 99) (lv1 := [.ref 86, .int t, .int m, .int x, .int n, .int (I 114 n.toNatClampNeg), w6]) (st1 := [.int 1, .int ((m >>> (n &&& 31)) &&& 1)]) (h1 := (124, I, J, R)) rfl ?_
  refine ev_br (b1 := true) rfl rfl (xcd_ne (x := ((m >>> (n &&& 31)) &&& 1)) (y := 1) (by rw [show ((1 : Int32)).toInt = 1 from by decide]; first | exact b2 | omega)) ?_
  refine ev_go 3 (pc1 := 110) (lv1 := [.ref 86, .int t, .int m, .int x, .int n, .int (I 114 n.toNatClampNeg), w6]) (st1 := [.int t, .int (I 114 n.toNatClampNeg), .ref 86]) (h1 := (124, I, J, R)) rfl ?_
  refine ev_call (v1 := (some (.int q))) (h1 := (124, I, J, R)) rfl rfl c1 ?_
  refine ev_go 3 (pc1 := 118) (lv1 := [.ref 86, .int t, .int m, .int x, .int n, .int (I 114 n.toNatClampNeg), .int q]) (st1 := [.int (-1), .int q]) (h1 := (124, I, J, R)) rfl ?_
  refine ev_br (b1 := false) rfl rfl (xcd_neq (x := q) (y := (-1)) (by rw [show ((-1 : Int32)).toInt = -1 from by decide]; first | exact b3 | omega)) ?_
  refine ev_go 3 (pc1 := 126) (lv1 := [.ref 86, .int t, .int m, .int x, .int n, .int (I 114 n.toNatClampNeg), .int q]) (st1 := [.int q, .int n, .ref 86]) (h1 := (124, I, J, R)) rfl ?_
  refine ev_call (v1 := (some (.int 1))) (h1 := (124, I, J, R)) rfl rfl c2 ?_
  refine ev_go 3 (pc1 := 72) (lv1 := [.ref 86, .int t, .int m, .int x, .int (n + 1), .int (I 114 n.toNatClampNeg), .int q]) (st1 := []) (h1 := (124, I, J, R)) rfl ?_
  exact hk
set_option maxRecDepth 20000 in
theorem zta_fu {L : Nat} {xs : Nat → Int32} {d : Nat} {I : Nat → Nat → Int32} {J : Nat → Nat → Int64} {R : Nat → Nat → Nat} {t m x n q h : Int32} {w5 w6 : Value} (hG : aGd R) (b1 : n.toInt < (I 88 2).toInt) (n1 : 0 ≤ n.toInt) (m1 : n.toInt < 4) (b2 : ((m >>> (n &&& 31)) &&& 1).toInt ≠ 1) (c1 : xEv L xs d 176 0 [.ref 86, .int (I 114 n.toNatClampNeg), .int t] [] (124, I, J, R) (some (.int q)) (124, I, J, R)) (b3 : q.toInt ≠ -1) (c2 : xEv L xs d 179 0 [.ref 86, .int n, .int q] [] (124, I, J, R) (some (.int 0)) (124, I, J, R)) (c3 : xEv L xs d 205 0 [.ref 86, .int q, xmk, xmk] [] (124, I, J, R) (some (.int h)) (124, I, J, R)) (n2 : 0 ≤ q.toInt) (m2 : q.toInt < 14) (b4 : h.toInt ≥ (I 90 q.toNatClampNeg).toInt) {v : Option Value} {h' : xH} (hk : xEv L xs (d + 1) 202 72 [.ref 86, .int t, .int m, .int x, .int (n + 1), .int (I 114 n.toNatClampNeg), .int q] [] (124, I, J, R) v h') : xEv L xs (d + 1) 202 72 [.ref 86, .int t, .int m, .int x, .int n, w5, w6] [] (124, I, J, R) v h' := by
  refine ev_go 2 (pc1 := 75) (lv1 := [.ref 86, .int t, .int m, .int x, .int n, w5, w6]) (st1 := [.ref 86, .int n]) (h1 := (124, I, J, R)) rfl ?_
  refine ev_gf (c := 86) (t := 88) (X := R 86 12) rfl rfl (fun _ => rfl) rfl (hG 86 12 88 rfl rfl) ?_
  refine ev_go 2 (pc1 := 80) (lv1 := [.ref 86, .int t, .int m, .int x, .int n, w5, w6]) (st1 := [.int (I 88 2), .int n]) (h1 := (124, I, J, R)) rfl ?_
  refine ev_br (b1 := false) rfl rfl (xcd_nge (x := n) (y := (I 88 2)) (by first | exact b1 | omega)) ?_
  refine ev_go 1 (pc1 := 84) (lv1 := [.ref 86, .int t, .int m, .int x, .int n, w5, w6]) (st1 := [.ref 86]) (h1 := (124, I, J, R)) rfl ?_
  refine ev_gf (c := 86) (t := 114) (X := R 86 45) rfl rfl (fun _ => rfl) rfl (hG 86 45 114 rfl rfl) ?_
  refine ev_go 1 (pc1 := 89) (lv1 := [.ref 86, .int t, .int m, .int x, .int n, w5, w6]) (st1 := [.int n, .ref 114]) (h1 := (124, I, J, R)) rfl ?_
  refine ev_ild (n := 4) rfl rfl (fun _ => rfl) n1 m1 ?_
  refine ev_go 3 (pc1 := 95) (lv1 := [.ref 86, .int t, .int m, .int x, .int n, .int (I 114 n.toNatClampNeg), w6]) (st1 := [.int n, .int m]) (h1 := (124, I, J, R)) rfl ?_
  refine ev_go 4 (pc1 := 99) (lv1 := [.ref 86, .int t, .int m, .int x, .int n, .int (I 114 n.toNatClampNeg), w6]) (st1 := [.int 1, .int ((m >>> (n &&& 31)) &&& 1)]) (h1 := (124, I, J, R)) rfl ?_
  refine ev_br (b1 := true) rfl rfl (xcd_ne (x := ((m >>> (n &&& 31)) &&& 1)) (y := 1) (by rw [show ((1 : Int32)).toInt = 1 from by decide]; first | exact b2 | omega)) ?_
  refine ev_go 3 (pc1 := 110) (lv1 := [.ref 86, .int t, .int m, .int x, .int n, .int (I 114 n.toNatClampNeg), w6]) (st1 := [.int t, .int (I 114 n.toNatClampNeg), .ref 86]) (h1 := (124, I, J, R)) rfl ?_
  refine ev_call (v1 := (some (.int q))) (h1 := (124, I, J, R)) rfl rfl c1 ?_
  refine ev_go 3 (pc1 := 118) (lv1 := [.ref 86, .int t, .int m, .int x, .int n, .int (I 114 n.toNatClampNeg), .int q]) (st1 := [.int (-1), .int q]) (h1 := (124, I, J, R)) rfl ?_
  refine ev_br (b1 := false) rfl rfl (xcd_neq (x := q) (y := (-1)) (by rw [show ((-1 : Int32)).toInt = -1 from by decide]; first | exact b3 | omega)) ?_
  refine ev_go 3 (pc1 := 126) (lv1 := [.ref 86, .int t, .int m, .int x, .int n, .int (I 114 n.toNatClampNeg), .int q]) (st1 := [.int q, .int n, .ref 86]) (h1 := (124, I, J, R)) rfl ?_
  refine ev_call (v1 := (some (.int 0))) (h1 := (124, I, J, R)) rfl rfl c2 ?_
  refine ev_go 3 (pc1 := 135) (lv1 := [.ref 86, .int t, .int m, .int x, .int n, .int (I 114 n.toNatClampNeg), .int q]) (st1 := [.int q, .ref 86]) (h1 := (124, I, J, R)) rfl ?_
  refine ev_call (v1 := (some (.int h))) (h1 := (124, I, J, R)) rfl rfl c3 ?_
  refine ev_go 1 (pc1 := 139) (lv1 := [.ref 86, .int t, .int m, .int x, .int n, .int (I 114 n.toNatClampNeg), .int q]) (st1 := [.ref 86, .int h]) (h1 := (124, I, J, R)) rfl ?_
  refine ev_gf (c := 86) (t := 90) (X := R 86 14) rfl rfl (fun _ => rfl) rfl (hG 86 14 90 rfl rfl) ?_
  refine ev_go 1 (pc1 := 144) (lv1 := [.ref 86, .int t, .int m, .int x, .int n, .int (I 114 n.toNatClampNeg), .int q]) (st1 := [.int q, .ref 90, .int h]) (h1 := (124, I, J, R)) rfl ?_
  refine ev_ild (n := 14) rfl rfl (fun _ => rfl) n2 m2 ?_
  refine ev_br (b1 := false) rfl rfl (xcd_nlt (x := h) (y := (I 90 q.toNatClampNeg)) (by first | exact b4 | omega)) ?_
  refine ev_go 3 (pc1 := 72) (lv1 := [.ref 86, .int t, .int m, .int x, .int (n + 1), .int (I 114 n.toNatClampNeg), .int q]) (st1 := []) (h1 := (124, I, J, R)) rfl ?_
  exact hk
set_option maxRecDepth 20000 in
theorem zta_go {L : Nat} {xs : Nat → Int32} {d : Nat} {I : Nat → Nat → Int32} {J : Nat → Nat → Int64} {R : Nat → Nat → Nat} {I1 : Nat → Nat → Int32} {t m x n q h : Int32} {w5 w6 : Value} (hG : aGd R) (b1 : n.toInt < (I 88 2).toInt) (n1 : 0 ≤ n.toInt) (m1 : n.toInt < 4) (b2 : ((m >>> (n &&& 31)) &&& 1).toInt ≠ 1) (c1 : xEv L xs d 176 0 [.ref 86, .int (I 114 n.toNatClampNeg), .int t] [] (124, I, J, R) (some (.int q)) (124, I, J, R)) (b3 : q.toInt ≠ -1) (c2 : xEv L xs d 179 0 [.ref 86, .int n, .int q] [] (124, I, J, R) (some (.int 0)) (124, I, J, R)) (c3 : xEv L xs d 205 0 [.ref 86, .int q, xmk, xmk] [] (124, I, J, R) (some (.int h)) (124, I, J, R)) (n2 : 0 ≤ q.toInt) (m2 : q.toInt < 14) (b4 : h.toInt < (I 90 q.toNatClampNeg).toInt) (n3 : 0 ≤ n.toInt) (m3 : n.toInt < 4) (c4 : xEv L xs d 202 0 [.ref 86, .int t, .int (m ||| (1 <<< (n &&& 31))), xmk, xmk, xmk, xmk] [] (124, (uI I 114 n.toNatClampNeg q), J, R) none (124, I1, J, R)) (n4 : 0 ≤ n.toInt) (m4 : n.toInt < 4) {v : Option Value} {h' : xH} (hk : xEv L xs (d + 1) 202 72 [.ref 86, .int t, .int m, .int x, .int (n + 1), .int (I 114 n.toNatClampNeg), .int q] [] (124, (uI I1 114 n.toNatClampNeg (I 114 n.toNatClampNeg)), J, R) v h') : xEv L xs (d + 1) 202 72 [.ref 86, .int t, .int m, .int x, .int n, w5, w6] [] (124, I, J, R) v h' := by
  refine ev_go 2 (pc1 := 75) (lv1 := [.ref 86, .int t, .int m, .int x, .int n, w5, w6]) (st1 := [.ref 86, .int n]) (h1 := (124, I, J, R)) rfl ?_
  refine ev_gf (c := 86) (t := 88) (X := R 86 12) rfl rfl (fun _ => rfl) rfl (hG 86 12 88 rfl rfl) ?_
  refine ev_go 2 (pc1 := 80) (lv1 := [.ref 86, .int t, .int m, .int x, .int n, w5, w6]) (st1 := [.int (I 88 2), .int n]) (h1 := (124, I, J, R)) rfl ?_
  refine ev_br (b1 := false) rfl rfl (xcd_nge (x := n) (y := (I 88 2)) (by first | exact b1 | omega)) ?_
  refine ev_go 1 (pc1 := 84) (lv1 := [.ref 86, .int t, .int m, .int x, .int n, w5, w6]) (st1 := [.ref 86]) (h1 := (124, I, J, R)) rfl ?_
  refine ev_gf (c := 86) (t := 114) (X := R 86 45) rfl rfl (fun _ => rfl) rfl (hG 86 45 114 rfl rfl) ?_
  refine ev_go 1 (pc1 := 89) (lv1 := [.ref 86, .int t, .int m, .int x, .int n, w5, w6]) (st1 := [.int n, .ref 114]) (h1 := (124, I, J, R)) rfl ?_
  refine ev_ild (n := 4) rfl rfl (fun _ => rfl) n1 m1 ?_
  refine ev_go 3 (pc1 := 95) (lv1 := [.ref 86, .int t, .int m, .int x, .int n, .int (I 114 n.toNatClampNeg), w6]) (st1 := [.int n, .int m]) (h1 := (124, I, J, R)) rfl ?_
  refine ev_go 4 (pc1 := 99) (lv1 := [.ref 86, .int t, .int m, .int x, .int n, .int (I 114 n.toNatClampNeg), w6]) (st1 := [.int 1, .int ((m >>> (n &&& 31)) &&& 1)]) (h1 := (124, I, J, R)) rfl ?_
  refine ev_br (b1 := true) rfl rfl (xcd_ne (x := ((m >>> (n &&& 31)) &&& 1)) (y := 1) (by rw [show ((1 : Int32)).toInt = 1 from by decide]; first | exact b2 | omega)) ?_
  refine ev_go 3 (pc1 := 110) (lv1 := [.ref 86, .int t, .int m, .int x, .int n, .int (I 114 n.toNatClampNeg), w6]) (st1 := [.int t, .int (I 114 n.toNatClampNeg), .ref 86]) (h1 := (124, I, J, R)) rfl ?_
  refine ev_call (v1 := (some (.int q))) (h1 := (124, I, J, R)) rfl rfl c1 ?_
  refine ev_go 3 (pc1 := 118) (lv1 := [.ref 86, .int t, .int m, .int x, .int n, .int (I 114 n.toNatClampNeg), .int q]) (st1 := [.int (-1), .int q]) (h1 := (124, I, J, R)) rfl ?_
  refine ev_br (b1 := false) rfl rfl (xcd_neq (x := q) (y := (-1)) (by rw [show ((-1 : Int32)).toInt = -1 from by decide]; first | exact b3 | omega)) ?_
  refine ev_go 3 (pc1 := 126) (lv1 := [.ref 86, .int t, .int m, .int x, .int n, .int (I 114 n.toNatClampNeg), .int q]) (st1 := [.int q, .int n, .ref 86]) (h1 := (124, I, J, R)) rfl ?_
  refine ev_call (v1 := (some (.int 0))) (h1 := (124, I, J, R)) rfl rfl c2 ?_
  refine ev_go 3 (pc1 := 135) (lv1 := [.ref 86, .int t, .int m, .int x, .int n, .int (I 114 n.toNatClampNeg), .int q]) (st1 := [.int q, .ref 86]) (h1 := (124, I, J, R)) rfl ?_
  refine ev_call (v1 := (some (.int h))) (h1 := (124, I, J, R)) rfl rfl c3 ?_
  refine ev_go 1 (pc1 := 139) (lv1 := [.ref 86, .int t, .int m, .int x, .int n, .int (I 114 n.toNatClampNeg), .int q]) (st1 := [.ref 86, .int h]) (h1 := (124, I, J, R)) rfl ?_
  refine ev_gf (c := 86) (t := 90) (X := R 86 14) rfl rfl (fun _ => rfl) rfl (hG 86 14 90 rfl rfl) ?_
  refine ev_go 1 (pc1 := 144) (lv1 := [.ref 86, .int t, .int m, .int x, .int n, .int (I 114 n.toNatClampNeg), .int q]) (st1 := [.int q, .ref 90, .int h]) (h1 := (124, I, J, R)) rfl ?_
  refine ev_ild (n := 14) rfl rfl (fun _ => rfl) n2 m2 ?_
  refine ev_br (b1 := true) rfl rfl (xcd_lt (x := h) (y := (I 90 q.toNatClampNeg)) (by first | exact b4 | omega)) ?_
  refine ev_go 1 (pc1 := 152) (lv1 := [.ref 86, .int t, .int m, .int x, .int n, .int (I 114 n.toNatClampNeg), .int q]) (st1 := [.ref 86]) (h1 := (124, I, J, R)) rfl ?_
  refine ev_gf (c := 86) (t := 114) (X := R 86 45) rfl rfl (fun _ => rfl) rfl (hG 86 45 114 rfl rfl) ?_
  refine ev_go 2 (pc1 := 159) (lv1 := [.ref 86, .int t, .int m, .int x, .int n, .int (I 114 n.toNatClampNeg), .int q]) (st1 := [.int q, .int n, .ref 114]) (h1 := (124, I, J, R)) rfl ?_
  refine ev_ist (n := 4) rfl rfl (fun _ => rfl) n3 m3 ?_
  refine ev_go 5 (pc1 := 166) (lv1 := [.ref 86, .int t, .int m, .int x, .int n, .int (I 114 n.toNatClampNeg), .int q]) (st1 := [.int n, .int 1, .int m, .int t, .ref 86]) (h1 := (124, (uI I 114 n.toNatClampNeg q), J, R)) rfl ?_
  refine ev_go 2 (pc1 := 168) (lv1 := [.ref 86, .int t, .int m, .int x, .int n, .int (I 114 n.toNatClampNeg), .int q]) (st1 := [.int (m ||| (1 <<< (n &&& 31))), .int t, .ref 86]) (h1 := (124, (uI I 114 n.toNatClampNeg q), J, R)) rfl ?_
  refine ev_call (v1 := none) (h1 := (124, I1, J, R)) rfl rfl c4 ?_
  refine ev_go 1 (pc1 := 172) (lv1 := [.ref 86, .int t, .int m, .int x, .int n, .int (I 114 n.toNatClampNeg), .int q]) (st1 := [.ref 86]) (h1 := (124, I1, J, R)) rfl ?_
  refine ev_gf (c := 86) (t := 114) (X := R 86 45) rfl rfl (fun _ => rfl) rfl (hG 86 45 114 rfl rfl) ?_
  refine ev_go 2 (pc1 := 179) (lv1 := [.ref 86, .int t, .int m, .int x, .int n, .int (I 114 n.toNatClampNeg), .int q]) (st1 := [.int (I 114 n.toNatClampNeg), .int n, .ref 114]) (h1 := (124, I1, J, R)) rfl ?_
  refine ev_ist (n := 4) rfl rfl (fun _ => rfl) n4 m4 ?_
  refine ev_go 2 (pc1 := 72) (lv1 := [.ref 86, .int t, .int m, .int x, .int (n + 1), .int (I 114 n.toNatClampNeg), .int q]) (st1 := []) (h1 := (124, (uI I1 114 n.toNatClampNeg (I 114 n.toNatClampNeg)), J, R)) rfl ?_
  exact hk
