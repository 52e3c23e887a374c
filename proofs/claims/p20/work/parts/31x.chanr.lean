set_option maxRecDepth 20000 in
theorem qqc_s {L : Nat} {xs : Nat → Int32} {d : Nat} {I : Nat → Nat → Int32} {J : Nat → Nat → Int64} {R : Nat → Nat → Nat} (hG : aGd R)  {v : Option Value} {h' : xH} (hk : xEv L xs d 190 2 [.ref 86, .int 0] [] (124, I, J, R) v h') : xEv L xs d 190 0 [.ref 86, xmk] [] (124, I, J, R) v h' := by
  refine ev_go 2 (pc1 := 2) (lv1 := [.ref 86, .int 0]) (st1 := []) (h1 := (124, I, J, R)) rfl ?_
  exact hk
set_option maxRecDepth 20000 in
theorem qqc_l {L : Nat} {xs : Nat → Int32} {d : Nat} {I : Nat → Nat → Int32} {J : Nat → Nat → Int64} {R : Nat → Nat → Nat} {k : Int32} (hG : aGd R) (b1 : k.toInt < 224) (n1 : 0 ≤ k.toInt) (m1 : k.toInt < 224) {v : Option Value} {h' : xH} (hk : xEv L xs d 190 2 [.ref 86, .int (k + 1)] [] (124, I, (uL J 108 k.toNatClampNeg 0), R) v h') : xEv L xs d 190 2 [.ref 86, .int k] [] (124, I, J, R) v h' := by
  refine ev_go 2 (pc1 := 6) (lv1 := [.ref 86, .int k]) (st1 := [.int 224, .int k]) (h1 := (124, I, J, R)) rfl ?_
  refine ev_br (b1 := false) rfl rfl (xcd_nge (x := k) (y := 224) (by rw [show ((224 : Int32)).toInt = 224 from by decide]; first | exact b1 | omega)) ?_
  refine ev_go 1 (pc1 := 10) (lv1 := [.ref 86, .int k]) (st1 := [.ref 86]) (h1 := (124, I, J, R)) rfl ?_
  refine ev_gf (c := 86) (t := 108) (X := R 86 38) rfl rfl (fun _ => rfl) rfl (hG 86 38 108 rfl rfl) ?_
  refine ev_go 2 (pc1 := 15) (lv1 := [.ref 86, .int k]) (st1 := [.long 0, .int k, .ref 108]) (h1 := (124, I, J, R)) rfl ?_
  refine ev_lst (n := 224) rfl rfl (fun _ => rfl) n1 m1 ?_
  refine ev_go 2 (pc1 := 2) (lv1 := [.ref 86, .int (k + 1)]) (st1 := []) (h1 := (124, I, (uL J 108 k.toNatClampNeg 0), R)) rfl ?_
  exact hk
set_option maxRecDepth 20000 in
theorem qqc_e {L : Nat} {xs : Nat → Int32} {d : Nat} {I : Nat → Nat → Int32} {J : Nat → Nat → Int64} {R : Nat → Nat → Nat} {k : Int32} (hG : aGd R) (b1 : k.toInt ≥ 224) : xEv L xs d 190 2 [.ref 86, .int k] [] (124, I, J, R) none (124, (uI I 86 40 0), J, R) := by
  refine ev_go 2 (pc1 := 6) (lv1 := [.ref 86, .int k]) (st1 := [.int 224, .int k]) (h1 := (124, I, J, R)) rfl ?_
  refine ev_br (b1 := true) rfl rfl (xcd_ge (x := k) (y := 224) (by rw [show ((224 : Int32)).toInt = 224 from by decide]; first | exact b1 | omega)) ?_
  refine ev_go 3 (pc1 := 27) (lv1 := [.ref 86, .int k]) (st1 := []) (h1 := (124, (uI I 86 40 0), J, R)) rfl ?_
  exact ev_ret rfl rfl
set_option maxRecDepth 20000 in
theorem qqk_s {L : Nat} {xs : Nat → Int32} {d : Nat} {I : Nat → Nat → Int32} {J : Nat → Nat → Int64} {R : Nat → Nat → Nat} {p q : Int32} (hG : aGd R)  {v : Option Value} {h' : xH} (hk : xEv L xs d 191 3 [.ref 86, .int p, .int q, .int 15, xmk, xmk, xmk, xmk] [] (124, I, J, R) v h') : xEv L xs d 191 0 [.ref 86, .int p, .int q, xmk, xmk, xmk, xmk, xmk] [] (124, I, J, R) v h' := by
  refine ev_go 2 (pc1 := 3) (lv1 := [.ref 86, .int p, .int q, .int 15, xmk, xmk, xmk, xmk]) (st1 := []) (h1 := (124, I, J, R)) rfl ?_
  exact hk
set_option maxRecDepth 20000 in
theorem qqk_e {L : Nat} {xs : Nat → Int32} {d : Nat} {I : Nat → Nat → Int32} {J : Nat → Nat → Int64} {R : Nat → Nat → Nat} {p q k : Int32} {w4 w6 : Value} (hG : aGd R) (b1 : k.toInt < 0) : xEv L xs d 191 3 [.ref 86, .int p, .int q, .int k, w4, xmk, w6, xmk] [] (124, I, J, R) (some (.int 0)) (124, I, J, R) := by
  refine ev_go 1 (pc1 := 4) (lv1 := [.ref 86, .int p, .int q, .int k, w4, xmk, w6, xmk]) (st1 := [.int k]) (h1 := (124, I, J, R)) rfl ?_
  refine ev_br (b1 := true) rfl rfl (xcd_lt (x := k) (y := 0) (by rw [show ((0 : Int32)).toInt = 0 from by decide]; first | exact b1 | omega)) ?_
  refine ev_go 1 (pc1 := 62) (lv1 := [.ref 86, .int p, .int q, .int k, w4, xmk, w6, xmk]) (st1 := [.int 0]) (h1 := (124, I, J, R)) rfl ?_
  exact ev_ret rfl rfl
set_option maxRecDepth 20000 in
theorem qqk_l {L : Nat} {xs : Nat → Int32} {d : Nat} {I : Nat → Nat → Int32} {J : Nat → Nat → Int64} {R : Nat → Nat → Nat} {p q k dx1 : Int32} {w4 w6 : Value} (hG : aGd R) (b1 : k.toInt ≥ 0) (n1 : 0 ≤ ((16 * p) + k).toInt) (m1 : ((16 * p) + k).toInt < 224) (n2 : 0 ≤ ((16 * q) + k).toInt) (m2 : ((16 * q) + k).toInt < 224) (b2 : (lg_cmp (J 108 ((16 * p) + k).toNatClampNeg) (J 108 ((16 * q) + k).toNatClampNeg)).toInt = 0) (i1 : k + (-1) = dx1) {v : Option Value} {h' : xH} (hk : xEv L xs d 191 3 [.ref 86, .int p, .int q, .int dx1, .long (J 108 ((16 * p) + k).toNatClampNeg), xmk, .long (J 108 ((16 * q) + k).toNatClampNeg), xmk] [] (124, I, J, R) v h') : xEv L xs d 191 3 [.ref 86, .int p, .int q, .int k, w4, xmk, w6, xmk] [] (124, I, J, R) v h' := by
  refine ev_go 1 (pc1 := 4) (lv1 := [.ref 86, .int p, .int q, .int k, w4, xmk, w6, xmk]) (st1 := [.int k]) (h1 := (124, I, J, R)) rfl ?_
  refine ev_br (b1 := false) rfl rfl (xcd_nlt (x := k) (y := 0) (by rw [show ((0 : Int32)).toInt = 0 from by decide]; first | exact b1 | omega)) ?_
  refine ev_go 1 (pc1 := 8) (lv1 := [.ref 86, .int p, .int q, .int k, w4, xmk, w6, xmk]) (st1 := [.ref 86]) (h1 := (124, I, J, R)) rfl ?_
  refine ev_gf (c := 86) (t := 108) (X := R 86 38) rfl rfl (fun _ => rfl) rfl (hG 86 38 108 rfl rfl) ?_
  refine ev_go 5 (pc1 := 17) (lv1 := [.ref 86, .int p, .int q, .int k, w4, xmk, w6, xmk]) (st1 := [.int ((16 * p) + k), .ref 108]) (h1 := (124, I, J, R)) rfl ?_
  refine ev_lld (n := 224) rfl rfl (fun _ => rfl) n1 m1 ?_
  refine ev_go 2 (pc1 := 21) (lv1 := [.ref 86, .int p, .int q, .int k, .long (J 108 ((16 * p) + k).toNatClampNeg), xmk, w6, xmk]) (st1 := [.ref 86]) (h1 := (124, I, J, R)) rfl ?_
  refine ev_gf (c := 86) (t := 108) (X := R 86 38) rfl rfl (fun _ => rfl) rfl (hG 86 38 108 rfl rfl) ?_
  refine ev_go 5 (pc1 := 30) (lv1 := [.ref 86, .int p, .int q, .int k, .long (J 108 ((16 * p) + k).toNatClampNeg), xmk, w6, xmk]) (st1 := [.int ((16 * q) + k), .ref 108]) (h1 := (124, I, J, R)) rfl ?_
  refine ev_lld (n := 224) rfl rfl (fun _ => rfl) n2 m2 ?_
  refine ev_go 4 (pc1 := 38) (lv1 := [.ref 86, .int p, .int q, .int k, .long (J 108 ((16 * p) + k).toNatClampNeg), xmk, .long (J 108 ((16 * q) + k).toNatClampNeg), xmk]) (st1 := [.int (lg_cmp (J 108 ((16 * p) + k).toNatClampNeg) (J 108 ((16 * q) + k).toNatClampNeg))]) (h1 := (124, I, J, R)) rfl ?_
  refine ev_br (b1 := true) rfl rfl (xcd_eq (x := (lg_cmp (J 108 ((16 * p) + k).toNatClampNeg) (J 108 ((16 * q) + k).toNatClampNeg))) (y := 0) (by rw [show ((0 : Int32)).toInt = 0 from by decide]; first | exact b2 | omega)) ?_
  refine ev_iinc (x := k) (y := dx1) (lv1 := [.ref 86, .int p, .int q, .int dx1, .long (J 108 ((16 * p) + k).toNatClampNeg), xmk, .long (J 108 ((16 * q) + k).toNatClampNeg), xmk]) rfl rfl (by rw [show Int32.ofInt (-1) = (-1) from by decide]; exact i1) rfl ?_
  refine ev_go 1 (pc1 := 3) (lv1 := [.ref 86, .int p, .int q, .int dx1, .long (J 108 ((16 * p) + k).toNatClampNeg), xmk, .long (J 108 ((16 * q) + k).toNatClampNeg), xmk]) (st1 := []) (h1 := (124, I, J, R)) rfl ?_
  exact hk
set_option maxRecDepth 20000 in
theorem qqk_g {L : Nat} {xs : Nat → Int32} {d : Nat} {I : Nat → Nat → Int32} {J : Nat → Nat → Int64} {R : Nat → Nat → Nat} {p q k : Int32} {w4 w6 : Value} (hG : aGd R) (b1 : k.toInt ≥ 0) (n1 : 0 ≤ ((16 * p) + k).toInt) (m1 : ((16 * p) + k).toInt < 224) (n2 : 0 ≤ ((16 * q) + k).toInt) (m2 : ((16 * q) + k).toInt < 224) (b2 : (lg_cmp (J 108 ((16 * p) + k).toNatClampNeg) (J 108 ((16 * q) + k).toNatClampNeg)).toInt ≠ 0) (b3 : (lg_cmp (J 108 ((16 * p) + k).toNatClampNeg) (J 108 ((16 * q) + k).toNatClampNeg)).toInt > 0) : xEv L xs d 191 3 [.ref 86, .int p, .int q, .int k, w4, xmk, w6, xmk] [] (124, I, J, R) (some (.int 1)) (124, I, J, R) := by
  refine ev_go 1 (pc1 := 4) (lv1 := [.ref 86, .int p, .int q, .int k, w4, xmk, w6, xmk]) (st1 := [.int k]) (h1 := (124, I, J, R)) rfl ?_
  refine ev_br (b1 := false) rfl rfl (xcd_nlt (x := k) (y := 0) (by rw [show ((0 : Int32)).toInt = 0 from by decide]; first | exact b1 | omega)) ?_
  refine ev_go 1 (pc1 := 8) (lv1 := [.ref 86, .int p, .int q, .int k, w4, xmk, w6, xmk]) (st1 := [.ref 86]) (h1 := (124, I, J, R)) rfl ?_
  refine ev_gf (c := 86) (t := 108) (X := R 86 38) rfl rfl (fun _ => rfl) rfl (hG 86 38 108 rfl rfl) ?_
  refine ev_go 5 (pc1 := 17) (lv1 := [.ref 86, .int p, .int q, .int k, w4, xmk, w6, xmk]) (st1 := [.int ((16 * p) + k), .ref 108]) (h1 := (124, I, J, R)) rfl ?_
  refine ev_lld (n := 224) rfl rfl (fun _ => rfl) n1 m1 ?_
  refine ev_go 2 (pc1 := 21) (lv1 := [.ref 86, .int p, .int q, .int k, .long (J 108 ((16 * p) + k).toNatClampNeg), xmk, w6, xmk]) (st1 := [.ref 86]) (h1 := (124, I, J, R)) rfl ?_
  refine ev_gf (c := 86) (t := 108) (X := R 86 38) rfl rfl (fun _ => rfl) rfl (hG 86 38 108 rfl rfl) ?_
  refine ev_go 5 (pc1 := 30) (lv1 := [.ref 86, .int p, .int q, .int k, .long (J 108 ((16 * p) + k).toNatClampNeg), xmk, w6, xmk]) (st1 := [.int ((16 * q) + k), .ref 108]) (h1 := (124, I, J, R)) rfl ?_
  refine ev_lld (n := 224) rfl rfl (fun _ => rfl) n2 m2 ?_
  refine ev_go 4 (pc1 := 38) (lv1 := [.ref 86, .int p, .int q, .int k, .long (J 108 ((16 * p) + k).toNatClampNeg), xmk, .long (J 108 ((16 * q) + k).toNatClampNeg), xmk]) (st1 := [.int (lg_cmp (J 108 ((16 * p) + k).toNatClampNeg) (J 108 ((16 * q) + k).toNatClampNeg))]) (h1 := (124, I, J, R)) rfl ?_
  refine ev_br (b1 := false) rfl rfl (xcd_neq (x := (lg_cmp (J 108 ((16 * p) + k).toNatClampNeg) (J 108 ((16 * q) + k).toNatClampNeg))) (y := 0) (by rw [show ((0 : Int32)).toInt = 0 from by decide]; first | exact b2 | omega)) ?_
  refine ev_go 3 (pc1 := 46) (lv1 := [.ref 86, .int p, .int q, .int k, .long (J 108 ((16 * p) + k).toNatClampNeg), xmk, .long (J 108 ((16 * q) + k).toNatClampNeg), xmk]) (st1 := [.int (lg_cmp (J 108 ((16 * p) + k).toNatClampNeg) (J 108 ((16 * q) + k).toNatClampNeg))]) (h1 := (124, I, J, R)) rfl ?_
  refine ev_br (b1 := false) rfl rfl (xcd_nle (x := (lg_cmp (J 108 ((16 * p) + k).toNatClampNeg) (J 108 ((16 * q) + k).toNatClampNeg))) (y := 0) (by rw [show ((0 : Int32)).toInt = 0 from by decide]; first | exact b3 | omega)) ?_
  refine ev_go 2 (pc1 := 54) (lv1 := [.ref 86, .int p, .int q, .int k, .long (J 108 ((16 * p) + k).toNatClampNeg), xmk, .long (J 108 ((16 * q) + k).toNatClampNeg), xmk]) (st1 := [.int 1]) (h1 := (124, I, J, R)) rfl ?_
  exact ev_ret rfl rfl
set_option maxRecDepth 20000 in
theorem qqk_m {L : Nat} {xs : Nat → Int32} {d : Nat} {I : Nat → Nat → Int32} {J : Nat → Nat → Int64} {R : Nat → Nat → Nat} {p q k : Int32} {w4 w6 : Value} (hG : aGd R) (b1 : k.toInt ≥ 0) (n1 : 0 ≤ ((16 * p) + k).toInt) (m1 : ((16 * p) + k).toInt < 224) (n2 : 0 ≤ ((16 * q) + k).toInt) (m2 : ((16 * q) + k).toInt < 224) (b2 : (lg_cmp (J 108 ((16 * p) + k).toNatClampNeg) (J 108 ((16 * q) + k).toNatClampNeg)).toInt ≠ 0) (b3 : (lg_cmp (J 108 ((16 * p) + k).toNatClampNeg) (J 108 ((16 * q) + k).toNatClampNeg)).toInt ≤ 0) : xEv L xs d 191 3 [.ref 86, .int p, .int q, .int k, w4, xmk, w6, xmk] [] (124, I, J, R) (some (.int (-1))) (124, I, J, R) := by
  refine ev_go 1 (pc1 := 4) (lv1 := [.ref 86, .int p, .int q, .int k, w4, xmk, w6, xmk]) (st1 := [.int k]) (h1 := (124, I, J, R)) rfl ?_
  refine ev_br (b1 := false) rfl rfl (xcd_nlt (x := k) (y := 0) (by rw [show ((0 : Int32)).toInt = 0 from by decide]; first | exact b1 | omega)) ?_
  refine ev_go 1 (pc1 := 8) (lv1 := [.ref 86, .int p, .int q, .int k, w4, xmk, w6, xmk]) (st1 := [.ref 86]) (h1 := (124, I, J, R)) rfl ?_
  refine ev_gf (c := 86) (t := 108) (X := R 86 38) rfl rfl (fun _ => rfl) rfl (hG 86 38 108 rfl rfl) ?_
  refine ev_go 5 (pc1 := 17) (lv1 := [.ref 86, .int p, .int q, .int k, w4, xmk, w6, xmk]) (st1 := [.int ((16 * p) + k), .ref 108]) (h1 := (124, I, J, R)) rfl ?_
  refine ev_lld (n := 224) rfl rfl (fun _ => rfl) n1 m1 ?_
  refine ev_go 2 (pc1 := 21) (lv1 := [.ref 86, .int p, .int q, .int k, .long (J 108 ((16 * p) + k).toNatClampNeg), xmk, w6, xmk]) (st1 := [.ref 86]) (h1 := (124, I, J, R)) rfl ?_
  refine ev_gf (c := 86) (t := 108) (X := R 86 38) rfl rfl (fun _ => rfl) rfl (hG 86 38 108 rfl rfl) ?_
  refine ev_go 5 (pc1 := 30) (lv1 := [.ref 86, .int p, .int q, .int k, .long (J 108 ((16 * p) + k).toNatClampNeg), xmk, w6, xmk]) (st1 := [.int ((16 * q) + k), .ref 108]) (h1 := (124, I, J, R)) rfl ?_
  refine ev_lld (n := 224) rfl rfl (fun _ => rfl) n2 m2 ?_
  refine ev_go 4 (pc1 := 38) (lv1 := [.ref 86, .int p, .int q, .int k, .long (J 108 ((16 * p) + k).toNatClampNeg), xmk, .long (J 108 ((16 * q) + k).toNatClampNeg), xmk]) (st1 := [.int (lg_cmp (J 108 ((16 * p) + k).toNatClampNeg) (J 108 ((16 * q) + k).toNatClampNeg))]) (h1 := (124, I, J, R)) rfl ?_
  refine ev_br (b1 := false) rfl rfl (xcd_neq (x := (lg_cmp (J 108 ((16 * p) + k).toNatClampNeg) (J 108 ((16 * q) + k).toNatClampNeg))) (y := 0) (by rw [show ((0 : Int32)).toInt = 0 from by decide]; first | exact b2 | omega)) ?_
  refine ev_go 3 (pc1 := 46) (lv1 := [.ref 86, .int p, .int q, .int k, .long (J 108 ((16 * p) + k).toNatClampNeg), xmk, .long (J 108 ((16 * q) + k).toNatClampNeg), xmk]) (st1 := [.int (lg_cmp (J 108 ((16 * p) + k).toNatClampNeg) (J 108 ((16 * q) + k).toNatClampNeg))]) (h1 := (124, I, J, R)) rfl ?_
  refine ev_br (b1 := true) rfl rfl (xcd_le (x := (lg_cmp (J 108 ((16 * p) + k).toNatClampNeg) (J 108 ((16 * q) + k).toNatClampNeg))) (y := 0) (by rw [show ((0 : Int32)).toInt = 0 from by decide]; first | exact b3 | omega)) ?_
  refine ev_go 1 (pc1 := 54) (lv1 := [.ref 86, .int p, .int q, .int k, .long (J 108 ((16 * p) + k).toNatClampNeg), xmk, .long (J 108 ((16 * q) + k).toNatClampNeg), xmk]) (st1 := [.int (-1)]) (h1 := (124, I, J, R)) rfl ?_
  exact ev_ret rfl rfl
set_option maxRecDepth 20000 in
theorem qqm_s {L : Nat} {xs : Nat → Int32} {d : Nat} {I : Nat → Nat → Int32} {J : Nat → Nat → Int64} {R : Nat → Nat → Nat} {p a u b vq : Int32} (hG : aGd R)  {v : Option Value} {h' : xH} (hk : xEv L xs d 192 6 [.ref 86, .int p, .int a, .int u, .int b, .int vq, .long 0, xmk, .int 0, xmk, xmk] [] (124, I, J, R) v h') : xEv L xs d 192 0 [.ref 86, .int p, .int a, .int u, .int b, .int vq, xmk, xmk, xmk, xmk, xmk] [] (124, I, J, R) v h' := by
  refine ev_go 4 (pc1 := 6) (lv1 := [.ref 86, .int p, .int a, .int u, .int b, .int vq, .long 0, xmk, .int 0, xmk, xmk]) (st1 := []) (h1 := (124, I, J, R)) rfl ?_
  exact hk
set_option maxRecDepth 20000 in
theorem qqm_l {L : Nat} {xs : Nat → Int32} {d : Nat} {I : Nat → Nat → Int32} {J : Nat → Nat → Int64} {R : Nat → Nat → Nat} {p a u b vq k : Int32} {w9 : Value} {ov : Int64} (hG : aGd R) (b1 : k.toInt < 16) (n1 : 0 ≤ ((16 * a) + k).toInt) (m1 : ((16 * a) + k).toInt < 224) (n2 : 0 ≤ ((16 * b) + k).toInt) (m2 : ((16 * b) + k).toInt < 224) (n3 : 0 ≤ ((16 * (7 + p)) + k).toInt) (m3 : ((16 * (7 + p)) + k).toInt < 224) {v : Option Value} {h' : xH} (hk : xEv L xs d 192 6 [.ref 86, .int p, .int a, .int u, .int b, .int vq, .long ((((u.toInt64 * (J 108 ((16 * a) + k).toNatClampNeg)) + (vq.toInt64 * (J 108 ((16 * b) + k).toNatClampNeg))) + ov) / 1000000000), xmk, .int (k + 1), .long (((u.toInt64 * (J 108 ((16 * a) + k).toNatClampNeg)) + (vq.toInt64 * (J 108 ((16 * b) + k).toNatClampNeg))) + ov), xmk] [] (124, I, (uL J 108 ((16 * (7 + p)) + k).toNatClampNeg ((((u.toInt64 * (J 108 ((16 * a) + k).toNatClampNeg)) + (vq.toInt64 * (J 108 ((16 * b) + k).toNatClampNeg))) + ov) - (((u.toInt64 * (J 108 ((16 * a) + k).toNatClampNeg)) + (vq.toInt64 * (J 108 ((16 * b) + k).toNatClampNeg))) + ov) / 1000000000 * 1000000000)), R) v h') : xEv L xs d 192 6 [.ref 86, .int p, .int a, .int u, .int b, .int vq, .long ov, xmk, .int k, w9, xmk] [] (124, I, J, R) v h' := by
  refine ev_go 2 (pc1 := 10) (lv1 := [.ref 86, .int p, .int a, .int u, .int b, .int vq, .long ov, xmk, .int k, w9, xmk]) (st1 := [.int 16, .int k]) (h1 := (124, I, J, R)) rfl ?_
  refine ev_br (b1 := false) rfl rfl (xcd_nge (x := k) (y := 16) (by rw [show ((16 : Int32)).toInt = 16 from by decide]; first | exact b1 | omega)) ?_
  refine ev_go 3 (pc1 := 16) (lv1 := [.ref 86, .int p, .int a, .int u, .int b, .int vq, .long ov, xmk, .int k, w9, xmk]) (st1 := [.ref 86, .long u.toInt64]) (h1 := (124, I, J, R)) rfl ?_
  refine ev_gf (c := 86) (t := 108) (X := R 86 38) rfl rfl (fun _ => rfl) rfl (hG 86 38 108 rfl rfl) ?_
  refine ev_go 5 (pc1 := 26) (lv1 := [.ref 86, .int p, .int a, .int u, .int b, .int vq, .long ov, xmk, .int k, w9, xmk]) (st1 := [.int ((16 * a) + k), .ref 108, .long u.toInt64]) (h1 := (124, I, J, R)) rfl ?_
  refine ev_lld (n := 224) rfl rfl (fun _ => rfl) n1 m1 ?_
  refine ev_go 4 (pc1 := 32) (lv1 := [.ref 86, .int p, .int a, .int u, .int b, .int vq, .long ov, xmk, .int k, w9, xmk]) (st1 := [.ref 86, .long vq.toInt64, .long (u.toInt64 * (J 108 ((16 * a) + k).toNatClampNeg))]) (h1 := (124, I, J, R)) rfl ?_
  refine ev_gf (c := 86) (t := 108) (X := R 86 38) rfl rfl (fun _ => rfl) rfl (hG 86 38 108 rfl rfl) ?_
  refine ev_go 5 (pc1 := 43) (lv1 := [.ref 86, .int p, .int a, .int u, .int b, .int vq, .long ov, xmk, .int k, w9, xmk]) (st1 := [.int ((16 * b) + k), .ref 108, .long vq.toInt64, .long (u.toInt64 * (J 108 ((16 * a) + k).toNatClampNeg))]) (h1 := (124, I, J, R)) rfl ?_
  refine ev_lld (n := 224) rfl rfl (fun _ => rfl) n2 m2 ?_
  refine ev_go 6 (pc1 := 52) (lv1 := [.ref 86, .int p, .int a, .int u, .int b, .int vq, .long ov, xmk, .int k, .long (((u.toInt64 * (J 108 ((16 * a) + k).toNatClampNeg)) + (vq.toInt64 * (J 108 ((16 * b) + k).toNatClampNeg))) + ov), xmk]) (st1 := [.ref 86]) (h1 := (124, I, J, R)) rfl ?_
  refine ev_gf (c := 86) (t := 108) (X := R 86 38) rfl rfl (fun _ => rfl) rfl (hG 86 38 108 rfl rfl) ?_
  refine ev_go 9 (pc1 := 70) (lv1 := [.ref 86, .int p, .int a, .int u, .int b, .int vq, .long ov, xmk, .int k, .long (((u.toInt64 * (J 108 ((16 * a) + k).toNatClampNeg)) + (vq.toInt64 * (J 108 ((16 * b) + k).toNatClampNeg))) + ov), xmk]) (st1 := [.long 1000000000, .long (((u.toInt64 * (J 108 ((16 * a) + k).toNatClampNeg)) + (vq.toInt64 * (J 108 ((16 * b) + k).toNatClampNeg))) + ov), .int ((16 * (7 + p)) + k), .ref 108]) (h1 := (124, I, J, R)) rfl ?_
  refine ev_go 1 (pc1 := 71) (lv1 := [.ref 86, .int p, .int a, .int u, .int b, .int vq, .long ov, xmk, .int k, .long (((u.toInt64 * (J 108 ((16 * a) + k).toNatClampNeg)) + (vq.toInt64 * (J 108 ((16 * b) + k).toNatClampNeg))) + ov), xmk]) (st1 := [.long ((((u.toInt64 * (J 108 ((16 * a) + k).toNatClampNeg)) + (vq.toInt64 * (J 108 ((16 * b) + k).toNatClampNeg))) + ov) - (((u.toInt64 * (J 108 ((16 * a) + k).toNatClampNeg)) + (vq.toInt64 * (J 108 ((16 * b) + k).toNatClampNeg))) + ov) / 1000000000 * 1000000000), .int ((16 * (7 + p)) + k), .ref 108]) (h1 := (124, I, J, R)) rfl ?_
  refine ev_lst (n := 224) rfl rfl (fun _ => rfl) n3 m3 ?_
  refine ev_go 2 (pc1 := 77) (lv1 := [.ref 86, .int p, .int a, .int u, .int b, .int vq, .long ov, xmk, .int k, .long (((u.toInt64 * (J 108 ((16 * a) + k).toNatClampNeg)) + (vq.toInt64 * (J 108 ((16 * b) + k).toNatClampNeg))) + ov), xmk]) (st1 := [.long 1000000000, .long (((u.toInt64 * (J 108 ((16 * a) + k).toNatClampNeg)) + (vq.toInt64 * (J 108 ((16 * b) + k).toNatClampNeg))) + ov)]) (h1 := (124, I, (uL J 108 ((16 * (7 + p)) + k).toNatClampNeg ((((u.toInt64 * (J 108 ((16 * a) + k).toNatClampNeg)) + (vq.toInt64 * (J 108 ((16 * b) + k).toNatClampNeg))) + ov) - (((u.toInt64 * (J 108 ((16 * a) + k).toNatClampNeg)) + (vq.toInt64 * (J 108 ((16 * b) + k).toNatClampNeg))) + ov) / 1000000000 * 1000000000)), R)) rfl ?_
  refine ev_go 4 (pc1 := 6) (lv1 := [.ref 86, .int p, .int a, .int u, .int b, .int vq, .long ((((u.toInt64 * (J 108 ((16 * a) + k).toNatClampNeg)) + (vq.toInt64 * (J 108 ((16 * b) + k).toNatClampNeg))) + ov) / 1000000000), xmk, .int (k + 1), .long (((u.toInt64 * (J 108 ((16 * a) + k).toNatClampNeg)) + (vq.toInt64 * (J 108 ((16 * b) + k).toNatClampNeg))) + ov), xmk]) (st1 := []) (h1 := (124, I, (uL J 108 ((16 * (7 + p)) + k).toNatClampNeg ((((u.toInt64 * (J 108 ((16 * a) + k).toNatClampNeg)) + (vq.toInt64 * (J 108 ((16 * b) + k).toNatClampNeg))) + ov) - (((u.toInt64 * (J 108 ((16 * a) + k).toNatClampNeg)) + (vq.toInt64 * (J 108 ((16 * b) + k).toNatClampNeg))) + ov) / 1000000000 * 1000000000)), R)) rfl ?_
  exact hk
set_option maxRecDepth 20000 in
theorem qqm_e {L : Nat} {xs : Nat → Int32} {d : Nat} {I : Nat → Nat → Int32} {J : Nat → Nat → Int64} {R : Nat → Nat → Nat} {p a u b vq k : Int32} {w9 : Value} {ov : Int64} (hG : aGd R) (b1 : k.toInt ≥ 16) : xEv L xs d 192 6 [.ref 86, .int p, .int a, .int u, .int b, .int vq, .long ov, xmk, .int k, w9, xmk] [] (124, I, J, R) none (124, I, J, R) := by
  refine ev_go 2 (pc1 := 10) (lv1 := [.ref 86, .int p, .int a, .int u, .int b, .int vq, .long ov, xmk, .int k, w9, xmk]) (st1 := [.int 16, .int k]) (h1 := (124, I, J, R)) rfl ?_
  refine ev_br (b1 := true) rfl rfl (xcd_ge (x := k) (y := 16) (by rw [show ((16 : Int32)).toInt = 16 from by decide]; first | exact b1 | omega)) ?_
  exact ev_ret rfl rfl
set_option maxRecDepth 20000 in
theorem qqn_s {L : Nat} {xs : Nat → Int32} {d : Nat} {I : Nat → Nat → Int32} {J : Nat → Nat → Int64} {R : Nat → Nat → Nat} (hG : aGd R)  {v : Option Value} {h' : xH} (hk : xEv L xs d 193 2 [.ref 86, .int 0] [] (124, I, J, R) v h') : xEv L xs d 193 0 [.ref 86, xmk] [] (124, I, J, R) v h' := by
  refine ev_go 2 (pc1 := 2) (lv1 := [.ref 86, .int 0]) (st1 := []) (h1 := (124, I, J, R)) rfl ?_
  exact hk
set_option maxRecDepth 20000 in
theorem qqn_l {L : Nat} {xs : Nat → Int32} {d : Nat} {I : Nat → Nat → Int32} {J : Nat → Nat → Int64} {R : Nat → Nat → Nat} {k : Int32} (hG : aGd R) (b1 : k.toInt < 112) (n1 : 0 ≤ (112 + k).toInt) (m1 : (112 + k).toInt < 224) (n2 : 0 ≤ k.toInt) (m2 : k.toInt < 224) {v : Option Value} {h' : xH} (hk : xEv L xs d 193 2 [.ref 86, .int (k + 1)] [] (124, I, (uL J 108 k.toNatClampNeg (J 108 (112 + k).toNatClampNeg)), R) v h') : xEv L xs d 193 2 [.ref 86, .int k] [] (124, I, J, R) v h' := by
  refine ev_go 2 (pc1 := 5) (lv1 := [.ref 86, .int k]) (st1 := [.int 112, .int k]) (h1 := (124, I, J, R)) rfl ?_
  refine ev_br (b1 := false) rfl rfl (xcd_nge (x := k) (y := 112) (by rw [show ((112 : Int32)).toInt = 112 from by decide]; first | exact b1 | omega)) ?_
  refine ev_go 1 (pc1 := 9) (lv1 := [.ref 86, .int k]) (st1 := [.ref 86]) (h1 := (124, I, J, R)) rfl ?_
  refine ev_gf (c := 86) (t := 108) (X := R 86 38) rfl rfl (fun _ => rfl) rfl (hG 86 38 108 rfl rfl) ?_
  refine ev_go 2 (pc1 := 14) (lv1 := [.ref 86, .int k]) (st1 := [.ref 86, .int k, .ref 108]) (h1 := (124, I, J, R)) rfl ?_
  refine ev_gf (c := 86) (t := 108) (X := R 86 38) rfl rfl (fun _ => rfl) rfl (hG 86 38 108 rfl rfl) ?_
  refine ev_go 3 (pc1 := 21) (lv1 := [.ref 86, .int k]) (st1 := [.int (112 + k), .ref 108, .int k, .ref 108]) (h1 := (124, I, J, R)) rfl ?_
  refine ev_lld (n := 224) rfl rfl (fun _ => rfl) n1 m1 ?_
  refine ev_lst (n := 224) rfl rfl (fun _ => rfl) n2 m2 ?_
  refine ev_go 2 (pc1 := 2) (lv1 := [.ref 86, .int (k + 1)]) (st1 := []) (h1 := (124, I, (uL J 108 k.toNatClampNeg (J 108 (112 + k).toNatClampNeg)), R)) rfl ?_
  exact hk
set_option maxRecDepth 20000 in
theorem qqn_e {L : Nat} {xs : Nat → Int32} {d : Nat} {I : Nat → Nat → Int32} {J : Nat → Nat → Int64} {R : Nat → Nat → Nat} {k : Int32} (hG : aGd R) (b1 : k.toInt ≥ 112) : xEv L xs d 193 2 [.ref 86, .int k] [] (124, I, J, R) none (124, I, J, R) := by
  refine ev_go 2 (pc1 := 5) (lv1 := [.ref 86, .int k]) (st1 := [.int 112, .int k]) (h1 := (124, I, J, R)) rfl ?_
  refine ev_br (b1 := true) rfl rfl (xcd_ge (x := k) (y := 112) (by rw [show ((112 : Int32)).toInt = 112 from by decide]; first | exact b1 | omega)) ?_
  exact ev_ret rfl rfl
set_option maxRecDepth 20000 in
theorem qqp_s {L : Nat} {xs : Nat → Int32} {d : Nat} {I : Nat → Nat → Int32} {J : Nat → Nat → Int64} {R : Nat → Nat → Nat} {p : Int32} (hG : aGd R)  {v : Option Value} {h' : xH} (hk : xEv L xs d 195 2 [.ref 86, .int p, .int 0] [] (124, I, J, R) v h') : xEv L xs d 195 0 [.ref 86, .int p, xmk] [] (124, I, J, R) v h' := by
  refine ev_go 2 (pc1 := 2) (lv1 := [.ref 86, .int p, .int 0]) (st1 := []) (h1 := (124, I, J, R)) rfl ?_
  exact hk
set_option maxRecDepth 20000 in
theorem qqp_l {L : Nat} {xs : Nat → Int32} {d : Nat} {I : Nat → Nat → Int32} {J : Nat → Nat → Int64} {R : Nat → Nat → Nat} {p k : Int32} (hG : aGd R) (b1 : k.toInt < 16) (n1 : 0 ≤ ((16 * p) + k).toInt) (m1 : ((16 * p) + k).toInt < 224) (n2 : 0 ≤ k.toInt) (m2 : k.toInt < 16) {v : Option Value} {h' : xH} (hk : xEv L xs d 195 2 [.ref 86, .int p, .int (k + 1)] [] (124, I, (uL J 109 k.toNatClampNeg (J 108 ((16 * p) + k).toNatClampNeg)), R) v h') : xEv L xs d 195 2 [.ref 86, .int p, .int k] [] (124, I, J, R) v h' := by
  refine ev_go 2 (pc1 := 5) (lv1 := [.ref 86, .int p, .int k]) (st1 := [.int 16, .int k]) (h1 := (124, I, J, R)) rfl ?_
  refine ev_br (b1 := false) rfl rfl (xcd_nge (x := k) (y := 16) (by rw [show ((16 : Int32)).toInt = 16 from by decide]; first | exact b1 | omega)) ?_
  refine ev_go 1 (pc1 := 9) (lv1 := [.ref 86, .int p, .int k]) (st1 := [.ref 86]) (h1 := (124, I, J, R)) rfl ?_
  refine ev_gf (c := 86) (t := 109) (X := R 86 39) rfl rfl (fun _ => rfl) rfl (hG 86 39 109 rfl rfl) ?_
  refine ev_go 2 (pc1 := 14) (lv1 := [.ref 86, .int p, .int k]) (st1 := [.ref 86, .int k, .ref 109]) (h1 := (124, I, J, R)) rfl ?_
  refine ev_gf (c := 86) (t := 108) (X := R 86 38) rfl rfl (fun _ => rfl) rfl (hG 86 38 108 rfl rfl) ?_
  refine ev_go 5 (pc1 := 23) (lv1 := [.ref 86, .int p, .int k]) (st1 := [.int ((16 * p) + k), .ref 108, .int k, .ref 109]) (h1 := (124, I, J, R)) rfl ?_
  refine ev_lld (n := 224) rfl rfl (fun _ => rfl) n1 m1 ?_
  refine ev_lst (n := 16) rfl rfl (fun _ => rfl) n2 m2 ?_
  refine ev_go 2 (pc1 := 2) (lv1 := [.ref 86, .int p, .int (k + 1)]) (st1 := []) (h1 := (124, I, (uL J 109 k.toNatClampNeg (J 108 ((16 * p) + k).toNatClampNeg)), R)) rfl ?_
  exact hk
set_option maxRecDepth 20000 in
theorem qqp_e {L : Nat} {xs : Nat → Int32} {d : Nat} {I : Nat → Nat → Int32} {J : Nat → Nat → Int64} {R : Nat → Nat → Nat} {p k : Int32} (hG : aGd R) (b1 : k.toInt ≥ 16) : xEv L xs d 195 2 [.ref 86, .int p, .int k] [] (124, I, J, R) none (124, I, J, R) := by
  refine ev_go 2 (pc1 := 5) (lv1 := [.ref 86, .int p, .int k]) (st1 := [.int 16, .int k]) (h1 := (124, I, J, R)) rfl ?_
  refine ev_br (b1 := true) rfl rfl (xcd_ge (x := k) (y := 16) (by rw [show ((16 : Int32)).toInt = 16 from by decide]; first | exact b1 | omega)) ?_
  exact ev_ret rfl rfl
set_option maxRecDepth 20000 in
theorem qqb_s {L : Nat} {xs : Nat → Int32} {d : Nat} {I : Nat → Nat → Int32} {J : Nat → Nat → Int64} {R : Nat → Nat → Nat} (hG : aGd R)  {v : Option Value} {h' : xH} (hk : xEv L xs d 196 5 [.ref 86, .long 0, xmk, .int 15, xmk, xmk] [] (124, I, J, R) v h') : xEv L xs d 196 0 [.ref 86, xmk, xmk, xmk, xmk, xmk] [] (124, I, J, R) v h' := by
  refine ev_go 4 (pc1 := 5) (lv1 := [.ref 86, .long 0, xmk, .int 15, xmk, xmk]) (st1 := []) (h1 := (124, I, J, R)) rfl ?_
  exact hk
set_option maxRecDepth 20000 in
theorem qqb_l {L : Nat} {xs : Nat → Int32} {d : Nat} {I : Nat → Nat → Int32} {J : Nat → Nat → Int64} {R : Nat → Nat → Nat} {k dx1 : Int32} {w4 : Value} {rs : Int64} (hG : aGd R) (b1 : k.toInt ≥ 0) (n1 : 0 ≤ k.toInt) (m1 : k.toInt < 16) (n2 : 0 ≤ k.toInt) (m2 : k.toInt < 16) (i1 : k + (-1) = dx1) {v : Option Value} {h' : xH} (hk : xEv L xs d 196 5 [.ref 86, .long (((rs * 1000000000) + (J 109 k.toNatClampNeg)) - ((rs * 1000000000) + (J 109 k.toNatClampNeg)) / 10 * 10), xmk, .int dx1, .long ((rs * 1000000000) + (J 109 k.toNatClampNeg)), xmk] [] (124, I, (uL J 109 k.toNatClampNeg (((rs * 1000000000) + (J 109 k.toNatClampNeg)) / 10)), R) v h') : xEv L xs d 196 5 [.ref 86, .long rs, xmk, .int k, w4, xmk] [] (124, I, J, R) v h' := by
  refine ev_go 1 (pc1 := 6) (lv1 := [.ref 86, .long rs, xmk, .int k, w4, xmk]) (st1 := [.int k]) (h1 := (124, I, J, R)) rfl ?_
  refine ev_br (b1 := false) rfl rfl (xcd_nlt (x := k) (y := 0) (by rw [show ((0 : Int32)).toInt = 0 from by decide]; first | exact b1 | omega)) ?_
  refine ev_go 4 (pc1 := 15) (lv1 := [.ref 86, .long rs, xmk, .int k, w4, xmk]) (st1 := [.ref 86, .long (rs * 1000000000)]) (h1 := (124, I, J, R)) rfl ?_
  refine ev_gf (c := 86) (t := 109) (X := R 86 39) rfl rfl (fun _ => rfl) rfl (hG 86 39 109 rfl rfl) ?_
  refine ev_go 1 (pc1 := 19) (lv1 := [.ref 86, .long rs, xmk, .int k, w4, xmk]) (st1 := [.int k, .ref 109, .long (rs * 1000000000)]) (h1 := (124, I, J, R)) rfl ?_
  refine ev_lld (n := 16) rfl rfl (fun _ => rfl) n1 m1 ?_
  refine ev_go 3 (pc1 := 24) (lv1 := [.ref 86, .long rs, xmk, .int k, .long ((rs * 1000000000) + (J 109 k.toNatClampNeg)), xmk]) (st1 := [.ref 86]) (h1 := (124, I, J, R)) rfl ?_
  refine ev_gf (c := 86) (t := 109) (X := R 86 39) rfl rfl (fun _ => rfl) rfl (hG 86 39 109 rfl rfl) ?_
  refine ev_go 3 (pc1 := 33) (lv1 := [.ref 86, .long rs, xmk, .int k, .long ((rs * 1000000000) + (J 109 k.toNatClampNeg)), xmk]) (st1 := [.long 10, .long ((rs * 1000000000) + (J 109 k.toNatClampNeg)), .int k, .ref 109]) (h1 := (124, I, J, R)) rfl ?_
  refine ev_go 1 (pc1 := 34) (lv1 := [.ref 86, .long rs, xmk, .int k, .long ((rs * 1000000000) + (J 109 k.toNatClampNeg)), xmk]) (st1 := [.long (((rs * 1000000000) + (J 109 k.toNatClampNeg)) / 10), .int k, .ref 109]) (h1 := (124, I, J, R)) rfl ?_
  refine ev_lst (n := 16) rfl rfl (fun _ => rfl) n2 m2 ?_
  refine ev_go 2 (pc1 := 40) (lv1 := [.ref 86, .long rs, xmk, .int k, .long ((rs * 1000000000) + (J 109 k.toNatClampNeg)), xmk]) (st1 := [.long 10, .long ((rs * 1000000000) + (J 109 k.toNatClampNeg))]) (h1 := (124, I, (uL J 109 k.toNatClampNeg (((rs * 1000000000) + (J 109 k.toNatClampNeg)) / 10)), R)) rfl ?_
  refine ev_go 2 (pc1 := 42) (lv1 := [.ref 86, .long (((rs * 1000000000) + (J 109 k.toNatClampNeg)) - ((rs * 1000000000) + (J 109 k.toNatClampNeg)) / 10 * 10), xmk, .int k, .long ((rs * 1000000000) + (J 109 k.toNatClampNeg)), xmk]) (st1 := []) (h1 := (124, I, (uL J 109 k.toNatClampNeg (((rs * 1000000000) + (J 109 k.toNatClampNeg)) / 10)), R)) rfl ?_
  refine ev_iinc (x := k) (y := dx1) (lv1 := [.ref 86, .long (((rs * 1000000000) + (J 109 k.toNatClampNeg)) - ((rs * 1000000000) + (J 109 k.toNatClampNeg)) / 10 * 10), xmk, .int dx1, .long ((rs * 1000000000) + (J 109 k.toNatClampNeg)), xmk]) rfl rfl (by rw [show Int32.ofInt (-1) = (-1) from by decide]; exact i1) rfl ?_
  refine ev_go 1 (pc1 := 5) (lv1 := [.ref 86, .long (((rs * 1000000000) + (J 109 k.toNatClampNeg)) - ((rs * 1000000000) + (J 109 k.toNatClampNeg)) / 10 * 10), xmk, .int dx1, .long ((rs * 1000000000) + (J 109 k.toNatClampNeg)), xmk]) (st1 := []) (h1 := (124, I, (uL J 109 k.toNatClampNeg (((rs * 1000000000) + (J 109 k.toNatClampNeg)) / 10)), R)) rfl ?_
  exact hk
set_option maxRecDepth 20000 in
theorem qqb_e {L : Nat} {xs : Nat → Int32} {d : Nat} {I : Nat → Nat → Int32} {J : Nat → Nat → Int64} {R : Nat → Nat → Nat} {k : Int32} {w4 : Value} {rs : Int64} (hG : aGd R) (b1 : k.toInt < 0) : xEv L xs d 196 5 [.ref 86, .long rs, xmk, .int k, w4, xmk] [] (124, I, J, R) none (124, I, J, R) := by
  refine ev_go 1 (pc1 := 6) (lv1 := [.ref 86, .long rs, xmk, .int k, w4, xmk]) (st1 := [.int k]) (h1 := (124, I, J, R)) rfl ?_
  refine ev_br (b1 := true) rfl rfl (xcd_lt (x := k) (y := 0) (by rw [show ((0 : Int32)).toInt = 0 from by decide]; first | exact b1 | omega)) ?_
  exact ev_ret rfl rfl
set_option maxRecDepth 20000 in
theorem qqi_s {L : Nat} {xs : Nat → Int32} {d : Nat} {I : Nat → Nat → Int32} {J : Nat → Nat → Int64} {R : Nat → Nat → Nat} {J1 : Nat → Nat → Int64} {p : Int32} (hG : aGd R) (c1 : xEv L xs d 195 0 [.ref 86, .int p, xmk] [] (124, I, J, R) none (124, I, J1, R)) {v : Option Value} {h' : xH} (hk : xEv L xs (d + 1) 194 10 [.ref 86, .int p, .int (I 86 40), xmk, xmk] [] (124, I, J1, R) v h') : xEv L xs (d + 1) 194 0 [.ref 86, .int p, xmk, xmk, xmk] [] (124, I, J, R) v h' := by
  refine ev_go 2 (pc1 := 2) (lv1 := [.ref 86, .int p, xmk, xmk, xmk]) (st1 := [.int p, .ref 86]) (h1 := (124, I, J, R)) rfl ?_
  refine ev_call (v1 := none) (h1 := (124, I, J1, R)) rfl rfl c1 ?_
  refine ev_go 3 (pc1 := 10) (lv1 := [.ref 86, .int p, .int (I 86 40), xmk, xmk]) (st1 := []) (h1 := (124, I, J1, R)) rfl ?_
  exact hk
set_option maxRecDepth 20000 in
theorem qqi_a {L : Nat} {xs : Nat → Int32} {d : Nat} {I : Nat → Nat → Int32} {J : Nat → Nat → Int64} {R : Nat → Nat → Nat} {J1 : Nat → Nat → Int64} {p k dx1 : Int32} (hG : aGd R) (b1 : k.toInt > 6) (c1 : xEv L xs d 196 0 [.ref 86, xmk, xmk, xmk, xmk, xmk] [] (124, I, J, R) none (124, I, J1, R)) (i1 : k + (-1) = dx1) {v : Option Value} {h' : xH} (hk : xEv L xs (d + 1) 194 10 [.ref 86, .int p, .int dx1, xmk, xmk] [] (124, I, J1, R) v h') : xEv L xs (d + 1) 194 10 [.ref 86, .int p, .int k, xmk, xmk] [] (124, I, J, R) v h' := by
  refine ev_go 2 (pc1 := 13) (lv1 := [.ref 86, .int p, .int k, xmk, xmk]) (st1 := [.int 6, .int k]) (h1 := (124, I, J, R)) rfl ?_
  refine ev_br (b1 := false) rfl rfl (xcd_nle (x := k) (y := 6) (by rw [show ((6 : Int32)).toInt = 6 from by decide]; first | exact b1 | omega)) ?_
  refine ev_go 1 (pc1 := 17) (lv1 := [.ref 86, .int p, .int k, xmk, xmk]) (st1 := [.ref 86]) (h1 := (124, I, J, R)) rfl ?_
  refine ev_call (v1 := none) (h1 := (124, I, J1, R)) rfl rfl c1 ?_
  refine ev_iinc (x := k) (y := dx1) (lv1 := [.ref 86, .int p, .int dx1, xmk, xmk]) rfl rfl (by rw [show Int32.ofInt (-1) = (-1) from by decide]; exact i1) rfl ?_
  refine ev_go 1 (pc1 := 10) (lv1 := [.ref 86, .int p, .int dx1, xmk, xmk]) (st1 := []) (h1 := (124, I, J1, R)) rfl ?_
  exact hk
set_option maxRecDepth 20000 in
theorem qqi_b {L : Nat} {xs : Nat → Int32} {d : Nat} {I : Nat → Nat → Int32} {J : Nat → Nat → Int64} {R : Nat → Nat → Nat} {p k : Int32} (hG : aGd R) (b1 : k.toInt ≤ 6) {v : Option Value} {h' : xH} (hk : xEv L xs d 194 50 [.ref 86, .int p, .long ((J 109 0) + (1000000000 * (J 109 1))), xmk, .int (I 86 40)] [] (124, I, J, R) v h') : xEv L xs d 194 10 [.ref 86, .int p, .int k, xmk, xmk] [] (124, I, J, R) v h' := by
  refine ev_go 2 (pc1 := 13) (lv1 := [.ref 86, .int p, .int k, xmk, xmk]) (st1 := [.int 6, .int k]) (h1 := (124, I, J, R)) rfl ?_
  refine ev_br (b1 := true) rfl rfl (xcd_le (x := k) (y := 6) (by rw [show ((6 : Int32)).toInt = 6 from by decide]; first | exact b1 | omega)) ?_
  refine ev_go 1 (pc1 := 27) (lv1 := [.ref 86, .int p, .int k, xmk, xmk]) (st1 := [.ref 86]) (h1 := (124, I, J, R)) rfl ?_
  refine ev_gf (c := 86) (t := 109) (X := R 86 39) rfl rfl (fun _ => rfl) rfl (hG 86 39 109 rfl rfl) ?_
  refine ev_go 4 (pc1 := 36) (lv1 := [.ref 86, .int p, .int k, xmk, xmk]) (st1 := [.ref 86, .long 1000000000, .long (J 109 0)]) (h1 := (124, I, J, R)) rfl ?_
  refine ev_gf (c := 86) (t := 109) (X := R 86 39) rfl rfl (fun _ => rfl) rfl (hG 86 39 109 rfl rfl) ?_
  refine ev_go 8 (pc1 := 50) (lv1 := [.ref 86, .int p, .long ((J 109 0) + (1000000000 * (J 109 1))), xmk, .int (I 86 40)]) (st1 := []) (h1 := (124, I, J, R)) rfl ?_
  exact hk
set_option maxRecDepth 20000 in
theorem qqi_c {L : Nat} {xs : Nat → Int32} {d : Nat} {I : Nat → Nat → Int32} {J : Nat → Nat → Int64} {R : Nat → Nat → Nat} {p k : Int32} {x : Int64} (hG : aGd R) (b1 : k.toInt < 6) {v : Option Value} {h' : xH} (hk : xEv L xs d 194 50 [.ref 86, .int p, .long (x * 10), xmk, .int (k + 1)] [] (124, I, J, R) v h') : xEv L xs d 194 50 [.ref 86, .int p, .long x, xmk, .int k] [] (124, I, J, R) v h' := by
  refine ev_go 2 (pc1 := 54) (lv1 := [.ref 86, .int p, .long x, xmk, .int k]) (st1 := [.int 6, .int k]) (h1 := (124, I, J, R)) rfl ?_
  refine ev_br (b1 := false) rfl rfl (xcd_nge (x := k) (y := 6) (by rw [show ((6 : Int32)).toInt = 6 from by decide]; first | exact b1 | omega)) ?_
  refine ev_go 6 (pc1 := 50) (lv1 := [.ref 86, .int p, .long (x * 10), xmk, .int (k + 1)]) (st1 := []) (h1 := (124, I, J, R)) rfl ?_
  exact hk
set_option maxRecDepth 20000 in
theorem qqi_d {L : Nat} {xs : Nat → Int32} {d : Nat} {I : Nat → Nat → Int32} {J : Nat → Nat → Int64} {R : Nat → Nat → Nat} {p k : Int32} {x : Int64} (hG : aGd R) (b1 : k.toInt ≥ 6) : xEv L xs d 194 50 [.ref 86, .int p, .long x, xmk, .int k] [] (124, I, J, R) (some (.int x.toInt32)) (124, I, J, R) := by
  refine ev_go 2 (pc1 := 54) (lv1 := [.ref 86, .int p, .long x, xmk, .int k]) (st1 := [.int 6, .int k]) (h1 := (124, I, J, R)) rfl ?_
  refine ev_br (b1 := true) rfl rfl (xcd_ge (x := k) (y := 6) (by rw [show ((6 : Int32)).toInt = 6 from by decide]; first | exact b1 | omega)) ?_
  refine ev_go 2 (pc1 := 71) (lv1 := [.ref 86, .int p, .long x, xmk, .int k]) (st1 := [.int x.toInt32]) (h1 := (124, I, J, R)) rfl ?_
  exact ev_ret rfl rfl
theorem ix16 {p i : Int32} {pN iN : Nat} (hp : p.toInt = pN) (hi : i.toInt = iN) (h14 : pN < 14) (h16 : iN < 16) : 0 ≤ ((16 * p) + i).toInt ∧ ((16 * p) + i).toInt < 224 ∧ ((16 * p) + i).toNatClampNeg = 16 * pN + iN := by
  have e16 : (16 : Int32).toInt = 16 := by decide
  have e1 : (16 * p).toInt = 16 * pN := by rw [i_mul (by rw [e16]; omega) (by rw [e16]; omega), e16]; omega
  have e2 : ((16 * p) + i).toInt = 16 * pN + iN := by rw [i_add (by omega) (by omega)]; omega
  have ec := clamp_s (i := (16 * p) + i) (by omega)
  refine ⟨by omega, by omega, by omega⟩
theorem ix160 {p : Int32} {pN : Nat} (hp : p.toInt = pN) (h14 : pN < 14) : 0 ≤ (16 * p).toInt ∧ (16 * p).toInt < 224 ∧ (16 * p).toNatClampNeg = 16 * pN := by
  have e16 : (16 : Int32).toInt = 16 := by decide
  have e1 : (16 * p).toInt = 16 * pN := by rw [i_mul (by rw [e16]; omega) (by rw [e16]; omega), e16]; omega
  have ec := clamp_s (i := 16 * p) (by omega)
  refine ⟨by omega, by omega, by omega⟩
def rF (J : Nat → Nat → Int64) (p : Nat) : Nat → Int := fun k => (J 108 (16 * p + k)).toInt
noncomputable def rV (J : Nat → Nat → Int64) (p : Nat) : Int := sT 9 (rF J p) 16
def rD (J : Nat → Nat → Int64) (p : Nat) : Prop := ∀ k, k < 16 → 0 ≤ (J 108 (16 * p + k)).toInt ∧ (J 108 (16 * p + k)).toInt < 1000000000
def rG (J : Nat → Nat → Int64) : Prop := ∀ p, p < 14 → rD J p
theorem rF_d {J : Nat → Nat → Int64} {p : Nat} (h : rD J p) : ∀ k, k < 16 → 0 ≤ rF J p k ∧ rF J p k < tn 9 := fun k hk => by
  rw [tn_9]
  exact h k hk
theorem rV_b {J : Nat → Nat → Int64} {p : Nat} (h : rD J p) : 0 ≤ rV J p ∧ rV J p < tn (9 * 16) := sT_b 16 (rF_d h)
theorem qqc_run {L : Nat} {xs : Nat → Int32} {d : Nat} {I : Nat → Nat → Int32} {J : Nat → Nat → Int64} {R : Nat → Nat → Nat} (hG : aGd R) : ∃ J', xEv L xs d 190 0 [.ref 86, xmk] [] (124, I, J, R) none (124, uI I 86 40 0, J', R) ∧ (∀ c q, c ≠ 108 → J' c q = J c q) ∧ ∀ q, q < 224 → J' 108 q = 0 := by
  have lp : ∀ (f kN : Nat) (k : Int32) (J : Nat → Nat → Int64), kN + f = 224 → k.toInt = kN → (∀ q, q < kN → J 108 q = 0) → ∃ J', xEv L xs d 190 2 [.ref 86, .int k] [] (124, I, J, R) none (124, uI I 86 40 0, J', R) ∧ (∀ c q, c ≠ 108 → J' c q = J c q) ∧ ∀ q, q < 224 → J' 108 q = 0 := by
    intro f
    induction f with
    | zero =>
      intro kN k J hk ek hJ
      exact ⟨J, qqc_e hG (by omega), fun _ _ _ => rfl, fun q hq => hJ q (by omega)⟩
    | succ f ih =>
      intro kN k J hk ek hJ
      have eck := clamp_s (i := k) (by omega)
      have ekk : k.toNatClampNeg = kN := by omega
      have hk' : (k + 1).toInt = (kN + 1 : Nat) := by rw [i_add1 (by omega)]; omega
      obtain ⟨J', y1, y2, y3⟩ := ih (kN + 1) (k + 1) (uL J 108 kN 0) (by omega) hk' (fun q hq => by
        by_cases e : q = kN
        · rw [e, uL_s]
        · rw [uL_n _ _ (fun z => e z.2)]
          exact hJ q (by omega))
      refine ⟨J', qqc_l hG (by omega) (by omega) (by omega) (by rw [ekk]; exact y1), fun c q hc => ?_, y3⟩
      rw [y2 c q hc, uL_n _ _ (fun z => hc z.1)]
  obtain ⟨J', x1, x2⟩ := lp 224 0 0 J (by omega) (by decide) (fun q hq => absurd hq (by omega))
  exact ⟨J', qqc_s hG x1, x2⟩
theorem qqk_run {L : Nat} {xs : Nat → Int32} {d : Nat} {I : Nat → Nat → Int32} {J : Nat → Nat → Int64} {R : Nat → Nat → Nat} (hG : aGd R) {p q : Int32} {pN qN : Nat} (hp : p.toInt = pN) (hq : q.toInt = qN) (p7 : pN < 7) (q7 : qN < 7) (dp : rD J pN) (dq : rD J qN) : ∃ o : Int32, xEv L xs d 191 0 [.ref 86, .int p, .int q, xmk, xmk, xmk, xmk, xmk] [] (124, I, J, R) (some (.int o)) (124, I, J, R) ∧ ((o.toInt < 0 ∧ rV J pN < rV J qN) ∨ (o.toInt = 0 ∧ rV J pN = rV J qN) ∨ (0 < o.toInt ∧ rV J qN < rV J pN)) := by
  have lp : ∀ (m : Nat) (k : Int32) (w4 w6 : Value), m ≤ 16 → k.toInt = (m : Int) - 1 → (∀ i, m ≤ i → i < 16 → J 108 (16 * pN + i) = J 108 (16 * qN + i)) → ∃ o : Int32, xEv L xs d 191 3 [.ref 86, .int p, .int q, .int k, w4, xmk, w6, xmk] [] (124, I, J, R) (some (.int o)) (124, I, J, R) ∧ ((o.toInt < 0 ∧ rV J pN < rV J qN) ∨ (o.toInt = 0 ∧ rV J pN = rV J qN) ∨ (0 < o.toInt ∧ rV J qN < rV J pN)) := by
    intro m
    induction m with
    | zero =>
      intro k w4 w6 hm ek hE
      refine ⟨0, qqk_e hG (by omega), Or.inr (Or.inl ⟨by decide, sT_c _ (fun j hj => ?_)⟩)⟩
      show (J 108 (16 * pN + j)).toInt = (J 108 (16 * qN + j)).toInt
      rw [hE j (by omega) hj]
    | succ m ih =>
      intro k w4 w6 hm ek hE
      have ek' : k.toInt = (m : Nat) := by omega
      obtain ⟨a1, a2, a3⟩ := ix16 hp ek' (by omega) (by omega)
      obtain ⟨b1, b2, b3⟩ := ix16 hq ek' (by omega) (by omega)
      obtain ⟨dx, hdx⟩ : ∃ dx, k + (-1) = dx := ⟨_, rfl⟩
      have edx : dx.toInt = (m : Int) - 1 := by
        rw [← hdx, i_add (by rw [show (-1 : Int32).toInt = -1 from by decide]; omega) (by rw [show (-1 : Int32).toInt = -1 from by decide]; omega), show (-1 : Int32).toInt = -1 from by decide]
        omega
      have up : ∀ i, m < i → i < 16 → rF J pN i = rF J qN i := fun i i1 i2 => by
        show (J 108 (16 * pN + i)).toInt = (J 108 (16 * qN + i)).toInt
        rw [hE i (by omega) i2]
      by_cases h1 : (lg_cmp (J 108 (16 * pN + m)) (J 108 (16 * qN + m))).toInt = 0
      · have eq := lg_eq.mp h1
        obtain ⟨o, y1, y2⟩ := ih dx (.long (J 108 ((16 * p) + k).toNatClampNeg)) (.long (J 108 ((16 * q) + k).toNatClampNeg)) (by omega) edx (fun i i1 i2 => by
          by_cases e : i = m
          · rw [e]
            exact eq
          · exact hE i (by omega) i2)
        exact ⟨o, qqk_l hG (by omega) a1 a2 b1 b2 (by rw [a3, b3]; exact h1) hdx y1, y2⟩
      · by_cases h2 : 0 < (lg_cmp (J 108 (16 * pN + m)) (J 108 (16 * qN + m))).toInt
        · have gt := lg_gt.mp h2
          exact ⟨1, qqk_g hG (by omega) a1 a2 b1 b2 (by rw [a3, b3]; exact h1) (by rw [a3, b3]; exact h2), Or.inr (Or.inr ⟨by decide, sT_lt (m := m) (by omega) (fun i i1 i2 => (up i i1 i2).symm) gt (fun i hi => rF_d dq i (by omega)) (fun i hi => rF_d dp i (by omega))⟩)⟩
        · have lt := lg_lt.mp (show (lg_cmp (J 108 (16 * pN + m)) (J 108 (16 * qN + m))).toInt < 0 by omega)
          exact ⟨-1, qqk_m hG (by omega) a1 a2 b1 b2 (by rw [a3, b3]; exact h1) (by rw [a3, b3]; omega), Or.inl ⟨by decide, sT_lt (m := m) (by omega) up lt (fun i hi => rF_d dp i (by omega)) (fun i hi => rF_d dq i (by omega))⟩⟩
  obtain ⟨o, x1, x2⟩ := lp 16 15 xmk xmk (by omega) (by decide) (fun i i1 i2 => absurd i2 (by omega))
  exact ⟨o, qqk_s hG x1, x2⟩
theorem mx_st {P B s0 a0 b0 u v ov x y n q : Int} (h : s0 + ov * P = u * a0 + v * b0) (hn : n + q * B = u * x + v * y + ov) : s0 + n * P + q * (P * B) = u * (a0 + x * P) + v * (b0 + y * P) := by
  have h2 : (n + q * B) * P = (u * x + v * y + ov) * P := by rw [hn]
  rw [Int.add_mul, Int.add_mul, Int.add_mul] at h2
  have e1 : q * (P * B) = q * B * P := by rw [Int.mul_assoc, Int.mul_comm B P]
  rw [e1, Int.mul_add, Int.mul_add, ← Int.mul_assoc, ← Int.mul_assoc]
  omega
/-- a row out of two -/
theorem qqm_run {L : Nat} {xs : Nat → Int32} {d : Nat} {I : Nat → Nat → Int32} {J : Nat → Nat → Int64} {R : Nat → Nat → Nat} (hG : aGd R) {p a u b v : Int32} {pN aN bN : Nat} (hp : p.toInt = pN) (ha : a.toInt = aN) (hb : b.toInt = bN) (p7 : pN < 7) (a7 : aN < 7) (b7 : bN < 7) (u0 : 0 ≤ u.toInt) (u1 : u.toInt ≤ 100) (v0 : 0 ≤ v.toInt) (v1 : v.toInt ≤ 100) (g : rG J) (hb2 : u.toInt * rV J aN + v.toInt * rV J bN < tn (9 * 16)) : ∃ J', xEv L xs d 192 0 [.ref 86, .int p, .int a, .int u, .int b, .int v, xmk, xmk, xmk, xmk, xmk] [] (124, I, J, R) none (124, I, J', R) ∧ (∀ c q, ¬ (c = 108 ∧ 16 * (7 + pN) ≤ q ∧ q < 16 * (7 + pN) + 16) → J' c q = J c q) ∧ rG J' ∧ rV J' (7 + pN) = u.toInt * rV J aN + v.toInt * rV J bN := by
  have e7 : (7 + p).toInt = (7 + pN : Nat) := by rw [i_add (by rw [show (7 : Int32).toInt = 7 from by decide]; omega) (by rw [show (7 : Int32).toInt = 7 from by decide]; omega), show (7 : Int32).toInt = 7 from by decide]; omega
  have lp : ∀ (f kN : Nat) (k : Int32) (ov : Int64) (w9 : Value) (J2 : Nat → Nat → Int64), kN + f = 16 → k.toInt = kN → 0 ≤ ov.toInt → ov.toInt ≤ 200 → rG J2 → (∀ q, q < 112 → J2 108 q = J 108 q) → sT 9 (rF J2 (7 + pN)) kN + ov.toInt * tn (9 * kN) = u.toInt * sT 9 (rF J aN) kN + v.toInt * sT 9 (rF J bN) kN →
      ∃ (z : Int) (J' : Nat → Nat → Int64), xEv L xs d 192 6 [.ref 86, .int p, .int a, .int u, .int b, .int v, .long ov, xmk, .int k, w9, xmk] [] (124, I, J2, R) none (124, I, J', R) ∧ (∀ c q, ¬ (c = 108 ∧ 16 * (7 + pN) ≤ q ∧ q < 16 * (7 + pN) + 16) → J' c q = J2 c q) ∧ rG J' ∧ 0 ≤ z ∧ sT 9 (rF J' (7 + pN)) 16 + z * tn (9 * 16) = u.toInt * sT 9 (rF J aN) 16 + v.toInt * sT 9 (rF J bN) 16 := by
    intro f
    induction f with
    | zero =>
      intro kN k ov w9 J2 hk ek o0 o1 hg hq hS
      have e : kN = 16 := by omega
      subst e
      exact ⟨ov.toInt, J2, qqm_e hG (by omega), fun _ _ _ => rfl, hg, o0, hS⟩
    | succ f ih =>
      intro kN k ov w9 J2 hk ek o0 o1 hg hq hS
      have hk' : (k + 1).toInt = (kN + 1 : Nat) := by rw [i_add1 (by omega)]; omega
      obtain ⟨a1, a2, a3⟩ := ix16 ha ek (by omega) (by omega)
      obtain ⟨b1, b2, b3⟩ := ix16 hb ek (by omega) (by omega)
      obtain ⟨c1, c2, c3⟩ := ix16 e7 ek (by omega) (by omega)
      have xa := hq (16 * aN + kN) (by omega)
      have xb := hq (16 * bN + kN) (by omega)
      obtain ⟨x0, x1⟩ := g aN (by omega) kN (by omega)
      obtain ⟨y0, y1⟩ := g bN (by omega) kN (by omega)
      have eu : u.toInt64.toInt = u.toInt := i2l_t u
      have e_v : v.toInt64.toInt = v.toInt := i2l_t v
      have p0 := Int.mul_nonneg u0 x0
      have p1 := Int.mul_le_mul u1 (show (J 108 (16 * aN + kN)).toInt ≤ 999999999 by omega) x0 (by omega)
      have r0 := Int.mul_nonneg v0 y0
      have r1 := Int.mul_le_mul v1 (show (J 108 (16 * bN + kN)).toInt ≤ 999999999 by omega) y0 (by omega)
      have ev : (((u.toInt64 * (J2 108 ((16 * a) + k).toNatClampNeg)) + (v.toInt64 * (J2 108 ((16 * b) + k).toNatClampNeg))) + ov).toInt = u.toInt * (J 108 (16 * aN + kN)).toInt + v.toInt * (J 108 (16 * bN + kN)).toInt + ov.toInt := by
        rw [a3, b3, xa, xb]
        have m1 : (u.toInt64 * (J 108 (16 * aN + kN))).toInt = u.toInt * (J 108 (16 * aN + kN)).toInt := by rw [l_mul (by rw [eu]; omega) (by rw [eu]; omega), eu]
        have m2 : (v.toInt64 * (J 108 (16 * bN + kN))).toInt = v.toInt * (J 108 (16 * bN + kN)).toInt := by rw [l_mul (by rw [e_v]; omega) (by rw [e_v]; omega), e_v]
        have m3 : (u.toInt64 * (J 108 (16 * aN + kN)) + v.toInt64 * (J 108 (16 * bN + kN))).toInt = u.toInt * (J 108 (16 * aN + kN)).toInt + v.toInt * (J 108 (16 * bN + kN)).toInt := by rw [l_add (by omega) (by omega), m1, m2]
        rw [l_add (by omega) (by omega), m3]
      obtain ⟨vv, hvv⟩ : ∃ vv, (((u.toInt64 * (J2 108 ((16 * a) + k).toNatClampNeg)) + (v.toInt64 * (J2 108 ((16 * b) + k).toNatClampNeg))) + ov) = vv := ⟨_, rfl⟩
      rw [hvv] at ev
      have eq := l_div (x := vv) (y := 1000000000) (by omega) (by rw [k64_9]; decide)
      have er := l_rem (x := vv) (y := 1000000000) (by omega) (by rw [k64_9]; decide)
      rw [k64_9] at eq er
      obtain ⟨qq, hqq⟩ : ∃ qq, vv / 1000000000 = qq := ⟨_, rfl⟩
      obtain ⟨rr, hrr⟩ : ∃ rr, vv - vv / 1000000000 * 1000000000 = rr := ⟨_, rfl⟩
      rw [hqq] at eq
      rw [hrr] at er
      obtain ⟨z, J', y1', y2', y3', y4', y5'⟩ := ih (kN + 1) (k + 1) qq (.long vv) (uL J2 108 (16 * (7 + pN) + kN) rr) (by omega) hk' (by omega) (by omega) (fun q hq' i hi => by
          by_cases e : q = 7 + pN ∧ i = kN
          · rw [e.1, e.2, uL_s]
            omega
          · rw [uL_n _ _ (by omega)]
            exact hg q hq' i hi) (fun q hq' => by
          rw [uL_n _ _ (by omega)]
          exact hq q hq') (by
          have e1 : sT 9 (rF (uL J2 108 (16 * (7 + pN) + kN) rr) (7 + pN)) kN = sT 9 (rF J2 (7 + pN)) kN := sT_c _ (fun i hi => by
            show ((uL J2 108 (16 * (7 + pN) + kN) rr) 108 (16 * (7 + pN) + i)).toInt = _
            rw [uL_n _ _ (by omega)]
            rfl)
          have e2 : rF (uL J2 108 (16 * (7 + pN) + kN) rr) (7 + pN) kN = rr.toInt := by
            show ((uL J2 108 (16 * (7 + pN) + kN) rr) 108 (16 * (7 + pN) + kN)).toInt = _
            rw [uL_s]
          rw [sT_s, sT_s, sT_s, e1, e2, tn_s]
          refine mx_st hS ?_
          show _ = u.toInt * (J 108 (16 * aN + kN)).toInt + v.toInt * (J 108 (16 * bN + kN)).toInt + ov.toInt
          rw [tn_9]
          omega)
      refine ⟨z, J', qqm_l hG (by omega) a1 a2 b1 b2 c1 c2 ?_, fun c q hc => by rw [y2' c q hc, uL_n _ _ (by omega)], y3', y4', y5'⟩
      rw [hvv, c3, hrr, hqq]
      exact y1'
  obtain ⟨z, J', x1, x2, x3, x4, x5⟩ := lp 16 0 0 0 xmk J (by omega) (by decide) (by decide) (by decide) g (fun _ _ => rfl) (by
    simp only [sT_0]
    rw [show (0 : Int64).toInt = 0 from by decide, Int.zero_mul, Int.mul_zero, Int.mul_zero])
  refine ⟨J', qqm_s hG x1, x2, x3, ?_⟩
  have lo := (rV_b (x3 (7 + pN) (by omega))).1
  unfold rV at lo hb2 ⊢
  have hp := tn_pos (9 * 16)
  by_cases hz : z = 0
  · rw [hz, Int.zero_mul, Int.add_zero] at x5
    exact x5
  · have m := Int.mul_le_mul_of_nonneg_right (show (1 : Int) ≤ z by omega) (Int.le_of_lt hp)
    omega
theorem qqn_run {L : Nat} {xs : Nat → Int32} {d : Nat} {I : Nat → Nat → Int32} {J : Nat → Nat → Int64} {R : Nat → Nat → Nat} (hG : aGd R) : ∃ J', xEv L xs d 193 0 [.ref 86, xmk] [] (124, I, J, R) none (124, I, J', R) ∧ (∀ c q, ¬ (c = 108 ∧ q < 112) → J' c q = J c q) ∧ ∀ q, q < 112 → J' 108 q = J 108 (112 + q) := by
  have lp : ∀ (f kN : Nat) (k : Int32) (J2 : Nat → Nat → Int64), kN + f = 112 → k.toInt = kN → (∀ c q, ¬ (c = 108 ∧ q < 112) → J2 c q = J c q) → (∀ q, q < kN → J2 108 q = J 108 (112 + q)) → ∃ J', xEv L xs d 193 2 [.ref 86, .int k] [] (124, I, J2, R) none (124, I, J', R) ∧ (∀ c q, ¬ (c = 108 ∧ q < 112) → J' c q = J c q) ∧ ∀ q, q < 112 → J' 108 q = J 108 (112 + q) := by
    intro f
    induction f with
    | zero =>
      intro kN k J2 hk ek hF hJ
      exact ⟨J2, qqn_e hG (by omega), hF, fun q hq => hJ q (by omega)⟩
    | succ f ih =>
      intro kN k J2 hk ek hF hJ
      have eck := clamp_s (i := k) (by omega)
      have ekk : k.toNatClampNeg = kN := by omega
      have hk' : (k + 1).toInt = (kN + 1 : Nat) := by rw [i_add1 (by omega)]; omega
      have h112 : (112 + k).toInt = (112 + kN : Nat) := by rw [i_add (by rw [show (112 : Int32).toInt = 112 from by decide]; omega) (by rw [show (112 : Int32).toInt = 112 from by decide]; omega), show (112 : Int32).toInt = 112 from by decide]; omega
      have ec2 := clamp_s (i := 112 + k) (by omega)
      have ek2 : (112 + k).toNatClampNeg = 112 + kN := by omega
      obtain ⟨J', y1, y2, y3⟩ := ih (kN + 1) (k + 1) (uL J2 108 kN (J2 108 (112 + kN))) (by omega) hk' (fun c q hc => by rw [uL_n _ _ (by omega)]; exact hF c q hc) (fun q hq => by
        by_cases e : q = kN
        · rw [e, uL_s]
          exact hF _ _ (by omega)
        · rw [uL_n _ _ (fun z => e z.2)]
          exact hJ q (by omega))
      exact ⟨J', qqn_l hG (by omega) (by omega) (by omega) (by omega) (by omega) (by rw [ekk, ek2]; exact y1), y2, y3⟩
  obtain ⟨J', x1, x2⟩ := lp 112 0 0 J (by omega) (by decide) (fun _ _ _ => rfl) (fun q hq => absurd hq (by omega))
  exact ⟨J', qqn_s hG x1, x2⟩
theorem qqp_run {L : Nat} {xs : Nat → Int32} {d : Nat} {I : Nat → Nat → Int32} {J : Nat → Nat → Int64} {R : Nat → Nat → Nat} (hG : aGd R) {p : Int32} {pN : Nat} (hp : p.toInt = pN) (p7 : pN < 7) : ∃ J', xEv L xs d 195 0 [.ref 86, .int p, xmk] [] (124, I, J, R) none (124, I, J', R) ∧ (∀ c q, c ≠ 109 → J' c q = J c q) ∧ ∀ q, q < 16 → J' 109 q = J 108 (16 * pN + q) := by
  have lp : ∀ (f kN : Nat) (k : Int32) (J2 : Nat → Nat → Int64), kN + f = 16 → k.toInt = kN → (∀ c q, c ≠ 109 → J2 c q = J c q) → (∀ q, q < kN → J2 109 q = J 108 (16 * pN + q)) → ∃ J', xEv L xs d 195 2 [.ref 86, .int p, .int k] [] (124, I, J2, R) none (124, I, J', R) ∧ (∀ c q, c ≠ 109 → J' c q = J c q) ∧ ∀ q, q < 16 → J' 109 q = J 108 (16 * pN + q) := by
    intro f
    induction f with
    | zero =>
      intro kN k J2 hk ek hF hJ
      exact ⟨J2, qqp_e hG (by omega), hF, fun q hq => hJ q (by omega)⟩
    | succ f ih =>
      intro kN k J2 hk ek hF hJ
      have eck := clamp_s (i := k) (by omega)
      have ekk : k.toNatClampNeg = kN := by omega
      have hk' : (k + 1).toInt = (kN + 1 : Nat) := by rw [i_add1 (by omega)]; omega
      obtain ⟨a1, a2, a3⟩ := ix16 hp ek (by omega) (by omega)
      obtain ⟨J', y1, y2, y3⟩ := ih (kN + 1) (k + 1) (uL J2 109 kN (J2 108 (16 * pN + kN))) (by omega) hk' (fun c q hc => by rw [uL_n _ _ (fun z => hc z.1)]; exact hF c q hc) (fun q hq => by
        by_cases e : q = kN
        · rw [e, uL_s]
          exact hF _ _ (by decide)
        · rw [uL_n _ _ (fun z => e z.2)]
          exact hJ q (by omega))
      exact ⟨J', qqp_l hG (by omega) a1 a2 (by omega) (by omega) (by rw [ekk, a3]; exact y1), y2, y3⟩
  obtain ⟨J', x1, x2⟩ := lp 16 0 0 J (by omega) (by decide) (fun _ _ _ => rfl) (fun q hq => absurd hq (by omega))
  exact ⟨J', qqp_s hG x1, x2⟩
/-- the scratch row -/
def sF (J : Nat → Nat → Int64) : Nat → Int := fun k => (J 109 k).toInt
def sD (J : Nat → Nat → Int64) : Prop := ∀ k, k < 16 → 0 ≤ (J 109 k).toInt ∧ (J 109 k).toInt < 1000000000
theorem sF_d {J : Nat → Nat → Int64} (h : sD J) : ∀ k, k < 16 → 0 ≤ sF J k ∧ sF J k < tn 9 := fun k hk => by
  rw [tn_9]
  exact h k hk
theorem qqb_run {L : Nat} {xs : Nat → Int32} {d : Nat} {I : Nat → Nat → Int32} {J : Nat → Nat → Int64} {R : Nat → Nat → Nat} (hG : aGd R) (hd : sD J) : ∃ J', xEv L xs d 196 0 [.ref 86, xmk, xmk, xmk, xmk, xmk] [] (124, I, J, R) none (124, I, J', R) ∧ (∀ c q, c ≠ 109 → J' c q = J c q) ∧ sD J' ∧ sT 9 (sF J') 16 = sT 9 (sF J) 16 / 10 := by
  have lp : ∀ (m : Nat) (k : Int32) (rs : Int64) (w4 : Value) (J2 : Nat → Nat → Int64), m ≤ 16 → k.toInt = (m : Int) - 1 → 0 ≤ rs.toInt → rs.toInt < 10 → sD J2 → (∀ c q, c ≠ 109 → J2 c q = J c q) → (∀ q, q < m → J2 109 q = J 109 q) → 10 * (sT 9 (sF J2) 16 - sT 9 (sF J2) m) + rs.toInt * tn (9 * m) = sT 9 (sF J) 16 - sT 9 (sF J) m →
      ∃ (z : Int) (J' : Nat → Nat → Int64), xEv L xs d 196 5 [.ref 86, .long rs, xmk, .int k, w4, xmk] [] (124, I, J2, R) none (124, I, J', R) ∧ (∀ c q, c ≠ 109 → J' c q = J c q) ∧ sD J' ∧ 0 ≤ z ∧ z < 10 ∧ 10 * sT 9 (sF J') 16 + z = sT 9 (sF J) 16 := by
    intro m
    induction m with
    | zero =>
      intro k rs w4 J2 hm ek r0 r1 hd hF hq hS
      have e1 : ∀ f : Nat → Int, sT 9 f 0 = 0 := fun _ => sT_0 _ _
      have e2 : tn (9 * 0) = 1 := tn_0
      rw [e1, e1, Int.sub_zero, Int.sub_zero, e2, Int.mul_one] at hS
      exact ⟨rs.toInt, J2, qqb_e hG (by omega), hF, hd, r0, r1, hS⟩
    | succ m ih =>
      intro k rs w4 J2 hm ek r0 r1 hd hF hq hS
      have ek' : k.toInt = (m : Nat) := by omega
      have eck := clamp_s (i := k) (by omega)
      have ekk : k.toNatClampNeg = m := by omega
      obtain ⟨dx, hdx⟩ : ∃ dx, k + (-1) = dx := ⟨_, rfl⟩
      have edx : dx.toInt = (m : Int) - 1 := by
        rw [← hdx, i_add (by rw [show (-1 : Int32).toInt = -1 from by decide]; omega) (by rw [show (-1 : Int32).toInt = -1 from by decide]; omega), show (-1 : Int32).toInt = -1 from by decide]
        omega
      obtain ⟨x0, x1⟩ := hd m (by omega)
      have hx := hq m (by omega)
      have ev : ((rs * 1000000000) + (J2 109 k.toNatClampNeg)).toInt = rs.toInt * 1000000000 + (J2 109 m).toInt := by
        rw [ekk]
        obtain ⟨pp, hpp⟩ : ∃ pp, rs * 1000000000 = pp := ⟨_, rfl⟩
        have em : pp.toInt = rs.toInt * 1000000000 := by rw [← hpp, l_mul (by rw [k64_9]; omega) (by rw [k64_9]; omega), k64_9]
        rw [hpp, l_add (by omega) (by omega), em]
      obtain ⟨vv, hvv⟩ : ∃ vv, ((rs * 1000000000) + (J2 109 k.toNatClampNeg)) = vv := ⟨_, rfl⟩
      rw [hvv] at ev
      have eq := l_div (x := vv) (y := 10) (by omega) (by rw [k64_t]; decide)
      have er := l_rem (x := vv) (y := 10) (by omega) (by rw [k64_t]; decide)
      rw [k64_t] at eq er
      obtain ⟨qq, hqq⟩ : ∃ qq, vv / 10 = qq := ⟨_, rfl⟩
      obtain ⟨rr, hrr⟩ : ∃ rr, vv - vv / 10 * 10 = rr := ⟨_, rfl⟩
      rw [hqq] at eq
      rw [hrr] at er
      obtain ⟨z, J', y1, y2, y3, y4, y5, y6⟩ := ih dx rr (.long vv) (uL J2 109 m qq) (by omega) edx (by omega) (by omega) (fun i hi => by
          by_cases e : i = m
          · rw [e, uL_s]
            omega
          · rw [uL_n _ _ (fun z => e z.2)]
            exact hd i hi) (fun c q hc => by rw [uL_n _ _ (fun z => hc z.1)]; exact hF c q hc) (fun q hq' => by
          rw [uL_n _ _ (by omega)]
          exact hq q (by omega)) (by
          have u := sT_u (e := 9) (f := sF (uL J2 109 m qq)) (g := sF J2) (m + 1) (16 - (m + 1)) (fun j h1 h2 => by
            show ((uL J2 109 m qq) 109 j).toInt = _
            rw [uL_n _ _ (by omega)]
            rfl)
          rw [show m + 1 + (16 - (m + 1)) = 16 from by omega] at u
          have s1 : sF (uL J2 109 m qq) m = qq.toInt := by
            show ((uL J2 109 m qq) 109 m).toInt = _
            rw [uL_s]
          have s2 := sT_s 9 (sF (uL J2 109 m qq)) m
          have s3 := sT_s 9 (sF J) m
          have s4 : sF J m = (J2 109 m).toInt := by rw [hx]; rfl
          rw [s1] at s2
          rw [s4] at s3
          have l1 : sT 9 (sF (uL J2 109 m qq)) 16 - sT 9 (sF (uL J2 109 m qq)) m = (sT 9 (sF J2) 16 - sT 9 (sF J2) (m + 1)) + qq.toInt * tn (9 * m) := by omega
          have l2 : sT 9 (sF J) 16 - sT 9 (sF J) m = (sT 9 (sF J) 16 - sT 9 (sF J) (m + 1)) + (J2 109 m).toInt * tn (9 * m) := by omega
          rw [l1, l2]
          rw [tn_s] at hS
          refine dv_st hS ?_
          rw [tn_9]
          omega)
      refine ⟨z, J', qqb_l hG (by omega) (by omega) (by omega) (by omega) (by omega) hdx ?_, y2, y3, y4, y5, y6⟩
      rw [hvv, ekk, hrr, hqq]
      exact y1
  obtain ⟨z, J', x1, x2, x3, x4, x5, x6⟩ := lp 16 15 0 xmk J (by omega) (by decide) (by decide) (by decide) hd (fun _ _ _ => rfl) (fun _ _ => rfl) (by
    rw [Int.sub_self, show (0 : Int64).toInt = 0 from by decide, Int.zero_mul, Int.mul_zero, Int.add_zero])
  exact ⟨J', qqb_s hG x1, x2, x3, by omega⟩
/-- a small number stands in its first digit -/
theorem sm_dig {f : Nat → Int} {S : Int} (hf : ∀ k, k < 16 → 0 ≤ f k ∧ f k < tn 9) (hS : sT 9 f 16 = S) (h : S < tn 9) : f 0 = S ∧ f 1 = 0 := by
  have p1 := sT_p (e := 9) (f := f) 1 15
  have b1 := sT_b (e := 9) (f := fun i => f (1 + i)) 15 (fun i hi => hf (1 + i) (by omega))
  have e1 : sT 9 f 1 = f 0 := by
    exact sT_1 9 f
  have hp := tn_pos 9
  obtain ⟨a0, a1⟩ := hf 0 (by omega)
  rw [show 1 + 15 = 16 from rfl, hS, e1, show 9 * 1 = 9 from rfl] at p1
  have z : sT 9 (fun i => f (1 + i)) 15 = 0 := by
    by_cases g : sT 9 (fun i => f (1 + i)) 15 = 0
    · exact g
    · have m := Int.mul_le_mul_of_nonneg_left (show (1 : Int) ≤ sT 9 (fun i => f (1 + i)) 15 by omega) (Int.le_of_lt hp)
      omega
  rw [z, Int.mul_zero] at p1
  have p2 := sT_p (e := 9) (f := fun i => f (1 + i)) 1 14
  have b2 := sT_b (e := 9) (f := fun i => f (1 + (1 + i))) 14 (fun i hi => hf (1 + (1 + i)) (by omega))
  have e2 : sT 9 (fun i => f (1 + i)) 1 = f 1 := by
    rw [sT_1]
  obtain ⟨c0, c1⟩ := hf 1 (by omega)
  rw [show 1 + 14 = 15 from rfl, z, e2] at p2
  have m2 := Int.mul_nonneg (Int.le_of_lt (tn_pos (9 * 1))) b2.1
  omega
theorem qqi_run {L : Nat} {xs : Nat → Int32} {d : Nat} {I : Nat → Nat → Int32} {J : Nat → Nat → Int64} {R : Nat → Nat → Nat} (hG : aGd R) {p : Int32} {pN tN : Nat} (hp : p.toInt = pN) (p7 : pN < 7) (ht : (I 86 40).toInt = tN) (t8 : tN ≤ 128) (g : rG J) (hv : rV J pN ≤ tn tN) : ∃ (r : Int32) (J' : Nat → Nat → Int64), xEv L xs (d + 1) 194 0 [.ref 86, .int p, xmk, xmk, xmk] [] (124, I, J, R) (some (.int r)) (124, I, J', R) ∧ (∀ c q, c ≠ 109 → J' c q = J c q) ∧ r.toInt = rV J pN * 1000000 / tn tN := by
  obtain ⟨J1, x1, x2, x3⟩ := qqp_run (L := L) (xs := xs) (d := d) (I := I) (J := J) hG hp p7
  have d1 : sD J1 := fun k hk => by rw [x3 k hk]; exact g pN (by omega) k hk
  have s1 : sT 9 (sF J1) 16 = rV J pN := sT_c _ (fun k hk => by
    show (J1 109 k).toInt = (J 108 (16 * pN + k)).toInt
    rw [x3 k hk])
  have v0 := (rV_b (g pN (by omega))).1
  have lp2 : ∀ (f kN : Nat) (k : Int32) (x : Int64) (J2 : Nat → Nat → Int64), (kN + f = 6 ∨ (f = 0 ∧ 6 ≤ kN)) → k.toInt = kN → 0 ≤ x.toInt → x.toInt * tn f ≤ 1000000 → ∃ r : Int32, xEv L xs (d + 1) 194 50 [.ref 86, .int p, .long x, xmk, .int k] [] (124, I, J2, R) (some (.int r)) (124, I, J2, R) ∧ r.toInt = x.toInt * tn f := by
    intro f
    induction f with
    | zero =>
      intro kN k x J2 hk ek h0 h1
      rw [tn_0, Int.mul_one] at h1 ⊢
      exact ⟨_, qqi_d hG (by omega), l2i_t (by omega) (by omega)⟩
    | succ f ih =>
      intro kN k x J2 hk ek h0 h1
      have hk' : (k + 1).toInt = (kN + 1 : Nat) := by rw [i_add1 (by omega)]; omega
      have e10 : (10 : Int64).toInt = 10 := by decide
      have et : tn (f + 1) = tn f * 10 := tn_1 f
      have hp := tn_pos f
      have m1 := Int.mul_le_mul_of_nonneg_left (show (1 : Int) ≤ tn (f + 1) by omega) h0
      rw [Int.mul_one] at m1
      have em : (x * 10).toInt = x.toInt * 10 := by rw [l_mul (by rw [e10]; omega) (by rw [e10]; omega), e10]
      have ee : x.toInt * tn (f + 1) = x.toInt * 10 * tn f := by rw [et, Int.mul_comm (tn f) 10, Int.mul_assoc]
      obtain ⟨r, y1, y2⟩ := ih (kN + 1) (k + 1) (x * 10) J2 (by omega) hk' (by omega) (by rw [em, ← ee]; exact h1)
      exact ⟨r, qqi_c hG (by omega) y1, by rw [y2, em, ee]⟩
  have lp : ∀ (f kN : Nat) (k : Int32) (J2 : Nat → Nat → Int64), (kN = 6 + f ∨ (f = 0 ∧ kN ≤ 6)) → kN ≤ tN → (kN ≤ 6 → kN = 6 ∨ kN = tN) → k.toInt = kN → sD J2 → (∀ c q, c ≠ 109 → J2 c q = J c q) → sT 9 (sF J2) 16 = rV J pN / tn (tN - kN) → ∃ (r : Int32) (J' : Nat → Nat → Int64), xEv L xs (d + 1) 194 10 [.ref 86, .int p, .int k, xmk, xmk] [] (124, I, J2, R) (some (.int r)) (124, I, J', R) ∧ (∀ c q, c ≠ 109 → J' c q = J c q) ∧ r.toInt = rV J pN * 1000000 / tn tN := by
    intro f
    induction f with
    | zero =>
      intro kN k J2 hk hkt hk6 ek hd hF hS
      have k6 : kN ≤ 6 := by omega
      have hpt := tn_pos (tN - kN)
      have up : rV J pN / tn (tN - kN) ≤ tn kN := by
        refine Int.ediv_le_of_le_mul hpt ?_
        rw [← tn_add, show kN + (tN - kN) = tN from by omega]
        exact hv
      have lo := Int.ediv_nonneg v0 (Int.le_of_lt hpt)
      have t6 := tn_mono (show kN ≤ 6 from k6)
      have e6 : tn 6 = 1000000 := tn_6
      have e9 : tn 9 = 1000000000 := tn_9
      obtain ⟨a0, a1⟩ := sm_dig (sF_d hd) hS (by omega)
      have b0 : (J2 109 0).toInt = rV J pN / tn (tN - kN) := a0
      have b1 : (J2 109 1).toInt = 0 := a1
      obtain ⟨pp, hpp⟩ : ∃ pp, 1000000000 * (J2 109 1) = pp := ⟨_, rfl⟩
      have m1 : pp.toInt = 0 := by rw [← hpp, l_mul (by rw [b1, k64_9]; omega) (by rw [b1, k64_9]; omega), b1, Int.mul_zero]
      have m2 : ((J2 109 0) + pp).toInt = rV J pN / tn (tN - kN) := by rw [l_add (by omega) (by omega), m1, b0]; omega
      have fin : ∀ g, (tN + g = 6 ∨ (g = 0 ∧ 6 ≤ tN)) → rV J pN / tn (tN - kN) * tn g = rV J pN * 1000000 / tn tN ∧ rV J pN / tn (tN - kN) * tn g ≤ 1000000 := by
        intro g hg
        have up2 : rV J pN * 1000000 / tn tN ≤ 1000000 := by
          refine Int.ediv_le_of_le_mul (tn_pos _) ?_
          rw [Int.mul_comm]
          exact Int.mul_le_mul_of_nonneg_left hv (by decide)
        have key : rV J pN / tn (tN - kN) * tn g = rV J pN * 1000000 / tn tN := by
          rcases hg with hg | ⟨hg, h6⟩
          · by_cases h0 : kN = tN
            · rw [h0, Nat.sub_self, tn_0, Int.ediv_one, ← e6, ← hg, Nat.add_comm tN g, tn_add, ← Int.mul_assoc, Int.mul_ediv_cancel _ (tn_ne _)]
            · have h1 : kN = 6 := by omega
              omega
          · have h1 : kN = 6 := by omega
            rw [hg, tn_0, Int.mul_one, h1, show tN = (tN - 6) + 6 from by omega, tn_add, show tN - 6 + 6 - 6 = tN - 6 from by omega, e6, Int.mul_ediv_mul_of_pos_left _ _ (by decide)]
        exact ⟨key, by rw [key]; exact up2⟩
      obtain ⟨g, hg⟩ : ∃ g, (tN + g = 6 ∨ (g = 0 ∧ 6 ≤ tN)) := by
        by_cases h : tN ≤ 6
        · exact ⟨6 - tN, Or.inl (by omega)⟩
        · exact ⟨0, Or.inr ⟨rfl, by omega⟩⟩
      obtain ⟨f1, f2⟩ := fin g hg
      obtain ⟨r, y1, y2⟩ := lp2 g tN (I 86 40) ((J2 109 0) + pp) J2 hg ht (by rw [m2]; exact lo) (by rw [m2]; exact f2)
      exact ⟨r, J2, qqi_b hG (by omega) (by rw [hpp]; exact y1), hF, by rw [y2, m2, f1]⟩
    | succ f ih =>
      intro kN k J2 hk hkt hk6 ek hd hF hS
      obtain ⟨dx, hdx⟩ : ∃ dx, k + (-1) = dx := ⟨_, rfl⟩
      have edx : dx.toInt = (kN - 1 : Nat) := by
        rw [← hdx, i_add (by rw [show (-1 : Int32).toInt = -1 from by decide]; omega) (by rw [show (-1 : Int32).toInt = -1 from by decide]; omega), show (-1 : Int32).toInt = -1 from by decide]
        omega
      obtain ⟨J3, y1, y2, y3, y4⟩ := qqb_run (L := L) (xs := xs) (d := d) (I := I) hG hd
      obtain ⟨r, J', z1, z2, z3⟩ := ih (kN - 1) dx J3 (by omega) (by omega) (fun h => by omega) edx y3 (fun c q hc => by rw [y2 c q hc]; exact hF c q hc) (by
        rw [y4, hS, Int.ediv_ediv_of_nonneg (Int.le_of_lt (tn_pos _)), show tN - (kN - 1) = (tN - kN) + 1 from by omega, tn_1])
      exact ⟨r, J', qqi_a hG (by omega) y1 hdx z1, z2, z3⟩
  obtain ⟨r, J', z1, z2, z3⟩ := lp (tN - 6) tN (I 86 40) J1 (by omega) (Nat.le_refl _) (fun _ => Or.inr rfl) ht d1 x2 (by rw [s1, Nat.sub_self, tn_0, Int.ediv_one])
  exact ⟨r, J', qqi_s hG x1 z1, z2, z3⟩
