set_option maxRecDepth 20000 in
theorem zj_s {L : Nat} {xs : Nat → Int32} {d : Nat} {I : Nat → Nat → Int32} {J : Nat → Nat → Int64} {R : Nat → Nat → Nat} {x : Int64} (hG : aGd R)  {v : Option Value} {h' : xH} (hk : xEv L xs d 71 6 [.ref 56, .long x, xmk, .int 0, .int 82] [] (124, I, J, R) v h') : xEv L xs d 71 0 [.ref 56, .long x, xmk, xmk, xmk] [] (124, I, J, R) v h' := by
  refine ev_go 5 (pc1 := 6) (lv1 := [.ref 56, .long x, xmk, .int 0, .int 82]) (st1 := []) (h1 := (124, I, J, R)) rfl ?_
  exact hk
set_option maxRecDepth 20000 in
theorem zj_l {L : Nat} {xs : Nat → Int32} {d : Nat} {I : Nat → Nat → Int32} {J : Nat → Nat → Int64} {R : Nat → Nat → Nat} {k : Int32} {x : Int64} (hG : aGd R) (b1 : k.toInt < 82) (n1 : 0 ≤ k.toInt) (m1 : k.toInt < 82) {v : Option Value} {h' : xH} (hk : xEv L xs d 71 6 [.ref 56, .long x, xmk, .int (k + 1), .int 82] [] (124, I, (uL J 56 k.toNatClampNeg x), R) v h') : xEv L xs d 71 6 [.ref 56, .long x, xmk, .int k, .int 82] [] (124, I, J, R) v h' := by
  refine ev_go 2 (pc1 := 9) (lv1 := [.ref 56, .long x, xmk, .int k, .int 82]) (st1 := [.int 82, .int k]) (h1 := (124, I, J, R)) rfl ?_
  refine ev_br (b1 := false) rfl rfl (xcd_nge (x := k) (y := 82) (by rw [show ((82 : Int32)).toInt = 82 from by decide]; first | exact b1 | omega)) ?_
  refine ev_go 3 (pc1 := 15) (lv1 := [.ref 56, .long x, xmk, .int k, .int 82]) (st1 := [.long x, .int k, .ref 56]) (h1 := (124, I, J, R)) rfl ?_
  refine ev_lst (n := 82) rfl rfl (fun _ => rfl) n1 m1 ?_
  refine ev_go 2 (pc1 := 6) (lv1 := [.ref 56, .long x, xmk, .int (k + 1), .int 82]) (st1 := []) (h1 := (124, I, (uL J 56 k.toNatClampNeg x), R)) rfl ?_
  exact hk
set_option maxRecDepth 20000 in
theorem zj_e {L : Nat} {xs : Nat → Int32} {d : Nat} {I : Nat → Nat → Int32} {J : Nat → Nat → Int64} {R : Nat → Nat → Nat} {k : Int32} {x : Int64} (hG : aGd R) (b1 : k.toInt ≥ 82) : xEv L xs d 71 6 [.ref 56, .long x, xmk, .int k, .int 82] [] (124, I, J, R) none (124, I, J, R) := by
  refine ev_go 2 (pc1 := 9) (lv1 := [.ref 56, .long x, xmk, .int k, .int 82]) (st1 := [.int 82, .int k]) (h1 := (124, I, J, R)) rfl ?_
  refine ev_br (b1 := true) rfl rfl (xcd_ge (x := k) (y := 82) (by rw [show ((82 : Int32)).toInt = 82 from by decide]; first | exact b1 | omega)) ?_
  exact ev_ret rfl rfl
set_option maxRecDepth 20000 in
theorem zs_1 {L : Nat} {xs : Nat → Int32} {d : Nat} {I : Nat → Nat → Int32} {J : Nat → Nat → Int64} {R : Nat → Nat → Nat} {I1 : Nat → Nat → Int32} {J1 : Nat → Nat → Int64} (hG : aGd R) (c1 : xEv L xs d 71 0 [.ref 56, .long 0, xmk, xmk, xmk] [] (124, I, J, R) none (124, I1, J1, R)) : xEv L xs (d + 1) 103 0 [.ref 55] [] (124, I, J, R) none (124, (uI (uI I1 55 1 1) 55 2 0), (uL J1 56 0 1), R) := by
  refine ev_go 1 (pc1 := 1) (lv1 := [.ref 55]) (st1 := [.ref 55]) (h1 := (124, I, J, R)) rfl ?_
  refine ev_gf (c := 55) (t := 56) (X := R 55 0) rfl rfl (fun _ => rfl) rfl (hG 55 0 56 rfl rfl) ?_
  refine ev_go 1 (pc1 := 5) (lv1 := [.ref 55]) (st1 := [.long 0, .ref 56]) (h1 := (124, I, J, R)) rfl ?_
  refine ev_call (v1 := none) (h1 := (124, I1, J1, R)) rfl rfl c1 ?_
  refine ev_go 1 (pc1 := 9) (lv1 := [.ref 55]) (st1 := [.ref 55]) (h1 := (124, I1, J1, R)) rfl ?_
  refine ev_gf (c := 55) (t := 56) (X := R 55 0) rfl rfl (fun _ => rfl) rfl (hG 55 0 56 rfl rfl) ?_
  refine ev_go 9 (pc1 := 25) (lv1 := [.ref 55]) (st1 := []) (h1 := (124, (uI (uI I1 55 1 1) 55 2 0), (uL J1 56 0 1), R)) rfl ?_
  exact ev_ret rfl rfl
set_option maxRecDepth 20000 in
theorem zt_0 {L : Nat} {xs : Nat → Int32} {d : Nat} {I : Nat → Nat → Int32} {J : Nat → Nat → Int64} {R : Nat → Nat → Nat} {b : Int32} (hG : aGd R) (b1 : b.toInt = 1000) : xEv L xs d 104 0 [.ref 55, .int b, xmk, xmk, xmk, xmk, xmk] [] (124, I, J, R) none (124, I, J, R) := by
  refine ev_go 2 (pc1 := 4) (lv1 := [.ref 55, .int b, xmk, xmk, xmk, xmk, xmk]) (st1 := [.int 1000, .int b]) (h1 := (124, I, J, R)) rfl ?_
  refine ev_br (b1 := false) rfl rfl (xcd_nne (x := b) (y := 1000) (by rw [show ((1000 : Int32)).toInt = 1000 from by decide]; first | exact b1 | omega)) ?_
  exact ev_ret rfl rfl
set_option maxRecDepth 20000 in
theorem zt_s {L : Nat} {xs : Nat → Int32} {d : Nat} {I : Nat → Nat → Int32} {J : Nat → Nat → Int64} {R : Nat → Nat → Nat} {b : Int32} (hG : aGd R) (b1 : b.toInt ≠ 1000) {v : Option Value} {h' : xH} (hk : xEv L xs d 104 23 [.ref 55, .int b, .long 0, xmk, .int 0, xmk, xmk] [] (124, (uI I 55 2 ((I 55 2) + 3)), J, R) v h') : xEv L xs d 104 0 [.ref 55, .int b, xmk, xmk, xmk, xmk, xmk] [] (124, I, J, R) v h' := by
  refine ev_go 2 (pc1 := 4) (lv1 := [.ref 55, .int b, xmk, xmk, xmk, xmk, xmk]) (st1 := [.int 1000, .int b]) (h1 := (124, I, J, R)) rfl ?_
  refine ev_br (b1 := true) rfl rfl (xcd_ne (x := b) (y := 1000) (by rw [show ((1000 : Int32)).toInt = 1000 from by decide]; first | exact b1 | omega)) ?_
  refine ev_go 10 (pc1 := 23) (lv1 := [.ref 55, .int b, .long 0, xmk, .int 0, xmk, xmk]) (st1 := []) (h1 := (124, (uI I 55 2 ((I 55 2) + 3)), J, R)) rfl ?_
  exact hk
set_option maxRecDepth 20000 in
theorem zt_l {L : Nat} {xs : Nat → Int32} {d : Nat} {I : Nat → Nat → Int32} {J : Nat → Nat → Int64} {R : Nat → Nat → Nat} {b i : Int32} {w5 : Value} {cy : Int64} (hG : aGd R) (b1 : i.toInt < (I 55 1).toInt) (b2 : i.toInt < 82) (n1 : 0 ≤ i.toInt) (m1 : i.toInt < 82) (n2 : 0 ≤ i.toInt) (m2 : i.toInt < 82) {v : Option Value} {h' : xH} (hk : xEv L xs d 104 23 [.ref 55, .int b, .long ((((J 56 i.toNatClampNeg) * b.toInt64) + cy) / 1000000000000000), xmk, .int (i + 1), .long (((J 56 i.toNatClampNeg) * b.toInt64) + cy), xmk] [] (124, I, (uL J 56 i.toNatClampNeg ((((J 56 i.toNatClampNeg) * b.toInt64) + cy) - (((J 56 i.toNatClampNeg) * b.toInt64) + cy) / 1000000000000000 * 1000000000000000)), R) v h') : xEv L xs d 104 23 [.ref 55, .int b, .long cy, xmk, .int i, w5, xmk] [] (124, I, J, R) v h' := by
  refine ev_go 3 (pc1 := 29) (lv1 := [.ref 55, .int b, .long cy, xmk, .int i, w5, xmk]) (st1 := [.int (I 55 1), .int i]) (h1 := (124, I, J, R)) rfl ?_
  refine ev_br (b1 := false) rfl rfl (xcd_nge (x := i) (y := (I 55 1)) (by first | exact b1 | omega)) ?_
  refine ev_go 2 (pc1 := 35) (lv1 := [.ref 55, .int b, .long cy, xmk, .int i, w5, xmk]) (st1 := [.ref 55, .int i]) (h1 := (124, I, J, R)) rfl ?_
  refine ev_gf (c := 55) (t := 56) (X := R 55 0) rfl rfl (fun _ => rfl) rfl (hG 55 0 56 rfl rfl) ?_
  refine ev_go 1 (pc1 := 39) (lv1 := [.ref 55, .int b, .long cy, xmk, .int i, w5, xmk]) (st1 := [.int 82, .int i]) (h1 := (124, I, J, R)) rfl ?_
  refine ev_br (b1 := false) rfl rfl (xcd_nge (x := i) (y := 82) (by rw [show ((82 : Int32)).toInt = 82 from by decide]; first | exact b2 | omega)) ?_
  refine ev_go 1 (pc1 := 43) (lv1 := [.ref 55, .int b, .long cy, xmk, .int i, w5, xmk]) (st1 := [.ref 55]) (h1 := (124, I, J, R)) rfl ?_
  refine ev_gf (c := 55) (t := 56) (X := R 55 0) rfl rfl (fun _ => rfl) rfl (hG 55 0 56 rfl rfl) ?_
  refine ev_go 1 (pc1 := 48) (lv1 := [.ref 55, .int b, .long cy, xmk, .int i, w5, xmk]) (st1 := [.int i, .ref 56]) (h1 := (124, I, J, R)) rfl ?_
  refine ev_lld (n := 82) rfl rfl (fun _ => rfl) n1 m1 ?_
  refine ev_go 8 (pc1 := 61) (lv1 := [.ref 55, .int b, .long cy, xmk, .int i, .long (((J 56 i.toNatClampNeg) * b.toInt64) + cy), xmk]) (st1 := [.long 1000000000000000, .long (((J 56 i.toNatClampNeg) * b.toInt64) + cy)]) (h1 := (124, I, J, R)) rfl ?_
  refine ev_go 3 (pc1 := 64) (lv1 := [.ref 55, .int b, .long ((((J 56 i.toNatClampNeg) * b.toInt64) + cy) / 1000000000000000), xmk, .int i, .long (((J 56 i.toNatClampNeg) * b.toInt64) + cy), xmk]) (st1 := [.ref 55]) (h1 := (124, I, J, R)) rfl ?_
  refine ev_gf (c := 55) (t := 56) (X := R 55 0) rfl rfl (fun _ => rfl) rfl (hG 55 0 56 rfl rfl) ?_
  refine ev_go 3 (pc1 := 74) (lv1 := [.ref 55, .int b, .long ((((J 56 i.toNatClampNeg) * b.toInt64) + cy) / 1000000000000000), xmk, .int i, .long (((J 56 i.toNatClampNeg) * b.toInt64) + cy), xmk]) (st1 := [.long 1000000000000000, .long (((J 56 i.toNatClampNeg) * b.toInt64) + cy), .int i, .ref 56]) (h1 := (124, I, J, R)) rfl ?_
  refine ev_go 1 (pc1 := 75) (lv1 := [.ref 55, .int b, .long ((((J 56 i.toNatClampNeg) * b.toInt64) + cy) / 1000000000000000), xmk, .int i, .long (((J 56 i.toNatClampNeg) * b.toInt64) + cy), xmk]) (st1 := [.long ((((J 56 i.toNatClampNeg) * b.toInt64) + cy) - (((J 56 i.toNatClampNeg) * b.toInt64) + cy) / 1000000000000000 * 1000000000000000), .int i, .ref 56]) (h1 := (124, I, J, R)) rfl ?_
  refine ev_lst (n := 82) rfl rfl (fun _ => rfl) n2 m2 ?_
  refine ev_go 2 (pc1 := 23) (lv1 := [.ref 55, .int b, .long ((((J 56 i.toNatClampNeg) * b.toInt64) + cy) / 1000000000000000), xmk, .int (i + 1), .long (((J 56 i.toNatClampNeg) * b.toInt64) + cy), xmk]) (st1 := []) (h1 := (124, I, (uL J 56 i.toNatClampNeg ((((J 56 i.toNatClampNeg) * b.toInt64) + cy) - (((J 56 i.toNatClampNeg) * b.toInt64) + cy) / 1000000000000000 * 1000000000000000)), R)) rfl ?_
  exact hk
set_option maxRecDepth 20000 in
theorem zt_e {L : Nat} {xs : Nat → Int32} {d : Nat} {I : Nat → Nat → Int32} {J : Nat → Nat → Int64} {R : Nat → Nat → Nat} {b i : Int32} {w5 : Value} {cy : Int64} (hG : aGd R) (b1 : i.toInt ≥ (I 55 1).toInt) (b2 : (lg_cmp cy 0).toInt ≤ 0) : xEv L xs d 104 23 [.ref 55, .int b, .long cy, xmk, .int i, w5, xmk] [] (124, I, J, R) none (124, I, J, R) := by
  refine ev_go 3 (pc1 := 29) (lv1 := [.ref 55, .int b, .long cy, xmk, .int i, w5, xmk]) (st1 := [.int (I 55 1), .int i]) (h1 := (124, I, J, R)) rfl ?_
  refine ev_br (b1 := true) rfl rfl (xcd_ge (x := i) (y := (I 55 1)) (by first | exact b1 | omega)) ?_
  refine ev_go 3 (pc1 := 85) (lv1 := [.ref 55, .int b, .long cy, xmk, .int i, w5, xmk]) (st1 := [.int (lg_cmp cy 0)]) (h1 := (124, I, J, R)) rfl ?_
  refine ev_br (b1 := true) rfl rfl (xcd_le (x := (lg_cmp cy 0)) (y := 0) (by rw [show ((0 : Int32)).toInt = 0 from by decide]; first | exact b2 | omega)) ?_
  exact ev_ret rfl rfl
set_option maxRecDepth 20000 in
theorem zt_c {L : Nat} {xs : Nat → Int32} {d : Nat} {I : Nat → Nat → Int32} {J : Nat → Nat → Int64} {R : Nat → Nat → Nat} {b i : Int32} {w5 : Value} {cy : Int64} (hG : aGd R) (b1 : i.toInt ≥ (I 55 1).toInt) (b2 : (lg_cmp cy 0).toInt > 0) (b3 : (I 55 1).toInt < 82) (n1 : 0 ≤ (I 55 1).toInt) (m1 : (I 55 1).toInt < 82) : xEv L xs d 104 23 [.ref 55, .int b, .long cy, xmk, .int i, w5, xmk] [] (124, I, J, R) none (124, (uI I 55 1 ((I 55 1) + 1)), (uL J 56 (I 55 1).toNatClampNeg cy), R) := by
  refine ev_go 3 (pc1 := 29) (lv1 := [.ref 55, .int b, .long cy, xmk, .int i, w5, xmk]) (st1 := [.int (I 55 1), .int i]) (h1 := (124, I, J, R)) rfl ?_
  refine ev_br (b1 := true) rfl rfl (xcd_ge (x := i) (y := (I 55 1)) (by first | exact b1 | omega)) ?_
  refine ev_go 3 (pc1 := 85) (lv1 := [.ref 55, .int b, .long cy, xmk, .int i, w5, xmk]) (st1 := [.int (lg_cmp cy 0)]) (h1 := (124, I, J, R)) rfl ?_
  refine ev_br (b1 := false) rfl rfl (xcd_nle (x := (lg_cmp cy 0)) (y := 0) (by rw [show ((0 : Int32)).toInt = 0 from by decide]; first | exact b2 | omega)) ?_
  refine ev_go 3 (pc1 := 93) (lv1 := [.ref 55, .int b, .long cy, xmk, .int i, w5, xmk]) (st1 := [.ref 55, .int (I 55 1)]) (h1 := (124, I, J, R)) rfl ?_
  refine ev_gf (c := 55) (t := 56) (X := R 55 0) rfl rfl (fun _ => rfl) rfl (hG 55 0 56 rfl rfl) ?_
  refine ev_go 1 (pc1 := 97) (lv1 := [.ref 55, .int b, .long cy, xmk, .int i, w5, xmk]) (st1 := [.int 82, .int (I 55 1)]) (h1 := (124, I, J, R)) rfl ?_
  refine ev_br (b1 := false) rfl rfl (xcd_nge (x := (I 55 1)) (y := 82) (by rw [show ((82 : Int32)).toInt = 82 from by decide]; first | exact b3 | omega)) ?_
  refine ev_go 1 (pc1 := 101) (lv1 := [.ref 55, .int b, .long cy, xmk, .int i, w5, xmk]) (st1 := [.ref 55]) (h1 := (124, I, J, R)) rfl ?_
  refine ev_gf (c := 55) (t := 56) (X := R 55 0) rfl rfl (fun _ => rfl) rfl (hG 55 0 56 rfl rfl) ?_
  refine ev_go 3 (pc1 := 109) (lv1 := [.ref 55, .int b, .long cy, xmk, .int i, w5, xmk]) (st1 := [.long cy, .int (I 55 1), .ref 56]) (h1 := (124, I, J, R)) rfl ?_
  refine ev_lst (n := 82) rfl rfl (fun _ => rfl) n1 m1 ?_
  refine ev_go 6 (pc1 := 120) (lv1 := [.ref 55, .int b, .long cy, xmk, .int i, w5, xmk]) (st1 := []) (h1 := (124, (uI I 55 1 ((I 55 1) + 1)), (uL J 56 (I 55 1).toNatClampNeg cy), R)) rfl ?_
  exact ev_ret rfl rfl
set_option maxRecDepth 20000 in
theorem zl_y {L : Nat} {xs : Nat → Int32} {d : Nat} {I : Nat → Nat → Int32} {J : Nat → Nat → Int64} {R : Nat → Nat → Nat} {i : Int32} (hG : aGd R) (b1 : i.toInt ≥ 0) (b2 : i.toInt < 82) (n1 : 0 ≤ i.toInt) (m1 : i.toInt < 82) : xEv L xs d 106 0 [.ref 55, .int i] [] (124, I, J, R) (some (.long (J 56 i.toNatClampNeg))) (124, I, J, R) := by
  refine ev_go 1 (pc1 := 1) (lv1 := [.ref 55, .int i]) (st1 := [.int i]) (h1 := (124, I, J, R)) rfl ?_
  refine ev_br (b1 := false) rfl rfl (xcd_nlt (x := i) (y := 0) (by rw [show ((0 : Int32)).toInt = 0 from by decide]; first | exact b1 | omega)) ?_
  refine ev_go 2 (pc1 := 6) (lv1 := [.ref 55, .int i]) (st1 := [.ref 55, .int i]) (h1 := (124, I, J, R)) rfl ?_
  refine ev_gf (c := 55) (t := 56) (X := R 55 0) rfl rfl (fun _ => rfl) rfl (hG 55 0 56 rfl rfl) ?_
  refine ev_go 1 (pc1 := 10) (lv1 := [.ref 55, .int i]) (st1 := [.int 82, .int i]) (h1 := (124, I, J, R)) rfl ?_
  refine ev_br (b1 := false) rfl rfl (xcd_nge (x := i) (y := 82) (by rw [show ((82 : Int32)).toInt = 82 from by decide]; first | exact b2 | omega)) ?_
  refine ev_go 1 (pc1 := 14) (lv1 := [.ref 55, .int i]) (st1 := [.ref 55]) (h1 := (124, I, J, R)) rfl ?_
  refine ev_gf (c := 55) (t := 56) (X := R 55 0) rfl rfl (fun _ => rfl) rfl (hG 55 0 56 rfl rfl) ?_
  refine ev_go 1 (pc1 := 18) (lv1 := [.ref 55, .int i]) (st1 := [.int i, .ref 56]) (h1 := (124, I, J, R)) rfl ?_
  refine ev_lld (n := 82) rfl rfl (fun _ => rfl) n1 m1 ?_
  refine ev_go 1 (pc1 := 23) (lv1 := [.ref 55, .int i]) (st1 := [.long (J 56 i.toNatClampNeg)]) (h1 := (124, I, J, R)) rfl ?_
  exact ev_ret rfl rfl
set_option maxRecDepth 20000 in
theorem ze_s {L : Nat} {xs : Nat → Int32} {d : Nat} {I : Nat → Nat → Int32} {J : Nat → Nat → Int64} {R : Nat → Nat → Nat} {n : Int32} (hG : aGd R)  {v : Option Value} {h' : xH} (hk : xEv L xs d 107 4 [.int n, .long 1, xmk, .int 0] [] (124, I, J, R) v h') : xEv L xs d 107 0 [.int n, xmk, xmk, xmk] [] (124, I, J, R) v h' := by
  refine ev_go 4 (pc1 := 4) (lv1 := [.int n, .long 1, xmk, .int 0]) (st1 := []) (h1 := (124, I, J, R)) rfl ?_
  exact hk
set_option maxRecDepth 20000 in
theorem ze_l {L : Nat} {xs : Nat → Int32} {d : Nat} {I : Nat → Nat → Int32} {J : Nat → Nat → Int64} {R : Nat → Nat → Nat} {n k : Int32} {x : Int64} (hG : aGd R) (b1 : k.toInt < n.toInt) {v : Option Value} {h' : xH} (hk : xEv L xs d 107 4 [.int n, .long (x * 10), xmk, .int (k + 1)] [] (124, I, J, R) v h') : xEv L xs d 107 4 [.int n, .long x, xmk, .int k] [] (124, I, J, R) v h' := by
  refine ev_go 2 (pc1 := 6) (lv1 := [.int n, .long x, xmk, .int k]) (st1 := [.int n, .int k]) (h1 := (124, I, J, R)) rfl ?_
  refine ev_br (b1 := false) rfl rfl (xcd_nge (x := k) (y := n) (by first | exact b1 | omega)) ?_
  refine ev_go 6 (pc1 := 4) (lv1 := [.int n, .long (x * 10), xmk, .int (k + 1)]) (st1 := []) (h1 := (124, I, J, R)) rfl ?_
  exact hk
set_option maxRecDepth 20000 in
theorem ze_e {L : Nat} {xs : Nat → Int32} {d : Nat} {I : Nat → Nat → Int32} {J : Nat → Nat → Int64} {R : Nat → Nat → Nat} {n k : Int32} {x : Int64} (hG : aGd R) (b1 : k.toInt ≥ n.toInt) : xEv L xs d 107 4 [.int n, .long x, xmk, .int k] [] (124, I, J, R) (some (.long x)) (124, I, J, R) := by
  refine ev_go 2 (pc1 := 6) (lv1 := [.int n, .long x, xmk, .int k]) (st1 := [.int n, .int k]) (h1 := (124, I, J, R)) rfl ?_
  refine ev_br (b1 := true) rfl rfl (xcd_ge (x := k) (y := n) (by first | exact b1 | omega)) ?_
  refine ev_go 1 (pc1 := 22) (lv1 := [.int n, .long x, xmk, .int k]) (st1 := [.long x]) (h1 := (124, I, J, R)) rfl ?_
  exact ev_ret rfl rfl
set_option maxRecDepth 20000 in
theorem zw_s {L : Nat} {xs : Nat → Int32} {d : Nat} {I : Nat → Nat → Int32} {J : Nat → Nat → Int64} {R : Nat → Nat → Nat} {n : Int32} {l : Int64} (hG : aGd R)  {v : Option Value} {h' : xH} (hk : xEv L xs d 108 5 [.long l, xmk, .int n, .long l, xmk, .int 0] [] (124, I, J, R) v h') : xEv L xs d 108 0 [.long l, xmk, .int n, xmk, xmk, xmk] [] (124, I, J, R) v h' := by
  refine ev_go 4 (pc1 := 5) (lv1 := [.long l, xmk, .int n, .long l, xmk, .int 0]) (st1 := []) (h1 := (124, I, J, R)) rfl ?_
  exact hk
set_option maxRecDepth 20000 in
theorem zw_l {L : Nat} {xs : Nat → Int32} {d : Nat} {I : Nat → Nat → Int32} {J : Nat → Nat → Int64} {R : Nat → Nat → Nat} {n k : Int32} {l x : Int64} (hG : aGd R) (b1 : k.toInt < n.toInt) {v : Option Value} {h' : xH} (hk : xEv L xs d 108 5 [.long l, xmk, .int n, .long (x / 10), xmk, .int (k + 1)] [] (124, I, J, R) v h') : xEv L xs d 108 5 [.long l, xmk, .int n, .long x, xmk, .int k] [] (124, I, J, R) v h' := by
  refine ev_go 2 (pc1 := 8) (lv1 := [.long l, xmk, .int n, .long x, xmk, .int k]) (st1 := [.int n, .int k]) (h1 := (124, I, J, R)) rfl ?_
  refine ev_br (b1 := false) rfl rfl (xcd_nge (x := k) (y := n) (by first | exact b1 | omega)) ?_
  refine ev_go 2 (pc1 := 15) (lv1 := [.long l, xmk, .int n, .long x, xmk, .int k]) (st1 := [.long 10, .long x]) (h1 := (124, I, J, R)) rfl ?_
  refine ev_go 4 (pc1 := 5) (lv1 := [.long l, xmk, .int n, .long (x / 10), xmk, .int (k + 1)]) (st1 := []) (h1 := (124, I, J, R)) rfl ?_
  exact hk
set_option maxRecDepth 20000 in
theorem zw_e {L : Nat} {xs : Nat → Int32} {d : Nat} {I : Nat → Nat → Int32} {J : Nat → Nat → Int64} {R : Nat → Nat → Nat} {n k : Int32} {l x : Int64} (hG : aGd R) (b1 : k.toInt ≥ n.toInt) : xEv L xs d 108 5 [.long l, xmk, .int n, .long x, xmk, .int k] [] (124, I, J, R) (some (.long x)) (124, I, J, R) := by
  refine ev_go 2 (pc1 := 8) (lv1 := [.long l, xmk, .int n, .long x, xmk, .int k]) (st1 := [.int n, .int k]) (h1 := (124, I, J, R)) rfl ?_
  refine ev_br (b1 := true) rfl rfl (xcd_ge (x := k) (y := n) (by first | exact b1 | omega)) ?_
  refine ev_go 1 (pc1 := 24) (lv1 := [.long l, xmk, .int n, .long x, xmk, .int k]) (st1 := [.long x]) (h1 := (124, I, J, R)) rfl ?_
  exact ev_ret rfl rfl
set_option maxRecDepth 20000 in
theorem zm_0 {L : Nat} {xs : Nat → Int32} {d : Nat} {I : Nat → Nat → Int32} {J : Nat → Nat → Int64} {R : Nat → Nat → Nat} {lm tp : Int64} (hG : aGd R) (b1 : (I 55 2).toInt ≤ 6) (c1 : xEv L xs d 106 0 [.ref 55, .int 0] [] (124, I, J, R) (some (.long lm)) (124, I, J, R)) (c2 : xEv L xs d 107 0 [.int (6 - (I 55 2)), xmk, xmk, xmk] [] (124, I, J, R) (some (.long tp)) (124, I, J, R)) : xEv L xs (d + 1) 105 0 [.ref 55, xmk, xmk, xmk] [] (124, I, J, R) (some (.int (lm * tp).toInt32)) (124, I, J, R) := by
  refine ev_go 3 (pc1 := 6) (lv1 := [.ref 55, xmk, xmk, xmk]) (st1 := [.int 6, .int (I 55 2)]) (h1 := (124, I, J, R)) rfl ?_
  refine ev_br (b1 := false) rfl rfl (xcd_ngt (x := (I 55 2)) (y := 6) (by rw [show ((6 : Int32)).toInt = 6 from by decide]; first | exact b1 | omega)) ?_
  refine ev_go 2 (pc1 := 11) (lv1 := [.ref 55, xmk, xmk, xmk]) (st1 := [.int 0, .ref 55]) (h1 := (124, I, J, R)) rfl ?_
  refine ev_call (v1 := (some (.long lm))) (h1 := (124, I, J, R)) rfl rfl c1 ?_
  refine ev_go 4 (pc1 := 21) (lv1 := [.ref 55, xmk, xmk, xmk]) (st1 := [.int (6 - (I 55 2)), .long lm]) (h1 := (124, I, J, R)) rfl ?_
  refine ev_call (v1 := (some (.long tp))) (h1 := (124, I, J, R)) rfl rfl c2 ?_
  refine ev_go 2 (pc1 := 26) (lv1 := [.ref 55, xmk, xmk, xmk]) (st1 := [.int (lm * tp).toInt32]) (h1 := (124, I, J, R)) rfl ?_
  exact ev_ret rfl rfl
set_option maxRecDepth 20000 in
theorem zm_1 {L : Nat} {xs : Nat → Int32} {d : Nat} {I : Nat → Nat → Int32} {J : Nat → Nat → Int64} {R : Nat → Nat → Nat} {la wd lb tp : Int64} (hG : aGd R) (b1 : (I 55 2).toInt > 6) (c1 : xEv L xs d 106 0 [.ref 55, .int (((I 55 2) - 6) / 15)] [] (124, I, J, R) (some (.long la)) (124, I, J, R)) (c2 : xEv L xs d 108 0 [.long la, xmk, .int (((I 55 2) - 6) - ((I 55 2) - 6) / 15 * 15), xmk, xmk, xmk] [] (124, I, J, R) (some (.long wd)) (124, I, J, R)) (c3 : xEv L xs d 106 0 [.ref 55, .int ((((I 55 2) - 6) / 15) + 1)] [] (124, I, J, R) (some (.long lb)) (124, I, J, R)) (c4 : xEv L xs d 107 0 [.int (15 - (((I 55 2) - 6) - ((I 55 2) - 6) / 15 * 15)), xmk, xmk, xmk] [] (124, I, J, R) (some (.long tp)) (124, I, J, R)) : xEv L xs (d + 1) 105 0 [.ref 55, xmk, xmk, xmk] [] (124, I, J, R) (some (.int (wd + (lb * tp)).toInt32)) (124, I, J, R) := by
  refine ev_go 3 (pc1 := 6) (lv1 := [.ref 55, xmk, xmk, xmk]) (st1 := [.int 6, .int (I 55 2)]) (h1 := (124, I, J, R)) rfl ?_
  refine ev_br (b1 := true) rfl rfl (xcd_gt (x := (I 55 2)) (y := 6) (by rw [show ((6 : Int32)).toInt = 6 from by decide]; first | exact b1 | omega)) ?_
  refine ev_go 7 (pc1 := 38) (lv1 := [.ref 55, .int ((I 55 2) - 6), xmk, xmk]) (st1 := [.int 15, .int ((I 55 2) - 6)]) (h1 := (124, I, J, R)) rfl ?_
  refine ev_go 4 (pc1 := 43) (lv1 := [.ref 55, .int ((I 55 2) - 6), .int (((I 55 2) - 6) / 15), xmk]) (st1 := [.int 15, .int ((I 55 2) - 6)]) (h1 := (124, I, J, R)) rfl ?_
  refine ev_go 4 (pc1 := 47) (lv1 := [.ref 55, .int ((I 55 2) - 6), .int (((I 55 2) - 6) / 15), .int (((I 55 2) - 6) - ((I 55 2) - 6) / 15 * 15)]) (st1 := [.int (((I 55 2) - 6) / 15), .ref 55]) (h1 := (124, I, J, R)) rfl ?_
  refine ev_call (v1 := (some (.long la))) (h1 := (124, I, J, R)) rfl rfl c1 ?_
  refine ev_go 1 (pc1 := 51) (lv1 := [.ref 55, .int ((I 55 2) - 6), .int (((I 55 2) - 6) / 15), .int (((I 55 2) - 6) - ((I 55 2) - 6) / 15 * 15)]) (st1 := [.int (((I 55 2) - 6) - ((I 55 2) - 6) / 15 * 15), .long la]) (h1 := (124, I, J, R)) rfl ?_
  refine ev_call (v1 := (some (.long wd))) (h1 := (124, I, J, R)) rfl rfl c2 ?_
  refine ev_go 4 (pc1 := 58) (lv1 := [.ref 55, .int ((I 55 2) - 6), .int (((I 55 2) - 6) / 15), .int (((I 55 2) - 6) - ((I 55 2) - 6) / 15 * 15)]) (st1 := [.int ((((I 55 2) - 6) / 15) + 1), .ref 55, .long wd]) (h1 := (124, I, J, R)) rfl ?_
  refine ev_call (v1 := (some (.long lb))) (h1 := (124, I, J, R)) rfl rfl c3 ?_
  refine ev_go 3 (pc1 := 65) (lv1 := [.ref 55, .int ((I 55 2) - 6), .int (((I 55 2) - 6) / 15), .int (((I 55 2) - 6) - ((I 55 2) - 6) / 15 * 15)]) (st1 := [.int (15 - (((I 55 2) - 6) - ((I 55 2) - 6) / 15 * 15)), .long lb, .long wd]) (h1 := (124, I, J, R)) rfl ?_
  refine ev_call (v1 := (some (.long tp))) (h1 := (124, I, J, R)) rfl rfl c4 ?_
  refine ev_go 3 (pc1 := 71) (lv1 := [.ref 55, .int ((I 55 2) - 6), .int (((I 55 2) - 6) / 15), .int (((I 55 2) - 6) - ((I 55 2) - 6) / 15 * 15)]) (st1 := [.int (wd + (lb * tp)).toInt32]) (h1 := (124, I, J, R)) rfl ?_
  exact ev_ret rfl rfl
theorem zj_run {L : Nat} {xs : Nat → Int32} {d : Nat} {I : Nat → Nat → Int32} {R : Nat → Nat → Nat} (hG : aGd R) {x : Int64} : ∀ (f kN : Nat) (k : Int32) (J : Nat → Nat → Int64), kN + f = 82 → k.toInt = kN → (∀ q, q < kN → J 56 q = x) →
    ∃ J', xEv L xs d 71 6 [.ref 56, .long x, xmk, .int k, .int 82] [] (124, I, J, R) none (124, I, J', R) ∧ (∀ c q, c ≠ 56 → J' c q = J c q) ∧ ∀ q, q < 82 → J' 56 q = x := by
  intro f
  induction f with
  | zero =>
    intro kN k J hk ek hJ
    exact ⟨J, zj_e hG (by omega), fun _ _ _ => rfl, fun q hq => hJ q (by omega)⟩
  | succ f ih =>
    intro kN k J hk ek hJ
    have eck := clamp_s (i := k) (by omega)
    have ekk : k.toNatClampNeg = kN := by omega
    have hk' : (k + 1).toInt = (kN + 1 : Nat) := by rw [i_add1 (by omega)]; omega
    obtain ⟨J', y1, y2, y3⟩ := ih (kN + 1) (k + 1) (uL J 56 kN x) (by omega) hk' (fun q hq => by
      by_cases e : q = kN
      · rw [e, uL_s]
      · rw [uL_n _ _ (fun z => e z.2)]
        exact hJ q (by omega))
    refine ⟨J', zj_l hG (by omega) (by omega) (by omega) (by rw [ekk]; exact y1), fun c q hc => ?_, y3⟩
    rw [y2 c q hc, uL_n _ _ (fun z => hc z.1)]
/-- the product in the class -/
def zrC (V : Int) (c : Nat) (I : Nat → Nat → Int32) (J : Nat → Nat → Int64) : Prop := ∃ u : Nat, (I 55 1).toInt = (u + 1 : Nat) ∧ u ≤ 80 ∧ (I 55 2).toInt = (3 * c : Nat) ∧ (∀ q, q < 82 → 0 ≤ (J 56 q).toInt ∧ (J 56 q).toInt < 1000000000000000) ∧ (∀ q, u + 1 ≤ q → q < 82 → (J 56 q).toInt = 0) ∧ sT 15 (fun q => (J 56 q).toInt) (u + 1) = V ∧ tn (15 * u) ≤ V ∧ V ≤ tn (3 * c)
theorem zs_run {L : Nat} {xs : Nat → Int32} {d : Nat} {I : Nat → Nat → Int32} {J : Nat → Nat → Int64} {R : Nat → Nat → Nat} (hG : aGd R) : ∃ I' J', xEv L xs (d + 1) 103 0 [.ref 55] [] (124, I, J, R) none (124, I', J', R) ∧ (∀ c q, c ≠ 55 → I' c q = I c q) ∧ zrC 1 0 I' J' := by
  obtain ⟨J1, x1, x2, x3⟩ := zj_run (L := L) (xs := xs) (d := d) (I := I) hG (x := 0) 82 0 0 J (by omega) (by decide) (fun q hq => absurd hq (by omega))
  have e0 : (0 : Int64).toInt = 0 := by decide
  have e1 : (1 : Int64).toInt = 1 := by decide
  refine ⟨_, _, zs_1 hG (zj_s hG x1), fun c q hc => by rw [uI_c _ _ _ hc, uI_c _ _ _ hc], 0, ?_, by omega, ?_, fun q hq => ?_, fun q h1 h2 => ?_, ?_, ?_, ?_⟩
  · rw [uI_n _ _ (by omega), uI_s]
    decide
  · rw [uI_s]
    decide
  · by_cases e : q = 0
    · rw [e, uL_s, e1]
      omega
    · rw [uL_n _ _ (fun z => e z.2), x3 q hq, e0]
      omega
  · rw [uL_n _ _ (by omega), x3 q h2, e0]
  · rw [show 0 + 1 = 1 from rfl, sT_1]
    show ((uL J1 56 0 1) 56 0).toInt = 1
    rw [uL_s, e1]
  · rw [Nat.mul_zero, tn_0]
    decide
  · rw [Nat.mul_zero, tn_0]
    decide
theorem zt_run {L : Nat} {xs : Nat → Int32} {d : Nat} {I : Nat → Nat → Int32} {R : Nat → Nat → Nat} (hG : aGd R) {b : Int32} {un : Nat} (hu : (I 55 1).toInt = un) (hu2 : un ≤ 82) (b0 : 0 ≤ b.toInt) (b1 : b.toInt ≤ 1000) (D : Nat → Int) : ∀ (f iN : Nat) (i : Int32) (cy : Int64) (w5 : Value) (J : Nat → Nat → Int64), iN + f = un → i.toInt = iN → 0 ≤ cy.toInt → cy.toInt ≤ 999 → (∀ q, q < 82 → 0 ≤ (J 56 q).toInt ∧ (J 56 q).toInt < 1000000000000000) → (∀ q, iN ≤ q → (J 56 q).toInt = D q) → sT 15 (fun q => (J 56 q).toInt) iN + cy.toInt * tn (15 * iN) = b.toInt * sT 15 D iN →
    ∃ (i' : Int32) (cy' : Int64) (w5' : Value) (J' : Nat → Nat → Int64), (∀ (v : Option Value) (h' : xH), xEv L xs d 104 23 [.ref 55, .int b, .long cy', xmk, .int i', w5', xmk] [] (124, I, J', R) v h' → xEv L xs d 104 23 [.ref 55, .int b, .long cy, xmk, .int i, w5, xmk] [] (124, I, J, R) v h') ∧ i'.toInt = un ∧ 0 ≤ cy'.toInt ∧ cy'.toInt ≤ 999 ∧ (∀ q, q < 82 → 0 ≤ (J' 56 q).toInt ∧ (J' 56 q).toInt < 1000000000000000) ∧ (∀ q, un ≤ q → (J' 56 q).toInt = D q) ∧ sT 15 (fun q => (J' 56 q).toInt) un + cy'.toInt * tn (15 * un) = b.toInt * sT 15 D un := by
  intro f
  induction f with
  | zero =>
    intro iN i cy w5 J hi ei c0 c1 hD hR hS
    have e : iN = un := by omega
    subst e
    exact ⟨i, cy, w5, J, fun _ _ z => z, ei, c0, c1, hD, hR, hS⟩
  | succ f ih =>
    intro iN i cy w5 J hi ei c0 c1 hD hR hS
    have eci := clamp_s (i := i) (by omega)
    have eii : i.toNatClampNeg = iN := by omega
    obtain ⟨x0, x1⟩ := hD iN (by omega)
    have hx := hR iN (Nat.le_refl _)
    have p0 := Int.mul_nonneg x0 b0
    have p1 := Int.mul_le_mul (show (J 56 iN).toInt ≤ 999999999999999 by omega) b1 b0 (by omega)
    have eb : b.toInt64.toInt = b.toInt := i2l_t b
    have ev : (((J 56 i.toNatClampNeg) * b.toInt64) + cy).toInt = (J 56 iN).toInt * b.toInt + cy.toInt := by
      rw [eii]
      have em : ((J 56 iN) * b.toInt64).toInt = (J 56 iN).toInt * b.toInt := by rw [l_mul (by rw [eb]; omega) (by rw [eb]; omega), eb]
      rw [l_add (by omega) (by omega), em]
    obtain ⟨vv, hvv⟩ : ∃ vv, (((J 56 i.toNatClampNeg) * b.toInt64) + cy) = vv := ⟨_, rfl⟩
    rw [hvv] at ev
    have hi' : (i + 1).toInt = (iN + 1 : Nat) := by rw [i_add1 (by omega)]; omega
    have eq := l_div (x := vv) (y := 1000000000000000) (by omega) (by rw [k64_15]; decide)
    have er := l_rem (x := vv) (y := 1000000000000000) (by omega) (by rw [k64_15]; decide)
    rw [k64_15] at eq er
    obtain ⟨qq, hqq⟩ : ∃ qq, vv / 1000000000000000 = qq := ⟨_, rfl⟩
    obtain ⟨rr, hrr⟩ : ∃ rr, vv - vv / 1000000000000000 * 1000000000000000 = rr := ⟨_, rfl⟩
    rw [hqq] at eq
    rw [hrr] at er
    obtain ⟨i', cy', w5', J', y1, y2, y3, y4, y5, y6, y7⟩ := ih (iN + 1) (i + 1) qq (.long vv) (uL J 56 iN rr) (by omega) hi' (by omega) (by omega) (fun q hq => by
        by_cases e : q = iN
        · rw [e, uL_s]
          omega
        · rw [uL_n _ _ (fun z => e z.2)]
          exact hD q hq) (fun q hq => by
        rw [uL_n _ _ (by omega)]
        exact hR q (by omega)) (by
        have e1 : sT 15 (fun q => ((uL J 56 iN rr) 56 q).toInt) iN = sT 15 (fun q => (J 56 q).toInt) iN := sT_c _ (fun q hq => by
          show ((uL J 56 iN rr) 56 q).toInt = _
          rw [uL_n _ _ (by omega)])
        rw [sT_s, sT_s, e1, tn_s, ← hx]
        show _ + ((uL J 56 iN rr) 56 iN).toInt * _ + _ = _
        rw [uL_s]
        refine sm_st hS ?_
        rw [tn_15]
        omega)
    refine ⟨i', cy', w5', J', fun v h z => zt_l hG (by omega) (by omega) (by omega) (by omega) (by omega) (by omega) ?_, y2, y3, y4, y5, y6, y7⟩
    rw [hvv, eii, hrr, hqq]
    exact y1 v h z

