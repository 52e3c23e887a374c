set_option maxRecDepth 20000 in
theorem la_0 {L : Nat} {xs : Nat → Int32} {d : Nat} {I : Nat → Nat → Int32} {J : Nat → Nat → Int64} {R : Nat → Nat → Nat} {I1 : Nat → Nat → Int32} {J1 : Nat → Nat → Int64} {R1 : Nat → Nat → Nat} {I2 : Nat → Nat → Int32} {J2 : Nat → Nat → Int64} {R2 : Nat → Nat → Nat} {i r1 r2 : Int32} (hG : aGd R) (hL : L < 2147483648) (b1 : i.toInt ≤ ((Int32.ofNat L) - 7).toInt) (n1 : 0 ≤ i.toInt) (m1 : i.toInt < L) (b2 : ((xs i.toNatClampNeg) &&& 31).toInt = 0) (n2 : 0 ≤ (i + 1).toInt) (m2 : (i + 1).toInt < L) (n3 : 0 ≤ (i + 2).toInt) (m3 : (i + 2).toInt < L) (n4 : 0 ≤ (i + 3).toInt) (m4 : (i + 3).toInt < L) (n5 : 0 ≤ (i + 4).toInt) (m5 : (i + 4).toInt < L) (n6 : 0 ≤ (i + 5).toInt) (m6 : (i + 5).toInt < L) (c1 : xEv L xs d 14 0 [.ref 0, .int (xs (i + 1).toNatClampNeg), .int (xs (i + 2).toNatClampNeg), .int (xs (i + 3).toNatClampNeg), .int (xs (i + 4).toNatClampNeg), .int (xs (i + 5).toNatClampNeg)] [] (124, I, J, R) (some (.int r1)) (124, I1, J1, R1)) (hG1 : aGd R1) (n7 : 0 ≤ (i + 1).toInt) (m7 : (i + 1).toInt < L) (n8 : 0 ≤ (i + 2).toInt) (m8 : (i + 2).toInt < L) (n9 : 0 ≤ (i + 3).toInt) (m9 : (i + 3).toInt < L) (n10 : 0 ≤ (i + 4).toInt) (m10 : (i + 4).toInt < L) (n11 : 0 ≤ (i + 5).toInt) (m11 : (i + 5).toInt < L) (c2 : xEv L xs d 145 0 [.ref 86, .int (xs (i + 1).toNatClampNeg), .int (xs (i + 2).toNatClampNeg), .int (xs (i + 3).toNatClampNeg), .int (xs (i + 4).toNatClampNeg), .int (xs (i + 5).toNatClampNeg), xmk, xmk, xmk] [] (124, I1, J1, R1) (some (.int r2)) (124, I2, J2, R2)) (hG2 : aGd R2) {v : Option Value} {h' : xH} (hk : xEv L xs (d + 1) 0 18 [.retAddr 0, .ref 0, .ref 86, .int (i + 7)] [] (124, I2, J2, R2) v h') : xEv L xs (d + 1) 0 18 [.retAddr 0, .ref 0, .ref 86, .int i] [] (124, I, J, R) v h' := by
  refine ev_go 2 (pc1 := 20) (lv1 := [.retAddr 0, .ref 0, .ref 86, .int i]) (st1 := [.retAddr 0, .int i]) (h1 := (124, I, J, R)) rfl ?_
  refine ev_slen hL rfl rfl ?_
  refine ev_go 2 (pc1 := 24) (lv1 := [.retAddr 0, .ref 0, .ref 86, .int i]) (st1 := [.int ((Int32.ofNat L) - 7), .int i]) (h1 := (124, I, J, R)) rfl ?_
  refine ev_br (b1 := false) rfl rfl (xcd_ngt (x := i) (y := ((Int32.ofNat L) - 7)) (by first | exact b1 | omega)) ?_
  refine ev_go 2 (pc1 := 29) (lv1 := [.retAddr 0, .ref 0, .ref 86, .int i]) (st1 := [.int i, .retAddr 0]) (h1 := (124, I, J, R)) rfl ?_
  refine ev_sld hL rfl rfl n1 m1 ?_
  refine ev_go 2 (pc1 := 33) (lv1 := [.retAddr 0, .ref 0, .ref 86, .int i]) (st1 := [.int ((xs i.toNatClampNeg) &&& 31)]) (h1 := (124, I, J, R)) rfl ?_
  refine ev_tk (x := ((xs i.toNatClampNeg) &&& 31)) (z := 0) (t := 164) rfl rfl b2 (by decide) rfl rfl ?_
  refine ev_go 5 (pc1 := 169) (lv1 := [.retAddr 0, .ref 0, .ref 86, .int i]) (st1 := [.int (i + 1), .retAddr 0, .ref 0]) (h1 := (124, I, J, R)) rfl ?_
  refine ev_sld hL rfl rfl n2 m2 ?_
  refine ev_go 4 (pc1 := 174) (lv1 := [.retAddr 0, .ref 0, .ref 86, .int i]) (st1 := [.int (i + 2), .retAddr 0, .int (xs (i + 1).toNatClampNeg), .ref 0]) (h1 := (124, I, J, R)) rfl ?_
  refine ev_sld hL rfl rfl n3 m3 ?_
  refine ev_go 4 (pc1 := 179) (lv1 := [.retAddr 0, .ref 0, .ref 86, .int i]) (st1 := [.int (i + 3), .retAddr 0, .int (xs (i + 2).toNatClampNeg), .int (xs (i + 1).toNatClampNeg), .ref 0]) (h1 := (124, I, J, R)) rfl ?_
  refine ev_sld hL rfl rfl n4 m4 ?_
  refine ev_go 4 (pc1 := 184) (lv1 := [.retAddr 0, .ref 0, .ref 86, .int i]) (st1 := [.int (i + 4), .retAddr 0, .int (xs (i + 3).toNatClampNeg), .int (xs (i + 2).toNatClampNeg), .int (xs (i + 1).toNatClampNeg), .ref 0]) (h1 := (124, I, J, R)) rfl ?_
  refine ev_sld hL rfl rfl n5 m5 ?_
  refine ev_go 4 (pc1 := 189) (lv1 := [.retAddr 0, .ref 0, .ref 86, .int i]) (st1 := [.int (i + 5), .retAddr 0, .int (xs (i + 4).toNatClampNeg), .int (xs (i + 3).toNatClampNeg), .int (xs (i + 2).toNatClampNeg), .int (xs (i + 1).toNatClampNeg), .ref 0]) (h1 := (124, I, J, R)) rfl ?_
  refine ev_sld hL rfl rfl n6 m6 ?_
  refine ev_call (v1 := (some (.int r1))) (h1 := (124, I1, J1, R1)) rfl rfl c1 ?_
  refine ev_go 6 (pc1 := 199) (lv1 := [.retAddr 0, .ref 0, .ref 86, .int i]) (st1 := [.int (i + 1), .retAddr 0, .ref 86]) (h1 := (124, I1, J1, R1)) rfl ?_
  refine ev_sld hL rfl rfl n7 m7 ?_
  refine ev_go 4 (pc1 := 204) (lv1 := [.retAddr 0, .ref 0, .ref 86, .int i]) (st1 := [.int (i + 2), .retAddr 0, .int (xs (i + 1).toNatClampNeg), .ref 86]) (h1 := (124, I1, J1, R1)) rfl ?_
  refine ev_sld hL rfl rfl n8 m8 ?_
  refine ev_go 4 (pc1 := 209) (lv1 := [.retAddr 0, .ref 0, .ref 86, .int i]) (st1 := [.int (i + 3), .retAddr 0, .int (xs (i + 2).toNatClampNeg), .int (xs (i + 1).toNatClampNeg), .ref 86]) (h1 := (124, I1, J1, R1)) rfl ?_
  refine ev_sld hL rfl rfl n9 m9 ?_
  refine ev_go 4 (pc1 := 214) (lv1 := [.retAddr 0, .ref 0, .ref 86, .int i]) (st1 := [.int (i + 4), .retAddr 0, .int (xs (i + 3).toNatClampNeg), .int (xs (i + 2).toNatClampNeg), .int (xs (i + 1).toNatClampNeg), .ref 86]) (h1 := (124, I1, J1, R1)) rfl ?_
  refine ev_sld hL rfl rfl n10 m10 ?_
  refine ev_go 4 (pc1 := 219) (lv1 := [.retAddr 0, .ref 0, .ref 86, .int i]) (st1 := [.int (i + 5), .retAddr 0, .int (xs (i + 4).toNatClampNeg), .int (xs (i + 3).toNatClampNeg), .int (xs (i + 2).toNatClampNeg), .int (xs (i + 1).toNatClampNeg), .ref 86]) (h1 := (124, I1, J1, R1)) rfl ?_
  refine ev_sld hL rfl rfl n11 m11 ?_
  refine ev_call (v1 := (some (.int r2))) (h1 := (124, I2, J2, R2)) rfl rfl c2 ?_
  refine ev_go 4 (pc1 := 18) (lv1 := [.retAddr 0, .ref 0, .ref 86, .int (i + 7)]) (st1 := []) (h1 := (124, I2, J2, R2)) rfl ?_
  exact hk
set_option maxRecDepth 20000 in
theorem la_1 {L : Nat} {xs : Nat → Int32} {d : Nat} {I : Nat → Nat → Int32} {J : Nat → Nat → Int64} {R : Nat → Nat → Nat} {I1 : Nat → Nat → Int32} {J1 : Nat → Nat → Int64} {R1 : Nat → Nat → Nat} {I2 : Nat → Nat → Int32} {J2 : Nat → Nat → Int64} {R2 : Nat → Nat → Nat} {i r1 r2 : Int32} (hG : aGd R) (hL : L < 2147483648) (b1 : i.toInt ≤ ((Int32.ofNat L) - 7).toInt) (n1 : 0 ≤ i.toInt) (m1 : i.toInt < L) (b2 : ((xs i.toNatClampNeg) &&& 31).toInt = 1) (n2 : 0 ≤ (i + 1).toInt) (m2 : (i + 1).toInt < L) (c1 : xEv L xs d 16 0 [.ref 0, .int (xs (i + 1).toNatClampNeg)] [] (124, I, J, R) (some (.int r1)) (124, I1, J1, R1)) (hG1 : aGd R1) (n3 : 0 ≤ (i + 1).toInt) (m3 : (i + 1).toInt < L) (c2 : xEv L xs d 146 0 [.ref 86, .int (xs (i + 1).toNatClampNeg)] [] (124, I1, J1, R1) (some (.int r2)) (124, I2, J2, R2)) (hG2 : aGd R2) {v : Option Value} {h' : xH} (hk : xEv L xs (d + 1) 0 18 [.retAddr 0, .ref 0, .ref 86, .int (i + 7)] [] (124, I2, J2, R2) v h') : xEv L xs (d + 1) 0 18 [.retAddr 0, .ref 0, .ref 86, .int i] [] (124, I, J, R) v h' := by
  refine ev_go 2 (pc1 := 20) (lv1 := [.retAddr 0, .ref 0, .ref 86, .int i]) (st1 := [.retAddr 0, .int i]) (h1 := (124, I, J, R)) rfl ?_
  refine ev_slen hL rfl rfl ?_
  refine ev_go 2 (pc1 := 24) (lv1 := [.retAddr 0, .ref 0, .ref 86, .int i]) (st1 := [.int ((Int32.ofNat L) - 7), .int i]) (h1 := (124, I, J, R)) rfl ?_
  refine ev_br (b1 := false) rfl rfl (xcd_ngt (x := i) (y := ((Int32.ofNat L) - 7)) (by first | exact b1 | omega)) ?_
  refine ev_go 2 (pc1 := 29) (lv1 := [.retAddr 0, .ref 0, .ref 86, .int i]) (st1 := [.int i, .retAddr 0]) (h1 := (124, I, J, R)) rfl ?_
  refine ev_sld hL rfl rfl n1 m1 ?_
  refine ev_go 2 (pc1 := 33) (lv1 := [.retAddr 0, .ref 0, .ref 86, .int i]) (st1 := [.int ((xs i.toNatClampNeg) &&& 31)]) (h1 := (124, I, J, R)) rfl ?_
  refine ev_tk (x := ((xs i.toNatClampNeg) &&& 31)) (z := 1) (t := 227) rfl rfl b2 (by decide) rfl rfl ?_
  refine ev_go 5 (pc1 := 232) (lv1 := [.retAddr 0, .ref 0, .ref 86, .int i]) (st1 := [.int (i + 1), .retAddr 0, .ref 0]) (h1 := (124, I, J, R)) rfl ?_
  refine ev_sld hL rfl rfl n2 m2 ?_
  refine ev_call (v1 := (some (.int r1))) (h1 := (124, I1, J1, R1)) rfl rfl c1 ?_
  refine ev_go 6 (pc1 := 242) (lv1 := [.retAddr 0, .ref 0, .ref 86, .int i]) (st1 := [.int (i + 1), .retAddr 0, .ref 86]) (h1 := (124, I1, J1, R1)) rfl ?_
  refine ev_sld hL rfl rfl n3 m3 ?_
  refine ev_call (v1 := (some (.int r2))) (h1 := (124, I2, J2, R2)) rfl rfl c2 ?_
  refine ev_go 4 (pc1 := 18) (lv1 := [.retAddr 0, .ref 0, .ref 86, .int (i + 7)]) (st1 := []) (h1 := (124, I2, J2, R2)) rfl ?_
  exact hk
set_option maxRecDepth 20000 in
theorem la_2 {L : Nat} {xs : Nat → Int32} {d : Nat} {I : Nat → Nat → Int32} {J : Nat → Nat → Int64} {R : Nat → Nat → Nat} {I1 : Nat → Nat → Int32} {J1 : Nat → Nat → Int64} {R1 : Nat → Nat → Nat} {I2 : Nat → Nat → Int32} {J2 : Nat → Nat → Int64} {R2 : Nat → Nat → Nat} {i r1 r2 : Int32} (hG : aGd R) (hL : L < 2147483648) (b1 : i.toInt ≤ ((Int32.ofNat L) - 7).toInt) (n1 : 0 ≤ i.toInt) (m1 : i.toInt < L) (b2 : ((xs i.toNatClampNeg) &&& 31).toInt = 2) (c1 : xEv L xs d 17 0 [.ref 0, xmk, xmk] [] (124, I, J, R) (some (.int r1)) (124, I1, J1, R1)) (hG1 : aGd R1) (c2 : xEv L xs d 148 0 [.ref 86, xmk] [] (124, I1, J1, R1) (some (.int r2)) (124, I2, J2, R2)) (hG2 : aGd R2) {v : Option Value} {h' : xH} (hk : xEv L xs (d + 1) 0 18 [.retAddr 0, .ref 0, .ref 86, .int (i + 7)] [] (124, I2, J2, R2) v h') : xEv L xs (d + 1) 0 18 [.retAddr 0, .ref 0, .ref 86, .int i] [] (124, I, J, R) v h' := by
  refine ev_go 2 (pc1 := 20) (lv1 := [.retAddr 0, .ref 0, .ref 86, .int i]) (st1 := [.retAddr 0, .int i]) (h1 := (124, I, J, R)) rfl ?_
  refine ev_slen hL rfl rfl ?_
  refine ev_go 2 (pc1 := 24) (lv1 := [.retAddr 0, .ref 0, .ref 86, .int i]) (st1 := [.int ((Int32.ofNat L) - 7), .int i]) (h1 := (124, I, J, R)) rfl ?_
  refine ev_br (b1 := false) rfl rfl (xcd_ngt (x := i) (y := ((Int32.ofNat L) - 7)) (by first | exact b1 | omega)) ?_
  refine ev_go 2 (pc1 := 29) (lv1 := [.retAddr 0, .ref 0, .ref 86, .int i]) (st1 := [.int i, .retAddr 0]) (h1 := (124, I, J, R)) rfl ?_
  refine ev_sld hL rfl rfl n1 m1 ?_
  refine ev_go 2 (pc1 := 33) (lv1 := [.retAddr 0, .ref 0, .ref 86, .int i]) (st1 := [.int ((xs i.toNatClampNeg) &&& 31)]) (h1 := (124, I, J, R)) rfl ?_
  refine ev_tk (x := ((xs i.toNatClampNeg) &&& 31)) (z := 2) (t := 250) rfl rfl b2 (by decide) rfl rfl ?_
  refine ev_go 1 (pc1 := 251) (lv1 := [.retAddr 0, .ref 0, .ref 86, .int i]) (st1 := [.ref 0]) (h1 := (124, I, J, R)) rfl ?_
  refine ev_call (v1 := (some (.int r1))) (h1 := (124, I1, J1, R1)) rfl rfl c1 ?_
  refine ev_go 2 (pc1 := 256) (lv1 := [.retAddr 0, .ref 0, .ref 86, .int i]) (st1 := [.ref 86]) (h1 := (124, I1, J1, R1)) rfl ?_
  refine ev_call (v1 := (some (.int r2))) (h1 := (124, I2, J2, R2)) rfl rfl c2 ?_
  refine ev_go 4 (pc1 := 18) (lv1 := [.retAddr 0, .ref 0, .ref 86, .int (i + 7)]) (st1 := []) (h1 := (124, I2, J2, R2)) rfl ?_
  exact hk
set_option maxRecDepth 20000 in
theorem la_3 {L : Nat} {xs : Nat → Int32} {d : Nat} {I : Nat → Nat → Int32} {J : Nat → Nat → Int64} {R : Nat → Nat → Nat} {I1 : Nat → Nat → Int32} {J1 : Nat → Nat → Int64} {R1 : Nat → Nat → Nat} {I2 : Nat → Nat → Int32} {J2 : Nat → Nat → Int64} {R2 : Nat → Nat → Nat} {i r1 r2 : Int32} (hG : aGd R) (hL : L < 2147483648) (b1 : i.toInt ≤ ((Int32.ofNat L) - 7).toInt) (n1 : 0 ≤ i.toInt) (m1 : i.toInt < L) (b2 : ((xs i.toNatClampNeg) &&& 31).toInt = 3) (n2 : 0 ≤ (i + 1).toInt) (m2 : (i + 1).toInt < L) (c1 : xEv L xs d 47 0 [.ref 0, .int (xs (i + 1).toNatClampNeg)] [] (124, I, J, R) (some (.int r1)) (124, I1, J1, R1)) (hG1 : aGd R1) (n3 : 0 ≤ (i + 1).toInt) (m3 : (i + 1).toInt < L) (c2 : xEv L xs d 147 0 [.ref 86, .int (xs (i + 1).toNatClampNeg)] [] (124, I1, J1, R1) (some (.int r2)) (124, I2, J2, R2)) (hG2 : aGd R2) {v : Option Value} {h' : xH} (hk : xEv L xs (d + 1) 0 18 [.retAddr 0, .ref 0, .ref 86, .int (i + 7)] [] (124, I2, J2, R2) v h') : xEv L xs (d + 1) 0 18 [.retAddr 0, .ref 0, .ref 86, .int i] [] (124, I, J, R) v h' := by
  refine ev_go 2 (pc1 := 20) (lv1 := [.retAddr 0, .ref 0, .ref 86, .int i]) (st1 := [.retAddr 0, .int i]) (h1 := (124, I, J, R)) rfl ?_
  refine ev_slen hL rfl rfl ?_
  refine ev_go 2 (pc1 := 24) (lv1 := [.retAddr 0, .ref 0, .ref 86, .int i]) (st1 := [.int ((Int32.ofNat L) - 7), .int i]) (h1 := (124, I, J, R)) rfl ?_
  refine ev_br (b1 := false) rfl rfl (xcd_ngt (x := i) (y := ((Int32.ofNat L) - 7)) (by first | exact b1 | omega)) ?_
  refine ev_go 2 (pc1 := 29) (lv1 := [.retAddr 0, .ref 0, .ref 86, .int i]) (st1 := [.int i, .retAddr 0]) (h1 := (124, I, J, R)) rfl ?_
  refine ev_sld hL rfl rfl n1 m1 ?_
  refine ev_go 2 (pc1 := 33) (lv1 := [.retAddr 0, .ref 0, .ref 86, .int i]) (st1 := [.int ((xs i.toNatClampNeg) &&& 31)]) (h1 := (124, I, J, R)) rfl ?_
  refine ev_tk (x := ((xs i.toNatClampNeg) &&& 31)) (z := 3) (t := 263) rfl rfl b2 (by decide) rfl rfl ?_
  refine ev_go 5 (pc1 := 268) (lv1 := [.retAddr 0, .ref 0, .ref 86, .int i]) (st1 := [.int (i + 1), .retAddr 0, .ref 0]) (h1 := (124, I, J, R)) rfl ?_
  refine ev_sld hL rfl rfl n2 m2 ?_
  refine ev_call (v1 := (some (.int r1))) (h1 := (124, I1, J1, R1)) rfl rfl c1 ?_
  refine ev_go 6 (pc1 := 278) (lv1 := [.retAddr 0, .ref 0, .ref 86, .int i]) (st1 := [.int (i + 1), .retAddr 0, .ref 86]) (h1 := (124, I1, J1, R1)) rfl ?_
  refine ev_sld hL rfl rfl n3 m3 ?_
  refine ev_call (v1 := (some (.int r2))) (h1 := (124, I2, J2, R2)) rfl rfl c2 ?_
  refine ev_go 4 (pc1 := 18) (lv1 := [.retAddr 0, .ref 0, .ref 86, .int (i + 7)]) (st1 := []) (h1 := (124, I2, J2, R2)) rfl ?_
  exact hk
set_option maxRecDepth 20000 in
theorem la_4 {L : Nat} {xs : Nat → Int32} {d : Nat} {I : Nat → Nat → Int32} {J : Nat → Nat → Int64} {R : Nat → Nat → Nat} {I1 : Nat → Nat → Int32} {J1 : Nat → Nat → Int64} {R1 : Nat → Nat → Nat} {I2 : Nat → Nat → Int32} {J2 : Nat → Nat → Int64} {R2 : Nat → Nat → Nat} {i r1 r2 : Int32} (hG : aGd R) (hL : L < 2147483648) (b1 : i.toInt ≤ ((Int32.ofNat L) - 7).toInt) (n1 : 0 ≤ i.toInt) (m1 : i.toInt < L) (b2 : ((xs i.toNatClampNeg) &&& 31).toInt = 4) (n2 : 0 ≤ (i + 1).toInt) (m2 : (i + 1).toInt < L) (c1 : xEv L xs d 48 0 [.ref 0, .int (xs (i + 1).toNatClampNeg), xmk] [] (124, I, J, R) (some (.int r1)) (124, I1, J1, R1)) (hG1 : aGd R1) (n3 : 0 ≤ (i + 1).toInt) (m3 : (i + 1).toInt < L) (c2 : xEv L xs d 166 0 [.ref 86, .int (xs (i + 1).toNatClampNeg), xmk] [] (124, I1, J1, R1) (some (.int r2)) (124, I2, J2, R2)) (hG2 : aGd R2) {v : Option Value} {h' : xH} (hk : xEv L xs (d + 1) 0 18 [.retAddr 0, .ref 0, .ref 86, .int (i + 7)] [] (124, I2, J2, R2) v h') : xEv L xs (d + 1) 0 18 [.retAddr 0, .ref 0, .ref 86, .int i] [] (124, I, J, R) v h' := by
  refine ev_go 2 (pc1 := 20) (lv1 := [.retAddr 0, .ref 0, .ref 86, .int i]) (st1 := [.retAddr 0, .int i]) (h1 := (124, I, J, R)) rfl ?_
  refine ev_slen hL rfl rfl ?_
  refine ev_go 2 (pc1 := 24) (lv1 := [.retAddr 0, .ref 0, .ref 86, .int i]) (st1 := [.int ((Int32.ofNat L) - 7), .int i]) (h1 := (124, I, J, R)) rfl ?_
  refine ev_br (b1 := false) rfl rfl (xcd_ngt (x := i) (y := ((Int32.ofNat L) - 7)) (by first | exact b1 | omega)) ?_
  refine ev_go 2 (pc1 := 29) (lv1 := [.retAddr 0, .ref 0, .ref 86, .int i]) (st1 := [.int i, .retAddr 0]) (h1 := (124, I, J, R)) rfl ?_
  refine ev_sld hL rfl rfl n1 m1 ?_
  refine ev_go 2 (pc1 := 33) (lv1 := [.retAddr 0, .ref 0, .ref 86, .int i]) (st1 := [.int ((xs i.toNatClampNeg) &&& 31)]) (h1 := (124, I, J, R)) rfl ?_
  refine ev_tk (x := ((xs i.toNatClampNeg) &&& 31)) (z := 4) (t := 286) rfl rfl b2 (by decide) rfl rfl ?_
  refine ev_go 5 (pc1 := 291) (lv1 := [.retAddr 0, .ref 0, .ref 86, .int i]) (st1 := [.int (i + 1), .retAddr 0, .ref 0]) (h1 := (124, I, J, R)) rfl ?_
  refine ev_sld hL rfl rfl n2 m2 ?_
  refine ev_call (v1 := (some (.int r1))) (h1 := (124, I1, J1, R1)) rfl rfl c1 ?_
  refine ev_go 6 (pc1 := 301) (lv1 := [.retAddr 0, .ref 0, .ref 86, .int i]) (st1 := [.int (i + 1), .retAddr 0, .ref 86]) (h1 := (124, I1, J1, R1)) rfl ?_
  refine ev_sld hL rfl rfl n3 m3 ?_
  refine ev_call (v1 := (some (.int r2))) (h1 := (124, I2, J2, R2)) rfl rfl c2 ?_
  refine ev_go 4 (pc1 := 18) (lv1 := [.retAddr 0, .ref 0, .ref 86, .int (i + 7)]) (st1 := []) (h1 := (124, I2, J2, R2)) rfl ?_
  exact hk
set_option maxRecDepth 20000 in
theorem la_5 {L : Nat} {xs : Nat → Int32} {d : Nat} {I : Nat → Nat → Int32} {J : Nat → Nat → Int64} {R : Nat → Nat → Nat} {I1 : Nat → Nat → Int32} {J1 : Nat → Nat → Int64} {R1 : Nat → Nat → Nat} {I2 : Nat → Nat → Int32} {J2 : Nat → Nat → Int64} {R2 : Nat → Nat → Nat} {i r1 r2 : Int32} (hG : aGd R) (hL : L < 2147483648) (b1 : i.toInt ≤ ((Int32.ofNat L) - 7).toInt) (n1 : 0 ≤ i.toInt) (m1 : i.toInt < L) (b2 : ((xs i.toNatClampNeg) &&& 31).toInt = 5) (n2 : 0 ≤ (i + 1).toInt) (m2 : (i + 1).toInt < L) (n3 : 0 ≤ (i + 2).toInt) (m3 : (i + 2).toInt < L) (c1 : xEv L xs d 51 0 [.ref 0, .int (xs (i + 1).toNatClampNeg), .int (xs (i + 2).toNatClampNeg)] [] (124, I, J, R) (some (.int r1)) (124, I1, J1, R1)) (hG1 : aGd R1) (n4 : 0 ≤ (i + 1).toInt) (m4 : (i + 1).toInt < L) (n5 : 0 ≤ (i + 2).toInt) (m5 : (i + 2).toInt < L) (c2 : xEv L xs d 169 0 [.ref 86, .int (xs (i + 1).toNatClampNeg), .int (xs (i + 2).toNatClampNeg)] [] (124, I1, J1, R1) (some (.int r2)) (124, I2, J2, R2)) (hG2 : aGd R2) {v : Option Value} {h' : xH} (hk : xEv L xs (d + 1) 0 18 [.retAddr 0, .ref 0, .ref 86, .int (i + 7)] [] (124, I2, J2, R2) v h') : xEv L xs (d + 1) 0 18 [.retAddr 0, .ref 0, .ref 86, .int i] [] (124, I, J, R) v h' := by
  refine ev_go 2 (pc1 := 20) (lv1 := [.retAddr 0, .ref 0, .ref 86, .int i]) (st1 := [.retAddr 0, .int i]) (h1 := (124, I, J, R)) rfl ?_
  refine ev_slen hL rfl rfl ?_
  refine ev_go 2 (pc1 := 24) (lv1 := [.retAddr 0, .ref 0, .ref 86, .int i]) (st1 := [.int ((Int32.ofNat L) - 7), .int i]) (h1 := (124, I, J, R)) rfl ?_
  refine ev_br (b1 := false) rfl rfl (xcd_ngt (x := i) (y := ((Int32.ofNat L) - 7)) (by first | exact b1 | omega)) ?_
  refine ev_go 2 (pc1 := 29) (lv1 := [.retAddr 0, .ref 0, .ref 86, .int i]) (st1 := [.int i, .retAddr 0]) (h1 := (124, I, J, R)) rfl ?_
  refine ev_sld hL rfl rfl n1 m1 ?_
  refine ev_go 2 (pc1 := 33) (lv1 := [.retAddr 0, .ref 0, .ref 86, .int i]) (st1 := [.int ((xs i.toNatClampNeg) &&& 31)]) (h1 := (124, I, J, R)) rfl ?_
  refine ev_tk (x := ((xs i.toNatClampNeg) &&& 31)) (z := 5) (t := 309) rfl rfl b2 (by decide) rfl rfl ?_
  refine ev_go 5 (pc1 := 314) (lv1 := [.retAddr 0, .ref 0, .ref 86, .int i]) (st1 := [.int (i + 1), .retAddr 0, .ref 0]) (h1 := (124, I, J, R)) rfl ?_
  refine ev_sld hL rfl rfl n2 m2 ?_
  refine ev_go 4 (pc1 := 319) (lv1 := [.retAddr 0, .ref 0, .ref 86, .int i]) (st1 := [.int (i + 2), .retAddr 0, .int (xs (i + 1).toNatClampNeg), .ref 0]) (h1 := (124, I, J, R)) rfl ?_
  refine ev_sld hL rfl rfl n3 m3 ?_
  refine ev_call (v1 := (some (.int r1))) (h1 := (124, I1, J1, R1)) rfl rfl c1 ?_
  refine ev_go 6 (pc1 := 329) (lv1 := [.retAddr 0, .ref 0, .ref 86, .int i]) (st1 := [.int (i + 1), .retAddr 0, .ref 86]) (h1 := (124, I1, J1, R1)) rfl ?_
  refine ev_sld hL rfl rfl n4 m4 ?_
  refine ev_go 4 (pc1 := 334) (lv1 := [.retAddr 0, .ref 0, .ref 86, .int i]) (st1 := [.int (i + 2), .retAddr 0, .int (xs (i + 1).toNatClampNeg), .ref 86]) (h1 := (124, I1, J1, R1)) rfl ?_
  refine ev_sld hL rfl rfl n5 m5 ?_
  refine ev_call (v1 := (some (.int r2))) (h1 := (124, I2, J2, R2)) rfl rfl c2 ?_
  refine ev_go 4 (pc1 := 18) (lv1 := [.retAddr 0, .ref 0, .ref 86, .int (i + 7)]) (st1 := []) (h1 := (124, I2, J2, R2)) rfl ?_
  exact hk
set_option maxRecDepth 20000 in
theorem la_6 {L : Nat} {xs : Nat → Int32} {d : Nat} {I : Nat → Nat → Int32} {J : Nat → Nat → Int64} {R : Nat → Nat → Nat} {I1 : Nat → Nat → Int32} {J1 : Nat → Nat → Int64} {R1 : Nat → Nat → Nat} {I2 : Nat → Nat → Int32} {J2 : Nat → Nat → Int64} {R2 : Nat → Nat → Nat} {i r1 r2 : Int32} (hG : aGd R) (hL : L < 2147483648) (b1 : i.toInt ≤ ((Int32.ofNat L) - 7).toInt) (n1 : 0 ≤ i.toInt) (m1 : i.toInt < L) (b2 : ((xs i.toNatClampNeg) &&& 31).toInt = 6) (n2 : 0 ≤ (i + 1).toInt) (m2 : (i + 1).toInt < L) (n3 : 0 ≤ (i + 2).toInt) (m3 : (i + 2).toInt < L) (c1 : xEv L xs d 52 0 [.ref 0, .int (xs (i + 1).toNatClampNeg), .int (xs (i + 2).toNatClampNeg)] [] (124, I, J, R) (some (.int r1)) (124, I1, J1, R1)) (hG1 : aGd R1) (n4 : 0 ≤ (i + 1).toInt) (m4 : (i + 1).toInt < L) (n5 : 0 ≤ (i + 2).toInt) (m5 : (i + 2).toInt < L) (c2 : xEv L xs d 170 0 [.ref 86, .int (xs (i + 1).toNatClampNeg), .int (xs (i + 2).toNatClampNeg)] [] (124, I1, J1, R1) (some (.int r2)) (124, I2, J2, R2)) (hG2 : aGd R2) {v : Option Value} {h' : xH} (hk : xEv L xs (d + 1) 0 18 [.retAddr 0, .ref 0, .ref 86, .int (i + 7)] [] (124, I2, J2, R2) v h') : xEv L xs (d + 1) 0 18 [.retAddr 0, .ref 0, .ref 86, .int i] [] (124, I, J, R) v h' := by
  refine ev_go 2 (pc1 := 20) (lv1 := [.retAddr 0, .ref 0, .ref 86, .int i]) (st1 := [.retAddr 0, .int i]) (h1 := (124, I, J, R)) rfl ?_
  refine ev_slen hL rfl rfl ?_
  refine ev_go 2 (pc1 := 24) (lv1 := [.retAddr 0, .ref 0, .ref 86, .int i]) (st1 := [.int ((Int32.ofNat L) - 7), .int i]) (h1 := (124, I, J, R)) rfl ?_
  refine ev_br (b1 := false) rfl rfl (xcd_ngt (x := i) (y := ((Int32.ofNat L) - 7)) (by first | exact b1 | omega)) ?_
  refine ev_go 2 (pc1 := 29) (lv1 := [.retAddr 0, .ref 0, .ref 86, .int i]) (st1 := [.int i, .retAddr 0]) (h1 := (124, I, J, R)) rfl ?_
  refine ev_sld hL rfl rfl n1 m1 ?_
  refine ev_go 2 (pc1 := 33) (lv1 := [.retAddr 0, .ref 0, .ref 86, .int i]) (st1 := [.int ((xs i.toNatClampNeg) &&& 31)]) (h1 := (124, I, J, R)) rfl ?_
  refine ev_tk (x := ((xs i.toNatClampNeg) &&& 31)) (z := 6) (t := 342) rfl rfl b2 (by decide) rfl rfl ?_
  refine ev_go 5 (pc1 := 347) (lv1 := [.retAddr 0, .ref 0, .ref 86, .int i]) (st1 := [.int (i + 1), .retAddr 0, .ref 0]) (h1 := (124, I, J, R)) rfl ?_
  refine ev_sld hL rfl rfl n2 m2 ?_
  refine ev_go 4 (pc1 := 352) (lv1 := [.retAddr 0, .ref 0, .ref 86, .int i]) (st1 := [.int (i + 2), .retAddr 0, .int (xs (i + 1).toNatClampNeg), .ref 0]) (h1 := (124, I, J, R)) rfl ?_
  refine ev_sld hL rfl rfl n3 m3 ?_
  refine ev_call (v1 := (some (.int r1))) (h1 := (124, I1, J1, R1)) rfl rfl c1 ?_
  refine ev_go 6 (pc1 := 362) (lv1 := [.retAddr 0, .ref 0, .ref 86, .int i]) (st1 := [.int (i + 1), .retAddr 0, .ref 86]) (h1 := (124, I1, J1, R1)) rfl ?_
  refine ev_sld hL rfl rfl n4 m4 ?_
  refine ev_go 4 (pc1 := 367) (lv1 := [.retAddr 0, .ref 0, .ref 86, .int i]) (st1 := [.int (i + 2), .retAddr 0, .int (xs (i + 1).toNatClampNeg), .ref 86]) (h1 := (124, I1, J1, R1)) rfl ?_
  refine ev_sld hL rfl rfl n5 m5 ?_
  refine ev_call (v1 := (some (.int r2))) (h1 := (124, I2, J2, R2)) rfl rfl c2 ?_
  refine ev_go 4 (pc1 := 18) (lv1 := [.retAddr 0, .ref 0, .ref 86, .int (i + 7)]) (st1 := []) (h1 := (124, I2, J2, R2)) rfl ?_
  exact hk
set_option maxRecDepth 20000 in
theorem la_7 {L : Nat} {xs : Nat → Int32} {d : Nat} {I : Nat → Nat → Int32} {J : Nat → Nat → Int64} {R : Nat → Nat → Nat} {I1 : Nat → Nat → Int32} {J1 : Nat → Nat → Int64} {R1 : Nat → Nat → Nat} {I2 : Nat → Nat → Int32} {J2 : Nat → Nat → Int64} {R2 : Nat → Nat → Nat} {i r1 r2 : Int32} (hG : aGd R) (hL : L < 2147483648) (b1 : i.toInt ≤ ((Int32.ofNat L) - 7).toInt) (n1 : 0 ≤ i.toInt) (m1 : i.toInt < L) (b2 : ((xs i.toNatClampNeg) &&& 31).toInt = 7) (c1 : xEv L xs d 53 0 [.ref 0, xmk] [] (124, I, J, R) (some (.int r1)) (124, I1, J1, R1)) (hG1 : aGd R1) (c2 : xEv L xs d 172 0 [.ref 86, xmk, xmk] [] (124, I1, J1, R1) (some (.int r2)) (124, I2, J2, R2)) (hG2 : aGd R2) {v : Option Value} {h' : xH} (hk : xEv L xs (d + 1) 0 18 [.retAddr 0, .ref 0, .ref 86, .int (i + 7)] [] (124, I2, J2, R2) v h') : xEv L xs (d + 1) 0 18 [.retAddr 0, .ref 0, .ref 86, .int i] [] (124, I, J, R) v h' := by
  refine ev_go 2 (pc1 := 20) (lv1 := [.retAddr 0, .ref 0, .ref 86, .int i]) (st1 := [.retAddr 0, .int i]) (h1 := (124, I, J, R)) rfl ?_
  refine ev_slen hL rfl rfl ?_
  refine ev_go 2 (pc1 := 24) (lv1 := [.retAddr 0, .ref 0, .ref 86, .int i]) (st1 := [.int ((Int32.ofNat L) - 7), .int i]) (h1 := (124, I, J, R)) rfl ?_
  refine ev_br (b1 := false) rfl rfl (xcd_ngt (x := i) (y := ((Int32.ofNat L) - 7)) (by first | exact b1 | omega)) ?_
  refine ev_go 2 (pc1 := 29) (lv1 := [.retAddr 0, .ref 0, .ref 86, .int i]) (st1 := [.int i, .retAddr 0]) (h1 := (124, I, J, R)) rfl ?_
  refine ev_sld hL rfl rfl n1 m1 ?_
  refine ev_go 2 (pc1 := 33) (lv1 := [.retAddr 0, .ref 0, .ref 86, .int i]) (st1 := [.int ((xs i.toNatClampNeg) &&& 31)]) (h1 := (124, I, J, R)) rfl ?_
  refine ev_tk (x := ((xs i.toNatClampNeg) &&& 31)) (z := 7) (t := 375) rfl rfl b2 (by decide) rfl rfl ?_
  refine ev_go 1 (pc1 := 376) (lv1 := [.retAddr 0, .ref 0, .ref 86, .int i]) (st1 := [.ref 0]) (h1 := (124, I, J, R)) rfl ?_
  refine ev_call (v1 := (some (.int r1))) (h1 := (124, I1, J1, R1)) rfl rfl c1 ?_
  refine ev_go 2 (pc1 := 381) (lv1 := [.retAddr 0, .ref 0, .ref 86, .int i]) (st1 := [.ref 86]) (h1 := (124, I1, J1, R1)) rfl ?_
  refine ev_call (v1 := (some (.int r2))) (h1 := (124, I2, J2, R2)) rfl rfl c2 ?_
  refine ev_go 4 (pc1 := 18) (lv1 := [.retAddr 0, .ref 0, .ref 86, .int (i + 7)]) (st1 := []) (h1 := (124, I2, J2, R2)) rfl ?_
  exact hk
set_option maxRecDepth 20000 in
theorem la_8 {L : Nat} {xs : Nat → Int32} {d : Nat} {I : Nat → Nat → Int32} {J : Nat → Nat → Int64} {R : Nat → Nat → Nat} {I1 : Nat → Nat → Int32} {J1 : Nat → Nat → Int64} {R1 : Nat → Nat → Nat} {I2 : Nat → Nat → Int32} {J2 : Nat → Nat → Int64} {R2 : Nat → Nat → Nat} {i r1 r2 : Int32} (hG : aGd R) (hL : L < 2147483648) (b1 : i.toInt ≤ ((Int32.ofNat L) - 7).toInt) (n1 : 0 ≤ i.toInt) (m1 : i.toInt < L) (b2 : ((xs i.toNatClampNeg) &&& 31).toInt = 8) (n2 : 0 ≤ (i + 1).toInt) (m2 : (i + 1).toInt < L) (n3 : 0 ≤ (i + 2).toInt) (m3 : (i + 2).toInt < L) (c1 : xEv L xs d 62 0 [.ref 0, .int (xs (i + 1).toNatClampNeg), .int (xs (i + 2).toNatClampNeg)] [] (124, I, J, R) (some (.int r1)) (124, I1, J1, R1)) (hG1 : aGd R1) (n4 : 0 ≤ (i + 1).toInt) (m4 : (i + 1).toInt < L) (n5 : 0 ≤ (i + 2).toInt) (m5 : (i + 2).toInt < L) (c2 : xEv L xs d 181 0 [.ref 86, .int (xs (i + 1).toNatClampNeg), .int (xs (i + 2).toNatClampNeg)] [] (124, I1, J1, R1) (some (.int r2)) (124, I2, J2, R2)) (hG2 : aGd R2) {v : Option Value} {h' : xH} (hk : xEv L xs (d + 1) 0 18 [.retAddr 0, .ref 0, .ref 86, .int (i + 7)] [] (124, I2, J2, R2) v h') : xEv L xs (d + 1) 0 18 [.retAddr 0, .ref 0, .ref 86, .int i] [] (124, I, J, R) v h' := by
  refine ev_go 2 (pc1 := 20) (lv1 := [.retAddr 0, .ref 0, .ref 86, .int i]) (st1 := [.retAddr 0, .int i]) (h1 := (124, I, J, R)) rfl ?_
  refine ev_slen hL rfl rfl ?_
  refine ev_go 2 (pc1 := 24) (lv1 := [.retAddr 0, .ref 0, .ref 86, .int i]) (st1 := [.int ((Int32.ofNat L) - 7), .int i]) (h1 := (124, I, J, R)) rfl ?_
  refine ev_br (b1 := false) rfl rfl (xcd_ngt (x := i) (y := ((Int32.ofNat L) - 7)) (by first | exact b1 | omega)) ?_
  refine ev_go 2 (pc1 := 29) (lv1 := [.retAddr 0, .ref 0, .ref 86, .int i]) (st1 := [.int i, .retAddr 0]) (h1 := (124, I, J, R)) rfl ?_
  refine ev_sld hL rfl rfl n1 m1 ?_
  refine ev_go 2 (pc1 := 33) (lv1 := [.retAddr 0, .ref 0, .ref 86, .int i]) (st1 := [.int ((xs i.toNatClampNeg) &&& 31)]) (h1 := (124, I, J, R)) rfl ?_
  refine ev_tk (x := ((xs i.toNatClampNeg) &&& 31)) (z := 8) (t := 388) rfl rfl b2 (by decide) rfl rfl ?_
  refine ev_go 5 (pc1 := 393) (lv1 := [.retAddr 0, .ref 0, .ref 86, .int i]) (st1 := [.int (i + 1), .retAddr 0, .ref 0]) (h1 := (124, I, J, R)) rfl ?_
  refine ev_sld hL rfl rfl n2 m2 ?_
  refine ev_go 4 (pc1 := 398) (lv1 := [.retAddr 0, .ref 0, .ref 86, .int i]) (st1 := [.int (i + 2), .retAddr 0, .int (xs (i + 1).toNatClampNeg), .ref 0]) (h1 := (124, I, J, R)) rfl ?_
  refine ev_sld hL rfl rfl n3 m3 ?_
  refine ev_call (v1 := (some (.int r1))) (h1 := (124, I1, J1, R1)) rfl rfl c1 ?_
  refine ev_go 6 (pc1 := 408) (lv1 := [.retAddr 0, .ref 0, .ref 86, .int i]) (st1 := [.int (i + 1), .retAddr 0, .ref 86]) (h1 := (124, I1, J1, R1)) rfl ?_
  refine ev_sld hL rfl rfl n4 m4 ?_
  refine ev_go 4 (pc1 := 413) (lv1 := [.retAddr 0, .ref 0, .ref 86, .int i]) (st1 := [.int (i + 2), .retAddr 0, .int (xs (i + 1).toNatClampNeg), .ref 86]) (h1 := (124, I1, J1, R1)) rfl ?_
  refine ev_sld hL rfl rfl n5 m5 ?_
  refine ev_call (v1 := (some (.int r2))) (h1 := (124, I2, J2, R2)) rfl rfl c2 ?_
  refine ev_go 4 (pc1 := 18) (lv1 := [.retAddr 0, .ref 0, .ref 86, .int (i + 7)]) (st1 := []) (h1 := (124, I2, J2, R2)) rfl ?_
  exact hk
set_option maxRecDepth 20000 in
theorem la_9 {L : Nat} {xs : Nat → Int32} {d : Nat} {I : Nat → Nat → Int32} {J : Nat → Nat → Int64} {R : Nat → Nat → Nat} {I1 : Nat → Nat → Int32} {J1 : Nat → Nat → Int64} {R1 : Nat → Nat → Nat} {I2 : Nat → Nat → Int32} {J2 : Nat → Nat → Int64} {R2 : Nat → Nat → Nat} {i r1 r2 : Int32} (hG : aGd R) (hL : L < 2147483648) (b1 : i.toInt ≤ ((Int32.ofNat L) - 7).toInt) (n1 : 0 ≤ i.toInt) (m1 : i.toInt < L) (b2 : ((xs i.toNatClampNeg) &&& 31).toInt = 9) (n2 : 0 ≤ (i + 1).toInt) (m2 : (i + 1).toInt < L) (n3 : 0 ≤ (i + 2).toInt) (m3 : (i + 2).toInt < L) (n4 : 0 ≤ (i + 3).toInt) (m4 : (i + 3).toInt < L) (n5 : 0 ≤ (i + 4).toInt) (m5 : (i + 4).toInt < L) (c1 : xEv L xs d 63 0 [.ref 0, .int (xs (i + 1).toNatClampNeg), .int (xs (i + 2).toNatClampNeg), .int (xs (i + 3).toNatClampNeg), .int (xs (i + 4).toNatClampNeg)] [] (124, I, J, R) (some (.int r1)) (124, I1, J1, R1)) (hG1 : aGd R1) (n6 : 0 ≤ (i + 1).toInt) (m6 : (i + 1).toInt < L) (n7 : 0 ≤ (i + 2).toInt) (m7 : (i + 2).toInt < L) (n8 : 0 ≤ (i + 3).toInt) (m8 : (i + 3).toInt < L) (n9 : 0 ≤ (i + 4).toInt) (m9 : (i + 4).toInt < L) (c2 : xEv L xs d 182 0 [.ref 86, .int (xs (i + 1).toNatClampNeg), .int (xs (i + 2).toNatClampNeg), .int (xs (i + 3).toNatClampNeg), .int (xs (i + 4).toNatClampNeg), xmk] [] (124, I1, J1, R1) (some (.int r2)) (124, I2, J2, R2)) (hG2 : aGd R2) {v : Option Value} {h' : xH} (hk : xEv L xs (d + 1) 0 18 [.retAddr 0, .ref 0, .ref 86, .int (i + 7)] [] (124, I2, J2, R2) v h') : xEv L xs (d + 1) 0 18 [.retAddr 0, .ref 0, .ref 86, .int i] [] (124, I, J, R) v h' := by
  refine ev_go 2 (pc1 := 20) (lv1 := [.retAddr 0, .ref 0, .ref 86, .int i]) (st1 := [.retAddr 0, .int i]) (h1 := (124, I, J, R)) rfl ?_
  refine ev_slen hL rfl rfl ?_
  refine ev_go 2 (pc1 := 24) (lv1 := [.retAddr 0, .ref 0, .ref 86, .int i]) (st1 := [.int ((Int32.ofNat L) - 7), .int i]) (h1 := (124, I, J, R)) rfl ?_
  refine ev_br (b1 := false) rfl rfl (xcd_ngt (x := i) (y := ((Int32.ofNat L) - 7)) (by first | exact b1 | omega)) ?_
  refine ev_go 2 (pc1 := 29) (lv1 := [.retAddr 0, .ref 0, .ref 86, .int i]) (st1 := [.int i, .retAddr 0]) (h1 := (124, I, J, R)) rfl ?_
  refine ev_sld hL rfl rfl n1 m1 ?_
  refine ev_go 2 (pc1 := 33) (lv1 := [.retAddr 0, .ref 0, .ref 86, .int i]) (st1 := [.int ((xs i.toNatClampNeg) &&& 31)]) (h1 := (124, I, J, R)) rfl ?_
  refine ev_tk (x := ((xs i.toNatClampNeg) &&& 31)) (z := 9) (t := 421) rfl rfl b2 (by decide) rfl rfl ?_
  refine ev_go 5 (pc1 := 426) (lv1 := [.retAddr 0, .ref 0, .ref 86, .int i]) (st1 := [.int (i + 1), .retAddr 0, .ref 0]) (h1 := (124, I, J, R)) rfl ?_
  refine ev_sld hL rfl rfl n2 m2 ?_
  refine ev_go 4 (pc1 := 431) (lv1 := [.retAddr 0, .ref 0, .ref 86, .int i]) (st1 := [.int (i + 2), .retAddr 0, .int (xs (i + 1).toNatClampNeg), .ref 0]) (h1 := (124, I, J, R)) rfl ?_
  refine ev_sld hL rfl rfl n3 m3 ?_
  refine ev_go 4 (pc1 := 436) (lv1 := [.retAddr 0, .ref 0, .ref 86, .int i]) (st1 := [.int (i + 3), .retAddr 0, .int (xs (i + 2).toNatClampNeg), .int (xs (i + 1).toNatClampNeg), .ref 0]) (h1 := (124, I, J, R)) rfl ?_
  refine ev_sld hL rfl rfl n4 m4 ?_
  refine ev_go 4 (pc1 := 441) (lv1 := [.retAddr 0, .ref 0, .ref 86, .int i]) (st1 := [.int (i + 4), .retAddr 0, .int (xs (i + 3).toNatClampNeg), .int (xs (i + 2).toNatClampNeg), .int (xs (i + 1).toNatClampNeg), .ref 0]) (h1 := (124, I, J, R)) rfl ?_
  refine ev_sld hL rfl rfl n5 m5 ?_
  refine ev_call (v1 := (some (.int r1))) (h1 := (124, I1, J1, R1)) rfl rfl c1 ?_
  refine ev_go 6 (pc1 := 451) (lv1 := [.retAddr 0, .ref 0, .ref 86, .int i]) (st1 := [.int (i + 1), .retAddr 0, .ref 86]) (h1 := (124, I1, J1, R1)) rfl ?_
  refine ev_sld hL rfl rfl n6 m6 ?_
  refine ev_go 4 (pc1 := 456) (lv1 := [.retAddr 0, .ref 0, .ref 86, .int i]) (st1 := [.int (i + 2), .retAddr 0, .int (xs (i + 1).toNatClampNeg), .ref 86]) (h1 := (124, I1, J1, R1)) rfl ?_
  refine ev_sld hL rfl rfl n7 m7 ?_
  refine ev_go 4 (pc1 := 461) (lv1 := [.retAddr 0, .ref 0, .ref 86, .int i]) (st1 := [.int (i + 3), .retAddr 0, .int (xs (i + 2).toNatClampNeg), .int (xs (i + 1).toNatClampNeg), .ref 86]) (h1 := (124, I1, J1, R1)) rfl ?_
  refine ev_sld hL rfl rfl n8 m8 ?_
  refine ev_go 4 (pc1 := 466) (lv1 := [.retAddr 0, .ref 0, .ref 86, .int i]) (st1 := [.int (i + 4), .retAddr 0, .int (xs (i + 3).toNatClampNeg), .int (xs (i + 2).toNatClampNeg), .int (xs (i + 1).toNatClampNeg), .ref 86]) (h1 := (124, I1, J1, R1)) rfl ?_
  refine ev_sld hL rfl rfl n9 m9 ?_
  refine ev_call (v1 := (some (.int r2))) (h1 := (124, I2, J2, R2)) rfl rfl c2 ?_
  refine ev_go 4 (pc1 := 18) (lv1 := [.retAddr 0, .ref 0, .ref 86, .int (i + 7)]) (st1 := []) (h1 := (124, I2, J2, R2)) rfl ?_
  exact hk
set_option maxRecDepth 20000 in
theorem la_10 {L : Nat} {xs : Nat → Int32} {d : Nat} {I : Nat → Nat → Int32} {J : Nat → Nat → Int64} {R : Nat → Nat → Nat} {I1 : Nat → Nat → Int32} {J1 : Nat → Nat → Int64} {R1 : Nat → Nat → Nat} {I2 : Nat → Nat → Int32} {J2 : Nat → Nat → Int64} {R2 : Nat → Nat → Nat} {i r1 r2 : Int32} (hG : aGd R) (hL : L < 2147483648) (b1 : i.toInt ≤ ((Int32.ofNat L) - 7).toInt) (n1 : 0 ≤ i.toInt) (m1 : i.toInt < L) (b2 : ((xs i.toNatClampNeg) &&& 31).toInt = 10) (n2 : 0 ≤ (i + 1).toInt) (m2 : (i + 1).toInt < L) (n3 : 0 ≤ (i + 2).toInt) (m3 : (i + 2).toInt < L) (n4 : 0 ≤ (i + 3).toInt) (m4 : (i + 3).toInt < L) (n5 : 0 ≤ (i + 4).toInt) (m5 : (i + 4).toInt < L) (n6 : 0 ≤ (i + 5).toInt) (m6 : (i + 5).toInt < L) (n7 : 0 ≤ (i + 6).toInt) (m7 : (i + 6).toInt < L) (c1 : xEv L xs d 68 0 [.ref 0, .int (xs (i + 1).toNatClampNeg), .int (xs (i + 2).toNatClampNeg), .int (xs (i + 3).toNatClampNeg), .int (xs (i + 4).toNatClampNeg), .int (xs (i + 5).toNatClampNeg), .int (xs (i + 6).toNatClampNeg), xmk] [] (124, I, J, R) (some (.int r1)) (124, I1, J1, R1)) (hG1 : aGd R1) (n8 : 0 ≤ (i + 1).toInt) (m8 : (i + 1).toInt < L) (n9 : 0 ≤ (i + 2).toInt) (m9 : (i + 2).toInt < L) (n10 : 0 ≤ (i + 3).toInt) (m10 : (i + 3).toInt < L) (n11 : 0 ≤ (i + 4).toInt) (m11 : (i + 4).toInt < L) (n12 : 0 ≤ (i + 5).toInt) (m12 : (i + 5).toInt < L) (n13 : 0 ≤ (i + 6).toInt) (m13 : (i + 6).toInt < L) (c2 : xEv L xs d 188 0 [.ref 86, .int (xs (i + 1).toNatClampNeg), .int (xs (i + 2).toNatClampNeg), .int (xs (i + 3).toNatClampNeg), .int (xs (i + 4).toNatClampNeg), .int (xs (i + 5).toNatClampNeg), .int (xs (i + 6).toNatClampNeg)] [] (124, I1, J1, R1) (some (.int r2)) (124, I2, J2, R2)) (hG2 : aGd R2) {v : Option Value} {h' : xH} (hk : xEv L xs (d + 1) 0 18 [.retAddr 0, .ref 0, .ref 86, .int (i + 7)] [] (124, I2, J2, R2) v h') : xEv L xs (d + 1) 0 18 [.retAddr 0, .ref 0, .ref 86, .int i] [] (124, I, J, R) v h' := by
  refine ev_go 2 (pc1 := 20) (lv1 := [.retAddr 0, .ref 0, .ref 86, .int i]) (st1 := [.retAddr 0, .int i]) (h1 := (124, I, J, R)) rfl ?_
  refine ev_slen hL rfl rfl ?_
  refine ev_go 2 (pc1 := 24) (lv1 := [.retAddr 0, .ref 0, .ref 86, .int i]) (st1 := [.int ((Int32.ofNat L) - 7), .int i]) (h1 := (124, I, J, R)) rfl ?_
  refine ev_br (b1 := false) rfl rfl (xcd_ngt (x := i) (y := ((Int32.ofNat L) - 7)) (by first | exact b1 | omega)) ?_
  refine ev_go 2 (pc1 := 29) (lv1 := [.retAddr 0, .ref 0, .ref 86, .int i]) (st1 := [.int i, .retAddr 0]) (h1 := (124, I, J, R)) rfl ?_
  refine ev_sld hL rfl rfl n1 m1 ?_
  refine ev_go 2 (pc1 := 33) (lv1 := [.retAddr 0, .ref 0, .ref 86, .int i]) (st1 := [.int ((xs i.toNatClampNeg) &&& 31)]) (h1 := (124, I, J, R)) rfl ?_
  refine ev_tk (x := ((xs i.toNatClampNeg) &&& 31)) (z := 10) (t := 474) rfl rfl b2 (by decide) rfl rfl ?_
  refine ev_go 5 (pc1 := 479) (lv1 := [.retAddr 0, .ref 0, .ref 86, .int i]) (st1 := [.int (i + 1), .retAddr 0, .ref 0]) (h1 := (124, I, J, R)) rfl ?_
  refine ev_sld hL rfl rfl n2 m2 ?_
  refine ev_go 4 (pc1 := 484) (lv1 := [.retAddr 0, .ref 0, .ref 86, .int i]) (st1 := [.int (i + 2), .retAddr 0, .int (xs (i + 1).toNatClampNeg), .ref 0]) (h1 := (124, I, J, R)) rfl ?_
  refine ev_sld hL rfl rfl n3 m3 ?_
  refine ev_go 4 (pc1 := 489) (lv1 := [.retAddr 0, .ref 0, .ref 86, .int i]) (st1 := [.int (i + 3), .retAddr 0, .int (xs (i + 2).toNatClampNeg), .int (xs (i + 1).toNatClampNeg), .ref 0]) (h1 := (124, I, J, R)) rfl ?_
  refine ev_sld hL rfl rfl n4 m4 ?_
  refine ev_go 4 (pc1 := 494) (lv1 := [.retAddr 0, .ref 0, .ref 86, .int i]) (st1 := [.int (i + 4), .retAddr 0, .int (xs (i + 3).toNatClampNeg), .int (xs (i + 2).toNatClampNeg), .int (xs (i + 1).toNatClampNeg), .ref 0]) (h1 := (124, I, J, R)) rfl ?_
  refine ev_sld hL rfl rfl n5 m5 ?_
  refine ev_go 4 (pc1 := 499) (lv1 := [.retAddr 0, .ref 0, .ref 86, .int i]) (st1 := [.int (i + 5), .retAddr 0, .int (xs (i + 4).toNatClampNeg), .int (xs (i + 3).toNatClampNeg), .int (xs (i + 2).toNatClampNeg), .int (xs (i + 1).toNatClampNeg), .ref 0]) (h1 := (124, I, J, R)) rfl ?_
  refine ev_sld hL rfl rfl n6 m6 ?_
  refine ev_go 4 (pc1 := 505) (lv1 := [.retAddr 0, .ref 0, .ref 86, .int i]) (st1 := [.int (i + 6), .retAddr 0, .int (xs (i + 5).toNatClampNeg), .int (xs (i + 4).toNatClampNeg), .int (xs (i + 3).toNatClampNeg), .int (xs (i + 2).toNatClampNeg), .int (xs (i + 1).toNatClampNeg), .ref 0]) (h1 := (124, I, J, R)) rfl ?_
  refine ev_sld hL rfl rfl n7 m7 ?_
  refine ev_call (v1 := (some (.int r1))) (h1 := (124, I1, J1, R1)) rfl rfl c1 ?_
  refine ev_go 6 (pc1 := 515) (lv1 := [.retAddr 0, .ref 0, .ref 86, .int i]) (st1 := [.int (i + 1), .retAddr 0, .ref 86]) (h1 := (124, I1, J1, R1)) rfl ?_
  refine ev_sld hL rfl rfl n8 m8 ?_
  refine ev_go 4 (pc1 := 520) (lv1 := [.retAddr 0, .ref 0, .ref 86, .int i]) (st1 := [.int (i + 2), .retAddr 0, .int (xs (i + 1).toNatClampNeg), .ref 86]) (h1 := (124, I1, J1, R1)) rfl ?_
  refine ev_sld hL rfl rfl n9 m9 ?_
  refine ev_go 4 (pc1 := 525) (lv1 := [.retAddr 0, .ref 0, .ref 86, .int i]) (st1 := [.int (i + 3), .retAddr 0, .int (xs (i + 2).toNatClampNeg), .int (xs (i + 1).toNatClampNeg), .ref 86]) (h1 := (124, I1, J1, R1)) rfl ?_
  refine ev_sld hL rfl rfl n10 m10 ?_
  refine ev_go 4 (pc1 := 530) (lv1 := [.retAddr 0, .ref 0, .ref 86, .int i]) (st1 := [.int (i + 4), .retAddr 0, .int (xs (i + 3).toNatClampNeg), .int (xs (i + 2).toNatClampNeg), .int (xs (i + 1).toNatClampNeg), .ref 86]) (h1 := (124, I1, J1, R1)) rfl ?_
  refine ev_sld hL rfl rfl n11 m11 ?_
  refine ev_go 4 (pc1 := 535) (lv1 := [.retAddr 0, .ref 0, .ref 86, .int i]) (st1 := [.int (i + 5), .retAddr 0, .int (xs (i + 4).toNatClampNeg), .int (xs (i + 3).toNatClampNeg), .int (xs (i + 2).toNatClampNeg), .int (xs (i + 1).toNatClampNeg), .ref 86]) (h1 := (124, I1, J1, R1)) rfl ?_
  refine ev_sld hL rfl rfl n12 m12 ?_
  refine ev_go 4 (pc1 := 541) (lv1 := [.retAddr 0, .ref 0, .ref 86, .int i]) (st1 := [.int (i + 6), .retAddr 0, .int (xs (i + 5).toNatClampNeg), .int (xs (i + 4).toNatClampNeg), .int (xs (i + 3).toNatClampNeg), .int (xs (i + 2).toNatClampNeg), .int (xs (i + 1).toNatClampNeg), .ref 86]) (h1 := (124, I1, J1, R1)) rfl ?_
  refine ev_sld hL rfl rfl n13 m13 ?_
  refine ev_call (v1 := (some (.int r2))) (h1 := (124, I2, J2, R2)) rfl rfl c2 ?_
  refine ev_go 4 (pc1 := 18) (lv1 := [.retAddr 0, .ref 0, .ref 86, .int (i + 7)]) (st1 := []) (h1 := (124, I2, J2, R2)) rfl ?_
  exact hk
set_option maxRecDepth 20000 in
theorem la_11 {L : Nat} {xs : Nat → Int32} {d : Nat} {I : Nat → Nat → Int32} {J : Nat → Nat → Int64} {R : Nat → Nat → Nat} {I1 : Nat → Nat → Int32} {J1 : Nat → Nat → Int64} {R1 : Nat → Nat → Nat} {I2 : Nat → Nat → Int32} {J2 : Nat → Nat → Int64} {R2 : Nat → Nat → Nat} {i r1 r2 : Int32} (hG : aGd R) (hL : L < 2147483648) (b1 : i.toInt ≤ ((Int32.ofNat L) - 7).toInt) (n1 : 0 ≤ i.toInt) (m1 : i.toInt < L) (b2 : ((xs i.toNatClampNeg) &&& 31).toInt = 11) (n2 : 0 ≤ (i + 1).toInt) (m2 : (i + 1).toInt < L) (n3 : 0 ≤ (i + 2).toInt) (m3 : (i + 2).toInt < L) (n4 : 0 ≤ (i + 3).toInt) (m4 : (i + 3).toInt < L) (n5 : 0 ≤ (i + 4).toInt) (m5 : (i + 4).toInt < L) (c1 : xEv L xs d 82 0 [.ref 0, .int (xs (i + 1).toNatClampNeg), .int (xs (i + 2).toNatClampNeg), .int (xs (i + 3).toNatClampNeg), .int (xs (i + 4).toNatClampNeg), xmk, xmk, xmk] [] (124, I, J, R) (some (.int r1)) (124, I1, J1, R1)) (hG1 : aGd R1) (n6 : 0 ≤ (i + 1).toInt) (m6 : (i + 1).toInt < L) (n7 : 0 ≤ (i + 2).toInt) (m7 : (i + 2).toInt < L) (n8 : 0 ≤ (i + 3).toInt) (m8 : (i + 3).toInt < L) (n9 : 0 ≤ (i + 4).toInt) (m9 : (i + 4).toInt < L) (c2 : xEv L xs d 187 0 [.ref 86, .int (xs (i + 1).toNatClampNeg), .int (xs (i + 2).toNatClampNeg), .int (xs (i + 3).toNatClampNeg), .int (xs (i + 4).toNatClampNeg), xmk, xmk] [] (124, I1, J1, R1) (some (.int r2)) (124, I2, J2, R2)) (hG2 : aGd R2) {v : Option Value} {h' : xH} (hk : xEv L xs (d + 1) 0 18 [.retAddr 0, .ref 0, .ref 86, .int (i + 7)] [] (124, I2, J2, R2) v h') : xEv L xs (d + 1) 0 18 [.retAddr 0, .ref 0, .ref 86, .int i] [] (124, I, J, R) v h' := by
  refine ev_go 2 (pc1 := 20) (lv1 := [.retAddr 0, .ref 0, .ref 86, .int i]) (st1 := [.retAddr 0, .int i]) (h1 := (124, I, J, R)) rfl ?_
  refine ev_slen hL rfl rfl ?_
  refine ev_go 2 (pc1 := 24) (lv1 := [.retAddr 0, .ref 0, .ref 86, .int i]) (st1 := [.int ((Int32.ofNat L) - 7), .int i]) (h1 := (124, I, J, R)) rfl ?_
  refine ev_br (b1 := false) rfl rfl (xcd_ngt (x := i) (y := ((Int32.ofNat L) - 7)) (by first | exact b1 | omega)) ?_
  refine ev_go 2 (pc1 := 29) (lv1 := [.retAddr 0, .ref 0, .ref 86, .int i]) (st1 := [.int i, .retAddr 0]) (h1 := (124, I, J, R)) rfl ?_
  refine ev_sld hL rfl rfl n1 m1 ?_
  refine ev_go 2 (pc1 := 33) (lv1 := [.retAddr 0, .ref 0, .ref 86, .int i]) (st1 := [.int ((xs i.toNatClampNeg) &&& 31)]) (h1 := (124, I, J, R)) rfl ?_
  refine ev_tk (x := ((xs i.toNatClampNeg) &&& 31)) (z := 11) (t := 549) rfl rfl b2 (by decide) rfl rfl ?_
  refine ev_go 5 (pc1 := 554) (lv1 := [.retAddr 0, .ref 0, .ref 86, .int i]) (st1 := [.int (i + 1), .retAddr 0, .ref 0]) (h1 := (124, I, J, R)) rfl ?_
  refine ev_sld hL rfl rfl n2 m2 ?_
  refine ev_go 4 (pc1 := 559) (lv1 := [.retAddr 0, .ref 0, .ref 86, .int i]) (st1 := [.int (i + 2), .retAddr 0, .int (xs (i + 1).toNatClampNeg), .ref 0]) (h1 := (124, I, J, R)) rfl ?_
  refine ev_sld hL rfl rfl n3 m3 ?_
  refine ev_go 4 (pc1 := 564) (lv1 := [.retAddr 0, .ref 0, .ref 86, .int i]) (st1 := [.int (i + 3), .retAddr 0, .int (xs (i + 2).toNatClampNeg), .int (xs (i + 1).toNatClampNeg), .ref 0]) (h1 := (124, I, J, R)) rfl ?_
  refine ev_sld hL rfl rfl n4 m4 ?_
  refine ev_go 4 (pc1 := 569) (lv1 := [.retAddr 0, .ref 0, .ref 86, .int i]) (st1 := [.int (i + 4), .retAddr 0, .int (xs (i + 3).toNatClampNeg), .int (xs (i + 2).toNatClampNeg), .int (xs (i + 1).toNatClampNeg), .ref 0]) (h1 := (124, I, J, R)) rfl ?_
  refine ev_sld hL rfl rfl n5 m5 ?_
  refine ev_call (v1 := (some (.int r1))) (h1 := (124, I1, J1, R1)) rfl rfl c1 ?_
  refine ev_go 6 (pc1 := 579) (lv1 := [.retAddr 0, .ref 0, .ref 86, .int i]) (st1 := [.int (i + 1), .retAddr 0, .ref 86]) (h1 := (124, I1, J1, R1)) rfl ?_
  refine ev_sld hL rfl rfl n6 m6 ?_
  refine ev_go 4 (pc1 := 584) (lv1 := [.retAddr 0, .ref 0, .ref 86, .int i]) (st1 := [.int (i + 2), .retAddr 0, .int (xs (i + 1).toNatClampNeg), .ref 86]) (h1 := (124, I1, J1, R1)) rfl ?_
  refine ev_sld hL rfl rfl n7 m7 ?_
  refine ev_go 4 (pc1 := 589) (lv1 := [.retAddr 0, .ref 0, .ref 86, .int i]) (st1 := [.int (i + 3), .retAddr 0, .int (xs (i + 2).toNatClampNeg), .int (xs (i + 1).toNatClampNeg), .ref 86]) (h1 := (124, I1, J1, R1)) rfl ?_
  refine ev_sld hL rfl rfl n8 m8 ?_
  refine ev_go 4 (pc1 := 594) (lv1 := [.retAddr 0, .ref 0, .ref 86, .int i]) (st1 := [.int (i + 4), .retAddr 0, .int (xs (i + 3).toNatClampNeg), .int (xs (i + 2).toNatClampNeg), .int (xs (i + 1).toNatClampNeg), .ref 86]) (h1 := (124, I1, J1, R1)) rfl ?_
  refine ev_sld hL rfl rfl n9 m9 ?_
  refine ev_call (v1 := (some (.int r2))) (h1 := (124, I2, J2, R2)) rfl rfl c2 ?_
  refine ev_go 4 (pc1 := 18) (lv1 := [.retAddr 0, .ref 0, .ref 86, .int (i + 7)]) (st1 := []) (h1 := (124, I2, J2, R2)) rfl ?_
  exact hk
set_option maxRecDepth 20000 in
theorem la_12 {L : Nat} {xs : Nat → Int32} {d : Nat} {I : Nat → Nat → Int32} {J : Nat → Nat → Int64} {R : Nat → Nat → Nat} {I1 : Nat → Nat → Int32} {J1 : Nat → Nat → Int64} {R1 : Nat → Nat → Nat} {I2 : Nat → Nat → Int32} {J2 : Nat → Nat → Int64} {R2 : Nat → Nat → Nat} {i r1 r2 : Int32} (hG : aGd R) (hL : L < 2147483648) (b1 : i.toInt ≤ ((Int32.ofNat L) - 7).toInt) (n1 : 0 ≤ i.toInt) (m1 : i.toInt < L) (b2 : ((xs i.toNatClampNeg) &&& 31).toInt = 12) (n2 : 0 ≤ (i + 1).toInt) (m2 : (i + 1).toInt < L) (c1 : xEv L xs d 83 0 [.ref 0, .int (xs (i + 1).toNatClampNeg)] [] (124, I, J, R) (some (.int r1)) (124, I1, J1, R1)) (hG1 : aGd R1) (n3 : 0 ≤ (i + 1).toInt) (m3 : (i + 1).toInt < L) (c2 : xEv L xs d 198 0 [.ref 86, .int (xs (i + 1).toNatClampNeg)] [] (124, I1, J1, R1) (some (.int r2)) (124, I2, J2, R2)) (hG2 : aGd R2) {v : Option Value} {h' : xH} (hk : xEv L xs (d + 1) 0 18 [.retAddr 0, .ref 0, .ref 86, .int (i + 7)] [] (124, I2, J2, R2) v h') : xEv L xs (d + 1) 0 18 [.retAddr 0, .ref 0, .ref 86, .int i] [] (124, I, J, R) v h' := by
  refine ev_go 2 (pc1 := 20) (lv1 := [.retAddr 0, .ref 0, .ref 86, .int i]) (st1 := [.retAddr 0, .int i]) (h1 := (124, I, J, R)) rfl ?_
  refine ev_slen hL rfl rfl ?_
  refine ev_go 2 (pc1 := 24) (lv1 := [.retAddr 0, .ref 0, .ref 86, .int i]) (st1 := [.int ((Int32.ofNat L) - 7), .int i]) (h1 := (124, I, J, R)) rfl ?_
  refine ev_br (b1 := false) rfl rfl (xcd_ngt (x := i) (y := ((Int32.ofNat L) - 7)) (by first | exact b1 | omega)) ?_
  refine ev_go 2 (pc1 := 29) (lv1 := [.retAddr 0, .ref 0, .ref 86, .int i]) (st1 := [.int i, .retAddr 0]) (h1 := (124, I, J, R)) rfl ?_
  refine ev_sld hL rfl rfl n1 m1 ?_
  refine ev_go 2 (pc1 := 33) (lv1 := [.retAddr 0, .ref 0, .ref 86, .int i]) (st1 := [.int ((xs i.toNatClampNeg) &&& 31)]) (h1 := (124, I, J, R)) rfl ?_
  refine ev_tk (x := ((xs i.toNatClampNeg) &&& 31)) (z := 12) (t := 602) rfl rfl b2 (by decide) rfl rfl ?_
  refine ev_go 5 (pc1 := 607) (lv1 := [.retAddr 0, .ref 0, .ref 86, .int i]) (st1 := [.int (i + 1), .retAddr 0, .ref 0]) (h1 := (124, I, J, R)) rfl ?_
  refine ev_sld hL rfl rfl n2 m2 ?_
  refine ev_call (v1 := (some (.int r1))) (h1 := (124, I1, J1, R1)) rfl rfl c1 ?_
  refine ev_go 6 (pc1 := 617) (lv1 := [.retAddr 0, .ref 0, .ref 86, .int i]) (st1 := [.int (i + 1), .retAddr 0, .ref 86]) (h1 := (124, I1, J1, R1)) rfl ?_
  refine ev_sld hL rfl rfl n3 m3 ?_
  refine ev_call (v1 := (some (.int r2))) (h1 := (124, I2, J2, R2)) rfl rfl c2 ?_
  refine ev_go 4 (pc1 := 18) (lv1 := [.retAddr 0, .ref 0, .ref 86, .int (i + 7)]) (st1 := []) (h1 := (124, I2, J2, R2)) rfl ?_
  exact hk
set_option maxRecDepth 20000 in
theorem la_13 {L : Nat} {xs : Nat → Int32} {d : Nat} {I : Nat → Nat → Int32} {J : Nat → Nat → Int64} {R : Nat → Nat → Nat} {I1 : Nat → Nat → Int32} {J1 : Nat → Nat → Int64} {R1 : Nat → Nat → Nat} {I2 : Nat → Nat → Int32} {J2 : Nat → Nat → Int64} {R2 : Nat → Nat → Nat} {i r1 r2 : Int32} (hG : aGd R) (hL : L < 2147483648) (b1 : i.toInt ≤ ((Int32.ofNat L) - 7).toInt) (n1 : 0 ≤ i.toInt) (m1 : i.toInt < L) (b2 : ((xs i.toNatClampNeg) &&& 31).toInt = 13) (n2 : 0 ≤ (i + 1).toInt) (m2 : (i + 1).toInt < L) (n3 : 0 ≤ (i + 2).toInt) (m3 : (i + 2).toInt < L) (c1 : xEv L xs d 93 0 [.ref 0, .int (xs (i + 1).toNatClampNeg), .int (xs (i + 2).toNatClampNeg), xmk] [] (124, I, J, R) (some (.int r1)) (124, I1, J1, R1)) (hG1 : aGd R1) (n4 : 0 ≤ (i + 1).toInt) (m4 : (i + 1).toInt < L) (n5 : 0 ≤ (i + 2).toInt) (m5 : (i + 2).toInt < L) (c2 : xEv L xs d 208 0 [.ref 86, .int (xs (i + 1).toNatClampNeg), .int (xs (i + 2).toNatClampNeg), xmk, xmk, xmk, xmk, xmk] [] (124, I1, J1, R1) (some (.int r2)) (124, I2, J2, R2)) (hG2 : aGd R2) {v : Option Value} {h' : xH} (hk : xEv L xs (d + 1) 0 18 [.retAddr 0, .ref 0, .ref 86, .int (i + 7)] [] (124, I2, J2, R2) v h') : xEv L xs (d + 1) 0 18 [.retAddr 0, .ref 0, .ref 86, .int i] [] (124, I, J, R) v h' := by
  refine ev_go 2 (pc1 := 20) (lv1 := [.retAddr 0, .ref 0, .ref 86, .int i]) (st1 := [.retAddr 0, .int i]) (h1 := (124, I, J, R)) rfl ?_
  refine ev_slen hL rfl rfl ?_
  refine ev_go 2 (pc1 := 24) (lv1 := [.retAddr 0, .ref 0, .ref 86, .int i]) (st1 := [.int ((Int32.ofNat L) - 7), .int i]) (h1 := (124, I, J, R)) rfl ?_
  refine ev_br (b1 := false) rfl rfl (xcd_ngt (x := i) (y := ((Int32.ofNat L) - 7)) (by first | exact b1 | omega)) ?_
  refine ev_go 2 (pc1 := 29) (lv1 := [.retAddr 0, .ref 0, .ref 86, .int i]) (st1 := [.int i, .retAddr 0]) (h1 := (124, I, J, R)) rfl ?_
  refine ev_sld hL rfl rfl n1 m1 ?_
  refine ev_go 2 (pc1 := 33) (lv1 := [.retAddr 0, .ref 0, .ref 86, .int i]) (st1 := [.int ((xs i.toNatClampNeg) &&& 31)]) (h1 := (124, I, J, R)) rfl ?_
  refine ev_tk (x := ((xs i.toNatClampNeg) &&& 31)) (z := 13) (t := 625) rfl rfl b2 (by decide) rfl rfl ?_
  refine ev_go 5 (pc1 := 630) (lv1 := [.retAddr 0, .ref 0, .ref 86, .int i]) (st1 := [.int (i + 1), .retAddr 0, .ref 0]) (h1 := (124, I, J, R)) rfl ?_
  refine ev_sld hL rfl rfl n2 m2 ?_
  refine ev_go 4 (pc1 := 635) (lv1 := [.retAddr 0, .ref 0, .ref 86, .int i]) (st1 := [.int (i + 2), .retAddr 0, .int (xs (i + 1).toNatClampNeg), .ref 0]) (h1 := (124, I, J, R)) rfl ?_
  refine ev_sld hL rfl rfl n3 m3 ?_
  refine ev_call (v1 := (some (.int r1))) (h1 := (124, I1, J1, R1)) rfl rfl c1 ?_
  refine ev_go 6 (pc1 := 645) (lv1 := [.retAddr 0, .ref 0, .ref 86, .int i]) (st1 := [.int (i + 1), .retAddr 0, .ref 86]) (h1 := (124, I1, J1, R1)) rfl ?_
  refine ev_sld hL rfl rfl n4 m4 ?_
  refine ev_go 4 (pc1 := 650) (lv1 := [.retAddr 0, .ref 0, .ref 86, .int i]) (st1 := [.int (i + 2), .retAddr 0, .int (xs (i + 1).toNatClampNeg), .ref 86]) (h1 := (124, I1, J1, R1)) rfl ?_
  refine ev_sld hL rfl rfl n5 m5 ?_
  refine ev_call (v1 := (some (.int r2))) (h1 := (124, I2, J2, R2)) rfl rfl c2 ?_
  refine ev_go 4 (pc1 := 18) (lv1 := [.retAddr 0, .ref 0, .ref 86, .int (i + 7)]) (st1 := []) (h1 := (124, I2, J2, R2)) rfl ?_
  exact hk
set_option maxRecDepth 20000 in
theorem la_14 {L : Nat} {xs : Nat → Int32} {d : Nat} {I : Nat → Nat → Int32} {J : Nat → Nat → Int64} {R : Nat → Nat → Nat} {I1 : Nat → Nat → Int32} {J1 : Nat → Nat → Int64} {R1 : Nat → Nat → Nat} {I2 : Nat → Nat → Int32} {J2 : Nat → Nat → Int64} {R2 : Nat → Nat → Nat} {i r1 r2 : Int32} (hG : aGd R) (hL : L < 2147483648) (b1 : i.toInt ≤ ((Int32.ofNat L) - 7).toInt) (n1 : 0 ≤ i.toInt) (m1 : i.toInt < L) (b2 : ((xs i.toNatClampNeg) &&& 31).toInt = 14) (n2 : 0 ≤ (i + 1).toInt) (m2 : (i + 1).toInt < L) (c1 : xEv L xs d 95 0 [.ref 0, .int (xs (i + 1).toNatClampNeg), xmk] [] (124, I, J, R) (some (.int r1)) (124, I1, J1, R1)) (hG1 : aGd R1) (n3 : 0 ≤ (i + 1).toInt) (m3 : (i + 1).toInt < L) (c2 : xEv L xs d 210 0 [.ref 86, .int (xs (i + 1).toNatClampNeg), xmk, xmk, xmk] [] (124, I1, J1, R1) (some (.int r2)) (124, I2, J2, R2)) (hG2 : aGd R2) {v : Option Value} {h' : xH} (hk : xEv L xs (d + 1) 0 18 [.retAddr 0, .ref 0, .ref 86, .int (i + 7)] [] (124, I2, J2, R2) v h') : xEv L xs (d + 1) 0 18 [.retAddr 0, .ref 0, .ref 86, .int i] [] (124, I, J, R) v h' := by
  refine ev_go 2 (pc1 := 20) (lv1 := [.retAddr 0, .ref 0, .ref 86, .int i]) (st1 := [.retAddr 0, .int i]) (h1 := (124, I, J, R)) rfl ?_
  refine ev_slen hL rfl rfl ?_
  refine ev_go 2 (pc1 := 24) (lv1 := [.retAddr 0, .ref 0, .ref 86, .int i]) (st1 := [.int ((Int32.ofNat L) - 7), .int i]) (h1 := (124, I, J, R)) rfl ?_
  refine ev_br (b1 := false) rfl rfl (xcd_ngt (x := i) (y := ((Int32.ofNat L) - 7)) (by first | exact b1 | omega)) ?_
  refine ev_go 2 (pc1 := 29) (lv1 := [.retAddr 0, .ref 0, .ref 86, .int i]) (st1 := [.int i, .retAddr 0]) (h1 := (124, I, J, R)) rfl ?_
  refine ev_sld hL rfl rfl n1 m1 ?_
  refine ev_go 2 (pc1 := 33) (lv1 := [.retAddr 0, .ref 0, .ref 86, .int i]) (st1 := [.int ((xs i.toNatClampNeg) &&& 31)]) (h1 := (124, I, J, R)) rfl ?_
  refine ev_tk (x := ((xs i.toNatClampNeg) &&& 31)) (z := 14) (t := 658) rfl rfl b2 (by decide) rfl rfl ?_
  refine ev_go 5 (pc1 := 663) (lv1 := [.retAddr 0, .ref 0, .ref 86, .int i]) (st1 := [.int (i + 1), .retAddr 0, .ref 0]) (h1 := (124, I, J, R)) rfl ?_
  refine ev_sld hL rfl rfl n2 m2 ?_
  refine ev_call (v1 := (some (.int r1))) (h1 := (124, I1, J1, R1)) rfl rfl c1 ?_
  refine ev_go 6 (pc1 := 673) (lv1 := [.retAddr 0, .ref 0, .ref 86, .int i]) (st1 := [.int (i + 1), .retAddr 0, .ref 86]) (h1 := (124, I1, J1, R1)) rfl ?_
  refine ev_sld hL rfl rfl n3 m3 ?_
  refine ev_call (v1 := (some (.int r2))) (h1 := (124, I2, J2, R2)) rfl rfl c2 ?_
  refine ev_go 4 (pc1 := 18) (lv1 := [.retAddr 0, .ref 0, .ref 86, .int (i + 7)]) (st1 := []) (h1 := (124, I2, J2, R2)) rfl ?_
  exact hk
set_option maxRecDepth 20000 in
theorem la_15 {L : Nat} {xs : Nat → Int32} {d : Nat} {I : Nat → Nat → Int32} {J : Nat → Nat → Int64} {R : Nat → Nat → Nat} {I1 : Nat → Nat → Int32} {J1 : Nat → Nat → Int64} {R1 : Nat → Nat → Nat} {I2 : Nat → Nat → Int32} {J2 : Nat → Nat → Int64} {R2 : Nat → Nat → Nat} {i r1 r2 : Int32} (hG : aGd R) (hL : L < 2147483648) (b1 : i.toInt ≤ ((Int32.ofNat L) - 7).toInt) (n1 : 0 ≤ i.toInt) (m1 : i.toInt < L) (b2 : ((xs i.toNatClampNeg) &&& 31).toInt = 15) (n2 : 0 ≤ (i + 1).toInt) (m2 : (i + 1).toInt < L) (c1 : xEv L xs d 100 0 [.ref 0, .int (xs (i + 1).toNatClampNeg), xmk] [] (124, I, J, R) (some (.int r1)) (124, I1, J1, R1)) (hG1 : aGd R1) (n3 : 0 ≤ (i + 1).toInt) (m3 : (i + 1).toInt < L) (c2 : xEv L xs d 212 0 [.ref 86, .int (xs (i + 1).toNatClampNeg), xmk, xmk] [] (124, I1, J1, R1) (some (.int r2)) (124, I2, J2, R2)) (hG2 : aGd R2) {v : Option Value} {h' : xH} (hk : xEv L xs (d + 1) 0 18 [.retAddr 0, .ref 0, .ref 86, .int (i + 7)] [] (124, I2, J2, R2) v h') : xEv L xs (d + 1) 0 18 [.retAddr 0, .ref 0, .ref 86, .int i] [] (124, I, J, R) v h' := by
  refine ev_go 2 (pc1 := 20) (lv1 := [.retAddr 0, .ref 0, .ref 86, .int i]) (st1 := [.retAddr 0, .int i]) (h1 := (124, I, J, R)) rfl ?_
  refine ev_slen hL rfl rfl ?_
  refine ev_go 2 (pc1 := 24) (lv1 := [.retAddr 0, .ref 0, .ref 86, .int i]) (st1 := [.int ((Int32.ofNat L) - 7), .int i]) (h1 := (124, I, J, R)) rfl ?_
  refine ev_br (b1 := false) rfl rfl (xcd_ngt (x := i) (y := ((Int32.ofNat L) - 7)) (by first | exact b1 | omega)) ?_
  refine ev_go 2 (pc1 := 29) (lv1 := [.retAddr 0, .ref 0, .ref 86, .int i]) (st1 := [.int i, .retAddr 0]) (h1 := (124, I, J, R)) rfl ?_
  refine ev_sld hL rfl rfl n1 m1 ?_
  refine ev_go 2 (pc1 := 33) (lv1 := [.retAddr 0, .ref 0, .ref 86, .int i]) (st1 := [.int ((xs i.toNatClampNeg) &&& 31)]) (h1 := (124, I, J, R)) rfl ?_
  refine ev_tk (x := ((xs i.toNatClampNeg) &&& 31)) (z := 15) (t := 681) rfl rfl b2 (by decide) rfl rfl ?_
  refine ev_go 5 (pc1 := 686) (lv1 := [.retAddr 0, .ref 0, .ref 86, .int i]) (st1 := [.int (i + 1), .retAddr 0, .ref 0]) (h1 := (124, I, J, R)) rfl ?_
  refine ev_sld hL rfl rfl n2 m2 ?_
  refine ev_call (v1 := (some (.int r1))) (h1 := (124, I1, J1, R1)) rfl rfl c1 ?_
  refine ev_go 6 (pc1 := 696) (lv1 := [.retAddr 0, .ref 0, .ref 86, .int i]) (st1 := [.int (i + 1), .retAddr 0, .ref 86]) (h1 := (124, I1, J1, R1)) rfl ?_
  refine ev_sld hL rfl rfl n3 m3 ?_
  refine ev_call (v1 := (some (.int r2))) (h1 := (124, I2, J2, R2)) rfl rfl c2 ?_
  refine ev_go 4 (pc1 := 18) (lv1 := [.retAddr 0, .ref 0, .ref 86, .int (i + 7)]) (st1 := []) (h1 := (124, I2, J2, R2)) rfl ?_
  exact hk
set_option maxRecDepth 20000 in
theorem la_16 {L : Nat} {xs : Nat → Int32} {d : Nat} {I : Nat → Nat → Int32} {J : Nat → Nat → Int64} {R : Nat → Nat → Nat} {I1 : Nat → Nat → Int32} {J1 : Nat → Nat → Int64} {R1 : Nat → Nat → Nat} {I2 : Nat → Nat → Int32} {J2 : Nat → Nat → Int64} {R2 : Nat → Nat → Nat} {i r1 r2 : Int32} (hG : aGd R) (hL : L < 2147483648) (b1 : i.toInt ≤ ((Int32.ofNat L) - 7).toInt) (n1 : 0 ≤ i.toInt) (m1 : i.toInt < L) (b2 : ((xs i.toNatClampNeg) &&& 31).toInt = 16) (n2 : 0 ≤ (i + 1).toInt) (m2 : (i + 1).toInt < L) (c1 : xEv L xs d 109 0 [.ref 0, .int (xs (i + 1).toNatClampNeg), xmk, xmk] [] (124, I, J, R) (some (.int r1)) (124, I1, J1, R1)) (hG1 : aGd R1) (n3 : 0 ≤ (i + 1).toInt) (m3 : (i + 1).toInt < L) (c2 : xEv L xs d 214 0 [.ref 86, .int (xs (i + 1).toNatClampNeg), xmk, xmk, xmk, xmk] [] (124, I1, J1, R1) (some (.int r2)) (124, I2, J2, R2)) (hG2 : aGd R2) {v : Option Value} {h' : xH} (hk : xEv L xs (d + 1) 0 18 [.retAddr 0, .ref 0, .ref 86, .int (i + 7)] [] (124, I2, J2, R2) v h') : xEv L xs (d + 1) 0 18 [.retAddr 0, .ref 0, .ref 86, .int i] [] (124, I, J, R) v h' := by
  refine ev_go 2 (pc1 := 20) (lv1 := [.retAddr 0, .ref 0, .ref 86, .int i]) (st1 := [.retAddr 0, .int i]) (h1 := (124, I, J, R)) rfl ?_
  refine ev_slen hL rfl rfl ?_
  refine ev_go 2 (pc1 := 24) (lv1 := [.retAddr 0, .ref 0, .ref 86, .int i]) (st1 := [.int ((Int32.ofNat L) - 7), .int i]) (h1 := (124, I, J, R)) rfl ?_
  refine ev_br (b1 := false) rfl rfl (xcd_ngt (x := i) (y := ((Int32.ofNat L) - 7)) (by first | exact b1 | omega)) ?_
  refine ev_go 2 (pc1 := 29) (lv1 := [.retAddr 0, .ref 0, .ref 86, .int i]) (st1 := [.int i, .retAddr 0]) (h1 := (124, I, J, R)) rfl ?_
  refine ev_sld hL rfl rfl n1 m1 ?_
  refine ev_go 2 (pc1 := 33) (lv1 := [.retAddr 0, .ref 0, .ref 86, .int i]) (st1 := [.int ((xs i.toNatClampNeg) &&& 31)]) (h1 := (124, I, J, R)) rfl ?_
  refine ev_tk (x := ((xs i.toNatClampNeg) &&& 31)) (z := 16) (t := 704) rfl rfl b2 (by decide) rfl rfl ?_
  refine ev_go 5 (pc1 := 709) (lv1 := [.retAddr 0, .ref 0, .ref 86, .int i]) (st1 := [.int (i + 1), .retAddr 0, .ref 0]) (h1 := (124, I, J, R)) rfl ?_
  refine ev_sld hL rfl rfl n2 m2 ?_
  refine ev_call (v1 := (some (.int r1))) (h1 := (124, I1, J1, R1)) rfl rfl c1 ?_
  refine ev_go 6 (pc1 := 719) (lv1 := [.retAddr 0, .ref 0, .ref 86, .int i]) (st1 := [.int (i + 1), .retAddr 0, .ref 86]) (h1 := (124, I1, J1, R1)) rfl ?_
  refine ev_sld hL rfl rfl n3 m3 ?_
  refine ev_call (v1 := (some (.int r2))) (h1 := (124, I2, J2, R2)) rfl rfl c2 ?_
  refine ev_go 4 (pc1 := 18) (lv1 := [.retAddr 0, .ref 0, .ref 86, .int (i + 7)]) (st1 := []) (h1 := (124, I2, J2, R2)) rfl ?_
  exact hk
set_option maxRecDepth 20000 in
theorem la_17 {L : Nat} {xs : Nat → Int32} {d : Nat} {I : Nat → Nat → Int32} {J : Nat → Nat → Int64} {R : Nat → Nat → Nat} {I1 : Nat → Nat → Int32} {J1 : Nat → Nat → Int64} {R1 : Nat → Nat → Nat} {I2 : Nat → Nat → Int32} {J2 : Nat → Nat → Int64} {R2 : Nat → Nat → Nat} {i r1 r2 : Int32} (hG : aGd R) (hL : L < 2147483648) (b1 : i.toInt ≤ ((Int32.ofNat L) - 7).toInt) (n1 : 0 ≤ i.toInt) (m1 : i.toInt < L) (b2 : ((xs i.toNatClampNeg) &&& 31).toInt = 17) (n2 : 0 ≤ (i + 1).toInt) (m2 : (i + 1).toInt < L) (n3 : 0 ≤ (i + 2).toInt) (m3 : (i + 2).toInt < L) (n4 : 0 ≤ (i + 3).toInt) (m4 : (i + 3).toInt < L) (n5 : 0 ≤ (i + 4).toInt) (m5 : (i + 4).toInt < L) (n6 : 0 ≤ (i + 5).toInt) (m6 : (i + 5).toInt < L) (n7 : 0 ≤ (i + 6).toInt) (m7 : (i + 6).toInt < L) (c1 : xEv L xs d 111 0 [.ref 0, .int (xs (i + 1).toNatClampNeg), .int (xs (i + 2).toNatClampNeg), .int (xs (i + 3).toNatClampNeg), .int (xs (i + 4).toNatClampNeg), .int (xs (i + 5).toNatClampNeg), .int (xs (i + 6).toNatClampNeg)] [] (124, I, J, R) (some (.int r1)) (124, I1, J1, R1)) (hG1 : aGd R1) (n8 : 0 ≤ (i + 1).toInt) (m8 : (i + 1).toInt < L) (n9 : 0 ≤ (i + 2).toInt) (m9 : (i + 2).toInt < L) (n10 : 0 ≤ (i + 3).toInt) (m10 : (i + 3).toInt < L) (n11 : 0 ≤ (i + 4).toInt) (m11 : (i + 4).toInt < L) (n12 : 0 ≤ (i + 5).toInt) (m12 : (i + 5).toInt < L) (n13 : 0 ≤ (i + 6).toInt) (m13 : (i + 6).toInt < L) (c2 : xEv L xs d 215 0 [.ref 86, .int (xs (i + 1).toNatClampNeg), .int (xs (i + 2).toNatClampNeg), .int (xs (i + 3).toNatClampNeg), .int (xs (i + 4).toNatClampNeg), .int (xs (i + 5).toNatClampNeg), .int (xs (i + 6).toNatClampNeg)] [] (124, I1, J1, R1) (some (.int r2)) (124, I2, J2, R2)) (hG2 : aGd R2) {v : Option Value} {h' : xH} (hk : xEv L xs (d + 1) 0 18 [.retAddr 0, .ref 0, .ref 86, .int (i + 7)] [] (124, I2, J2, R2) v h') : xEv L xs (d + 1) 0 18 [.retAddr 0, .ref 0, .ref 86, .int i] [] (124, I, J, R) v h' := by
  refine ev_go 2 (pc1 := 20) (lv1 := [.retAddr 0, .ref 0, .ref 86, .int i]) (st1 := [.retAddr 0, .int i]) (h1 := (124, I, J, R)) rfl ?_
  refine ev_slen hL rfl rfl ?_
  refine ev_go 2 (pc1 := 24) (lv1 := [.retAddr 0, .ref 0, .ref 86, .int i]) (st1 := [.int ((Int32.ofNat L) - 7), .int i]) (h1 := (124, I, J, R)) rfl ?_
  refine ev_br (b1 := false) rfl rfl (xcd_ngt (x := i) (y := ((Int32.ofNat L) - 7)) (by first | exact b1 | omega)) ?_
  refine ev_go 2 (pc1 := 29) (lv1 := [.retAddr 0, .ref 0, .ref 86, .int i]) (st1 := [.int i, .retAddr 0]) (h1 := (124, I, J, R)) rfl ?_
  refine ev_sld hL rfl rfl n1 m1 ?_
  refine ev_go 2 (pc1 := 33) (lv1 := [.retAddr 0, .ref 0, .ref 86, .int i]) (st1 := [.int ((xs i.toNatClampNeg) &&& 31)]) (h1 := (124, I, J, R)) rfl ?_
  refine ev_tk (x := ((xs i.toNatClampNeg) &&& 31)) (z := 17) (t := 727) rfl rfl b2 (by decide) rfl rfl ?_
  refine ev_go 5 (pc1 := 732) (lv1 := [.retAddr 0, .ref 0, .ref 86, .int i]) (st1 := [.int (i + 1), .retAddr 0, .ref 0]) (h1 := (124, I, J, R)) rfl ?_
  refine ev_sld hL rfl rfl n2 m2 ?_
  refine ev_go 4 (pc1 := 737) (lv1 := [.retAddr 0, .ref 0, .ref 86, .int i]) (st1 := [.int (i + 2), .retAddr 0, .int (xs (i + 1).toNatClampNeg), .ref 0]) (h1 := (124, I, J, R)) rfl ?_
  refine ev_sld hL rfl rfl n3 m3 ?_
  refine ev_go 4 (pc1 := 742) (lv1 := [.retAddr 0, .ref 0, .ref 86, .int i]) (st1 := [.int (i + 3), .retAddr 0, .int (xs (i + 2).toNatClampNeg), .int (xs (i + 1).toNatClampNeg), .ref 0]) (h1 := (124, I, J, R)) rfl ?_
  refine ev_sld hL rfl rfl n4 m4 ?_
  refine ev_go 4 (pc1 := 747) (lv1 := [.retAddr 0, .ref 0, .ref 86, .int i]) (st1 := [.int (i + 4), .retAddr 0, .int (xs (i + 3).toNatClampNeg), .int (xs (i + 2).toNatClampNeg), .int (xs (i + 1).toNatClampNeg), .ref 0]) (h1 := (124, I, J, R)) rfl ?_
  refine ev_sld hL rfl rfl n5 m5 ?_
  refine ev_go 4 (pc1 := 752) (lv1 := [.retAddr 0, .ref 0, .ref 86, .int i]) (st1 := [.int (i + 5), .retAddr 0, .int (xs (i + 4).toNatClampNeg), .int (xs (i + 3).toNatClampNeg), .int (xs (i + 2).toNatClampNeg), .int (xs (i + 1).toNatClampNeg), .ref 0]) (h1 := (124, I, J, R)) rfl ?_
  refine ev_sld hL rfl rfl n6 m6 ?_
  refine ev_go 4 (pc1 := 758) (lv1 := [.retAddr 0, .ref 0, .ref 86, .int i]) (st1 := [.int (i + 6), .retAddr 0, .int (xs (i + 5).toNatClampNeg), .int (xs (i + 4).toNatClampNeg), .int (xs (i + 3).toNatClampNeg), .int (xs (i + 2).toNatClampNeg), .int (xs (i + 1).toNatClampNeg), .ref 0]) (h1 := (124, I, J, R)) rfl ?_
  refine ev_sld hL rfl rfl n7 m7 ?_
  refine ev_call (v1 := (some (.int r1))) (h1 := (124, I1, J1, R1)) rfl rfl c1 ?_
  refine ev_go 6 (pc1 := 768) (lv1 := [.retAddr 0, .ref 0, .ref 86, .int i]) (st1 := [.int (i + 1), .retAddr 0, .ref 86]) (h1 := (124, I1, J1, R1)) rfl ?_
  refine ev_sld hL rfl rfl n8 m8 ?_
  refine ev_go 4 (pc1 := 773) (lv1 := [.retAddr 0, .ref 0, .ref 86, .int i]) (st1 := [.int (i + 2), .retAddr 0, .int (xs (i + 1).toNatClampNeg), .ref 86]) (h1 := (124, I1, J1, R1)) rfl ?_
  refine ev_sld hL rfl rfl n9 m9 ?_
  refine ev_go 4 (pc1 := 778) (lv1 := [.retAddr 0, .ref 0, .ref 86, .int i]) (st1 := [.int (i + 3), .retAddr 0, .int (xs (i + 2).toNatClampNeg), .int (xs (i + 1).toNatClampNeg), .ref 86]) (h1 := (124, I1, J1, R1)) rfl ?_
  refine ev_sld hL rfl rfl n10 m10 ?_
  refine ev_go 4 (pc1 := 783) (lv1 := [.retAddr 0, .ref 0, .ref 86, .int i]) (st1 := [.int (i + 4), .retAddr 0, .int (xs (i + 3).toNatClampNeg), .int (xs (i + 2).toNatClampNeg), .int (xs (i + 1).toNatClampNeg), .ref 86]) (h1 := (124, I1, J1, R1)) rfl ?_
  refine ev_sld hL rfl rfl n11 m11 ?_
  refine ev_go 4 (pc1 := 788) (lv1 := [.retAddr 0, .ref 0, .ref 86, .int i]) (st1 := [.int (i + 5), .retAddr 0, .int (xs (i + 4).toNatClampNeg), .int (xs (i + 3).toNatClampNeg), .int (xs (i + 2).toNatClampNeg), .int (xs (i + 1).toNatClampNeg), .ref 86]) (h1 := (124, I1, J1, R1)) rfl ?_
  refine ev_sld hL rfl rfl n12 m12 ?_
  refine ev_go 4 (pc1 := 794) (lv1 := [.retAddr 0, .ref 0, .ref 86, .int i]) (st1 := [.int (i + 6), .retAddr 0, .int (xs (i + 5).toNatClampNeg), .int (xs (i + 4).toNatClampNeg), .int (xs (i + 3).toNatClampNeg), .int (xs (i + 2).toNatClampNeg), .int (xs (i + 1).toNatClampNeg), .ref 86]) (h1 := (124, I1, J1, R1)) rfl ?_
  refine ev_sld hL rfl rfl n13 m13 ?_
  refine ev_call (v1 := (some (.int r2))) (h1 := (124, I2, J2, R2)) rfl rfl c2 ?_
  refine ev_go 4 (pc1 := 18) (lv1 := [.retAddr 0, .ref 0, .ref 86, .int (i + 7)]) (st1 := []) (h1 := (124, I2, J2, R2)) rfl ?_
  exact hk
set_option maxRecDepth 20000 in
theorem la_18 {L : Nat} {xs : Nat → Int32} {d : Nat} {I : Nat → Nat → Int32} {J : Nat → Nat → Int64} {R : Nat → Nat → Nat} {I1 : Nat → Nat → Int32} {J1 : Nat → Nat → Int64} {R1 : Nat → Nat → Nat} {I2 : Nat → Nat → Int32} {J2 : Nat → Nat → Int64} {R2 : Nat → Nat → Nat} {i r1 : Int32} (hG : aGd R) (hL : L < 2147483648) (b1 : i.toInt ≤ ((Int32.ofNat L) - 7).toInt) (n1 : 0 ≤ i.toInt) (m1 : i.toInt < L) (b2 : ((xs i.toNatClampNeg) &&& 31).toInt = 18) (n2 : 0 ≤ (i + 1).toInt) (m2 : (i + 1).toInt < L) (n3 : 0 ≤ (i + 2).toInt) (m3 : (i + 2).toInt < L) (n4 : 0 ≤ (i + 3).toInt) (m4 : (i + 3).toInt < L) (n5 : 0 ≤ (i + 4).toInt) (m5 : (i + 4).toInt < L) (n6 : 0 ≤ (i + 5).toInt) (m6 : (i + 5).toInt < L) (c1 : xEv L xs d 114 0 [.ref 0, .int (xs (i + 1).toNatClampNeg), .int (xs (i + 2).toNatClampNeg), .int (xs (i + 3).toNatClampNeg), .int (xs (i + 4).toNatClampNeg), .int (xs (i + 5).toNatClampNeg), xmk, xmk] [] (124, I, J, R) (some (.int r1)) (124, I1, J1, R1)) (hG1 : aGd R1) (n7 : 0 ≤ (i + 1).toInt) (m7 : (i + 1).toInt < L) (n8 : 0 ≤ (i + 2).toInt) (m8 : (i + 2).toInt < L) (n9 : 0 ≤ (i + 3).toInt) (m9 : (i + 3).toInt < L) (n10 : 0 ≤ (i + 4).toInt) (m10 : (i + 4).toInt < L) (n11 : 0 ≤ (i + 5).toInt) (m11 : (i + 5).toInt < L) (c2 : xEv L xs d 218 0 [.ref 86, .int (xs (i + 1).toNatClampNeg), .int (xs (i + 2).toNatClampNeg), .int (xs (i + 3).toNatClampNeg), .int (xs (i + 4).toNatClampNeg), .int (xs (i + 5).toNatClampNeg), xmk, xmk] [] (124, I1, J1, R1) (some (.int r1)) (124, I2, J2, R2)) (hG2 : aGd R2) (b3 : r1.toInt = r1.toInt) {v : Option Value} {h' : xH} (hk : xEv L xs (d + 1) 0 18 [.retAddr 0, .ref 0, .ref 86, .int (i + 7)] [] (124, I2, J2, R2) v h') : xEv L xs (d + 1) 0 18 [.retAddr 0, .ref 0, .ref 86, .int i] [] (124, I, J, R) v h' := by
  refine ev_go 2 (pc1 := 20) (lv1 := [.retAddr 0, .ref 0, .ref 86, .int i]) (st1 := [.retAddr 0, .int i]) (h1 := (124, I, J, R)) rfl ?_
  refine ev_slen hL rfl rfl ?_
  refine ev_go 2 (pc1 := 24) (lv1 := [.retAddr 0, .ref 0, .ref 86, .int i]) (st1 := [.int ((Int32.ofNat L) - 7), .int i]) (h1 := (124, I, J, R)) rfl ?_
  refine ev_br (b1 := false) rfl rfl (xcd_ngt (x := i) (y := ((Int32.ofNat L) - 7)) (by first | exact b1 | omega)) ?_
  refine ev_go 2 (pc1 := 29) (lv1 := [.retAddr 0, .ref 0, .ref 86, .int i]) (st1 := [.int i, .retAddr 0]) (h1 := (124, I, J, R)) rfl ?_
  refine ev_sld hL rfl rfl n1 m1 ?_
  refine ev_go 2 (pc1 := 33) (lv1 := [.retAddr 0, .ref 0, .ref 86, .int i]) (st1 := [.int ((xs i.toNatClampNeg) &&& 31)]) (h1 := (124, I, J, R)) rfl ?_
  refine ev_tk (x := ((xs i.toNatClampNeg) &&& 31)) (z := 18) (t := 802) rfl rfl b2 (by decide) rfl rfl ?_
  refine ev_go 5 (pc1 := 807) (lv1 := [.retAddr 0, .ref 0, .ref 86, .int i]) (st1 := [.int (i + 1), .retAddr 0, .ref 0]) (h1 := (124, I, J, R)) rfl ?_
  refine ev_sld hL rfl rfl n2 m2 ?_
  refine ev_go 4 (pc1 := 812) (lv1 := [.retAddr 0, .ref 0, .ref 86, .int i]) (st1 := [.int (i + 2), .retAddr 0, .int (xs (i + 1).toNatClampNeg), .ref 0]) (h1 := (124, I, J, R)) rfl ?_
  refine ev_sld hL rfl rfl n3 m3 ?_
  refine ev_go 4 (pc1 := 817) (lv1 := [.retAddr 0, .ref 0, .ref 86, .int i]) (st1 := [.int (i + 3), .retAddr 0, .int (xs (i + 2).toNatClampNeg), .int (xs (i + 1).toNatClampNeg), .ref 0]) (h1 := (124, I, J, R)) rfl ?_
  refine ev_sld hL rfl rfl n4 m4 ?_
  refine ev_go 4 (pc1 := 822) (lv1 := [.retAddr 0, .ref 0, .ref 86, .int i]) (st1 := [.int (i + 4), .retAddr 0, .int (xs (i + 3).toNatClampNeg), .int (xs (i + 2).toNatClampNeg), .int (xs (i + 1).toNatClampNeg), .ref 0]) (h1 := (124, I, J, R)) rfl ?_
  refine ev_sld hL rfl rfl n5 m5 ?_
  refine ev_go 4 (pc1 := 827) (lv1 := [.retAddr 0, .ref 0, .ref 86, .int i]) (st1 := [.int (i + 5), .retAddr 0, .int (xs (i + 4).toNatClampNeg), .int (xs (i + 3).toNatClampNeg), .int (xs (i + 2).toNatClampNeg), .int (xs (i + 1).toNatClampNeg), .ref 0]) (h1 := (124, I, J, R)) rfl ?_
  refine ev_sld hL rfl rfl n6 m6 ?_
  refine ev_call (v1 := (some (.int r1))) (h1 := (124, I1, J1, R1)) rfl rfl c1 ?_
  refine ev_go 5 (pc1 := 836) (lv1 := [.retAddr 0, .ref 0, .ref 86, .int i]) (st1 := [.int (i + 1), .retAddr 0, .ref 86, .int r1]) (h1 := (124, I1, J1, R1)) rfl ?_
  refine ev_sld hL rfl rfl n7 m7 ?_
  refine ev_go 4 (pc1 := 841) (lv1 := [.retAddr 0, .ref 0, .ref 86, .int i]) (st1 := [.int (i + 2), .retAddr 0, .int (xs (i + 1).toNatClampNeg), .ref 86, .int r1]) (h1 := (124, I1, J1, R1)) rfl ?_
  refine ev_sld hL rfl rfl n8 m8 ?_
  refine ev_go 4 (pc1 := 846) (lv1 := [.retAddr 0, .ref 0, .ref 86, .int i]) (st1 := [.int (i + 3), .retAddr 0, .int (xs (i + 2).toNatClampNeg), .int (xs (i + 1).toNatClampNeg), .ref 86, .int r1]) (h1 := (124, I1, J1, R1)) rfl ?_
  refine ev_sld hL rfl rfl n9 m9 ?_
  refine ev_go 4 (pc1 := 851) (lv1 := [.retAddr 0, .ref 0, .ref 86, .int i]) (st1 := [.int (i + 4), .retAddr 0, .int (xs (i + 3).toNatClampNeg), .int (xs (i + 2).toNatClampNeg), .int (xs (i + 1).toNatClampNeg), .ref 86, .int r1]) (h1 := (124, I1, J1, R1)) rfl ?_
  refine ev_sld hL rfl rfl n10 m10 ?_
  refine ev_go 4 (pc1 := 856) (lv1 := [.retAddr 0, .ref 0, .ref 86, .int i]) (st1 := [.int (i + 5), .retAddr 0, .int (xs (i + 4).toNatClampNeg), .int (xs (i + 3).toNatClampNeg), .int (xs (i + 2).toNatClampNeg), .int (xs (i + 1).toNatClampNeg), .ref 86, .int r1]) (h1 := (124, I1, J1, R1)) rfl ?_
  refine ev_sld hL rfl rfl n11 m11 ?_
  refine ev_call (v1 := (some (.int r1))) (h1 := (124, I2, J2, R2)) rfl rfl c2 ?_
  refine ev_br (b1 := true) rfl rfl (xcd_eq (x := r1) (y := r1) (by first | exact b3 | omega)) ?_
  refine ev_go 2 (pc1 := 18) (lv1 := [.retAddr 0, .ref 0, .ref 86, .int (i + 7)]) (st1 := []) (h1 := (124, I2, J2, R2)) rfl ?_
  exact hk
set_option maxRecDepth 20000 in
theorem la_19 {L : Nat} {xs : Nat → Int32} {d : Nat} {I : Nat → Nat → Int32} {J : Nat → Nat → Int64} {R : Nat → Nat → Nat} {I1 : Nat → Nat → Int32} {J1 : Nat → Nat → Int64} {R1 : Nat → Nat → Nat} {I2 : Nat → Nat → Int32} {J2 : Nat → Nat → Int64} {R2 : Nat → Nat → Nat} {i r1 r2 : Int32} (hG : aGd R) (hL : L < 2147483648) (b1 : i.toInt ≤ ((Int32.ofNat L) - 7).toInt) (n1 : 0 ≤ i.toInt) (m1 : i.toInt < L) (b2 : ((xs i.toNatClampNeg) &&& 31).toInt = 19) (n2 : 0 ≤ (i + 1).toInt) (m2 : (i + 1).toInt < L) (c1 : xEv L xs d 115 0 [.ref 0, .int (xs (i + 1).toNatClampNeg), xmk] [] (124, I, J, R) (some (.int r1)) (124, I1, J1, R1)) (hG1 : aGd R1) (n3 : 0 ≤ (i + 1).toInt) (m3 : (i + 1).toInt < L) (c2 : xEv L xs d 219 0 [.ref 86, .int (xs (i + 1).toNatClampNeg), xmk, xmk, xmk, xmk, xmk, xmk, xmk] [] (124, I1, J1, R1) (some (.int r2)) (124, I2, J2, R2)) (hG2 : aGd R2) {v : Option Value} {h' : xH} (hk : xEv L xs (d + 1) 0 18 [.retAddr 0, .ref 0, .ref 86, .int (i + 7)] [] (124, I2, J2, R2) v h') : xEv L xs (d + 1) 0 18 [.retAddr 0, .ref 0, .ref 86, .int i] [] (124, I, J, R) v h' := by
  refine ev_go 2 (pc1 := 20) (lv1 := [.retAddr 0, .ref 0, .ref 86, .int i]) (st1 := [.retAddr 0, .int i]) (h1 := (124, I, J, R)) rfl ?_
  refine ev_slen hL rfl rfl ?_
  refine ev_go 2 (pc1 := 24) (lv1 := [.retAddr 0, .ref 0, .ref 86, .int i]) (st1 := [.int ((Int32.ofNat L) - 7), .int i]) (h1 := (124, I, J, R)) rfl ?_
  refine ev_br (b1 := false) rfl rfl (xcd_ngt (x := i) (y := ((Int32.ofNat L) - 7)) (by first | exact b1 | omega)) ?_
  refine ev_go 2 (pc1 := 29) (lv1 := [.retAddr 0, .ref 0, .ref 86, .int i]) (st1 := [.int i, .retAddr 0]) (h1 := (124, I, J, R)) rfl ?_
  refine ev_sld hL rfl rfl n1 m1 ?_
  refine ev_go 2 (pc1 := 33) (lv1 := [.retAddr 0, .ref 0, .ref 86, .int i]) (st1 := [.int ((xs i.toNatClampNeg) &&& 31)]) (h1 := (124, I, J, R)) rfl ?_
  refine ev_tk (x := ((xs i.toNatClampNeg) &&& 31)) (z := 19) (t := 865) rfl rfl b2 (by decide) rfl rfl ?_
  refine ev_go 5 (pc1 := 870) (lv1 := [.retAddr 0, .ref 0, .ref 86, .int i]) (st1 := [.int (i + 1), .retAddr 0, .ref 0]) (h1 := (124, I, J, R)) rfl ?_
  refine ev_sld hL rfl rfl n2 m2 ?_
  refine ev_call (v1 := (some (.int r1))) (h1 := (124, I1, J1, R1)) rfl rfl c1 ?_
  refine ev_go 6 (pc1 := 880) (lv1 := [.retAddr 0, .ref 0, .ref 86, .int i]) (st1 := [.int (i + 1), .retAddr 0, .ref 86]) (h1 := (124, I1, J1, R1)) rfl ?_
  refine ev_sld hL rfl rfl n3 m3 ?_
  refine ev_call (v1 := (some (.int r2))) (h1 := (124, I2, J2, R2)) rfl rfl c2 ?_
  refine ev_go 4 (pc1 := 18) (lv1 := [.retAddr 0, .ref 0, .ref 86, .int (i + 7)]) (st1 := []) (h1 := (124, I2, J2, R2)) rfl ?_
  exact hk
set_option maxRecDepth 20000 in
theorem la_20 {L : Nat} {xs : Nat → Int32} {d : Nat} {I : Nat → Nat → Int32} {J : Nat → Nat → Int64} {R : Nat → Nat → Nat} {I1 : Nat → Nat → Int32} {J1 : Nat → Nat → Int64} {R1 : Nat → Nat → Nat} {I2 : Nat → Nat → Int32} {J2 : Nat → Nat → Int64} {R2 : Nat → Nat → Nat} {i r1 r2 : Int32} (hG : aGd R) (hL : L < 2147483648) (b1 : i.toInt ≤ ((Int32.ofNat L) - 7).toInt) (n1 : 0 ≤ i.toInt) (m1 : i.toInt < L) (b2 : ((xs i.toNatClampNeg) &&& 31).toInt = 20) (n2 : 0 ≤ (i + 1).toInt) (m2 : (i + 1).toInt < L) (c1 : xEv L xs d 118 0 [.ref 0, .int (xs (i + 1).toNatClampNeg)] [] (124, I, J, R) (some (.int r1)) (124, I1, J1, R1)) (hG1 : aGd R1) (n3 : 0 ≤ (i + 1).toInt) (m3 : (i + 1).toInt < L) (c2 : xEv L xs d 220 0 [.ref 86, .int (xs (i + 1).toNatClampNeg)] [] (124, I1, J1, R1) (some (.int r2)) (124, I2, J2, R2)) (hG2 : aGd R2) {v : Option Value} {h' : xH} (hk : xEv L xs (d + 1) 0 18 [.retAddr 0, .ref 0, .ref 86, .int (i + 7)] [] (124, I2, J2, R2) v h') : xEv L xs (d + 1) 0 18 [.retAddr 0, .ref 0, .ref 86, .int i] [] (124, I, J, R) v h' := by
  refine ev_go 2 (pc1 := 20) (lv1 := [.retAddr 0, .ref 0, .ref 86, .int i]) (st1 := [.retAddr 0, .int i]) (h1 := (124, I, J, R)) rfl ?_
  refine ev_slen hL rfl rfl ?_
  refine ev_go 2 (pc1 := 24) (lv1 := [.retAddr 0, .ref 0, .ref 86, .int i]) (st1 := [.int ((Int32.ofNat L) - 7), .int i]) (h1 := (124, I, J, R)) rfl ?_
  refine ev_br (b1 := false) rfl rfl (xcd_ngt (x := i) (y := ((Int32.ofNat L) - 7)) (by first | exact b1 | omega)) ?_
  refine ev_go 2 (pc1 := 29) (lv1 := [.retAddr 0, .ref 0, .ref 86, .int i]) (st1 := [.int i, .retAddr 0]) (h1 := (124, I, J, R)) rfl ?_
  refine ev_sld hL rfl rfl n1 m1 ?_
  refine ev_go 2 (pc1 := 33) (lv1 := [.retAddr 0, .ref 0, .ref 86, .int i]) (st1 := [.int ((xs i.toNatClampNeg) &&& 31)]) (h1 := (124, I, J, R)) rfl ?_
  refine ev_tk (x := ((xs i.toNatClampNeg) &&& 31)) (z := 20) (t := 888) rfl rfl b2 (by decide) rfl rfl ?_
  refine ev_go 5 (pc1 := 893) (lv1 := [.retAddr 0, .ref 0, .ref 86, .int i]) (st1 := [.int (i + 1), .retAddr 0, .ref 0]) (h1 := (124, I, J, R)) rfl ?_
  refine ev_sld hL rfl rfl n2 m2 ?_
  refine ev_call (v1 := (some (.int r1))) (h1 := (124, I1, J1, R1)) rfl rfl c1 ?_
  refine ev_go 6 (pc1 := 903) (lv1 := [.retAddr 0, .ref 0, .ref 86, .int i]) (st1 := [.int (i + 1), .retAddr 0, .ref 86]) (h1 := (124, I1, J1, R1)) rfl ?_
  refine ev_sld hL rfl rfl n3 m3 ?_
  refine ev_call (v1 := (some (.int r2))) (h1 := (124, I2, J2, R2)) rfl rfl c2 ?_
  refine ev_go 4 (pc1 := 18) (lv1 := [.retAddr 0, .ref 0, .ref 86, .int (i + 7)]) (st1 := []) (h1 := (124, I2, J2, R2)) rfl ?_
  exact hk
set_option maxRecDepth 20000 in
theorem la_21 {L : Nat} {xs : Nat → Int32} {d : Nat} {I : Nat → Nat → Int32} {J : Nat → Nat → Int64} {R : Nat → Nat → Nat} {I1 : Nat → Nat → Int32} {J1 : Nat → Nat → Int64} {R1 : Nat → Nat → Nat} {I2 : Nat → Nat → Int32} {J2 : Nat → Nat → Int64} {R2 : Nat → Nat → Nat} {i r1 r2 : Int32} (hG : aGd R) (hL : L < 2147483648) (b1 : i.toInt ≤ ((Int32.ofNat L) - 7).toInt) (n1 : 0 ≤ i.toInt) (m1 : i.toInt < L) (b2 : ((xs i.toNatClampNeg) &&& 31).toInt = 21) (n2 : 0 ≤ (i + 1).toInt) (m2 : (i + 1).toInt < L) (n3 : 0 ≤ (i + 2).toInt) (m3 : (i + 2).toInt < L) (n4 : 0 ≤ (i + 3).toInt) (m4 : (i + 3).toInt < L) (c1 : xEv L xs d 119 0 [.ref 0, .int (xs (i + 1).toNatClampNeg), .int (xs (i + 2).toNatClampNeg), .int (xs (i + 3).toNatClampNeg), xmk] [] (124, I, J, R) (some (.int r1)) (124, I1, J1, R1)) (hG1 : aGd R1) (n5 : 0 ≤ (i + 1).toInt) (m5 : (i + 1).toInt < L) (n6 : 0 ≤ (i + 2).toInt) (m6 : (i + 2).toInt < L) (n7 : 0 ≤ (i + 3).toInt) (m7 : (i + 3).toInt < L) (c2 : xEv L xs d 221 0 [.ref 86, .int (xs (i + 1).toNatClampNeg), .int (xs (i + 2).toNatClampNeg), .int (xs (i + 3).toNatClampNeg), xmk] [] (124, I1, J1, R1) (some (.int r2)) (124, I2, J2, R2)) (hG2 : aGd R2) {v : Option Value} {h' : xH} (hk : xEv L xs (d + 1) 0 18 [.retAddr 0, .ref 0, .ref 86, .int (i + 7)] [] (124, I2, J2, R2) v h') : xEv L xs (d + 1) 0 18 [.retAddr 0, .ref 0, .ref 86, .int i] [] (124, I, J, R) v h' := by
  refine ev_go 2 (pc1 := 20) (lv1 := [.retAddr 0, .ref 0, .ref 86, .int i]) (st1 := [.retAddr 0, .int i]) (h1 := (124, I, J, R)) rfl ?_
  refine ev_slen hL rfl rfl ?_
  refine ev_go 2 (pc1 := 24) (lv1 := [.retAddr 0, .ref 0, .ref 86, .int i]) (st1 := [.int ((Int32.ofNat L) - 7), .int i]) (h1 := (124, I, J, R)) rfl ?_
  refine ev_br (b1 := false) rfl rfl (xcd_ngt (x := i) (y := ((Int32.ofNat L) - 7)) (by first | exact b1 | omega)) ?_
  refine ev_go 2 (pc1 := 29) (lv1 := [.retAddr 0, .ref 0, .ref 86, .int i]) (st1 := [.int i, .retAddr 0]) (h1 := (124, I, J, R)) rfl ?_
  refine ev_sld hL rfl rfl n1 m1 ?_
  refine ev_go 2 (pc1 := 33) (lv1 := [.retAddr 0, .ref 0, .ref 86, .int i]) (st1 := [.int ((xs i.toNatClampNeg) &&& 31)]) (h1 := (124, I, J, R)) rfl ?_
  refine ev_tk (x := ((xs i.toNatClampNeg) &&& 31)) (z := 21) (t := 911) rfl rfl b2 (by decide) rfl rfl ?_
  refine ev_go 5 (pc1 := 916) (lv1 := [.retAddr 0, .ref 0, .ref 86, .int i]) (st1 := [.int (i + 1), .retAddr 0, .ref 0]) (h1 := (124, I, J, R)) rfl ?_
  refine ev_sld hL rfl rfl n2 m2 ?_
  refine ev_go 4 (pc1 := 921) (lv1 := [.retAddr 0, .ref 0, .ref 86, .int i]) (st1 := [.int (i + 2), .retAddr 0, .int (xs (i + 1).toNatClampNeg), .ref 0]) (h1 := (124, I, J, R)) rfl ?_
  refine ev_sld hL rfl rfl n3 m3 ?_
  refine ev_go 4 (pc1 := 926) (lv1 := [.retAddr 0, .ref 0, .ref 86, .int i]) (st1 := [.int (i + 3), .retAddr 0, .int (xs (i + 2).toNatClampNeg), .int (xs (i + 1).toNatClampNeg), .ref 0]) (h1 := (124, I, J, R)) rfl ?_
  refine ev_sld hL rfl rfl n4 m4 ?_
  refine ev_call (v1 := (some (.int r1))) (h1 := (124, I1, J1, R1)) rfl rfl c1 ?_
  refine ev_go 6 (pc1 := 936) (lv1 := [.retAddr 0, .ref 0, .ref 86, .int i]) (st1 := [.int (i + 1), .retAddr 0, .ref 86]) (h1 := (124, I1, J1, R1)) rfl ?_
  refine ev_sld hL rfl rfl n5 m5 ?_
  refine ev_go 4 (pc1 := 941) (lv1 := [.retAddr 0, .ref 0, .ref 86, .int i]) (st1 := [.int (i + 2), .retAddr 0, .int (xs (i + 1).toNatClampNeg), .ref 86]) (h1 := (124, I1, J1, R1)) rfl ?_
  refine ev_sld hL rfl rfl n6 m6 ?_
  refine ev_go 4 (pc1 := 946) (lv1 := [.retAddr 0, .ref 0, .ref 86, .int i]) (st1 := [.int (i + 3), .retAddr 0, .int (xs (i + 2).toNatClampNeg), .int (xs (i + 1).toNatClampNeg), .ref 86]) (h1 := (124, I1, J1, R1)) rfl ?_
  refine ev_sld hL rfl rfl n7 m7 ?_
  refine ev_call (v1 := (some (.int r2))) (h1 := (124, I2, J2, R2)) rfl rfl c2 ?_
  refine ev_go 4 (pc1 := 18) (lv1 := [.retAddr 0, .ref 0, .ref 86, .int (i + 7)]) (st1 := []) (h1 := (124, I2, J2, R2)) rfl ?_
  exact hk
set_option maxRecDepth 20000 in
theorem la_22 {L : Nat} {xs : Nat → Int32} {d : Nat} {I : Nat → Nat → Int32} {J : Nat → Nat → Int64} {R : Nat → Nat → Nat} {I1 : Nat → Nat → Int32} {J1 : Nat → Nat → Int64} {R1 : Nat → Nat → Nat} {I2 : Nat → Nat → Int32} {J2 : Nat → Nat → Int64} {R2 : Nat → Nat → Nat} {i r1 r2 : Int32} (hG : aGd R) (hL : L < 2147483648) (b1 : i.toInt ≤ ((Int32.ofNat L) - 7).toInt) (n1 : 0 ≤ i.toInt) (m1 : i.toInt < L) (b2 : ((xs i.toNatClampNeg) &&& 31).toInt = 22) (n2 : 0 ≤ (i + 1).toInt) (m2 : (i + 1).toInt < L) (c1 : xEv L xs d 120 0 [.ref 0, .int (xs (i + 1).toNatClampNeg)] [] (124, I, J, R) (some (.int r1)) (124, I1, J1, R1)) (hG1 : aGd R1) (n3 : 0 ≤ (i + 1).toInt) (m3 : (i + 1).toInt < L) (c2 : xEv L xs d 222 0 [.ref 86, .int (xs (i + 1).toNatClampNeg), xmk] [] (124, I1, J1, R1) (some (.int r2)) (124, I2, J2, R2)) (hG2 : aGd R2) {v : Option Value} {h' : xH} (hk : xEv L xs (d + 1) 0 18 [.retAddr 0, .ref 0, .ref 86, .int (i + 7)] [] (124, I2, J2, R2) v h') : xEv L xs (d + 1) 0 18 [.retAddr 0, .ref 0, .ref 86, .int i] [] (124, I, J, R) v h' := by
  refine ev_go 2 (pc1 := 20) (lv1 := [.retAddr 0, .ref 0, .ref 86, .int i]) (st1 := [.retAddr 0, .int i]) (h1 := (124, I, J, R)) rfl ?_
  refine ev_slen hL rfl rfl ?_
  refine ev_go 2 (pc1 := 24) (lv1 := [.retAddr 0, .ref 0, .ref 86, .int i]) (st1 := [.int ((Int32.ofNat L) - 7), .int i]) (h1 := (124, I, J, R)) rfl ?_
  refine ev_br (b1 := false) rfl rfl (xcd_ngt (x := i) (y := ((Int32.ofNat L) - 7)) (by first | exact b1 | omega)) ?_
  refine ev_go 2 (pc1 := 29) (lv1 := [.retAddr 0, .ref 0, .ref 86, .int i]) (st1 := [.int i, .retAddr 0]) (h1 := (124, I, J, R)) rfl ?_
  refine ev_sld hL rfl rfl n1 m1 ?_
  refine ev_go 2 (pc1 := 33) (lv1 := [.retAddr 0, .ref 0, .ref 86, .int i]) (st1 := [.int ((xs i.toNatClampNeg) &&& 31)]) (h1 := (124, I, J, R)) rfl ?_
  refine ev_tk (x := ((xs i.toNatClampNeg) &&& 31)) (z := 22) (t := 954) rfl rfl b2 (by decide) rfl rfl ?_
  refine ev_go 5 (pc1 := 959) (lv1 := [.retAddr 0, .ref 0, .ref 86, .int i]) (st1 := [.int (i + 1), .retAddr 0, .ref 0]) (h1 := (124, I, J, R)) rfl ?_
  refine ev_sld hL rfl rfl n2 m2 ?_
  refine ev_call (v1 := (some (.int r1))) (h1 := (124, I1, J1, R1)) rfl rfl c1 ?_
  refine ev_go 6 (pc1 := 969) (lv1 := [.retAddr 0, .ref 0, .ref 86, .int i]) (st1 := [.int (i + 1), .retAddr 0, .ref 86]) (h1 := (124, I1, J1, R1)) rfl ?_
  refine ev_sld hL rfl rfl n3 m3 ?_
  refine ev_call (v1 := (some (.int r2))) (h1 := (124, I2, J2, R2)) rfl rfl c2 ?_
  refine ev_go 4 (pc1 := 18) (lv1 := [.retAddr 0, .ref 0, .ref 86, .int (i + 7)]) (st1 := []) (h1 := (124, I2, J2, R2)) rfl ?_
  exact hk
set_option maxRecDepth 20000 in
theorem la_23 {L : Nat} {xs : Nat → Int32} {d : Nat} {I : Nat → Nat → Int32} {J : Nat → Nat → Int64} {R : Nat → Nat → Nat} {I1 : Nat → Nat → Int32} {J1 : Nat → Nat → Int64} {R1 : Nat → Nat → Nat} {I2 : Nat → Nat → Int32} {J2 : Nat → Nat → Int64} {R2 : Nat → Nat → Nat} {i r1 r2 : Int32} (hG : aGd R) (hL : L < 2147483648) (b1 : i.toInt ≤ ((Int32.ofNat L) - 7).toInt) (n1 : 0 ≤ i.toInt) (m1 : i.toInt < L) (b2 : ((xs i.toNatClampNeg) &&& 31).toInt = 23) (n2 : 0 ≤ (i + 1).toInt) (m2 : (i + 1).toInt < L) (c1 : xEv L xs d 122 0 [.ref 0, .int (xs (i + 1).toNatClampNeg), xmk] [] (124, I, J, R) (some (.int r1)) (124, I1, J1, R1)) (hG1 : aGd R1) (n3 : 0 ≤ (i + 1).toInt) (m3 : (i + 1).toInt < L) (c2 : xEv L xs d 223 0 [.ref 86, .int (xs (i + 1).toNatClampNeg), xmk] [] (124, I1, J1, R1) (some (.int r2)) (124, I2, J2, R2)) (hG2 : aGd R2) {v : Option Value} {h' : xH} (hk : xEv L xs (d + 1) 0 18 [.retAddr 0, .ref 0, .ref 86, .int (i + 7)] [] (124, I2, J2, R2) v h') : xEv L xs (d + 1) 0 18 [.retAddr 0, .ref 0, .ref 86, .int i] [] (124, I, J, R) v h' := by
  refine ev_go 2 (pc1 := 20) (lv1 := [.retAddr 0, .ref 0, .ref 86, .int i]) (st1 := [.retAddr 0, .int i]) (h1 := (124, I, J, R)) rfl ?_
  refine ev_slen hL rfl rfl ?_
  refine ev_go 2 (pc1 := 24) (lv1 := [.retAddr 0, .ref 0, .ref 86, .int i]) (st1 := [.int ((Int32.ofNat L) - 7), .int i]) (h1 := (124, I, J, R)) rfl ?_
  refine ev_br (b1 := false) rfl rfl (xcd_ngt (x := i) (y := ((Int32.ofNat L) - 7)) (by first | exact b1 | omega)) ?_
  refine ev_go 2 (pc1 := 29) (lv1 := [.retAddr 0, .ref 0, .ref 86, .int i]) (st1 := [.int i, .retAddr 0]) (h1 := (124, I, J, R)) rfl ?_
  refine ev_sld hL rfl rfl n1 m1 ?_
  refine ev_go 2 (pc1 := 33) (lv1 := [.retAddr 0, .ref 0, .ref 86, .int i]) (st1 := [.int ((xs i.toNatClampNeg) &&& 31)]) (h1 := (124, I, J, R)) rfl ?_
  refine ev_tk (x := ((xs i.toNatClampNeg) &&& 31)) (z := 23) (t := 977) rfl rfl b2 (by decide) rfl rfl ?_
  refine ev_go 5 (pc1 := 982) (lv1 := [.retAddr 0, .ref 0, .ref 86, .int i]) (st1 := [.int (i + 1), .retAddr 0, .ref 0]) (h1 := (124, I, J, R)) rfl ?_
  refine ev_sld hL rfl rfl n2 m2 ?_
  refine ev_call (v1 := (some (.int r1))) (h1 := (124, I1, J1, R1)) rfl rfl c1 ?_
  refine ev_go 6 (pc1 := 992) (lv1 := [.retAddr 0, .ref 0, .ref 86, .int i]) (st1 := [.int (i + 1), .retAddr 0, .ref 86]) (h1 := (124, I1, J1, R1)) rfl ?_
  refine ev_sld hL rfl rfl n3 m3 ?_
  refine ev_call (v1 := (some (.int r2))) (h1 := (124, I2, J2, R2)) rfl rfl c2 ?_
  refine ev_go 4 (pc1 := 18) (lv1 := [.retAddr 0, .ref 0, .ref 86, .int (i + 7)]) (st1 := []) (h1 := (124, I2, J2, R2)) rfl ?_
  exact hk
set_option maxRecDepth 20000 in
theorem la_24 {L : Nat} {xs : Nat → Int32} {d : Nat} {I : Nat → Nat → Int32} {J : Nat → Nat → Int64} {R : Nat → Nat → Nat} {I1 : Nat → Nat → Int32} {J1 : Nat → Nat → Int64} {R1 : Nat → Nat → Nat} {I2 : Nat → Nat → Int32} {J2 : Nat → Nat → Int64} {R2 : Nat → Nat → Nat} {i r1 r2 : Int32} (hG : aGd R) (hL : L < 2147483648) (b1 : i.toInt ≤ ((Int32.ofNat L) - 7).toInt) (n1 : 0 ≤ i.toInt) (m1 : i.toInt < L) (b2 : ((xs i.toNatClampNeg) &&& 31).toInt = 24) (n2 : 0 ≤ (i + 1).toInt) (m2 : (i + 1).toInt < L) (n3 : 0 ≤ (i + 2).toInt) (m3 : (i + 2).toInt < L) (c1 : xEv L xs d 133 0 [.ref 0, .int (xs (i + 1).toNatClampNeg), .int (xs (i + 2).toNatClampNeg)] [] (124, I, J, R) (some (.int r1)) (124, I1, J1, R1)) (hG1 : aGd R1) (n4 : 0 ≤ (i + 1).toInt) (m4 : (i + 1).toInt < L) (n5 : 0 ≤ (i + 2).toInt) (m5 : (i + 2).toInt < L) (c2 : xEv L xs d 231 0 [.ref 86, .int (xs (i + 1).toNatClampNeg), .int (xs (i + 2).toNatClampNeg)] [] (124, I1, J1, R1) (some (.int r2)) (124, I2, J2, R2)) (hG2 : aGd R2) {v : Option Value} {h' : xH} (hk : xEv L xs (d + 1) 0 18 [.retAddr 0, .ref 0, .ref 86, .int (i + 7)] [] (124, I2, J2, R2) v h') : xEv L xs (d + 1) 0 18 [.retAddr 0, .ref 0, .ref 86, .int i] [] (124, I, J, R) v h' := by
  refine ev_go 2 (pc1 := 20) (lv1 := [.retAddr 0, .ref 0, .ref 86, .int i]) (st1 := [.retAddr 0, .int i]) (h1 := (124, I, J, R)) rfl ?_
  refine ev_slen hL rfl rfl ?_
  refine ev_go 2 (pc1 := 24) (lv1 := [.retAddr 0, .ref 0, .ref 86, .int i]) (st1 := [.int ((Int32.ofNat L) - 7), .int i]) (h1 := (124, I, J, R)) rfl ?_
  refine ev_br (b1 := false) rfl rfl (xcd_ngt (x := i) (y := ((Int32.ofNat L) - 7)) (by first | exact b1 | omega)) ?_
  refine ev_go 2 (pc1 := 29) (lv1 := [.retAddr 0, .ref 0, .ref 86, .int i]) (st1 := [.int i, .retAddr 0]) (h1 := (124, I, J, R)) rfl ?_
  refine ev_sld hL rfl rfl n1 m1 ?_
  refine ev_go 2 (pc1 := 33) (lv1 := [.retAddr 0, .ref 0, .ref 86, .int i]) (st1 := [.int ((xs i.toNatClampNeg) &&& 31)]) (h1 := (124, I, J, R)) rfl ?_
  refine ev_tk (x := ((xs i.toNatClampNeg) &&& 31)) (z := 24) (t := 1000) rfl rfl b2 (by decide) rfl rfl ?_
  refine ev_go 5 (pc1 := 1005) (lv1 := [.retAddr 0, .ref 0, .ref 86, .int i]) (st1 := [.int (i + 1), .retAddr 0, .ref 0]) (h1 := (124, I, J, R)) rfl ?_
  refine ev_sld hL rfl rfl n2 m2 ?_
  refine ev_go 4 (pc1 := 1010) (lv1 := [.retAddr 0, .ref 0, .ref 86, .int i]) (st1 := [.int (i + 2), .retAddr 0, .int (xs (i + 1).toNatClampNeg), .ref 0]) (h1 := (124, I, J, R)) rfl ?_
  refine ev_sld hL rfl rfl n3 m3 ?_
  refine ev_call (v1 := (some (.int r1))) (h1 := (124, I1, J1, R1)) rfl rfl c1 ?_
  refine ev_go 6 (pc1 := 1020) (lv1 := [.retAddr 0, .ref 0, .ref 86, .int i]) (st1 := [.int (i + 1), .retAddr 0, .ref 86]) (h1 := (124, I1, J1, R1)) rfl ?_
  refine ev_sld hL rfl rfl n4 m4 ?_
  refine ev_go 4 (pc1 := 1025) (lv1 := [.retAddr 0, .ref 0, .ref 86, .int i]) (st1 := [.int (i + 2), .retAddr 0, .int (xs (i + 1).toNatClampNeg), .ref 86]) (h1 := (124, I1, J1, R1)) rfl ?_
  refine ev_sld hL rfl rfl n5 m5 ?_
  refine ev_call (v1 := (some (.int r2))) (h1 := (124, I2, J2, R2)) rfl rfl c2 ?_
  refine ev_go 4 (pc1 := 18) (lv1 := [.retAddr 0, .ref 0, .ref 86, .int (i + 7)]) (st1 := []) (h1 := (124, I2, J2, R2)) rfl ?_
  exact hk
set_option maxRecDepth 20000 in
theorem la_25 {L : Nat} {xs : Nat → Int32} {d : Nat} {I : Nat → Nat → Int32} {J : Nat → Nat → Int64} {R : Nat → Nat → Nat} {I1 : Nat → Nat → Int32} {J1 : Nat → Nat → Int64} {R1 : Nat → Nat → Nat} {I2 : Nat → Nat → Int32} {J2 : Nat → Nat → Int64} {R2 : Nat → Nat → Nat} {i r1 r2 : Int32} (hG : aGd R) (hL : L < 2147483648) (b1 : i.toInt ≤ ((Int32.ofNat L) - 7).toInt) (n1 : 0 ≤ i.toInt) (m1 : i.toInt < L) (b2 : ((xs i.toNatClampNeg) &&& 31).toInt = 25) (n2 : 0 ≤ (i + 1).toInt) (m2 : (i + 1).toInt < L) (n3 : 0 ≤ (i + 2).toInt) (m3 : (i + 2).toInt < L) (c1 : xEv L xs d 134 0 [.ref 0, .int (xs (i + 1).toNatClampNeg), .int (xs (i + 2).toNatClampNeg)] [] (124, I, J, R) (some (.int r1)) (124, I1, J1, R1)) (hG1 : aGd R1) (n4 : 0 ≤ (i + 1).toInt) (m4 : (i + 1).toInt < L) (n5 : 0 ≤ (i + 2).toInt) (m5 : (i + 2).toInt < L) (c2 : xEv L xs d 232 0 [.ref 86, .int (xs (i + 1).toNatClampNeg), .int (xs (i + 2).toNatClampNeg)] [] (124, I1, J1, R1) (some (.int r2)) (124, I2, J2, R2)) (hG2 : aGd R2) {v : Option Value} {h' : xH} (hk : xEv L xs (d + 1) 0 18 [.retAddr 0, .ref 0, .ref 86, .int (i + 7)] [] (124, I2, J2, R2) v h') : xEv L xs (d + 1) 0 18 [.retAddr 0, .ref 0, .ref 86, .int i] [] (124, I, J, R) v h' := by
  refine ev_go 2 (pc1 := 20) (lv1 := [.retAddr 0, .ref 0, .ref 86, .int i]) (st1 := [.retAddr 0, .int i]) (h1 := (124, I, J, R)) rfl ?_
  refine ev_slen hL rfl rfl ?_
  refine ev_go 2 (pc1 := 24) (lv1 := [.retAddr 0, .ref 0, .ref 86, .int i]) (st1 := [.int ((Int32.ofNat L) - 7), .int i]) (h1 := (124, I, J, R)) rfl ?_
  refine ev_br (b1 := false) rfl rfl (xcd_ngt (x := i) (y := ((Int32.ofNat L) - 7)) (by first | exact b1 | omega)) ?_
  refine ev_go 2 (pc1 := 29) (lv1 := [.retAddr 0, .ref 0, .ref 86, .int i]) (st1 := [.int i, .retAddr 0]) (h1 := (124, I, J, R)) rfl ?_
  refine ev_sld hL rfl rfl n1 m1 ?_
  refine ev_go 2 (pc1 := 33) (lv1 := [.retAddr 0, .ref 0, .ref 86, .int i]) (st1 := [.int ((xs i.toNatClampNeg) &&& 31)]) (h1 := (124, I, J, R)) rfl ?_
  refine ev_tk (x := ((xs i.toNatClampNeg) &&& 31)) (z := 25) (t := 1033) rfl rfl b2 (by decide) rfl rfl ?_
  refine ev_go 5 (pc1 := 1038) (lv1 := [.retAddr 0, .ref 0, .ref 86, .int i]) (st1 := [.int (i + 1), .retAddr 0, .ref 0]) (h1 := (124, I, J, R)) rfl ?_
  refine ev_sld hL rfl rfl n2 m2 ?_
  refine ev_go 4 (pc1 := 1043) (lv1 := [.retAddr 0, .ref 0, .ref 86, .int i]) (st1 := [.int (i + 2), .retAddr 0, .int (xs (i + 1).toNatClampNeg), .ref 0]) (h1 := (124, I, J, R)) rfl ?_
  refine ev_sld hL rfl rfl n3 m3 ?_
  refine ev_call (v1 := (some (.int r1))) (h1 := (124, I1, J1, R1)) rfl rfl c1 ?_
  refine ev_go 6 (pc1 := 1053) (lv1 := [.retAddr 0, .ref 0, .ref 86, .int i]) (st1 := [.int (i + 1), .retAddr 0, .ref 86]) (h1 := (124, I1, J1, R1)) rfl ?_
  refine ev_sld hL rfl rfl n4 m4 ?_
  refine ev_go 4 (pc1 := 1058) (lv1 := [.retAddr 0, .ref 0, .ref 86, .int i]) (st1 := [.int (i + 2), .retAddr 0, .int (xs (i + 1).toNatClampNeg), .ref 86]) (h1 := (124, I1, J1, R1)) rfl ?_
  refine ev_sld hL rfl rfl n5 m5 ?_
  refine ev_call (v1 := (some (.int r2))) (h1 := (124, I2, J2, R2)) rfl rfl c2 ?_
  refine ev_go 4 (pc1 := 18) (lv1 := [.retAddr 0, .ref 0, .ref 86, .int (i + 7)]) (st1 := []) (h1 := (124, I2, J2, R2)) rfl ?_
  exact hk
set_option maxRecDepth 20000 in
theorem la_26 {L : Nat} {xs : Nat → Int32} {d : Nat} {I : Nat → Nat → Int32} {J : Nat → Nat → Int64} {R : Nat → Nat → Nat} {I1 : Nat → Nat → Int32} {J1 : Nat → Nat → Int64} {R1 : Nat → Nat → Nat} {I2 : Nat → Nat → Int32} {J2 : Nat → Nat → Int64} {R2 : Nat → Nat → Nat} {i r1 r2 : Int32} (hG : aGd R) (hL : L < 2147483648) (b1 : i.toInt ≤ ((Int32.ofNat L) - 7).toInt) (n1 : 0 ≤ i.toInt) (m1 : i.toInt < L) (b2 : ((xs i.toNatClampNeg) &&& 31).toInt = 26) (n2 : 0 ≤ (i + 1).toInt) (m2 : (i + 1).toInt < L) (c1 : xEv L xs d 135 0 [.ref 0, .int (xs (i + 1).toNatClampNeg), xmk] [] (124, I, J, R) (some (.int r1)) (124, I1, J1, R1)) (hG1 : aGd R1) (n3 : 0 ≤ (i + 1).toInt) (m3 : (i + 1).toInt < L) (c2 : xEv L xs d 233 0 [.ref 86, .int (xs (i + 1).toNatClampNeg), xmk] [] (124, I1, J1, R1) (some (.int r2)) (124, I2, J2, R2)) (hG2 : aGd R2) {v : Option Value} {h' : xH} (hk : xEv L xs (d + 1) 0 18 [.retAddr 0, .ref 0, .ref 86, .int (i + 7)] [] (124, I2, J2, R2) v h') : xEv L xs (d + 1) 0 18 [.retAddr 0, .ref 0, .ref 86, .int i] [] (124, I, J, R) v h' := by
  refine ev_go 2 (pc1 := 20) (lv1 := [.retAddr 0, .ref 0, .ref 86, .int i]) (st1 := [.retAddr 0, .int i]) (h1 := (124, I, J, R)) rfl ?_
  refine ev_slen hL rfl rfl ?_
  refine ev_go 2 (pc1 := 24) (lv1 := [.retAddr 0, .ref 0, .ref 86, .int i]) (st1 := [.int ((Int32.ofNat L) - 7), .int i]) (h1 := (124, I, J, R)) rfl ?_
  refine ev_br (b1 := false) rfl rfl (xcd_ngt (x := i) (y := ((Int32.ofNat L) - 7)) (by first | exact b1 | omega)) ?_
  refine ev_go 2 (pc1 := 29) (lv1 := [.retAddr 0, .ref 0, .ref 86, .int i]) (st1 := [.int i, .retAddr 0]) (h1 := (124, I, J, R)) rfl ?_
  refine ev_sld hL rfl rfl n1 m1 ?_
  refine ev_go 2 (pc1 := 33) (lv1 := [.retAddr 0, .ref 0, .ref 86, .int i]) (st1 := [.int ((xs i.toNatClampNeg) &&& 31)]) (h1 := (124, I, J, R)) rfl ?_
  refine ev_tk (x := ((xs i.toNatClampNeg) &&& 31)) (z := 26) (t := 1066) rfl rfl b2 (by decide) rfl rfl ?_
  refine ev_go 5 (pc1 := 1071) (lv1 := [.retAddr 0, .ref 0, .ref 86, .int i]) (st1 := [.int (i + 1), .retAddr 0, .ref 0]) (h1 := (124, I, J, R)) rfl ?_
  refine ev_sld hL rfl rfl n2 m2 ?_
  refine ev_call (v1 := (some (.int r1))) (h1 := (124, I1, J1, R1)) rfl rfl c1 ?_
  refine ev_go 6 (pc1 := 1081) (lv1 := [.retAddr 0, .ref 0, .ref 86, .int i]) (st1 := [.int (i + 1), .retAddr 0, .ref 86]) (h1 := (124, I1, J1, R1)) rfl ?_
  refine ev_sld hL rfl rfl n3 m3 ?_
  refine ev_call (v1 := (some (.int r2))) (h1 := (124, I2, J2, R2)) rfl rfl c2 ?_
  refine ev_go 4 (pc1 := 18) (lv1 := [.retAddr 0, .ref 0, .ref 86, .int (i + 7)]) (st1 := []) (h1 := (124, I2, J2, R2)) rfl ?_
  exact hk
set_option maxRecDepth 20000 in
theorem la_27 {L : Nat} {xs : Nat → Int32} {d : Nat} {I : Nat → Nat → Int32} {J : Nat → Nat → Int64} {R : Nat → Nat → Nat} {I1 : Nat → Nat → Int32} {J1 : Nat → Nat → Int64} {R1 : Nat → Nat → Nat} {I2 : Nat → Nat → Int32} {J2 : Nat → Nat → Int64} {R2 : Nat → Nat → Nat} {i r1 r2 : Int32} (hG : aGd R) (hL : L < 2147483648) (b1 : i.toInt ≤ ((Int32.ofNat L) - 7).toInt) (n1 : 0 ≤ i.toInt) (m1 : i.toInt < L) (b2 : ((xs i.toNatClampNeg) &&& 31).toInt = 27) (n2 : 0 ≤ (i + 1).toInt) (m2 : (i + 1).toInt < L) (c1 : xEv L xs d 138 0 [.ref 0, .int (xs (i + 1).toNatClampNeg), xmk] [] (124, I, J, R) (some (.int r1)) (124, I1, J1, R1)) (hG1 : aGd R1) (n3 : 0 ≤ (i + 1).toInt) (m3 : (i + 1).toInt < L) (c2 : xEv L xs d 235 0 [.ref 86, .int (xs (i + 1).toNatClampNeg), xmk] [] (124, I1, J1, R1) (some (.int r2)) (124, I2, J2, R2)) (hG2 : aGd R2) {v : Option Value} {h' : xH} (hk : xEv L xs (d + 1) 0 18 [.retAddr 0, .ref 0, .ref 86, .int (i + 7)] [] (124, I2, J2, R2) v h') : xEv L xs (d + 1) 0 18 [.retAddr 0, .ref 0, .ref 86, .int i] [] (124, I, J, R) v h' := by
  refine ev_go 2 (pc1 := 20) (lv1 := [.retAddr 0, .ref 0, .ref 86, .int i]) (st1 := [.retAddr 0, .int i]) (h1 := (124, I, J, R)) rfl ?_
  refine ev_slen hL rfl rfl ?_
  refine ev_go 2 (pc1 := 24) (lv1 := [.retAddr 0, .ref 0, .ref 86, .int i]) (st1 := [.int ((Int32.ofNat L) - 7), .int i]) (h1 := (124, I, J, R)) rfl ?_
  refine ev_br (b1 := false) rfl rfl (xcd_ngt (x := i) (y := ((Int32.ofNat L) - 7)) (by first | exact b1 | omega)) ?_
  refine ev_go 2 (pc1 := 29) (lv1 := [.retAddr 0, .ref 0, .ref 86, .int i]) (st1 := [.int i, .retAddr 0]) (h1 := (124, I, J, R)) rfl ?_
  refine ev_sld hL rfl rfl n1 m1 ?_
  refine ev_go 2 (pc1 := 33) (lv1 := [.retAddr 0, .ref 0, .ref 86, .int i]) (st1 := [.int ((xs i.toNatClampNeg) &&& 31)]) (h1 := (124, I, J, R)) rfl ?_
  refine ev_tk (x := ((xs i.toNatClampNeg) &&& 31)) (z := 27) (t := 1089) rfl rfl b2 (by decide) rfl rfl ?_
  refine ev_go 5 (pc1 := 1094) (lv1 := [.retAddr 0, .ref 0, .ref 86, .int i]) (st1 := [.int (i + 1), .retAddr 0, .ref 0]) (h1 := (124, I, J, R)) rfl ?_
  refine ev_sld hL rfl rfl n2 m2 ?_
  refine ev_call (v1 := (some (.int r1))) (h1 := (124, I1, J1, R1)) rfl rfl c1 ?_
  refine ev_go 6 (pc1 := 1104) (lv1 := [.retAddr 0, .ref 0, .ref 86, .int i]) (st1 := [.int (i + 1), .retAddr 0, .ref 86]) (h1 := (124, I1, J1, R1)) rfl ?_
  refine ev_sld hL rfl rfl n3 m3 ?_
  refine ev_call (v1 := (some (.int r2))) (h1 := (124, I2, J2, R2)) rfl rfl c2 ?_
  refine ev_go 4 (pc1 := 18) (lv1 := [.retAddr 0, .ref 0, .ref 86, .int (i + 7)]) (st1 := []) (h1 := (124, I2, J2, R2)) rfl ?_
  exact hk
set_option maxRecDepth 20000 in
theorem la_28 {L : Nat} {xs : Nat → Int32} {d : Nat} {I : Nat → Nat → Int32} {J : Nat → Nat → Int64} {R : Nat → Nat → Nat} {I1 : Nat → Nat → Int32} {J1 : Nat → Nat → Int64} {R1 : Nat → Nat → Nat} {I2 : Nat → Nat → Int32} {J2 : Nat → Nat → Int64} {R2 : Nat → Nat → Nat} {i r1 r2 : Int32} (hG : aGd R) (hL : L < 2147483648) (b1 : i.toInt ≤ ((Int32.ofNat L) - 7).toInt) (n1 : 0 ≤ i.toInt) (m1 : i.toInt < L) (b2 : ((xs i.toNatClampNeg) &&& 31).toInt = 28) (n2 : 0 ≤ (i + 1).toInt) (m2 : (i + 1).toInt < L) (c1 : xEv L xs d 139 0 [.ref 0, .int (xs (i + 1).toNatClampNeg)] [] (124, I, J, R) (some (.int r1)) (124, I1, J1, R1)) (hG1 : aGd R1) (n3 : 0 ≤ (i + 1).toInt) (m3 : (i + 1).toInt < L) (c2 : xEv L xs d 236 0 [.ref 86, .int (xs (i + 1).toNatClampNeg)] [] (124, I1, J1, R1) (some (.int r2)) (124, I2, J2, R2)) (hG2 : aGd R2) {v : Option Value} {h' : xH} (hk : xEv L xs (d + 1) 0 18 [.retAddr 0, .ref 0, .ref 86, .int (i + 7)] [] (124, I2, J2, R2) v h') : xEv L xs (d + 1) 0 18 [.retAddr 0, .ref 0, .ref 86, .int i] [] (124, I, J, R) v h' := by
  refine ev_go 2 (pc1 := 20) (lv1 := [.retAddr 0, .ref 0, .ref 86, .int i]) (st1 := [.retAddr 0, .int i]) (h1 := (124, I, J, R)) rfl ?_
  refine ev_slen hL rfl rfl ?_
  refine ev_go 2 (pc1 := 24) (lv1 := [.retAddr 0, .ref 0, .ref 86, .int i]) (st1 := [.int ((Int32.ofNat L) - 7), .int i]) (h1 := (124, I, J, R)) rfl ?_
  refine ev_br (b1 := false) rfl rfl (xcd_ngt (x := i) (y := ((Int32.ofNat L) - 7)) (by first | exact b1 | omega)) ?_
  refine ev_go 2 (pc1 := 29) (lv1 := [.retAddr 0, .ref 0, .ref 86, .int i]) (st1 := [.int i, .retAddr 0]) (h1 := (124, I, J, R)) rfl ?_
  refine ev_sld hL rfl rfl n1 m1 ?_
  refine ev_go 2 (pc1 := 33) (lv1 := [.retAddr 0, .ref 0, .ref 86, .int i]) (st1 := [.int ((xs i.toNatClampNeg) &&& 31)]) (h1 := (124, I, J, R)) rfl ?_
  refine ev_tk (x := ((xs i.toNatClampNeg) &&& 31)) (z := 28) (t := 1112) rfl rfl b2 (by decide) rfl rfl ?_
  refine ev_go 5 (pc1 := 1117) (lv1 := [.retAddr 0, .ref 0, .ref 86, .int i]) (st1 := [.int (i + 1), .retAddr 0, .ref 0]) (h1 := (124, I, J, R)) rfl ?_
  refine ev_sld hL rfl rfl n2 m2 ?_
  refine ev_call (v1 := (some (.int r1))) (h1 := (124, I1, J1, R1)) rfl rfl c1 ?_
  refine ev_go 6 (pc1 := 1127) (lv1 := [.retAddr 0, .ref 0, .ref 86, .int i]) (st1 := [.int (i + 1), .retAddr 0, .ref 86]) (h1 := (124, I1, J1, R1)) rfl ?_
  refine ev_sld hL rfl rfl n3 m3 ?_
  refine ev_call (v1 := (some (.int r2))) (h1 := (124, I2, J2, R2)) rfl rfl c2 ?_
  refine ev_go 4 (pc1 := 18) (lv1 := [.retAddr 0, .ref 0, .ref 86, .int (i + 7)]) (st1 := []) (h1 := (124, I2, J2, R2)) rfl ?_
  exact hk
set_option maxRecDepth 20000 in
theorem la_d {L : Nat} {xs : Nat → Int32} {d : Nat} {I : Nat → Nat → Int32} {J : Nat → Nat → Int64} {R : Nat → Nat → Nat} {i : Int32} (hG : aGd R) (hL : L < 2147483648) (b1 : i.toInt ≤ ((Int32.ofNat L) - 7).toInt) (n1 : 0 ≤ i.toInt) (m1 : i.toInt < L) (b2 : ((xs i.toNatClampNeg) &&& 31).toInt < 0 ∨ 28 < ((xs i.toNatClampNeg) &&& 31).toInt) {v : Option Value} {h' : xH} (hk : xEv L xs d 0 18 [.retAddr 0, .ref 0, .ref 86, .int (i + 7)] [] (124, I, J, R) v h') : xEv L xs d 0 18 [.retAddr 0, .ref 0, .ref 86, .int i] [] (124, I, J, R) v h' := by
  refine ev_go 2 (pc1 := 20) (lv1 := [.retAddr 0, .ref 0, .ref 86, .int i]) (st1 := [.retAddr 0, .int i]) (h1 := (124, I, J, R)) rfl ?_
  refine ev_slen hL rfl rfl ?_
  refine ev_go 2 (pc1 := 24) (lv1 := [.retAddr 0, .ref 0, .ref 86, .int i]) (st1 := [.int ((Int32.ofNat L) - 7), .int i]) (h1 := (124, I, J, R)) rfl ?_
  refine ev_br (b1 := false) rfl rfl (xcd_ngt (x := i) (y := ((Int32.ofNat L) - 7)) (by first | exact b1 | omega)) ?_
  refine ev_go 2 (pc1 := 29) (lv1 := [.retAddr 0, .ref 0, .ref 86, .int i]) (st1 := [.int i, .retAddr 0]) (h1 := (124, I, J, R)) rfl ?_
  refine ev_sld hL rfl rfl n1 m1 ?_
  refine ev_go 2 (pc1 := 33) (lv1 := [.retAddr 0, .ref 0, .ref 86, .int i]) (st1 := [.int ((xs i.toNatClampNeg) &&& 31)]) (h1 := (124, I, J, R)) rfl ?_
  refine ev_tab (x := ((xs i.toNatClampNeg) &&& 31)) (t := 1135) rfl rfl b2 rfl ?_
  refine ev_go 2 (pc1 := 18) (lv1 := [.retAddr 0, .ref 0, .ref 86, .int (i + 7)]) (st1 := []) (h1 := (124, I, J, R)) rfl ?_
  exact hk
set_option maxRecDepth 20000 in
theorem la_e {L : Nat} {xs : Nat → Int32} {d : Nat} {I : Nat → Nat → Int32} {J : Nat → Nat → Int64} {R : Nat → Nat → Nat} {i : Int32} (hG : aGd R) (hL : L < 2147483648) (b1 : i.toInt > ((Int32.ofNat L) - 7).toInt) : xEv L xs d 0 18 [.retAddr 0, .ref 0, .ref 86, .int i] [] (124, I, J, R) (some (.int 1)) (124, I, J, R) := by
  refine ev_go 2 (pc1 := 20) (lv1 := [.retAddr 0, .ref 0, .ref 86, .int i]) (st1 := [.retAddr 0, .int i]) (h1 := (124, I, J, R)) rfl ?_
  refine ev_slen hL rfl rfl ?_
  refine ev_go 2 (pc1 := 24) (lv1 := [.retAddr 0, .ref 0, .ref 86, .int i]) (st1 := [.int ((Int32.ofNat L) - 7), .int i]) (h1 := (124, I, J, R)) rfl ?_
  refine ev_br (b1 := true) rfl rfl (xcd_gt (x := i) (y := ((Int32.ofNat L) - 7)) (by first | exact b1 | omega)) ?_
  refine ev_go 1 (pc1 := 1142) (lv1 := [.retAddr 0, .ref 0, .ref 86, .int i]) (st1 := [.int 1]) (h1 := (124, I, J, R)) rfl ?_
  exact ev_ret rfl rfl
theorem law_main {L : Nat} {xs : Nat → Int32} (hL : L ≤ 3584) : ∀ (q : Nat) (i : Int32) (I : Nat → Nat → Int32) (J : Nat → Nat → Int64) (R : Nat → Nat → Nat), (3600 - i.toInt).toNat ≤ q → 0 ≤ i.toInt → i.toInt ≤ 3584 → aGood (124, I, J, R) → lwI I R → ∃ (I' : Nat → Nat → Int32) (J' : Nat → Nat → Int64) (R' : Nat → Nat → Nat), xEv L xs 20 0 18 [.retAddr 0, .ref 0, .ref 86, .int i] [] (124, I, J, R) (some (.int 1)) (124, I', J', R') := by
  have hL2 : L < 2147483648 := by omega
  have eL : (Int32.ofNat L).toInt = L := Int32.toInt_ofNat_of_lt hL2
  have e7 : (Int32.ofNat L - 7).toInt = L - 7 := by
    rw [i_sub (by rw [eL, show (7 : Int32).toInt = 7 from by decide]; omega) (by rw [eL, show (7 : Int32).toInt = 7 from by decide]; omega), eL]
    rfl
  intro q
  induction q with
  | zero => intro i I J R h1 h2 h3; omega
  | succ q ih =>
    intro i I J R h1 h2 h3 hg hT
    have hG := gd_of hg
    by_cases hx : i.toInt > (Int32.ofNat L - 7).toInt
    · exact ⟨_, _, _, la_e hG hL2 hx⟩
    have hx' : i.toInt ≤ (Int32.ofNat L - 7).toInt := by omega
    have ea : ∀ (k : Int32) (z : Int), k.toInt = z → 0 ≤ z → z ≤ 7 → (i + k).toInt = i.toInt + z := by
      intro k z hk hz0 hz
      rw [i_add (by rw [hk]; omega) (by rw [hk]; omega), hk]
    have a1 := ea 1 1 (by decide) (by decide) (by decide)
    have a2 := ea 2 2 (by decide) (by decide) (by decide)
    have a3 := ea 3 3 (by decide) (by decide) (by decide)
    have a4 := ea 4 4 (by decide) (by decide) (by decide)
    have a5 := ea 5 5 (by decide) (by decide) (by decide)
    have a6 := ea 6 6 (by decide) (by decide) (by decide)
    have a7 := ea 7 7 (by decide) (by decide) (by decide)
    have nx : ∀ (I : Nat → Nat → Int32) (J : Nat → Nat → Int64) (R : Nat → Nat → Nat), aGood (124, I, J, R) → lwI I R → ∃ (I' : Nat → Nat → Int32) (J' : Nat → Nat → Int64) (R' : Nat → Nat → Nat), xEv L xs 20 0 18 [.retAddr 0, .ref 0, .ref 86, .int (i + 7)] [] (124, I, J, R) (some (.int 1)) (124, I', J', R') := fun I J R g hT => ih (i + 7) I J R (by omega) (by omega) (by omega) g hT
    have hk := ai_andr (x := xs i.toNatClampNeg) (y := 31) (by decide)
    have hk2 : (xs i.toNatClampNeg &&& 31).toInt ≤ 31 := hk.2
    obtain ⟨k, ek⟩ := Int.eq_ofNat_of_zero_le hk.1
    have hk3 : k < 32 := by omega
    clear hk hk2
    match k, hk3, ek with
    | 0, _, ek =>
      obtain ⟨r1, r2, I1, I2, J1, J2, R1, R2, c1, c2, g1, g2, hT2, e⟩ := sp_feed (L := L) (xs := xs) hg hT (xs (i + 1).toNatClampNeg) (xs (i + 2).toNatClampNeg) (xs (i + 3).toNatClampNeg) (xs (i + 4).toNatClampNeg) (xs (i + 5).toNatClampNeg)
      obtain ⟨I', J', R', z⟩ := nx I2 J2 R2 g2 hT2
      exact ⟨I', J', R', la_0 hG hL2 hx' h2 (by omega) ek (by omega) (by omega) (by omega) (by omega) (by omega) (by omega) (by omega) (by omega) (by omega) (by omega) c1 (gd_of g1) (by omega) (by omega) (by omega) (by omega) (by omega) (by omega) (by omega) (by omega) (by omega) (by omega) c2 (gd_of g2) z⟩
    | 1, _, ek =>
      obtain ⟨r1, r2, I1, I2, J1, J2, R1, R2, c1, c2, g1, g2, hT2, e⟩ := sp_end (L := L) (xs := xs) hg hT (xs (i + 1).toNatClampNeg)
      obtain ⟨I', J', R', z⟩ := nx I2 J2 R2 g2 hT2
      exact ⟨I', J', R', la_1 hG hL2 hx' h2 (by omega) ek (by omega) (by omega) c1 (gd_of g1) (by omega) (by omega) c2 (gd_of g2) z⟩
    | 2, _, ek =>
      obtain ⟨r1, r2, I1, I2, J1, J2, R1, R2, c1, c2, g1, g2, hT2, e⟩ := sp_village (L := L) (xs := xs) hg hT
      obtain ⟨I', J', R', z⟩ := nx I2 J2 R2 g2 hT2
      exact ⟨I', J', R', la_2 hG hL2 hx' h2 (by omega) ek c1 (gd_of g1) c2 (gd_of g2) z⟩
    | 3, _, ek =>
      obtain ⟨r1, r2, I1, I2, J1, J2, R1, R2, c1, c2, g1, g2, hT2, e⟩ := sp_fault (L := L) (xs := xs) hg hT (xs (i + 1).toNatClampNeg)
      obtain ⟨I', J', R', z⟩ := nx I2 J2 R2 g2 hT2
      exact ⟨I', J', R', la_3 hG hL2 hx' h2 (by omega) ek (by omega) (by omega) c1 (gd_of g1) (by omega) (by omega) c2 (gd_of g2) z⟩
    | 4, _, ek =>
      obtain ⟨r1, r2, I1, I2, J1, J2, R1, R2, c1, c2, g1, g2, hT2⟩ := sp_told (L := L) (xs := xs) hg hT (xs (i + 1).toNatClampNeg)
      obtain ⟨I', J', R', z⟩ := nx I2 J2 R2 g2 hT2
      exact ⟨I', J', R', la_4 hG hL2 hx' h2 (by omega) ek (by omega) (by omega) c1 (gd_of g1) (by omega) (by omega) c2 (gd_of g2) z⟩
    | 5, _, ek =>
      obtain ⟨r1, r2, I1, I2, J1, J2, R1, R2, c1, c2, g1, g2, hT2⟩ := sp_meeting (L := L) (xs := xs) hg hT (xs (i + 1).toNatClampNeg) (xs (i + 2).toNatClampNeg)
      obtain ⟨I', J', R', z⟩ := nx I2 J2 R2 g2 hT2
      exact ⟨I', J', R', la_5 hG hL2 hx' h2 (by omega) ek (by omega) (by omega) (by omega) (by omega) c1 (gd_of g1) (by omega) (by omega) (by omega) (by omega) c2 (gd_of g2) z⟩
    | 6, _, ek =>
      obtain ⟨r1, r2, I1, I2, J1, J2, R1, R2, c1, c2, g1, g2, hT2⟩ := sp_time (L := L) (xs := xs) hg hT (xs (i + 1).toNatClampNeg) (xs (i + 2).toNatClampNeg)
      obtain ⟨I', J', R', z⟩ := nx I2 J2 R2 g2 hT2
      exact ⟨I', J', R', la_6 hG hL2 hx' h2 (by omega) ek (by omega) (by omega) (by omega) (by omega) c1 (gd_of g1) (by omega) (by omega) (by omega) (by omega) c2 (gd_of g2) z⟩
    | 7, _, ek =>
      obtain ⟨r1, r2, I1, I2, J1, J2, R1, R2, c1, c2, g1, g2, hT2⟩ := sp_judge (L := L) (xs := xs) hg hT
      obtain ⟨I', J', R', z⟩ := nx I2 J2 R2 g2 hT2
      exact ⟨I', J', R', la_7 hG hL2 hx' h2 (by omega) ek c1 (gd_of g1) c2 (gd_of g2) z⟩
    | 8, _, ek =>
      obtain ⟨r1, r2, I1, I2, J1, J2, R1, R2, c1, c2, g1, g2, hT2⟩ := sp_judged (L := L) (xs := xs) hg hT (xs (i + 1).toNatClampNeg) (xs (i + 2).toNatClampNeg)
      obtain ⟨I', J', R', z⟩ := nx I2 J2 R2 g2 hT2
      exact ⟨I', J', R', la_8 hG hL2 hx' h2 (by omega) ek (by omega) (by omega) (by omega) (by omega) c1 (gd_of g1) (by omega) (by omega) (by omega) (by omega) c2 (gd_of g2) z⟩
    | 9, _, ek =>
      obtain ⟨r1, r2, I1, I2, J1, J2, R1, R2, c1, c2, g1, g2, hT2⟩ := sp_soon (L := L) (xs := xs) hg hT (xs (i + 1).toNatClampNeg) (xs (i + 2).toNatClampNeg) (xs (i + 3).toNatClampNeg) (xs (i + 4).toNatClampNeg)
      obtain ⟨I', J', R', z⟩ := nx I2 J2 R2 g2 hT2
      exact ⟨I', J', R', la_9 hG hL2 hx' h2 (by omega) ek (by omega) (by omega) (by omega) (by omega) (by omega) (by omega) (by omega) (by omega) c1 (gd_of g1) (by omega) (by omega) (by omega) (by omega) (by omega) (by omega) (by omega) (by omega) c2 (gd_of g2) z⟩
    | 10, _, ek =>
      obtain ⟨r1, r2, I1, I2, J1, J2, R1, R2, c1, c2, g1, g2, hT2⟩ := sp_surest (L := L) (xs := xs) hg hT (xs (i + 1).toNatClampNeg) (xs (i + 2).toNatClampNeg) (xs (i + 3).toNatClampNeg) (xs (i + 4).toNatClampNeg) (xs (i + 5).toNatClampNeg) (xs (i + 6).toNatClampNeg)
      obtain ⟨I', J', R', z⟩ := nx I2 J2 R2 g2 hT2
      exact ⟨I', J', R', la_10 hG hL2 hx' h2 (by omega) ek (by omega) (by omega) (by omega) (by omega) (by omega) (by omega) (by omega) (by omega) (by omega) (by omega) (by omega) (by omega) c1 (gd_of g1) (by omega) (by omega) (by omega) (by omega) (by omega) (by omega) (by omega) (by omega) (by omega) (by omega) (by omega) (by omega) c2 (gd_of g2) z⟩
    | 11, _, ek =>
      obtain ⟨r1, r2, I1, I2, J1, J2, R1, R2, c1, c2, g1, g2, hT2⟩ := sp_bars (L := L) (xs := xs) hg hT (xs (i + 1).toNatClampNeg) (xs (i + 2).toNatClampNeg) (xs (i + 3).toNatClampNeg) (xs (i + 4).toNatClampNeg)
      obtain ⟨I', J', R', z⟩ := nx I2 J2 R2 g2 hT2
      exact ⟨I', J', R', la_11 hG hL2 hx' h2 (by omega) ek (by omega) (by omega) (by omega) (by omega) (by omega) (by omega) (by omega) (by omega) c1 (gd_of g1) (by omega) (by omega) (by omega) (by omega) (by omega) (by omega) (by omega) (by omega) c2 (gd_of g2) z⟩
    | 12, _, ek =>
      obtain ⟨r1, r2, I1, I2, J1, J2, R1, R2, c1, c2, g1, g2, hT2⟩ := sp_all (L := L) (xs := xs) hg hT (xs (i + 1).toNatClampNeg)
      obtain ⟨I', J', R', z⟩ := nx I2 J2 R2 g2 hT2
      exact ⟨I', J', R', la_12 hG hL2 hx' h2 (by omega) ek (by omega) (by omega) c1 (gd_of g1) (by omega) (by omega) c2 (gd_of g2) z⟩
    | 13, _, ek =>
      obtain ⟨r1, r2, I1, I2, J1, J2, R1, R2, c1, c2, g1, g2, hT2⟩ := sp_together (L := L) (xs := xs) hg hT (xs (i + 1).toNatClampNeg) (xs (i + 2).toNatClampNeg)
      obtain ⟨I', J', R', z⟩ := nx I2 J2 R2 g2 hT2
      exact ⟨I', J', R', la_13 hG hL2 hx' h2 (by omega) ek (by omega) (by omega) (by omega) (by omega) c1 (gd_of g1) (by omega) (by omega) (by omega) (by omega) c2 (gd_of g2) z⟩
    | 14, _, ek =>
      obtain ⟨r1, r2, I1, I2, J1, J2, R1, R2, c1, c2, g1, g2, hT2⟩ := sp_reply (L := L) (xs := xs) hg hT (xs (i + 1).toNatClampNeg)
      obtain ⟨I', J', R', z⟩ := nx I2 J2 R2 g2 hT2
      exact ⟨I', J', R', la_14 hG hL2 hx' h2 (by omega) ek (by omega) (by omega) c1 (gd_of g1) (by omega) (by omega) c2 (gd_of g2) z⟩
    | 15, _, ek =>
      obtain ⟨r1, r2, I1, I2, J1, J2, R1, R2, c1, c2, g1, g2, hT2⟩ := sp_ring (L := L) (xs := xs) hg hT (xs (i + 1).toNatClampNeg)
      obtain ⟨I', J', R', z⟩ := nx I2 J2 R2 g2 hT2
      exact ⟨I', J', R', la_15 hG hL2 hx' h2 (by omega) ek (by omega) (by omega) c1 (gd_of g1) (by omega) (by omega) c2 (gd_of g2) z⟩
    | 16, _, ek =>
      obtain ⟨r1, r2, I1, I2, J1, J2, R1, R2, c1, c2, g1, g2, hT2⟩ := sp_bestRing (L := L) (xs := xs) hg hT (xs (i + 1).toNatClampNeg)
      obtain ⟨I', J', R', z⟩ := nx I2 J2 R2 g2 hT2
      exact ⟨I', J', R', la_16 hG hL2 hx' h2 (by omega) ek (by omega) (by omega) c1 (gd_of g1) (by omega) (by omega) c2 (gd_of g2) z⟩
    | 17, _, ek =>
      obtain ⟨r1, r2, I1, I2, J1, J2, R1, R2, c1, c2, g1, g2, hT2⟩ := sp_where (L := L) (xs := xs) hg hT (xs (i + 1).toNatClampNeg) (xs (i + 2).toNatClampNeg) (xs (i + 3).toNatClampNeg) (xs (i + 4).toNatClampNeg) (xs (i + 5).toNatClampNeg) (xs (i + 6).toNatClampNeg)
      obtain ⟨I', J', R', z⟩ := nx I2 J2 R2 g2 hT2
      exact ⟨I', J', R', la_17 hG hL2 hx' h2 (by omega) ek (by omega) (by omega) (by omega) (by omega) (by omega) (by omega) (by omega) (by omega) (by omega) (by omega) (by omega) (by omega) c1 (gd_of g1) (by omega) (by omega) (by omega) (by omega) (by omega) (by omega) (by omega) (by omega) (by omega) (by omega) (by omega) (by omega) c2 (gd_of g2) z⟩
    | 18, _, ek =>
      obtain ⟨r1, r2, I1, I2, J1, J2, R1, R2, c1, c2, g1, g2, hT2, e⟩ := sp_ask (L := L) (xs := xs) hg hT (xs (i + 1).toNatClampNeg) (xs (i + 2).toNatClampNeg) (xs (i + 3).toNatClampNeg) (xs (i + 4).toNatClampNeg) (xs (i + 5).toNatClampNeg)
      subst e
      obtain ⟨I', J', R', z⟩ := nx I2 J2 R2 g2 hT2
      exact ⟨I', J', R', la_18 hG hL2 hx' h2 (by omega) ek (by omega) (by omega) (by omega) (by omega) (by omega) (by omega) (by omega) (by omega) (by omega) (by omega) c1 (gd_of g1) (by omega) (by omega) (by omega) (by omega) (by omega) (by omega) (by omega) (by omega) (by omega) (by omega) c2 (gd_of g2) rfl z⟩
    | 19, _, ek =>
      obtain ⟨r1, r2, I1, I2, J1, J2, R1, R2, c1, c2, g1, g2, hT2⟩ := sp_fight (L := L) (xs := xs) hg hT (xs (i + 1).toNatClampNeg)
      obtain ⟨I', J', R', z⟩ := nx I2 J2 R2 g2 hT2
      exact ⟨I', J', R', la_19 hG hL2 hx' h2 (by omega) ek (by omega) (by omega) c1 (gd_of g1) (by omega) (by omega) c2 (gd_of g2) z⟩
    | 20, _, ek =>
      obtain ⟨r1, r2, I1, I2, J1, J2, R1, R2, c1, c2, g1, g2, hT2⟩ := sp_believe (L := L) (xs := xs) hg hT (xs (i + 1).toNatClampNeg)
      obtain ⟨I', J', R', z⟩ := nx I2 J2 R2 g2 hT2
      exact ⟨I', J', R', la_20 hG hL2 hx' h2 (by omega) ek (by omega) (by omega) c1 (gd_of g1) (by omega) (by omega) c2 (gd_of g2) z⟩
    | 21, _, ek =>
      obtain ⟨r1, r2, I1, I2, J1, J2, R1, R2, c1, c2, g1, g2, hT2, e⟩ := sp_rule (L := L) (xs := xs) hg hT (xs (i + 1).toNatClampNeg) (xs (i + 2).toNatClampNeg) (xs (i + 3).toNatClampNeg)
      obtain ⟨I', J', R', z⟩ := nx I2 J2 R2 g2 hT2
      exact ⟨I', J', R', la_21 hG hL2 hx' h2 (by omega) ek (by omega) (by omega) (by omega) (by omega) (by omega) (by omega) c1 (gd_of g1) (by omega) (by omega) (by omega) (by omega) (by omega) (by omega) c2 (gd_of g2) z⟩
    | 22, _, ek =>
      obtain ⟨r1, r2, I1, I2, J1, J2, R1, R2, c1, c2, g1, g2, hT2⟩ := sp_begin (L := L) (xs := xs) hg hT (xs (i + 1).toNatClampNeg)
      obtain ⟨I', J', R', z⟩ := nx I2 J2 R2 g2 hT2
      exact ⟨I', J', R', la_22 hG hL2 hx' h2 (by omega) ek (by omega) (by omega) c1 (gd_of g1) (by omega) (by omega) c2 (gd_of g2) z⟩
    | 23, _, ek =>
      obtain ⟨r1, r2, I1, I2, J1, J2, R1, R2, c1, c2, g1, g2, hT2⟩ := sp_go (L := L) (xs := xs) hg hT (xs (i + 1).toNatClampNeg)
      obtain ⟨I', J', R', z⟩ := nx I2 J2 R2 g2 hT2
      exact ⟨I', J', R', la_23 hG hL2 hx' h2 (by omega) ek (by omega) (by omega) c1 (gd_of g1) (by omega) (by omega) c2 (gd_of g2) z⟩
    | 24, _, ek =>
      obtain ⟨r1, r2, I1, I2, J1, J2, R1, R2, c1, c2, g1, g2, hT2⟩ := sp_now (L := L) (xs := xs) hg hT (xs (i + 1).toNatClampNeg) (xs (i + 2).toNatClampNeg)
      obtain ⟨I', J', R', z⟩ := nx I2 J2 R2 g2 hT2
      exact ⟨I', J', R', la_24 hG hL2 hx' h2 (by omega) ek (by omega) (by omega) (by omega) (by omega) c1 (gd_of g1) (by omega) (by omega) (by omega) (by omega) c2 (gd_of g2) z⟩
    | 25, _, ek =>
      obtain ⟨r1, r2, I1, I2, J1, J2, R1, R2, c1, c2, g1, g2, hT2⟩ := sp_head (L := L) (xs := xs) hg hT (xs (i + 1).toNatClampNeg) (xs (i + 2).toNatClampNeg)
      obtain ⟨I', J', R', z⟩ := nx I2 J2 R2 g2 hT2
      exact ⟨I', J', R', la_25 hG hL2 hx' h2 (by omega) ek (by omega) (by omega) (by omega) (by omega) c1 (gd_of g1) (by omega) (by omega) (by omega) (by omega) c2 (gd_of g2) z⟩
    | 26, _, ek =>
      obtain ⟨r1, r2, I1, I2, J1, J2, R1, R2, c1, c2, g1, g2, hT2⟩ := sp_keep (L := L) (xs := xs) hg hT (xs (i + 1).toNatClampNeg)
      obtain ⟨I', J', R', z⟩ := nx I2 J2 R2 g2 hT2
      exact ⟨I', J', R', la_26 hG hL2 hx' h2 (by omega) ek (by omega) (by omega) c1 (gd_of g1) (by omega) (by omega) c2 (gd_of g2) z⟩
    | 27, _, ek =>
      obtain ⟨r1, r2, I1, I2, J1, J2, R1, R2, c1, c2, g1, g2, hT2⟩ := sp_take (L := L) (xs := xs) hg hT (xs (i + 1).toNatClampNeg)
      obtain ⟨I', J', R', z⟩ := nx I2 J2 R2 g2 hT2
      exact ⟨I', J', R', la_27 hG hL2 hx' h2 (by omega) ek (by omega) (by omega) c1 (gd_of g1) (by omega) (by omega) c2 (gd_of g2) z⟩
    | 28, _, ek =>
      obtain ⟨r1, r2, I1, I2, J1, J2, R1, R2, c1, c2, g1, g2, hT2⟩ := sp_count (L := L) (xs := xs) hg hT (xs (i + 1).toNatClampNeg)
      obtain ⟨I', J', R', z⟩ := nx I2 J2 R2 g2 hT2
      exact ⟨I', J', R', la_28 hG hL2 hx' h2 (by omega) ek (by omega) (by omega) c1 (gd_of g1) (by omega) (by omega) c2 (gd_of g2) z⟩
    | 29, _, ek =>
      obtain ⟨I', J', R', z⟩ := nx I J R hg hT
      exact ⟨I', J', R', la_d hG hL2 hx' h2 (by omega) (Or.inr (by rw [ek]; decide)) z⟩
    | 30, _, ek =>
      obtain ⟨I', J', R', z⟩ := nx I J R hg hT
      exact ⟨I', J', R', la_d hG hL2 hx' h2 (by omega) (Or.inr (by rw [ek]; decide)) z⟩
    | 31, _, ek =>
      obtain ⟨I', J', R', z⟩ := nx I J R hg hT
      exact ⟨I', J', R', la_d hG hL2 hx' h2 (by omega) (Or.inr (by rw [ek]; decide)) z⟩
    | k + 32, hk, _ => omega
