theorem lw_k0 {xs : Nat → Int32} (hk : xs 0 &&& 31 = nI 0) {r : Int32} {i1 : Nat → Nat → Int32} {l1 : Nat → Nat → Int64} {r1 : Nat → Nat → Nat} {i2 : Nat → Nat → Int32} {l2 : Nat → Nat → Int64} {r2 : Nat → Nat → Nat} (c1 : xEv 7 xs 19 14 0 [.ref 0, .int (xs 1), .int (xs 2), .int (xs 3), .int (xs 4), .int (xs 5)] [] xhN (some (.int r)) (124, i1, l1, r1)) (c2 : xEv 7 xs 19 145 0 [.ref 86, .int (xs 1), .int (xs 2), .int (xs 3), .int (xs 4), .int (xs 5), xmk, xmk, xmk] [] (124, i1, l1, r1) (some (.int r)) (124, i2, l2, r2)) : xEv 7 xs 20 0 18 [.retAddr 0, .ref 0, .ref 86, .int 0] [] xhN (some (.int 1)) (124, i2, l2, r2) := by
  refine ev_go 11 (pc1 := 33) (lv1 := [.retAddr 0, .ref 0, .ref 86, .int 0]) (st1 := [.int (xs 0 &&& 31)]) (h1 := xhN) rfl ?_
  rw [hk]
  refine ev_go 1 (pc1 := 164) (lv1 := [.retAddr 0, .ref 0, .ref 86, .int 0]) (st1 := []) (h1 := xhN) rfl ?_
  refine ev_go 26 (pc1 := 190) (lv1 := [.retAddr 0, .ref 0, .ref 86, .int 0]) (st1 := [.int (xs 5), .int (xs 4), .int (xs 3), .int (xs 2), .int (xs 1), .ref 0]) (h1 := xhN) rfl ?_
  refine ev_call (v1 := (some (.int r))) (h1 := (124, i1, l1, r1)) rfl rfl c1 ?_
  refine ev_go 26 (pc1 := 219) (lv1 := [.retAddr 0, .ref 0, .ref 86, .int 0]) (st1 := [.int (xs 5), .int (xs 4), .int (xs 3), .int (xs 2), .int (xs 1), .ref 86, .int r]) (h1 := (124, i1, l1, r1)) rfl ?_
  refine ev_call (v1 := (some (.int r))) (h1 := (124, i2, l2, r2)) rfl rfl c2 ?_
  refine ev_br (b1 := true) rfl rfl (xcd_eq (x := r) (y := r) (by omega)) ?_
  refine ev_go 9 (pc1 := 1142) (lv1 := [.retAddr 0, .ref 0, .ref 86, .int 7]) (st1 := [.int 1]) (h1 := (124, i2, l2, r2)) rfl ?_
  exact ev_ret rfl rfl
theorem lw_k1 {xs : Nat → Int32} (hk : xs 0 &&& 31 = nI 1) {r : Int32} {i1 : Nat → Nat → Int32} {l1 : Nat → Nat → Int64} {r1 : Nat → Nat → Nat} {i2 : Nat → Nat → Int32} {l2 : Nat → Nat → Int64} {r2 : Nat → Nat → Nat} (c1 : xEv 7 xs 19 16 0 [.ref 0, .int (xs 1)] [] xhN (some (.int r)) (124, i1, l1, r1)) (c2 : xEv 7 xs 19 146 0 [.ref 86, .int (xs 1)] [] (124, i1, l1, r1) (some (.int r)) (124, i2, l2, r2)) : xEv 7 xs 20 0 18 [.retAddr 0, .ref 0, .ref 86, .int 0] [] xhN (some (.int 1)) (124, i2, l2, r2) := by
  refine ev_go 11 (pc1 := 33) (lv1 := [.retAddr 0, .ref 0, .ref 86, .int 0]) (st1 := [.int (xs 0 &&& 31)]) (h1 := xhN) rfl ?_
  rw [hk]
  refine ev_go 1 (pc1 := 227) (lv1 := [.retAddr 0, .ref 0, .ref 86, .int 0]) (st1 := []) (h1 := xhN) rfl ?_
  refine ev_go 6 (pc1 := 233) (lv1 := [.retAddr 0, .ref 0, .ref 86, .int 0]) (st1 := [.int (xs 1), .ref 0]) (h1 := xhN) rfl ?_
  refine ev_call (v1 := (some (.int r))) (h1 := (124, i1, l1, r1)) rfl rfl c1 ?_
  refine ev_go 6 (pc1 := 242) (lv1 := [.retAddr 0, .ref 0, .ref 86, .int 0]) (st1 := [.int (xs 1), .ref 86, .int r]) (h1 := (124, i1, l1, r1)) rfl ?_
  refine ev_call (v1 := (some (.int r))) (h1 := (124, i2, l2, r2)) rfl rfl c2 ?_
  refine ev_br (b1 := true) rfl rfl (xcd_eq (x := r) (y := r) (by omega)) ?_
  refine ev_go 9 (pc1 := 1142) (lv1 := [.retAddr 0, .ref 0, .ref 86, .int 7]) (st1 := [.int 1]) (h1 := (124, i2, l2, r2)) rfl ?_
  exact ev_ret rfl rfl
theorem lw_k2 {xs : Nat → Int32} (hk : xs 0 &&& 31 = nI 2) {r : Int32} {i1 : Nat → Nat → Int32} {l1 : Nat → Nat → Int64} {r1 : Nat → Nat → Nat} {i2 : Nat → Nat → Int32} {l2 : Nat → Nat → Int64} {r2 : Nat → Nat → Nat} (c1 : xEv 7 xs 19 17 0 [.ref 0, xmk, xmk] [] xhN (some (.int r)) (124, i1, l1, r1)) (c2 : xEv 7 xs 19 148 0 [.ref 86, xmk] [] (124, i1, l1, r1) (some (.int r)) (124, i2, l2, r2)) : xEv 7 xs 20 0 18 [.retAddr 0, .ref 0, .ref 86, .int 0] [] xhN (some (.int 1)) (124, i2, l2, r2) := by
  refine ev_go 11 (pc1 := 33) (lv1 := [.retAddr 0, .ref 0, .ref 86, .int 0]) (st1 := [.int (xs 0 &&& 31)]) (h1 := xhN) rfl ?_
  rw [hk]
  refine ev_go 1 (pc1 := 250) (lv1 := [.retAddr 0, .ref 0, .ref 86, .int 0]) (st1 := []) (h1 := xhN) rfl ?_
  refine ev_go 1 (pc1 := 251) (lv1 := [.retAddr 0, .ref 0, .ref 86, .int 0]) (st1 := [.ref 0]) (h1 := xhN) rfl ?_
  refine ev_call (v1 := (some (.int r))) (h1 := (124, i1, l1, r1)) rfl rfl c1 ?_
  refine ev_go 1 (pc1 := 255) (lv1 := [.retAddr 0, .ref 0, .ref 86, .int 0]) (st1 := [.ref 86, .int r]) (h1 := (124, i1, l1, r1)) rfl ?_
  refine ev_call (v1 := (some (.int r))) (h1 := (124, i2, l2, r2)) rfl rfl c2 ?_
  refine ev_br (b1 := true) rfl rfl (xcd_eq (x := r) (y := r) (by omega)) ?_
  refine ev_go 9 (pc1 := 1142) (lv1 := [.retAddr 0, .ref 0, .ref 86, .int 7]) (st1 := [.int 1]) (h1 := (124, i2, l2, r2)) rfl ?_
  exact ev_ret rfl rfl
theorem lw_k3 {xs : Nat → Int32} (hk : xs 0 &&& 31 = nI 3) {r : Int32} {i1 : Nat → Nat → Int32} {l1 : Nat → Nat → Int64} {r1 : Nat → Nat → Nat} {i2 : Nat → Nat → Int32} {l2 : Nat → Nat → Int64} {r2 : Nat → Nat → Nat} (c1 : xEv 7 xs 19 47 0 [.ref 0, .int (xs 1)] [] xhN (some (.int r)) (124, i1, l1, r1)) (c2 : xEv 7 xs 19 147 0 [.ref 86, .int (xs 1)] [] (124, i1, l1, r1) (some (.int r)) (124, i2, l2, r2)) : xEv 7 xs 20 0 18 [.retAddr 0, .ref 0, .ref 86, .int 0] [] xhN (some (.int 1)) (124, i2, l2, r2) := by
  refine ev_go 11 (pc1 := 33) (lv1 := [.retAddr 0, .ref 0, .ref 86, .int 0]) (st1 := [.int (xs 0 &&& 31)]) (h1 := xhN) rfl ?_
  rw [hk]
  refine ev_go 1 (pc1 := 263) (lv1 := [.retAddr 0, .ref 0, .ref 86, .int 0]) (st1 := []) (h1 := xhN) rfl ?_
  refine ev_go 6 (pc1 := 269) (lv1 := [.retAddr 0, .ref 0, .ref 86, .int 0]) (st1 := [.int (xs 1), .ref 0]) (h1 := xhN) rfl ?_
  refine ev_call (v1 := (some (.int r))) (h1 := (124, i1, l1, r1)) rfl rfl c1 ?_
  refine ev_go 6 (pc1 := 278) (lv1 := [.retAddr 0, .ref 0, .ref 86, .int 0]) (st1 := [.int (xs 1), .ref 86, .int r]) (h1 := (124, i1, l1, r1)) rfl ?_
  refine ev_call (v1 := (some (.int r))) (h1 := (124, i2, l2, r2)) rfl rfl c2 ?_
  refine ev_br (b1 := true) rfl rfl (xcd_eq (x := r) (y := r) (by omega)) ?_
  refine ev_go 9 (pc1 := 1142) (lv1 := [.retAddr 0, .ref 0, .ref 86, .int 7]) (st1 := [.int 1]) (h1 := (124, i2, l2, r2)) rfl ?_
  exact ev_ret rfl rfl
theorem lw_k4 {xs : Nat → Int32} (hk : xs 0 &&& 31 = nI 4) {r : Int32} {i1 : Nat → Nat → Int32} {l1 : Nat → Nat → Int64} {r1 : Nat → Nat → Nat} {i2 : Nat → Nat → Int32} {l2 : Nat → Nat → Int64} {r2 : Nat → Nat → Nat} (c1 : xEv 7 xs 19 48 0 [.ref 0, .int (xs 1), xmk] [] xhN (some (.int r)) (124, i1, l1, r1)) (c2 : xEv 7 xs 19 166 0 [.ref 86, .int (xs 1), xmk] [] (124, i1, l1, r1) (some (.int r)) (124, i2, l2, r2)) : xEv 7 xs 20 0 18 [.retAddr 0, .ref 0, .ref 86, .int 0] [] xhN (some (.int 1)) (124, i2, l2, r2) := by
  refine ev_go 11 (pc1 := 33) (lv1 := [.retAddr 0, .ref 0, .ref 86, .int 0]) (st1 := [.int (xs 0 &&& 31)]) (h1 := xhN) rfl ?_
  rw [hk]
  refine ev_go 1 (pc1 := 286) (lv1 := [.retAddr 0, .ref 0, .ref 86, .int 0]) (st1 := []) (h1 := xhN) rfl ?_
  refine ev_go 6 (pc1 := 292) (lv1 := [.retAddr 0, .ref 0, .ref 86, .int 0]) (st1 := [.int (xs 1), .ref 0]) (h1 := xhN) rfl ?_
  refine ev_call (v1 := (some (.int r))) (h1 := (124, i1, l1, r1)) rfl rfl c1 ?_
  refine ev_go 6 (pc1 := 301) (lv1 := [.retAddr 0, .ref 0, .ref 86, .int 0]) (st1 := [.int (xs 1), .ref 86, .int r]) (h1 := (124, i1, l1, r1)) rfl ?_
  refine ev_call (v1 := (some (.int r))) (h1 := (124, i2, l2, r2)) rfl rfl c2 ?_
  refine ev_br (b1 := true) rfl rfl (xcd_eq (x := r) (y := r) (by omega)) ?_
  refine ev_go 9 (pc1 := 1142) (lv1 := [.retAddr 0, .ref 0, .ref 86, .int 7]) (st1 := [.int 1]) (h1 := (124, i2, l2, r2)) rfl ?_
  exact ev_ret rfl rfl
theorem lw_k5 {xs : Nat → Int32} (hk : xs 0 &&& 31 = nI 5) {r : Int32} {i1 : Nat → Nat → Int32} {l1 : Nat → Nat → Int64} {r1 : Nat → Nat → Nat} {i2 : Nat → Nat → Int32} {l2 : Nat → Nat → Int64} {r2 : Nat → Nat → Nat} (c1 : xEv 7 xs 19 51 0 [.ref 0, .int (xs 1), .int (xs 2)] [] xhN (some (.int r)) (124, i1, l1, r1)) (c2 : xEv 7 xs 19 169 0 [.ref 86, .int (xs 1), .int (xs 2)] [] (124, i1, l1, r1) (some (.int r)) (124, i2, l2, r2)) : xEv 7 xs 20 0 18 [.retAddr 0, .ref 0, .ref 86, .int 0] [] xhN (some (.int 1)) (124, i2, l2, r2) := by
  refine ev_go 11 (pc1 := 33) (lv1 := [.retAddr 0, .ref 0, .ref 86, .int 0]) (st1 := [.int (xs 0 &&& 31)]) (h1 := xhN) rfl ?_
  rw [hk]
  refine ev_go 1 (pc1 := 309) (lv1 := [.retAddr 0, .ref 0, .ref 86, .int 0]) (st1 := []) (h1 := xhN) rfl ?_
  refine ev_go 11 (pc1 := 320) (lv1 := [.retAddr 0, .ref 0, .ref 86, .int 0]) (st1 := [.int (xs 2), .int (xs 1), .ref 0]) (h1 := xhN) rfl ?_
  refine ev_call (v1 := (some (.int r))) (h1 := (124, i1, l1, r1)) rfl rfl c1 ?_
  refine ev_go 11 (pc1 := 334) (lv1 := [.retAddr 0, .ref 0, .ref 86, .int 0]) (st1 := [.int (xs 2), .int (xs 1), .ref 86, .int r]) (h1 := (124, i1, l1, r1)) rfl ?_
  refine ev_call (v1 := (some (.int r))) (h1 := (124, i2, l2, r2)) rfl rfl c2 ?_
  refine ev_br (b1 := true) rfl rfl (xcd_eq (x := r) (y := r) (by omega)) ?_
  refine ev_go 9 (pc1 := 1142) (lv1 := [.retAddr 0, .ref 0, .ref 86, .int 7]) (st1 := [.int 1]) (h1 := (124, i2, l2, r2)) rfl ?_
  exact ev_ret rfl rfl
theorem lw_k6 {xs : Nat → Int32} (hk : xs 0 &&& 31 = nI 6) {r : Int32} {i1 : Nat → Nat → Int32} {l1 : Nat → Nat → Int64} {r1 : Nat → Nat → Nat} {i2 : Nat → Nat → Int32} {l2 : Nat → Nat → Int64} {r2 : Nat → Nat → Nat} (c1 : xEv 7 xs 19 52 0 [.ref 0, .int (xs 1), .int (xs 2)] [] xhN (some (.int r)) (124, i1, l1, r1)) (c2 : xEv 7 xs 19 170 0 [.ref 86, .int (xs 1), .int (xs 2)] [] (124, i1, l1, r1) (some (.int r)) (124, i2, l2, r2)) : xEv 7 xs 20 0 18 [.retAddr 0, .ref 0, .ref 86, .int 0] [] xhN (some (.int 1)) (124, i2, l2, r2) := by
  refine ev_go 11 (pc1 := 33) (lv1 := [.retAddr 0, .ref 0, .ref 86, .int 0]) (st1 := [.int (xs 0 &&& 31)]) (h1 := xhN) rfl ?_
  rw [hk]
  refine ev_go 1 (pc1 := 342) (lv1 := [.retAddr 0, .ref 0, .ref 86, .int 0]) (st1 := []) (h1 := xhN) rfl ?_
  refine ev_go 11 (pc1 := 353) (lv1 := [.retAddr 0, .ref 0, .ref 86, .int 0]) (st1 := [.int (xs 2), .int (xs 1), .ref 0]) (h1 := xhN) rfl ?_
  refine ev_call (v1 := (some (.int r))) (h1 := (124, i1, l1, r1)) rfl rfl c1 ?_
  refine ev_go 11 (pc1 := 367) (lv1 := [.retAddr 0, .ref 0, .ref 86, .int 0]) (st1 := [.int (xs 2), .int (xs 1), .ref 86, .int r]) (h1 := (124, i1, l1, r1)) rfl ?_
  refine ev_call (v1 := (some (.int r))) (h1 := (124, i2, l2, r2)) rfl rfl c2 ?_
  refine ev_br (b1 := true) rfl rfl (xcd_eq (x := r) (y := r) (by omega)) ?_
  refine ev_go 9 (pc1 := 1142) (lv1 := [.retAddr 0, .ref 0, .ref 86, .int 7]) (st1 := [.int 1]) (h1 := (124, i2, l2, r2)) rfl ?_
  exact ev_ret rfl rfl
theorem lw_k7 {xs : Nat → Int32} (hk : xs 0 &&& 31 = nI 7) {r : Int32} {i1 : Nat → Nat → Int32} {l1 : Nat → Nat → Int64} {r1 : Nat → Nat → Nat} {i2 : Nat → Nat → Int32} {l2 : Nat → Nat → Int64} {r2 : Nat → Nat → Nat} (c1 : xEv 7 xs 19 53 0 [.ref 0, xmk] [] xhN (some (.int r)) (124, i1, l1, r1)) (c2 : xEv 7 xs 19 172 0 [.ref 86, xmk, xmk] [] (124, i1, l1, r1) (some (.int r)) (124, i2, l2, r2)) : xEv 7 xs 20 0 18 [.retAddr 0, .ref 0, .ref 86, .int 0] [] xhN (some (.int 1)) (124, i2, l2, r2) := by
  refine ev_go 11 (pc1 := 33) (lv1 := [.retAddr 0, .ref 0, .ref 86, .int 0]) (st1 := [.int (xs 0 &&& 31)]) (h1 := xhN) rfl ?_
  rw [hk]
  refine ev_go 1 (pc1 := 375) (lv1 := [.retAddr 0, .ref 0, .ref 86, .int 0]) (st1 := []) (h1 := xhN) rfl ?_
  refine ev_go 1 (pc1 := 376) (lv1 := [.retAddr 0, .ref 0, .ref 86, .int 0]) (st1 := [.ref 0]) (h1 := xhN) rfl ?_
  refine ev_call (v1 := (some (.int r))) (h1 := (124, i1, l1, r1)) rfl rfl c1 ?_
  refine ev_go 1 (pc1 := 380) (lv1 := [.retAddr 0, .ref 0, .ref 86, .int 0]) (st1 := [.ref 86, .int r]) (h1 := (124, i1, l1, r1)) rfl ?_
  refine ev_call (v1 := (some (.int r))) (h1 := (124, i2, l2, r2)) rfl rfl c2 ?_
  refine ev_br (b1 := true) rfl rfl (xcd_eq (x := r) (y := r) (by omega)) ?_
  refine ev_go 9 (pc1 := 1142) (lv1 := [.retAddr 0, .ref 0, .ref 86, .int 7]) (st1 := [.int 1]) (h1 := (124, i2, l2, r2)) rfl ?_
  exact ev_ret rfl rfl
theorem lw_k8 {xs : Nat → Int32} (hk : xs 0 &&& 31 = nI 8) {r : Int32} {i1 : Nat → Nat → Int32} {l1 : Nat → Nat → Int64} {r1 : Nat → Nat → Nat} {i2 : Nat → Nat → Int32} {l2 : Nat → Nat → Int64} {r2 : Nat → Nat → Nat} (c1 : xEv 7 xs 19 62 0 [.ref 0, .int (xs 1), .int (xs 2)] [] xhN (some (.int r)) (124, i1, l1, r1)) (c2 : xEv 7 xs 19 181 0 [.ref 86, .int (xs 1), .int (xs 2)] [] (124, i1, l1, r1) (some (.int r)) (124, i2, l2, r2)) : xEv 7 xs 20 0 18 [.retAddr 0, .ref 0, .ref 86, .int 0] [] xhN (some (.int 1)) (124, i2, l2, r2) := by
  refine ev_go 11 (pc1 := 33) (lv1 := [.retAddr 0, .ref 0, .ref 86, .int 0]) (st1 := [.int (xs 0 &&& 31)]) (h1 := xhN) rfl ?_
  rw [hk]
  refine ev_go 1 (pc1 := 388) (lv1 := [.retAddr 0, .ref 0, .ref 86, .int 0]) (st1 := []) (h1 := xhN) rfl ?_
  refine ev_go 11 (pc1 := 399) (lv1 := [.retAddr 0, .ref 0, .ref 86, .int 0]) (st1 := [.int (xs 2), .int (xs 1), .ref 0]) (h1 := xhN) rfl ?_
  refine ev_call (v1 := (some (.int r))) (h1 := (124, i1, l1, r1)) rfl rfl c1 ?_
  refine ev_go 11 (pc1 := 413) (lv1 := [.retAddr 0, .ref 0, .ref 86, .int 0]) (st1 := [.int (xs 2), .int (xs 1), .ref 86, .int r]) (h1 := (124, i1, l1, r1)) rfl ?_
  refine ev_call (v1 := (some (.int r))) (h1 := (124, i2, l2, r2)) rfl rfl c2 ?_
  refine ev_br (b1 := true) rfl rfl (xcd_eq (x := r) (y := r) (by omega)) ?_
  refine ev_go 9 (pc1 := 1142) (lv1 := [.retAddr 0, .ref 0, .ref 86, .int 7]) (st1 := [.int 1]) (h1 := (124, i2, l2, r2)) rfl ?_
  exact ev_ret rfl rfl
theorem lw_k9 {xs : Nat → Int32} (hk : xs 0 &&& 31 = nI 9) {r : Int32} {i1 : Nat → Nat → Int32} {l1 : Nat → Nat → Int64} {r1 : Nat → Nat → Nat} {i2 : Nat → Nat → Int32} {l2 : Nat → Nat → Int64} {r2 : Nat → Nat → Nat} (c1 : xEv 7 xs 19 63 0 [.ref 0, .int (xs 1), .int (xs 2), .int (xs 3), .int (xs 4)] [] xhN (some (.int r)) (124, i1, l1, r1)) (c2 : xEv 7 xs 19 182 0 [.ref 86, .int (xs 1), .int (xs 2), .int (xs 3), .int (xs 4), xmk] [] (124, i1, l1, r1) (some (.int r)) (124, i2, l2, r2)) : xEv 7 xs 20 0 18 [.retAddr 0, .ref 0, .ref 86, .int 0] [] xhN (some (.int 1)) (124, i2, l2, r2) := by
  refine ev_go 11 (pc1 := 33) (lv1 := [.retAddr 0, .ref 0, .ref 86, .int 0]) (st1 := [.int (xs 0 &&& 31)]) (h1 := xhN) rfl ?_
  rw [hk]
  refine ev_go 1 (pc1 := 421) (lv1 := [.retAddr 0, .ref 0, .ref 86, .int 0]) (st1 := []) (h1 := xhN) rfl ?_
  refine ev_go 21 (pc1 := 442) (lv1 := [.retAddr 0, .ref 0, .ref 86, .int 0]) (st1 := [.int (xs 4), .int (xs 3), .int (xs 2), .int (xs 1), .ref 0]) (h1 := xhN) rfl ?_
  refine ev_call (v1 := (some (.int r))) (h1 := (124, i1, l1, r1)) rfl rfl c1 ?_
  refine ev_go 21 (pc1 := 466) (lv1 := [.retAddr 0, .ref 0, .ref 86, .int 0]) (st1 := [.int (xs 4), .int (xs 3), .int (xs 2), .int (xs 1), .ref 86, .int r]) (h1 := (124, i1, l1, r1)) rfl ?_
  refine ev_call (v1 := (some (.int r))) (h1 := (124, i2, l2, r2)) rfl rfl c2 ?_
  refine ev_br (b1 := true) rfl rfl (xcd_eq (x := r) (y := r) (by omega)) ?_
  refine ev_go 9 (pc1 := 1142) (lv1 := [.retAddr 0, .ref 0, .ref 86, .int 7]) (st1 := [.int 1]) (h1 := (124, i2, l2, r2)) rfl ?_
  exact ev_ret rfl rfl
theorem lw_k10 {xs : Nat → Int32} (hk : xs 0 &&& 31 = nI 10) {r : Int32} {i1 : Nat → Nat → Int32} {l1 : Nat → Nat → Int64} {r1 : Nat → Nat → Nat} {i2 : Nat → Nat → Int32} {l2 : Nat → Nat → Int64} {r2 : Nat → Nat → Nat} (c1 : xEv 7 xs 19 68 0 [.ref 0, .int (xs 1), .int (xs 2), .int (xs 3), .int (xs 4), .int (xs 5), .int (xs 6), xmk] [] xhN (some (.int r)) (124, i1, l1, r1)) (c2 : xEv 7 xs 19 188 0 [.ref 86, .int (xs 1), .int (xs 2), .int (xs 3), .int (xs 4), .int (xs 5), .int (xs 6)] [] (124, i1, l1, r1) (some (.int r)) (124, i2, l2, r2)) : xEv 7 xs 20 0 18 [.retAddr 0, .ref 0, .ref 86, .int 0] [] xhN (some (.int 1)) (124, i2, l2, r2) := by
  refine ev_go 11 (pc1 := 33) (lv1 := [.retAddr 0, .ref 0, .ref 86, .int 0]) (st1 := [.int (xs 0 &&& 31)]) (h1 := xhN) rfl ?_
  rw [hk]
  refine ev_go 1 (pc1 := 474) (lv1 := [.retAddr 0, .ref 0, .ref 86, .int 0]) (st1 := []) (h1 := xhN) rfl ?_
  refine ev_go 31 (pc1 := 506) (lv1 := [.retAddr 0, .ref 0, .ref 86, .int 0]) (st1 := [.int (xs 6), .int (xs 5), .int (xs 4), .int (xs 3), .int (xs 2), .int (xs 1), .ref 0]) (h1 := xhN) rfl ?_
  refine ev_call (v1 := (some (.int r))) (h1 := (124, i1, l1, r1)) rfl rfl c1 ?_
  refine ev_go 31 (pc1 := 541) (lv1 := [.retAddr 0, .ref 0, .ref 86, .int 0]) (st1 := [.int (xs 6), .int (xs 5), .int (xs 4), .int (xs 3), .int (xs 2), .int (xs 1), .ref 86, .int r]) (h1 := (124, i1, l1, r1)) rfl ?_
  refine ev_call (v1 := (some (.int r))) (h1 := (124, i2, l2, r2)) rfl rfl c2 ?_
  refine ev_br (b1 := true) rfl rfl (xcd_eq (x := r) (y := r) (by omega)) ?_
  refine ev_go 9 (pc1 := 1142) (lv1 := [.retAddr 0, .ref 0, .ref 86, .int 7]) (st1 := [.int 1]) (h1 := (124, i2, l2, r2)) rfl ?_
  exact ev_ret rfl rfl
theorem lw_k11 {xs : Nat → Int32} (hk : xs 0 &&& 31 = nI 11) {r : Int32} {i1 : Nat → Nat → Int32} {l1 : Nat → Nat → Int64} {r1 : Nat → Nat → Nat} {i2 : Nat → Nat → Int32} {l2 : Nat → Nat → Int64} {r2 : Nat → Nat → Nat} (c1 : xEv 7 xs 19 82 0 [.ref 0, .int (xs 1), .int (xs 2), .int (xs 3), .int (xs 4), xmk, xmk, xmk] [] xhN (some (.int r)) (124, i1, l1, r1)) (c2 : xEv 7 xs 19 187 0 [.ref 86, .int (xs 1), .int (xs 2), .int (xs 3), .int (xs 4), xmk, xmk] [] (124, i1, l1, r1) (some (.int r)) (124, i2, l2, r2)) : xEv 7 xs 20 0 18 [.retAddr 0, .ref 0, .ref 86, .int 0] [] xhN (some (.int 1)) (124, i2, l2, r2) := by
  refine ev_go 11 (pc1 := 33) (lv1 := [.retAddr 0, .ref 0, .ref 86, .int 0]) (st1 := [.int (xs 0 &&& 31)]) (h1 := xhN) rfl ?_
  rw [hk]
  refine ev_go 1 (pc1 := 549) (lv1 := [.retAddr 0, .ref 0, .ref 86, .int 0]) (st1 := []) (h1 := xhN) rfl ?_
  refine ev_go 21 (pc1 := 570) (lv1 := [.retAddr 0, .ref 0, .ref 86, .int 0]) (st1 := [.int (xs 4), .int (xs 3), .int (xs 2), .int (xs 1), .ref 0]) (h1 := xhN) rfl ?_
  refine ev_call (v1 := (some (.int r))) (h1 := (124, i1, l1, r1)) rfl rfl c1 ?_
  refine ev_go 21 (pc1 := 594) (lv1 := [.retAddr 0, .ref 0, .ref 86, .int 0]) (st1 := [.int (xs 4), .int (xs 3), .int (xs 2), .int (xs 1), .ref 86, .int r]) (h1 := (124, i1, l1, r1)) rfl ?_
  refine ev_call (v1 := (some (.int r))) (h1 := (124, i2, l2, r2)) rfl rfl c2 ?_
  refine ev_br (b1 := true) rfl rfl (xcd_eq (x := r) (y := r) (by omega)) ?_
  refine ev_go 9 (pc1 := 1142) (lv1 := [.retAddr 0, .ref 0, .ref 86, .int 7]) (st1 := [.int 1]) (h1 := (124, i2, l2, r2)) rfl ?_
  exact ev_ret rfl rfl
theorem lw_k12 {xs : Nat → Int32} (hk : xs 0 &&& 31 = nI 12) {r : Int32} {i1 : Nat → Nat → Int32} {l1 : Nat → Nat → Int64} {r1 : Nat → Nat → Nat} {i2 : Nat → Nat → Int32} {l2 : Nat → Nat → Int64} {r2 : Nat → Nat → Nat} (c1 : xEv 7 xs 19 83 0 [.ref 0, .int (xs 1)] [] xhN (some (.int r)) (124, i1, l1, r1)) (c2 : xEv 7 xs 19 198 0 [.ref 86, .int (xs 1)] [] (124, i1, l1, r1) (some (.int r)) (124, i2, l2, r2)) : xEv 7 xs 20 0 18 [.retAddr 0, .ref 0, .ref 86, .int 0] [] xhN (some (.int 1)) (124, i2, l2, r2) := by
  refine ev_go 11 (pc1 := 33) (lv1 := [.retAddr 0, .ref 0, .ref 86, .int 0]) (st1 := [.int (xs 0 &&& 31)]) (h1 := xhN) rfl ?_
  rw [hk]
  refine ev_go 1 (pc1 := 602) (lv1 := [.retAddr 0, .ref 0, .ref 86, .int 0]) (st1 := []) (h1 := xhN) rfl ?_
  refine ev_go 6 (pc1 := 608) (lv1 := [.retAddr 0, .ref 0, .ref 86, .int 0]) (st1 := [.int (xs 1), .ref 0]) (h1 := xhN) rfl ?_
  refine ev_call (v1 := (some (.int r))) (h1 := (124, i1, l1, r1)) rfl rfl c1 ?_
  refine ev_go 6 (pc1 := 617) (lv1 := [.retAddr 0, .ref 0, .ref 86, .int 0]) (st1 := [.int (xs 1), .ref 86, .int r]) (h1 := (124, i1, l1, r1)) rfl ?_
  refine ev_call (v1 := (some (.int r))) (h1 := (124, i2, l2, r2)) rfl rfl c2 ?_
  refine ev_br (b1 := true) rfl rfl (xcd_eq (x := r) (y := r) (by omega)) ?_
  refine ev_go 9 (pc1 := 1142) (lv1 := [.retAddr 0, .ref 0, .ref 86, .int 7]) (st1 := [.int 1]) (h1 := (124, i2, l2, r2)) rfl ?_
  exact ev_ret rfl rfl
theorem lw_k13 {xs : Nat → Int32} (hk : xs 0 &&& 31 = nI 13) {r : Int32} {i1 : Nat → Nat → Int32} {l1 : Nat → Nat → Int64} {r1 : Nat → Nat → Nat} {i2 : Nat → Nat → Int32} {l2 : Nat → Nat → Int64} {r2 : Nat → Nat → Nat} (c1 : xEv 7 xs 19 93 0 [.ref 0, .int (xs 1), .int (xs 2), xmk] [] xhN (some (.int r)) (124, i1, l1, r1)) (c2 : xEv 7 xs 19 208 0 [.ref 86, .int (xs 1), .int (xs 2), xmk, xmk, xmk, xmk, xmk] [] (124, i1, l1, r1) (some (.int r)) (124, i2, l2, r2)) : xEv 7 xs 20 0 18 [.retAddr 0, .ref 0, .ref 86, .int 0] [] xhN (some (.int 1)) (124, i2, l2, r2) := by
  refine ev_go 11 (pc1 := 33) (lv1 := [.retAddr 0, .ref 0, .ref 86, .int 0]) (st1 := [.int (xs 0 &&& 31)]) (h1 := xhN) rfl ?_
  rw [hk]
  refine ev_go 1 (pc1 := 625) (lv1 := [.retAddr 0, .ref 0, .ref 86, .int 0]) (st1 := []) (h1 := xhN) rfl ?_
  refine ev_go 11 (pc1 := 636) (lv1 := [.retAddr 0, .ref 0, .ref 86, .int 0]) (st1 := [.int (xs 2), .int (xs 1), .ref 0]) (h1 := xhN) rfl ?_
  refine ev_call (v1 := (some (.int r))) (h1 := (124, i1, l1, r1)) rfl rfl c1 ?_
  refine ev_go 11 (pc1 := 650) (lv1 := [.retAddr 0, .ref 0, .ref 86, .int 0]) (st1 := [.int (xs 2), .int (xs 1), .ref 86, .int r]) (h1 := (124, i1, l1, r1)) rfl ?_
  refine ev_call (v1 := (some (.int r))) (h1 := (124, i2, l2, r2)) rfl rfl c2 ?_
  refine ev_br (b1 := true) rfl rfl (xcd_eq (x := r) (y := r) (by omega)) ?_
  refine ev_go 9 (pc1 := 1142) (lv1 := [.retAddr 0, .ref 0, .ref 86, .int 7]) (st1 := [.int 1]) (h1 := (124, i2, l2, r2)) rfl ?_
  exact ev_ret rfl rfl
theorem lw_k14 {xs : Nat → Int32} (hk : xs 0 &&& 31 = nI 14) {r : Int32} {i1 : Nat → Nat → Int32} {l1 : Nat → Nat → Int64} {r1 : Nat → Nat → Nat} {i2 : Nat → Nat → Int32} {l2 : Nat → Nat → Int64} {r2 : Nat → Nat → Nat} (c1 : xEv 7 xs 19 95 0 [.ref 0, .int (xs 1), xmk] [] xhN (some (.int r)) (124, i1, l1, r1)) (c2 : xEv 7 xs 19 210 0 [.ref 86, .int (xs 1), xmk, xmk, xmk] [] (124, i1, l1, r1) (some (.int r)) (124, i2, l2, r2)) : xEv 7 xs 20 0 18 [.retAddr 0, .ref 0, .ref 86, .int 0] [] xhN (some (.int 1)) (124, i2, l2, r2) := by
  refine ev_go 11 (pc1 := 33) (lv1 := [.retAddr 0, .ref 0, .ref 86, .int 0]) (st1 := [.int (xs 0 &&& 31)]) (h1 := xhN) rfl ?_
  rw [hk]
  refine ev_go 1 (pc1 := 658) (lv1 := [.retAddr 0, .ref 0, .ref 86, .int 0]) (st1 := []) (h1 := xhN) rfl ?_
  refine ev_go 6 (pc1 := 664) (lv1 := [.retAddr 0, .ref 0, .ref 86, .int 0]) (st1 := [.int (xs 1), .ref 0]) (h1 := xhN) rfl ?_
  refine ev_call (v1 := (some (.int r))) (h1 := (124, i1, l1, r1)) rfl rfl c1 ?_
  refine ev_go 6 (pc1 := 673) (lv1 := [.retAddr 0, .ref 0, .ref 86, .int 0]) (st1 := [.int (xs 1), .ref 86, .int r]) (h1 := (124, i1, l1, r1)) rfl ?_
  refine ev_call (v1 := (some (.int r))) (h1 := (124, i2, l2, r2)) rfl rfl c2 ?_
  refine ev_br (b1 := true) rfl rfl (xcd_eq (x := r) (y := r) (by omega)) ?_
  refine ev_go 9 (pc1 := 1142) (lv1 := [.retAddr 0, .ref 0, .ref 86, .int 7]) (st1 := [.int 1]) (h1 := (124, i2, l2, r2)) rfl ?_
  exact ev_ret rfl rfl
theorem lw_k15 {xs : Nat → Int32} (hk : xs 0 &&& 31 = nI 15) {r : Int32} {i1 : Nat → Nat → Int32} {l1 : Nat → Nat → Int64} {r1 : Nat → Nat → Nat} {i2 : Nat → Nat → Int32} {l2 : Nat → Nat → Int64} {r2 : Nat → Nat → Nat} (c1 : xEv 7 xs 19 100 0 [.ref 0, .int (xs 1), xmk] [] xhN (some (.int r)) (124, i1, l1, r1)) (c2 : xEv 7 xs 19 212 0 [.ref 86, .int (xs 1), xmk, xmk] [] (124, i1, l1, r1) (some (.int r)) (124, i2, l2, r2)) : xEv 7 xs 20 0 18 [.retAddr 0, .ref 0, .ref 86, .int 0] [] xhN (some (.int 1)) (124, i2, l2, r2) := by
  refine ev_go 11 (pc1 := 33) (lv1 := [.retAddr 0, .ref 0, .ref 86, .int 0]) (st1 := [.int (xs 0 &&& 31)]) (h1 := xhN) rfl ?_
  rw [hk]
  refine ev_go 1 (pc1 := 681) (lv1 := [.retAddr 0, .ref 0, .ref 86, .int 0]) (st1 := []) (h1 := xhN) rfl ?_
  refine ev_go 6 (pc1 := 687) (lv1 := [.retAddr 0, .ref 0, .ref 86, .int 0]) (st1 := [.int (xs 1), .ref 0]) (h1 := xhN) rfl ?_
  refine ev_call (v1 := (some (.int r))) (h1 := (124, i1, l1, r1)) rfl rfl c1 ?_
  refine ev_go 6 (pc1 := 696) (lv1 := [.retAddr 0, .ref 0, .ref 86, .int 0]) (st1 := [.int (xs 1), .ref 86, .int r]) (h1 := (124, i1, l1, r1)) rfl ?_
  refine ev_call (v1 := (some (.int r))) (h1 := (124, i2, l2, r2)) rfl rfl c2 ?_
  refine ev_br (b1 := true) rfl rfl (xcd_eq (x := r) (y := r) (by omega)) ?_
  refine ev_go 9 (pc1 := 1142) (lv1 := [.retAddr 0, .ref 0, .ref 86, .int 7]) (st1 := [.int 1]) (h1 := (124, i2, l2, r2)) rfl ?_
  exact ev_ret rfl rfl
theorem lw_k16 {xs : Nat → Int32} (hk : xs 0 &&& 31 = nI 16) {r : Int32} {i1 : Nat → Nat → Int32} {l1 : Nat → Nat → Int64} {r1 : Nat → Nat → Nat} {i2 : Nat → Nat → Int32} {l2 : Nat → Nat → Int64} {r2 : Nat → Nat → Nat} (c1 : xEv 7 xs 19 109 0 [.ref 0, .int (xs 1), xmk, xmk] [] xhN (some (.int r)) (124, i1, l1, r1)) (c2 : xEv 7 xs 19 214 0 [.ref 86, .int (xs 1), xmk, xmk, xmk, xmk] [] (124, i1, l1, r1) (some (.int r)) (124, i2, l2, r2)) : xEv 7 xs 20 0 18 [.retAddr 0, .ref 0, .ref 86, .int 0] [] xhN (some (.int 1)) (124, i2, l2, r2) := by
  refine ev_go 11 (pc1 := 33) (lv1 := [.retAddr 0, .ref 0, .ref 86, .int 0]) (st1 := [.int (xs 0 &&& 31)]) (h1 := xhN) rfl ?_
  rw [hk]
  refine ev_go 1 (pc1 := 704) (lv1 := [.retAddr 0, .ref 0, .ref 86, .int 0]) (st1 := []) (h1 := xhN) rfl ?_
  refine ev_go 6 (pc1 := 710) (lv1 := [.retAddr 0, .ref 0, .ref 86, .int 0]) (st1 := [.int (xs 1), .ref 0]) (h1 := xhN) rfl ?_
  refine ev_call (v1 := (some (.int r))) (h1 := (124, i1, l1, r1)) rfl rfl c1 ?_
  refine ev_go 6 (pc1 := 719) (lv1 := [.retAddr 0, .ref 0, .ref 86, .int 0]) (st1 := [.int (xs 1), .ref 86, .int r]) (h1 := (124, i1, l1, r1)) rfl ?_
  refine ev_call (v1 := (some (.int r))) (h1 := (124, i2, l2, r2)) rfl rfl c2 ?_
  refine ev_br (b1 := true) rfl rfl (xcd_eq (x := r) (y := r) (by omega)) ?_
  refine ev_go 9 (pc1 := 1142) (lv1 := [.retAddr 0, .ref 0, .ref 86, .int 7]) (st1 := [.int 1]) (h1 := (124, i2, l2, r2)) rfl ?_
  exact ev_ret rfl rfl
theorem lw_k17 {xs : Nat → Int32} (hk : xs 0 &&& 31 = nI 17) {r : Int32} {i1 : Nat → Nat → Int32} {l1 : Nat → Nat → Int64} {r1 : Nat → Nat → Nat} {i2 : Nat → Nat → Int32} {l2 : Nat → Nat → Int64} {r2 : Nat → Nat → Nat} (c1 : xEv 7 xs 19 111 0 [.ref 0, .int (xs 1), .int (xs 2), .int (xs 3), .int (xs 4), .int (xs 5), .int (xs 6)] [] xhN (some (.int r)) (124, i1, l1, r1)) (c2 : xEv 7 xs 19 215 0 [.ref 86, .int (xs 1), .int (xs 2), .int (xs 3), .int (xs 4), .int (xs 5), .int (xs 6)] [] (124, i1, l1, r1) (some (.int r)) (124, i2, l2, r2)) : xEv 7 xs 20 0 18 [.retAddr 0, .ref 0, .ref 86, .int 0] [] xhN (some (.int 1)) (124, i2, l2, r2) := by
  refine ev_go 11 (pc1 := 33) (lv1 := [.retAddr 0, .ref 0, .ref 86, .int 0]) (st1 := [.int (xs 0 &&& 31)]) (h1 := xhN) rfl ?_
  rw [hk]
  refine ev_go 1 (pc1 := 727) (lv1 := [.retAddr 0, .ref 0, .ref 86, .int 0]) (st1 := []) (h1 := xhN) rfl ?_
  refine ev_go 31 (pc1 := 759) (lv1 := [.retAddr 0, .ref 0, .ref 86, .int 0]) (st1 := [.int (xs 6), .int (xs 5), .int (xs 4), .int (xs 3), .int (xs 2), .int (xs 1), .ref 0]) (h1 := xhN) rfl ?_
  refine ev_call (v1 := (some (.int r))) (h1 := (124, i1, l1, r1)) rfl rfl c1 ?_
  refine ev_go 31 (pc1 := 794) (lv1 := [.retAddr 0, .ref 0, .ref 86, .int 0]) (st1 := [.int (xs 6), .int (xs 5), .int (xs 4), .int (xs 3), .int (xs 2), .int (xs 1), .ref 86, .int r]) (h1 := (124, i1, l1, r1)) rfl ?_
  refine ev_call (v1 := (some (.int r))) (h1 := (124, i2, l2, r2)) rfl rfl c2 ?_
  refine ev_br (b1 := true) rfl rfl (xcd_eq (x := r) (y := r) (by omega)) ?_
  refine ev_go 9 (pc1 := 1142) (lv1 := [.retAddr 0, .ref 0, .ref 86, .int 7]) (st1 := [.int 1]) (h1 := (124, i2, l2, r2)) rfl ?_
  exact ev_ret rfl rfl
theorem lw_k18 {xs : Nat → Int32} (hk : xs 0 &&& 31 = nI 18) {r : Int32} {i1 : Nat → Nat → Int32} {l1 : Nat → Nat → Int64} {r1 : Nat → Nat → Nat} {i2 : Nat → Nat → Int32} {l2 : Nat → Nat → Int64} {r2 : Nat → Nat → Nat} (c1 : xEv 7 xs 19 114 0 [.ref 0, .int (xs 1), .int (xs 2), .int (xs 3), .int (xs 4), .int (xs 5), xmk, xmk] [] xhN (some (.int r)) (124, i1, l1, r1)) (c2 : xEv 7 xs 19 218 0 [.ref 86, .int (xs 1), .int (xs 2), .int (xs 3), .int (xs 4), .int (xs 5), xmk, xmk] [] (124, i1, l1, r1) (some (.int r)) (124, i2, l2, r2)) : xEv 7 xs 20 0 18 [.retAddr 0, .ref 0, .ref 86, .int 0] [] xhN (some (.int 1)) (124, i2, l2, r2) := by
  refine ev_go 11 (pc1 := 33) (lv1 := [.retAddr 0, .ref 0, .ref 86, .int 0]) (st1 := [.int (xs 0 &&& 31)]) (h1 := xhN) rfl ?_
  rw [hk]
  refine ev_go 1 (pc1 := 802) (lv1 := [.retAddr 0, .ref 0, .ref 86, .int 0]) (st1 := []) (h1 := xhN) rfl ?_
  refine ev_go 26 (pc1 := 828) (lv1 := [.retAddr 0, .ref 0, .ref 86, .int 0]) (st1 := [.int (xs 5), .int (xs 4), .int (xs 3), .int (xs 2), .int (xs 1), .ref 0]) (h1 := xhN) rfl ?_
  refine ev_call (v1 := (some (.int r))) (h1 := (124, i1, l1, r1)) rfl rfl c1 ?_
  refine ev_go 26 (pc1 := 857) (lv1 := [.retAddr 0, .ref 0, .ref 86, .int 0]) (st1 := [.int (xs 5), .int (xs 4), .int (xs 3), .int (xs 2), .int (xs 1), .ref 86, .int r]) (h1 := (124, i1, l1, r1)) rfl ?_
  refine ev_call (v1 := (some (.int r))) (h1 := (124, i2, l2, r2)) rfl rfl c2 ?_
  refine ev_br (b1 := true) rfl rfl (xcd_eq (x := r) (y := r) (by omega)) ?_
  refine ev_go 9 (pc1 := 1142) (lv1 := [.retAddr 0, .ref 0, .ref 86, .int 7]) (st1 := [.int 1]) (h1 := (124, i2, l2, r2)) rfl ?_
  exact ev_ret rfl rfl
theorem lw_k19 {xs : Nat → Int32} (hk : xs 0 &&& 31 = nI 19) {r : Int32} {i1 : Nat → Nat → Int32} {l1 : Nat → Nat → Int64} {r1 : Nat → Nat → Nat} {i2 : Nat → Nat → Int32} {l2 : Nat → Nat → Int64} {r2 : Nat → Nat → Nat} (c1 : xEv 7 xs 19 115 0 [.ref 0, .int (xs 1), xmk] [] xhN (some (.int r)) (124, i1, l1, r1)) (c2 : xEv 7 xs 19 219 0 [.ref 86, .int (xs 1), xmk, xmk, xmk, xmk, xmk, xmk, xmk] [] (124, i1, l1, r1) (some (.int r)) (124, i2, l2, r2)) : xEv 7 xs 20 0 18 [.retAddr 0, .ref 0, .ref 86, .int 0] [] xhN (some (.int 1)) (124, i2, l2, r2) := by
  refine ev_go 11 (pc1 := 33) (lv1 := [.retAddr 0, .ref 0, .ref 86, .int 0]) (st1 := [.int (xs 0 &&& 31)]) (h1 := xhN) rfl ?_
  rw [hk]
  refine ev_go 1 (pc1 := 865) (lv1 := [.retAddr 0, .ref 0, .ref 86, .int 0]) (st1 := []) (h1 := xhN) rfl ?_
  refine ev_go 6 (pc1 := 871) (lv1 := [.retAddr 0, .ref 0, .ref 86, .int 0]) (st1 := [.int (xs 1), .ref 0]) (h1 := xhN) rfl ?_
  refine ev_call (v1 := (some (.int r))) (h1 := (124, i1, l1, r1)) rfl rfl c1 ?_
  refine ev_go 6 (pc1 := 880) (lv1 := [.retAddr 0, .ref 0, .ref 86, .int 0]) (st1 := [.int (xs 1), .ref 86, .int r]) (h1 := (124, i1, l1, r1)) rfl ?_
  refine ev_call (v1 := (some (.int r))) (h1 := (124, i2, l2, r2)) rfl rfl c2 ?_
  refine ev_br (b1 := true) rfl rfl (xcd_eq (x := r) (y := r) (by omega)) ?_
  refine ev_go 9 (pc1 := 1142) (lv1 := [.retAddr 0, .ref 0, .ref 86, .int 7]) (st1 := [.int 1]) (h1 := (124, i2, l2, r2)) rfl ?_
  exact ev_ret rfl rfl
theorem lw_k20 {xs : Nat → Int32} (hk : xs 0 &&& 31 = nI 20) {r : Int32} {i1 : Nat → Nat → Int32} {l1 : Nat → Nat → Int64} {r1 : Nat → Nat → Nat} {i2 : Nat → Nat → Int32} {l2 : Nat → Nat → Int64} {r2 : Nat → Nat → Nat} (c1 : xEv 7 xs 19 118 0 [.ref 0, .int (xs 1)] [] xhN (some (.int r)) (124, i1, l1, r1)) (c2 : xEv 7 xs 19 220 0 [.ref 86, .int (xs 1)] [] (124, i1, l1, r1) (some (.int r)) (124, i2, l2, r2)) : xEv 7 xs 20 0 18 [.retAddr 0, .ref 0, .ref 86, .int 0] [] xhN (some (.int 1)) (124, i2, l2, r2) := by
  refine ev_go 11 (pc1 := 33) (lv1 := [.retAddr 0, .ref 0, .ref 86, .int 0]) (st1 := [.int (xs 0 &&& 31)]) (h1 := xhN) rfl ?_
  rw [hk]
  refine ev_go 1 (pc1 := 888) (lv1 := [.retAddr 0, .ref 0, .ref 86, .int 0]) (st1 := []) (h1 := xhN) rfl ?_
  refine ev_go 6 (pc1 := 894) (lv1 := [.retAddr 0, .ref 0, .ref 86, .int 0]) (st1 := [.int (xs 1), .ref 0]) (h1 := xhN) rfl ?_
  refine ev_call (v1 := (some (.int r))) (h1 := (124, i1, l1, r1)) rfl rfl c1 ?_
  refine ev_go 6 (pc1 := 903) (lv1 := [.retAddr 0, .ref 0, .ref 86, .int 0]) (st1 := [.int (xs 1), .ref 86, .int r]) (h1 := (124, i1, l1, r1)) rfl ?_
  refine ev_call (v1 := (some (.int r))) (h1 := (124, i2, l2, r2)) rfl rfl c2 ?_
  refine ev_br (b1 := true) rfl rfl (xcd_eq (x := r) (y := r) (by omega)) ?_
  refine ev_go 9 (pc1 := 1142) (lv1 := [.retAddr 0, .ref 0, .ref 86, .int 7]) (st1 := [.int 1]) (h1 := (124, i2, l2, r2)) rfl ?_
  exact ev_ret rfl rfl
theorem lw_k21 {xs : Nat → Int32} (hk : xs 0 &&& 31 = nI 21) {r : Int32} {i1 : Nat → Nat → Int32} {l1 : Nat → Nat → Int64} {r1 : Nat → Nat → Nat} {i2 : Nat → Nat → Int32} {l2 : Nat → Nat → Int64} {r2 : Nat → Nat → Nat} (c1 : xEv 7 xs 19 119 0 [.ref 0, .int (xs 1), .int (xs 2), .int (xs 3), xmk] [] xhN (some (.int r)) (124, i1, l1, r1)) (c2 : xEv 7 xs 19 221 0 [.ref 86, .int (xs 1), .int (xs 2), .int (xs 3), xmk] [] (124, i1, l1, r1) (some (.int r)) (124, i2, l2, r2)) : xEv 7 xs 20 0 18 [.retAddr 0, .ref 0, .ref 86, .int 0] [] xhN (some (.int 1)) (124, i2, l2, r2) := by
  refine ev_go 11 (pc1 := 33) (lv1 := [.retAddr 0, .ref 0, .ref 86, .int 0]) (st1 := [.int (xs 0 &&& 31)]) (h1 := xhN) rfl ?_
  rw [hk]
  refine ev_go 1 (pc1 := 911) (lv1 := [.retAddr 0, .ref 0, .ref 86, .int 0]) (st1 := []) (h1 := xhN) rfl ?_
  refine ev_go 16 (pc1 := 927) (lv1 := [.retAddr 0, .ref 0, .ref 86, .int 0]) (st1 := [.int (xs 3), .int (xs 2), .int (xs 1), .ref 0]) (h1 := xhN) rfl ?_
  refine ev_call (v1 := (some (.int r))) (h1 := (124, i1, l1, r1)) rfl rfl c1 ?_
  refine ev_go 16 (pc1 := 946) (lv1 := [.retAddr 0, .ref 0, .ref 86, .int 0]) (st1 := [.int (xs 3), .int (xs 2), .int (xs 1), .ref 86, .int r]) (h1 := (124, i1, l1, r1)) rfl ?_
  refine ev_call (v1 := (some (.int r))) (h1 := (124, i2, l2, r2)) rfl rfl c2 ?_
  refine ev_br (b1 := true) rfl rfl (xcd_eq (x := r) (y := r) (by omega)) ?_
  refine ev_go 9 (pc1 := 1142) (lv1 := [.retAddr 0, .ref 0, .ref 86, .int 7]) (st1 := [.int 1]) (h1 := (124, i2, l2, r2)) rfl ?_
  exact ev_ret rfl rfl
theorem lw_k22 {xs : Nat → Int32} (hk : xs 0 &&& 31 = nI 22) {r : Int32} {i1 : Nat → Nat → Int32} {l1 : Nat → Nat → Int64} {r1 : Nat → Nat → Nat} {i2 : Nat → Nat → Int32} {l2 : Nat → Nat → Int64} {r2 : Nat → Nat → Nat} (c1 : xEv 7 xs 19 120 0 [.ref 0, .int (xs 1)] [] xhN (some (.int r)) (124, i1, l1, r1)) (c2 : xEv 7 xs 19 222 0 [.ref 86, .int (xs 1), xmk] [] (124, i1, l1, r1) (some (.int r)) (124, i2, l2, r2)) : xEv 7 xs 20 0 18 [.retAddr 0, .ref 0, .ref 86, .int 0] [] xhN (some (.int 1)) (124, i2, l2, r2) := by
  refine ev_go 11 (pc1 := 33) (lv1 := [.retAddr 0, .ref 0, .ref 86, .int 0]) (st1 := [.int (xs 0 &&& 31)]) (h1 := xhN) rfl ?_
  rw [hk]
  refine ev_go 1 (pc1 := 954) (lv1 := [.retAddr 0, .ref 0, .ref 86, .int 0]) (st1 := []) (h1 := xhN) rfl ?_
  refine ev_go 6 (pc1 := 960) (lv1 := [.retAddr 0, .ref 0, .ref 86, .int 0]) (st1 := [.int (xs 1), .ref 0]) (h1 := xhN) rfl ?_
  refine ev_call (v1 := (some (.int r))) (h1 := (124, i1, l1, r1)) rfl rfl c1 ?_
  refine ev_go 6 (pc1 := 969) (lv1 := [.retAddr 0, .ref 0, .ref 86, .int 0]) (st1 := [.int (xs 1), .ref 86, .int r]) (h1 := (124, i1, l1, r1)) rfl ?_
  refine ev_call (v1 := (some (.int r))) (h1 := (124, i2, l2, r2)) rfl rfl c2 ?_
  refine ev_br (b1 := true) rfl rfl (xcd_eq (x := r) (y := r) (by omega)) ?_
  refine ev_go 9 (pc1 := 1142) (lv1 := [.retAddr 0, .ref 0, .ref 86, .int 7]) (st1 := [.int 1]) (h1 := (124, i2, l2, r2)) rfl ?_
  exact ev_ret rfl rfl
theorem lw_k23 {xs : Nat → Int32} (hk : xs 0 &&& 31 = nI 23) {r : Int32} {i1 : Nat → Nat → Int32} {l1 : Nat → Nat → Int64} {r1 : Nat → Nat → Nat} {i2 : Nat → Nat → Int32} {l2 : Nat → Nat → Int64} {r2 : Nat → Nat → Nat} (c1 : xEv 7 xs 19 122 0 [.ref 0, .int (xs 1), xmk] [] xhN (some (.int r)) (124, i1, l1, r1)) (c2 : xEv 7 xs 19 223 0 [.ref 86, .int (xs 1), xmk] [] (124, i1, l1, r1) (some (.int r)) (124, i2, l2, r2)) : xEv 7 xs 20 0 18 [.retAddr 0, .ref 0, .ref 86, .int 0] [] xhN (some (.int 1)) (124, i2, l2, r2) := by
  refine ev_go 11 (pc1 := 33) (lv1 := [.retAddr 0, .ref 0, .ref 86, .int 0]) (st1 := [.int (xs 0 &&& 31)]) (h1 := xhN) rfl ?_
  rw [hk]
  refine ev_go 1 (pc1 := 977) (lv1 := [.retAddr 0, .ref 0, .ref 86, .int 0]) (st1 := []) (h1 := xhN) rfl ?_
  refine ev_go 6 (pc1 := 983) (lv1 := [.retAddr 0, .ref 0, .ref 86, .int 0]) (st1 := [.int (xs 1), .ref 0]) (h1 := xhN) rfl ?_
  refine ev_call (v1 := (some (.int r))) (h1 := (124, i1, l1, r1)) rfl rfl c1 ?_
  refine ev_go 6 (pc1 := 992) (lv1 := [.retAddr 0, .ref 0, .ref 86, .int 0]) (st1 := [.int (xs 1), .ref 86, .int r]) (h1 := (124, i1, l1, r1)) rfl ?_
  refine ev_call (v1 := (some (.int r))) (h1 := (124, i2, l2, r2)) rfl rfl c2 ?_
  refine ev_br (b1 := true) rfl rfl (xcd_eq (x := r) (y := r) (by omega)) ?_
  refine ev_go 9 (pc1 := 1142) (lv1 := [.retAddr 0, .ref 0, .ref 86, .int 7]) (st1 := [.int 1]) (h1 := (124, i2, l2, r2)) rfl ?_
  exact ev_ret rfl rfl
theorem lw_k24 {xs : Nat → Int32} (hk : xs 0 &&& 31 = nI 24) {r : Int32} {i1 : Nat → Nat → Int32} {l1 : Nat → Nat → Int64} {r1 : Nat → Nat → Nat} {i2 : Nat → Nat → Int32} {l2 : Nat → Nat → Int64} {r2 : Nat → Nat → Nat} (c1 : xEv 7 xs 19 133 0 [.ref 0, .int (xs 1), .int (xs 2)] [] xhN (some (.int r)) (124, i1, l1, r1)) (c2 : xEv 7 xs 19 231 0 [.ref 86, .int (xs 1), .int (xs 2)] [] (124, i1, l1, r1) (some (.int r)) (124, i2, l2, r2)) : xEv 7 xs 20 0 18 [.retAddr 0, .ref 0, .ref 86, .int 0] [] xhN (some (.int 1)) (124, i2, l2, r2) := by
  refine ev_go 11 (pc1 := 33) (lv1 := [.retAddr 0, .ref 0, .ref 86, .int 0]) (st1 := [.int (xs 0 &&& 31)]) (h1 := xhN) rfl ?_
  rw [hk]
  refine ev_go 1 (pc1 := 1000) (lv1 := [.retAddr 0, .ref 0, .ref 86, .int 0]) (st1 := []) (h1 := xhN) rfl ?_
  refine ev_go 11 (pc1 := 1011) (lv1 := [.retAddr 0, .ref 0, .ref 86, .int 0]) (st1 := [.int (xs 2), .int (xs 1), .ref 0]) (h1 := xhN) rfl ?_
  refine ev_call (v1 := (some (.int r))) (h1 := (124, i1, l1, r1)) rfl rfl c1 ?_
  refine ev_go 11 (pc1 := 1025) (lv1 := [.retAddr 0, .ref 0, .ref 86, .int 0]) (st1 := [.int (xs 2), .int (xs 1), .ref 86, .int r]) (h1 := (124, i1, l1, r1)) rfl ?_
  refine ev_call (v1 := (some (.int r))) (h1 := (124, i2, l2, r2)) rfl rfl c2 ?_
  refine ev_br (b1 := true) rfl rfl (xcd_eq (x := r) (y := r) (by omega)) ?_
  refine ev_go 9 (pc1 := 1142) (lv1 := [.retAddr 0, .ref 0, .ref 86, .int 7]) (st1 := [.int 1]) (h1 := (124, i2, l2, r2)) rfl ?_
  exact ev_ret rfl rfl
theorem lw_k25 {xs : Nat → Int32} (hk : xs 0 &&& 31 = nI 25) {r : Int32} {i1 : Nat → Nat → Int32} {l1 : Nat → Nat → Int64} {r1 : Nat → Nat → Nat} {i2 : Nat → Nat → Int32} {l2 : Nat → Nat → Int64} {r2 : Nat → Nat → Nat} (c1 : xEv 7 xs 19 134 0 [.ref 0, .int (xs 1), .int (xs 2)] [] xhN (some (.int r)) (124, i1, l1, r1)) (c2 : xEv 7 xs 19 232 0 [.ref 86, .int (xs 1), .int (xs 2)] [] (124, i1, l1, r1) (some (.int r)) (124, i2, l2, r2)) : xEv 7 xs 20 0 18 [.retAddr 0, .ref 0, .ref 86, .int 0] [] xhN (some (.int 1)) (124, i2, l2, r2) := by
  refine ev_go 11 (pc1 := 33) (lv1 := [.retAddr 0, .ref 0, .ref 86, .int 0]) (st1 := [.int (xs 0 &&& 31)]) (h1 := xhN) rfl ?_
  rw [hk]
  refine ev_go 1 (pc1 := 1033) (lv1 := [.retAddr 0, .ref 0, .ref 86, .int 0]) (st1 := []) (h1 := xhN) rfl ?_
  refine ev_go 11 (pc1 := 1044) (lv1 := [.retAddr 0, .ref 0, .ref 86, .int 0]) (st1 := [.int (xs 2), .int (xs 1), .ref 0]) (h1 := xhN) rfl ?_
  refine ev_call (v1 := (some (.int r))) (h1 := (124, i1, l1, r1)) rfl rfl c1 ?_
  refine ev_go 11 (pc1 := 1058) (lv1 := [.retAddr 0, .ref 0, .ref 86, .int 0]) (st1 := [.int (xs 2), .int (xs 1), .ref 86, .int r]) (h1 := (124, i1, l1, r1)) rfl ?_
  refine ev_call (v1 := (some (.int r))) (h1 := (124, i2, l2, r2)) rfl rfl c2 ?_
  refine ev_br (b1 := true) rfl rfl (xcd_eq (x := r) (y := r) (by omega)) ?_
  refine ev_go 9 (pc1 := 1142) (lv1 := [.retAddr 0, .ref 0, .ref 86, .int 7]) (st1 := [.int 1]) (h1 := (124, i2, l2, r2)) rfl ?_
  exact ev_ret rfl rfl
theorem lw_k26 {xs : Nat → Int32} (hk : xs 0 &&& 31 = nI 26) {r : Int32} {i1 : Nat → Nat → Int32} {l1 : Nat → Nat → Int64} {r1 : Nat → Nat → Nat} {i2 : Nat → Nat → Int32} {l2 : Nat → Nat → Int64} {r2 : Nat → Nat → Nat} (c1 : xEv 7 xs 19 135 0 [.ref 0, .int (xs 1), xmk] [] xhN (some (.int r)) (124, i1, l1, r1)) (c2 : xEv 7 xs 19 233 0 [.ref 86, .int (xs 1), xmk] [] (124, i1, l1, r1) (some (.int r)) (124, i2, l2, r2)) : xEv 7 xs 20 0 18 [.retAddr 0, .ref 0, .ref 86, .int 0] [] xhN (some (.int 1)) (124, i2, l2, r2) := by
  refine ev_go 11 (pc1 := 33) (lv1 := [.retAddr 0, .ref 0, .ref 86, .int 0]) (st1 := [.int (xs 0 &&& 31)]) (h1 := xhN) rfl ?_
  rw [hk]
  refine ev_go 1 (pc1 := 1066) (lv1 := [.retAddr 0, .ref 0, .ref 86, .int 0]) (st1 := []) (h1 := xhN) rfl ?_
  refine ev_go 6 (pc1 := 1072) (lv1 := [.retAddr 0, .ref 0, .ref 86, .int 0]) (st1 := [.int (xs 1), .ref 0]) (h1 := xhN) rfl ?_
  refine ev_call (v1 := (some (.int r))) (h1 := (124, i1, l1, r1)) rfl rfl c1 ?_
  refine ev_go 6 (pc1 := 1081) (lv1 := [.retAddr 0, .ref 0, .ref 86, .int 0]) (st1 := [.int (xs 1), .ref 86, .int r]) (h1 := (124, i1, l1, r1)) rfl ?_
  refine ev_call (v1 := (some (.int r))) (h1 := (124, i2, l2, r2)) rfl rfl c2 ?_
  refine ev_br (b1 := true) rfl rfl (xcd_eq (x := r) (y := r) (by omega)) ?_
  refine ev_go 9 (pc1 := 1142) (lv1 := [.retAddr 0, .ref 0, .ref 86, .int 7]) (st1 := [.int 1]) (h1 := (124, i2, l2, r2)) rfl ?_
  exact ev_ret rfl rfl
theorem lw_k27 {xs : Nat → Int32} (hk : xs 0 &&& 31 = nI 27) {r : Int32} {i1 : Nat → Nat → Int32} {l1 : Nat → Nat → Int64} {r1 : Nat → Nat → Nat} {i2 : Nat → Nat → Int32} {l2 : Nat → Nat → Int64} {r2 : Nat → Nat → Nat} (c1 : xEv 7 xs 19 138 0 [.ref 0, .int (xs 1), xmk] [] xhN (some (.int r)) (124, i1, l1, r1)) (c2 : xEv 7 xs 19 235 0 [.ref 86, .int (xs 1), xmk] [] (124, i1, l1, r1) (some (.int r)) (124, i2, l2, r2)) : xEv 7 xs 20 0 18 [.retAddr 0, .ref 0, .ref 86, .int 0] [] xhN (some (.int 1)) (124, i2, l2, r2) := by
  refine ev_go 11 (pc1 := 33) (lv1 := [.retAddr 0, .ref 0, .ref 86, .int 0]) (st1 := [.int (xs 0 &&& 31)]) (h1 := xhN) rfl ?_
  rw [hk]
  refine ev_go 1 (pc1 := 1089) (lv1 := [.retAddr 0, .ref 0, .ref 86, .int 0]) (st1 := []) (h1 := xhN) rfl ?_
  refine ev_go 6 (pc1 := 1095) (lv1 := [.retAddr 0, .ref 0, .ref 86, .int 0]) (st1 := [.int (xs 1), .ref 0]) (h1 := xhN) rfl ?_
  refine ev_call (v1 := (some (.int r))) (h1 := (124, i1, l1, r1)) rfl rfl c1 ?_
  refine ev_go 6 (pc1 := 1104) (lv1 := [.retAddr 0, .ref 0, .ref 86, .int 0]) (st1 := [.int (xs 1), .ref 86, .int r]) (h1 := (124, i1, l1, r1)) rfl ?_
  refine ev_call (v1 := (some (.int r))) (h1 := (124, i2, l2, r2)) rfl rfl c2 ?_
  refine ev_br (b1 := true) rfl rfl (xcd_eq (x := r) (y := r) (by omega)) ?_
  refine ev_go 9 (pc1 := 1142) (lv1 := [.retAddr 0, .ref 0, .ref 86, .int 7]) (st1 := [.int 1]) (h1 := (124, i2, l2, r2)) rfl ?_
  exact ev_ret rfl rfl
theorem lw_k28 {xs : Nat → Int32} (hk : xs 0 &&& 31 = nI 28) {r : Int32} {i1 : Nat → Nat → Int32} {l1 : Nat → Nat → Int64} {r1 : Nat → Nat → Nat} {i2 : Nat → Nat → Int32} {l2 : Nat → Nat → Int64} {r2 : Nat → Nat → Nat} (c1 : xEv 7 xs 19 139 0 [.ref 0, .int (xs 1)] [] xhN (some (.int r)) (124, i1, l1, r1)) (c2 : xEv 7 xs 19 236 0 [.ref 86, .int (xs 1)] [] (124, i1, l1, r1) (some (.int r)) (124, i2, l2, r2)) : xEv 7 xs 20 0 18 [.retAddr 0, .ref 0, .ref 86, .int 0] [] xhN (some (.int 1)) (124, i2, l2, r2) := by
  refine ev_go 11 (pc1 := 33) (lv1 := [.retAddr 0, .ref 0, .ref 86, .int 0]) (st1 := [.int (xs 0 &&& 31)]) (h1 := xhN) rfl ?_
  rw [hk]
  refine ev_go 1 (pc1 := 1112) (lv1 := [.retAddr 0, .ref 0, .ref 86, .int 0]) (st1 := []) (h1 := xhN) rfl ?_
  refine ev_go 6 (pc1 := 1118) (lv1 := [.retAddr 0, .ref 0, .ref 86, .int 0]) (st1 := [.int (xs 1), .ref 0]) (h1 := xhN) rfl ?_
  refine ev_call (v1 := (some (.int r))) (h1 := (124, i1, l1, r1)) rfl rfl c1 ?_
  refine ev_go 6 (pc1 := 1127) (lv1 := [.retAddr 0, .ref 0, .ref 86, .int 0]) (st1 := [.int (xs 1), .ref 86, .int r]) (h1 := (124, i1, l1, r1)) rfl ?_
  refine ev_call (v1 := (some (.int r))) (h1 := (124, i2, l2, r2)) rfl rfl c2 ?_
  refine ev_br (b1 := true) rfl rfl (xcd_eq (x := r) (y := r) (by omega)) ?_
  refine ev_go 9 (pc1 := 1142) (lv1 := [.retAddr 0, .ref 0, .ref 86, .int 7]) (st1 := [.int 1]) (h1 := (124, i2, l2, r2)) rfl ?_
  exact ev_ret rfl rfl
theorem lw_k29 {xs : Nat → Int32} (hk : xs 0 &&& 31 = nI 29) : xEv 7 xs 20 0 18 [.retAddr 0, .ref 0, .ref 86, .int 0] [] xhN (some (.int 1)) xhN := by
  refine ev_go 11 (pc1 := 33) (lv1 := [.retAddr 0, .ref 0, .ref 86, .int 0]) (st1 := [.int (xs 0 &&& 31)]) (h1 := xhN) rfl ?_
  rw [hk]
  refine ev_go 1 (pc1 := 1135) (lv1 := [.retAddr 0, .ref 0, .ref 86, .int 0]) (st1 := []) (h1 := xhN) rfl ?_
  refine ev_go 9 (pc1 := 1142) (lv1 := [.retAddr 0, .ref 0, .ref 86, .int 7]) (st1 := [.int 1]) (h1 := xhN) rfl ?_
  exact ev_ret rfl rfl
theorem lw_k30 {xs : Nat → Int32} (hk : xs 0 &&& 31 = nI 30) : xEv 7 xs 20 0 18 [.retAddr 0, .ref 0, .ref 86, .int 0] [] xhN (some (.int 1)) xhN := by
  refine ev_go 11 (pc1 := 33) (lv1 := [.retAddr 0, .ref 0, .ref 86, .int 0]) (st1 := [.int (xs 0 &&& 31)]) (h1 := xhN) rfl ?_
  rw [hk]
  refine ev_go 1 (pc1 := 1135) (lv1 := [.retAddr 0, .ref 0, .ref 86, .int 0]) (st1 := []) (h1 := xhN) rfl ?_
  refine ev_go 9 (pc1 := 1142) (lv1 := [.retAddr 0, .ref 0, .ref 86, .int 7]) (st1 := [.int 1]) (h1 := xhN) rfl ?_
  exact ev_ret rfl rfl
theorem lw_k31 {xs : Nat → Int32} (hk : xs 0 &&& 31 = nI 31) : xEv 7 xs 20 0 18 [.retAddr 0, .ref 0, .ref 86, .int 0] [] xhN (some (.int 1)) xhN := by
  refine ev_go 11 (pc1 := 33) (lv1 := [.retAddr 0, .ref 0, .ref 86, .int 0]) (st1 := [.int (xs 0 &&& 31)]) (h1 := xhN) rfl ?_
  rw [hk]
  refine ev_go 1 (pc1 := 1135) (lv1 := [.retAddr 0, .ref 0, .ref 86, .int 0]) (st1 := []) (h1 := xhN) rfl ?_
  refine ev_go 9 (pc1 := 1142) (lv1 := [.retAddr 0, .ref 0, .ref 86, .int 7]) (st1 := [.int 1]) (h1 := xhN) rfl ?_
  exact ev_ret rfl rfl
theorem lw_s0 {xs : Nat → Int32} : xEv 0 xs 20 0 18 [.retAddr 0, .ref 0, .ref 86, .int 0] [] xhN (some (.int 1)) xhN := by
  refine ev_go 7 (pc1 := 1142) (lv1 := [.retAddr 0, .ref 0, .ref 86, .int 0]) (st1 := [.int 1]) (h1 := xhN) rfl ?_
  exact ev_ret rfl rfl
theorem lw_s1 {xs : Nat → Int32} : xEv 1 xs 20 0 18 [.retAddr 0, .ref 0, .ref 86, .int 0] [] xhN (some (.int 1)) xhN := by
  refine ev_go 7 (pc1 := 1142) (lv1 := [.retAddr 0, .ref 0, .ref 86, .int 0]) (st1 := [.int 1]) (h1 := xhN) rfl ?_
  exact ev_ret rfl rfl
theorem lw_s2 {xs : Nat → Int32} : xEv 2 xs 20 0 18 [.retAddr 0, .ref 0, .ref 86, .int 0] [] xhN (some (.int 1)) xhN := by
  refine ev_go 7 (pc1 := 1142) (lv1 := [.retAddr 0, .ref 0, .ref 86, .int 0]) (st1 := [.int 1]) (h1 := xhN) rfl ?_
  exact ev_ret rfl rfl
theorem lw_s3 {xs : Nat → Int32} : xEv 3 xs 20 0 18 [.retAddr 0, .ref 0, .ref 86, .int 0] [] xhN (some (.int 1)) xhN := by
  refine ev_go 7 (pc1 := 1142) (lv1 := [.retAddr 0, .ref 0, .ref 86, .int 0]) (st1 := [.int 1]) (h1 := xhN) rfl ?_
  exact ev_ret rfl rfl
theorem lw_s4 {xs : Nat → Int32} : xEv 4 xs 20 0 18 [.retAddr 0, .ref 0, .ref 86, .int 0] [] xhN (some (.int 1)) xhN := by
  refine ev_go 7 (pc1 := 1142) (lv1 := [.retAddr 0, .ref 0, .ref 86, .int 0]) (st1 := [.int 1]) (h1 := xhN) rfl ?_
  exact ev_ret rfl rfl
theorem lw_s5 {xs : Nat → Int32} : xEv 5 xs 20 0 18 [.retAddr 0, .ref 0, .ref 86, .int 0] [] xhN (some (.int 1)) xhN := by
  refine ev_go 7 (pc1 := 1142) (lv1 := [.retAddr 0, .ref 0, .ref 86, .int 0]) (st1 := [.int 1]) (h1 := xhN) rfl ?_
  exact ev_ret rfl rfl
theorem lw_s6 {xs : Nat → Int32} : xEv 6 xs 20 0 18 [.retAddr 0, .ref 0, .ref 86, .int 0] [] xhN (some (.int 1)) xhN := by
  refine ev_go 7 (pc1 := 1142) (lv1 := [.retAddr 0, .ref 0, .ref 86, .int 0]) (st1 := [.int 1]) (h1 := xhN) rfl ?_
  exact ev_ret rfl rfl
/-- p1, of the abstract machine -/
theorem p1_main {L : Nat} {xs : Nat → Int32} (hL : L ≤ 7) : ∃ i2 l2 r2, xEv L xs 20 0 18 [.retAddr 0, .ref 0, .ref 86, .int 0] [] xhN (some (.int 1)) (124, i2, l2, r2) := by
  match L, hL with
  | 0, _ => exact ⟨_, _, _, lw_s0⟩
  | 1, _ => exact ⟨_, _, _, lw_s1⟩
  | 2, _ => exact ⟨_, _, _, lw_s2⟩
  | 3, _ => exact ⟨_, _, _, lw_s3⟩
  | 4, _ => exact ⟨_, _, _, lw_s4⟩
  | 5, _ => exact ⟨_, _, _, lw_s5⟩
  | 6, _ => exact ⟨_, _, _, lw_s6⟩
  | 7, _ =>
    obtain ⟨k, hk, e⟩ := pk_andE (xs 0) (m := 31) 5 (by decide)
    match k, hk, e with
    | 0, _, e =>
      obtain ⟨r, i1, l1, r1, i2, l2, r2, c1, c2⟩ := pk_feed (L := 7) (xs := xs) (xs 1) (xs 2) (xs 3) (xs 4) (xs 5)
      exact ⟨_, _, _, lw_k0 e c1 c2⟩
    | 1, _, e =>
      obtain ⟨r, i1, l1, r1, i2, l2, r2, c1, c2⟩ := pk_end (L := 7) (xs := xs) (xs 1)
      exact ⟨_, _, _, lw_k1 e c1 c2⟩
    | 2, _, e =>
      obtain ⟨r, i1, l1, r1, i2, l2, r2, c1, c2⟩ := pk_village (L := 7) (xs := xs)
      exact ⟨_, _, _, lw_k2 e c1 c2⟩
    | 3, _, e =>
      obtain ⟨r, i1, l1, r1, i2, l2, r2, c1, c2⟩ := pk_fault (L := 7) (xs := xs) (xs 1)
      exact ⟨_, _, _, lw_k3 e c1 c2⟩
    | 4, _, e =>
      obtain ⟨r, i1, l1, r1, i2, l2, r2, c1, c2⟩ := pk_told (L := 7) (xs := xs) (xs 1)
      exact ⟨_, _, _, lw_k4 e c1 c2⟩
    | 5, _, e =>
      obtain ⟨r, i1, l1, r1, i2, l2, r2, c1, c2⟩ := pk_meeting (L := 7) (xs := xs) (xs 1) (xs 2)
      exact ⟨_, _, _, lw_k5 e c1 c2⟩
    | 6, _, e =>
      obtain ⟨r, i1, l1, r1, i2, l2, r2, c1, c2⟩ := pk_time (L := 7) (xs := xs) (xs 1) (xs 2)
      exact ⟨_, _, _, lw_k6 e c1 c2⟩
    | 7, _, e =>
      obtain ⟨r, i1, l1, r1, i2, l2, r2, c1, c2⟩ := pk_judge (L := 7) (xs := xs)
      exact ⟨_, _, _, lw_k7 e c1 c2⟩
    | 8, _, e =>
      obtain ⟨r, i1, l1, r1, i2, l2, r2, c1, c2⟩ := pk_judged (L := 7) (xs := xs) (xs 1) (xs 2)
      exact ⟨_, _, _, lw_k8 e c1 c2⟩
    | 9, _, e =>
      obtain ⟨r, i1, l1, r1, i2, l2, r2, c1, c2⟩ := pk_soon (L := 7) (xs := xs) (xs 1) (xs 2) (xs 3) (xs 4)
      exact ⟨_, _, _, lw_k9 e c1 c2⟩
    | 10, _, e =>
      obtain ⟨r, i1, l1, r1, i2, l2, r2, c1, c2⟩ := pk_surest (L := 7) (xs := xs) (xs 1) (xs 2) (xs 3) (xs 4) (xs 5) (xs 6)
      exact ⟨_, _, _, lw_k10 e c1 c2⟩
    | 11, _, e =>
      obtain ⟨r, i1, l1, r1, i2, l2, r2, c1, c2⟩ := pk_bars (L := 7) (xs := xs) (xs 1) (xs 2) (xs 3) (xs 4)
      exact ⟨_, _, _, lw_k11 e c1 c2⟩
    | 12, _, e =>
      obtain ⟨r, i1, l1, r1, i2, l2, r2, c1, c2⟩ := pk_all (L := 7) (xs := xs) (xs 1)
      exact ⟨_, _, _, lw_k12 e c1 c2⟩
    | 13, _, e =>
      obtain ⟨r, i1, l1, r1, i2, l2, r2, c1, c2⟩ := pk_together (L := 7) (xs := xs) (xs 1) (xs 2)
      exact ⟨_, _, _, lw_k13 e c1 c2⟩
    | 14, _, e =>
      obtain ⟨r, i1, l1, r1, i2, l2, r2, c1, c2⟩ := pk_reply (L := 7) (xs := xs) (xs 1)
      exact ⟨_, _, _, lw_k14 e c1 c2⟩
    | 15, _, e =>
      obtain ⟨r, i1, l1, r1, i2, l2, r2, c1, c2⟩ := pk_ring (L := 7) (xs := xs) (xs 1)
      exact ⟨_, _, _, lw_k15 e c1 c2⟩
    | 16, _, e =>
      obtain ⟨r, i1, l1, r1, i2, l2, r2, c1, c2⟩ := pk_bestRing (L := 7) (xs := xs) (xs 1)
      exact ⟨_, _, _, lw_k16 e c1 c2⟩
    | 17, _, e =>
      obtain ⟨r, i1, l1, r1, i2, l2, r2, c1, c2⟩ := pk_where (L := 7) (xs := xs) (xs 1) (xs 2) (xs 3) (xs 4) (xs 5) (xs 6)
      exact ⟨_, _, _, lw_k17 e c1 c2⟩
    | 18, _, e =>
      obtain ⟨r, i1, l1, r1, i2, l2, r2, c1, c2⟩ := pk_ask (L := 7) (xs := xs) (xs 1) (xs 2) (xs 3) (xs 4) (xs 5)
      exact ⟨_, _, _, lw_k18 e c1 c2⟩
    | 19, _, e =>
      obtain ⟨r, i1, l1, r1, i2, l2, r2, c1, c2⟩ := pk_fight (L := 7) (xs := xs) (xs 1)
      exact ⟨_, _, _, lw_k19 e c1 c2⟩
    | 20, _, e =>
      obtain ⟨r, i1, l1, r1, i2, l2, r2, c1, c2⟩ := pk_believe (L := 7) (xs := xs) (xs 1)
      exact ⟨_, _, _, lw_k20 e c1 c2⟩
    | 21, _, e =>
      obtain ⟨r, i1, l1, r1, i2, l2, r2, c1, c2⟩ := pk_rule (L := 7) (xs := xs) (xs 1) (xs 2) (xs 3)
      exact ⟨_, _, _, lw_k21 e c1 c2⟩
    | 22, _, e =>
      obtain ⟨r, i1, l1, r1, i2, l2, r2, c1, c2⟩ := pk_begin (L := 7) (xs := xs) (xs 1)
      exact ⟨_, _, _, lw_k22 e c1 c2⟩
    | 23, _, e =>
      obtain ⟨r, i1, l1, r1, i2, l2, r2, c1, c2⟩ := pk_go (L := 7) (xs := xs) (xs 1)
      exact ⟨_, _, _, lw_k23 e c1 c2⟩
    | 24, _, e =>
      obtain ⟨r, i1, l1, r1, i2, l2, r2, c1, c2⟩ := pk_now (L := 7) (xs := xs) (xs 1) (xs 2)
      exact ⟨_, _, _, lw_k24 e c1 c2⟩
    | 25, _, e =>
      obtain ⟨r, i1, l1, r1, i2, l2, r2, c1, c2⟩ := pk_head (L := 7) (xs := xs) (xs 1) (xs 2)
      exact ⟨_, _, _, lw_k25 e c1 c2⟩
    | 26, _, e =>
      obtain ⟨r, i1, l1, r1, i2, l2, r2, c1, c2⟩ := pk_keep (L := 7) (xs := xs) (xs 1)
      exact ⟨_, _, _, lw_k26 e c1 c2⟩
    | 27, _, e =>
      obtain ⟨r, i1, l1, r1, i2, l2, r2, c1, c2⟩ := pk_take (L := 7) (xs := xs) (xs 1)
      exact ⟨_, _, _, lw_k27 e c1 c2⟩
    | 28, _, e =>
      obtain ⟨r, i1, l1, r1, i2, l2, r2, c1, c2⟩ := pk_count (L := 7) (xs := xs) (xs 1)
      exact ⟨_, _, _, lw_k28 e c1 c2⟩
    | 29, _, e => exact ⟨_, _, _, lw_k29 e⟩
    | 30, _, e => exact ⟨_, _, _, lw_k30 e⟩
    | 31, _, e => exact ⟨_, _, _, lw_k31 e⟩
    | k + 32, hk, _ => omega
  | n + 8, h => omega
