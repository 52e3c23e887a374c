set_option maxRecDepth 20000 in
theorem yso {L : Nat} {xs : Nat → Int32} {d : Nat} {I : Nat → Nat → Int32} {J : Nat → Nat → Int64} {R : Nat → Nat → Nat} {h p : Int32} (hG : aGd R)  : xEv L xs d 87 0 [.int h, .int p] [] (124, I, J, R) (some (.int ((h >>> ((4 * p) &&& 31)) &&& 15))) (124, I, J, R) := by
  refine ev_go 4 (pc1 := 4) (lv1 := [.int h, .int p]) (st1 := [.int (4 * p), .int h]) (h1 := (124, I, J, R)) rfl ?_
  refine ev_go 3 (pc1 := 8) (lv1 := [.int h, .int p]) (st1 := [.int ((h >>> ((4 * p) &&& 31)) &&& 15)]) (h1 := (124, I, J, R)) rfl ?_
  exact ev_ret rfl rfl
set_option maxRecDepth 20000 in
theorem ybc0 {L : Nat} {xs : Nat → Int32} {d : Nat} {I : Nat → Nat → Int32} {J : Nat → Nat → Int64} {R : Nat → Nat → Nat} (hG : aGd R)  : xEv L xs d 90 0 [.int 0] [] (124, I, J, R) (some (.int 0)) (124, I, J, R) := by
  refine ev_go 3 (pc1 := 3) (lv1 := [.int 0]) (st1 := [.int 1, .int 0, .int 0]) (h1 := (124, I, J, R)) rfl ?_
  refine ev_go 10 (pc1 := 17) (lv1 := [.int 0]) (st1 := [.int 2, .int 0, .int 0]) (h1 := (124, I, J, R)) rfl ?_
  refine ev_go 8 (pc1 := 27) (lv1 := [.int 0]) (st1 := [.int 4, .int 0, .int 0]) (h1 := (124, I, J, R)) rfl ?_
  refine ev_go 8 (pc1 := 38) (lv1 := [.int 0]) (st1 := [.int 8, .int 0, .int 0]) (h1 := (124, I, J, R)) rfl ?_
  refine ev_go 6 (pc1 := 45) (lv1 := [.int 0]) (st1 := [.int 16, .int 0, .int 0]) (h1 := (124, I, J, R)) rfl ?_
  refine ev_go 6 (pc1 := 52) (lv1 := [.int 0]) (st1 := [.int 0]) (h1 := (124, I, J, R)) rfl ?_
  exact ev_ret rfl rfl
set_option maxRecDepth 20000 in
theorem ybc1 {L : Nat} {xs : Nat → Int32} {d : Nat} {I : Nat → Nat → Int32} {J : Nat → Nat → Int64} {R : Nat → Nat → Nat} (hG : aGd R)  : xEv L xs d 90 0 [.int 1] [] (124, I, J, R) (some (.int 1)) (124, I, J, R) := by
  refine ev_go 3 (pc1 := 3) (lv1 := [.int 1]) (st1 := [.int 1, .int 1, .int 1]) (h1 := (124, I, J, R)) rfl ?_
  refine ev_go 10 (pc1 := 17) (lv1 := [.int 1]) (st1 := [.int 2, .int 1, .int 1]) (h1 := (124, I, J, R)) rfl ?_
  refine ev_go 8 (pc1 := 27) (lv1 := [.int 1]) (st1 := [.int 4, .int 1, .int 1]) (h1 := (124, I, J, R)) rfl ?_
  refine ev_go 8 (pc1 := 38) (lv1 := [.int 1]) (st1 := [.int 8, .int 1, .int 1]) (h1 := (124, I, J, R)) rfl ?_
  refine ev_go 6 (pc1 := 45) (lv1 := [.int 1]) (st1 := [.int 16, .int 1, .int 1]) (h1 := (124, I, J, R)) rfl ?_
  refine ev_go 6 (pc1 := 52) (lv1 := [.int 1]) (st1 := [.int 1]) (h1 := (124, I, J, R)) rfl ?_
  exact ev_ret rfl rfl
set_option maxRecDepth 20000 in
theorem ybc2 {L : Nat} {xs : Nat → Int32} {d : Nat} {I : Nat → Nat → Int32} {J : Nat → Nat → Int64} {R : Nat → Nat → Nat} (hG : aGd R)  : xEv L xs d 90 0 [.int 2] [] (124, I, J, R) (some (.int 1)) (124, I, J, R) := by
  refine ev_go 3 (pc1 := 3) (lv1 := [.int 2]) (st1 := [.int 1, .int 2, .int 2]) (h1 := (124, I, J, R)) rfl ?_
  refine ev_go 10 (pc1 := 17) (lv1 := [.int 1]) (st1 := [.int 2, .int 1, .int 1]) (h1 := (124, I, J, R)) rfl ?_
  refine ev_go 8 (pc1 := 27) (lv1 := [.int 1]) (st1 := [.int 4, .int 1, .int 1]) (h1 := (124, I, J, R)) rfl ?_
  refine ev_go 8 (pc1 := 38) (lv1 := [.int 1]) (st1 := [.int 8, .int 1, .int 1]) (h1 := (124, I, J, R)) rfl ?_
  refine ev_go 6 (pc1 := 45) (lv1 := [.int 1]) (st1 := [.int 16, .int 1, .int 1]) (h1 := (124, I, J, R)) rfl ?_
  refine ev_go 6 (pc1 := 52) (lv1 := [.int 1]) (st1 := [.int 1]) (h1 := (124, I, J, R)) rfl ?_
  exact ev_ret rfl rfl
set_option maxRecDepth 20000 in
theorem ybc3 {L : Nat} {xs : Nat → Int32} {d : Nat} {I : Nat → Nat → Int32} {J : Nat → Nat → Int64} {R : Nat → Nat → Nat} (hG : aGd R)  : xEv L xs d 90 0 [.int 3] [] (124, I, J, R) (some (.int 2)) (124, I, J, R) := by
  refine ev_go 3 (pc1 := 3) (lv1 := [.int 3]) (st1 := [.int 1, .int 3, .int 3]) (h1 := (124, I, J, R)) rfl ?_
  refine ev_go 10 (pc1 := 17) (lv1 := [.int 2]) (st1 := [.int 2, .int 2, .int 2]) (h1 := (124, I, J, R)) rfl ?_
  refine ev_go 8 (pc1 := 27) (lv1 := [.int 2]) (st1 := [.int 4, .int 2, .int 2]) (h1 := (124, I, J, R)) rfl ?_
  refine ev_go 8 (pc1 := 38) (lv1 := [.int 2]) (st1 := [.int 8, .int 2, .int 2]) (h1 := (124, I, J, R)) rfl ?_
  refine ev_go 6 (pc1 := 45) (lv1 := [.int 2]) (st1 := [.int 16, .int 2, .int 2]) (h1 := (124, I, J, R)) rfl ?_
  refine ev_go 6 (pc1 := 52) (lv1 := [.int 2]) (st1 := [.int 2]) (h1 := (124, I, J, R)) rfl ?_
  exact ev_ret rfl rfl
set_option maxRecDepth 20000 in
theorem ybc4 {L : Nat} {xs : Nat → Int32} {d : Nat} {I : Nat → Nat → Int32} {J : Nat → Nat → Int64} {R : Nat → Nat → Nat} (hG : aGd R)  : xEv L xs d 90 0 [.int 4] [] (124, I, J, R) (some (.int 1)) (124, I, J, R) := by
  refine ev_go 3 (pc1 := 3) (lv1 := [.int 4]) (st1 := [.int 1, .int 4, .int 4]) (h1 := (124, I, J, R)) rfl ?_
  refine ev_go 10 (pc1 := 17) (lv1 := [.int 4]) (st1 := [.int 2, .int 4, .int 0]) (h1 := (124, I, J, R)) rfl ?_
  refine ev_go 8 (pc1 := 27) (lv1 := [.int 1]) (st1 := [.int 4, .int 1, .int 1]) (h1 := (124, I, J, R)) rfl ?_
  refine ev_go 8 (pc1 := 38) (lv1 := [.int 1]) (st1 := [.int 8, .int 1, .int 1]) (h1 := (124, I, J, R)) rfl ?_
  refine ev_go 6 (pc1 := 45) (lv1 := [.int 1]) (st1 := [.int 16, .int 1, .int 1]) (h1 := (124, I, J, R)) rfl ?_
  refine ev_go 6 (pc1 := 52) (lv1 := [.int 1]) (st1 := [.int 1]) (h1 := (124, I, J, R)) rfl ?_
  exact ev_ret rfl rfl
set_option maxRecDepth 20000 in
theorem ybc5 {L : Nat} {xs : Nat → Int32} {d : Nat} {I : Nat → Nat → Int32} {J : Nat → Nat → Int64} {R : Nat → Nat → Nat} (hG : aGd R)  : xEv L xs d 90 0 [.int 5] [] (124, I, J, R) (some (.int 2)) (124, I, J, R) := by
  refine ev_go 3 (pc1 := 3) (lv1 := [.int 5]) (st1 := [.int 1, .int 5, .int 5]) (h1 := (124, I, J, R)) rfl ?_
  refine ev_go 10 (pc1 := 17) (lv1 := [.int 5]) (st1 := [.int 2, .int 5, .int 1]) (h1 := (124, I, J, R)) rfl ?_
  refine ev_go 8 (pc1 := 27) (lv1 := [.int 2]) (st1 := [.int 4, .int 2, .int 2]) (h1 := (124, I, J, R)) rfl ?_
  refine ev_go 8 (pc1 := 38) (lv1 := [.int 2]) (st1 := [.int 8, .int 2, .int 2]) (h1 := (124, I, J, R)) rfl ?_
  refine ev_go 6 (pc1 := 45) (lv1 := [.int 2]) (st1 := [.int 16, .int 2, .int 2]) (h1 := (124, I, J, R)) rfl ?_
  refine ev_go 6 (pc1 := 52) (lv1 := [.int 2]) (st1 := [.int 2]) (h1 := (124, I, J, R)) rfl ?_
  exact ev_ret rfl rfl
set_option maxRecDepth 20000 in
theorem ybc6 {L : Nat} {xs : Nat → Int32} {d : Nat} {I : Nat → Nat → Int32} {J : Nat → Nat → Int64} {R : Nat → Nat → Nat} (hG : aGd R)  : xEv L xs d 90 0 [.int 6] [] (124, I, J, R) (some (.int 2)) (124, I, J, R) := by
  refine ev_go 3 (pc1 := 3) (lv1 := [.int 6]) (st1 := [.int 1, .int 6, .int 6]) (h1 := (124, I, J, R)) rfl ?_
  refine ev_go 10 (pc1 := 17) (lv1 := [.int 5]) (st1 := [.int 2, .int 5, .int 1]) (h1 := (124, I, J, R)) rfl ?_
  refine ev_go 8 (pc1 := 27) (lv1 := [.int 2]) (st1 := [.int 4, .int 2, .int 2]) (h1 := (124, I, J, R)) rfl ?_
  refine ev_go 8 (pc1 := 38) (lv1 := [.int 2]) (st1 := [.int 8, .int 2, .int 2]) (h1 := (124, I, J, R)) rfl ?_
  refine ev_go 6 (pc1 := 45) (lv1 := [.int 2]) (st1 := [.int 16, .int 2, .int 2]) (h1 := (124, I, J, R)) rfl ?_
  refine ev_go 6 (pc1 := 52) (lv1 := [.int 2]) (st1 := [.int 2]) (h1 := (124, I, J, R)) rfl ?_
  exact ev_ret rfl rfl
set_option maxRecDepth 20000 in
theorem ybc7 {L : Nat} {xs : Nat → Int32} {d : Nat} {I : Nat → Nat → Int32} {J : Nat → Nat → Int64} {R : Nat → Nat → Nat} (hG : aGd R)  : xEv L xs d 90 0 [.int 7] [] (124, I, J, R) (some (.int 3)) (124, I, J, R) := by
  refine ev_go 3 (pc1 := 3) (lv1 := [.int 7]) (st1 := [.int 1, .int 7, .int 7]) (h1 := (124, I, J, R)) rfl ?_
  refine ev_go 10 (pc1 := 17) (lv1 := [.int 6]) (st1 := [.int 2, .int 6, .int 2]) (h1 := (124, I, J, R)) rfl ?_
  refine ev_go 8 (pc1 := 27) (lv1 := [.int 3]) (st1 := [.int 4, .int 3, .int 3]) (h1 := (124, I, J, R)) rfl ?_
  refine ev_go 8 (pc1 := 38) (lv1 := [.int 3]) (st1 := [.int 8, .int 3, .int 3]) (h1 := (124, I, J, R)) rfl ?_
  refine ev_go 6 (pc1 := 45) (lv1 := [.int 3]) (st1 := [.int 16, .int 3, .int 3]) (h1 := (124, I, J, R)) rfl ?_
  refine ev_go 6 (pc1 := 52) (lv1 := [.int 3]) (st1 := [.int 3]) (h1 := (124, I, J, R)) rfl ?_
  exact ev_ret rfl rfl
set_option maxRecDepth 20000 in
theorem ybc8 {L : Nat} {xs : Nat → Int32} {d : Nat} {I : Nat → Nat → Int32} {J : Nat → Nat → Int64} {R : Nat → Nat → Nat} (hG : aGd R)  : xEv L xs d 90 0 [.int 8] [] (124, I, J, R) (some (.int 1)) (124, I, J, R) := by
  refine ev_go 3 (pc1 := 3) (lv1 := [.int 8]) (st1 := [.int 1, .int 8, .int 8]) (h1 := (124, I, J, R)) rfl ?_
  refine ev_go 10 (pc1 := 17) (lv1 := [.int 4]) (st1 := [.int 2, .int 4, .int 0]) (h1 := (124, I, J, R)) rfl ?_
  refine ev_go 8 (pc1 := 27) (lv1 := [.int 1]) (st1 := [.int 4, .int 1, .int 1]) (h1 := (124, I, J, R)) rfl ?_
  refine ev_go 8 (pc1 := 38) (lv1 := [.int 1]) (st1 := [.int 8, .int 1, .int 1]) (h1 := (124, I, J, R)) rfl ?_
  refine ev_go 6 (pc1 := 45) (lv1 := [.int 1]) (st1 := [.int 16, .int 1, .int 1]) (h1 := (124, I, J, R)) rfl ?_
  refine ev_go 6 (pc1 := 52) (lv1 := [.int 1]) (st1 := [.int 1]) (h1 := (124, I, J, R)) rfl ?_
  exact ev_ret rfl rfl
set_option maxRecDepth 20000 in
theorem ybc9 {L : Nat} {xs : Nat → Int32} {d : Nat} {I : Nat → Nat → Int32} {J : Nat → Nat → Int64} {R : Nat → Nat → Nat} (hG : aGd R)  : xEv L xs d 90 0 [.int 9] [] (124, I, J, R) (some (.int 2)) (124, I, J, R) := by
  refine ev_go 3 (pc1 := 3) (lv1 := [.int 9]) (st1 := [.int 1, .int 9, .int 9]) (h1 := (124, I, J, R)) rfl ?_
  refine ev_go 10 (pc1 := 17) (lv1 := [.int 5]) (st1 := [.int 2, .int 5, .int 1]) (h1 := (124, I, J, R)) rfl ?_
  refine ev_go 8 (pc1 := 27) (lv1 := [.int 2]) (st1 := [.int 4, .int 2, .int 2]) (h1 := (124, I, J, R)) rfl ?_
  refine ev_go 8 (pc1 := 38) (lv1 := [.int 2]) (st1 := [.int 8, .int 2, .int 2]) (h1 := (124, I, J, R)) rfl ?_
  refine ev_go 6 (pc1 := 45) (lv1 := [.int 2]) (st1 := [.int 16, .int 2, .int 2]) (h1 := (124, I, J, R)) rfl ?_
  refine ev_go 6 (pc1 := 52) (lv1 := [.int 2]) (st1 := [.int 2]) (h1 := (124, I, J, R)) rfl ?_
  exact ev_ret rfl rfl
set_option maxRecDepth 20000 in
theorem ybc10 {L : Nat} {xs : Nat → Int32} {d : Nat} {I : Nat → Nat → Int32} {J : Nat → Nat → Int64} {R : Nat → Nat → Nat} (hG : aGd R)  : xEv L xs d 90 0 [.int 10] [] (124, I, J, R) (some (.int 2)) (124, I, J, R) := by
  refine ev_go 3 (pc1 := 3) (lv1 := [.int 10]) (st1 := [.int 1, .int 10, .int 10]) (h1 := (124, I, J, R)) rfl ?_
  refine ev_go 10 (pc1 := 17) (lv1 := [.int 5]) (st1 := [.int 2, .int 5, .int 1]) (h1 := (124, I, J, R)) rfl ?_
  refine ev_go 8 (pc1 := 27) (lv1 := [.int 2]) (st1 := [.int 4, .int 2, .int 2]) (h1 := (124, I, J, R)) rfl ?_
  refine ev_go 8 (pc1 := 38) (lv1 := [.int 2]) (st1 := [.int 8, .int 2, .int 2]) (h1 := (124, I, J, R)) rfl ?_
  refine ev_go 6 (pc1 := 45) (lv1 := [.int 2]) (st1 := [.int 16, .int 2, .int 2]) (h1 := (124, I, J, R)) rfl ?_
  refine ev_go 6 (pc1 := 52) (lv1 := [.int 2]) (st1 := [.int 2]) (h1 := (124, I, J, R)) rfl ?_
  exact ev_ret rfl rfl
set_option maxRecDepth 20000 in
theorem ybc11 {L : Nat} {xs : Nat → Int32} {d : Nat} {I : Nat → Nat → Int32} {J : Nat → Nat → Int64} {R : Nat → Nat → Nat} (hG : aGd R)  : xEv L xs d 90 0 [.int 11] [] (124, I, J, R) (some (.int 3)) (124, I, J, R) := by
  refine ev_go 3 (pc1 := 3) (lv1 := [.int 11]) (st1 := [.int 1, .int 11, .int 11]) (h1 := (124, I, J, R)) rfl ?_
  refine ev_go 10 (pc1 := 17) (lv1 := [.int 6]) (st1 := [.int 2, .int 6, .int 2]) (h1 := (124, I, J, R)) rfl ?_
  refine ev_go 8 (pc1 := 27) (lv1 := [.int 3]) (st1 := [.int 4, .int 3, .int 3]) (h1 := (124, I, J, R)) rfl ?_
  refine ev_go 8 (pc1 := 38) (lv1 := [.int 3]) (st1 := [.int 8, .int 3, .int 3]) (h1 := (124, I, J, R)) rfl ?_
  refine ev_go 6 (pc1 := 45) (lv1 := [.int 3]) (st1 := [.int 16, .int 3, .int 3]) (h1 := (124, I, J, R)) rfl ?_
  refine ev_go 6 (pc1 := 52) (lv1 := [.int 3]) (st1 := [.int 3]) (h1 := (124, I, J, R)) rfl ?_
  exact ev_ret rfl rfl
set_option maxRecDepth 20000 in
theorem ybc12 {L : Nat} {xs : Nat → Int32} {d : Nat} {I : Nat → Nat → Int32} {J : Nat → Nat → Int64} {R : Nat → Nat → Nat} (hG : aGd R)  : xEv L xs d 90 0 [.int 12] [] (124, I, J, R) (some (.int 2)) (124, I, J, R) := by
  refine ev_go 3 (pc1 := 3) (lv1 := [.int 12]) (st1 := [.int 1, .int 12, .int 12]) (h1 := (124, I, J, R)) rfl ?_
  refine ev_go 10 (pc1 := 17) (lv1 := [.int 8]) (st1 := [.int 2, .int 8, .int 0]) (h1 := (124, I, J, R)) rfl ?_
  refine ev_go 8 (pc1 := 27) (lv1 := [.int 2]) (st1 := [.int 4, .int 2, .int 2]) (h1 := (124, I, J, R)) rfl ?_
  refine ev_go 8 (pc1 := 38) (lv1 := [.int 2]) (st1 := [.int 8, .int 2, .int 2]) (h1 := (124, I, J, R)) rfl ?_
  refine ev_go 6 (pc1 := 45) (lv1 := [.int 2]) (st1 := [.int 16, .int 2, .int 2]) (h1 := (124, I, J, R)) rfl ?_
  refine ev_go 6 (pc1 := 52) (lv1 := [.int 2]) (st1 := [.int 2]) (h1 := (124, I, J, R)) rfl ?_
  exact ev_ret rfl rfl
set_option maxRecDepth 20000 in
theorem ybc13 {L : Nat} {xs : Nat → Int32} {d : Nat} {I : Nat → Nat → Int32} {J : Nat → Nat → Int64} {R : Nat → Nat → Nat} (hG : aGd R)  : xEv L xs d 90 0 [.int 13] [] (124, I, J, R) (some (.int 3)) (124, I, J, R) := by
  refine ev_go 3 (pc1 := 3) (lv1 := [.int 13]) (st1 := [.int 1, .int 13, .int 13]) (h1 := (124, I, J, R)) rfl ?_
  refine ev_go 10 (pc1 := 17) (lv1 := [.int 9]) (st1 := [.int 2, .int 9, .int 1]) (h1 := (124, I, J, R)) rfl ?_
  refine ev_go 8 (pc1 := 27) (lv1 := [.int 3]) (st1 := [.int 4, .int 3, .int 3]) (h1 := (124, I, J, R)) rfl ?_
  refine ev_go 8 (pc1 := 38) (lv1 := [.int 3]) (st1 := [.int 8, .int 3, .int 3]) (h1 := (124, I, J, R)) rfl ?_
  refine ev_go 6 (pc1 := 45) (lv1 := [.int 3]) (st1 := [.int 16, .int 3, .int 3]) (h1 := (124, I, J, R)) rfl ?_
  refine ev_go 6 (pc1 := 52) (lv1 := [.int 3]) (st1 := [.int 3]) (h1 := (124, I, J, R)) rfl ?_
  exact ev_ret rfl rfl
set_option maxRecDepth 20000 in
theorem ybc14 {L : Nat} {xs : Nat → Int32} {d : Nat} {I : Nat → Nat → Int32} {J : Nat → Nat → Int64} {R : Nat → Nat → Nat} (hG : aGd R)  : xEv L xs d 90 0 [.int 14] [] (124, I, J, R) (some (.int 3)) (124, I, J, R) := by
  refine ev_go 3 (pc1 := 3) (lv1 := [.int 14]) (st1 := [.int 1, .int 14, .int 14]) (h1 := (124, I, J, R)) rfl ?_
  refine ev_go 10 (pc1 := 17) (lv1 := [.int 9]) (st1 := [.int 2, .int 9, .int 1]) (h1 := (124, I, J, R)) rfl ?_
  refine ev_go 8 (pc1 := 27) (lv1 := [.int 3]) (st1 := [.int 4, .int 3, .int 3]) (h1 := (124, I, J, R)) rfl ?_
  refine ev_go 8 (pc1 := 38) (lv1 := [.int 3]) (st1 := [.int 8, .int 3, .int 3]) (h1 := (124, I, J, R)) rfl ?_
  refine ev_go 6 (pc1 := 45) (lv1 := [.int 3]) (st1 := [.int 16, .int 3, .int 3]) (h1 := (124, I, J, R)) rfl ?_
  refine ev_go 6 (pc1 := 52) (lv1 := [.int 3]) (st1 := [.int 3]) (h1 := (124, I, J, R)) rfl ?_
  exact ev_ret rfl rfl
set_option maxRecDepth 20000 in
theorem ybc15 {L : Nat} {xs : Nat → Int32} {d : Nat} {I : Nat → Nat → Int32} {J : Nat → Nat → Int64} {R : Nat → Nat → Nat} (hG : aGd R)  : xEv L xs d 90 0 [.int 15] [] (124, I, J, R) (some (.int 4)) (124, I, J, R) := by
  refine ev_go 3 (pc1 := 3) (lv1 := [.int 15]) (st1 := [.int 1, .int 15, .int 15]) (h1 := (124, I, J, R)) rfl ?_
  refine ev_go 10 (pc1 := 17) (lv1 := [.int 10]) (st1 := [.int 2, .int 10, .int 2]) (h1 := (124, I, J, R)) rfl ?_
  refine ev_go 8 (pc1 := 27) (lv1 := [.int 4]) (st1 := [.int 4, .int 4, .int 4]) (h1 := (124, I, J, R)) rfl ?_
  refine ev_go 8 (pc1 := 38) (lv1 := [.int 4]) (st1 := [.int 8, .int 4, .int 4]) (h1 := (124, I, J, R)) rfl ?_
  refine ev_go 6 (pc1 := 45) (lv1 := [.int 4]) (st1 := [.int 16, .int 4, .int 4]) (h1 := (124, I, J, R)) rfl ?_
  refine ev_go 6 (pc1 := 52) (lv1 := [.int 4]) (st1 := [.int 4]) (h1 := (124, I, J, R)) rfl ?_
  exact ev_ret rfl rfl
set_option maxRecDepth 20000 in
theorem yon0 {L : Nat} {xs : Nat → Int32} {d : Nat} {I : Nat → Nat → Int32} {J : Nat → Nat → Int64} {R : Nat → Nat → Nat} (hG : aGd R)  : xEv L xs d 39 0 [.retAddr 1, .int 0] [] (124, I, J, R) (some (.int 0)) (124, I, J, R) := by
  refine ev_go 10 (pc1 := 17) (lv1 := [.retAddr 1, .int 0]) (st1 := [.int 0]) (h1 := (124, I, J, R)) rfl ?_
  exact ev_ret rfl rfl
set_option maxRecDepth 20000 in
theorem yon1 {L : Nat} {xs : Nat → Int32} {d : Nat} {I : Nat → Nat → Int32} {J : Nat → Nat → Int64} {R : Nat → Nat → Nat} (hG : aGd R)  : xEv L xs d 39 0 [.retAddr 1, .int 1] [] (124, I, J, R) (some (.int 1)) (124, I, J, R) := by
  refine ev_go 10 (pc1 := 17) (lv1 := [.retAddr 1, .int 1]) (st1 := [.int 1]) (h1 := (124, I, J, R)) rfl ?_
  exact ev_ret rfl rfl
set_option maxRecDepth 20000 in
theorem yon2 {L : Nat} {xs : Nat → Int32} {d : Nat} {I : Nat → Nat → Int32} {J : Nat → Nat → Int64} {R : Nat → Nat → Nat} (hG : aGd R)  : xEv L xs d 39 0 [.retAddr 1, .int 2] [] (124, I, J, R) (some (.int 7)) (124, I, J, R) := by
  refine ev_go 10 (pc1 := 17) (lv1 := [.retAddr 1, .int 2]) (st1 := [.int 7]) (h1 := (124, I, J, R)) rfl ?_
  exact ev_ret rfl rfl
set_option maxRecDepth 20000 in
theorem yon3 {L : Nat} {xs : Nat → Int32} {d : Nat} {I : Nat → Nat → Int32} {J : Nat → Nat → Int64} {R : Nat → Nat → Nat} (hG : aGd R)  : xEv L xs d 39 0 [.retAddr 1, .int 3] [] (124, I, J, R) (some (.int 8)) (124, I, J, R) := by
  refine ev_go 10 (pc1 := 17) (lv1 := [.retAddr 1, .int 3]) (st1 := [.int 8]) (h1 := (124, I, J, R)) rfl ?_
  exact ev_ret rfl rfl
set_option maxRecDepth 20000 in
theorem yon4 {L : Nat} {xs : Nat → Int32} {d : Nat} {I : Nat → Nat → Int32} {J : Nat → Nat → Int64} {R : Nat → Nat → Nat} (hG : aGd R)  : xEv L xs d 39 0 [.retAddr 1, .int 4] [] (124, I, J, R) (some (.int 49)) (124, I, J, R) := by
  refine ev_go 10 (pc1 := 17) (lv1 := [.retAddr 1, .int 4]) (st1 := [.int 49]) (h1 := (124, I, J, R)) rfl ?_
  exact ev_ret rfl rfl
set_option maxRecDepth 20000 in
theorem yon5 {L : Nat} {xs : Nat → Int32} {d : Nat} {I : Nat → Nat → Int32} {J : Nat → Nat → Int64} {R : Nat → Nat → Nat} (hG : aGd R)  : xEv L xs d 39 0 [.retAddr 1, .int 5] [] (124, I, J, R) (some (.int 50)) (124, I, J, R) := by
  refine ev_go 10 (pc1 := 17) (lv1 := [.retAddr 1, .int 5]) (st1 := [.int 50]) (h1 := (124, I, J, R)) rfl ?_
  exact ev_ret rfl rfl
set_option maxRecDepth 20000 in
theorem yon6 {L : Nat} {xs : Nat → Int32} {d : Nat} {I : Nat → Nat → Int32} {J : Nat → Nat → Int64} {R : Nat → Nat → Nat} (hG : aGd R)  : xEv L xs d 39 0 [.retAddr 1, .int 6] [] (124, I, J, R) (some (.int 56)) (124, I, J, R) := by
  refine ev_go 10 (pc1 := 17) (lv1 := [.retAddr 1, .int 6]) (st1 := [.int 56]) (h1 := (124, I, J, R)) rfl ?_
  exact ev_ret rfl rfl
set_option maxRecDepth 20000 in
theorem yon7 {L : Nat} {xs : Nat → Int32} {d : Nat} {I : Nat → Nat → Int32} {J : Nat → Nat → Int64} {R : Nat → Nat → Nat} (hG : aGd R)  : xEv L xs d 39 0 [.retAddr 1, .int 7] [] (124, I, J, R) (some (.int 57)) (124, I, J, R) := by
  refine ev_go 10 (pc1 := 17) (lv1 := [.retAddr 1, .int 7]) (st1 := [.int 57]) (h1 := (124, I, J, R)) rfl ?_
  exact ev_ret rfl rfl
set_option maxRecDepth 20000 in
theorem yon8 {L : Nat} {xs : Nat → Int32} {d : Nat} {I : Nat → Nat → Int32} {J : Nat → Nat → Int64} {R : Nat → Nat → Nat} (hG : aGd R)  : xEv L xs d 39 0 [.retAddr 1, .int 8] [] (124, I, J, R) (some (.int 343)) (124, I, J, R) := by
  refine ev_go 10 (pc1 := 17) (lv1 := [.retAddr 1, .int 8]) (st1 := [.int 343]) (h1 := (124, I, J, R)) rfl ?_
  exact ev_ret rfl rfl
set_option maxRecDepth 20000 in
theorem yon9 {L : Nat} {xs : Nat → Int32} {d : Nat} {I : Nat → Nat → Int32} {J : Nat → Nat → Int64} {R : Nat → Nat → Nat} (hG : aGd R)  : xEv L xs d 39 0 [.retAddr 1, .int 9] [] (124, I, J, R) (some (.int 344)) (124, I, J, R) := by
  refine ev_go 10 (pc1 := 17) (lv1 := [.retAddr 1, .int 9]) (st1 := [.int 344]) (h1 := (124, I, J, R)) rfl ?_
  exact ev_ret rfl rfl
set_option maxRecDepth 20000 in
theorem yon10 {L : Nat} {xs : Nat → Int32} {d : Nat} {I : Nat → Nat → Int32} {J : Nat → Nat → Int64} {R : Nat → Nat → Nat} (hG : aGd R)  : xEv L xs d 39 0 [.retAddr 1, .int 10] [] (124, I, J, R) (some (.int 350)) (124, I, J, R) := by
  refine ev_go 10 (pc1 := 17) (lv1 := [.retAddr 1, .int 10]) (st1 := [.int 350]) (h1 := (124, I, J, R)) rfl ?_
  exact ev_ret rfl rfl
set_option maxRecDepth 20000 in
theorem yon11 {L : Nat} {xs : Nat → Int32} {d : Nat} {I : Nat → Nat → Int32} {J : Nat → Nat → Int64} {R : Nat → Nat → Nat} (hG : aGd R)  : xEv L xs d 39 0 [.retAddr 1, .int 11] [] (124, I, J, R) (some (.int 351)) (124, I, J, R) := by
  refine ev_go 10 (pc1 := 17) (lv1 := [.retAddr 1, .int 11]) (st1 := [.int 351]) (h1 := (124, I, J, R)) rfl ?_
  exact ev_ret rfl rfl
set_option maxRecDepth 20000 in
theorem yon12 {L : Nat} {xs : Nat → Int32} {d : Nat} {I : Nat → Nat → Int32} {J : Nat → Nat → Int64} {R : Nat → Nat → Nat} (hG : aGd R)  : xEv L xs d 39 0 [.retAddr 1, .int 12] [] (124, I, J, R) (some (.int 392)) (124, I, J, R) := by
  refine ev_go 10 (pc1 := 17) (lv1 := [.retAddr 1, .int 12]) (st1 := [.int 392]) (h1 := (124, I, J, R)) rfl ?_
  exact ev_ret rfl rfl
set_option maxRecDepth 20000 in
theorem yon13 {L : Nat} {xs : Nat → Int32} {d : Nat} {I : Nat → Nat → Int32} {J : Nat → Nat → Int64} {R : Nat → Nat → Nat} (hG : aGd R)  : xEv L xs d 39 0 [.retAddr 1, .int 13] [] (124, I, J, R) (some (.int 393)) (124, I, J, R) := by
  refine ev_go 10 (pc1 := 17) (lv1 := [.retAddr 1, .int 13]) (st1 := [.int 393]) (h1 := (124, I, J, R)) rfl ?_
  exact ev_ret rfl rfl
set_option maxRecDepth 20000 in
theorem yon14 {L : Nat} {xs : Nat → Int32} {d : Nat} {I : Nat → Nat → Int32} {J : Nat → Nat → Int64} {R : Nat → Nat → Nat} (hG : aGd R)  : xEv L xs d 39 0 [.retAddr 1, .int 14] [] (124, I, J, R) (some (.int 399)) (124, I, J, R) := by
  refine ev_go 10 (pc1 := 17) (lv1 := [.retAddr 1, .int 14]) (st1 := [.int 399]) (h1 := (124, I, J, R)) rfl ?_
  exact ev_ret rfl rfl
set_option maxRecDepth 20000 in
theorem yon15 {L : Nat} {xs : Nat → Int32} {d : Nat} {I : Nat → Nat → Int32} {J : Nat → Nat → Int64} {R : Nat → Nat → Nat} (hG : aGd R)  : xEv L xs d 39 0 [.retAddr 1, .int 15] [] (124, I, J, R) (some (.int 400)) (124, I, J, R) := by
  refine ev_go 10 (pc1 := 17) (lv1 := [.retAddr 1, .int 15]) (st1 := [.int 400]) (h1 := (124, I, J, R)) rfl ?_
  exact ev_ret rfl rfl
set_option maxRecDepth 20000 in
theorem yar_0 {L : Nat} {xs : Nat → Int32} {d : Nat} {I : Nat → Nat → Int32} {J : Nat → Nat → Int64} {R : Nat → Nat → Nat} {y h c t b : Int32} (hG : aGd R) (c1 : xEv L xs d 39 0 [.ref 58, .int y] [] (124, I, J, R) (some (.int b)) (124, I, J, R)) (b1 : b.toInt ≥ c.toInt) : xEv L xs (d + 1) 86 0 [.ref 57, .int y, .int h, .int c, .int t, xmk, xmk, xmk] [] (124, I, J, R) none (124, I, J, R) := by
  refine ev_go 1 (pc1 := 1) (lv1 := [.ref 57, .int y, .int h, .int c, .int t, xmk, xmk, xmk]) (st1 := [.ref 57]) (h1 := (124, I, J, R)) rfl ?_
  refine ev_gf (c := 57) (t := 58) (X := R 57 0) rfl rfl (fun _ => rfl) rfl (hG 57 0 58 rfl rfl) ?_
  refine ev_go 1 (pc1 := 5) (lv1 := [.ref 57, .int y, .int h, .int c, .int t, xmk, xmk, xmk]) (st1 := [.int y, .ref 58]) (h1 := (124, I, J, R)) rfl ?_
  refine ev_call (v1 := (some (.int b))) (h1 := (124, I, J, R)) rfl rfl c1 ?_
  refine ev_go 3 (pc1 := 13) (lv1 := [.ref 57, .int y, .int h, .int c, .int t, .int b, xmk, xmk]) (st1 := [.int c, .int b]) (h1 := (124, I, J, R)) rfl ?_
  refine ev_br (b1 := false) rfl rfl (xcd_nlt (x := b) (y := c) (by first | exact b1 | omega)) ?_
  exact ev_ret rfl rfl
set_option maxRecDepth 20000 in
theorem yar_1 {L : Nat} {xs : Nat → Int32} {d : Nat} {I : Nat → Nat → Int32} {J : Nat → Nat → Int64} {R : Nat → Nat → Nat} {I1 : Nat → Nat → Int32} {y h c t b : Int32} (hG : aGd R) (c1 : xEv L xs d 39 0 [.ref 58, .int y] [] (124, I, J, R) (some (.int b)) (124, I, J, R)) (b1 : b.toInt < c.toInt) (c2 : xEv L xs d 33 0 [.ref 58, .int y, .int c] [] (124, (uI I 57 7 1), J, R) none (124, I1, J, R)) (b2 : b.toInt ≠ -1) : xEv L xs (d + 1) 86 0 [.ref 57, .int y, .int h, .int c, .int t, xmk, xmk, xmk] [] (124, I, J, R) none (124, I1, J, R) := by
  refine ev_go 1 (pc1 := 1) (lv1 := [.ref 57, .int y, .int h, .int c, .int t, xmk, xmk, xmk]) (st1 := [.ref 57]) (h1 := (124, I, J, R)) rfl ?_
  refine ev_gf (c := 57) (t := 58) (X := R 57 0) rfl rfl (fun _ => rfl) rfl (hG 57 0 58 rfl rfl) ?_
  refine ev_go 1 (pc1 := 5) (lv1 := [.ref 57, .int y, .int h, .int c, .int t, xmk, xmk, xmk]) (st1 := [.int y, .ref 58]) (h1 := (124, I, J, R)) rfl ?_
  refine ev_call (v1 := (some (.int b))) (h1 := (124, I, J, R)) rfl rfl c1 ?_
  refine ev_go 3 (pc1 := 13) (lv1 := [.ref 57, .int y, .int h, .int c, .int t, .int b, xmk, xmk]) (st1 := [.int c, .int b]) (h1 := (124, I, J, R)) rfl ?_
  refine ev_br (b1 := true) rfl rfl (xcd_lt (x := b) (y := c) (by first | exact b1 | omega)) ?_
  refine ev_go 4 (pc1 := 23) (lv1 := [.ref 57, .int y, .int h, .int c, .int t, .int b, xmk, xmk]) (st1 := [.ref 57]) (h1 := (124, (uI I 57 7 1), J, R)) rfl ?_
  refine ev_gf (c := 57) (t := 58) (X := R 57 0) rfl rfl (fun _ => rfl) rfl (hG 57 0 58 rfl rfl) ?_
  refine ev_go 2 (pc1 := 28) (lv1 := [.ref 57, .int y, .int h, .int c, .int t, .int b, xmk, xmk]) (st1 := [.int c, .int y, .ref 58]) (h1 := (124, (uI I 57 7 1), J, R)) rfl ?_
  refine ev_call (v1 := none) (h1 := (124, I1, J, R)) rfl rfl c2 ?_
  refine ev_go 2 (pc1 := 34) (lv1 := [.ref 57, .int y, .int h, .int c, .int t, .int b, xmk, xmk]) (st1 := [.int (-1), .int b]) (h1 := (124, I1, J, R)) rfl ?_
  refine ev_br (b1 := false) rfl rfl (xcd_neq (x := b) (y := (-1)) (by rw [show ((-1 : Int32)).toInt = -1 from by decide]; first | exact b2 | omega)) ?_
  exact ev_ret rfl rfl
set_option maxRecDepth 20000 in
theorem yar_2 {L : Nat} {xs : Nat → Int32} {d : Nat} {I : Nat → Nat → Int32} {J : Nat → Nat → Int64} {R : Nat → Nat → Nat} {I1 : Nat → Nat → Int32} {I2 : Nat → Nat → Int32} {I3 : Nat → Nat → Int32} {y h c t b : Int32} (hG : aGd R) (c1 : xEv L xs d 39 0 [.ref 58, .int y] [] (124, I, J, R) (some (.int b)) (124, I, J, R)) (b1 : b.toInt < c.toInt) (c2 : xEv L xs d 33 0 [.ref 58, .int y, .int c] [] (124, (uI I 57 7 1), J, R) none (124, I1, J, R)) (b2 : b.toInt = -1) (c3 : xEv L xs d 33 0 [.ref 59, .int (I1 57 5), .int y] [] (124, I1, J, R) none (124, I2, J, R)) (c4 : xEv L xs d 33 0 [.ref 60, .int (I2 57 5), .int h] [] (124, I2, J, R) none (124, I3, J, R)) {v : Option Value} {h' : xH} (hk : xEv L xs (d + 1) 86 75 [.ref 57, .int y, .int h, .int c, .int t, .int b, .int 0, xmk] [] (124, (uI I3 57 5 ((I3 57 5) + 1)), J, R) v h') : xEv L xs (d + 1) 86 0 [.ref 57, .int y, .int h, .int c, .int t, xmk, xmk, xmk] [] (124, I, J, R) v h' := by
  refine ev_go 1 (pc1 := 1) (lv1 := [.ref 57, .int y, .int h, .int c, .int t, xmk, xmk, xmk]) (st1 := [.ref 57]) (h1 := (124, I, J, R)) rfl ?_
  refine ev_gf (c := 57) (t := 58) (X := R 57 0) rfl rfl (fun _ => rfl) rfl (hG 57 0 58 rfl rfl) ?_
  refine ev_go 1 (pc1 := 5) (lv1 := [.ref 57, .int y, .int h, .int c, .int t, xmk, xmk, xmk]) (st1 := [.int y, .ref 58]) (h1 := (124, I, J, R)) rfl ?_
  refine ev_call (v1 := (some (.int b))) (h1 := (124, I, J, R)) rfl rfl c1 ?_
  refine ev_go 3 (pc1 := 13) (lv1 := [.ref 57, .int y, .int h, .int c, .int t, .int b, xmk, xmk]) (st1 := [.int c, .int b]) (h1 := (124, I, J, R)) rfl ?_
  refine ev_br (b1 := true) rfl rfl (xcd_lt (x := b) (y := c) (by first | exact b1 | omega)) ?_
  refine ev_go 4 (pc1 := 23) (lv1 := [.ref 57, .int y, .int h, .int c, .int t, .int b, xmk, xmk]) (st1 := [.ref 57]) (h1 := (124, (uI I 57 7 1), J, R)) rfl ?_
  refine ev_gf (c := 57) (t := 58) (X := R 57 0) rfl rfl (fun _ => rfl) rfl (hG 57 0 58 rfl rfl) ?_
  refine ev_go 2 (pc1 := 28) (lv1 := [.ref 57, .int y, .int h, .int c, .int t, .int b, xmk, xmk]) (st1 := [.int c, .int y, .ref 58]) (h1 := (124, (uI I 57 7 1), J, R)) rfl ?_
  refine ev_call (v1 := none) (h1 := (124, I1, J, R)) rfl rfl c2 ?_
  refine ev_go 2 (pc1 := 34) (lv1 := [.ref 57, .int y, .int h, .int c, .int t, .int b, xmk, xmk]) (st1 := [.int (-1), .int b]) (h1 := (124, I1, J, R)) rfl ?_
  refine ev_br (b1 := true) rfl rfl (xcd_eq (x := b) (y := (-1)) (by rw [show ((-1 : Int32)).toInt = -1 from by decide]; first | exact b2 | omega)) ?_
  refine ev_go 1 (pc1 := 39) (lv1 := [.ref 57, .int y, .int h, .int c, .int t, .int b, xmk, xmk]) (st1 := [.ref 57]) (h1 := (124, I1, J, R)) rfl ?_
  refine ev_gf (c := 57) (t := 59) (X := R 57 1) rfl rfl (fun _ => rfl) rfl (hG 57 1 59 rfl rfl) ?_
  refine ev_go 3 (pc1 := 47) (lv1 := [.ref 57, .int y, .int h, .int c, .int t, .int b, xmk, xmk]) (st1 := [.int y, .int (I1 57 5), .ref 59]) (h1 := (124, I1, J, R)) rfl ?_
  refine ev_call (v1 := none) (h1 := (124, I2, J, R)) rfl rfl c3 ?_
  refine ev_go 1 (pc1 := 51) (lv1 := [.ref 57, .int y, .int h, .int c, .int t, .int b, xmk, xmk]) (st1 := [.ref 57]) (h1 := (124, I2, J, R)) rfl ?_
  refine ev_gf (c := 57) (t := 60) (X := R 57 2) rfl rfl (fun _ => rfl) rfl (hG 57 2 60 rfl rfl) ?_
  refine ev_go 3 (pc1 := 59) (lv1 := [.ref 57, .int y, .int h, .int c, .int t, .int b, xmk, xmk]) (st1 := [.int h, .int (I2 57 5), .ref 60]) (h1 := (124, I2, J, R)) rfl ?_
  refine ev_call (v1 := none) (h1 := (124, I3, J, R)) rfl rfl c4 ?_
  refine ev_go 8 (pc1 := 75) (lv1 := [.ref 57, .int y, .int h, .int c, .int t, .int b, .int 0, xmk]) (st1 := []) (h1 := (124, (uI I3 57 5 ((I3 57 5) + 1)), J, R)) rfl ?_
  exact hk
set_option maxRecDepth 20000 in
theorem yar_e {L : Nat} {xs : Nat → Int32} {d : Nat} {I : Nat → Nat → Int32} {J : Nat → Nat → Int64} {R : Nat → Nat → Nat} {y h c t b p : Int32} {w7 : Value} (hG : aGd R) (b1 : p.toInt ≥ 7) : xEv L xs d 86 75 [.ref 57, .int y, .int h, .int c, .int t, .int b, .int p, w7] [] (124, I, J, R) none (124, I, J, R) := by
  refine ev_go 2 (pc1 := 79) (lv1 := [.ref 57, .int y, .int h, .int c, .int t, .int b, .int p, w7]) (st1 := [.int 7, .int p]) (h1 := (124, I, J, R)) rfl ?_
  refine ev_br (b1 := true) rfl rfl (xcd_ge (x := p) (y := 7) (by rw [show ((7 : Int32)).toInt = 7 from by decide]; first | exact b1 | omega)) ?_
  exact ev_ret rfl rfl
set_option maxRecDepth 20000 in
theorem yar_y {L : Nat} {xs : Nat → Int32} {d : Nat} {I : Nat → Nat → Int32} {J : Nat → Nat → Int64} {R : Nat → Nat → Nat} {I1 : Nat → Nat → Int32} {y h c t b p u o : Int32} {w7 : Value} (hG : aGd R) (b1 : p.toInt < 7) (c1 : xEv L xs d 87 0 [.int h, .int p] [] (124, I, J, R) (some (.int u)) (124, I, J, R)) (c2 : xEv L xs d 39 0 [.ref 61, .int ((u * 7) + p)] [] (124, I, J, R) (some (.int o)) (124, I, J, R)) (c3 : xEv L xs d 33 0 [.ref 61, .int ((u * 7) + p), .int (if t < o then t else o)] [] (124, I, J, R) none (124, I1, J, R)) {v : Option Value} {h' : xH} (hk : xEv L xs (d + 1) 86 75 [.ref 57, .int y, .int h, .int c, .int t, .int b, .int (p + 1), .int ((u * 7) + p)] [] (124, I1, J, R) v h') : xEv L xs (d + 1) 86 75 [.ref 57, .int y, .int h, .int c, .int t, .int b, .int p, w7] [] (124, I, J, R) v h' := by
  refine ev_go 2 (pc1 := 79) (lv1 := [.ref 57, .int y, .int h, .int c, .int t, .int b, .int p, w7]) (st1 := [.int 7, .int p]) (h1 := (124, I, J, R)) rfl ?_
  refine ev_br (b1 := false) rfl rfl (xcd_nge (x := p) (y := 7) (by rw [show ((7 : Int32)).toInt = 7 from by decide]; first | exact b1 | omega)) ?_
  refine ev_go 2 (pc1 := 85) (lv1 := [.ref 57, .int y, .int h, .int c, .int t, .int b, .int p, w7]) (st1 := [.int p, .int h]) (h1 := (124, I, J, R)) rfl ?_
  refine ev_call (v1 := (some (.int u))) (h1 := (124, I, J, R)) rfl rfl c1 ?_
  refine ev_go 6 (pc1 := 97) (lv1 := [.ref 57, .int y, .int h, .int c, .int t, .int b, .int p, .int ((u * 7) + p)]) (st1 := [.ref 57]) (h1 := (124, I, J, R)) rfl ?_
  refine ev_gf (c := 57) (t := 61) (X := R 57 3) rfl rfl (fun _ => rfl) rfl (hG 57 3 61 rfl rfl) ?_
  refine ev_go 2 (pc1 := 103) (lv1 := [.ref 57, .int y, .int h, .int c, .int t, .int b, .int p, .int ((u * 7) + p)]) (st1 := [.ref 57, .int ((u * 7) + p), .ref 61]) (h1 := (124, I, J, R)) rfl ?_
  refine ev_gf (c := 57) (t := 61) (X := R 57 3) rfl rfl (fun _ => rfl) rfl (hG 57 3 61 rfl rfl) ?_
  refine ev_go 1 (pc1 := 108) (lv1 := [.ref 57, .int y, .int h, .int c, .int t, .int b, .int p, .int ((u * 7) + p)]) (st1 := [.int ((u * 7) + p), .ref 61, .int ((u * 7) + p), .ref 61]) (h1 := (124, I, J, R)) rfl ?_
  refine ev_call (v1 := (some (.int o))) (h1 := (124, I, J, R)) rfl rfl c2 ?_
  refine ev_go 2 (pc1 := 116) (lv1 := [.ref 57, .int y, .int h, .int c, .int t, .int b, .int p, .int ((u * 7) + p)]) (st1 := [.int (if t < o then t else o), .int ((u * 7) + p), .ref 61]) (h1 := (124, I, J, R)) rfl ?_
  refine ev_call (v1 := none) (h1 := (124, I1, J, R)) rfl rfl c3 ?_
  refine ev_go 2 (pc1 := 75) (lv1 := [.ref 57, .int y, .int h, .int c, .int t, .int b, .int (p + 1), .int ((u * 7) + p)]) (st1 := []) (h1 := (124, I1, J, R)) rfl ?_
  exact hk
set_option maxRecDepth 20000 in
theorem ytf_0 {L : Nat} {xs : Nat → Int32} {d : Nat} {I : Nat → Nat → Int32} {J : Nat → Nat → Int64} {R : Nat → Nat → Nat} {x h t f g a b : Int32} (hG : aGd R) (c1 : xEv L xs d 87 0 [.int h, .int (I 57 9)] [] (124, I, J, R) (some (.int f)) (124, I, J, R)) (c2 : xEv L xs d 87 0 [.int h, .int (I 57 10)] [] (124, I, J, R) (some (.int g)) (124, I, J, R)) (c3 : xEv L xs d 90 0 [.int f] [] (124, I, J, R) (some (.int a)) (124, I, J, R)) (c4 : xEv L xs d 90 0 [.int g] [] (124, I, J, R) (some (.int b)) (124, I, J, R)) (b1 : ((f &&& (I 57 14)) ||| (g &&& (I 57 13))).toInt = 0) : xEv L xs (d + 1) 89 0 [.ref 57, .int x, .int h, .int t, xmk, xmk, xmk, xmk, xmk, xmk, xmk, xmk, xmk, xmk] [] (124, I, J, R) none (124, I, J, R) := by
  refine ev_go 3 (pc1 := 5) (lv1 := [.ref 57, .int x, .int h, .int t, xmk, xmk, xmk, xmk, xmk, xmk, xmk, xmk, xmk, xmk]) (st1 := [.int (I 57 9), .int h]) (h1 := (124, I, J, R)) rfl ?_
  refine ev_call (v1 := (some (.int f))) (h1 := (124, I, J, R)) rfl rfl c1 ?_
  refine ev_go 4 (pc1 := 15) (lv1 := [.ref 57, .int x, .int h, .int t, .int f, xmk, xmk, xmk, xmk, xmk, xmk, xmk, xmk, xmk]) (st1 := [.int (I 57 10), .int h]) (h1 := (124, I, J, R)) rfl ?_
  refine ev_call (v1 := (some (.int g))) (h1 := (124, I, J, R)) rfl rfl c2 ?_
  refine ev_go 14 (pc1 := 43) (lv1 := [.ref 57, .int x, .int h, .int t, .int f, .int g, .int ((f &&& (I 57 14)) ||| (g &&& (I 57 13))), xmk, xmk, xmk, xmk, xmk, xmk, xmk]) (st1 := [.int f, .int (I 57 11)]) (h1 := (124, I, J, R)) rfl ?_
  refine ev_call (v1 := (some (.int a))) (h1 := (124, I, J, R)) rfl rfl c3 ?_
  refine ev_go 5 (pc1 := 55) (lv1 := [.ref 57, .int x, .int h, .int t, .int f, .int g, .int ((f &&& (I 57 14)) ||| (g &&& (I 57 13))), .int ((I 57 11) - a), xmk, xmk, xmk, xmk, xmk, xmk]) (st1 := [.int g, .int (I 57 12)]) (h1 := (124, I, J, R)) rfl ?_
  refine ev_call (v1 := (some (.int b))) (h1 := (124, I, J, R)) rfl rfl c4 ?_
  refine ev_go 3 (pc1 := 63) (lv1 := [.ref 57, .int x, .int h, .int t, .int f, .int g, .int ((f &&& (I 57 14)) ||| (g &&& (I 57 13))), .int ((I 57 11) - a), .int ((I 57 12) - b), xmk, xmk, xmk, xmk, xmk]) (st1 := [.int ((f &&& (I 57 14)) ||| (g &&& (I 57 13)))]) (h1 := (124, I, J, R)) rfl ?_
  refine ev_br (b1 := true) rfl rfl (xcd_eq (x := ((f &&& (I 57 14)) ||| (g &&& (I 57 13)))) (y := 0) (by rw [show ((0 : Int32)).toInt = 0 from by decide]; first | exact b1 | omega)) ?_
  exact ev_ret rfl rfl
set_option maxRecDepth 20000 in
theorem ytf_1 {L : Nat} {xs : Nat → Int32} {d : Nat} {I : Nat → Nat → Int32} {J : Nat → Nat → Int64} {R : Nat → Nat → Nat} {x h t f g a b : Int32} (hG : aGd R) (c1 : xEv L xs d 87 0 [.int h, .int (I 57 9)] [] (124, I, J, R) (some (.int f)) (124, I, J, R)) (c2 : xEv L xs d 87 0 [.int h, .int (I 57 10)] [] (124, I, J, R) (some (.int g)) (124, I, J, R)) (c3 : xEv L xs d 90 0 [.int f] [] (124, I, J, R) (some (.int a)) (124, I, J, R)) (c4 : xEv L xs d 90 0 [.int g] [] (124, I, J, R) (some (.int b)) (124, I, J, R)) (b1 : ((f &&& (I 57 14)) ||| (g &&& (I 57 13))).toInt ≠ 0) (b2 : (((I 57 11) - a) + ((I 57 12) - b)).toInt < 1) : xEv L xs (d + 1) 89 0 [.ref 57, .int x, .int h, .int t, xmk, xmk, xmk, xmk, xmk, xmk, xmk, xmk, xmk, xmk] [] (124, I, J, R) none (124, I, J, R) := by
  refine ev_go 3 (pc1 := 5) (lv1 := [.ref 57, .int x, .int h, .int t, xmk, xmk, xmk, xmk, xmk, xmk, xmk, xmk, xmk, xmk]) (st1 := [.int (I 57 9), .int h]) (h1 := (124, I, J, R)) rfl ?_
  refine ev_call (v1 := (some (.int f))) (h1 := (124, I, J, R)) rfl rfl c1 ?_
  refine ev_go 4 (pc1 := 15) (lv1 := [.ref 57, .int x, .int h, .int t, .int f, xmk, xmk, xmk, xmk, xmk, xmk, xmk, xmk, xmk]) (st1 := [.int (I 57 10), .int h]) (h1 := (124, I, J, R)) rfl ?_
  refine ev_call (v1 := (some (.int g))) (h1 := (124, I, J, R)) rfl rfl c2 ?_
  refine ev_go 14 (pc1 := 43) (lv1 := [.ref 57, .int x, .int h, .int t, .int f, .int g, .int ((f &&& (I 57 14)) ||| (g &&& (I 57 13))), xmk, xmk, xmk, xmk, xmk, xmk, xmk]) (st1 := [.int f, .int (I 57 11)]) (h1 := (124, I, J, R)) rfl ?_
  refine ev_call (v1 := (some (.int a))) (h1 := (124, I, J, R)) rfl rfl c3 ?_
  refine ev_go 5 (pc1 := 55) (lv1 := [.ref 57, .int x, .int h, .int t, .int f, .int g, .int ((f &&& (I 57 14)) ||| (g &&& (I 57 13))), .int ((I 57 11) - a), xmk, xmk, xmk, xmk, xmk, xmk]) (st1 := [.int g, .int (I 57 12)]) (h1 := (124, I, J, R)) rfl ?_
  refine ev_call (v1 := (some (.int b))) (h1 := (124, I, J, R)) rfl rfl c4 ?_
  refine ev_go 3 (pc1 := 63) (lv1 := [.ref 57, .int x, .int h, .int t, .int f, .int g, .int ((f &&& (I 57 14)) ||| (g &&& (I 57 13))), .int ((I 57 11) - a), .int ((I 57 12) - b), xmk, xmk, xmk, xmk, xmk]) (st1 := [.int ((f &&& (I 57 14)) ||| (g &&& (I 57 13)))]) (h1 := (124, I, J, R)) rfl ?_
  refine ev_br (b1 := false) rfl rfl (xcd_neq (x := ((f &&& (I 57 14)) ||| (g &&& (I 57 13)))) (y := 0) (by rw [show ((0 : Int32)).toInt = 0 from by decide]; first | exact b1 | omega)) ?_
  refine ev_go 4 (pc1 := 72) (lv1 := [.ref 57, .int x, .int h, .int t, .int f, .int g, .int ((f &&& (I 57 14)) ||| (g &&& (I 57 13))), .int ((I 57 11) - a), .int ((I 57 12) - b), xmk, xmk, xmk, xmk, xmk]) (st1 := [.int 1, .int (((I 57 11) - a) + ((I 57 12) - b))]) (h1 := (124, I, J, R)) rfl ?_
  refine ev_br (b1 := false) rfl rfl (xcd_nge (x := (((I 57 11) - a) + ((I 57 12) - b))) (y := 1) (by rw [show ((1 : Int32)).toInt = 1 from by decide]; first | exact b2 | omega)) ?_
  exact ev_ret rfl rfl
set_option maxRecDepth 20000 in
theorem ytf_s {L : Nat} {xs : Nat → Int32} {d : Nat} {I : Nat → Nat → Int32} {J : Nat → Nat → Int64} {R : Nat → Nat → Nat} {x h t f g a b c : Int32} (hG : aGd R) (c1 : xEv L xs d 87 0 [.int h, .int (I 57 9)] [] (124, I, J, R) (some (.int f)) (124, I, J, R)) (c2 : xEv L xs d 87 0 [.int h, .int (I 57 10)] [] (124, I, J, R) (some (.int g)) (124, I, J, R)) (c3 : xEv L xs d 90 0 [.int f] [] (124, I, J, R) (some (.int a)) (124, I, J, R)) (c4 : xEv L xs d 90 0 [.int g] [] (124, I, J, R) (some (.int b)) (124, I, J, R)) (b1 : ((f &&& (I 57 14)) ||| (g &&& (I 57 13))).toInt ≠ 0) (b2 : (((I 57 11) - a) + ((I 57 12) - b)).toInt ≥ 1) (c5 : xEv L xs d 39 0 [.ref 58, .int x] [] (124, I, J, R) (some (.int c)) (124, I, J, R)) {v : Option Value} {h' : xH} (hk : xEv L xs (d + 1) 89 90 [.ref 57, .int x, .int h, .int t, .int f, .int g, .int ((f &&& (I 57 14)) ||| (g &&& (I 57 13))), .int ((I 57 11) - a), .int ((I 57 12) - b), .int c, .int ((f &&& (I 57 14)) ||| (g &&& (I 57 13))), xmk, xmk, xmk] [] (124, I, J, R) v h') : xEv L xs (d + 1) 89 0 [.ref 57, .int x, .int h, .int t, xmk, xmk, xmk, xmk, xmk, xmk, xmk, xmk, xmk, xmk] [] (124, I, J, R) v h' := by
  refine ev_go 3 (pc1 := 5) (lv1 := [.ref 57, .int x, .int h, .int t, xmk, xmk, xmk, xmk, xmk, xmk, xmk, xmk, xmk, xmk]) (st1 := [.int (I 57 9), .int h]) (h1 := (124, I, J, R)) rfl ?_
  refine ev_call (v1 := (some (.int f))) (h1 := (124, I, J, R)) rfl rfl c1 ?_
  refine ev_go 4 (pc1 := 15) (lv1 := [.ref 57, .int x, .int h, .int t, .int f, xmk, xmk, xmk, xmk, xmk, xmk, xmk, xmk, xmk]) (st1 := [.int (I 57 10), .int h]) (h1 := (124, I, J, R)) rfl ?_
  refine ev_call (v1 := (some (.int g))) (h1 := (124, I, J, R)) rfl rfl c2 ?_
  refine ev_go 14 (pc1 := 43) (lv1 := [.ref 57, .int x, .int h, .int t, .int f, .int g, .int ((f &&& (I 57 14)) ||| (g &&& (I 57 13))), xmk, xmk, xmk, xmk, xmk, xmk, xmk]) (st1 := [.int f, .int (I 57 11)]) (h1 := (124, I, J, R)) rfl ?_
  refine ev_call (v1 := (some (.int a))) (h1 := (124, I, J, R)) rfl rfl c3 ?_
  refine ev_go 5 (pc1 := 55) (lv1 := [.ref 57, .int x, .int h, .int t, .int f, .int g, .int ((f &&& (I 57 14)) ||| (g &&& (I 57 13))), .int ((I 57 11) - a), xmk, xmk, xmk, xmk, xmk, xmk]) (st1 := [.int g, .int (I 57 12)]) (h1 := (124, I, J, R)) rfl ?_
  refine ev_call (v1 := (some (.int b))) (h1 := (124, I, J, R)) rfl rfl c4 ?_
  refine ev_go 3 (pc1 := 63) (lv1 := [.ref 57, .int x, .int h, .int t, .int f, .int g, .int ((f &&& (I 57 14)) ||| (g &&& (I 57 13))), .int ((I 57 11) - a), .int ((I 57 12) - b), xmk, xmk, xmk, xmk, xmk]) (st1 := [.int ((f &&& (I 57 14)) ||| (g &&& (I 57 13)))]) (h1 := (124, I, J, R)) rfl ?_
  refine ev_br (b1 := false) rfl rfl (xcd_neq (x := ((f &&& (I 57 14)) ||| (g &&& (I 57 13)))) (y := 0) (by rw [show ((0 : Int32)).toInt = 0 from by decide]; first | exact b1 | omega)) ?_
  refine ev_go 4 (pc1 := 72) (lv1 := [.ref 57, .int x, .int h, .int t, .int f, .int g, .int ((f &&& (I 57 14)) ||| (g &&& (I 57 13))), .int ((I 57 11) - a), .int ((I 57 12) - b), xmk, xmk, xmk, xmk, xmk]) (st1 := [.int 1, .int (((I 57 11) - a) + ((I 57 12) - b))]) (h1 := (124, I, J, R)) rfl ?_
  refine ev_br (b1 := true) rfl rfl (xcd_ge (x := (((I 57 11) - a) + ((I 57 12) - b))) (y := 1) (by rw [show ((1 : Int32)).toInt = 1 from by decide]; first | exact b2 | omega)) ?_
  refine ev_go 1 (pc1 := 77) (lv1 := [.ref 57, .int x, .int h, .int t, .int f, .int g, .int ((f &&& (I 57 14)) ||| (g &&& (I 57 13))), .int ((I 57 11) - a), .int ((I 57 12) - b), xmk, xmk, xmk, xmk, xmk]) (st1 := [.ref 57]) (h1 := (124, I, J, R)) rfl ?_
  refine ev_gf (c := 57) (t := 58) (X := R 57 0) rfl rfl (fun _ => rfl) rfl (hG 57 0 58 rfl rfl) ?_
  refine ev_go 1 (pc1 := 81) (lv1 := [.ref 57, .int x, .int h, .int t, .int f, .int g, .int ((f &&& (I 57 14)) ||| (g &&& (I 57 13))), .int ((I 57 11) - a), .int ((I 57 12) - b), xmk, xmk, xmk, xmk, xmk]) (st1 := [.int x, .ref 58]) (h1 := (124, I, J, R)) rfl ?_
  refine ev_call (v1 := (some (.int c))) (h1 := (124, I, J, R)) rfl rfl c5 ?_
  refine ev_go 3 (pc1 := 90) (lv1 := [.ref 57, .int x, .int h, .int t, .int f, .int g, .int ((f &&& (I 57 14)) ||| (g &&& (I 57 13))), .int ((I 57 11) - a), .int ((I 57 12) - b), .int c, .int ((f &&& (I 57 14)) ||| (g &&& (I 57 13))), xmk, xmk, xmk]) (st1 := []) (h1 := (124, I, J, R)) rfl ?_
  exact hk
set_option maxRecDepth 20000 in
theorem ytf_e {L : Nat} {xs : Nat → Int32} {d : Nat} {I : Nat → Nat → Int32} {J : Nat → Nat → Int64} {R : Nat → Nat → Nat} {x h t f g k a b c u : Int32} {wb wc wd : Value} (hG : aGd R) (b1 : u.toInt ≤ 0) : xEv L xs d 89 90 [.ref 57, .int x, .int h, .int t, .int f, .int g, .int k, .int a, .int b, .int c, .int u, wb, wc, wd] [] (124, I, J, R) none (124, I, J, R) := by
  refine ev_go 1 (pc1 := 92) (lv1 := [.ref 57, .int x, .int h, .int t, .int f, .int g, .int k, .int a, .int b, .int c, .int u, wb, wc, wd]) (st1 := [.int u]) (h1 := (124, I, J, R)) rfl ?_
  refine ev_br (b1 := true) rfl rfl (xcd_le (x := u) (y := 0) (by rw [show ((0 : Int32)).toInt = 0 from by decide]; first | exact b1 | omega)) ?_
  exact ev_ret rfl rfl
set_option maxRecDepth 20000 in
theorem ytf_g {L : Nat} {xs : Nat → Int32} {d : Nat} {I : Nat → Nat → Int32} {J : Nat → Nat → Int64} {R : Nat → Nat → Nat} {x h t f g k a b c u m n : Int32} {wb wc wd : Value} (hG : aGd R) (b1 : u.toInt > 0) (c1 : xEv L xs d 90 0 [.int (u &&& f)] [] (124, I, J, R) (some (.int m)) (124, I, J, R)) (c2 : xEv L xs d 90 0 [.int (u &&& g)] [] (124, I, J, R) (some (.int n)) (124, I, J, R)) (b2 : (m - n).toInt > b.toInt) {v : Option Value} {h' : xH} (hk : xEv L xs (d + 1) 89 90 [.ref 57, .int x, .int h, .int t, .int f, .int g, .int k, .int a, .int b, .int c, .int ((u - 1) &&& k), .int (u &&& f), .int (u &&& g), .int (m - n)] [] (124, I, J, R) v h') : xEv L xs (d + 1) 89 90 [.ref 57, .int x, .int h, .int t, .int f, .int g, .int k, .int a, .int b, .int c, .int u, wb, wc, wd] [] (124, I, J, R) v h' := by
  refine ev_go 1 (pc1 := 92) (lv1 := [.ref 57, .int x, .int h, .int t, .int f, .int g, .int k, .int a, .int b, .int c, .int u, wb, wc, wd]) (st1 := [.int u]) (h1 := (124, I, J, R)) rfl ?_
  refine ev_br (b1 := false) rfl rfl (xcd_nle (x := u) (y := 0) (by rw [show ((0 : Int32)).toInt = 0 from by decide]; first | exact b1 | omega)) ?_
  refine ev_go 9 (pc1 := 111) (lv1 := [.ref 57, .int x, .int h, .int t, .int f, .int g, .int k, .int a, .int b, .int c, .int u, .int (u &&& f), .int (u &&& g), wd]) (st1 := [.int (u &&& f)]) (h1 := (124, I, J, R)) rfl ?_
  refine ev_call (v1 := (some (.int m))) (h1 := (124, I, J, R)) rfl rfl c1 ?_
  refine ev_go 1 (pc1 := 116) (lv1 := [.ref 57, .int x, .int h, .int t, .int f, .int g, .int k, .int a, .int b, .int c, .int u, .int (u &&& f), .int (u &&& g), wd]) (st1 := [.int (u &&& g), .int m]) (h1 := (124, I, J, R)) rfl ?_
  refine ev_call (v1 := (some (.int n))) (h1 := (124, I, J, R)) rfl rfl c2 ?_
  refine ev_go 4 (pc1 := 126) (lv1 := [.ref 57, .int x, .int h, .int t, .int f, .int g, .int k, .int a, .int b, .int c, .int u, .int (u &&& f), .int (u &&& g), .int (m - n)]) (st1 := [.int b, .int (m - n)]) (h1 := (124, I, J, R)) rfl ?_
  refine ev_br (b1 := true) rfl rfl (xcd_gt (x := (m - n)) (y := b) (by first | exact b2 | omega)) ?_
  refine ev_go 7 (pc1 := 90) (lv1 := [.ref 57, .int x, .int h, .int t, .int f, .int g, .int k, .int a, .int b, .int c, .int ((u - 1) &&& k), .int (u &&& f), .int (u &&& g), .int (m - n)]) (st1 := []) (h1 := (124, I, J, R)) rfl ?_
  exact hk
set_option maxRecDepth 20000 in
theorem ytf_h {L : Nat} {xs : Nat → Int32} {d : Nat} {I : Nat → Nat → Int32} {J : Nat → Nat → Int64} {R : Nat → Nat → Nat} {x h t f g k a b c u m n : Int32} {wb wc wd : Value} (hG : aGd R) (b1 : u.toInt > 0) (c1 : xEv L xs d 90 0 [.int (u &&& f)] [] (124, I, J, R) (some (.int m)) (124, I, J, R)) (c2 : xEv L xs d 90 0 [.int (u &&& g)] [] (124, I, J, R) (some (.int n)) (124, I, J, R)) (b2 : (m - n).toInt ≤ b.toInt) (b3 : (-(m - n)).toInt > a.toInt) {v : Option Value} {h' : xH} (hk : xEv L xs (d + 1) 89 90 [.ref 57, .int x, .int h, .int t, .int f, .int g, .int k, .int a, .int b, .int c, .int ((u - 1) &&& k), .int (u &&& f), .int (u &&& g), .int (m - n)] [] (124, I, J, R) v h') : xEv L xs (d + 1) 89 90 [.ref 57, .int x, .int h, .int t, .int f, .int g, .int k, .int a, .int b, .int c, .int u, wb, wc, wd] [] (124, I, J, R) v h' := by
  refine ev_go 1 (pc1 := 92) (lv1 := [.ref 57, .int x, .int h, .int t, .int f, .int g, .int k, .int a, .int b, .int c, .int u, wb, wc, wd]) (st1 := [.int u]) (h1 := (124, I, J, R)) rfl ?_
  refine ev_br (b1 := false) rfl rfl (xcd_nle (x := u) (y := 0) (by rw [show ((0 : Int32)).toInt = 0 from by decide]; first | exact b1 | omega)) ?_
  refine ev_go 9 (pc1 := 111) (lv1 := [.ref 57, .int x, .int h, .int t, .int f, .int g, .int k, .int a, .int b, .int c, .int u, .int (u &&& f), .int (u &&& g), wd]) (st1 := [.int (u &&& f)]) (h1 := (124, I, J, R)) rfl ?_
  refine ev_call (v1 := (some (.int m))) (h1 := (124, I, J, R)) rfl rfl c1 ?_
  refine ev_go 1 (pc1 := 116) (lv1 := [.ref 57, .int x, .int h, .int t, .int f, .int g, .int k, .int a, .int b, .int c, .int u, .int (u &&& f), .int (u &&& g), wd]) (st1 := [.int (u &&& g), .int m]) (h1 := (124, I, J, R)) rfl ?_
  refine ev_call (v1 := (some (.int n))) (h1 := (124, I, J, R)) rfl rfl c2 ?_
  refine ev_go 4 (pc1 := 126) (lv1 := [.ref 57, .int x, .int h, .int t, .int f, .int g, .int k, .int a, .int b, .int c, .int u, .int (u &&& f), .int (u &&& g), .int (m - n)]) (st1 := [.int b, .int (m - n)]) (h1 := (124, I, J, R)) rfl ?_
  refine ev_br (b1 := false) rfl rfl (xcd_ngt (x := (m - n)) (y := b) (by first | exact b2 | omega)) ?_
  refine ev_go 3 (pc1 := 134) (lv1 := [.ref 57, .int x, .int h, .int t, .int f, .int g, .int k, .int a, .int b, .int c, .int u, .int (u &&& f), .int (u &&& g), .int (m - n)]) (st1 := [.int a, .int (-(m - n))]) (h1 := (124, I, J, R)) rfl ?_
  refine ev_br (b1 := true) rfl rfl (xcd_gt (x := (-(m - n))) (y := a) (by first | exact b3 | omega)) ?_
  refine ev_go 7 (pc1 := 90) (lv1 := [.ref 57, .int x, .int h, .int t, .int f, .int g, .int k, .int a, .int b, .int c, .int ((u - 1) &&& k), .int (u &&& f), .int (u &&& g), .int (m - n)]) (st1 := []) (h1 := (124, I, J, R)) rfl ?_
  exact hk
set_option maxRecDepth 20000 in
theorem ytf_y {L : Nat} {xs : Nat → Int32} {d : Nat} {I : Nat → Nat → Int32} {J : Nat → Nat → Int64} {R : Nat → Nat → Nat} {I1 : Nat → Nat → Int32} {x h t f g k a b c u m n o q : Int32} {wb wc wd : Value} (hG : aGd R) (b1 : u.toInt > 0) (c1 : xEv L xs d 90 0 [.int (u &&& f)] [] (124, I, J, R) (some (.int m)) (124, I, J, R)) (c2 : xEv L xs d 90 0 [.int (u &&& g)] [] (124, I, J, R) (some (.int n)) (124, I, J, R)) (b2 : (m - n).toInt ≤ b.toInt) (b3 : (-(m - n)).toInt ≤ a.toInt) (c3 : xEv L xs d 39 0 [.retAddr 1, .int (u &&& f)] [] (124, I, J, R) (some (.int o)) (124, I, J, R)) (c4 : xEv L xs d 39 0 [.retAddr 1, .int (u &&& g)] [] (124, I, J, R) (some (.int q)) (124, I, J, R)) (c5 : xEv L xs d 86 0 [.ref 57, .int (x + ((o - q) * ((I 57 10) - (I 57 9)))), .int ((h ^^^ (u <<< ((4 * (I 57 9)) &&& 31))) ^^^ (u <<< ((4 * (I 57 10)) &&& 31))), .int c, .int t, xmk, xmk, xmk] [] (124, I, J, R) none (124, I1, J, R)) {v : Option Value} {h' : xH} (hk : xEv L xs (d + 1) 89 90 [.ref 57, .int x, .int h, .int t, .int f, .int g, .int k, .int a, .int b, .int c, .int ((u - 1) &&& k), .int (u &&& f), .int (u &&& g), .int (m - n)] [] (124, I1, J, R) v h') : xEv L xs (d + 1) 89 90 [.ref 57, .int x, .int h, .int t, .int f, .int g, .int k, .int a, .int b, .int c, .int u, wb, wc, wd] [] (124, I, J, R) v h' := by
  refine ev_go 1 (pc1 := 92) (lv1 := [.ref 57, .int x, .int h, .int t, .int f, .int g, .int k, .int a, .int b, .int c, .int u, wb, wc, wd]) (st1 := [.int u]) (h1 := (124, I, J, R)) rfl ?_
  refine ev_br (b1 := false) rfl rfl (xcd_nle (x := u) (y := 0) (by rw [show ((0 : Int32)).toInt = 0 from by decide]; first | exact b1 | omega)) ?_
  refine ev_go 9 (pc1 := 111) (lv1 := [.ref 57, .int x, .int h, .int t, .int f, .int g, .int k, .int a, .int b, .int c, .int u, .int (u &&& f), .int (u &&& g), wd]) (st1 := [.int (u &&& f)]) (h1 := (124, I, J, R)) rfl ?_
  refine ev_call (v1 := (some (.int m))) (h1 := (124, I, J, R)) rfl rfl c1 ?_
  refine ev_go 1 (pc1 := 116) (lv1 := [.ref 57, .int x, .int h, .int t, .int f, .int g, .int k, .int a, .int b, .int c, .int u, .int (u &&& f), .int (u &&& g), wd]) (st1 := [.int (u &&& g), .int m]) (h1 := (124, I, J, R)) rfl ?_
  refine ev_call (v1 := (some (.int n))) (h1 := (124, I, J, R)) rfl rfl c2 ?_
  refine ev_go 4 (pc1 := 126) (lv1 := [.ref 57, .int x, .int h, .int t, .int f, .int g, .int k, .int a, .int b, .int c, .int u, .int (u &&& f), .int (u &&& g), .int (m - n)]) (st1 := [.int b, .int (m - n)]) (h1 := (124, I, J, R)) rfl ?_
  refine ev_br (b1 := false) rfl rfl (xcd_ngt (x := (m - n)) (y := b) (by first | exact b2 | omega)) ?_
  refine ev_go 3 (pc1 := 134) (lv1 := [.ref 57, .int x, .int h, .int t, .int f, .int g, .int k, .int a, .int b, .int c, .int u, .int (u &&& f), .int (u &&& g), .int (m - n)]) (st1 := [.int a, .int (-(m - n))]) (h1 := (124, I, J, R)) rfl ?_
  refine ev_br (b1 := false) rfl rfl (xcd_ngt (x := (-(m - n))) (y := a) (by first | exact b3 | omega)) ?_
  refine ev_go 4 (pc1 := 144) (lv1 := [.ref 57, .int x, .int h, .int t, .int f, .int g, .int k, .int a, .int b, .int c, .int u, .int (u &&& f), .int (u &&& g), .int (m - n)]) (st1 := [.int (u &&& f), .retAddr 1, .int x, .ref 57]) (h1 := (124, I, J, R)) rfl ?_
  refine ev_call (v1 := (some (.int o))) (h1 := (124, I, J, R)) rfl rfl c3 ?_
  refine ev_go 2 (pc1 := 152) (lv1 := [.ref 57, .int x, .int h, .int t, .int f, .int g, .int k, .int a, .int b, .int c, .int u, .int (u &&& f), .int (u &&& g), .int (m - n)]) (st1 := [.int (u &&& g), .retAddr 1, .int o, .int x, .ref 57]) (h1 := (124, I, J, R)) rfl ?_
  refine ev_call (v1 := (some (.int q))) (h1 := (124, I, J, R)) rfl rfl c4 ?_
  refine ev_go 14 (pc1 := 176) (lv1 := [.ref 57, .int x, .int h, .int t, .int f, .int g, .int k, .int a, .int b, .int c, .int u, .int (u &&& f), .int (u &&& g), .int (m - n)]) (st1 := [.int (4 * (I 57 9)), .int u, .int h, .int (x + ((o - q) * ((I 57 10) - (I 57 9)))), .ref 57]) (h1 := (124, I, J, R)) rfl ?_
  refine ev_go 7 (pc1 := 186) (lv1 := [.ref 57, .int x, .int h, .int t, .int f, .int g, .int k, .int a, .int b, .int c, .int u, .int (u &&& f), .int (u &&& g), .int (m - n)]) (st1 := [.int (4 * (I 57 10)), .int u, .int (h ^^^ (u <<< ((4 * (I 57 9)) &&& 31))), .int (x + ((o - q) * ((I 57 10) - (I 57 9)))), .ref 57]) (h1 := (124, I, J, R)) rfl ?_
  refine ev_go 4 (pc1 := 191) (lv1 := [.ref 57, .int x, .int h, .int t, .int f, .int g, .int k, .int a, .int b, .int c, .int u, .int (u &&& f), .int (u &&& g), .int (m - n)]) (st1 := [.int t, .int c, .int ((h ^^^ (u <<< ((4 * (I 57 9)) &&& 31))) ^^^ (u <<< ((4 * (I 57 10)) &&& 31))), .int (x + ((o - q) * ((I 57 10) - (I 57 9)))), .ref 57]) (h1 := (124, I, J, R)) rfl ?_
  refine ev_call (v1 := none) (h1 := (124, I1, J, R)) rfl rfl c5 ?_
  refine ev_go 7 (pc1 := 90) (lv1 := [.ref 57, .int x, .int h, .int t, .int f, .int g, .int k, .int a, .int b, .int c, .int ((u - 1) &&& k), .int (u &&& f), .int (u &&& g), .int (m - n)]) (st1 := []) (h1 := (124, I1, J, R)) rfl ?_
  exact hk
set_option maxRecDepth 20000 in
theorem yft_s {L : Nat} {xs : Nat → Int32} {d : Nat} {I : Nat → Nat → Int32} {J : Nat → Nat → Int64} {R : Nat → Nat → Nat} {u q : Int32} (hG : aGd R)  {v : Option Value} {h' : xH} (hk : xEv L xs d 94 6 [.ref 57, .int u, .int q, .int 64, .int 0] [] (124, I, J, R) v h') : xEv L xs d 94 0 [.ref 57, .int u, .int q, xmk, xmk] [] (124, I, J, R) v h' := by
  refine ev_go 4 (pc1 := 6) (lv1 := [.ref 57, .int u, .int q, .int 64, .int 0]) (st1 := []) (h1 := (124, I, J, R)) rfl ?_
  exact hk
set_option maxRecDepth 20000 in
theorem yft_e {L : Nat} {xs : Nat → Int32} {d : Nat} {I : Nat → Nat → Int32} {J : Nat → Nat → Int64} {R : Nat → Nat → Nat} {u q l m : Int32} (hG : aGd R) (b1 : m.toInt ≥ 16) : xEv L xs d 94 6 [.ref 57, .int u, .int q, .int l, .int m] [] (124, I, J, R) (some (.int l)) (124, I, J, R) := by
  refine ev_go 2 (pc1 := 10) (lv1 := [.ref 57, .int u, .int q, .int l, .int m]) (st1 := [.int 16, .int m]) (h1 := (124, I, J, R)) rfl ?_
  refine ev_br (b1 := true) rfl rfl (xcd_ge (x := m) (y := 16) (by rw [show ((16 : Int32)).toInt = 16 from by decide]; first | exact b1 | omega)) ?_
  refine ev_go 1 (pc1 := 47) (lv1 := [.ref 57, .int u, .int q, .int l, .int m]) (st1 := [.int l]) (h1 := (124, I, J, R)) rfl ?_
  exact ev_ret rfl rfl
set_option maxRecDepth 20000 in
theorem yft_n {L : Nat} {xs : Nat → Int32} {d : Nat} {I : Nat → Nat → Int32} {J : Nat → Nat → Int64} {R : Nat → Nat → Nat} {u q l m : Int32} (hG : aGd R) (b1 : m.toInt < 16) (b2 : (m &&& u).toInt ≠ u.toInt) {v : Option Value} {h' : xH} (hk : xEv L xs d 94 6 [.ref 57, .int u, .int q, .int l, .int (m + 1)] [] (124, I, J, R) v h') : xEv L xs d 94 6 [.ref 57, .int u, .int q, .int l, .int m] [] (124, I, J, R) v h' := by
  refine ev_go 2 (pc1 := 10) (lv1 := [.ref 57, .int u, .int q, .int l, .int m]) (st1 := [.int 16, .int m]) (h1 := (124, I, J, R)) rfl ?_
  refine ev_br (b1 := false) rfl rfl (xcd_nge (x := m) (y := 16) (by rw [show ((16 : Int32)).toInt = 16 from by decide]; first | exact b1 | omega)) ?_
  refine ev_go 4 (pc1 := 18) (lv1 := [.ref 57, .int u, .int q, .int l, .int m]) (st1 := [.int u, .int (m &&& u)]) (h1 := (124, I, J, R)) rfl ?_
  refine ev_br (b1 := true) rfl rfl (xcd_ne (x := (m &&& u)) (y := u) (by first | exact b2 | omega)) ?_
  refine ev_go 2 (pc1 := 6) (lv1 := [.ref 57, .int u, .int q, .int l, .int (m + 1)]) (st1 := []) (h1 := (124, I, J, R)) rfl ?_
  exact hk
set_option maxRecDepth 20000 in
theorem yft_y {L : Nat} {xs : Nat → Int32} {d : Nat} {I : Nat → Nat → Int32} {J : Nat → Nat → Int64} {R : Nat → Nat → Nat} {u q l m o : Int32} (hG : aGd R) (b1 : m.toInt < 16) (b2 : (m &&& u).toInt = u.toInt) (c1 : xEv L xs d 39 0 [.ref 61, .int ((m * 7) + q)] [] (124, I, J, R) (some (.int o)) (124, I, J, R)) {v : Option Value} {h' : xH} (hk : xEv L xs (d + 1) 94 6 [.ref 57, .int u, .int q, .int (if o < l then o else l), .int (m + 1)] [] (124, I, J, R) v h') : xEv L xs (d + 1) 94 6 [.ref 57, .int u, .int q, .int l, .int m] [] (124, I, J, R) v h' := by
  refine ev_go 2 (pc1 := 10) (lv1 := [.ref 57, .int u, .int q, .int l, .int m]) (st1 := [.int 16, .int m]) (h1 := (124, I, J, R)) rfl ?_
  refine ev_br (b1 := false) rfl rfl (xcd_nge (x := m) (y := 16) (by rw [show ((16 : Int32)).toInt = 16 from by decide]; first | exact b1 | omega)) ?_
  refine ev_go 4 (pc1 := 18) (lv1 := [.ref 57, .int u, .int q, .int l, .int m]) (st1 := [.int u, .int (m &&& u)]) (h1 := (124, I, J, R)) rfl ?_
  refine ev_br (b1 := false) rfl rfl (xcd_nne (x := (m &&& u)) (y := u) (by first | exact b2 | omega)) ?_
  refine ev_go 2 (pc1 := 23) (lv1 := [.ref 57, .int u, .int q, .int l, .int m]) (st1 := [.ref 57, .int l]) (h1 := (124, I, J, R)) rfl ?_
  refine ev_gf (c := 57) (t := 61) (X := R 57 3) rfl rfl (fun _ => rfl) rfl (hG 57 3 61 rfl rfl) ?_
  refine ev_go 5 (pc1 := 33) (lv1 := [.ref 57, .int u, .int q, .int l, .int m]) (st1 := [.int ((m * 7) + q), .ref 61, .int l]) (h1 := (124, I, J, R)) rfl ?_
  refine ev_call (v1 := (some (.int o))) (h1 := (124, I, J, R)) rfl rfl c1 ?_
  refine ev_go 4 (pc1 := 6) (lv1 := [.ref 57, .int u, .int q, .int (if o < l then o else l), .int (m + 1)]) (st1 := []) (h1 := (124, I, J, R)) rfl ?_
  exact hk
set_option maxRecDepth 20000 in
theorem ypm_s_3 {L : Nat} {xs : Nat → Int32} {d : Nat} {I : Nat → Nat → Int32} {J : Nat → Nat → Int64} {R : Nat → Nat → Nat} {t a b c e f g : Int32} (hG : aGd R) (c1 : xEv L xs d 39 0 [.ref 20, .int t] [] (124, I, J, R) (some (.int a)) (124, I, J, R)) (c2 : xEv L xs d 39 0 [.ref 21, .int t] [] (124, (uI I 57 9 a), J, R) (some (.int b)) (124, (uI I 57 9 a), J, R)) (c3 : xEv L xs d 39 0 [.ref 5, .int a] [] (124, (uI (uI I 57 9 a) 57 10 b), J, R) (some (.int c)) (124, (uI (uI I 57 9 a) 57 10 b), J, R)) (c4 : xEv L xs d 39 0 [.ref 5, .int b] [] (124, (uI (uI (uI I 57 9 a) 57 10 b) 57 11 c), J, R) (some (.int e)) (124, (uI (uI (uI I 57 9 a) 57 10 b) 57 11 c), J, R)) (c5 : xEv L xs d 39 0 [.ref 62, .int a] [] (124, (uI (uI (uI (uI I 57 9 a) 57 10 b) 57 11 c) 57 12 e), J, R) (some (.int f)) (124, (uI (uI (uI (uI I 57 9 a) 57 10 b) 57 11 c) 57 12 e), J, R)) (c6 : xEv L xs d 39 0 [.ref 62, .int b] [] (124, (uI (uI (uI (uI (uI I 57 9 a) 57 10 b) 57 11 c) 57 12 e) 57 13 (f ^^^ (-1))), J, R) (some (.int g)) (124, (uI (uI (uI (uI (uI I 57 9 a) 57 10 b) 57 11 c) 57 12 e) 57 13 (f ^^^ (-1))), J, R)) {v : Option Value} {h' : xH} (hk : xEv L xs (d + 1) 88 102 [.ref 57, .ref 3, .int t, .int (I 57 5), .int 0] [] (124, (uI (uI (uI (uI (uI (uI I 57 9 a) 57 10 b) 57 11 c) 57 12 e) 57 13 (f ^^^ (-1))) 57 14 (g ^^^ (-1))), J, R) v h') : xEv L xs (d + 1) 88 0 [.ref 57, .ref 3, .int t, xmk, xmk] [] (124, I, J, R) v h' := by
  refine ev_go 2 (pc1 := 2) (lv1 := [.ref 57, .ref 3, .int t, xmk, xmk]) (st1 := [.ref 3, .ref 57]) (h1 := (124, I, J, R)) rfl ?_
  refine ev_gf (c := 3) (t := 17) (X := R 3 13) rfl rfl (fun _ => rfl) rfl (hG 3 13 17 rfl rfl) ?_
  refine ev_gf (c := 17) (t := 20) (X := R 17 2) rfl rfl (fun _ => rfl) rfl (hG 17 2 20 rfl rfl) ?_
  refine ev_go 1 (pc1 := 9) (lv1 := [.ref 57, .ref 3, .int t, xmk, xmk]) (st1 := [.int t, .ref 20, .ref 57]) (h1 := (124, I, J, R)) rfl ?_
  refine ev_call (v1 := (some (.int a))) (h1 := (124, I, J, R)) rfl rfl c1 ?_
  refine ev_go 3 (pc1 := 17) (lv1 := [.ref 57, .ref 3, .int t, xmk, xmk]) (st1 := [.ref 3, .ref 57]) (h1 := (124, (uI I 57 9 a), J, R)) rfl ?_
  refine ev_gf (c := 3) (t := 17) (X := R 3 13) rfl rfl (fun _ => rfl) rfl (hG 3 13 17 rfl rfl) ?_
  refine ev_gf (c := 17) (t := 21) (X := R 17 3) rfl rfl (fun _ => rfl) rfl (hG 17 3 21 rfl rfl) ?_
  refine ev_go 1 (pc1 := 24) (lv1 := [.ref 57, .ref 3, .int t, xmk, xmk]) (st1 := [.int t, .ref 21, .ref 57]) (h1 := (124, (uI I 57 9 a), J, R)) rfl ?_
  refine ev_call (v1 := (some (.int b))) (h1 := (124, (uI I 57 9 a), J, R)) rfl rfl c2 ?_
  refine ev_go 3 (pc1 := 32) (lv1 := [.ref 57, .ref 3, .int t, xmk, xmk]) (st1 := [.ref 3, .ref 57]) (h1 := (124, (uI (uI I 57 9 a) 57 10 b), J, R)) rfl ?_
  refine ev_gf (c := 3) (t := 5) (X := R 3 1) rfl rfl (fun _ => rfl) rfl (hG 3 1 5 rfl rfl) ?_
  refine ev_go 2 (pc1 := 39) (lv1 := [.ref 57, .ref 3, .int t, xmk, xmk]) (st1 := [.int a, .ref 5, .ref 57]) (h1 := (124, (uI (uI I 57 9 a) 57 10 b), J, R)) rfl ?_
  refine ev_call (v1 := (some (.int c))) (h1 := (124, (uI (uI I 57 9 a) 57 10 b), J, R)) rfl rfl c3 ?_
  refine ev_go 3 (pc1 := 47) (lv1 := [.ref 57, .ref 3, .int t, xmk, xmk]) (st1 := [.ref 3, .ref 57]) (h1 := (124, (uI (uI (uI I 57 9 a) 57 10 b) 57 11 c), J, R)) rfl ?_
  refine ev_gf (c := 3) (t := 5) (X := R 3 1) rfl rfl (fun _ => rfl) rfl (hG 3 1 5 rfl rfl) ?_
  refine ev_go 2 (pc1 := 54) (lv1 := [.ref 57, .ref 3, .int t, xmk, xmk]) (st1 := [.int b, .ref 5, .ref 57]) (h1 := (124, (uI (uI (uI I 57 9 a) 57 10 b) 57 11 c), J, R)) rfl ?_
  refine ev_call (v1 := (some (.int e))) (h1 := (124, (uI (uI (uI I 57 9 a) 57 10 b) 57 11 c), J, R)) rfl rfl c4 ?_
  refine ev_go 3 (pc1 := 62) (lv1 := [.ref 57, .ref 3, .int t, xmk, xmk]) (st1 := [.ref 57, .ref 57]) (h1 := (124, (uI (uI (uI (uI I 57 9 a) 57 10 b) 57 11 c) 57 12 e), J, R)) rfl ?_
  refine ev_gf (c := 57) (t := 62) (X := R 57 4) rfl rfl (fun _ => rfl) rfl (hG 57 4 62 rfl rfl) ?_
  refine ev_go 2 (pc1 := 69) (lv1 := [.ref 57, .ref 3, .int t, xmk, xmk]) (st1 := [.int a, .ref 62, .ref 57]) (h1 := (124, (uI (uI (uI (uI I 57 9 a) 57 10 b) 57 11 c) 57 12 e), J, R)) rfl ?_
  refine ev_call (v1 := (some (.int f))) (h1 := (124, (uI (uI (uI (uI I 57 9 a) 57 10 b) 57 11 c) 57 12 e), J, R)) rfl rfl c5 ?_
  refine ev_go 5 (pc1 := 79) (lv1 := [.ref 57, .ref 3, .int t, xmk, xmk]) (st1 := [.ref 57, .ref 57]) (h1 := (124, (uI (uI (uI (uI (uI I 57 9 a) 57 10 b) 57 11 c) 57 12 e) 57 13 (f ^^^ (-1))), J, R)) rfl ?_
  refine ev_gf (c := 57) (t := 62) (X := R 57 4) rfl rfl (fun _ => rfl) rfl (hG 57 4 62 rfl rfl) ?_
  refine ev_go 2 (pc1 := 86) (lv1 := [.ref 57, .ref 3, .int t, xmk, xmk]) (st1 := [.int b, .ref 62, .ref 57]) (h1 := (124, (uI (uI (uI (uI (uI I 57 9 a) 57 10 b) 57 11 c) 57 12 e) 57 13 (f ^^^ (-1))), J, R)) rfl ?_
  refine ev_call (v1 := (some (.int g))) (h1 := (124, (uI (uI (uI (uI (uI I 57 9 a) 57 10 b) 57 11 c) 57 12 e) 57 13 (f ^^^ (-1))), J, R)) rfl rfl c6 ?_
  refine ev_go 8 (pc1 := 102) (lv1 := [.ref 57, .ref 3, .int t, .int (I 57 5), .int 0]) (st1 := []) (h1 := (124, (uI (uI (uI (uI (uI (uI I 57 9 a) 57 10 b) 57 11 c) 57 12 e) 57 13 (f ^^^ (-1))) 57 14 (g ^^^ (-1))), J, R)) rfl ?_
  exact hk
set_option maxRecDepth 20000 in
theorem ypm_e_3 {L : Nat} {xs : Nat → Int32} {d : Nat} {I : Nat → Nat → Int32} {J : Nat → Nat → Int64} {R : Nat → Nat → Nat} {t n i : Int32} (hG : aGd R) (b1 : i.toInt ≥ n.toInt) : xEv L xs d 88 102 [.ref 57, .ref 3, .int t, .int n, .int i] [] (124, I, J, R) none (124, I, J, R) := by
  refine ev_go 2 (pc1 := 105) (lv1 := [.ref 57, .ref 3, .int t, .int n, .int i]) (st1 := [.int n, .int i]) (h1 := (124, I, J, R)) rfl ?_
  refine ev_br (b1 := true) rfl rfl (xcd_ge (x := i) (y := n) (by first | exact b1 | omega)) ?_
  exact ev_ret rfl rfl
set_option maxRecDepth 20000 in
theorem ypm_y_3 {L : Nat} {xs : Nat → Int32} {d : Nat} {I : Nat → Nat → Int32} {J : Nat → Nat → Int64} {R : Nat → Nat → Nat} {I1 : Nat → Nat → Int32} {t n i x h : Int32} (hG : aGd R) (b1 : i.toInt < n.toInt) (c1 : xEv L xs d 39 0 [.ref 59, .int i] [] (124, I, J, R) (some (.int x)) (124, I, J, R)) (c2 : xEv L xs d 39 0 [.ref 60, .int i] [] (124, I, J, R) (some (.int h)) (124, I, J, R)) (c3 : xEv L xs d 89 0 [.ref 57, .int x, .int h, .int t, xmk, xmk, xmk, xmk, xmk, xmk, xmk, xmk, xmk, xmk] [] (124, I, J, R) none (124, I1, J, R)) {v : Option Value} {h' : xH} (hk : xEv L xs (d + 1) 88 102 [.ref 57, .ref 3, .int t, .int n, .int (i + 1)] [] (124, I1, J, R) v h') : xEv L xs (d + 1) 88 102 [.ref 57, .ref 3, .int t, .int n, .int i] [] (124, I, J, R) v h' := by
  refine ev_go 2 (pc1 := 105) (lv1 := [.ref 57, .ref 3, .int t, .int n, .int i]) (st1 := [.int n, .int i]) (h1 := (124, I, J, R)) rfl ?_
  refine ev_br (b1 := false) rfl rfl (xcd_nge (x := i) (y := n) (by first | exact b1 | omega)) ?_
  refine ev_go 2 (pc1 := 110) (lv1 := [.ref 57, .ref 3, .int t, .int n, .int i]) (st1 := [.ref 57, .ref 57]) (h1 := (124, I, J, R)) rfl ?_
  refine ev_gf (c := 57) (t := 59) (X := R 57 1) rfl rfl (fun _ => rfl) rfl (hG 57 1 59 rfl rfl) ?_
  refine ev_go 1 (pc1 := 115) (lv1 := [.ref 57, .ref 3, .int t, .int n, .int i]) (st1 := [.int i, .ref 59, .ref 57]) (h1 := (124, I, J, R)) rfl ?_
  refine ev_call (v1 := (some (.int x))) (h1 := (124, I, J, R)) rfl rfl c1 ?_
  refine ev_go 1 (pc1 := 119) (lv1 := [.ref 57, .ref 3, .int t, .int n, .int i]) (st1 := [.ref 57, .int x, .ref 57]) (h1 := (124, I, J, R)) rfl ?_
  refine ev_gf (c := 57) (t := 60) (X := R 57 2) rfl rfl (fun _ => rfl) rfl (hG 57 2 60 rfl rfl) ?_
  refine ev_go 1 (pc1 := 124) (lv1 := [.ref 57, .ref 3, .int t, .int n, .int i]) (st1 := [.int i, .ref 60, .int x, .ref 57]) (h1 := (124, I, J, R)) rfl ?_
  refine ev_call (v1 := (some (.int h))) (h1 := (124, I, J, R)) rfl rfl c2 ?_
  refine ev_go 1 (pc1 := 128) (lv1 := [.ref 57, .ref 3, .int t, .int n, .int i]) (st1 := [.int t, .int h, .int x, .ref 57]) (h1 := (124, I, J, R)) rfl ?_
  refine ev_call (v1 := none) (h1 := (124, I1, J, R)) rfl rfl c3 ?_
  refine ev_go 2 (pc1 := 102) (lv1 := [.ref 57, .ref 3, .int t, .int n, .int (i + 1)]) (st1 := []) (h1 := (124, I1, J, R)) rfl ?_
  exact hk
set_option maxRecDepth 20000 in
theorem yrw_s_3 {L : Nat} {xs : Nat → Int32} {d : Nat} {I : Nat → Nat → Int32} {J : Nat → Nat → Int64} {R : Nat → Nat → Nat} {n f : Int32} (hG : aGd R) (c1 : xEv L xs d 39 0 [.ref 12, .int n] [] (124, (uI I 57 7 1), J, R) (some (.int f)) (124, (uI I 57 7 1), J, R)) {v : Option Value} {h' : xH} (hk : xEv L xs (d + 1) 91 23 [.ref 57, .ref 3, .int n, .int (1 <<< (((4 * f) + n) &&& 31)), .int 0, xmk] [] (124, (uI I 57 7 1), J, R) v h') : xEv L xs (d + 1) 91 0 [.ref 57, .ref 3, .int n, xmk, xmk, xmk] [] (124, I, J, R) v h' := by
  refine ev_go 6 (pc1 := 8) (lv1 := [.ref 57, .ref 3, .int n, xmk, xmk, xmk]) (st1 := [.ref 3, .int 4, .int 1]) (h1 := (124, (uI I 57 7 1), J, R)) rfl ?_
  refine ev_gf (c := 3) (t := 12) (X := R 3 8) rfl rfl (fun _ => rfl) rfl (hG 3 8 12 rfl rfl) ?_
  refine ev_go 1 (pc1 := 12) (lv1 := [.ref 57, .ref 3, .int n, xmk, xmk, xmk]) (st1 := [.int n, .ref 12, .int 4, .int 1]) (h1 := (124, (uI I 57 7 1), J, R)) rfl ?_
  refine ev_call (v1 := (some (.int f))) (h1 := (124, (uI I 57 7 1), J, R)) rfl rfl c1 ?_
  refine ev_go 3 (pc1 := 18) (lv1 := [.ref 57, .ref 3, .int n, xmk, xmk, xmk]) (st1 := [.int ((4 * f) + n), .int 1]) (h1 := (124, (uI I 57 7 1), J, R)) rfl ?_
  refine ev_go 4 (pc1 := 23) (lv1 := [.ref 57, .ref 3, .int n, .int (1 <<< (((4 * f) + n) &&& 31)), .int 0, xmk]) (st1 := []) (h1 := (124, (uI I 57 7 1), J, R)) rfl ?_
  exact hk
set_option maxRecDepth 20000 in
theorem yrw_e_3 {L : Nat} {xs : Nat → Int32} {d : Nat} {I : Nat → Nat → Int32} {J : Nat → Nat → Int64} {R : Nat → Nat → Nat} {n w i : Int32} {w5 : Value} (hG : aGd R) (b1 : i.toInt ≥ (I 57 5).toInt) : xEv L xs d 91 23 [.ref 57, .ref 3, .int n, .int w, .int i, w5] [] (124, I, J, R) none (124, I, J, R) := by
  refine ev_go 3 (pc1 := 29) (lv1 := [.ref 57, .ref 3, .int n, .int w, .int i, w5]) (st1 := [.int (I 57 5), .int i]) (h1 := (124, I, J, R)) rfl ?_
  refine ev_br (b1 := true) rfl rfl (xcd_ge (x := i) (y := (I 57 5)) (by first | exact b1 | omega)) ?_
  exact ev_ret rfl rfl
set_option maxRecDepth 20000 in
theorem yrw_n_3 {L : Nat} {xs : Nat → Int32} {d : Nat} {I : Nat → Nat → Int32} {J : Nat → Nat → Int64} {R : Nat → Nat → Nat} {n w i h : Int32} {w5 : Value} (hG : aGd R) (b1 : i.toInt < (I 57 5).toInt) (c1 : xEv L xs d 39 0 [.ref 60, .int i] [] (124, I, J, R) (some (.int h)) (124, I, J, R)) (b2 : (h &&& w).toInt = 0) {v : Option Value} {h' : xH} (hk : xEv L xs (d + 1) 91 23 [.ref 57, .ref 3, .int n, .int w, .int (i + 1), w5] [] (124, I, J, R) v h') : xEv L xs (d + 1) 91 23 [.ref 57, .ref 3, .int n, .int w, .int i, w5] [] (124, I, J, R) v h' := by
  refine ev_go 3 (pc1 := 29) (lv1 := [.ref 57, .ref 3, .int n, .int w, .int i, w5]) (st1 := [.int (I 57 5), .int i]) (h1 := (124, I, J, R)) rfl ?_
  refine ev_br (b1 := false) rfl rfl (xcd_nge (x := i) (y := (I 57 5)) (by first | exact b1 | omega)) ?_
  refine ev_go 1 (pc1 := 33) (lv1 := [.ref 57, .ref 3, .int n, .int w, .int i, w5]) (st1 := [.ref 57]) (h1 := (124, I, J, R)) rfl ?_
  refine ev_gf (c := 57) (t := 60) (X := R 57 2) rfl rfl (fun _ => rfl) rfl (hG 57 2 60 rfl rfl) ?_
  refine ev_go 1 (pc1 := 38) (lv1 := [.ref 57, .ref 3, .int n, .int w, .int i, w5]) (st1 := [.int i, .ref 60]) (h1 := (124, I, J, R)) rfl ?_
  refine ev_call (v1 := (some (.int h))) (h1 := (124, I, J, R)) rfl rfl c1 ?_
  refine ev_go 2 (pc1 := 43) (lv1 := [.ref 57, .ref 3, .int n, .int w, .int i, w5]) (st1 := [.int (h &&& w)]) (h1 := (124, I, J, R)) rfl ?_
  refine ev_br (b1 := true) rfl rfl (xcd_eq (x := (h &&& w)) (y := 0) (by rw [show ((0 : Int32)).toInt = 0 from by decide]; first | exact b2 | omega)) ?_
  refine ev_go 2 (pc1 := 23) (lv1 := [.ref 57, .ref 3, .int n, .int w, .int (i + 1), w5]) (st1 := []) (h1 := (124, I, J, R)) rfl ?_
  exact hk
set_option maxRecDepth 20000 in
theorem yrw_y_3 {L : Nat} {xs : Nat → Int32} {d : Nat} {I : Nat → Nat → Int32} {J : Nat → Nat → Int64} {R : Nat → Nat → Nat} {I1 : Nat → Nat → Int32} {n w i h x o k : Int32} {w5 : Value} (hG : aGd R) (b1 : i.toInt < (I 57 5).toInt) (c1 : xEv L xs d 39 0 [.ref 60, .int i] [] (124, I, J, R) (some (.int h)) (124, I, J, R)) (b2 : (h &&& w).toInt ≠ 0) (c2 : xEv L xs d 39 0 [.ref 59, .int i] [] (124, I, J, R) (some (.int x)) (124, I, J, R)) (c3 : xEv L xs d 39 0 [.ref 58, .int x] [] (124, I, J, R) (some (.int o)) (124, I, J, R)) (c4 : xEv L xs d 39 0 [.ref 14, .int n] [] (124, I, J, R) (some (.int k)) (124, I, J, R)) (c5 : xEv L xs d 33 0 [.ref 58, .int x, .int (o + k)] [] (124, I, J, R) none (124, I1, J, R)) {v : Option Value} {h' : xH} (hk : xEv L xs (d + 1) 91 23 [.ref 57, .ref 3, .int n, .int w, .int (i + 1), .int x] [] (124, I1, J, R) v h') : xEv L xs (d + 1) 91 23 [.ref 57, .ref 3, .int n, .int w, .int i, w5] [] (124, I, J, R) v h' := by
  refine ev_go 3 (pc1 := 29) (lv1 := [.ref 57, .ref 3, .int n, .int w, .int i, w5]) (st1 := [.int (I 57 5), .int i]) (h1 := (124, I, J, R)) rfl ?_
  refine ev_br (b1 := false) rfl rfl (xcd_nge (x := i) (y := (I 57 5)) (by first | exact b1 | omega)) ?_
  refine ev_go 1 (pc1 := 33) (lv1 := [.ref 57, .ref 3, .int n, .int w, .int i, w5]) (st1 := [.ref 57]) (h1 := (124, I, J, R)) rfl ?_
  refine ev_gf (c := 57) (t := 60) (X := R 57 2) rfl rfl (fun _ => rfl) rfl (hG 57 2 60 rfl rfl) ?_
  refine ev_go 1 (pc1 := 38) (lv1 := [.ref 57, .ref 3, .int n, .int w, .int i, w5]) (st1 := [.int i, .ref 60]) (h1 := (124, I, J, R)) rfl ?_
  refine ev_call (v1 := (some (.int h))) (h1 := (124, I, J, R)) rfl rfl c1 ?_
  refine ev_go 2 (pc1 := 43) (lv1 := [.ref 57, .ref 3, .int n, .int w, .int i, w5]) (st1 := [.int (h &&& w)]) (h1 := (124, I, J, R)) rfl ?_
  refine ev_br (b1 := false) rfl rfl (xcd_neq (x := (h &&& w)) (y := 0) (by rw [show ((0 : Int32)).toInt = 0 from by decide]; first | exact b2 | omega)) ?_
  refine ev_go 1 (pc1 := 47) (lv1 := [.ref 57, .ref 3, .int n, .int w, .int i, w5]) (st1 := [.ref 57]) (h1 := (124, I, J, R)) rfl ?_
  refine ev_gf (c := 57) (t := 59) (X := R 57 1) rfl rfl (fun _ => rfl) rfl (hG 57 1 59 rfl rfl) ?_
  refine ev_go 1 (pc1 := 52) (lv1 := [.ref 57, .ref 3, .int n, .int w, .int i, w5]) (st1 := [.int i, .ref 59]) (h1 := (124, I, J, R)) rfl ?_
  refine ev_call (v1 := (some (.int x))) (h1 := (124, I, J, R)) rfl rfl c2 ?_
  refine ev_go 2 (pc1 := 58) (lv1 := [.ref 57, .ref 3, .int n, .int w, .int i, .int x]) (st1 := [.ref 57]) (h1 := (124, I, J, R)) rfl ?_
  refine ev_gf (c := 57) (t := 58) (X := R 57 0) rfl rfl (fun _ => rfl) rfl (hG 57 0 58 rfl rfl) ?_
  refine ev_go 2 (pc1 := 64) (lv1 := [.ref 57, .ref 3, .int n, .int w, .int i, .int x]) (st1 := [.ref 57, .int x, .ref 58]) (h1 := (124, I, J, R)) rfl ?_
  refine ev_gf (c := 57) (t := 58) (X := R 57 0) rfl rfl (fun _ => rfl) rfl (hG 57 0 58 rfl rfl) ?_
  refine ev_go 1 (pc1 := 69) (lv1 := [.ref 57, .ref 3, .int n, .int w, .int i, .int x]) (st1 := [.int x, .ref 58, .int x, .ref 58]) (h1 := (124, I, J, R)) rfl ?_
  refine ev_call (v1 := (some (.int o))) (h1 := (124, I, J, R)) rfl rfl c3 ?_
  refine ev_go 1 (pc1 := 73) (lv1 := [.ref 57, .ref 3, .int n, .int w, .int i, .int x]) (st1 := [.ref 3, .int o, .int x, .ref 58]) (h1 := (124, I, J, R)) rfl ?_
  refine ev_gf (c := 3) (t := 14) (X := R 3 10) rfl rfl (fun _ => rfl) rfl (hG 3 10 14 rfl rfl) ?_
  refine ev_go 1 (pc1 := 77) (lv1 := [.ref 57, .ref 3, .int n, .int w, .int i, .int x]) (st1 := [.int n, .ref 14, .int o, .int x, .ref 58]) (h1 := (124, I, J, R)) rfl ?_
  refine ev_call (v1 := (some (.int k))) (h1 := (124, I, J, R)) rfl rfl c4 ?_
  refine ev_go 1 (pc1 := 81) (lv1 := [.ref 57, .ref 3, .int n, .int w, .int i, .int x]) (st1 := [.int (o + k), .int x, .ref 58]) (h1 := (124, I, J, R)) rfl ?_
  refine ev_call (v1 := none) (h1 := (124, I1, J, R)) rfl rfl c5 ?_
  refine ev_go 2 (pc1 := 23) (lv1 := [.ref 57, .ref 3, .int n, .int w, .int (i + 1), .int x]) (st1 := []) (h1 := (124, I1, J, R)) rfl ?_
  exact hk
set_option maxRecDepth 20000 in
theorem yst_s_3 {L : Nat} {xs : Nat → Int32} {d : Nat} {I : Nat → Nat → Int32} {J : Nat → Nat → Int64} {R : Nat → Nat → Nat} {I1 : Nat → Nat → Int32} {I2 : Nat → Nat → Int32} {I3 : Nat → Nat → Int32} (hG : aGd R) (c1 : xEv L xs d 13 0 [.ref 58, .int (-1), xmk, xmk] [] (124, I, J, R) none (124, I1, J, R)) (c2 : xEv L xs d 13 0 [.ref 61, .int 64, xmk, xmk] [] (124, I1, J, R) none (124, I2, J, R)) (c3 : xEv L xs d 13 0 [.ref 62, .int 0, xmk, xmk] [] (124, I2, J, R) none (124, I3, J, R)) {v : Option Value} {h' : xH} (hk : xEv L xs (d + 1) 85 32 [.ref 57, .ref 3, .int 0, .int 0, .int 0, xmk, xmk] [] (124, I3, J, R) v h') : xEv L xs (d + 1) 85 0 [.ref 57, .ref 3, xmk, xmk, xmk, xmk, xmk] [] (124, I, J, R) v h' := by
  refine ev_go 1 (pc1 := 1) (lv1 := [.ref 57, .ref 3, xmk, xmk, xmk, xmk, xmk]) (st1 := [.ref 57]) (h1 := (124, I, J, R)) rfl ?_
  refine ev_gf (c := 57) (t := 58) (X := R 57 0) rfl rfl (fun _ => rfl) rfl (hG 57 0 58 rfl rfl) ?_
  refine ev_go 1 (pc1 := 5) (lv1 := [.ref 57, .ref 3, xmk, xmk, xmk, xmk, xmk]) (st1 := [.int (-1), .ref 58]) (h1 := (124, I, J, R)) rfl ?_
  refine ev_call (v1 := none) (h1 := (124, I1, J, R)) rfl rfl c1 ?_
  refine ev_go 1 (pc1 := 9) (lv1 := [.ref 57, .ref 3, xmk, xmk, xmk, xmk, xmk]) (st1 := [.ref 57]) (h1 := (124, I1, J, R)) rfl ?_
  refine ev_gf (c := 57) (t := 61) (X := R 57 3) rfl rfl (fun _ => rfl) rfl (hG 57 3 61 rfl rfl) ?_
  refine ev_go 1 (pc1 := 14) (lv1 := [.ref 57, .ref 3, xmk, xmk, xmk, xmk, xmk]) (st1 := [.int 64, .ref 61]) (h1 := (124, I1, J, R)) rfl ?_
  refine ev_call (v1 := none) (h1 := (124, I2, J, R)) rfl rfl c2 ?_
  refine ev_go 1 (pc1 := 18) (lv1 := [.ref 57, .ref 3, xmk, xmk, xmk, xmk, xmk]) (st1 := [.ref 57]) (h1 := (124, I2, J, R)) rfl ?_
  refine ev_gf (c := 57) (t := 62) (X := R 57 4) rfl rfl (fun _ => rfl) rfl (hG 57 4 62 rfl rfl) ?_
  refine ev_go 1 (pc1 := 22) (lv1 := [.ref 57, .ref 3, xmk, xmk, xmk, xmk, xmk]) (st1 := [.int 0, .ref 62]) (h1 := (124, I2, J, R)) rfl ?_
  refine ev_call (v1 := none) (h1 := (124, I3, J, R)) rfl rfl c3 ?_
  refine ev_go 6 (pc1 := 32) (lv1 := [.ref 57, .ref 3, .int 0, .int 0, .int 0, xmk, xmk]) (st1 := []) (h1 := (124, I3, J, R)) rfl ?_
  exact hk
set_option maxRecDepth 20000 in
theorem yst_e_3 {L : Nat} {xs : Nat → Int32} {d : Nat} {I : Nat → Nat → Int32} {J : Nat → Nat → Int64} {R : Nat → Nat → Nat} {I1 : Nat → Nat → Int32} {x h n : Int32} {w5 w6 : Value} (hG : aGd R) (b1 : n.toInt ≥ (I 3 16).toInt) (c1 : xEv L xs d 86 0 [.ref 57, .int x, .int h, .int 0, .int (-1), xmk, xmk, xmk] [] (124, (uI I 57 5 0), J, R) none (124, I1, J, R)) : xEv L xs (d + 1) 85 32 [.ref 57, .ref 3, .int x, .int h, .int n, w5, w6] [] (124, I, J, R) none (124, I1, J, R) := by
  refine ev_go 3 (pc1 := 38) (lv1 := [.ref 57, .ref 3, .int x, .int h, .int n, w5, w6]) (st1 := [.int (I 3 16), .int n]) (h1 := (124, I, J, R)) rfl ?_
  refine ev_br (b1 := true) rfl rfl (xcd_ge (x := n) (y := (I 3 16)) (by first | exact b1 | omega)) ?_
  refine ev_go 8 (pc1 := 150) (lv1 := [.ref 57, .ref 3, .int x, .int h, .int n, w5, w6]) (st1 := [.int (-1), .int 0, .int h, .int x, .ref 57]) (h1 := (124, (uI I 57 5 0), J, R)) rfl ?_
  refine ev_call (v1 := none) (h1 := (124, I1, J, R)) rfl rfl c1 ?_
  exact ev_ret rfl rfl
set_option maxRecDepth 20000 in
theorem yst_y_3 {L : Nat} {xs : Nat → Int32} {d : Nat} {I : Nat → Nat → Int32} {J : Nat → Nat → Int64} {R : Nat → Nat → Nat} {x h n f o : Int32} {w5 w6 : Value} (hG : aGd R) (b1 : n.toInt < (I 3 16).toInt) (c1 : xEv L xs d 39 0 [.ref 11, .int n] [] (124, I, J, R) (some (.int f)) (124, I, J, R)) (c2 : xEv L xs d 39 0 [.retAddr 1, .int (1 <<< (n &&& 31))] [] (124, I, J, R) (some (.int o)) (124, I, J, R)) {v : Option Value} {h' : xH} (hk : xEv L xs (d + 1) 85 83 [.ref 57, .ref 3, .int (x + (f * o)), .int (h ||| (1 <<< (((4 * f) + n) &&& 31))), .int n, .int f, .int 0] [] (124, I, J, R) v h') : xEv L xs (d + 1) 85 32 [.ref 57, .ref 3, .int x, .int h, .int n, w5, w6] [] (124, I, J, R) v h' := by
  refine ev_go 3 (pc1 := 38) (lv1 := [.ref 57, .ref 3, .int x, .int h, .int n, w5, w6]) (st1 := [.int (I 3 16), .int n]) (h1 := (124, I, J, R)) rfl ?_
  refine ev_br (b1 := false) rfl rfl (xcd_nge (x := n) (y := (I 3 16)) (by first | exact b1 | omega)) ?_
  refine ev_go 1 (pc1 := 42) (lv1 := [.ref 57, .ref 3, .int x, .int h, .int n, w5, w6]) (st1 := [.ref 3]) (h1 := (124, I, J, R)) rfl ?_
  refine ev_gf (c := 3) (t := 11) (X := R 3 7) rfl rfl (fun _ => rfl) rfl (hG 3 7 11 rfl rfl) ?_
  refine ev_go 1 (pc1 := 47) (lv1 := [.ref 57, .ref 3, .int x, .int h, .int n, w5, w6]) (st1 := [.int n, .ref 11]) (h1 := (124, I, J, R)) rfl ?_
  refine ev_call (v1 := (some (.int f))) (h1 := (124, I, J, R)) rfl rfl c1 ?_
  refine ev_go 6 (pc1 := 61) (lv1 := [.ref 57, .ref 3, .int x, .int h, .int n, .int f, w6]) (st1 := [.int n, .int 1, .retAddr 1, .int f, .int x]) (h1 := (124, I, J, R)) rfl ?_
  refine ev_go 1 (pc1 := 62) (lv1 := [.ref 57, .ref 3, .int x, .int h, .int n, .int f, w6]) (st1 := [.int (1 <<< (n &&& 31)), .retAddr 1, .int f, .int x]) (h1 := (124, I, J, R)) rfl ?_
  refine ev_call (v1 := (some (.int o))) (h1 := (124, I, J, R)) rfl rfl c2 ?_
  refine ev_go 10 (pc1 := 77) (lv1 := [.ref 57, .ref 3, .int (x + (f * o)), .int h, .int n, .int f, w6]) (st1 := [.int ((4 * f) + n), .int 1, .int h]) (h1 := (124, I, J, R)) rfl ?_
  refine ev_go 5 (pc1 := 83) (lv1 := [.ref 57, .ref 3, .int (x + (f * o)), .int (h ||| (1 <<< (((4 * f) + n) &&& 31))), .int n, .int f, .int 0]) (st1 := []) (h1 := (124, I, J, R)) rfl ?_
  exact hk
set_option maxRecDepth 20000 in
theorem yst_f_3 {L : Nat} {xs : Nat → Int32} {d : Nat} {I : Nat → Nat → Int32} {J : Nat → Nat → Int64} {R : Nat → Nat → Nat} {x h n f p : Int32} (hG : aGd R) (b1 : p.toInt ≥ (I 3 14).toInt) {v : Option Value} {h' : xH} (hk : xEv L xs d 85 32 [.ref 57, .ref 3, .int x, .int h, .int (n + 1), .int f, .int p] [] (124, I, J, R) v h') : xEv L xs d 85 83 [.ref 57, .ref 3, .int x, .int h, .int n, .int f, .int p] [] (124, I, J, R) v h' := by
  refine ev_go 3 (pc1 := 89) (lv1 := [.ref 57, .ref 3, .int x, .int h, .int n, .int f, .int p]) (st1 := [.int (I 3 14), .int p]) (h1 := (124, I, J, R)) rfl ?_
  refine ev_br (b1 := true) rfl rfl (xcd_ge (x := p) (y := (I 3 14)) (by first | exact b1 | omega)) ?_
  refine ev_go 2 (pc1 := 32) (lv1 := [.ref 57, .ref 3, .int x, .int h, .int (n + 1), .int f, .int p]) (st1 := []) (h1 := (124, I, J, R)) rfl ?_
  exact hk
set_option maxRecDepth 20000 in
theorem yst_z_3 {L : Nat} {xs : Nat → Int32} {d : Nat} {I : Nat → Nat → Int32} {J : Nat → Nat → Int64} {R : Nat → Nat → Nat} {I1 : Nat → Nat → Int32} {x h n f p o b : Int32} (hG : aGd R) (b1 : p.toInt < (I 3 14).toInt) (c1 : xEv L xs d 39 0 [.ref 62, .int p] [] (124, I, J, R) (some (.int o)) (124, I, J, R)) (c2 : xEv L xs d 39 0 [.ref 15, .int n] [] (124, I, J, R) (some (.int b)) (124, I, J, R)) (c3 : xEv L xs d 33 0 [.ref 62, .int p, .int (o ||| (((b >>> (p &&& 31)) &&& 1) <<< (n &&& 31)))] [] (124, I, J, R) none (124, I1, J, R)) {v : Option Value} {h' : xH} (hk : xEv L xs (d + 1) 85 83 [.ref 57, .ref 3, .int x, .int h, .int n, .int f, .int (p + 1)] [] (124, I1, J, R) v h') : xEv L xs (d + 1) 85 83 [.ref 57, .ref 3, .int x, .int h, .int n, .int f, .int p] [] (124, I, J, R) v h' := by
  refine ev_go 3 (pc1 := 89) (lv1 := [.ref 57, .ref 3, .int x, .int h, .int n, .int f, .int p]) (st1 := [.int (I 3 14), .int p]) (h1 := (124, I, J, R)) rfl ?_
  refine ev_br (b1 := false) rfl rfl (xcd_nge (x := p) (y := (I 3 14)) (by first | exact b1 | omega)) ?_
  refine ev_go 1 (pc1 := 93) (lv1 := [.ref 57, .ref 3, .int x, .int h, .int n, .int f, .int p]) (st1 := [.ref 57]) (h1 := (124, I, J, R)) rfl ?_
  refine ev_gf (c := 57) (t := 62) (X := R 57 4) rfl rfl (fun _ => rfl) rfl (hG 57 4 62 rfl rfl) ?_
  refine ev_go 2 (pc1 := 99) (lv1 := [.ref 57, .ref 3, .int x, .int h, .int n, .int f, .int p]) (st1 := [.ref 57, .int p, .ref 62]) (h1 := (124, I, J, R)) rfl ?_
  refine ev_gf (c := 57) (t := 62) (X := R 57 4) rfl rfl (fun _ => rfl) rfl (hG 57 4 62 rfl rfl) ?_
  refine ev_go 1 (pc1 := 104) (lv1 := [.ref 57, .ref 3, .int x, .int h, .int n, .int f, .int p]) (st1 := [.int p, .ref 62, .int p, .ref 62]) (h1 := (124, I, J, R)) rfl ?_
  refine ev_call (v1 := (some (.int o))) (h1 := (124, I, J, R)) rfl rfl c1 ?_
  refine ev_go 1 (pc1 := 108) (lv1 := [.ref 57, .ref 3, .int x, .int h, .int n, .int f, .int p]) (st1 := [.ref 3, .int o, .int p, .ref 62]) (h1 := (124, I, J, R)) rfl ?_
  refine ev_gf (c := 3) (t := 15) (X := R 3 11) rfl rfl (fun _ => rfl) rfl (hG 3 11 15 rfl rfl) ?_
  refine ev_go 1 (pc1 := 113) (lv1 := [.ref 57, .ref 3, .int x, .int h, .int n, .int f, .int p]) (st1 := [.int n, .ref 15, .int o, .int p, .ref 62]) (h1 := (124, I, J, R)) rfl ?_
  refine ev_call (v1 := (some (.int b))) (h1 := (124, I, J, R)) rfl rfl c2 ?_
  refine ev_go 1 (pc1 := 118) (lv1 := [.ref 57, .ref 3, .int x, .int h, .int n, .int f, .int p]) (st1 := [.int p, .int b, .int o, .int p, .ref 62]) (h1 := (124, I, J, R)) rfl ?_
  refine ev_go 4 (pc1 := 123) (lv1 := [.ref 57, .ref 3, .int x, .int h, .int n, .int f, .int p]) (st1 := [.int n, .int ((b >>> (p &&& 31)) &&& 1), .int o, .int p, .ref 62]) (h1 := (124, I, J, R)) rfl ?_
  refine ev_go 2 (pc1 := 125) (lv1 := [.ref 57, .ref 3, .int x, .int h, .int n, .int f, .int p]) (st1 := [.int (o ||| (((b >>> (p &&& 31)) &&& 1) <<< (n &&& 31))), .int p, .ref 62]) (h1 := (124, I, J, R)) rfl ?_
  refine ev_call (v1 := none) (h1 := (124, I1, J, R)) rfl rfl c3 ?_
  refine ev_go 2 (pc1 := 83) (lv1 := [.ref 57, .ref 3, .int x, .int h, .int n, .int f, .int (p + 1)]) (st1 := []) (h1 := (124, I1, J, R)) rfl ?_
  exact hk
set_option maxRecDepth 20000 in
theorem ywo_k_3 {L : Nat} {xs : Nat → Int32} {d : Nat} {I : Nat → Nat → Int32} {J : Nat → Nat → Int64} {R : Nat → Nat → Nat} (hG : aGd R) (b1 : (I 57 8).toInt ≠ 0) : xEv L xs d 84 0 [.ref 57, .ref 3, xmk, xmk, xmk] [] (124, I, J, R) none (124, I, J, R) := by
  refine ev_go 2 (pc1 := 4) (lv1 := [.ref 57, .ref 3, xmk, xmk, xmk]) (st1 := [.int (I 57 8)]) (h1 := (124, I, J, R)) rfl ?_
  refine ev_br (b1 := false) rfl rfl (xcd_neq (x := (I 57 8)) (y := 0) (by rw [show ((0 : Int32)).toInt = 0 from by decide]; first | exact b1 | omega)) ?_
  exact ev_ret rfl rfl
set_option maxRecDepth 20000 in
theorem ywo_s_3 {L : Nat} {xs : Nat → Int32} {d : Nat} {I : Nat → Nat → Int32} {J : Nat → Nat → Int64} {R : Nat → Nat → Nat} {I1 : Nat → Nat → Int32} (hG : aGd R) (b1 : (I 57 8).toInt = 0) (c1 : xEv L xs d 85 0 [.ref 57, .ref 3, xmk, xmk, xmk, xmk, xmk] [] (124, (uI I 57 8 1), J, R) none (124, I1, J, R)) {v : Option Value} {h' : xH} (hk : xEv L xs (d + 1) 84 22 [.ref 57, .ref 3, .int 0, .int 0, xmk] [] (124, I1, J, R) v h') : xEv L xs (d + 1) 84 0 [.ref 57, .ref 3, xmk, xmk, xmk] [] (124, I, J, R) v h' := by
  refine ev_go 2 (pc1 := 4) (lv1 := [.ref 57, .ref 3, xmk, xmk, xmk]) (st1 := [.int (I 57 8)]) (h1 := (124, I, J, R)) rfl ?_
  refine ev_br (b1 := true) rfl rfl (xcd_eq (x := (I 57 8)) (y := 0) (by rw [show ((0 : Int32)).toInt = 0 from by decide]; first | exact b1 | omega)) ?_
  refine ev_go 5 (pc1 := 15) (lv1 := [.ref 57, .ref 3, xmk, xmk, xmk]) (st1 := [.ref 3, .ref 57]) (h1 := (124, (uI I 57 8 1), J, R)) rfl ?_
  refine ev_call (v1 := none) (h1 := (124, I1, J, R)) rfl rfl c1 ?_
  refine ev_go 4 (pc1 := 22) (lv1 := [.ref 57, .ref 3, .int 0, .int 0, xmk]) (st1 := []) (h1 := (124, I1, J, R)) rfl ?_
  exact hk
set_option maxRecDepth 20000 in
theorem ywo_e_3 {L : Nat} {xs : Nat → Int32} {d : Nat} {I : Nat → Nat → Int32} {J : Nat → Nat → Int64} {R : Nat → Nat → Nat} {q t : Int32} {w4 : Value} (hG : aGd R) (b1 : t.toInt ≥ (I 17 5).toInt) {v : Option Value} {h' : xH} (hk : xEv L xs d 84 131 [.ref 57, .ref 3, .int q, .int 0, w4] [] (124, (uI I 57 6 0), J, R) v h') : xEv L xs d 84 22 [.ref 57, .ref 3, .int q, .int t, w4] [] (124, I, J, R) v h' := by
  refine ev_go 2 (pc1 := 24) (lv1 := [.ref 57, .ref 3, .int q, .int t, w4]) (st1 := [.ref 3, .int t]) (h1 := (124, I, J, R)) rfl ?_
  refine ev_gf (c := 3) (t := 17) (X := R 3 13) rfl rfl (fun _ => rfl) rfl (hG 3 13 17 rfl rfl) ?_
  refine ev_go 1 (pc1 := 30) (lv1 := [.ref 57, .ref 3, .int q, .int t, w4]) (st1 := [.int (I 17 5), .int t]) (h1 := (124, I, J, R)) rfl ?_
  refine ev_br (b1 := true) rfl rfl (xcd_ge (x := t) (y := (I 17 5)) (by first | exact b1 | omega)) ?_
  refine ev_go 5 (pc1 := 131) (lv1 := [.ref 57, .ref 3, .int q, .int 0, w4]) (st1 := []) (h1 := (124, (uI I 57 6 0), J, R)) rfl ?_
  exact hk
set_option maxRecDepth 20000 in
theorem ywo_q_3 {L : Nat} {xs : Nat → Int32} {d : Nat} {I : Nat → Nat → Int32} {J : Nat → Nat → Int64} {R : Nat → Nat → Nat} {q t : Int32} {w4 : Value} (hG : aGd R) (b1 : t.toInt < (I 17 5).toInt) (b2 : q.toInt ≥ (I 3 15).toInt) {v : Option Value} {h' : xH} (hk : xEv L xs d 84 66 [.ref 57, .ref 3, .int q, .int t, .int 0] [] (124, (uI I 57 7 0), J, R) v h') : xEv L xs d 84 22 [.ref 57, .ref 3, .int q, .int t, w4] [] (124, I, J, R) v h' := by
  refine ev_go 2 (pc1 := 24) (lv1 := [.ref 57, .ref 3, .int q, .int t, w4]) (st1 := [.ref 3, .int t]) (h1 := (124, I, J, R)) rfl ?_
  refine ev_gf (c := 3) (t := 17) (X := R 3 13) rfl rfl (fun _ => rfl) rfl (hG 3 13 17 rfl rfl) ?_
  refine ev_go 1 (pc1 := 30) (lv1 := [.ref 57, .ref 3, .int q, .int t, w4]) (st1 := [.int (I 17 5), .int t]) (h1 := (124, I, J, R)) rfl ?_
  refine ev_br (b1 := false) rfl rfl (xcd_nge (x := t) (y := (I 17 5)) (by first | exact b1 | omega)) ?_
  refine ev_go 6 (pc1 := 43) (lv1 := [.ref 57, .ref 3, .int q, .int t, w4]) (st1 := [.int (I 3 15), .int q]) (h1 := (124, (uI I 57 7 0), J, R)) rfl ?_
  refine ev_br (b1 := true) rfl rfl (xcd_ge (x := q) (y := (I 3 15)) (by first | exact b2 | omega)) ?_
  refine ev_go 2 (pc1 := 66) (lv1 := [.ref 57, .ref 3, .int q, .int t, .int 0]) (st1 := []) (h1 := (124, (uI I 57 7 0), J, R)) rfl ?_
  exact hk
set_option maxRecDepth 20000 in
theorem ywo_u_3 {L : Nat} {xs : Nat → Int32} {d : Nat} {I : Nat → Nat → Int32} {J : Nat → Nat → Int64} {R : Nat → Nat → Nat} {q t : Int32} {w4 : Value} (hG : aGd R) (b1 : t.toInt < (I 17 5).toInt) (b2 : q.toInt < (I 3 15).toInt) (c1 : xEv L xs d 67 0 [.ref 17, .int t] [] (124, (uI I 57 7 0), J, R) (some (.int 0)) (124, (uI I 57 7 0), J, R)) {v : Option Value} {h' : xH} (hk : xEv L xs (d + 1) 84 66 [.ref 57, .ref 3, .int q, .int t, .int 0] [] (124, (uI I 57 7 0), J, R) v h') : xEv L xs (d + 1) 84 22 [.ref 57, .ref 3, .int q, .int t, w4] [] (124, I, J, R) v h' := by
  refine ev_go 2 (pc1 := 24) (lv1 := [.ref 57, .ref 3, .int q, .int t, w4]) (st1 := [.ref 3, .int t]) (h1 := (124, I, J, R)) rfl ?_
  refine ev_gf (c := 3) (t := 17) (X := R 3 13) rfl rfl (fun _ => rfl) rfl (hG 3 13 17 rfl rfl) ?_
  refine ev_go 1 (pc1 := 30) (lv1 := [.ref 57, .ref 3, .int q, .int t, w4]) (st1 := [.int (I 17 5), .int t]) (h1 := (124, I, J, R)) rfl ?_
  refine ev_br (b1 := false) rfl rfl (xcd_nge (x := t) (y := (I 17 5)) (by first | exact b1 | omega)) ?_
  refine ev_go 6 (pc1 := 43) (lv1 := [.ref 57, .ref 3, .int q, .int t, w4]) (st1 := [.int (I 3 15), .int q]) (h1 := (124, (uI I 57 7 0), J, R)) rfl ?_
  refine ev_br (b1 := false) rfl rfl (xcd_nge (x := q) (y := (I 3 15)) (by first | exact b2 | omega)) ?_
  refine ev_go 1 (pc1 := 47) (lv1 := [.ref 57, .ref 3, .int q, .int t, w4]) (st1 := [.ref 3]) (h1 := (124, (uI I 57 7 0), J, R)) rfl ?_
  refine ev_gf (c := 3) (t := 17) (X := R 3 13) rfl rfl (fun _ => rfl) rfl (hG 3 13 17 rfl rfl) ?_
  refine ev_go 1 (pc1 := 51) (lv1 := [.ref 57, .ref 3, .int q, .int t, w4]) (st1 := [.int t, .ref 17]) (h1 := (124, (uI I 57 7 0), J, R)) rfl ?_
  refine ev_call (v1 := (some (.int 0))) (h1 := (124, (uI I 57 7 0), J, R)) rfl rfl c1 ?_
  refine ev_go 3 (pc1 := 66) (lv1 := [.ref 57, .ref 3, .int q, .int t, .int 0]) (st1 := []) (h1 := (124, (uI I 57 7 0), J, R)) rfl ?_
  exact hk
set_option maxRecDepth 20000 in
theorem ywo_p_3 {L : Nat} {xs : Nat → Int32} {d : Nat} {I : Nat → Nat → Int32} {J : Nat → Nat → Int64} {R : Nat → Nat → Nat} {I1 : Nat → Nat → Int32} {q t : Int32} {w4 : Value} (hG : aGd R) (b1 : t.toInt < (I 17 5).toInt) (b2 : q.toInt < (I 3 15).toInt) (c1 : xEv L xs d 67 0 [.ref 17, .int t] [] (124, (uI I 57 7 0), J, R) (some (.int 1)) (124, (uI I 57 7 0), J, R)) (c2 : xEv L xs d 88 0 [.ref 57, .ref 3, .int t, xmk, xmk] [] (124, (uI I 57 7 0), J, R) none (124, I1, J, R)) {v : Option Value} {h' : xH} (hk : xEv L xs (d + 1) 84 66 [.ref 57, .ref 3, .int q, .int t, .int 0] [] (124, I1, J, R) v h') : xEv L xs (d + 1) 84 22 [.ref 57, .ref 3, .int q, .int t, w4] [] (124, I, J, R) v h' := by
  refine ev_go 2 (pc1 := 24) (lv1 := [.ref 57, .ref 3, .int q, .int t, w4]) (st1 := [.ref 3, .int t]) (h1 := (124, I, J, R)) rfl ?_
  refine ev_gf (c := 3) (t := 17) (X := R 3 13) rfl rfl (fun _ => rfl) rfl (hG 3 13 17 rfl rfl) ?_
  refine ev_go 1 (pc1 := 30) (lv1 := [.ref 57, .ref 3, .int q, .int t, w4]) (st1 := [.int (I 17 5), .int t]) (h1 := (124, I, J, R)) rfl ?_
  refine ev_br (b1 := false) rfl rfl (xcd_nge (x := t) (y := (I 17 5)) (by first | exact b1 | omega)) ?_
  refine ev_go 6 (pc1 := 43) (lv1 := [.ref 57, .ref 3, .int q, .int t, w4]) (st1 := [.int (I 3 15), .int q]) (h1 := (124, (uI I 57 7 0), J, R)) rfl ?_
  refine ev_br (b1 := false) rfl rfl (xcd_nge (x := q) (y := (I 3 15)) (by first | exact b2 | omega)) ?_
  refine ev_go 1 (pc1 := 47) (lv1 := [.ref 57, .ref 3, .int q, .int t, w4]) (st1 := [.ref 3]) (h1 := (124, (uI I 57 7 0), J, R)) rfl ?_
  refine ev_gf (c := 3) (t := 17) (X := R 3 13) rfl rfl (fun _ => rfl) rfl (hG 3 13 17 rfl rfl) ?_
  refine ev_go 1 (pc1 := 51) (lv1 := [.ref 57, .ref 3, .int q, .int t, w4]) (st1 := [.int t, .ref 17]) (h1 := (124, (uI I 57 7 0), J, R)) rfl ?_
  refine ev_call (v1 := (some (.int 1))) (h1 := (124, (uI I 57 7 0), J, R)) rfl rfl c1 ?_
  refine ev_go 4 (pc1 := 60) (lv1 := [.ref 57, .ref 3, .int q, .int t, w4]) (st1 := [.int t, .ref 3, .ref 57]) (h1 := (124, (uI I 57 7 0), J, R)) rfl ?_
  refine ev_call (v1 := none) (h1 := (124, I1, J, R)) rfl rfl c2 ?_
  refine ev_go 2 (pc1 := 66) (lv1 := [.ref 57, .ref 3, .int q, .int t, .int 0]) (st1 := []) (h1 := (124, I1, J, R)) rfl ?_
  exact hk
set_option maxRecDepth 20000 in
theorem ywo_0_3 {L : Nat} {xs : Nat → Int32} {d : Nat} {I : Nat → Nat → Int32} {J : Nat → Nat → Int64} {R : Nat → Nat → Nat} {q t n : Int32} (hG : aGd R) (b1 : n.toInt ≥ (I 3 16).toInt) (b2 : (I 57 7).toInt = 0) {v : Option Value} {h' : xH} (hk : xEv L xs d 84 22 [.ref 57, .ref 3, .int (q + 1), .int (t + 1), .int n] [] (124, I, J, R) v h') : xEv L xs d 84 66 [.ref 57, .ref 3, .int q, .int t, .int n] [] (124, I, J, R) v h' := by
  refine ev_go 3 (pc1 := 72) (lv1 := [.ref 57, .ref 3, .int q, .int t, .int n]) (st1 := [.int (I 3 16), .int n]) (h1 := (124, I, J, R)) rfl ?_
  refine ev_br (b1 := true) rfl rfl (xcd_ge (x := n) (y := (I 3 16)) (by first | exact b1 | omega)) ?_
  refine ev_go 2 (pc1 := 107) (lv1 := [.ref 57, .ref 3, .int q, .int t, .int n]) (st1 := [.int (I 57 7)]) (h1 := (124, I, J, R)) rfl ?_
  refine ev_br (b1 := true) rfl rfl (xcd_eq (x := (I 57 7)) (y := 0) (by rw [show ((0 : Int32)).toInt = 0 from by decide]; first | exact b2 | omega)) ?_
  refine ev_go 6 (pc1 := 22) (lv1 := [.ref 57, .ref 3, .int (q + 1), .int (t + 1), .int n]) (st1 := []) (h1 := (124, I, J, R)) rfl ?_
  exact hk
set_option maxRecDepth 20000 in
theorem ywo_1_3 {L : Nat} {xs : Nat → Int32} {d : Nat} {I : Nat → Nat → Int32} {J : Nat → Nat → Int64} {R : Nat → Nat → Nat} {q t n : Int32} (hG : aGd R) (b1 : n.toInt ≥ (I 3 16).toInt) (b2 : (I 57 7).toInt ≠ 0) {v : Option Value} {h' : xH} (hk : xEv L xs d 84 22 [.ref 57, .ref 3, .int 0, .int (t + 1), .int n] [] (124, I, J, R) v h') : xEv L xs d 84 66 [.ref 57, .ref 3, .int q, .int t, .int n] [] (124, I, J, R) v h' := by
  refine ev_go 3 (pc1 := 72) (lv1 := [.ref 57, .ref 3, .int q, .int t, .int n]) (st1 := [.int (I 3 16), .int n]) (h1 := (124, I, J, R)) rfl ?_
  refine ev_br (b1 := true) rfl rfl (xcd_ge (x := n) (y := (I 3 16)) (by first | exact b1 | omega)) ?_
  refine ev_go 2 (pc1 := 107) (lv1 := [.ref 57, .ref 3, .int q, .int t, .int n]) (st1 := [.int (I 57 7)]) (h1 := (124, I, J, R)) rfl ?_
  refine ev_br (b1 := false) rfl rfl (xcd_neq (x := (I 57 7)) (y := 0) (by rw [show ((0 : Int32)).toInt = 0 from by decide]; first | exact b2 | omega)) ?_
  refine ev_go 5 (pc1 := 22) (lv1 := [.ref 57, .ref 3, .int 0, .int (t + 1), .int n]) (st1 := []) (h1 := (124, I, J, R)) rfl ?_
  exact hk
set_option maxRecDepth 20000 in
theorem ywo_m_3 {L : Nat} {xs : Nat → Int32} {d : Nat} {I : Nat → Nat → Int32} {J : Nat → Nat → Int64} {R : Nat → Nat → Nat} {q t n k : Int32} (hG : aGd R) (b1 : n.toInt < (I 3 16).toInt) (c1 : xEv L xs d 39 0 [.ref 16, .int n] [] (124, I, J, R) (some (.int k)) (124, I, J, R)) (b2 : k.toInt ≠ (t + 1).toInt) {v : Option Value} {h' : xH} (hk : xEv L xs (d + 1) 84 66 [.ref 57, .ref 3, .int q, .int t, .int (n + 1)] [] (124, I, J, R) v h') : xEv L xs (d + 1) 84 66 [.ref 57, .ref 3, .int q, .int t, .int n] [] (124, I, J, R) v h' := by
  refine ev_go 3 (pc1 := 72) (lv1 := [.ref 57, .ref 3, .int q, .int t, .int n]) (st1 := [.int (I 3 16), .int n]) (h1 := (124, I, J, R)) rfl ?_
  refine ev_br (b1 := false) rfl rfl (xcd_nge (x := n) (y := (I 3 16)) (by first | exact b1 | omega)) ?_
  refine ev_go 1 (pc1 := 76) (lv1 := [.ref 57, .ref 3, .int q, .int t, .int n]) (st1 := [.ref 3]) (h1 := (124, I, J, R)) rfl ?_
  refine ev_gf (c := 3) (t := 16) (X := R 3 12) rfl rfl (fun _ => rfl) rfl (hG 3 12 16 rfl rfl) ?_
  refine ev_go 1 (pc1 := 81) (lv1 := [.ref 57, .ref 3, .int q, .int t, .int n]) (st1 := [.int n, .ref 16]) (h1 := (124, I, J, R)) rfl ?_
  refine ev_call (v1 := (some (.int k))) (h1 := (124, I, J, R)) rfl rfl c1 ?_
  refine ev_go 3 (pc1 := 87) (lv1 := [.ref 57, .ref 3, .int q, .int t, .int n]) (st1 := [.int (t + 1), .int k]) (h1 := (124, I, J, R)) rfl ?_
  refine ev_br (b1 := true) rfl rfl (xcd_ne (x := k) (y := (t + 1)) (by first | exact b2 | omega)) ?_
  refine ev_go 2 (pc1 := 66) (lv1 := [.ref 57, .ref 3, .int q, .int t, .int (n + 1)]) (st1 := []) (h1 := (124, I, J, R)) rfl ?_
  exact hk
set_option maxRecDepth 20000 in
theorem ywo_r_3 {L : Nat} {xs : Nat → Int32} {d : Nat} {I : Nat → Nat → Int32} {J : Nat → Nat → Int64} {R : Nat → Nat → Nat} {I1 : Nat → Nat → Int32} {q t n k : Int32} (hG : aGd R) (b1 : n.toInt < (I 3 16).toInt) (c1 : xEv L xs d 39 0 [.ref 16, .int n] [] (124, I, J, R) (some (.int k)) (124, I, J, R)) (b2 : k.toInt = (t + 1).toInt) (c2 : xEv L xs d 91 0 [.ref 57, .ref 3, .int n, xmk, xmk, xmk] [] (124, I, J, R) none (124, I1, J, R)) {v : Option Value} {h' : xH} (hk : xEv L xs (d + 1) 84 66 [.ref 57, .ref 3, .int q, .int t, .int (n + 1)] [] (124, I1, J, R) v h') : xEv L xs (d + 1) 84 66 [.ref 57, .ref 3, .int q, .int t, .int n] [] (124, I, J, R) v h' := by
  refine ev_go 3 (pc1 := 72) (lv1 := [.ref 57, .ref 3, .int q, .int t, .int n]) (st1 := [.int (I 3 16), .int n]) (h1 := (124, I, J, R)) rfl ?_
  refine ev_br (b1 := false) rfl rfl (xcd_nge (x := n) (y := (I 3 16)) (by first | exact b1 | omega)) ?_
  refine ev_go 1 (pc1 := 76) (lv1 := [.ref 57, .ref 3, .int q, .int t, .int n]) (st1 := [.ref 3]) (h1 := (124, I, J, R)) rfl ?_
  refine ev_gf (c := 3) (t := 16) (X := R 3 12) rfl rfl (fun _ => rfl) rfl (hG 3 12 16 rfl rfl) ?_
  refine ev_go 1 (pc1 := 81) (lv1 := [.ref 57, .ref 3, .int q, .int t, .int n]) (st1 := [.int n, .ref 16]) (h1 := (124, I, J, R)) rfl ?_
  refine ev_call (v1 := (some (.int k))) (h1 := (124, I, J, R)) rfl rfl c1 ?_
  refine ev_go 3 (pc1 := 87) (lv1 := [.ref 57, .ref 3, .int q, .int t, .int n]) (st1 := [.int (t + 1), .int k]) (h1 := (124, I, J, R)) rfl ?_
  refine ev_br (b1 := false) rfl rfl (xcd_nne (x := k) (y := (t + 1)) (by first | exact b2 | omega)) ?_
  refine ev_go 3 (pc1 := 94) (lv1 := [.ref 57, .ref 3, .int q, .int t, .int n]) (st1 := [.int n, .ref 3, .ref 57]) (h1 := (124, I, J, R)) rfl ?_
  refine ev_call (v1 := none) (h1 := (124, I1, J, R)) rfl rfl c2 ?_
  refine ev_go 2 (pc1 := 66) (lv1 := [.ref 57, .ref 3, .int q, .int t, .int (n + 1)]) (st1 := []) (h1 := (124, I1, J, R)) rfl ?_
  exact hk
set_option maxRecDepth 20000 in
theorem ywo_g_3 {L : Nat} {xs : Nat → Int32} {d : Nat} {I : Nat → Nat → Int32} {J : Nat → Nat → Int64} {R : Nat → Nat → Nat} {q i : Int32} {w4 : Value} (hG : aGd R) (b1 : i.toInt ≥ (I 57 5).toInt) : xEv L xs d 84 131 [.ref 57, .ref 3, .int q, .int i, w4] [] (124, I, J, R) none (124, I, J, R) := by
  refine ev_go 3 (pc1 := 136) (lv1 := [.ref 57, .ref 3, .int q, .int i, w4]) (st1 := [.int (I 57 5), .int i]) (h1 := (124, I, J, R)) rfl ?_
  refine ev_br (b1 := true) rfl rfl (xcd_ge (x := i) (y := (I 57 5)) (by first | exact b1 | omega)) ?_
  exact ev_ret rfl rfl
set_option maxRecDepth 20000 in
theorem ywo_h_3 {L : Nat} {xs : Nat → Int32} {d : Nat} {I : Nat → Nat → Int32} {J : Nat → Nat → Int64} {R : Nat → Nat → Nat} {q i x o : Int32} {w4 : Value} (hG : aGd R) (b1 : i.toInt < (I 57 5).toInt) (c1 : xEv L xs d 39 0 [.ref 59, .int i] [] (124, I, J, R) (some (.int x)) (124, I, J, R)) (c2 : xEv L xs d 39 0 [.ref 58, .int x] [] (124, I, J, R) (some (.int o)) (124, I, J, R)) {v : Option Value} {h' : xH} (hk : xEv L xs (d + 1) 84 131 [.ref 57, .ref 3, .int q, .int (i + 1), w4] [] (124, (uI I 57 6 (if (I 57 6) < o then o else (I 57 6))), J, R) v h') : xEv L xs (d + 1) 84 131 [.ref 57, .ref 3, .int q, .int i, w4] [] (124, I, J, R) v h' := by
  refine ev_go 3 (pc1 := 136) (lv1 := [.ref 57, .ref 3, .int q, .int i, w4]) (st1 := [.int (I 57 5), .int i]) (h1 := (124, I, J, R)) rfl ?_
  refine ev_br (b1 := false) rfl rfl (xcd_nge (x := i) (y := (I 57 5)) (by first | exact b1 | omega)) ?_
  refine ev_go 4 (pc1 := 145) (lv1 := [.ref 57, .ref 3, .int q, .int i, w4]) (st1 := [.ref 57, .int (I 57 6), .ref 57]) (h1 := (124, I, J, R)) rfl ?_
  refine ev_gf (c := 57) (t := 58) (X := R 57 0) rfl rfl (fun _ => rfl) rfl (hG 57 0 58 rfl rfl) ?_
  refine ev_go 1 (pc1 := 149) (lv1 := [.ref 57, .ref 3, .int q, .int i, w4]) (st1 := [.ref 57, .ref 58, .int (I 57 6), .ref 57]) (h1 := (124, I, J, R)) rfl ?_
  refine ev_gf (c := 57) (t := 59) (X := R 57 1) rfl rfl (fun _ => rfl) rfl (hG 57 1 59 rfl rfl) ?_
  refine ev_go 1 (pc1 := 153) (lv1 := [.ref 57, .ref 3, .int q, .int i, w4]) (st1 := [.int i, .ref 59, .ref 58, .int (I 57 6), .ref 57]) (h1 := (124, I, J, R)) rfl ?_
  refine ev_call (v1 := (some (.int x))) (h1 := (124, I, J, R)) rfl rfl c1 ?_
  refine ev_call (v1 := (some (.int o))) (h1 := (124, I, J, R)) rfl rfl c2 ?_
  refine ev_go 4 (pc1 := 131) (lv1 := [.ref 57, .ref 3, .int q, .int (i + 1), w4]) (st1 := []) (h1 := (124, (uI I 57 6 (if (I 57 6) < o then o else (I 57 6))), J, R)) rfl ?_
  exact hk
set_option maxRecDepth 20000 in
theorem yto_0_3 {L : Nat} {xs : Nat → Int32} {d : Nat} {I : Nat → Nat → Int32} {J : Nat → Nat → Int64} {R : Nat → Nat → Nat} {u q : Int32} (hG : aGd R) (b1 : u.toInt < 1) : xEv L xs d 93 0 [.ref 0, .int u, .int q, xmk] [] (124, I, J, R) (some (.int (-2))) (124, I, J, R) := by
  refine ev_go 2 (pc1 := 2) (lv1 := [.ref 0, .int u, .int q, xmk]) (st1 := [.int 1, .int u]) (h1 := (124, I, J, R)) rfl ?_
  refine ev_br (b1 := true) rfl rfl (xcd_lt (x := u) (y := 1) (by rw [show ((1 : Int32)).toInt = 1 from by decide]; first | exact b1 | omega)) ?_
  refine ev_go 1 (pc1 := 31) (lv1 := [.ref 0, .int u, .int q, xmk]) (st1 := [.int (-2)]) (h1 := (124, I, J, R)) rfl ?_
  exact ev_ret rfl rfl
set_option maxRecDepth 20000 in
theorem yto_1_3 {L : Nat} {xs : Nat → Int32} {d : Nat} {I : Nat → Nat → Int32} {J : Nat → Nat → Int64} {R : Nat → Nat → Nat} {u q : Int32} (hG : aGd R) (b1 : u.toInt ≥ 1) (r_R_0_8 : R 0 8 = 4) (b2 : u.toInt ≥ (1 <<< ((I 3 16) &&& 31)).toInt) : xEv L xs d 93 0 [.ref 0, .int u, .int q, xmk] [] (124, I, J, R) (some (.int (-2))) (124, I, J, R) := by
  refine ev_go 2 (pc1 := 2) (lv1 := [.ref 0, .int u, .int q, xmk]) (st1 := [.int 1, .int u]) (h1 := (124, I, J, R)) rfl ?_
  refine ev_br (b1 := false) rfl rfl (xcd_nlt (x := u) (y := 1) (by rw [show ((1 : Int32)).toInt = 1 from by decide]; first | exact b1 | omega)) ?_
  refine ev_go 3 (pc1 := 8) (lv1 := [.ref 0, .int u, .int q, xmk]) (st1 := [.ref 0, .int 1, .int u]) (h1 := (124, I, J, R)) rfl ?_
  refine ev_gf (c := 0) (t := 3) (X := R 0 8) rfl rfl (fun _ => rfl) rfl r_R_0_8 ?_
  refine ev_go 1 (pc1 := 14) (lv1 := [.ref 0, .int u, .int q, xmk]) (st1 := [.int (I 3 16), .int 1, .int u]) (h1 := (124, I, J, R)) rfl ?_
  refine ev_go 1 (pc1 := 15) (lv1 := [.ref 0, .int u, .int q, xmk]) (st1 := [.int (1 <<< ((I 3 16) &&& 31)), .int u]) (h1 := (124, I, J, R)) rfl ?_
  refine ev_br (b1 := true) rfl rfl (xcd_ge (x := u) (y := (1 <<< ((I 3 16) &&& 31))) (by first | exact b2 | omega)) ?_
  refine ev_go 1 (pc1 := 31) (lv1 := [.ref 0, .int u, .int q, xmk]) (st1 := [.int (-2)]) (h1 := (124, I, J, R)) rfl ?_
  exact ev_ret rfl rfl
set_option maxRecDepth 20000 in
theorem yto_2_3 {L : Nat} {xs : Nat → Int32} {d : Nat} {I : Nat → Nat → Int32} {J : Nat → Nat → Int64} {R : Nat → Nat → Nat} {u q : Int32} (hG : aGd R) (b1 : u.toInt ≥ 1) (r_R_0_8 : R 0 8 = 4) (b2 : u.toInt < (1 <<< ((I 3 16) &&& 31)).toInt) (c1 : xEv L xs d 64 0 [.ref 3, .int q] [] (124, I, J, R) (some (.int 0)) (124, I, J, R)) : xEv L xs (d + 1) 93 0 [.ref 0, .int u, .int q, xmk] [] (124, I, J, R) (some (.int (-2))) (124, I, J, R) := by
  refine ev_go 2 (pc1 := 2) (lv1 := [.ref 0, .int u, .int q, xmk]) (st1 := [.int 1, .int u]) (h1 := (124, I, J, R)) rfl ?_
  refine ev_br (b1 := false) rfl rfl (xcd_nlt (x := u) (y := 1) (by rw [show ((1 : Int32)).toInt = 1 from by decide]; first | exact b1 | omega)) ?_
  refine ev_go 3 (pc1 := 8) (lv1 := [.ref 0, .int u, .int q, xmk]) (st1 := [.ref 0, .int 1, .int u]) (h1 := (124, I, J, R)) rfl ?_
  refine ev_gf (c := 0) (t := 3) (X := R 0 8) rfl rfl (fun _ => rfl) rfl r_R_0_8 ?_
  refine ev_go 1 (pc1 := 14) (lv1 := [.ref 0, .int u, .int q, xmk]) (st1 := [.int (I 3 16), .int 1, .int u]) (h1 := (124, I, J, R)) rfl ?_
  refine ev_go 1 (pc1 := 15) (lv1 := [.ref 0, .int u, .int q, xmk]) (st1 := [.int (1 <<< ((I 3 16) &&& 31)), .int u]) (h1 := (124, I, J, R)) rfl ?_
  refine ev_br (b1 := false) rfl rfl (xcd_nge (x := u) (y := (1 <<< ((I 3 16) &&& 31))) (by first | exact b2 | omega)) ?_
  refine ev_go 1 (pc1 := 19) (lv1 := [.ref 0, .int u, .int q, xmk]) (st1 := [.ref 0]) (h1 := (124, I, J, R)) rfl ?_
  refine ev_gf (c := 0) (t := 3) (X := R 0 8) rfl rfl (fun _ => rfl) rfl r_R_0_8 ?_
  refine ev_go 1 (pc1 := 23) (lv1 := [.ref 0, .int u, .int q, xmk]) (st1 := [.int q, .ref 3]) (h1 := (124, I, J, R)) rfl ?_
  refine ev_call (v1 := (some (.int 0))) (h1 := (124, I, J, R)) rfl rfl c1 ?_
  refine ev_go 2 (pc1 := 31) (lv1 := [.ref 0, .int u, .int q, xmk]) (st1 := [.int (-2)]) (h1 := (124, I, J, R)) rfl ?_
  exact ev_ret rfl rfl
set_option maxRecDepth 20000 in
theorem yto_s_3 {L : Nat} {xs : Nat → Int32} {d : Nat} {I : Nat → Nat → Int32} {J : Nat → Nat → Int64} {R : Nat → Nat → Nat} {I1 : Nat → Nat → Int32} {u q o : Int32} (hG : aGd R) (b1 : u.toInt ≥ 1) (r_R_0_8 : R 0 8 = 4) (b2 : u.toInt < (1 <<< ((I 3 16) &&& 31)).toInt) (c1 : xEv L xs d 64 0 [.ref 3, .int q] [] (124, I, J, R) (some (.int 1)) (124, I, J, R)) (c2 : xEv L xs d 84 0 [.ref 57, .ref 3, xmk, xmk, xmk] [] (124, I, J, R) none (124, I1, J, R)) (c3 : xEv L xs d 94 0 [.ref 57, .int u, .int q, xmk, xmk] [] (124, I1, J, R) (some (.int o)) (124, I1, J, R)) (b3 : o.toInt = -1) : xEv L xs (d + 1) 93 0 [.ref 0, .int u, .int q, xmk] [] (124, I, J, R) (some (.int (-4))) (124, I1, J, R) := by
  refine ev_go 2 (pc1 := 2) (lv1 := [.ref 0, .int u, .int q, xmk]) (st1 := [.int 1, .int u]) (h1 := (124, I, J, R)) rfl ?_
  refine ev_br (b1 := false) rfl rfl (xcd_nlt (x := u) (y := 1) (by rw [show ((1 : Int32)).toInt = 1 from by decide]; first | exact b1 | omega)) ?_
  refine ev_go 3 (pc1 := 8) (lv1 := [.ref 0, .int u, .int q, xmk]) (st1 := [.ref 0, .int 1, .int u]) (h1 := (124, I, J, R)) rfl ?_
  refine ev_gf (c := 0) (t := 3) (X := R 0 8) rfl rfl (fun _ => rfl) rfl r_R_0_8 ?_
  refine ev_go 1 (pc1 := 14) (lv1 := [.ref 0, .int u, .int q, xmk]) (st1 := [.int (I 3 16), .int 1, .int u]) (h1 := (124, I, J, R)) rfl ?_
  refine ev_go 1 (pc1 := 15) (lv1 := [.ref 0, .int u, .int q, xmk]) (st1 := [.int (1 <<< ((I 3 16) &&& 31)), .int u]) (h1 := (124, I, J, R)) rfl ?_
  refine ev_br (b1 := false) rfl rfl (xcd_nge (x := u) (y := (1 <<< ((I 3 16) &&& 31))) (by first | exact b2 | omega)) ?_
  refine ev_go 1 (pc1 := 19) (lv1 := [.ref 0, .int u, .int q, xmk]) (st1 := [.ref 0]) (h1 := (124, I, J, R)) rfl ?_
  refine ev_gf (c := 0) (t := 3) (X := R 0 8) rfl rfl (fun _ => rfl) rfl r_R_0_8 ?_
  refine ev_go 1 (pc1 := 23) (lv1 := [.ref 0, .int u, .int q, xmk]) (st1 := [.int q, .ref 3]) (h1 := (124, I, J, R)) rfl ?_
  refine ev_call (v1 := (some (.int 1))) (h1 := (124, I, J, R)) rfl rfl c1 ?_
  refine ev_go 2 (pc1 := 33) (lv1 := [.ref 0, .int u, .int q, xmk]) (st1 := [.ref 0]) (h1 := (124, I, J, R)) rfl ?_
  refine ev_gf (c := 0) (t := 57) (X := R 0 6) rfl rfl (fun _ => rfl) rfl (hG 0 6 57 rfl rfl) ?_
  refine ev_go 1 (pc1 := 37) (lv1 := [.ref 0, .int u, .int q, xmk]) (st1 := [.ref 0, .ref 57]) (h1 := (124, I, J, R)) rfl ?_
  refine ev_gf (c := 0) (t := 3) (X := R 0 8) rfl rfl (fun _ => rfl) rfl r_R_0_8 ?_
  refine ev_call (v1 := none) (h1 := (124, I1, J, R)) rfl rfl c2 ?_
  refine ev_go 1 (pc1 := 44) (lv1 := [.ref 0, .int u, .int q, xmk]) (st1 := [.ref 0]) (h1 := (124, I1, J, R)) rfl ?_
  refine ev_gf (c := 0) (t := 57) (X := R 0 6) rfl rfl (fun _ => rfl) rfl (hG 0 6 57 rfl rfl) ?_
  refine ev_go 2 (pc1 := 49) (lv1 := [.ref 0, .int u, .int q, xmk]) (st1 := [.int q, .int u, .ref 57]) (h1 := (124, I1, J, R)) rfl ?_
  refine ev_call (v1 := (some (.int o))) (h1 := (124, I1, J, R)) rfl rfl c3 ?_
  refine ev_go 3 (pc1 := 55) (lv1 := [.ref 0, .int u, .int q, .int o]) (st1 := [.int (-1), .int o]) (h1 := (124, I1, J, R)) rfl ?_
  refine ev_br (b1 := false) rfl rfl (xcd_nne (x := o) (y := (-1)) (by rw [show ((-1 : Int32)).toInt = -1 from by decide]; first | exact b3 | omega)) ?_
  refine ev_go 1 (pc1 := 60) (lv1 := [.ref 0, .int u, .int q, .int o]) (st1 := [.int (-4)]) (h1 := (124, I1, J, R)) rfl ?_
  exact ev_ret rfl rfl
set_option maxRecDepth 20000 in
theorem yto_n_3 {L : Nat} {xs : Nat → Int32} {d : Nat} {I : Nat → Nat → Int32} {J : Nat → Nat → Int64} {R : Nat → Nat → Nat} {I1 : Nat → Nat → Int32} {u q o : Int32} (hG : aGd R) (b1 : u.toInt ≥ 1) (r_R_0_8 : R 0 8 = 4) (b2 : u.toInt < (1 <<< ((I 3 16) &&& 31)).toInt) (c1 : xEv L xs d 64 0 [.ref 3, .int q] [] (124, I, J, R) (some (.int 1)) (124, I, J, R)) (c2 : xEv L xs d 84 0 [.ref 57, .ref 3, xmk, xmk, xmk] [] (124, I, J, R) none (124, I1, J, R)) (c3 : xEv L xs d 94 0 [.ref 57, .int u, .int q, xmk, xmk] [] (124, I1, J, R) (some (.int o)) (124, I1, J, R)) (b3 : o.toInt ≠ -1) (b4 : o.toInt = 64) : xEv L xs (d + 1) 93 0 [.ref 0, .int u, .int q, xmk] [] (124, I, J, R) (some (.int (-1))) (124, I1, J, R) := by
  refine ev_go 2 (pc1 := 2) (lv1 := [.ref 0, .int u, .int q, xmk]) (st1 := [.int 1, .int u]) (h1 := (124, I, J, R)) rfl ?_
  refine ev_br (b1 := false) rfl rfl (xcd_nlt (x := u) (y := 1) (by rw [show ((1 : Int32)).toInt = 1 from by decide]; first | exact b1 | omega)) ?_
  refine ev_go 3 (pc1 := 8) (lv1 := [.ref 0, .int u, .int q, xmk]) (st1 := [.ref 0, .int 1, .int u]) (h1 := (124, I, J, R)) rfl ?_
  refine ev_gf (c := 0) (t := 3) (X := R 0 8) rfl rfl (fun _ => rfl) rfl r_R_0_8 ?_
  refine ev_go 1 (pc1 := 14) (lv1 := [.ref 0, .int u, .int q, xmk]) (st1 := [.int (I 3 16), .int 1, .int u]) (h1 := (124, I, J, R)) rfl ?_
  refine ev_go 1 (pc1 := 15) (lv1 := [.ref 0, .int u, .int q, xmk]) (st1 := [.int (1 <<< ((I 3 16) &&& 31)), .int u]) (h1 := (124, I, J, R)) rfl ?_
  refine ev_br (b1 := false) rfl rfl (xcd_nge (x := u) (y := (1 <<< ((I 3 16) &&& 31))) (by first | exact b2 | omega)) ?_
  refine ev_go 1 (pc1 := 19) (lv1 := [.ref 0, .int u, .int q, xmk]) (st1 := [.ref 0]) (h1 := (124, I, J, R)) rfl ?_
  refine ev_gf (c := 0) (t := 3) (X := R 0 8) rfl rfl (fun _ => rfl) rfl r_R_0_8 ?_
  refine ev_go 1 (pc1 := 23) (lv1 := [.ref 0, .int u, .int q, xmk]) (st1 := [.int q, .ref 3]) (h1 := (124, I, J, R)) rfl ?_
  refine ev_call (v1 := (some (.int 1))) (h1 := (124, I, J, R)) rfl rfl c1 ?_
  refine ev_go 2 (pc1 := 33) (lv1 := [.ref 0, .int u, .int q, xmk]) (st1 := [.ref 0]) (h1 := (124, I, J, R)) rfl ?_
  refine ev_gf (c := 0) (t := 57) (X := R 0 6) rfl rfl (fun _ => rfl) rfl (hG 0 6 57 rfl rfl) ?_
  refine ev_go 1 (pc1 := 37) (lv1 := [.ref 0, .int u, .int q, xmk]) (st1 := [.ref 0, .ref 57]) (h1 := (124, I, J, R)) rfl ?_
  refine ev_gf (c := 0) (t := 3) (X := R 0 8) rfl rfl (fun _ => rfl) rfl r_R_0_8 ?_
  refine ev_call (v1 := none) (h1 := (124, I1, J, R)) rfl rfl c2 ?_
  refine ev_go 1 (pc1 := 44) (lv1 := [.ref 0, .int u, .int q, xmk]) (st1 := [.ref 0]) (h1 := (124, I1, J, R)) rfl ?_
  refine ev_gf (c := 0) (t := 57) (X := R 0 6) rfl rfl (fun _ => rfl) rfl (hG 0 6 57 rfl rfl) ?_
  refine ev_go 2 (pc1 := 49) (lv1 := [.ref 0, .int u, .int q, xmk]) (st1 := [.int q, .int u, .ref 57]) (h1 := (124, I1, J, R)) rfl ?_
  refine ev_call (v1 := (some (.int o))) (h1 := (124, I1, J, R)) rfl rfl c3 ?_
  refine ev_go 3 (pc1 := 55) (lv1 := [.ref 0, .int u, .int q, .int o]) (st1 := [.int (-1), .int o]) (h1 := (124, I1, J, R)) rfl ?_
  refine ev_br (b1 := true) rfl rfl (xcd_ne (x := o) (y := (-1)) (by rw [show ((-1 : Int32)).toInt = -1 from by decide]; first | exact b3 | omega)) ?_
  refine ev_go 2 (pc1 := 64) (lv1 := [.ref 0, .int u, .int q, .int o]) (st1 := [.int 64, .int o]) (h1 := (124, I1, J, R)) rfl ?_
  refine ev_br (b1 := false) rfl rfl (xcd_nne (x := o) (y := 64) (by rw [show ((64 : Int32)).toInt = 64 from by decide]; first | exact b4 | omega)) ?_
  refine ev_go 2 (pc1 := 72) (lv1 := [.ref 0, .int u, .int q, .int o]) (st1 := [.int (-1)]) (h1 := (124, I1, J, R)) rfl ?_
  exact ev_ret rfl rfl
set_option maxRecDepth 20000 in
theorem yto_y_3 {L : Nat} {xs : Nat → Int32} {d : Nat} {I : Nat → Nat → Int32} {J : Nat → Nat → Int64} {R : Nat → Nat → Nat} {I1 : Nat → Nat → Int32} {u q o : Int32} (hG : aGd R) (b1 : u.toInt ≥ 1) (r_R_0_8 : R 0 8 = 4) (b2 : u.toInt < (1 <<< ((I 3 16) &&& 31)).toInt) (c1 : xEv L xs d 64 0 [.ref 3, .int q] [] (124, I, J, R) (some (.int 1)) (124, I, J, R)) (c2 : xEv L xs d 84 0 [.ref 57, .ref 3, xmk, xmk, xmk] [] (124, I, J, R) none (124, I1, J, R)) (c3 : xEv L xs d 94 0 [.ref 57, .int u, .int q, xmk, xmk] [] (124, I1, J, R) (some (.int o)) (124, I1, J, R)) (b3 : o.toInt ≠ -1) (b4 : o.toInt ≠ 64) : xEv L xs (d + 1) 93 0 [.ref 0, .int u, .int q, xmk] [] (124, I, J, R) (some (.int o)) (124, I1, J, R) := by
  refine ev_go 2 (pc1 := 2) (lv1 := [.ref 0, .int u, .int q, xmk]) (st1 := [.int 1, .int u]) (h1 := (124, I, J, R)) rfl ?_
  refine ev_br (b1 := false) rfl rfl (xcd_nlt (x := u) (y := 1) (by rw [show ((1 : Int32)).toInt = 1 from by decide]; first | exact b1 | omega)) ?_
  refine ev_go 3 (pc1 := 8) (lv1 := [.ref 0, .int u, .int q, xmk]) (st1 := [.ref 0, .int 1, .int u]) (h1 := (124, I, J, R)) rfl ?_
  refine ev_gf (c := 0) (t := 3) (X := R 0 8) rfl rfl (fun _ => rfl) rfl r_R_0_8 ?_
  refine ev_go 1 (pc1 := 14) (lv1 := [.ref 0, .int u, .int q, xmk]) (st1 := [.int (I 3 16), .int 1, .int u]) (h1 := (124, I, J, R)) rfl ?_
  refine ev_go 1 (pc1 := 15) (lv1 := [.ref 0, .int u, .int q, xmk]) (st1 := [.int (1 <<< ((I 3 16) &&& 31)), .int u]) (h1 := (124, I, J, R)) rfl ?_
  refine ev_br (b1 := false) rfl rfl (xcd_nge (x := u) (y := (1 <<< ((I 3 16) &&& 31))) (by first | exact b2 | omega)) ?_
  refine ev_go 1 (pc1 := 19) (lv1 := [.ref 0, .int u, .int q, xmk]) (st1 := [.ref 0]) (h1 := (124, I, J, R)) rfl ?_
  refine ev_gf (c := 0) (t := 3) (X := R 0 8) rfl rfl (fun _ => rfl) rfl r_R_0_8 ?_
  refine ev_go 1 (pc1 := 23) (lv1 := [.ref 0, .int u, .int q, xmk]) (st1 := [.int q, .ref 3]) (h1 := (124, I, J, R)) rfl ?_
  refine ev_call (v1 := (some (.int 1))) (h1 := (124, I, J, R)) rfl rfl c1 ?_
  refine ev_go 2 (pc1 := 33) (lv1 := [.ref 0, .int u, .int q, xmk]) (st1 := [.ref 0]) (h1 := (124, I, J, R)) rfl ?_
  refine ev_gf (c := 0) (t := 57) (X := R 0 6) rfl rfl (fun _ => rfl) rfl (hG 0 6 57 rfl rfl) ?_
  refine ev_go 1 (pc1 := 37) (lv1 := [.ref 0, .int u, .int q, xmk]) (st1 := [.ref 0, .ref 57]) (h1 := (124, I, J, R)) rfl ?_
  refine ev_gf (c := 0) (t := 3) (X := R 0 8) rfl rfl (fun _ => rfl) rfl r_R_0_8 ?_
  refine ev_call (v1 := none) (h1 := (124, I1, J, R)) rfl rfl c2 ?_
  refine ev_go 1 (pc1 := 44) (lv1 := [.ref 0, .int u, .int q, xmk]) (st1 := [.ref 0]) (h1 := (124, I1, J, R)) rfl ?_
  refine ev_gf (c := 0) (t := 57) (X := R 0 6) rfl rfl (fun _ => rfl) rfl (hG 0 6 57 rfl rfl) ?_
  refine ev_go 2 (pc1 := 49) (lv1 := [.ref 0, .int u, .int q, xmk]) (st1 := [.int q, .int u, .ref 57]) (h1 := (124, I1, J, R)) rfl ?_
  refine ev_call (v1 := (some (.int o))) (h1 := (124, I1, J, R)) rfl rfl c3 ?_
  refine ev_go 3 (pc1 := 55) (lv1 := [.ref 0, .int u, .int q, .int o]) (st1 := [.int (-1), .int o]) (h1 := (124, I1, J, R)) rfl ?_
  refine ev_br (b1 := true) rfl rfl (xcd_ne (x := o) (y := (-1)) (by rw [show ((-1 : Int32)).toInt = -1 from by decide]; first | exact b3 | omega)) ?_
  refine ev_go 2 (pc1 := 64) (lv1 := [.ref 0, .int u, .int q, .int o]) (st1 := [.int 64, .int o]) (h1 := (124, I1, J, R)) rfl ?_
  refine ev_br (b1 := true) rfl rfl (xcd_ne (x := o) (y := 64) (by rw [show ((64 : Int32)).toInt = 64 from by decide]; first | exact b4 | omega)) ?_
  refine ev_go 1 (pc1 := 72) (lv1 := [.ref 0, .int u, .int q, .int o]) (st1 := [.int o]) (h1 := (124, I1, J, R)) rfl ?_
  exact ev_ret rfl rfl
set_option maxRecDepth 20000 in
theorem ywa_s_3 {L : Nat} {xs : Nat → Int32} {d : Nat} {I : Nat → Nat → Int32} {J : Nat → Nat → Int64} {R : Nat → Nat → Nat} (hG : aGd R)  {v : Option Value} {h' : xH} (hk : xEv L xs d 92 4 [.ref 0, .int 0, .int 0, xmk] [] (124, I, J, R) v h') : xEv L xs d 92 0 [.ref 0, xmk, xmk, xmk] [] (124, I, J, R) v h' := by
  refine ev_go 4 (pc1 := 4) (lv1 := [.ref 0, .int 0, .int 0, xmk]) (st1 := []) (h1 := (124, I, J, R)) rfl ?_
  exact hk
set_option maxRecDepth 20000 in
theorem ywa_e_3 {L : Nat} {xs : Nat → Int32} {d : Nat} {I : Nat → Nat → Int32} {J : Nat → Nat → Int64} {R : Nat → Nat → Nat} {s n : Int32} {w3 : Value} (hG : aGd R) (r_R_0_8 : R 0 8 = 4) (b1 : n.toInt ≥ (I 3 16).toInt) : xEv L xs d 92 4 [.ref 0, .int s, .int n, w3] [] (124, I, J, R) (some (.int s)) (124, I, J, R) := by
  refine ev_go 2 (pc1 := 6) (lv1 := [.ref 0, .int s, .int n, w3]) (st1 := [.ref 0, .int n]) (h1 := (124, I, J, R)) rfl ?_
  refine ev_gf (c := 0) (t := 3) (X := R 0 8) rfl rfl (fun _ => rfl) rfl r_R_0_8 ?_
  refine ev_go 1 (pc1 := 12) (lv1 := [.ref 0, .int s, .int n, w3]) (st1 := [.int (I 3 16), .int n]) (h1 := (124, I, J, R)) rfl ?_
  refine ev_br (b1 := true) rfl rfl (xcd_ge (x := n) (y := (I 3 16)) (by first | exact b1 | omega)) ?_
  refine ev_go 1 (pc1 := 101) (lv1 := [.ref 0, .int s, .int n, w3]) (st1 := [.int s]) (h1 := (124, I, J, R)) rfl ?_
  exact ev_ret rfl rfl
set_option maxRecDepth 20000 in
theorem ywa_0_3 {L : Nat} {xs : Nat → Int32} {d : Nat} {I : Nat → Nat → Int32} {J : Nat → Nat → Int64} {R : Nat → Nat → Nat} {s n b f g o : Int32} {w3 : Value} (hG : aGd R) (r_R_0_8 : R 0 8 = 4) (b1 : n.toInt < (I 3 16).toInt) (c1 : xEv L xs d 39 0 [.ref 15, .int n] [] (124, I, J, R) (some (.int b)) (124, I, J, R)) (c2 : xEv L xs d 39 0 [.ref 11, .int n] [] (124, I, J, R) (some (.int f)) (124, I, J, R)) (c3 : xEv L xs d 39 0 [.ref 12, .int n] [] (124, I, J, R) (some (.int g)) (124, I, J, R)) (c4 : xEv L xs d 66 0 [.ref 17, .int b, .int f, .int g, .int 0, xmk, xmk, xmk] [] (124, I, J, R) (some (.int o)) (124, I, J, R)) (b2 : o.toInt = -1) {v : Option Value} {h' : xH} (hk : xEv L xs (d + 1) 92 4 [.ref 0, .int s, .int (n + 1), .int o] [] (124, I, J, R) v h') : xEv L xs (d + 1) 92 4 [.ref 0, .int s, .int n, w3] [] (124, I, J, R) v h' := by
  refine ev_go 2 (pc1 := 6) (lv1 := [.ref 0, .int s, .int n, w3]) (st1 := [.ref 0, .int n]) (h1 := (124, I, J, R)) rfl ?_
  refine ev_gf (c := 0) (t := 3) (X := R 0 8) rfl rfl (fun _ => rfl) rfl r_R_0_8 ?_
  refine ev_go 1 (pc1 := 12) (lv1 := [.ref 0, .int s, .int n, w3]) (st1 := [.int (I 3 16), .int n]) (h1 := (124, I, J, R)) rfl ?_
  refine ev_br (b1 := false) rfl rfl (xcd_nge (x := n) (y := (I 3 16)) (by first | exact b1 | omega)) ?_
  refine ev_go 1 (pc1 := 16) (lv1 := [.ref 0, .int s, .int n, w3]) (st1 := [.ref 0]) (h1 := (124, I, J, R)) rfl ?_
  refine ev_gf (c := 0) (t := 3) (X := R 0 8) rfl rfl (fun _ => rfl) rfl r_R_0_8 ?_
  refine ev_gf (c := 3) (t := 17) (X := R 3 13) rfl rfl (fun _ => rfl) rfl (hG 3 13 17 rfl rfl) ?_
  refine ev_go 1 (pc1 := 23) (lv1 := [.ref 0, .int s, .int n, w3]) (st1 := [.ref 0, .ref 17]) (h1 := (124, I, J, R)) rfl ?_
  refine ev_gf (c := 0) (t := 3) (X := R 0 8) rfl rfl (fun _ => rfl) rfl r_R_0_8 ?_
  refine ev_gf (c := 3) (t := 15) (X := R 3 11) rfl rfl (fun _ => rfl) rfl (hG 3 11 15 rfl rfl) ?_
  refine ev_go 1 (pc1 := 30) (lv1 := [.ref 0, .int s, .int n, w3]) (st1 := [.int n, .ref 15, .ref 17]) (h1 := (124, I, J, R)) rfl ?_
  refine ev_call (v1 := (some (.int b))) (h1 := (124, I, J, R)) rfl rfl c1 ?_
  refine ev_go 1 (pc1 := 34) (lv1 := [.ref 0, .int s, .int n, w3]) (st1 := [.ref 0, .int b, .ref 17]) (h1 := (124, I, J, R)) rfl ?_
  refine ev_gf (c := 0) (t := 3) (X := R 0 8) rfl rfl (fun _ => rfl) rfl r_R_0_8 ?_
  refine ev_gf (c := 3) (t := 11) (X := R 3 7) rfl rfl (fun _ => rfl) rfl (hG 3 7 11 rfl rfl) ?_
  refine ev_go 1 (pc1 := 41) (lv1 := [.ref 0, .int s, .int n, w3]) (st1 := [.int n, .ref 11, .int b, .ref 17]) (h1 := (124, I, J, R)) rfl ?_
  refine ev_call (v1 := (some (.int f))) (h1 := (124, I, J, R)) rfl rfl c2 ?_
  refine ev_go 1 (pc1 := 45) (lv1 := [.ref 0, .int s, .int n, w3]) (st1 := [.ref 0, .int f, .int b, .ref 17]) (h1 := (124, I, J, R)) rfl ?_
  refine ev_gf (c := 0) (t := 3) (X := R 0 8) rfl rfl (fun _ => rfl) rfl r_R_0_8 ?_
  refine ev_gf (c := 3) (t := 12) (X := R 3 8) rfl rfl (fun _ => rfl) rfl (hG 3 8 12 rfl rfl) ?_
  refine ev_go 1 (pc1 := 52) (lv1 := [.ref 0, .int s, .int n, w3]) (st1 := [.int n, .ref 12, .int f, .int b, .ref 17]) (h1 := (124, I, J, R)) rfl ?_
  refine ev_call (v1 := (some (.int g))) (h1 := (124, I, J, R)) rfl rfl c3 ?_
  refine ev_go 1 (pc1 := 56) (lv1 := [.ref 0, .int s, .int n, w3]) (st1 := [.int 0, .int g, .int f, .int b, .ref 17]) (h1 := (124, I, J, R)) rfl ?_
  refine ev_call (v1 := (some (.int o))) (h1 := (124, I, J, R)) rfl rfl c4 ?_
  refine ev_go 3 (pc1 := 62) (lv1 := [.ref 0, .int s, .int n, .int o]) (st1 := [.int (-1), .int o]) (h1 := (124, I, J, R)) rfl ?_
  refine ev_br (b1 := true) rfl rfl (xcd_eq (x := o) (y := (-1)) (by rw [show ((-1 : Int32)).toInt = -1 from by decide]; first | exact b2 | omega)) ?_
  refine ev_go 2 (pc1 := 4) (lv1 := [.ref 0, .int s, .int (n + 1), .int o]) (st1 := []) (h1 := (124, I, J, R)) rfl ?_
  exact hk
set_option maxRecDepth 20000 in
theorem ywa_1_3 {L : Nat} {xs : Nat → Int32} {d : Nat} {I : Nat → Nat → Int32} {J : Nat → Nat → Int64} {R : Nat → Nat → Nat} {s n b f g o k : Int32} {w3 : Value} (hG : aGd R) (r_R_0_8 : R 0 8 = 4) (b1 : n.toInt < (I 3 16).toInt) (c1 : xEv L xs d 39 0 [.ref 15, .int n] [] (124, I, J, R) (some (.int b)) (124, I, J, R)) (c2 : xEv L xs d 39 0 [.ref 11, .int n] [] (124, I, J, R) (some (.int f)) (124, I, J, R)) (c3 : xEv L xs d 39 0 [.ref 12, .int n] [] (124, I, J, R) (some (.int g)) (124, I, J, R)) (c4 : xEv L xs d 66 0 [.ref 17, .int b, .int f, .int g, .int 0, xmk, xmk, xmk] [] (124, I, J, R) (some (.int o)) (124, I, J, R)) (b2 : o.toInt ≠ -1) (c5 : xEv L xs d 39 0 [.ref 16, .int n] [] (124, I, J, R) (some (.int k)) (124, I, J, R)) (b3 : o.toInt ≥ k.toInt) {v : Option Value} {h' : xH} (hk : xEv L xs (d + 1) 92 4 [.ref 0, .int s, .int (n + 1), .int o] [] (124, I, J, R) v h') : xEv L xs (d + 1) 92 4 [.ref 0, .int s, .int n, w3] [] (124, I, J, R) v h' := by
  refine ev_go 2 (pc1 := 6) (lv1 := [.ref 0, .int s, .int n, w3]) (st1 := [.ref 0, .int n]) (h1 := (124, I, J, R)) rfl ?_
  refine ev_gf (c := 0) (t := 3) (X := R 0 8) rfl rfl (fun _ => rfl) rfl r_R_0_8 ?_
  refine ev_go 1 (pc1 := 12) (lv1 := [.ref 0, .int s, .int n, w3]) (st1 := [.int (I 3 16), .int n]) (h1 := (124, I, J, R)) rfl ?_
  refine ev_br (b1 := false) rfl rfl (xcd_nge (x := n) (y := (I 3 16)) (by first | exact b1 | omega)) ?_
  refine ev_go 1 (pc1 := 16) (lv1 := [.ref 0, .int s, .int n, w3]) (st1 := [.ref 0]) (h1 := (124, I, J, R)) rfl ?_
  refine ev_gf (c := 0) (t := 3) (X := R 0 8) rfl rfl (fun _ => rfl) rfl r_R_0_8 ?_
  refine ev_gf (c := 3) (t := 17) (X := R 3 13) rfl rfl (fun _ => rfl) rfl (hG 3 13 17 rfl rfl) ?_
  refine ev_go 1 (pc1 := 23) (lv1 := [.ref 0, .int s, .int n, w3]) (st1 := [.ref 0, .ref 17]) (h1 := (124, I, J, R)) rfl ?_
  refine ev_gf (c := 0) (t := 3) (X := R 0 8) rfl rfl (fun _ => rfl) rfl r_R_0_8 ?_
  refine ev_gf (c := 3) (t := 15) (X := R 3 11) rfl rfl (fun _ => rfl) rfl (hG 3 11 15 rfl rfl) ?_
  refine ev_go 1 (pc1 := 30) (lv1 := [.ref 0, .int s, .int n, w3]) (st1 := [.int n, .ref 15, .ref 17]) (h1 := (124, I, J, R)) rfl ?_
  refine ev_call (v1 := (some (.int b))) (h1 := (124, I, J, R)) rfl rfl c1 ?_
  refine ev_go 1 (pc1 := 34) (lv1 := [.ref 0, .int s, .int n, w3]) (st1 := [.ref 0, .int b, .ref 17]) (h1 := (124, I, J, R)) rfl ?_
  refine ev_gf (c := 0) (t := 3) (X := R 0 8) rfl rfl (fun _ => rfl) rfl r_R_0_8 ?_
  refine ev_gf (c := 3) (t := 11) (X := R 3 7) rfl rfl (fun _ => rfl) rfl (hG 3 7 11 rfl rfl) ?_
  refine ev_go 1 (pc1 := 41) (lv1 := [.ref 0, .int s, .int n, w3]) (st1 := [.int n, .ref 11, .int b, .ref 17]) (h1 := (124, I, J, R)) rfl ?_
  refine ev_call (v1 := (some (.int f))) (h1 := (124, I, J, R)) rfl rfl c2 ?_
  refine ev_go 1 (pc1 := 45) (lv1 := [.ref 0, .int s, .int n, w3]) (st1 := [.ref 0, .int f, .int b, .ref 17]) (h1 := (124, I, J, R)) rfl ?_
  refine ev_gf (c := 0) (t := 3) (X := R 0 8) rfl rfl (fun _ => rfl) rfl r_R_0_8 ?_
  refine ev_gf (c := 3) (t := 12) (X := R 3 8) rfl rfl (fun _ => rfl) rfl (hG 3 8 12 rfl rfl) ?_
  refine ev_go 1 (pc1 := 52) (lv1 := [.ref 0, .int s, .int n, w3]) (st1 := [.int n, .ref 12, .int f, .int b, .ref 17]) (h1 := (124, I, J, R)) rfl ?_
  refine ev_call (v1 := (some (.int g))) (h1 := (124, I, J, R)) rfl rfl c3 ?_
  refine ev_go 1 (pc1 := 56) (lv1 := [.ref 0, .int s, .int n, w3]) (st1 := [.int 0, .int g, .int f, .int b, .ref 17]) (h1 := (124, I, J, R)) rfl ?_
  refine ev_call (v1 := (some (.int o))) (h1 := (124, I, J, R)) rfl rfl c4 ?_
  refine ev_go 3 (pc1 := 62) (lv1 := [.ref 0, .int s, .int n, .int o]) (st1 := [.int (-1), .int o]) (h1 := (124, I, J, R)) rfl ?_
  refine ev_br (b1 := false) rfl rfl (xcd_neq (x := o) (y := (-1)) (by rw [show ((-1 : Int32)).toInt = -1 from by decide]; first | exact b2 | omega)) ?_
  refine ev_go 2 (pc1 := 67) (lv1 := [.ref 0, .int s, .int n, .int o]) (st1 := [.ref 0, .int o]) (h1 := (124, I, J, R)) rfl ?_
  refine ev_gf (c := 0) (t := 3) (X := R 0 8) rfl rfl (fun _ => rfl) rfl r_R_0_8 ?_
  refine ev_gf (c := 3) (t := 16) (X := R 3 12) rfl rfl (fun _ => rfl) rfl (hG 3 12 16 rfl rfl) ?_
  refine ev_go 1 (pc1 := 74) (lv1 := [.ref 0, .int s, .int n, .int o]) (st1 := [.int n, .ref 16, .int o]) (h1 := (124, I, J, R)) rfl ?_
  refine ev_call (v1 := (some (.int k))) (h1 := (124, I, J, R)) rfl rfl c5 ?_
  refine ev_br (b1 := true) rfl rfl (xcd_ge (x := o) (y := k) (by first | exact b3 | omega)) ?_
  refine ev_go 2 (pc1 := 4) (lv1 := [.ref 0, .int s, .int (n + 1), .int o]) (st1 := []) (h1 := (124, I, J, R)) rfl ?_
  exact hk
set_option maxRecDepth 20000 in
theorem ywa_2_3 {L : Nat} {xs : Nat → Int32} {d : Nat} {I : Nat → Nat → Int32} {J : Nat → Nat → Int64} {R : Nat → Nat → Nat} {s n b f g o k w : Int32} {w3 : Value} (hG : aGd R) (r_R_0_8 : R 0 8 = 4) (b1 : n.toInt < (I 3 16).toInt) (c1 : xEv L xs d 39 0 [.ref 15, .int n] [] (124, I, J, R) (some (.int b)) (124, I, J, R)) (c2 : xEv L xs d 39 0 [.ref 11, .int n] [] (124, I, J, R) (some (.int f)) (124, I, J, R)) (c3 : xEv L xs d 39 0 [.ref 12, .int n] [] (124, I, J, R) (some (.int g)) (124, I, J, R)) (c4 : xEv L xs d 66 0 [.ref 17, .int b, .int f, .int g, .int 0, xmk, xmk, xmk] [] (124, I, J, R) (some (.int o)) (124, I, J, R)) (b2 : o.toInt ≠ -1) (c5 : xEv L xs d 39 0 [.ref 16, .int n] [] (124, I, J, R) (some (.int k)) (124, I, J, R)) (b3 : o.toInt < k.toInt) (c6 : xEv L xs d 39 0 [.ref 14, .int n] [] (124, I, J, R) (some (.int w)) (124, I, J, R)) {v : Option Value} {h' : xH} (hk : xEv L xs (d + 1) 92 4 [.ref 0, .int (s + w), .int (n + 1), .int o] [] (124, I, J, R) v h') : xEv L xs (d + 1) 92 4 [.ref 0, .int s, .int n, w3] [] (124, I, J, R) v h' := by
  refine ev_go 2 (pc1 := 6) (lv1 := [.ref 0, .int s, .int n, w3]) (st1 := [.ref 0, .int n]) (h1 := (124, I, J, R)) rfl ?_
  refine ev_gf (c := 0) (t := 3) (X := R 0 8) rfl rfl (fun _ => rfl) rfl r_R_0_8 ?_
  refine ev_go 1 (pc1 := 12) (lv1 := [.ref 0, .int s, .int n, w3]) (st1 := [.int (I 3 16), .int n]) (h1 := (124, I, J, R)) rfl ?_
  refine ev_br (b1 := false) rfl rfl (xcd_nge (x := n) (y := (I 3 16)) (by first | exact b1 | omega)) ?_
  refine ev_go 1 (pc1 := 16) (lv1 := [.ref 0, .int s, .int n, w3]) (st1 := [.ref 0]) (h1 := (124, I, J, R)) rfl ?_
  refine ev_gf (c := 0) (t := 3) (X := R 0 8) rfl rfl (fun _ => rfl) rfl r_R_0_8 ?_
  refine ev_gf (c := 3) (t := 17) (X := R 3 13) rfl rfl (fun _ => rfl) rfl (hG 3 13 17 rfl rfl) ?_
  refine ev_go 1 (pc1 := 23) (lv1 := [.ref 0, .int s, .int n, w3]) (st1 := [.ref 0, .ref 17]) (h1 := (124, I, J, R)) rfl ?_
  refine ev_gf (c := 0) (t := 3) (X := R 0 8) rfl rfl (fun _ => rfl) rfl r_R_0_8 ?_
  refine ev_gf (c := 3) (t := 15) (X := R 3 11) rfl rfl (fun _ => rfl) rfl (hG 3 11 15 rfl rfl) ?_
  refine ev_go 1 (pc1 := 30) (lv1 := [.ref 0, .int s, .int n, w3]) (st1 := [.int n, .ref 15, .ref 17]) (h1 := (124, I, J, R)) rfl ?_
  refine ev_call (v1 := (some (.int b))) (h1 := (124, I, J, R)) rfl rfl c1 ?_
  refine ev_go 1 (pc1 := 34) (lv1 := [.ref 0, .int s, .int n, w3]) (st1 := [.ref 0, .int b, .ref 17]) (h1 := (124, I, J, R)) rfl ?_
  refine ev_gf (c := 0) (t := 3) (X := R 0 8) rfl rfl (fun _ => rfl) rfl r_R_0_8 ?_
  refine ev_gf (c := 3) (t := 11) (X := R 3 7) rfl rfl (fun _ => rfl) rfl (hG 3 7 11 rfl rfl) ?_
  refine ev_go 1 (pc1 := 41) (lv1 := [.ref 0, .int s, .int n, w3]) (st1 := [.int n, .ref 11, .int b, .ref 17]) (h1 := (124, I, J, R)) rfl ?_
  refine ev_call (v1 := (some (.int f))) (h1 := (124, I, J, R)) rfl rfl c2 ?_
  refine ev_go 1 (pc1 := 45) (lv1 := [.ref 0, .int s, .int n, w3]) (st1 := [.ref 0, .int f, .int b, .ref 17]) (h1 := (124, I, J, R)) rfl ?_
  refine ev_gf (c := 0) (t := 3) (X := R 0 8) rfl rfl (fun _ => rfl) rfl r_R_0_8 ?_
  refine ev_gf (c := 3) (t := 12) (X := R 3 8) rfl rfl (fun _ => rfl) rfl (hG 3 8 12 rfl rfl) ?_
  refine ev_go 1 (pc1 := 52) (lv1 := [.ref 0, .int s, .int n, w3]) (st1 := [.int n, .ref 12, .int f, .int b, .ref 17]) (h1 := (124, I, J, R)) rfl ?_
  refine ev_call (v1 := (some (.int g))) (h1 := (124, I, J, R)) rfl rfl c3 ?_
  refine ev_go 1 (pc1 := 56) (lv1 := [.ref 0, .int s, .int n, w3]) (st1 := [.int 0, .int g, .int f, .int b, .ref 17]) (h1 := (124, I, J, R)) rfl ?_
  refine ev_call (v1 := (some (.int o))) (h1 := (124, I, J, R)) rfl rfl c4 ?_
  refine ev_go 3 (pc1 := 62) (lv1 := [.ref 0, .int s, .int n, .int o]) (st1 := [.int (-1), .int o]) (h1 := (124, I, J, R)) rfl ?_
  refine ev_br (b1 := false) rfl rfl (xcd_neq (x := o) (y := (-1)) (by rw [show ((-1 : Int32)).toInt = -1 from by decide]; first | exact b2 | omega)) ?_
  refine ev_go 2 (pc1 := 67) (lv1 := [.ref 0, .int s, .int n, .int o]) (st1 := [.ref 0, .int o]) (h1 := (124, I, J, R)) rfl ?_
  refine ev_gf (c := 0) (t := 3) (X := R 0 8) rfl rfl (fun _ => rfl) rfl r_R_0_8 ?_
  refine ev_gf (c := 3) (t := 16) (X := R 3 12) rfl rfl (fun _ => rfl) rfl (hG 3 12 16 rfl rfl) ?_
  refine ev_go 1 (pc1 := 74) (lv1 := [.ref 0, .int s, .int n, .int o]) (st1 := [.int n, .ref 16, .int o]) (h1 := (124, I, J, R)) rfl ?_
  refine ev_call (v1 := (some (.int k))) (h1 := (124, I, J, R)) rfl rfl c5 ?_
  refine ev_br (b1 := false) rfl rfl (xcd_nge (x := o) (y := k) (by first | exact b3 | omega)) ?_
  refine ev_go 2 (pc1 := 82) (lv1 := [.ref 0, .int s, .int n, .int o]) (st1 := [.ref 0, .int s]) (h1 := (124, I, J, R)) rfl ?_
  refine ev_gf (c := 0) (t := 3) (X := R 0 8) rfl rfl (fun _ => rfl) rfl r_R_0_8 ?_
  refine ev_gf (c := 3) (t := 14) (X := R 3 10) rfl rfl (fun _ => rfl) rfl (hG 3 10 14 rfl rfl) ?_
  refine ev_go 1 (pc1 := 89) (lv1 := [.ref 0, .int s, .int n, .int o]) (st1 := [.int n, .ref 14, .int s]) (h1 := (124, I, J, R)) rfl ?_
  refine ev_call (v1 := (some (.int w))) (h1 := (124, I, J, R)) rfl rfl c6 ?_
  refine ev_go 4 (pc1 := 4) (lv1 := [.ref 0, .int (s + w), .int (n + 1), .int o]) (st1 := []) (h1 := (124, I, J, R)) rfl ?_
  exact hk
set_option maxRecDepth 20000 in
theorem yal_0_3 {L : Nat} {xs : Nat → Int32} {d : Nat} {I : Nat → Nat → Int32} {J : Nat → Nat → Int64} {R : Nat → Nat → Nat} {I1 : Nat → Nat → Int32} {k : Int32} (hG : aGd R) (b1 : k.toInt = 0) (r_R_0_8 : R 0 8 = 4) (c1 : xEv L xs d 84 0 [.ref 57, .ref 3, xmk, xmk, xmk] [] (124, I, J, R) none (124, I1, J, R)) : xEv L xs (d + 1) 83 0 [.ref 0, .int k] [] (124, I, J, R) (some (.int (I1 57 6))) (124, I1, J, R) := by
  refine ev_go 1 (pc1 := 1) (lv1 := [.ref 0, .int k]) (st1 := [.int k]) (h1 := (124, I, J, R)) rfl ?_
  refine ev_lk1 (x := k) (z := 0) (t := 28) rfl rfl b1 rfl rfl ?_
  refine ev_go 1 (pc1 := 29) (lv1 := [.ref 0, .int k]) (st1 := [.ref 0]) (h1 := (124, I, J, R)) rfl ?_
  refine ev_gf (c := 0) (t := 57) (X := R 0 6) rfl rfl (fun _ => rfl) rfl (hG 0 6 57 rfl rfl) ?_
  refine ev_go 1 (pc1 := 33) (lv1 := [.ref 0, .int k]) (st1 := [.ref 0, .ref 57]) (h1 := (124, I, J, R)) rfl ?_
  refine ev_gf (c := 0) (t := 3) (X := R 0 8) rfl rfl (fun _ => rfl) rfl r_R_0_8 ?_
  refine ev_call (v1 := none) (h1 := (124, I1, J, R)) rfl rfl c1 ?_
  refine ev_go 1 (pc1 := 40) (lv1 := [.ref 0, .int k]) (st1 := [.ref 0]) (h1 := (124, I1, J, R)) rfl ?_
  refine ev_gf (c := 0) (t := 57) (X := R 0 6) rfl rfl (fun _ => rfl) rfl (hG 0 6 57 rfl rfl) ?_
  refine ev_go 1 (pc1 := 46) (lv1 := [.ref 0, .int k]) (st1 := [.int (I1 57 6)]) (h1 := (124, I1, J, R)) rfl ?_
  exact ev_ret rfl rfl
set_option maxRecDepth 20000 in
theorem yal_1_3 {L : Nat} {xs : Nat → Int32} {d : Nat} {I : Nat → Nat → Int32} {J : Nat → Nat → Int64} {R : Nat → Nat → Nat} {k o : Int32} (hG : aGd R) (b1 : k.toInt = 1) (c1 : xEv L xs d 92 0 [.ref 0, xmk, xmk, xmk] [] (124, I, J, R) (some (.int o)) (124, I, J, R)) : xEv L xs (d + 1) 83 0 [.ref 0, .int k] [] (124, I, J, R) (some (.int o)) (124, I, J, R) := by
  refine ev_go 1 (pc1 := 1) (lv1 := [.ref 0, .int k]) (st1 := [.int k]) (h1 := (124, I, J, R)) rfl ?_
  refine ev_lk1 (x := k) (z := 1) (t := 47) rfl rfl b1 rfl rfl ?_
  refine ev_go 1 (pc1 := 48) (lv1 := [.ref 0, .int k]) (st1 := [.ref 0]) (h1 := (124, I, J, R)) rfl ?_
  refine ev_call (v1 := (some (.int o))) (h1 := (124, I, J, R)) rfl rfl c1 ?_
  exact ev_ret rfl rfl
set_option maxRecDepth 20000 in
theorem yal_x_3 {L : Nat} {xs : Nat → Int32} {d : Nat} {I : Nat → Nat → Int32} {J : Nat → Nat → Int64} {R : Nat → Nat → Nat} {k : Int32} (hG : aGd R) (b1 : k.toInt ≠ 0 ∧ k.toInt ≠ 1) : xEv L xs d 83 0 [.ref 0, .int k] [] (124, I, J, R) (some (.int (-2))) (124, I, J, R) := by
  refine ev_go 1 (pc1 := 1) (lv1 := [.ref 0, .int k]) (st1 := [.int k]) (h1 := (124, I, J, R)) rfl ?_
  refine ev_lkp (x := k) (t := 52) rfl rfl (fun p hp => by have hp' : p ∈ [((0 : Int), (27 : Int)), (1, 46)] := hp; simp only [List.mem_cons, List.not_mem_nil, or_false] at hp'; rcases hp' with rfl | rfl; exact b1.1; exact b1.2) rfl ?_
  refine ev_go 1 (pc1 := 54) (lv1 := [.ref 0, .int k]) (st1 := [.int (-2)]) (h1 := (124, I, J, R)) rfl ?_
  exact ev_ret rfl rfl
set_option maxRecDepth 20000 in
theorem ypm_s_23 {L : Nat} {xs : Nat → Int32} {d : Nat} {I : Nat → Nat → Int32} {J : Nat → Nat → Int64} {R : Nat → Nat → Nat} {t a b c e f g : Int32} (hG : aGd R) (c1 : xEv L xs d 39 0 [.ref 40, .int t] [] (124, I, J, R) (some (.int a)) (124, I, J, R)) (c2 : xEv L xs d 39 0 [.ref 41, .int t] [] (124, (uI I 57 9 a), J, R) (some (.int b)) (124, (uI I 57 9 a), J, R)) (c3 : xEv L xs d 39 0 [.ref 25, .int a] [] (124, (uI (uI I 57 9 a) 57 10 b), J, R) (some (.int c)) (124, (uI (uI I 57 9 a) 57 10 b), J, R)) (c4 : xEv L xs d 39 0 [.ref 25, .int b] [] (124, (uI (uI (uI I 57 9 a) 57 10 b) 57 11 c), J, R) (some (.int e)) (124, (uI (uI (uI I 57 9 a) 57 10 b) 57 11 c), J, R)) (c5 : xEv L xs d 39 0 [.ref 62, .int a] [] (124, (uI (uI (uI (uI I 57 9 a) 57 10 b) 57 11 c) 57 12 e), J, R) (some (.int f)) (124, (uI (uI (uI (uI I 57 9 a) 57 10 b) 57 11 c) 57 12 e), J, R)) (c6 : xEv L xs d 39 0 [.ref 62, .int b] [] (124, (uI (uI (uI (uI (uI I 57 9 a) 57 10 b) 57 11 c) 57 12 e) 57 13 (f ^^^ (-1))), J, R) (some (.int g)) (124, (uI (uI (uI (uI (uI I 57 9 a) 57 10 b) 57 11 c) 57 12 e) 57 13 (f ^^^ (-1))), J, R)) {v : Option Value} {h' : xH} (hk : xEv L xs (d + 1) 88 102 [.ref 57, .ref 23, .int t, .int (I 57 5), .int 0] [] (124, (uI (uI (uI (uI (uI (uI I 57 9 a) 57 10 b) 57 11 c) 57 12 e) 57 13 (f ^^^ (-1))) 57 14 (g ^^^ (-1))), J, R) v h') : xEv L xs (d + 1) 88 0 [.ref 57, .ref 23, .int t, xmk, xmk] [] (124, I, J, R) v h' := by
  refine ev_go 2 (pc1 := 2) (lv1 := [.ref 57, .ref 23, .int t, xmk, xmk]) (st1 := [.ref 23, .ref 57]) (h1 := (124, I, J, R)) rfl ?_
  refine ev_gf (c := 23) (t := 37) (X := R 23 13) rfl rfl (fun _ => rfl) rfl (hG 23 13 37 rfl rfl) ?_
  refine ev_gf (c := 37) (t := 40) (X := R 37 2) rfl rfl (fun _ => rfl) rfl (hG 37 2 40 rfl rfl) ?_
  refine ev_go 1 (pc1 := 9) (lv1 := [.ref 57, .ref 23, .int t, xmk, xmk]) (st1 := [.int t, .ref 40, .ref 57]) (h1 := (124, I, J, R)) rfl ?_
  refine ev_call (v1 := (some (.int a))) (h1 := (124, I, J, R)) rfl rfl c1 ?_
  refine ev_go 3 (pc1 := 17) (lv1 := [.ref 57, .ref 23, .int t, xmk, xmk]) (st1 := [.ref 23, .ref 57]) (h1 := (124, (uI I 57 9 a), J, R)) rfl ?_
  refine ev_gf (c := 23) (t := 37) (X := R 23 13) rfl rfl (fun _ => rfl) rfl (hG 23 13 37 rfl rfl) ?_
  refine ev_gf (c := 37) (t := 41) (X := R 37 3) rfl rfl (fun _ => rfl) rfl (hG 37 3 41 rfl rfl) ?_
  refine ev_go 1 (pc1 := 24) (lv1 := [.ref 57, .ref 23, .int t, xmk, xmk]) (st1 := [.int t, .ref 41, .ref 57]) (h1 := (124, (uI I 57 9 a), J, R)) rfl ?_
  refine ev_call (v1 := (some (.int b))) (h1 := (124, (uI I 57 9 a), J, R)) rfl rfl c2 ?_
  refine ev_go 3 (pc1 := 32) (lv1 := [.ref 57, .ref 23, .int t, xmk, xmk]) (st1 := [.ref 23, .ref 57]) (h1 := (124, (uI (uI I 57 9 a) 57 10 b), J, R)) rfl ?_
  refine ev_gf (c := 23) (t := 25) (X := R 23 1) rfl rfl (fun _ => rfl) rfl (hG 23 1 25 rfl rfl) ?_
  refine ev_go 2 (pc1 := 39) (lv1 := [.ref 57, .ref 23, .int t, xmk, xmk]) (st1 := [.int a, .ref 25, .ref 57]) (h1 := (124, (uI (uI I 57 9 a) 57 10 b), J, R)) rfl ?_
  refine ev_call (v1 := (some (.int c))) (h1 := (124, (uI (uI I 57 9 a) 57 10 b), J, R)) rfl rfl c3 ?_
  refine ev_go 3 (pc1 := 47) (lv1 := [.ref 57, .ref 23, .int t, xmk, xmk]) (st1 := [.ref 23, .ref 57]) (h1 := (124, (uI (uI (uI I 57 9 a) 57 10 b) 57 11 c), J, R)) rfl ?_
  refine ev_gf (c := 23) (t := 25) (X := R 23 1) rfl rfl (fun _ => rfl) rfl (hG 23 1 25 rfl rfl) ?_
  refine ev_go 2 (pc1 := 54) (lv1 := [.ref 57, .ref 23, .int t, xmk, xmk]) (st1 := [.int b, .ref 25, .ref 57]) (h1 := (124, (uI (uI (uI I 57 9 a) 57 10 b) 57 11 c), J, R)) rfl ?_
  refine ev_call (v1 := (some (.int e))) (h1 := (124, (uI (uI (uI I 57 9 a) 57 10 b) 57 11 c), J, R)) rfl rfl c4 ?_
  refine ev_go 3 (pc1 := 62) (lv1 := [.ref 57, .ref 23, .int t, xmk, xmk]) (st1 := [.ref 57, .ref 57]) (h1 := (124, (uI (uI (uI (uI I 57 9 a) 57 10 b) 57 11 c) 57 12 e), J, R)) rfl ?_
  refine ev_gf (c := 57) (t := 62) (X := R 57 4) rfl rfl (fun _ => rfl) rfl (hG 57 4 62 rfl rfl) ?_
  refine ev_go 2 (pc1 := 69) (lv1 := [.ref 57, .ref 23, .int t, xmk, xmk]) (st1 := [.int a, .ref 62, .ref 57]) (h1 := (124, (uI (uI (uI (uI I 57 9 a) 57 10 b) 57 11 c) 57 12 e), J, R)) rfl ?_
  refine ev_call (v1 := (some (.int f))) (h1 := (124, (uI (uI (uI (uI I 57 9 a) 57 10 b) 57 11 c) 57 12 e), J, R)) rfl rfl c5 ?_
  refine ev_go 5 (pc1 := 79) (lv1 := [.ref 57, .ref 23, .int t, xmk, xmk]) (st1 := [.ref 57, .ref 57]) (h1 := (124, (uI (uI (uI (uI (uI I 57 9 a) 57 10 b) 57 11 c) 57 12 e) 57 13 (f ^^^ (-1))), J, R)) rfl ?_
  refine ev_gf (c := 57) (t := 62) (X := R 57 4) rfl rfl (fun _ => rfl) rfl (hG 57 4 62 rfl rfl) ?_
  refine ev_go 2 (pc1 := 86) (lv1 := [.ref 57, .ref 23, .int t, xmk, xmk]) (st1 := [.int b, .ref 62, .ref 57]) (h1 := (124, (uI (uI (uI (uI (uI I 57 9 a) 57 10 b) 57 11 c) 57 12 e) 57 13 (f ^^^ (-1))), J, R)) rfl ?_
  refine ev_call (v1 := (some (.int g))) (h1 := (124, (uI (uI (uI (uI (uI I 57 9 a) 57 10 b) 57 11 c) 57 12 e) 57 13 (f ^^^ (-1))), J, R)) rfl rfl c6 ?_
  refine ev_go 8 (pc1 := 102) (lv1 := [.ref 57, .ref 23, .int t, .int (I 57 5), .int 0]) (st1 := []) (h1 := (124, (uI (uI (uI (uI (uI (uI I 57 9 a) 57 10 b) 57 11 c) 57 12 e) 57 13 (f ^^^ (-1))) 57 14 (g ^^^ (-1))), J, R)) rfl ?_
  exact hk
set_option maxRecDepth 20000 in
theorem ypm_e_23 {L : Nat} {xs : Nat → Int32} {d : Nat} {I : Nat → Nat → Int32} {J : Nat → Nat → Int64} {R : Nat → Nat → Nat} {t n i : Int32} (hG : aGd R) (b1 : i.toInt ≥ n.toInt) : xEv L xs d 88 102 [.ref 57, .ref 23, .int t, .int n, .int i] [] (124, I, J, R) none (124, I, J, R) := by
  refine ev_go 2 (pc1 := 105) (lv1 := [.ref 57, .ref 23, .int t, .int n, .int i]) (st1 := [.int n, .int i]) (h1 := (124, I, J, R)) rfl ?_
  refine ev_br (b1 := true) rfl rfl (xcd_ge (x := i) (y := n) (by first | exact b1 | omega)) ?_
  exact ev_ret rfl rfl
set_option maxRecDepth 20000 in
theorem ypm_y_23 {L : Nat} {xs : Nat → Int32} {d : Nat} {I : Nat → Nat → Int32} {J : Nat → Nat → Int64} {R : Nat → Nat → Nat} {I1 : Nat → Nat → Int32} {t n i x h : Int32} (hG : aGd R) (b1 : i.toInt < n.toInt) (c1 : xEv L xs d 39 0 [.ref 59, .int i] [] (124, I, J, R) (some (.int x)) (124, I, J, R)) (c2 : xEv L xs d 39 0 [.ref 60, .int i] [] (124, I, J, R) (some (.int h)) (124, I, J, R)) (c3 : xEv L xs d 89 0 [.ref 57, .int x, .int h, .int t, xmk, xmk, xmk, xmk, xmk, xmk, xmk, xmk, xmk, xmk] [] (124, I, J, R) none (124, I1, J, R)) {v : Option Value} {h' : xH} (hk : xEv L xs (d + 1) 88 102 [.ref 57, .ref 23, .int t, .int n, .int (i + 1)] [] (124, I1, J, R) v h') : xEv L xs (d + 1) 88 102 [.ref 57, .ref 23, .int t, .int n, .int i] [] (124, I, J, R) v h' := by
  refine ev_go 2 (pc1 := 105) (lv1 := [.ref 57, .ref 23, .int t, .int n, .int i]) (st1 := [.int n, .int i]) (h1 := (124, I, J, R)) rfl ?_
  refine ev_br (b1 := false) rfl rfl (xcd_nge (x := i) (y := n) (by first | exact b1 | omega)) ?_
  refine ev_go 2 (pc1 := 110) (lv1 := [.ref 57, .ref 23, .int t, .int n, .int i]) (st1 := [.ref 57, .ref 57]) (h1 := (124, I, J, R)) rfl ?_
  refine ev_gf (c := 57) (t := 59) (X := R 57 1) rfl rfl (fun _ => rfl) rfl (hG 57 1 59 rfl rfl) ?_
  refine ev_go 1 (pc1 := 115) (lv1 := [.ref 57, .ref 23, .int t, .int n, .int i]) (st1 := [.int i, .ref 59, .ref 57]) (h1 := (124, I, J, R)) rfl ?_
  refine ev_call (v1 := (some (.int x))) (h1 := (124, I, J, R)) rfl rfl c1 ?_
  refine ev_go 1 (pc1 := 119) (lv1 := [.ref 57, .ref 23, .int t, .int n, .int i]) (st1 := [.ref 57, .int x, .ref 57]) (h1 := (124, I, J, R)) rfl ?_
  refine ev_gf (c := 57) (t := 60) (X := R 57 2) rfl rfl (fun _ => rfl) rfl (hG 57 2 60 rfl rfl) ?_
  refine ev_go 1 (pc1 := 124) (lv1 := [.ref 57, .ref 23, .int t, .int n, .int i]) (st1 := [.int i, .ref 60, .int x, .ref 57]) (h1 := (124, I, J, R)) rfl ?_
  refine ev_call (v1 := (some (.int h))) (h1 := (124, I, J, R)) rfl rfl c2 ?_
  refine ev_go 1 (pc1 := 128) (lv1 := [.ref 57, .ref 23, .int t, .int n, .int i]) (st1 := [.int t, .int h, .int x, .ref 57]) (h1 := (124, I, J, R)) rfl ?_
  refine ev_call (v1 := none) (h1 := (124, I1, J, R)) rfl rfl c3 ?_
  refine ev_go 2 (pc1 := 102) (lv1 := [.ref 57, .ref 23, .int t, .int n, .int (i + 1)]) (st1 := []) (h1 := (124, I1, J, R)) rfl ?_
  exact hk
set_option maxRecDepth 20000 in
theorem yrw_s_23 {L : Nat} {xs : Nat → Int32} {d : Nat} {I : Nat → Nat → Int32} {J : Nat → Nat → Int64} {R : Nat → Nat → Nat} {n f : Int32} (hG : aGd R) (c1 : xEv L xs d 39 0 [.ref 32, .int n] [] (124, (uI I 57 7 1), J, R) (some (.int f)) (124, (uI I 57 7 1), J, R)) {v : Option Value} {h' : xH} (hk : xEv L xs (d + 1) 91 23 [.ref 57, .ref 23, .int n, .int (1 <<< (((4 * f) + n) &&& 31)), .int 0, xmk] [] (124, (uI I 57 7 1), J, R) v h') : xEv L xs (d + 1) 91 0 [.ref 57, .ref 23, .int n, xmk, xmk, xmk] [] (124, I, J, R) v h' := by
  refine ev_go 6 (pc1 := 8) (lv1 := [.ref 57, .ref 23, .int n, xmk, xmk, xmk]) (st1 := [.ref 23, .int 4, .int 1]) (h1 := (124, (uI I 57 7 1), J, R)) rfl ?_
  refine ev_gf (c := 23) (t := 32) (X := R 23 8) rfl rfl (fun _ => rfl) rfl (hG 23 8 32 rfl rfl) ?_
  refine ev_go 1 (pc1 := 12) (lv1 := [.ref 57, .ref 23, .int n, xmk, xmk, xmk]) (st1 := [.int n, .ref 32, .int 4, .int 1]) (h1 := (124, (uI I 57 7 1), J, R)) rfl ?_
  refine ev_call (v1 := (some (.int f))) (h1 := (124, (uI I 57 7 1), J, R)) rfl rfl c1 ?_
  refine ev_go 3 (pc1 := 18) (lv1 := [.ref 57, .ref 23, .int n, xmk, xmk, xmk]) (st1 := [.int ((4 * f) + n), .int 1]) (h1 := (124, (uI I 57 7 1), J, R)) rfl ?_
  refine ev_go 4 (pc1 := 23) (lv1 := [.ref 57, .ref 23, .int n, .int (1 <<< (((4 * f) + n) &&& 31)), .int 0, xmk]) (st1 := []) (h1 := (124, (uI I 57 7 1), J, R)) rfl ?_
  exact hk
set_option maxRecDepth 20000 in
theorem yrw_e_23 {L : Nat} {xs : Nat → Int32} {d : Nat} {I : Nat → Nat → Int32} {J : Nat → Nat → Int64} {R : Nat → Nat → Nat} {n w i : Int32} {w5 : Value} (hG : aGd R) (b1 : i.toInt ≥ (I 57 5).toInt) : xEv L xs d 91 23 [.ref 57, .ref 23, .int n, .int w, .int i, w5] [] (124, I, J, R) none (124, I, J, R) := by
  refine ev_go 3 (pc1 := 29) (lv1 := [.ref 57, .ref 23, .int n, .int w, .int i, w5]) (st1 := [.int (I 57 5), .int i]) (h1 := (124, I, J, R)) rfl ?_
  refine ev_br (b1 := true) rfl rfl (xcd_ge (x := i) (y := (I 57 5)) (by first | exact b1 | omega)) ?_
  exact ev_ret rfl rfl
set_option maxRecDepth 20000 in
theorem yrw_n_23 {L : Nat} {xs : Nat → Int32} {d : Nat} {I : Nat → Nat → Int32} {J : Nat → Nat → Int64} {R : Nat → Nat → Nat} {n w i h : Int32} {w5 : Value} (hG : aGd R) (b1 : i.toInt < (I 57 5).toInt) (c1 : xEv L xs d 39 0 [.ref 60, .int i] [] (124, I, J, R) (some (.int h)) (124, I, J, R)) (b2 : (h &&& w).toInt = 0) {v : Option Value} {h' : xH} (hk : xEv L xs (d + 1) 91 23 [.ref 57, .ref 23, .int n, .int w, .int (i + 1), w5] [] (124, I, J, R) v h') : xEv L xs (d + 1) 91 23 [.ref 57, .ref 23, .int n, .int w, .int i, w5] [] (124, I, J, R) v h' := by
  refine ev_go 3 (pc1 := 29) (lv1 := [.ref 57, .ref 23, .int n, .int w, .int i, w5]) (st1 := [.int (I 57 5), .int i]) (h1 := (124, I, J, R)) rfl ?_
  refine ev_br (b1 := false) rfl rfl (xcd_nge (x := i) (y := (I 57 5)) (by first | exact b1 | omega)) ?_
  refine ev_go 1 (pc1 := 33) (lv1 := [.ref 57, .ref 23, .int n, .int w, .int i, w5]) (st1 := [.ref 57]) (h1 := (124, I, J, R)) rfl ?_
  refine ev_gf (c := 57) (t := 60) (X := R 57 2) rfl rfl (fun _ => rfl) rfl (hG 57 2 60 rfl rfl) ?_
  refine ev_go 1 (pc1 := 38) (lv1 := [.ref 57, .ref 23, .int n, .int w, .int i, w5]) (st1 := [.int i, .ref 60]) (h1 := (124, I, J, R)) rfl ?_
  refine ev_call (v1 := (some (.int h))) (h1 := (124, I, J, R)) rfl rfl c1 ?_
  refine ev_go 2 (pc1 := 43) (lv1 := [.ref 57, .ref 23, .int n, .int w, .int i, w5]) (st1 := [.int (h &&& w)]) (h1 := (124, I, J, R)) rfl ?_
  refine ev_br (b1 := true) rfl rfl (xcd_eq (x := (h &&& w)) (y := 0) (by rw [show ((0 : Int32)).toInt = 0 from by decide]; first | exact b2 | omega)) ?_
  refine ev_go 2 (pc1 := 23) (lv1 := [.ref 57, .ref 23, .int n, .int w, .int (i + 1), w5]) (st1 := []) (h1 := (124, I, J, R)) rfl ?_
  exact hk
set_option maxRecDepth 20000 in
theorem yrw_y_23 {L : Nat} {xs : Nat → Int32} {d : Nat} {I : Nat → Nat → Int32} {J : Nat → Nat → Int64} {R : Nat → Nat → Nat} {I1 : Nat → Nat → Int32} {n w i h x o k : Int32} {w5 : Value} (hG : aGd R) (b1 : i.toInt < (I 57 5).toInt) (c1 : xEv L xs d 39 0 [.ref 60, .int i] [] (124, I, J, R) (some (.int h)) (124, I, J, R)) (b2 : (h &&& w).toInt ≠ 0) (c2 : xEv L xs d 39 0 [.ref 59, .int i] [] (124, I, J, R) (some (.int x)) (124, I, J, R)) (c3 : xEv L xs d 39 0 [.ref 58, .int x] [] (124, I, J, R) (some (.int o)) (124, I, J, R)) (c4 : xEv L xs d 39 0 [.ref 34, .int n] [] (124, I, J, R) (some (.int k)) (124, I, J, R)) (c5 : xEv L xs d 33 0 [.ref 58, .int x, .int (o + k)] [] (124, I, J, R) none (124, I1, J, R)) {v : Option Value} {h' : xH} (hk : xEv L xs (d + 1) 91 23 [.ref 57, .ref 23, .int n, .int w, .int (i + 1), .int x] [] (124, I1, J, R) v h') : xEv L xs (d + 1) 91 23 [.ref 57, .ref 23, .int n, .int w, .int i, w5] [] (124, I, J, R) v h' := by
  refine ev_go 3 (pc1 := 29) (lv1 := [.ref 57, .ref 23, .int n, .int w, .int i, w5]) (st1 := [.int (I 57 5), .int i]) (h1 := (124, I, J, R)) rfl ?_
  refine ev_br (b1 := false) rfl rfl (xcd_nge (x := i) (y := (I 57 5)) (by first | exact b1 | omega)) ?_
  refine ev_go 1 (pc1 := 33) (lv1 := [.ref 57, .ref 23, .int n, .int w, .int i, w5]) (st1 := [.ref 57]) (h1 := (124, I, J, R)) rfl ?_
  refine ev_gf (c := 57) (t := 60) (X := R 57 2) rfl rfl (fun _ => rfl) rfl (hG 57 2 60 rfl rfl) ?_
  refine ev_go 1 (pc1 := 38) (lv1 := [.ref 57, .ref 23, .int n, .int w, .int i, w5]) (st1 := [.int i, .ref 60]) (h1 := (124, I, J, R)) rfl ?_
  refine ev_call (v1 := (some (.int h))) (h1 := (124, I, J, R)) rfl rfl c1 ?_
  refine ev_go 2 (pc1 := 43) (lv1 := [.ref 57, .ref 23, .int n, .int w, .int i, w5]) (st1 := [.int (h &&& w)]) (h1 := (124, I, J, R)) rfl ?_
  refine ev_br (b1 := false) rfl rfl (xcd_neq (x := (h &&& w)) (y := 0) (by rw [show ((0 : Int32)).toInt = 0 from by decide]; first | exact b2 | omega)) ?_
  refine ev_go 1 (pc1 := 47) (lv1 := [.ref 57, .ref 23, .int n, .int w, .int i, w5]) (st1 := [.ref 57]) (h1 := (124, I, J, R)) rfl ?_
  refine ev_gf (c := 57) (t := 59) (X := R 57 1) rfl rfl (fun _ => rfl) rfl (hG 57 1 59 rfl rfl) ?_
  refine ev_go 1 (pc1 := 52) (lv1 := [.ref 57, .ref 23, .int n, .int w, .int i, w5]) (st1 := [.int i, .ref 59]) (h1 := (124, I, J, R)) rfl ?_
  refine ev_call (v1 := (some (.int x))) (h1 := (124, I, J, R)) rfl rfl c2 ?_
  refine ev_go 2 (pc1 := 58) (lv1 := [.ref 57, .ref 23, .int n, .int w, .int i, .int x]) (st1 := [.ref 57]) (h1 := (124, I, J, R)) rfl ?_
  refine ev_gf (c := 57) (t := 58) (X := R 57 0) rfl rfl (fun _ => rfl) rfl (hG 57 0 58 rfl rfl) ?_
  refine ev_go 2 (pc1 := 64) (lv1 := [.ref 57, .ref 23, .int n, .int w, .int i, .int x]) (st1 := [.ref 57, .int x, .ref 58]) (h1 := (124, I, J, R)) rfl ?_
  refine ev_gf (c := 57) (t := 58) (X := R 57 0) rfl rfl (fun _ => rfl) rfl (hG 57 0 58 rfl rfl) ?_
  refine ev_go 1 (pc1 := 69) (lv1 := [.ref 57, .ref 23, .int n, .int w, .int i, .int x]) (st1 := [.int x, .ref 58, .int x, .ref 58]) (h1 := (124, I, J, R)) rfl ?_
  refine ev_call (v1 := (some (.int o))) (h1 := (124, I, J, R)) rfl rfl c3 ?_
  refine ev_go 1 (pc1 := 73) (lv1 := [.ref 57, .ref 23, .int n, .int w, .int i, .int x]) (st1 := [.ref 23, .int o, .int x, .ref 58]) (h1 := (124, I, J, R)) rfl ?_
  refine ev_gf (c := 23) (t := 34) (X := R 23 10) rfl rfl (fun _ => rfl) rfl (hG 23 10 34 rfl rfl) ?_
  refine ev_go 1 (pc1 := 77) (lv1 := [.ref 57, .ref 23, .int n, .int w, .int i, .int x]) (st1 := [.int n, .ref 34, .int o, .int x, .ref 58]) (h1 := (124, I, J, R)) rfl ?_
  refine ev_call (v1 := (some (.int k))) (h1 := (124, I, J, R)) rfl rfl c4 ?_
  refine ev_go 1 (pc1 := 81) (lv1 := [.ref 57, .ref 23, .int n, .int w, .int i, .int x]) (st1 := [.int (o + k), .int x, .ref 58]) (h1 := (124, I, J, R)) rfl ?_
  refine ev_call (v1 := none) (h1 := (124, I1, J, R)) rfl rfl c5 ?_
  refine ev_go 2 (pc1 := 23) (lv1 := [.ref 57, .ref 23, .int n, .int w, .int (i + 1), .int x]) (st1 := []) (h1 := (124, I1, J, R)) rfl ?_
  exact hk
set_option maxRecDepth 20000 in
theorem yst_s_23 {L : Nat} {xs : Nat → Int32} {d : Nat} {I : Nat → Nat → Int32} {J : Nat → Nat → Int64} {R : Nat → Nat → Nat} {I1 : Nat → Nat → Int32} {I2 : Nat → Nat → Int32} {I3 : Nat → Nat → Int32} (hG : aGd R) (c1 : xEv L xs d 13 0 [.ref 58, .int (-1), xmk, xmk] [] (124, I, J, R) none (124, I1, J, R)) (c2 : xEv L xs d 13 0 [.ref 61, .int 64, xmk, xmk] [] (124, I1, J, R) none (124, I2, J, R)) (c3 : xEv L xs d 13 0 [.ref 62, .int 0, xmk, xmk] [] (124, I2, J, R) none (124, I3, J, R)) {v : Option Value} {h' : xH} (hk : xEv L xs (d + 1) 85 32 [.ref 57, .ref 23, .int 0, .int 0, .int 0, xmk, xmk] [] (124, I3, J, R) v h') : xEv L xs (d + 1) 85 0 [.ref 57, .ref 23, xmk, xmk, xmk, xmk, xmk] [] (124, I, J, R) v h' := by
  refine ev_go 1 (pc1 := 1) (lv1 := [.ref 57, .ref 23, xmk, xmk, xmk, xmk, xmk]) (st1 := [.ref 57]) (h1 := (124, I, J, R)) rfl ?_
  refine ev_gf (c := 57) (t := 58) (X := R 57 0) rfl rfl (fun _ => rfl) rfl (hG 57 0 58 rfl rfl) ?_
  refine ev_go 1 (pc1 := 5) (lv1 := [.ref 57, .ref 23, xmk, xmk, xmk, xmk, xmk]) (st1 := [.int (-1), .ref 58]) (h1 := (124, I, J, R)) rfl ?_
  refine ev_call (v1 := none) (h1 := (124, I1, J, R)) rfl rfl c1 ?_
  refine ev_go 1 (pc1 := 9) (lv1 := [.ref 57, .ref 23, xmk, xmk, xmk, xmk, xmk]) (st1 := [.ref 57]) (h1 := (124, I1, J, R)) rfl ?_
  refine ev_gf (c := 57) (t := 61) (X := R 57 3) rfl rfl (fun _ => rfl) rfl (hG 57 3 61 rfl rfl) ?_
  refine ev_go 1 (pc1 := 14) (lv1 := [.ref 57, .ref 23, xmk, xmk, xmk, xmk, xmk]) (st1 := [.int 64, .ref 61]) (h1 := (124, I1, J, R)) rfl ?_
  refine ev_call (v1 := none) (h1 := (124, I2, J, R)) rfl rfl c2 ?_
  refine ev_go 1 (pc1 := 18) (lv1 := [.ref 57, .ref 23, xmk, xmk, xmk, xmk, xmk]) (st1 := [.ref 57]) (h1 := (124, I2, J, R)) rfl ?_
  refine ev_gf (c := 57) (t := 62) (X := R 57 4) rfl rfl (fun _ => rfl) rfl (hG 57 4 62 rfl rfl) ?_
  refine ev_go 1 (pc1 := 22) (lv1 := [.ref 57, .ref 23, xmk, xmk, xmk, xmk, xmk]) (st1 := [.int 0, .ref 62]) (h1 := (124, I2, J, R)) rfl ?_
  refine ev_call (v1 := none) (h1 := (124, I3, J, R)) rfl rfl c3 ?_
  refine ev_go 6 (pc1 := 32) (lv1 := [.ref 57, .ref 23, .int 0, .int 0, .int 0, xmk, xmk]) (st1 := []) (h1 := (124, I3, J, R)) rfl ?_
  exact hk
set_option maxRecDepth 20000 in
theorem yst_e_23 {L : Nat} {xs : Nat → Int32} {d : Nat} {I : Nat → Nat → Int32} {J : Nat → Nat → Int64} {R : Nat → Nat → Nat} {I1 : Nat → Nat → Int32} {x h n : Int32} {w5 w6 : Value} (hG : aGd R) (b1 : n.toInt ≥ (I 23 16).toInt) (c1 : xEv L xs d 86 0 [.ref 57, .int x, .int h, .int 0, .int (-1), xmk, xmk, xmk] [] (124, (uI I 57 5 0), J, R) none (124, I1, J, R)) : xEv L xs (d + 1) 85 32 [.ref 57, .ref 23, .int x, .int h, .int n, w5, w6] [] (124, I, J, R) none (124, I1, J, R) := by
  refine ev_go 3 (pc1 := 38) (lv1 := [.ref 57, .ref 23, .int x, .int h, .int n, w5, w6]) (st1 := [.int (I 23 16), .int n]) (h1 := (124, I, J, R)) rfl ?_
  refine ev_br (b1 := true) rfl rfl (xcd_ge (x := n) (y := (I 23 16)) (by first | exact b1 | omega)) ?_
  refine ev_go 8 (pc1 := 150) (lv1 := [.ref 57, .ref 23, .int x, .int h, .int n, w5, w6]) (st1 := [.int (-1), .int 0, .int h, .int x, .ref 57]) (h1 := (124, (uI I 57 5 0), J, R)) rfl ?_
  refine ev_call (v1 := none) (h1 := (124, I1, J, R)) rfl rfl c1 ?_
  exact ev_ret rfl rfl
set_option maxRecDepth 20000 in
theorem yst_y_23 {L : Nat} {xs : Nat → Int32} {d : Nat} {I : Nat → Nat → Int32} {J : Nat → Nat → Int64} {R : Nat → Nat → Nat} {x h n f o : Int32} {w5 w6 : Value} (hG : aGd R) (b1 : n.toInt < (I 23 16).toInt) (c1 : xEv L xs d 39 0 [.ref 31, .int n] [] (124, I, J, R) (some (.int f)) (124, I, J, R)) (c2 : xEv L xs d 39 0 [.retAddr 1, .int (1 <<< (n &&& 31))] [] (124, I, J, R) (some (.int o)) (124, I, J, R)) {v : Option Value} {h' : xH} (hk : xEv L xs (d + 1) 85 83 [.ref 57, .ref 23, .int (x + (f * o)), .int (h ||| (1 <<< (((4 * f) + n) &&& 31))), .int n, .int f, .int 0] [] (124, I, J, R) v h') : xEv L xs (d + 1) 85 32 [.ref 57, .ref 23, .int x, .int h, .int n, w5, w6] [] (124, I, J, R) v h' := by
  refine ev_go 3 (pc1 := 38) (lv1 := [.ref 57, .ref 23, .int x, .int h, .int n, w5, w6]) (st1 := [.int (I 23 16), .int n]) (h1 := (124, I, J, R)) rfl ?_
  refine ev_br (b1 := false) rfl rfl (xcd_nge (x := n) (y := (I 23 16)) (by first | exact b1 | omega)) ?_
  refine ev_go 1 (pc1 := 42) (lv1 := [.ref 57, .ref 23, .int x, .int h, .int n, w5, w6]) (st1 := [.ref 23]) (h1 := (124, I, J, R)) rfl ?_
  refine ev_gf (c := 23) (t := 31) (X := R 23 7) rfl rfl (fun _ => rfl) rfl (hG 23 7 31 rfl rfl) ?_
  refine ev_go 1 (pc1 := 47) (lv1 := [.ref 57, .ref 23, .int x, .int h, .int n, w5, w6]) (st1 := [.int n, .ref 31]) (h1 := (124, I, J, R)) rfl ?_
  refine ev_call (v1 := (some (.int f))) (h1 := (124, I, J, R)) rfl rfl c1 ?_
  refine ev_go 6 (pc1 := 61) (lv1 := [.ref 57, .ref 23, .int x, .int h, .int n, .int f, w6]) (st1 := [.int n, .int 1, .retAddr 1, .int f, .int x]) (h1 := (124, I, J, R)) rfl ?_
  refine ev_go 1 (pc1 := 62) (lv1 := [.ref 57, .ref 23, .int x, .int h, .int n, .int f, w6]) (st1 := [.int (1 <<< (n &&& 31)), .retAddr 1, .int f, .int x]) (h1 := (124, I, J, R)) rfl ?_
  refine ev_call (v1 := (some (.int o))) (h1 := (124, I, J, R)) rfl rfl c2 ?_
  refine ev_go 10 (pc1 := 77) (lv1 := [.ref 57, .ref 23, .int (x + (f * o)), .int h, .int n, .int f, w6]) (st1 := [.int ((4 * f) + n), .int 1, .int h]) (h1 := (124, I, J, R)) rfl ?_
  refine ev_go 5 (pc1 := 83) (lv1 := [.ref 57, .ref 23, .int (x + (f * o)), .int (h ||| (1 <<< (((4 * f) + n) &&& 31))), .int n, .int f, .int 0]) (st1 := []) (h1 := (124, I, J, R)) rfl ?_
  exact hk
set_option maxRecDepth 20000 in
theorem yst_f_23 {L : Nat} {xs : Nat → Int32} {d : Nat} {I : Nat → Nat → Int32} {J : Nat → Nat → Int64} {R : Nat → Nat → Nat} {x h n f p : Int32} (hG : aGd R) (b1 : p.toInt ≥ (I 23 14).toInt) {v : Option Value} {h' : xH} (hk : xEv L xs d 85 32 [.ref 57, .ref 23, .int x, .int h, .int (n + 1), .int f, .int p] [] (124, I, J, R) v h') : xEv L xs d 85 83 [.ref 57, .ref 23, .int x, .int h, .int n, .int f, .int p] [] (124, I, J, R) v h' := by
  refine ev_go 3 (pc1 := 89) (lv1 := [.ref 57, .ref 23, .int x, .int h, .int n, .int f, .int p]) (st1 := [.int (I 23 14), .int p]) (h1 := (124, I, J, R)) rfl ?_
  refine ev_br (b1 := true) rfl rfl (xcd_ge (x := p) (y := (I 23 14)) (by first | exact b1 | omega)) ?_
  refine ev_go 2 (pc1 := 32) (lv1 := [.ref 57, .ref 23, .int x, .int h, .int (n + 1), .int f, .int p]) (st1 := []) (h1 := (124, I, J, R)) rfl ?_
  exact hk
set_option maxRecDepth 20000 in
theorem yst_z_23 {L : Nat} {xs : Nat → Int32} {d : Nat} {I : Nat → Nat → Int32} {J : Nat → Nat → Int64} {R : Nat → Nat → Nat} {I1 : Nat → Nat → Int32} {x h n f p o b : Int32} (hG : aGd R) (b1 : p.toInt < (I 23 14).toInt) (c1 : xEv L xs d 39 0 [.ref 62, .int p] [] (124, I, J, R) (some (.int o)) (124, I, J, R)) (c2 : xEv L xs d 39 0 [.ref 35, .int n] [] (124, I, J, R) (some (.int b)) (124, I, J, R)) (c3 : xEv L xs d 33 0 [.ref 62, .int p, .int (o ||| (((b >>> (p &&& 31)) &&& 1) <<< (n &&& 31)))] [] (124, I, J, R) none (124, I1, J, R)) {v : Option Value} {h' : xH} (hk : xEv L xs (d + 1) 85 83 [.ref 57, .ref 23, .int x, .int h, .int n, .int f, .int (p + 1)] [] (124, I1, J, R) v h') : xEv L xs (d + 1) 85 83 [.ref 57, .ref 23, .int x, .int h, .int n, .int f, .int p] [] (124, I, J, R) v h' := by
  refine ev_go 3 (pc1 := 89) (lv1 := [.ref 57, .ref 23, .int x, .int h, .int n, .int f, .int p]) (st1 := [.int (I 23 14), .int p]) (h1 := (124, I, J, R)) rfl ?_
  refine ev_br (b1 := false) rfl rfl (xcd_nge (x := p) (y := (I 23 14)) (by first | exact b1 | omega)) ?_
  refine ev_go 1 (pc1 := 93) (lv1 := [.ref 57, .ref 23, .int x, .int h, .int n, .int f, .int p]) (st1 := [.ref 57]) (h1 := (124, I, J, R)) rfl ?_
  refine ev_gf (c := 57) (t := 62) (X := R 57 4) rfl rfl (fun _ => rfl) rfl (hG 57 4 62 rfl rfl) ?_
  refine ev_go 2 (pc1 := 99) (lv1 := [.ref 57, .ref 23, .int x, .int h, .int n, .int f, .int p]) (st1 := [.ref 57, .int p, .ref 62]) (h1 := (124, I, J, R)) rfl ?_
  refine ev_gf (c := 57) (t := 62) (X := R 57 4) rfl rfl (fun _ => rfl) rfl (hG 57 4 62 rfl rfl) ?_
  refine ev_go 1 (pc1 := 104) (lv1 := [.ref 57, .ref 23, .int x, .int h, .int n, .int f, .int p]) (st1 := [.int p, .ref 62, .int p, .ref 62]) (h1 := (124, I, J, R)) rfl ?_
  refine ev_call (v1 := (some (.int o))) (h1 := (124, I, J, R)) rfl rfl c1 ?_
  refine ev_go 1 (pc1 := 108) (lv1 := [.ref 57, .ref 23, .int x, .int h, .int n, .int f, .int p]) (st1 := [.ref 23, .int o, .int p, .ref 62]) (h1 := (124, I, J, R)) rfl ?_
  refine ev_gf (c := 23) (t := 35) (X := R 23 11) rfl rfl (fun _ => rfl) rfl (hG 23 11 35 rfl rfl) ?_
  refine ev_go 1 (pc1 := 113) (lv1 := [.ref 57, .ref 23, .int x, .int h, .int n, .int f, .int p]) (st1 := [.int n, .ref 35, .int o, .int p, .ref 62]) (h1 := (124, I, J, R)) rfl ?_
  refine ev_call (v1 := (some (.int b))) (h1 := (124, I, J, R)) rfl rfl c2 ?_
  refine ev_go 1 (pc1 := 118) (lv1 := [.ref 57, .ref 23, .int x, .int h, .int n, .int f, .int p]) (st1 := [.int p, .int b, .int o, .int p, .ref 62]) (h1 := (124, I, J, R)) rfl ?_
  refine ev_go 4 (pc1 := 123) (lv1 := [.ref 57, .ref 23, .int x, .int h, .int n, .int f, .int p]) (st1 := [.int n, .int ((b >>> (p &&& 31)) &&& 1), .int o, .int p, .ref 62]) (h1 := (124, I, J, R)) rfl ?_
  refine ev_go 2 (pc1 := 125) (lv1 := [.ref 57, .ref 23, .int x, .int h, .int n, .int f, .int p]) (st1 := [.int (o ||| (((b >>> (p &&& 31)) &&& 1) <<< (n &&& 31))), .int p, .ref 62]) (h1 := (124, I, J, R)) rfl ?_
  refine ev_call (v1 := none) (h1 := (124, I1, J, R)) rfl rfl c3 ?_
  refine ev_go 2 (pc1 := 83) (lv1 := [.ref 57, .ref 23, .int x, .int h, .int n, .int f, .int (p + 1)]) (st1 := []) (h1 := (124, I1, J, R)) rfl ?_
  exact hk
set_option maxRecDepth 20000 in
theorem ywo_k_23 {L : Nat} {xs : Nat → Int32} {d : Nat} {I : Nat → Nat → Int32} {J : Nat → Nat → Int64} {R : Nat → Nat → Nat} (hG : aGd R) (b1 : (I 57 8).toInt ≠ 0) : xEv L xs d 84 0 [.ref 57, .ref 23, xmk, xmk, xmk] [] (124, I, J, R) none (124, I, J, R) := by
  refine ev_go 2 (pc1 := 4) (lv1 := [.ref 57, .ref 23, xmk, xmk, xmk]) (st1 := [.int (I 57 8)]) (h1 := (124, I, J, R)) rfl ?_
  refine ev_br (b1 := false) rfl rfl (xcd_neq (x := (I 57 8)) (y := 0) (by rw [show ((0 : Int32)).toInt = 0 from by decide]; first | exact b1 | omega)) ?_
  exact ev_ret rfl rfl
set_option maxRecDepth 20000 in
theorem ywo_s_23 {L : Nat} {xs : Nat → Int32} {d : Nat} {I : Nat → Nat → Int32} {J : Nat → Nat → Int64} {R : Nat → Nat → Nat} {I1 : Nat → Nat → Int32} (hG : aGd R) (b1 : (I 57 8).toInt = 0) (c1 : xEv L xs d 85 0 [.ref 57, .ref 23, xmk, xmk, xmk, xmk, xmk] [] (124, (uI I 57 8 1), J, R) none (124, I1, J, R)) {v : Option Value} {h' : xH} (hk : xEv L xs (d + 1) 84 22 [.ref 57, .ref 23, .int 0, .int 0, xmk] [] (124, I1, J, R) v h') : xEv L xs (d + 1) 84 0 [.ref 57, .ref 23, xmk, xmk, xmk] [] (124, I, J, R) v h' := by
  refine ev_go 2 (pc1 := 4) (lv1 := [.ref 57, .ref 23, xmk, xmk, xmk]) (st1 := [.int (I 57 8)]) (h1 := (124, I, J, R)) rfl ?_
  refine ev_br (b1 := true) rfl rfl (xcd_eq (x := (I 57 8)) (y := 0) (by rw [show ((0 : Int32)).toInt = 0 from by decide]; first | exact b1 | omega)) ?_
  refine ev_go 5 (pc1 := 15) (lv1 := [.ref 57, .ref 23, xmk, xmk, xmk]) (st1 := [.ref 23, .ref 57]) (h1 := (124, (uI I 57 8 1), J, R)) rfl ?_
  refine ev_call (v1 := none) (h1 := (124, I1, J, R)) rfl rfl c1 ?_
  refine ev_go 4 (pc1 := 22) (lv1 := [.ref 57, .ref 23, .int 0, .int 0, xmk]) (st1 := []) (h1 := (124, I1, J, R)) rfl ?_
  exact hk
set_option maxRecDepth 20000 in
theorem ywo_e_23 {L : Nat} {xs : Nat → Int32} {d : Nat} {I : Nat → Nat → Int32} {J : Nat → Nat → Int64} {R : Nat → Nat → Nat} {q t : Int32} {w4 : Value} (hG : aGd R) (b1 : t.toInt ≥ (I 37 5).toInt) {v : Option Value} {h' : xH} (hk : xEv L xs d 84 131 [.ref 57, .ref 23, .int q, .int 0, w4] [] (124, (uI I 57 6 0), J, R) v h') : xEv L xs d 84 22 [.ref 57, .ref 23, .int q, .int t, w4] [] (124, I, J, R) v h' := by
  refine ev_go 2 (pc1 := 24) (lv1 := [.ref 57, .ref 23, .int q, .int t, w4]) (st1 := [.ref 23, .int t]) (h1 := (124, I, J, R)) rfl ?_
  refine ev_gf (c := 23) (t := 37) (X := R 23 13) rfl rfl (fun _ => rfl) rfl (hG 23 13 37 rfl rfl) ?_
  refine ev_go 1 (pc1 := 30) (lv1 := [.ref 57, .ref 23, .int q, .int t, w4]) (st1 := [.int (I 37 5), .int t]) (h1 := (124, I, J, R)) rfl ?_
  refine ev_br (b1 := true) rfl rfl (xcd_ge (x := t) (y := (I 37 5)) (by first | exact b1 | omega)) ?_
  refine ev_go 5 (pc1 := 131) (lv1 := [.ref 57, .ref 23, .int q, .int 0, w4]) (st1 := []) (h1 := (124, (uI I 57 6 0), J, R)) rfl ?_
  exact hk
set_option maxRecDepth 20000 in
theorem ywo_q_23 {L : Nat} {xs : Nat → Int32} {d : Nat} {I : Nat → Nat → Int32} {J : Nat → Nat → Int64} {R : Nat → Nat → Nat} {q t : Int32} {w4 : Value} (hG : aGd R) (b1 : t.toInt < (I 37 5).toInt) (b2 : q.toInt ≥ (I 23 15).toInt) {v : Option Value} {h' : xH} (hk : xEv L xs d 84 66 [.ref 57, .ref 23, .int q, .int t, .int 0] [] (124, (uI I 57 7 0), J, R) v h') : xEv L xs d 84 22 [.ref 57, .ref 23, .int q, .int t, w4] [] (124, I, J, R) v h' := by
  refine ev_go 2 (pc1 := 24) (lv1 := [.ref 57, .ref 23, .int q, .int t, w4]) (st1 := [.ref 23, .int t]) (h1 := (124, I, J, R)) rfl ?_
  refine ev_gf (c := 23) (t := 37) (X := R 23 13) rfl rfl (fun _ => rfl) rfl (hG 23 13 37 rfl rfl) ?_
  refine ev_go 1 (pc1 := 30) (lv1 := [.ref 57, .ref 23, .int q, .int t, w4]) (st1 := [.int (I 37 5), .int t]) (h1 := (124, I, J, R)) rfl ?_
  refine ev_br (b1 := false) rfl rfl (xcd_nge (x := t) (y := (I 37 5)) (by first | exact b1 | omega)) ?_
  refine ev_go 6 (pc1 := 43) (lv1 := [.ref 57, .ref 23, .int q, .int t, w4]) (st1 := [.int (I 23 15), .int q]) (h1 := (124, (uI I 57 7 0), J, R)) rfl ?_
  refine ev_br (b1 := true) rfl rfl (xcd_ge (x := q) (y := (I 23 15)) (by first | exact b2 | omega)) ?_
  refine ev_go 2 (pc1 := 66) (lv1 := [.ref 57, .ref 23, .int q, .int t, .int 0]) (st1 := []) (h1 := (124, (uI I 57 7 0), J, R)) rfl ?_
  exact hk
set_option maxRecDepth 20000 in
theorem ywo_u_23 {L : Nat} {xs : Nat → Int32} {d : Nat} {I : Nat → Nat → Int32} {J : Nat → Nat → Int64} {R : Nat → Nat → Nat} {q t : Int32} {w4 : Value} (hG : aGd R) (b1 : t.toInt < (I 37 5).toInt) (b2 : q.toInt < (I 23 15).toInt) (c1 : xEv L xs d 67 0 [.ref 37, .int t] [] (124, (uI I 57 7 0), J, R) (some (.int 0)) (124, (uI I 57 7 0), J, R)) {v : Option Value} {h' : xH} (hk : xEv L xs (d + 1) 84 66 [.ref 57, .ref 23, .int q, .int t, .int 0] [] (124, (uI I 57 7 0), J, R) v h') : xEv L xs (d + 1) 84 22 [.ref 57, .ref 23, .int q, .int t, w4] [] (124, I, J, R) v h' := by
  refine ev_go 2 (pc1 := 24) (lv1 := [.ref 57, .ref 23, .int q, .int t, w4]) (st1 := [.ref 23, .int t]) (h1 := (124, I, J, R)) rfl ?_
  refine ev_gf (c := 23) (t := 37) (X := R 23 13) rfl rfl (fun _ => rfl) rfl (hG 23 13 37 rfl rfl) ?_
  refine ev_go 1 (pc1 := 30) (lv1 := [.ref 57, .ref 23, .int q, .int t, w4]) (st1 := [.int (I 37 5), .int t]) (h1 := (124, I, J, R)) rfl ?_
  refine ev_br (b1 := false) rfl rfl (xcd_nge (x := t) (y := (I 37 5)) (by first | exact b1 | omega)) ?_
  refine ev_go 6 (pc1 := 43) (lv1 := [.ref 57, .ref 23, .int q, .int t, w4]) (st1 := [.int (I 23 15), .int q]) (h1 := (124, (uI I 57 7 0), J, R)) rfl ?_
  refine ev_br (b1 := false) rfl rfl (xcd_nge (x := q) (y := (I 23 15)) (by first | exact b2 | omega)) ?_
  refine ev_go 1 (pc1 := 47) (lv1 := [.ref 57, .ref 23, .int q, .int t, w4]) (st1 := [.ref 23]) (h1 := (124, (uI I 57 7 0), J, R)) rfl ?_
  refine ev_gf (c := 23) (t := 37) (X := R 23 13) rfl rfl (fun _ => rfl) rfl (hG 23 13 37 rfl rfl) ?_
  refine ev_go 1 (pc1 := 51) (lv1 := [.ref 57, .ref 23, .int q, .int t, w4]) (st1 := [.int t, .ref 37]) (h1 := (124, (uI I 57 7 0), J, R)) rfl ?_
  refine ev_call (v1 := (some (.int 0))) (h1 := (124, (uI I 57 7 0), J, R)) rfl rfl c1 ?_
  refine ev_go 3 (pc1 := 66) (lv1 := [.ref 57, .ref 23, .int q, .int t, .int 0]) (st1 := []) (h1 := (124, (uI I 57 7 0), J, R)) rfl ?_
  exact hk
set_option maxRecDepth 20000 in
theorem ywo_p_23 {L : Nat} {xs : Nat → Int32} {d : Nat} {I : Nat → Nat → Int32} {J : Nat → Nat → Int64} {R : Nat → Nat → Nat} {I1 : Nat → Nat → Int32} {q t : Int32} {w4 : Value} (hG : aGd R) (b1 : t.toInt < (I 37 5).toInt) (b2 : q.toInt < (I 23 15).toInt) (c1 : xEv L xs d 67 0 [.ref 37, .int t] [] (124, (uI I 57 7 0), J, R) (some (.int 1)) (124, (uI I 57 7 0), J, R)) (c2 : xEv L xs d 88 0 [.ref 57, .ref 23, .int t, xmk, xmk] [] (124, (uI I 57 7 0), J, R) none (124, I1, J, R)) {v : Option Value} {h' : xH} (hk : xEv L xs (d + 1) 84 66 [.ref 57, .ref 23, .int q, .int t, .int 0] [] (124, I1, J, R) v h') : xEv L xs (d + 1) 84 22 [.ref 57, .ref 23, .int q, .int t, w4] [] (124, I, J, R) v h' := by
  refine ev_go 2 (pc1 := 24) (lv1 := [.ref 57, .ref 23, .int q, .int t, w4]) (st1 := [.ref 23, .int t]) (h1 := (124, I, J, R)) rfl ?_
  refine ev_gf (c := 23) (t := 37) (X := R 23 13) rfl rfl (fun _ => rfl) rfl (hG 23 13 37 rfl rfl) ?_
  refine ev_go 1 (pc1 := 30) (lv1 := [.ref 57, .ref 23, .int q, .int t, w4]) (st1 := [.int (I 37 5), .int t]) (h1 := (124, I, J, R)) rfl ?_
  refine ev_br (b1 := false) rfl rfl (xcd_nge (x := t) (y := (I 37 5)) (by first | exact b1 | omega)) ?_
  refine ev_go 6 (pc1 := 43) (lv1 := [.ref 57, .ref 23, .int q, .int t, w4]) (st1 := [.int (I 23 15), .int q]) (h1 := (124, (uI I 57 7 0), J, R)) rfl ?_
  refine ev_br (b1 := false) rfl rfl (xcd_nge (x := q) (y := (I 23 15)) (by first | exact b2 | omega)) ?_
  refine ev_go 1 (pc1 := 47) (lv1 := [.ref 57, .ref 23, .int q, .int t, w4]) (st1 := [.ref 23]) (h1 := (124, (uI I 57 7 0), J, R)) rfl ?_
  refine ev_gf (c := 23) (t := 37) (X := R 23 13) rfl rfl (fun _ => rfl) rfl (hG 23 13 37 rfl rfl) ?_
  refine ev_go 1 (pc1 := 51) (lv1 := [.ref 57, .ref 23, .int q, .int t, w4]) (st1 := [.int t, .ref 37]) (h1 := (124, (uI I 57 7 0), J, R)) rfl ?_
  refine ev_call (v1 := (some (.int 1))) (h1 := (124, (uI I 57 7 0), J, R)) rfl rfl c1 ?_
  refine ev_go 4 (pc1 := 60) (lv1 := [.ref 57, .ref 23, .int q, .int t, w4]) (st1 := [.int t, .ref 23, .ref 57]) (h1 := (124, (uI I 57 7 0), J, R)) rfl ?_
  refine ev_call (v1 := none) (h1 := (124, I1, J, R)) rfl rfl c2 ?_
  refine ev_go 2 (pc1 := 66) (lv1 := [.ref 57, .ref 23, .int q, .int t, .int 0]) (st1 := []) (h1 := (124, I1, J, R)) rfl ?_
  exact hk
set_option maxRecDepth 20000 in
theorem ywo_0_23 {L : Nat} {xs : Nat → Int32} {d : Nat} {I : Nat → Nat → Int32} {J : Nat → Nat → Int64} {R : Nat → Nat → Nat} {q t n : Int32} (hG : aGd R) (b1 : n.toInt ≥ (I 23 16).toInt) (b2 : (I 57 7).toInt = 0) {v : Option Value} {h' : xH} (hk : xEv L xs d 84 22 [.ref 57, .ref 23, .int (q + 1), .int (t + 1), .int n] [] (124, I, J, R) v h') : xEv L xs d 84 66 [.ref 57, .ref 23, .int q, .int t, .int n] [] (124, I, J, R) v h' := by
  refine ev_go 3 (pc1 := 72) (lv1 := [.ref 57, .ref 23, .int q, .int t, .int n]) (st1 := [.int (I 23 16), .int n]) (h1 := (124, I, J, R)) rfl ?_
  refine ev_br (b1 := true) rfl rfl (xcd_ge (x := n) (y := (I 23 16)) (by first | exact b1 | omega)) ?_
  refine ev_go 2 (pc1 := 107) (lv1 := [.ref 57, .ref 23, .int q, .int t, .int n]) (st1 := [.int (I 57 7)]) (h1 := (124, I, J, R)) rfl ?_
  refine ev_br (b1 := true) rfl rfl (xcd_eq (x := (I 57 7)) (y := 0) (by rw [show ((0 : Int32)).toInt = 0 from by decide]; first | exact b2 | omega)) ?_
  refine ev_go 6 (pc1 := 22) (lv1 := [.ref 57, .ref 23, .int (q + 1), .int (t + 1), .int n]) (st1 := []) (h1 := (124, I, J, R)) rfl ?_
  exact hk
set_option maxRecDepth 20000 in
theorem ywo_1_23 {L : Nat} {xs : Nat → Int32} {d : Nat} {I : Nat → Nat → Int32} {J : Nat → Nat → Int64} {R : Nat → Nat → Nat} {q t n : Int32} (hG : aGd R) (b1 : n.toInt ≥ (I 23 16).toInt) (b2 : (I 57 7).toInt ≠ 0) {v : Option Value} {h' : xH} (hk : xEv L xs d 84 22 [.ref 57, .ref 23, .int 0, .int (t + 1), .int n] [] (124, I, J, R) v h') : xEv L xs d 84 66 [.ref 57, .ref 23, .int q, .int t, .int n] [] (124, I, J, R) v h' := by
  refine ev_go 3 (pc1 := 72) (lv1 := [.ref 57, .ref 23, .int q, .int t, .int n]) (st1 := [.int (I 23 16), .int n]) (h1 := (124, I, J, R)) rfl ?_
  refine ev_br (b1 := true) rfl rfl (xcd_ge (x := n) (y := (I 23 16)) (by first | exact b1 | omega)) ?_
  refine ev_go 2 (pc1 := 107) (lv1 := [.ref 57, .ref 23, .int q, .int t, .int n]) (st1 := [.int (I 57 7)]) (h1 := (124, I, J, R)) rfl ?_
  refine ev_br (b1 := false) rfl rfl (xcd_neq (x := (I 57 7)) (y := 0) (by rw [show ((0 : Int32)).toInt = 0 from by decide]; first | exact b2 | omega)) ?_
  refine ev_go 5 (pc1 := 22) (lv1 := [.ref 57, .ref 23, .int 0, .int (t + 1), .int n]) (st1 := []) (h1 := (124, I, J, R)) rfl ?_
  exact hk
set_option maxRecDepth 20000 in
theorem ywo_m_23 {L : Nat} {xs : Nat → Int32} {d : Nat} {I : Nat → Nat → Int32} {J : Nat → Nat → Int64} {R : Nat → Nat → Nat} {q t n k : Int32} (hG : aGd R) (b1 : n.toInt < (I 23 16).toInt) (c1 : xEv L xs d 39 0 [.ref 36, .int n] [] (124, I, J, R) (some (.int k)) (124, I, J, R)) (b2 : k.toInt ≠ (t + 1).toInt) {v : Option Value} {h' : xH} (hk : xEv L xs (d + 1) 84 66 [.ref 57, .ref 23, .int q, .int t, .int (n + 1)] [] (124, I, J, R) v h') : xEv L xs (d + 1) 84 66 [.ref 57, .ref 23, .int q, .int t, .int n] [] (124, I, J, R) v h' := by
  refine ev_go 3 (pc1 := 72) (lv1 := [.ref 57, .ref 23, .int q, .int t, .int n]) (st1 := [.int (I 23 16), .int n]) (h1 := (124, I, J, R)) rfl ?_
  refine ev_br (b1 := false) rfl rfl (xcd_nge (x := n) (y := (I 23 16)) (by first | exact b1 | omega)) ?_
  refine ev_go 1 (pc1 := 76) (lv1 := [.ref 57, .ref 23, .int q, .int t, .int n]) (st1 := [.ref 23]) (h1 := (124, I, J, R)) rfl ?_
  refine ev_gf (c := 23) (t := 36) (X := R 23 12) rfl rfl (fun _ => rfl) rfl (hG 23 12 36 rfl rfl) ?_
  refine ev_go 1 (pc1 := 81) (lv1 := [.ref 57, .ref 23, .int q, .int t, .int n]) (st1 := [.int n, .ref 36]) (h1 := (124, I, J, R)) rfl ?_
  refine ev_call (v1 := (some (.int k))) (h1 := (124, I, J, R)) rfl rfl c1 ?_
  refine ev_go 3 (pc1 := 87) (lv1 := [.ref 57, .ref 23, .int q, .int t, .int n]) (st1 := [.int (t + 1), .int k]) (h1 := (124, I, J, R)) rfl ?_
  refine ev_br (b1 := true) rfl rfl (xcd_ne (x := k) (y := (t + 1)) (by first | exact b2 | omega)) ?_
  refine ev_go 2 (pc1 := 66) (lv1 := [.ref 57, .ref 23, .int q, .int t, .int (n + 1)]) (st1 := []) (h1 := (124, I, J, R)) rfl ?_
  exact hk
set_option maxRecDepth 20000 in
theorem ywo_r_23 {L : Nat} {xs : Nat → Int32} {d : Nat} {I : Nat → Nat → Int32} {J : Nat → Nat → Int64} {R : Nat → Nat → Nat} {I1 : Nat → Nat → Int32} {q t n k : Int32} (hG : aGd R) (b1 : n.toInt < (I 23 16).toInt) (c1 : xEv L xs d 39 0 [.ref 36, .int n] [] (124, I, J, R) (some (.int k)) (124, I, J, R)) (b2 : k.toInt = (t + 1).toInt) (c2 : xEv L xs d 91 0 [.ref 57, .ref 23, .int n, xmk, xmk, xmk] [] (124, I, J, R) none (124, I1, J, R)) {v : Option Value} {h' : xH} (hk : xEv L xs (d + 1) 84 66 [.ref 57, .ref 23, .int q, .int t, .int (n + 1)] [] (124, I1, J, R) v h') : xEv L xs (d + 1) 84 66 [.ref 57, .ref 23, .int q, .int t, .int n] [] (124, I, J, R) v h' := by
  refine ev_go 3 (pc1 := 72) (lv1 := [.ref 57, .ref 23, .int q, .int t, .int n]) (st1 := [.int (I 23 16), .int n]) (h1 := (124, I, J, R)) rfl ?_
  refine ev_br (b1 := false) rfl rfl (xcd_nge (x := n) (y := (I 23 16)) (by first | exact b1 | omega)) ?_
  refine ev_go 1 (pc1 := 76) (lv1 := [.ref 57, .ref 23, .int q, .int t, .int n]) (st1 := [.ref 23]) (h1 := (124, I, J, R)) rfl ?_
  refine ev_gf (c := 23) (t := 36) (X := R 23 12) rfl rfl (fun _ => rfl) rfl (hG 23 12 36 rfl rfl) ?_
  refine ev_go 1 (pc1 := 81) (lv1 := [.ref 57, .ref 23, .int q, .int t, .int n]) (st1 := [.int n, .ref 36]) (h1 := (124, I, J, R)) rfl ?_
  refine ev_call (v1 := (some (.int k))) (h1 := (124, I, J, R)) rfl rfl c1 ?_
  refine ev_go 3 (pc1 := 87) (lv1 := [.ref 57, .ref 23, .int q, .int t, .int n]) (st1 := [.int (t + 1), .int k]) (h1 := (124, I, J, R)) rfl ?_
  refine ev_br (b1 := false) rfl rfl (xcd_nne (x := k) (y := (t + 1)) (by first | exact b2 | omega)) ?_
  refine ev_go 3 (pc1 := 94) (lv1 := [.ref 57, .ref 23, .int q, .int t, .int n]) (st1 := [.int n, .ref 23, .ref 57]) (h1 := (124, I, J, R)) rfl ?_
  refine ev_call (v1 := none) (h1 := (124, I1, J, R)) rfl rfl c2 ?_
  refine ev_go 2 (pc1 := 66) (lv1 := [.ref 57, .ref 23, .int q, .int t, .int (n + 1)]) (st1 := []) (h1 := (124, I1, J, R)) rfl ?_
  exact hk
set_option maxRecDepth 20000 in
theorem ywo_g_23 {L : Nat} {xs : Nat → Int32} {d : Nat} {I : Nat → Nat → Int32} {J : Nat → Nat → Int64} {R : Nat → Nat → Nat} {q i : Int32} {w4 : Value} (hG : aGd R) (b1 : i.toInt ≥ (I 57 5).toInt) : xEv L xs d 84 131 [.ref 57, .ref 23, .int q, .int i, w4] [] (124, I, J, R) none (124, I, J, R) := by
  refine ev_go 3 (pc1 := 136) (lv1 := [.ref 57, .ref 23, .int q, .int i, w4]) (st1 := [.int (I 57 5), .int i]) (h1 := (124, I, J, R)) rfl ?_
  refine ev_br (b1 := true) rfl rfl (xcd_ge (x := i) (y := (I 57 5)) (by first | exact b1 | omega)) ?_
  exact ev_ret rfl rfl
set_option maxRecDepth 20000 in
theorem ywo_h_23 {L : Nat} {xs : Nat → Int32} {d : Nat} {I : Nat → Nat → Int32} {J : Nat → Nat → Int64} {R : Nat → Nat → Nat} {q i x o : Int32} {w4 : Value} (hG : aGd R) (b1 : i.toInt < (I 57 5).toInt) (c1 : xEv L xs d 39 0 [.ref 59, .int i] [] (124, I, J, R) (some (.int x)) (124, I, J, R)) (c2 : xEv L xs d 39 0 [.ref 58, .int x] [] (124, I, J, R) (some (.int o)) (124, I, J, R)) {v : Option Value} {h' : xH} (hk : xEv L xs (d + 1) 84 131 [.ref 57, .ref 23, .int q, .int (i + 1), w4] [] (124, (uI I 57 6 (if (I 57 6) < o then o else (I 57 6))), J, R) v h') : xEv L xs (d + 1) 84 131 [.ref 57, .ref 23, .int q, .int i, w4] [] (124, I, J, R) v h' := by
  refine ev_go 3 (pc1 := 136) (lv1 := [.ref 57, .ref 23, .int q, .int i, w4]) (st1 := [.int (I 57 5), .int i]) (h1 := (124, I, J, R)) rfl ?_
  refine ev_br (b1 := false) rfl rfl (xcd_nge (x := i) (y := (I 57 5)) (by first | exact b1 | omega)) ?_
  refine ev_go 4 (pc1 := 145) (lv1 := [.ref 57, .ref 23, .int q, .int i, w4]) (st1 := [.ref 57, .int (I 57 6), .ref 57]) (h1 := (124, I, J, R)) rfl ?_
  refine ev_gf (c := 57) (t := 58) (X := R 57 0) rfl rfl (fun _ => rfl) rfl (hG 57 0 58 rfl rfl) ?_
  refine ev_go 1 (pc1 := 149) (lv1 := [.ref 57, .ref 23, .int q, .int i, w4]) (st1 := [.ref 57, .ref 58, .int (I 57 6), .ref 57]) (h1 := (124, I, J, R)) rfl ?_
  refine ev_gf (c := 57) (t := 59) (X := R 57 1) rfl rfl (fun _ => rfl) rfl (hG 57 1 59 rfl rfl) ?_
  refine ev_go 1 (pc1 := 153) (lv1 := [.ref 57, .ref 23, .int q, .int i, w4]) (st1 := [.int i, .ref 59, .ref 58, .int (I 57 6), .ref 57]) (h1 := (124, I, J, R)) rfl ?_
  refine ev_call (v1 := (some (.int x))) (h1 := (124, I, J, R)) rfl rfl c1 ?_
  refine ev_call (v1 := (some (.int o))) (h1 := (124, I, J, R)) rfl rfl c2 ?_
  refine ev_go 4 (pc1 := 131) (lv1 := [.ref 57, .ref 23, .int q, .int (i + 1), w4]) (st1 := []) (h1 := (124, (uI I 57 6 (if (I 57 6) < o then o else (I 57 6))), J, R)) rfl ?_
  exact hk
set_option maxRecDepth 20000 in
theorem yto_0_23 {L : Nat} {xs : Nat → Int32} {d : Nat} {I : Nat → Nat → Int32} {J : Nat → Nat → Int64} {R : Nat → Nat → Nat} {u q : Int32} (hG : aGd R) (b1 : u.toInt < 1) : xEv L xs d 93 0 [.ref 0, .int u, .int q, xmk] [] (124, I, J, R) (some (.int (-2))) (124, I, J, R) := by
  refine ev_go 2 (pc1 := 2) (lv1 := [.ref 0, .int u, .int q, xmk]) (st1 := [.int 1, .int u]) (h1 := (124, I, J, R)) rfl ?_
  refine ev_br (b1 := true) rfl rfl (xcd_lt (x := u) (y := 1) (by rw [show ((1 : Int32)).toInt = 1 from by decide]; first | exact b1 | omega)) ?_
  refine ev_go 1 (pc1 := 31) (lv1 := [.ref 0, .int u, .int q, xmk]) (st1 := [.int (-2)]) (h1 := (124, I, J, R)) rfl ?_
  exact ev_ret rfl rfl
set_option maxRecDepth 20000 in
theorem yto_1_23 {L : Nat} {xs : Nat → Int32} {d : Nat} {I : Nat → Nat → Int32} {J : Nat → Nat → Int64} {R : Nat → Nat → Nat} {u q : Int32} (hG : aGd R) (b1 : u.toInt ≥ 1) (r_R_0_8 : R 0 8 = 24) (b2 : u.toInt ≥ (1 <<< ((I 23 16) &&& 31)).toInt) : xEv L xs d 93 0 [.ref 0, .int u, .int q, xmk] [] (124, I, J, R) (some (.int (-2))) (124, I, J, R) := by
  refine ev_go 2 (pc1 := 2) (lv1 := [.ref 0, .int u, .int q, xmk]) (st1 := [.int 1, .int u]) (h1 := (124, I, J, R)) rfl ?_
  refine ev_br (b1 := false) rfl rfl (xcd_nlt (x := u) (y := 1) (by rw [show ((1 : Int32)).toInt = 1 from by decide]; first | exact b1 | omega)) ?_
  refine ev_go 3 (pc1 := 8) (lv1 := [.ref 0, .int u, .int q, xmk]) (st1 := [.ref 0, .int 1, .int u]) (h1 := (124, I, J, R)) rfl ?_
  refine ev_gf (c := 0) (t := 23) (X := R 0 8) rfl rfl (fun _ => rfl) rfl r_R_0_8 ?_
  refine ev_go 1 (pc1 := 14) (lv1 := [.ref 0, .int u, .int q, xmk]) (st1 := [.int (I 23 16), .int 1, .int u]) (h1 := (124, I, J, R)) rfl ?_
  refine ev_go 1 (pc1 := 15) (lv1 := [.ref 0, .int u, .int q, xmk]) (st1 := [.int (1 <<< ((I 23 16) &&& 31)), .int u]) (h1 := (124, I, J, R)) rfl ?_
  refine ev_br (b1 := true) rfl rfl (xcd_ge (x := u) (y := (1 <<< ((I 23 16) &&& 31))) (by first | exact b2 | omega)) ?_
  refine ev_go 1 (pc1 := 31) (lv1 := [.ref 0, .int u, .int q, xmk]) (st1 := [.int (-2)]) (h1 := (124, I, J, R)) rfl ?_
  exact ev_ret rfl rfl
set_option maxRecDepth 20000 in
theorem yto_2_23 {L : Nat} {xs : Nat → Int32} {d : Nat} {I : Nat → Nat → Int32} {J : Nat → Nat → Int64} {R : Nat → Nat → Nat} {u q : Int32} (hG : aGd R) (b1 : u.toInt ≥ 1) (r_R_0_8 : R 0 8 = 24) (b2 : u.toInt < (1 <<< ((I 23 16) &&& 31)).toInt) (c1 : xEv L xs d 64 0 [.ref 23, .int q] [] (124, I, J, R) (some (.int 0)) (124, I, J, R)) : xEv L xs (d + 1) 93 0 [.ref 0, .int u, .int q, xmk] [] (124, I, J, R) (some (.int (-2))) (124, I, J, R) := by
  refine ev_go 2 (pc1 := 2) (lv1 := [.ref 0, .int u, .int q, xmk]) (st1 := [.int 1, .int u]) (h1 := (124, I, J, R)) rfl ?_
  refine ev_br (b1 := false) rfl rfl (xcd_nlt (x := u) (y := 1) (by rw [show ((1 : Int32)).toInt = 1 from by decide]; first | exact b1 | omega)) ?_
  refine ev_go 3 (pc1 := 8) (lv1 := [.ref 0, .int u, .int q, xmk]) (st1 := [.ref 0, .int 1, .int u]) (h1 := (124, I, J, R)) rfl ?_
  refine ev_gf (c := 0) (t := 23) (X := R 0 8) rfl rfl (fun _ => rfl) rfl r_R_0_8 ?_
  refine ev_go 1 (pc1 := 14) (lv1 := [.ref 0, .int u, .int q, xmk]) (st1 := [.int (I 23 16), .int 1, .int u]) (h1 := (124, I, J, R)) rfl ?_
  refine ev_go 1 (pc1 := 15) (lv1 := [.ref 0, .int u, .int q, xmk]) (st1 := [.int (1 <<< ((I 23 16) &&& 31)), .int u]) (h1 := (124, I, J, R)) rfl ?_
  refine ev_br (b1 := false) rfl rfl (xcd_nge (x := u) (y := (1 <<< ((I 23 16) &&& 31))) (by first | exact b2 | omega)) ?_
  refine ev_go 1 (pc1 := 19) (lv1 := [.ref 0, .int u, .int q, xmk]) (st1 := [.ref 0]) (h1 := (124, I, J, R)) rfl ?_
  refine ev_gf (c := 0) (t := 23) (X := R 0 8) rfl rfl (fun _ => rfl) rfl r_R_0_8 ?_
  refine ev_go 1 (pc1 := 23) (lv1 := [.ref 0, .int u, .int q, xmk]) (st1 := [.int q, .ref 23]) (h1 := (124, I, J, R)) rfl ?_
  refine ev_call (v1 := (some (.int 0))) (h1 := (124, I, J, R)) rfl rfl c1 ?_
  refine ev_go 2 (pc1 := 31) (lv1 := [.ref 0, .int u, .int q, xmk]) (st1 := [.int (-2)]) (h1 := (124, I, J, R)) rfl ?_
  exact ev_ret rfl rfl
set_option maxRecDepth 20000 in
theorem yto_s_23 {L : Nat} {xs : Nat → Int32} {d : Nat} {I : Nat → Nat → Int32} {J : Nat → Nat → Int64} {R : Nat → Nat → Nat} {I1 : Nat → Nat → Int32} {u q o : Int32} (hG : aGd R) (b1 : u.toInt ≥ 1) (r_R_0_8 : R 0 8 = 24) (b2 : u.toInt < (1 <<< ((I 23 16) &&& 31)).toInt) (c1 : xEv L xs d 64 0 [.ref 23, .int q] [] (124, I, J, R) (some (.int 1)) (124, I, J, R)) (c2 : xEv L xs d 84 0 [.ref 57, .ref 23, xmk, xmk, xmk] [] (124, I, J, R) none (124, I1, J, R)) (c3 : xEv L xs d 94 0 [.ref 57, .int u, .int q, xmk, xmk] [] (124, I1, J, R) (some (.int o)) (124, I1, J, R)) (b3 : o.toInt = -1) : xEv L xs (d + 1) 93 0 [.ref 0, .int u, .int q, xmk] [] (124, I, J, R) (some (.int (-4))) (124, I1, J, R) := by
  refine ev_go 2 (pc1 := 2) (lv1 := [.ref 0, .int u, .int q, xmk]) (st1 := [.int 1, .int u]) (h1 := (124, I, J, R)) rfl ?_
  refine ev_br (b1 := false) rfl rfl (xcd_nlt (x := u) (y := 1) (by rw [show ((1 : Int32)).toInt = 1 from by decide]; first | exact b1 | omega)) ?_
  refine ev_go 3 (pc1 := 8) (lv1 := [.ref 0, .int u, .int q, xmk]) (st1 := [.ref 0, .int 1, .int u]) (h1 := (124, I, J, R)) rfl ?_
  refine ev_gf (c := 0) (t := 23) (X := R 0 8) rfl rfl (fun _ => rfl) rfl r_R_0_8 ?_
  refine ev_go 1 (pc1 := 14) (lv1 := [.ref 0, .int u, .int q, xmk]) (st1 := [.int (I 23 16), .int 1, .int u]) (h1 := (124, I, J, R)) rfl ?_
  refine ev_go 1 (pc1 := 15) (lv1 := [.ref 0, .int u, .int q, xmk]) (st1 := [.int (1 <<< ((I 23 16) &&& 31)), .int u]) (h1 := (124, I, J, R)) rfl ?_
  refine ev_br (b1 := false) rfl rfl (xcd_nge (x := u) (y := (1 <<< ((I 23 16) &&& 31))) (by first | exact b2 | omega)) ?_
  refine ev_go 1 (pc1 := 19) (lv1 := [.ref 0, .int u, .int q, xmk]) (st1 := [.ref 0]) (h1 := (124, I, J, R)) rfl ?_
  refine ev_gf (c := 0) (t := 23) (X := R 0 8) rfl rfl (fun _ => rfl) rfl r_R_0_8 ?_
  refine ev_go 1 (pc1 := 23) (lv1 := [.ref 0, .int u, .int q, xmk]) (st1 := [.int q, .ref 23]) (h1 := (124, I, J, R)) rfl ?_
  refine ev_call (v1 := (some (.int 1))) (h1 := (124, I, J, R)) rfl rfl c1 ?_
  refine ev_go 2 (pc1 := 33) (lv1 := [.ref 0, .int u, .int q, xmk]) (st1 := [.ref 0]) (h1 := (124, I, J, R)) rfl ?_
  refine ev_gf (c := 0) (t := 57) (X := R 0 6) rfl rfl (fun _ => rfl) rfl (hG 0 6 57 rfl rfl) ?_
  refine ev_go 1 (pc1 := 37) (lv1 := [.ref 0, .int u, .int q, xmk]) (st1 := [.ref 0, .ref 57]) (h1 := (124, I, J, R)) rfl ?_
  refine ev_gf (c := 0) (t := 23) (X := R 0 8) rfl rfl (fun _ => rfl) rfl r_R_0_8 ?_
  refine ev_call (v1 := none) (h1 := (124, I1, J, R)) rfl rfl c2 ?_
  refine ev_go 1 (pc1 := 44) (lv1 := [.ref 0, .int u, .int q, xmk]) (st1 := [.ref 0]) (h1 := (124, I1, J, R)) rfl ?_
  refine ev_gf (c := 0) (t := 57) (X := R 0 6) rfl rfl (fun _ => rfl) rfl (hG 0 6 57 rfl rfl) ?_
  refine ev_go 2 (pc1 := 49) (lv1 := [.ref 0, .int u, .int q, xmk]) (st1 := [.int q, .int u, .ref 57]) (h1 := (124, I1, J, R)) rfl ?_
  refine ev_call (v1 := (some (.int o))) (h1 := (124, I1, J, R)) rfl rfl c3 ?_
  refine ev_go 3 (pc1 := 55) (lv1 := [.ref 0, .int u, .int q, .int o]) (st1 := [.int (-1), .int o]) (h1 := (124, I1, J, R)) rfl ?_
  refine ev_br (b1 := false) rfl rfl (xcd_nne (x := o) (y := (-1)) (by rw [show ((-1 : Int32)).toInt = -1 from by decide]; first | exact b3 | omega)) ?_
  refine ev_go 1 (pc1 := 60) (lv1 := [.ref 0, .int u, .int q, .int o]) (st1 := [.int (-4)]) (h1 := (124, I1, J, R)) rfl ?_
  exact ev_ret rfl rfl
set_option maxRecDepth 20000 in
theorem yto_n_23 {L : Nat} {xs : Nat → Int32} {d : Nat} {I : Nat → Nat → Int32} {J : Nat → Nat → Int64} {R : Nat → Nat → Nat} {I1 : Nat → Nat → Int32} {u q o : Int32} (hG : aGd R) (b1 : u.toInt ≥ 1) (r_R_0_8 : R 0 8 = 24) (b2 : u.toInt < (1 <<< ((I 23 16) &&& 31)).toInt) (c1 : xEv L xs d 64 0 [.ref 23, .int q] [] (124, I, J, R) (some (.int 1)) (124, I, J, R)) (c2 : xEv L xs d 84 0 [.ref 57, .ref 23, xmk, xmk, xmk] [] (124, I, J, R) none (124, I1, J, R)) (c3 : xEv L xs d 94 0 [.ref 57, .int u, .int q, xmk, xmk] [] (124, I1, J, R) (some (.int o)) (124, I1, J, R)) (b3 : o.toInt ≠ -1) (b4 : o.toInt = 64) : xEv L xs (d + 1) 93 0 [.ref 0, .int u, .int q, xmk] [] (124, I, J, R) (some (.int (-1))) (124, I1, J, R) := by
  refine ev_go 2 (pc1 := 2) (lv1 := [.ref 0, .int u, .int q, xmk]) (st1 := [.int 1, .int u]) (h1 := (124, I, J, R)) rfl ?_
  refine ev_br (b1 := false) rfl rfl (xcd_nlt (x := u) (y := 1) (by rw [show ((1 : Int32)).toInt = 1 from by decide]; first | exact b1 | omega)) ?_
  refine ev_go 3 (pc1 := 8) (lv1 := [.ref 0, .int u, .int q, xmk]) (st1 := [.ref 0, .int 1, .int u]) (h1 := (124, I, J, R)) rfl ?_
  refine ev_gf (c := 0) (t := 23) (X := R 0 8) rfl rfl (fun _ => rfl) rfl r_R_0_8 ?_
  refine ev_go 1 (pc1 := 14) (lv1 := [.ref 0, .int u, .int q, xmk]) (st1 := [.int (I 23 16), .int 1, .int u]) (h1 := (124, I, J, R)) rfl ?_
  refine ev_go 1 (pc1 := 15) (lv1 := [.ref 0, .int u, .int q, xmk]) (st1 := [.int (1 <<< ((I 23 16) &&& 31)), .int u]) (h1 := (124, I, J, R)) rfl ?_
  refine ev_br (b1 := false) rfl rfl (xcd_nge (x := u) (y := (1 <<< ((I 23 16) &&& 31))) (by first | exact b2 | omega)) ?_
  refine ev_go 1 (pc1 := 19) (lv1 := [.ref 0, .int u, .int q, xmk]) (st1 := [.ref 0]) (h1 := (124, I, J, R)) rfl ?_
  refine ev_gf (c := 0) (t := 23) (X := R 0 8) rfl rfl (fun _ => rfl) rfl r_R_0_8 ?_
  refine ev_go 1 (pc1 := 23) (lv1 := [.ref 0, .int u, .int q, xmk]) (st1 := [.int q, .ref 23]) (h1 := (124, I, J, R)) rfl ?_
  refine ev_call (v1 := (some (.int 1))) (h1 := (124, I, J, R)) rfl rfl c1 ?_
  refine ev_go 2 (pc1 := 33) (lv1 := [.ref 0, .int u, .int q, xmk]) (st1 := [.ref 0]) (h1 := (124, I, J, R)) rfl ?_
  refine ev_gf (c := 0) (t := 57) (X := R 0 6) rfl rfl (fun _ => rfl) rfl (hG 0 6 57 rfl rfl) ?_
  refine ev_go 1 (pc1 := 37) (lv1 := [.ref 0, .int u, .int q, xmk]) (st1 := [.ref 0, .ref 57]) (h1 := (124, I, J, R)) rfl ?_
  refine ev_gf (c := 0) (t := 23) (X := R 0 8) rfl rfl (fun _ => rfl) rfl r_R_0_8 ?_
  refine ev_call (v1 := none) (h1 := (124, I1, J, R)) rfl rfl c2 ?_
  refine ev_go 1 (pc1 := 44) (lv1 := [.ref 0, .int u, .int q, xmk]) (st1 := [.ref 0]) (h1 := (124, I1, J, R)) rfl ?_
  refine ev_gf (c := 0) (t := 57) (X := R 0 6) rfl rfl (fun _ => rfl) rfl (hG 0 6 57 rfl rfl) ?_
  refine ev_go 2 (pc1 := 49) (lv1 := [.ref 0, .int u, .int q, xmk]) (st1 := [.int q, .int u, .ref 57]) (h1 := (124, I1, J, R)) rfl ?_
  refine ev_call (v1 := (some (.int o))) (h1 := (124, I1, J, R)) rfl rfl c3 ?_
  refine ev_go 3 (pc1 := 55) (lv1 := [.ref 0, .int u, .int q, .int o]) (st1 := [.int (-1), .int o]) (h1 := (124, I1, J, R)) rfl ?_
  refine ev_br (b1 := true) rfl rfl (xcd_ne (x := o) (y := (-1)) (by rw [show ((-1 : Int32)).toInt = -1 from by decide]; first | exact b3 | omega)) ?_
  refine ev_go 2 (pc1 := 64) (lv1 := [.ref 0, .int u, .int q, .int o]) (st1 := [.int 64, .int o]) (h1 := (124, I1, J, R)) rfl ?_
  refine ev_br (b1 := false) rfl rfl (xcd_nne (x := o) (y := 64) (by rw [show ((64 : Int32)).toInt = 64 from by decide]; first | exact b4 | omega)) ?_
  refine ev_go 2 (pc1 := 72) (lv1 := [.ref 0, .int u, .int q, .int o]) (st1 := [.int (-1)]) (h1 := (124, I1, J, R)) rfl ?_
  exact ev_ret rfl rfl
set_option maxRecDepth 20000 in
theorem yto_y_23 {L : Nat} {xs : Nat → Int32} {d : Nat} {I : Nat → Nat → Int32} {J : Nat → Nat → Int64} {R : Nat → Nat → Nat} {I1 : Nat → Nat → Int32} {u q o : Int32} (hG : aGd R) (b1 : u.toInt ≥ 1) (r_R_0_8 : R 0 8 = 24) (b2 : u.toInt < (1 <<< ((I 23 16) &&& 31)).toInt) (c1 : xEv L xs d 64 0 [.ref 23, .int q] [] (124, I, J, R) (some (.int 1)) (124, I, J, R)) (c2 : xEv L xs d 84 0 [.ref 57, .ref 23, xmk, xmk, xmk] [] (124, I, J, R) none (124, I1, J, R)) (c3 : xEv L xs d 94 0 [.ref 57, .int u, .int q, xmk, xmk] [] (124, I1, J, R) (some (.int o)) (124, I1, J, R)) (b3 : o.toInt ≠ -1) (b4 : o.toInt ≠ 64) : xEv L xs (d + 1) 93 0 [.ref 0, .int u, .int q, xmk] [] (124, I, J, R) (some (.int o)) (124, I1, J, R) := by
  refine ev_go 2 (pc1 := 2) (lv1 := [.ref 0, .int u, .int q, xmk]) (st1 := [.int 1, .int u]) (h1 := (124, I, J, R)) rfl ?_
  refine ev_br (b1 := false) rfl rfl (xcd_nlt (x := u) (y := 1) (by rw [show ((1 : Int32)).toInt = 1 from by decide]; first | exact b1 | omega)) ?_
  refine ev_go 3 (pc1 := 8) (lv1 := [.ref 0, .int u, .int q, xmk]) (st1 := [.ref 0, .int 1, .int u]) (h1 := (124, I, J, R)) rfl ?_
  refine ev_gf (c := 0) (t := 23) (X := R 0 8) rfl rfl (fun _ => rfl) rfl r_R_0_8 ?_
  refine ev_go 1 (pc1 := 14) (lv1 := [.ref 0, .int u, .int q, xmk]) (st1 := [.int (I 23 16), .int 1, .int u]) (h1 := (124, I, J, R)) rfl ?_
  refine ev_go 1 (pc1 := 15) (lv1 := [.ref 0, .int u, .int q, xmk]) (st1 := [.int (1 <<< ((I 23 16) &&& 31)), .int u]) (h1 := (124, I, J, R)) rfl ?_
  refine ev_br (b1 := false) rfl rfl (xcd_nge (x := u) (y := (1 <<< ((I 23 16) &&& 31))) (by first | exact b2 | omega)) ?_
  refine ev_go 1 (pc1 := 19) (lv1 := [.ref 0, .int u, .int q, xmk]) (st1 := [.ref 0]) (h1 := (124, I, J, R)) rfl ?_
  refine ev_gf (c := 0) (t := 23) (X := R 0 8) rfl rfl (fun _ => rfl) rfl r_R_0_8 ?_
  refine ev_go 1 (pc1 := 23) (lv1 := [.ref 0, .int u, .int q, xmk]) (st1 := [.int q, .ref 23]) (h1 := (124, I, J, R)) rfl ?_
  refine ev_call (v1 := (some (.int 1))) (h1 := (124, I, J, R)) rfl rfl c1 ?_
  refine ev_go 2 (pc1 := 33) (lv1 := [.ref 0, .int u, .int q, xmk]) (st1 := [.ref 0]) (h1 := (124, I, J, R)) rfl ?_
  refine ev_gf (c := 0) (t := 57) (X := R 0 6) rfl rfl (fun _ => rfl) rfl (hG 0 6 57 rfl rfl) ?_
  refine ev_go 1 (pc1 := 37) (lv1 := [.ref 0, .int u, .int q, xmk]) (st1 := [.ref 0, .ref 57]) (h1 := (124, I, J, R)) rfl ?_
  refine ev_gf (c := 0) (t := 23) (X := R 0 8) rfl rfl (fun _ => rfl) rfl r_R_0_8 ?_
  refine ev_call (v1 := none) (h1 := (124, I1, J, R)) rfl rfl c2 ?_
  refine ev_go 1 (pc1 := 44) (lv1 := [.ref 0, .int u, .int q, xmk]) (st1 := [.ref 0]) (h1 := (124, I1, J, R)) rfl ?_
  refine ev_gf (c := 0) (t := 57) (X := R 0 6) rfl rfl (fun _ => rfl) rfl (hG 0 6 57 rfl rfl) ?_
  refine ev_go 2 (pc1 := 49) (lv1 := [.ref 0, .int u, .int q, xmk]) (st1 := [.int q, .int u, .ref 57]) (h1 := (124, I1, J, R)) rfl ?_
  refine ev_call (v1 := (some (.int o))) (h1 := (124, I1, J, R)) rfl rfl c3 ?_
  refine ev_go 3 (pc1 := 55) (lv1 := [.ref 0, .int u, .int q, .int o]) (st1 := [.int (-1), .int o]) (h1 := (124, I1, J, R)) rfl ?_
  refine ev_br (b1 := true) rfl rfl (xcd_ne (x := o) (y := (-1)) (by rw [show ((-1 : Int32)).toInt = -1 from by decide]; first | exact b3 | omega)) ?_
  refine ev_go 2 (pc1 := 64) (lv1 := [.ref 0, .int u, .int q, .int o]) (st1 := [.int 64, .int o]) (h1 := (124, I1, J, R)) rfl ?_
  refine ev_br (b1 := true) rfl rfl (xcd_ne (x := o) (y := 64) (by rw [show ((64 : Int32)).toInt = 64 from by decide]; first | exact b4 | omega)) ?_
  refine ev_go 1 (pc1 := 72) (lv1 := [.ref 0, .int u, .int q, .int o]) (st1 := [.int o]) (h1 := (124, I1, J, R)) rfl ?_
  exact ev_ret rfl rfl
set_option maxRecDepth 20000 in
theorem ywa_s_23 {L : Nat} {xs : Nat → Int32} {d : Nat} {I : Nat → Nat → Int32} {J : Nat → Nat → Int64} {R : Nat → Nat → Nat} (hG : aGd R)  {v : Option Value} {h' : xH} (hk : xEv L xs d 92 4 [.ref 0, .int 0, .int 0, xmk] [] (124, I, J, R) v h') : xEv L xs d 92 0 [.ref 0, xmk, xmk, xmk] [] (124, I, J, R) v h' := by
  refine ev_go 4 (pc1 := 4) (lv1 := [.ref 0, .int 0, .int 0, xmk]) (st1 := []) (h1 := (124, I, J, R)) rfl ?_
  exact hk
set_option maxRecDepth 20000 in
theorem ywa_e_23 {L : Nat} {xs : Nat → Int32} {d : Nat} {I : Nat → Nat → Int32} {J : Nat → Nat → Int64} {R : Nat → Nat → Nat} {s n : Int32} {w3 : Value} (hG : aGd R) (r_R_0_8 : R 0 8 = 24) (b1 : n.toInt ≥ (I 23 16).toInt) : xEv L xs d 92 4 [.ref 0, .int s, .int n, w3] [] (124, I, J, R) (some (.int s)) (124, I, J, R) := by
  refine ev_go 2 (pc1 := 6) (lv1 := [.ref 0, .int s, .int n, w3]) (st1 := [.ref 0, .int n]) (h1 := (124, I, J, R)) rfl ?_
  refine ev_gf (c := 0) (t := 23) (X := R 0 8) rfl rfl (fun _ => rfl) rfl r_R_0_8 ?_
  refine ev_go 1 (pc1 := 12) (lv1 := [.ref 0, .int s, .int n, w3]) (st1 := [.int (I 23 16), .int n]) (h1 := (124, I, J, R)) rfl ?_
  refine ev_br (b1 := true) rfl rfl (xcd_ge (x := n) (y := (I 23 16)) (by first | exact b1 | omega)) ?_
  refine ev_go 1 (pc1 := 101) (lv1 := [.ref 0, .int s, .int n, w3]) (st1 := [.int s]) (h1 := (124, I, J, R)) rfl ?_
  exact ev_ret rfl rfl
set_option maxRecDepth 20000 in
theorem ywa_0_23 {L : Nat} {xs : Nat → Int32} {d : Nat} {I : Nat → Nat → Int32} {J : Nat → Nat → Int64} {R : Nat → Nat → Nat} {s n b f g o : Int32} {w3 : Value} (hG : aGd R) (r_R_0_8 : R 0 8 = 24) (b1 : n.toInt < (I 23 16).toInt) (c1 : xEv L xs d 39 0 [.ref 35, .int n] [] (124, I, J, R) (some (.int b)) (124, I, J, R)) (c2 : xEv L xs d 39 0 [.ref 31, .int n] [] (124, I, J, R) (some (.int f)) (124, I, J, R)) (c3 : xEv L xs d 39 0 [.ref 32, .int n] [] (124, I, J, R) (some (.int g)) (124, I, J, R)) (c4 : xEv L xs d 66 0 [.ref 37, .int b, .int f, .int g, .int 0, xmk, xmk, xmk] [] (124, I, J, R) (some (.int o)) (124, I, J, R)) (b2 : o.toInt = -1) {v : Option Value} {h' : xH} (hk : xEv L xs (d + 1) 92 4 [.ref 0, .int s, .int (n + 1), .int o] [] (124, I, J, R) v h') : xEv L xs (d + 1) 92 4 [.ref 0, .int s, .int n, w3] [] (124, I, J, R) v h' := by
  refine ev_go 2 (pc1 := 6) (lv1 := [.ref 0, .int s, .int n, w3]) (st1 := [.ref 0, .int n]) (h1 := (124, I, J, R)) rfl ?_
  refine ev_gf (c := 0) (t := 23) (X := R 0 8) rfl rfl (fun _ => rfl) rfl r_R_0_8 ?_
  refine ev_go 1 (pc1 := 12) (lv1 := [.ref 0, .int s, .int n, w3]) (st1 := [.int (I 23 16), .int n]) (h1 := (124, I, J, R)) rfl ?_
  refine ev_br (b1 := false) rfl rfl (xcd_nge (x := n) (y := (I 23 16)) (by first | exact b1 | omega)) ?_
  refine ev_go 1 (pc1 := 16) (lv1 := [.ref 0, .int s, .int n, w3]) (st1 := [.ref 0]) (h1 := (124, I, J, R)) rfl ?_
  refine ev_gf (c := 0) (t := 23) (X := R 0 8) rfl rfl (fun _ => rfl) rfl r_R_0_8 ?_
  refine ev_gf (c := 23) (t := 37) (X := R 23 13) rfl rfl (fun _ => rfl) rfl (hG 23 13 37 rfl rfl) ?_
  refine ev_go 1 (pc1 := 23) (lv1 := [.ref 0, .int s, .int n, w3]) (st1 := [.ref 0, .ref 37]) (h1 := (124, I, J, R)) rfl ?_
  refine ev_gf (c := 0) (t := 23) (X := R 0 8) rfl rfl (fun _ => rfl) rfl r_R_0_8 ?_
  refine ev_gf (c := 23) (t := 35) (X := R 23 11) rfl rfl (fun _ => rfl) rfl (hG 23 11 35 rfl rfl) ?_
  refine ev_go 1 (pc1 := 30) (lv1 := [.ref 0, .int s, .int n, w3]) (st1 := [.int n, .ref 35, .ref 37]) (h1 := (124, I, J, R)) rfl ?_
  refine ev_call (v1 := (some (.int b))) (h1 := (124, I, J, R)) rfl rfl c1 ?_
  refine ev_go 1 (pc1 := 34) (lv1 := [.ref 0, .int s, .int n, w3]) (st1 := [.ref 0, .int b, .ref 37]) (h1 := (124, I, J, R)) rfl ?_
  refine ev_gf (c := 0) (t := 23) (X := R 0 8) rfl rfl (fun _ => rfl) rfl r_R_0_8 ?_
  refine ev_gf (c := 23) (t := 31) (X := R 23 7) rfl rfl (fun _ => rfl) rfl (hG 23 7 31 rfl rfl) ?_
  refine ev_go 1 (pc1 := 41) (lv1 := [.ref 0, .int s, .int n, w3]) (st1 := [.int n, .ref 31, .int b, .ref 37]) (h1 := (124, I, J, R)) rfl ?_
  refine ev_call (v1 := (some (.int f))) (h1 := (124, I, J, R)) rfl rfl c2 ?_
  refine ev_go 1 (pc1 := 45) (lv1 := [.ref 0, .int s, .int n, w3]) (st1 := [.ref 0, .int f, .int b, .ref 37]) (h1 := (124, I, J, R)) rfl ?_
  refine ev_gf (c := 0) (t := 23) (X := R 0 8) rfl rfl (fun _ => rfl) rfl r_R_0_8 ?_
  refine ev_gf (c := 23) (t := 32) (X := R 23 8) rfl rfl (fun _ => rfl) rfl (hG 23 8 32 rfl rfl) ?_
  refine ev_go 1 (pc1 := 52) (lv1 := [.ref 0, .int s, .int n, w3]) (st1 := [.int n, .ref 32, .int f, .int b, .ref 37]) (h1 := (124, I, J, R)) rfl ?_
  refine ev_call (v1 := (some (.int g))) (h1 := (124, I, J, R)) rfl rfl c3 ?_
  refine ev_go 1 (pc1 := 56) (lv1 := [.ref 0, .int s, .int n, w3]) (st1 := [.int 0, .int g, .int f, .int b, .ref 37]) (h1 := (124, I, J, R)) rfl ?_
  refine ev_call (v1 := (some (.int o))) (h1 := (124, I, J, R)) rfl rfl c4 ?_
  refine ev_go 3 (pc1 := 62) (lv1 := [.ref 0, .int s, .int n, .int o]) (st1 := [.int (-1), .int o]) (h1 := (124, I, J, R)) rfl ?_
  refine ev_br (b1 := true) rfl rfl (xcd_eq (x := o) (y := (-1)) (by rw [show ((-1 : Int32)).toInt = -1 from by decide]; first | exact b2 | omega)) ?_
  refine ev_go 2 (pc1 := 4) (lv1 := [.ref 0, .int s, .int (n + 1), .int o]) (st1 := []) (h1 := (124, I, J, R)) rfl ?_
  exact hk
set_option maxRecDepth 20000 in
theorem ywa_1_23 {L : Nat} {xs : Nat → Int32} {d : Nat} {I : Nat → Nat → Int32} {J : Nat → Nat → Int64} {R : Nat → Nat → Nat} {s n b f g o k : Int32} {w3 : Value} (hG : aGd R) (r_R_0_8 : R 0 8 = 24) (b1 : n.toInt < (I 23 16).toInt) (c1 : xEv L xs d 39 0 [.ref 35, .int n] [] (124, I, J, R) (some (.int b)) (124, I, J, R)) (c2 : xEv L xs d 39 0 [.ref 31, .int n] [] (124, I, J, R) (some (.int f)) (124, I, J, R)) (c3 : xEv L xs d 39 0 [.ref 32, .int n] [] (124, I, J, R) (some (.int g)) (124, I, J, R)) (c4 : xEv L xs d 66 0 [.ref 37, .int b, .int f, .int g, .int 0, xmk, xmk, xmk] [] (124, I, J, R) (some (.int o)) (124, I, J, R)) (b2 : o.toInt ≠ -1) (c5 : xEv L xs d 39 0 [.ref 36, .int n] [] (124, I, J, R) (some (.int k)) (124, I, J, R)) (b3 : o.toInt ≥ k.toInt) {v : Option Value} {h' : xH} (hk : xEv L xs (d + 1) 92 4 [.ref 0, .int s, .int (n + 1), .int o] [] (124, I, J, R) v h') : xEv L xs (d + 1) 92 4 [.ref 0, .int s, .int n, w3] [] (124, I, J, R) v h' := by
  refine ev_go 2 (pc1 := 6) (lv1 := [.ref 0, .int s, .int n, w3]) (st1 := [.ref 0, .int n]) (h1 := (124, I, J, R)) rfl ?_
  refine ev_gf (c := 0) (t := 23) (X := R 0 8) rfl rfl (fun _ => rfl) rfl r_R_0_8 ?_
  refine ev_go 1 (pc1 := 12) (lv1 := [.ref 0, .int s, .int n, w3]) (st1 := [.int (I 23 16), .int n]) (h1 := (124, I, J, R)) rfl ?_
  refine ev_br (b1 := false) rfl rfl (xcd_nge (x := n) (y := (I 23 16)) (by first | exact b1 | omega)) ?_
  refine ev_go 1 (pc1 := 16) (lv1 := [.ref 0, .int s, .int n, w3]) (st1 := [.ref 0]) (h1 := (124, I, J, R)) rfl ?_
  refine ev_gf (c := 0) (t := 23) (X := R 0 8) rfl rfl (fun _ => rfl) rfl r_R_0_8 ?_
  refine ev_gf (c := 23) (t := 37) (X := R 23 13) rfl rfl (fun _ => rfl) rfl (hG 23 13 37 rfl rfl) ?_
  refine ev_go 1 (pc1 := 23) (lv1 := [.ref 0, .int s, .int n, w3]) (st1 := [.ref 0, .ref 37]) (h1 := (124, I, J, R)) rfl ?_
  refine ev_gf (c := 0) (t := 23) (X := R 0 8) rfl rfl (fun _ => rfl) rfl r_R_0_8 ?_
  refine ev_gf (c := 23) (t := 35) (X := R 23 11) rfl rfl (fun _ => rfl) rfl (hG 23 11 35 rfl rfl) ?_
  refine ev_go 1 (pc1 := 30) (lv1 := [.ref 0, .int s, .int n, w3]) (st1 := [.int n, .ref 35, .ref 37]) (h1 := (124, I, J, R)) rfl ?_
  refine ev_call (v1 := (some (.int b))) (h1 := (124, I, J, R)) rfl rfl c1 ?_
  refine ev_go 1 (pc1 := 34) (lv1 := [.ref 0, .int s, .int n, w3]) (st1 := [.ref 0, .int b, .ref 37]) (h1 := (124, I, J, R)) rfl ?_
  refine ev_gf (c := 0) (t := 23) (X := R 0 8) rfl rfl (fun _ => rfl) rfl r_R_0_8 ?_
  refine ev_gf (c := 23) (t := 31) (X := R 23 7) rfl rfl (fun _ => rfl) rfl (hG 23 7 31 rfl rfl) ?_
  refine ev_go 1 (pc1 := 41) (lv1 := [.ref 0, .int s, .int n, w3]) (st1 := [.int n, .ref 31, .int b, .ref 37]) (h1 := (124, I, J, R)) rfl ?_
  refine ev_call (v1 := (some (.int f))) (h1 := (124, I, J, R)) rfl rfl c2 ?_
  refine ev_go 1 (pc1 := 45) (lv1 := [.ref 0, .int s, .int n, w3]) (st1 := [.ref 0, .int f, .int b, .ref 37]) (h1 := (124, I, J, R)) rfl ?_
  refine ev_gf (c := 0) (t := 23) (X := R 0 8) rfl rfl (fun _ => rfl) rfl r_R_0_8 ?_
  refine ev_gf (c := 23) (t := 32) (X := R 23 8) rfl rfl (fun _ => rfl) rfl (hG 23 8 32 rfl rfl) ?_
  refine ev_go 1 (pc1 := 52) (lv1 := [.ref 0, .int s, .int n, w3]) (st1 := [.int n, .ref 32, .int f, .int b, .ref 37]) (h1 := (124, I, J, R)) rfl ?_
  refine ev_call (v1 := (some (.int g))) (h1 := (124, I, J, R)) rfl rfl c3 ?_
  refine ev_go 1 (pc1 := 56) (lv1 := [.ref 0, .int s, .int n, w3]) (st1 := [.int 0, .int g, .int f, .int b, .ref 37]) (h1 := (124, I, J, R)) rfl ?_
  refine ev_call (v1 := (some (.int o))) (h1 := (124, I, J, R)) rfl rfl c4 ?_
  refine ev_go 3 (pc1 := 62) (lv1 := [.ref 0, .int s, .int n, .int o]) (st1 := [.int (-1), .int o]) (h1 := (124, I, J, R)) rfl ?_
  refine ev_br (b1 := false) rfl rfl (xcd_neq (x := o) (y := (-1)) (by rw [show ((-1 : Int32)).toInt = -1 from by decide]; first | exact b2 | omega)) ?_
  refine ev_go 2 (pc1 := 67) (lv1 := [.ref 0, .int s, .int n, .int o]) (st1 := [.ref 0, .int o]) (h1 := (124, I, J, R)) rfl ?_
  refine ev_gf (c := 0) (t := 23) (X := R 0 8) rfl rfl (fun _ => rfl) rfl r_R_0_8 ?_
  refine ev_gf (c := 23) (t := 36) (X := R 23 12) rfl rfl (fun _ => rfl) rfl (hG 23 12 36 rfl rfl) ?_
  refine ev_go 1 (pc1 := 74) (lv1 := [.ref 0, .int s, .int n, .int o]) (st1 := [.int n, .ref 36, .int o]) (h1 := (124, I, J, R)) rfl ?_
  refine ev_call (v1 := (some (.int k))) (h1 := (124, I, J, R)) rfl rfl c5 ?_
  refine ev_br (b1 := true) rfl rfl (xcd_ge (x := o) (y := k) (by first | exact b3 | omega)) ?_
  refine ev_go 2 (pc1 := 4) (lv1 := [.ref 0, .int s, .int (n + 1), .int o]) (st1 := []) (h1 := (124, I, J, R)) rfl ?_
  exact hk
set_option maxRecDepth 20000 in
theorem ywa_2_23 {L : Nat} {xs : Nat → Int32} {d : Nat} {I : Nat → Nat → Int32} {J : Nat → Nat → Int64} {R : Nat → Nat → Nat} {s n b f g o k w : Int32} {w3 : Value} (hG : aGd R) (r_R_0_8 : R 0 8 = 24) (b1 : n.toInt < (I 23 16).toInt) (c1 : xEv L xs d 39 0 [.ref 35, .int n] [] (124, I, J, R) (some (.int b)) (124, I, J, R)) (c2 : xEv L xs d 39 0 [.ref 31, .int n] [] (124, I, J, R) (some (.int f)) (124, I, J, R)) (c3 : xEv L xs d 39 0 [.ref 32, .int n] [] (124, I, J, R) (some (.int g)) (124, I, J, R)) (c4 : xEv L xs d 66 0 [.ref 37, .int b, .int f, .int g, .int 0, xmk, xmk, xmk] [] (124, I, J, R) (some (.int o)) (124, I, J, R)) (b2 : o.toInt ≠ -1) (c5 : xEv L xs d 39 0 [.ref 36, .int n] [] (124, I, J, R) (some (.int k)) (124, I, J, R)) (b3 : o.toInt < k.toInt) (c6 : xEv L xs d 39 0 [.ref 34, .int n] [] (124, I, J, R) (some (.int w)) (124, I, J, R)) {v : Option Value} {h' : xH} (hk : xEv L xs (d + 1) 92 4 [.ref 0, .int (s + w), .int (n + 1), .int o] [] (124, I, J, R) v h') : xEv L xs (d + 1) 92 4 [.ref 0, .int s, .int n, w3] [] (124, I, J, R) v h' := by
  refine ev_go 2 (pc1 := 6) (lv1 := [.ref 0, .int s, .int n, w3]) (st1 := [.ref 0, .int n]) (h1 := (124, I, J, R)) rfl ?_
  refine ev_gf (c := 0) (t := 23) (X := R 0 8) rfl rfl (fun _ => rfl) rfl r_R_0_8 ?_
  refine ev_go 1 (pc1 := 12) (lv1 := [.ref 0, .int s, .int n, w3]) (st1 := [.int (I 23 16), .int n]) (h1 := (124, I, J, R)) rfl ?_
  refine ev_br (b1 := false) rfl rfl (xcd_nge (x := n) (y := (I 23 16)) (by first | exact b1 | omega)) ?_
  refine ev_go 1 (pc1 := 16) (lv1 := [.ref 0, .int s, .int n, w3]) (st1 := [.ref 0]) (h1 := (124, I, J, R)) rfl ?_
  refine ev_gf (c := 0) (t := 23) (X := R 0 8) rfl rfl (fun _ => rfl) rfl r_R_0_8 ?_
  refine ev_gf (c := 23) (t := 37) (X := R 23 13) rfl rfl (fun _ => rfl) rfl (hG 23 13 37 rfl rfl) ?_
  refine ev_go 1 (pc1 := 23) (lv1 := [.ref 0, .int s, .int n, w3]) (st1 := [.ref 0, .ref 37]) (h1 := (124, I, J, R)) rfl ?_
  refine ev_gf (c := 0) (t := 23) (X := R 0 8) rfl rfl (fun _ => rfl) rfl r_R_0_8 ?_
  refine ev_gf (c := 23) (t := 35) (X := R 23 11) rfl rfl (fun _ => rfl) rfl (hG 23 11 35 rfl rfl) ?_
  refine ev_go 1 (pc1 := 30) (lv1 := [.ref 0, .int s, .int n, w3]) (st1 := [.int n, .ref 35, .ref 37]) (h1 := (124, I, J, R)) rfl ?_
  refine ev_call (v1 := (some (.int b))) (h1 := (124, I, J, R)) rfl rfl c1 ?_
  refine ev_go 1 (pc1 := 34) (lv1 := [.ref 0, .int s, .int n, w3]) (st1 := [.ref 0, .int b, .ref 37]) (h1 := (124, I, J, R)) rfl ?_
  refine ev_gf (c := 0) (t := 23) (X := R 0 8) rfl rfl (fun _ => rfl) rfl r_R_0_8 ?_
  refine ev_gf (c := 23) (t := 31) (X := R 23 7) rfl rfl (fun _ => rfl) rfl (hG 23 7 31 rfl rfl) ?_
  refine ev_go 1 (pc1 := 41) (lv1 := [.ref 0, .int s, .int n, w3]) (st1 := [.int n, .ref 31, .int b, .ref 37]) (h1 := (124, I, J, R)) rfl ?_
  refine ev_call (v1 := (some (.int f))) (h1 := (124, I, J, R)) rfl rfl c2 ?_
  refine ev_go 1 (pc1 := 45) (lv1 := [.ref 0, .int s, .int n, w3]) (st1 := [.ref 0, .int f, .int b, .ref 37]) (h1 := (124, I, J, R)) rfl ?_
  refine ev_gf (c := 0) (t := 23) (X := R 0 8) rfl rfl (fun _ => rfl) rfl r_R_0_8 ?_
  refine ev_gf (c := 23) (t := 32) (X := R 23 8) rfl rfl (fun _ => rfl) rfl (hG 23 8 32 rfl rfl) ?_
  refine ev_go 1 (pc1 := 52) (lv1 := [.ref 0, .int s, .int n, w3]) (st1 := [.int n, .ref 32, .int f, .int b, .ref 37]) (h1 := (124, I, J, R)) rfl ?_
  refine ev_call (v1 := (some (.int g))) (h1 := (124, I, J, R)) rfl rfl c3 ?_
  refine ev_go 1 (pc1 := 56) (lv1 := [.ref 0, .int s, .int n, w3]) (st1 := [.int 0, .int g, .int f, .int b, .ref 37]) (h1 := (124, I, J, R)) rfl ?_
  refine ev_call (v1 := (some (.int o))) (h1 := (124, I, J, R)) rfl rfl c4 ?_
  refine ev_go 3 (pc1 := 62) (lv1 := [.ref 0, .int s, .int n, .int o]) (st1 := [.int (-1), .int o]) (h1 := (124, I, J, R)) rfl ?_
  refine ev_br (b1 := false) rfl rfl (xcd_neq (x := o) (y := (-1)) (by rw [show ((-1 : Int32)).toInt = -1 from by decide]; first | exact b2 | omega)) ?_
  refine ev_go 2 (pc1 := 67) (lv1 := [.ref 0, .int s, .int n, .int o]) (st1 := [.ref 0, .int o]) (h1 := (124, I, J, R)) rfl ?_
  refine ev_gf (c := 0) (t := 23) (X := R 0 8) rfl rfl (fun _ => rfl) rfl r_R_0_8 ?_
  refine ev_gf (c := 23) (t := 36) (X := R 23 12) rfl rfl (fun _ => rfl) rfl (hG 23 12 36 rfl rfl) ?_
  refine ev_go 1 (pc1 := 74) (lv1 := [.ref 0, .int s, .int n, .int o]) (st1 := [.int n, .ref 36, .int o]) (h1 := (124, I, J, R)) rfl ?_
  refine ev_call (v1 := (some (.int k))) (h1 := (124, I, J, R)) rfl rfl c5 ?_
  refine ev_br (b1 := false) rfl rfl (xcd_nge (x := o) (y := k) (by first | exact b3 | omega)) ?_
  refine ev_go 2 (pc1 := 82) (lv1 := [.ref 0, .int s, .int n, .int o]) (st1 := [.ref 0, .int s]) (h1 := (124, I, J, R)) rfl ?_
  refine ev_gf (c := 0) (t := 23) (X := R 0 8) rfl rfl (fun _ => rfl) rfl r_R_0_8 ?_
  refine ev_gf (c := 23) (t := 34) (X := R 23 10) rfl rfl (fun _ => rfl) rfl (hG 23 10 34 rfl rfl) ?_
  refine ev_go 1 (pc1 := 89) (lv1 := [.ref 0, .int s, .int n, .int o]) (st1 := [.int n, .ref 34, .int s]) (h1 := (124, I, J, R)) rfl ?_
  refine ev_call (v1 := (some (.int w))) (h1 := (124, I, J, R)) rfl rfl c6 ?_
  refine ev_go 4 (pc1 := 4) (lv1 := [.ref 0, .int (s + w), .int (n + 1), .int o]) (st1 := []) (h1 := (124, I, J, R)) rfl ?_
  exact hk
set_option maxRecDepth 20000 in
theorem yal_0_23 {L : Nat} {xs : Nat → Int32} {d : Nat} {I : Nat → Nat → Int32} {J : Nat → Nat → Int64} {R : Nat → Nat → Nat} {I1 : Nat → Nat → Int32} {k : Int32} (hG : aGd R) (b1 : k.toInt = 0) (r_R_0_8 : R 0 8 = 24) (c1 : xEv L xs d 84 0 [.ref 57, .ref 23, xmk, xmk, xmk] [] (124, I, J, R) none (124, I1, J, R)) : xEv L xs (d + 1) 83 0 [.ref 0, .int k] [] (124, I, J, R) (some (.int (I1 57 6))) (124, I1, J, R) := by
  refine ev_go 1 (pc1 := 1) (lv1 := [.ref 0, .int k]) (st1 := [.int k]) (h1 := (124, I, J, R)) rfl ?_
  refine ev_lk1 (x := k) (z := 0) (t := 28) rfl rfl b1 rfl rfl ?_
  refine ev_go 1 (pc1 := 29) (lv1 := [.ref 0, .int k]) (st1 := [.ref 0]) (h1 := (124, I, J, R)) rfl ?_
  refine ev_gf (c := 0) (t := 57) (X := R 0 6) rfl rfl (fun _ => rfl) rfl (hG 0 6 57 rfl rfl) ?_
  refine ev_go 1 (pc1 := 33) (lv1 := [.ref 0, .int k]) (st1 := [.ref 0, .ref 57]) (h1 := (124, I, J, R)) rfl ?_
  refine ev_gf (c := 0) (t := 23) (X := R 0 8) rfl rfl (fun _ => rfl) rfl r_R_0_8 ?_
  refine ev_call (v1 := none) (h1 := (124, I1, J, R)) rfl rfl c1 ?_
  refine ev_go 1 (pc1 := 40) (lv1 := [.ref 0, .int k]) (st1 := [.ref 0]) (h1 := (124, I1, J, R)) rfl ?_
  refine ev_gf (c := 0) (t := 57) (X := R 0 6) rfl rfl (fun _ => rfl) rfl (hG 0 6 57 rfl rfl) ?_
  refine ev_go 1 (pc1 := 46) (lv1 := [.ref 0, .int k]) (st1 := [.int (I1 57 6)]) (h1 := (124, I1, J, R)) rfl ?_
  exact ev_ret rfl rfl
set_option maxRecDepth 20000 in
theorem yal_1_23 {L : Nat} {xs : Nat → Int32} {d : Nat} {I : Nat → Nat → Int32} {J : Nat → Nat → Int64} {R : Nat → Nat → Nat} {k o : Int32} (hG : aGd R) (b1 : k.toInt = 1) (c1 : xEv L xs d 92 0 [.ref 0, xmk, xmk, xmk] [] (124, I, J, R) (some (.int o)) (124, I, J, R)) : xEv L xs (d + 1) 83 0 [.ref 0, .int k] [] (124, I, J, R) (some (.int o)) (124, I, J, R) := by
  refine ev_go 1 (pc1 := 1) (lv1 := [.ref 0, .int k]) (st1 := [.int k]) (h1 := (124, I, J, R)) rfl ?_
  refine ev_lk1 (x := k) (z := 1) (t := 47) rfl rfl b1 rfl rfl ?_
  refine ev_go 1 (pc1 := 48) (lv1 := [.ref 0, .int k]) (st1 := [.ref 0]) (h1 := (124, I, J, R)) rfl ?_
  refine ev_call (v1 := (some (.int o))) (h1 := (124, I, J, R)) rfl rfl c1 ?_
  exact ev_ret rfl rfl
set_option maxRecDepth 20000 in
theorem yal_x_23 {L : Nat} {xs : Nat → Int32} {d : Nat} {I : Nat → Nat → Int32} {J : Nat → Nat → Int64} {R : Nat → Nat → Nat} {k : Int32} (hG : aGd R) (b1 : k.toInt ≠ 0 ∧ k.toInt ≠ 1) : xEv L xs d 83 0 [.ref 0, .int k] [] (124, I, J, R) (some (.int (-2))) (124, I, J, R) := by
  refine ev_go 1 (pc1 := 1) (lv1 := [.ref 0, .int k]) (st1 := [.int k]) (h1 := (124, I, J, R)) rfl ?_
  refine ev_lkp (x := k) (t := 52) rfl rfl (fun p hp => by have hp' : p ∈ [((0 : Int), (27 : Int)), (1, 46)] := hp; simp only [List.mem_cons, List.not_mem_nil, or_false] at hp'; rcases hp' with rfl | rfl; exact b1.1; exact b1.2) rfl ?_
  refine ev_go 1 (pc1 := 54) (lv1 := [.ref 0, .int k]) (st1 := [.int (-2)]) (h1 := (124, I, J, R)) rfl ?_
  exact ev_ret rfl rfl
