set_option maxRecDepth 20000 in
theorem px_end_0 {L : Nat} {xs : Nat → Int32} {a1 : Int32} (h1 : a1.toInt < 0) : xEv L xs 19 16 0 [.ref 0, .int a1] [] xhN (some (.int (-1))) xhN := by
  refine ev_go 1 (pc1 := 1) (lv1 := [.ref 0, .int a1]) (st1 := [.int a1]) (h1 := xhN) rfl ?_
  refine ev_br (b1 := true) rfl rfl (xcd_lt (x := a1) (y := 0) (by rw [show ((0 : Int32)).toInt = 0 from by decide]; omega)) ?_
  refine ev_go 1 (pc1 := 16) (lv1 := [.ref 0, .int a1]) (st1 := [.int (-1)]) (h1 := xhN) rfl ?_
  exact ev_ret rfl rfl
set_option maxRecDepth 20000 in
theorem pm_end_0 {L : Nat} {xs : Nat → Int32} {a1 : Int32} (h1 : a1.toInt < 0) : xEv L xs 19 146 0 [.ref 86, .int a1] [] xhN (some (.int (-1))) xhN := by
  refine ev_go 1 (pc1 := 1) (lv1 := [.ref 86, .int a1]) (st1 := [.int a1]) (h1 := xhN) rfl ?_
  refine ev_br (b1 := true) rfl rfl (xcd_lt (x := a1) (y := 0) (by rw [show ((0 : Int32)).toInt = 0 from by decide]; omega)) ?_
  refine ev_go 1 (pc1 := 13) (lv1 := [.ref 86, .int a1]) (st1 := [.int (-1)]) (h1 := xhN) rfl ?_
  exact ev_ret rfl rfl
set_option maxRecDepth 20000 in
theorem px_end_1 {L : Nat} {xs : Nat → Int32} {a1 : Int32} (h1 : 0 < a1.toInt) : xEv L xs 19 16 0 [.ref 0, .int a1] [] xhN (some (.int (-1))) xhN := by
  refine ev_go 1 (pc1 := 1) (lv1 := [.ref 0, .int a1]) (st1 := [.int a1]) (h1 := xhN) rfl ?_
  refine ev_br (b1 := false) rfl rfl (xcd_nlt (x := a1) (y := 0) (by rw [show ((0 : Int32)).toInt = 0 from by decide]; omega)) ?_
  refine ev_go 4 (pc1 := 12) (lv1 := [.ref 0, .int a1]) (st1 := [.int 0, .int a1]) (h1 := xhN) rfl ?_
  refine ev_br (b1 := false) rfl rfl (xcd_nle (x := a1) (y := 0) (by rw [show ((0 : Int32)).toInt = 0 from by decide]; omega)) ?_
  refine ev_go 1 (pc1 := 16) (lv1 := [.ref 0, .int a1]) (st1 := [.int (-1)]) (h1 := xhN) rfl ?_
  exact ev_ret rfl rfl
set_option maxRecDepth 20000 in
theorem pm_end_1 {L : Nat} {xs : Nat → Int32} {a1 : Int32} (h1 : 0 < a1.toInt) : xEv L xs 19 146 0 [.ref 86, .int a1] [] xhN (some (.int (-1))) xhN := by
  refine ev_go 1 (pc1 := 1) (lv1 := [.ref 86, .int a1]) (st1 := [.int a1]) (h1 := xhN) rfl ?_
  refine ev_br (b1 := false) rfl rfl (xcd_nlt (x := a1) (y := 0) (by rw [show ((0 : Int32)).toInt = 0 from by decide]; omega)) ?_
  refine ev_go 3 (pc1 := 9) (lv1 := [.ref 86, .int a1]) (st1 := [.int 0, .int a1]) (h1 := xhN) rfl ?_
  refine ev_br (b1 := false) rfl rfl (xcd_nle (x := a1) (y := 0) (by rw [show ((0 : Int32)).toInt = 0 from by decide]; omega)) ?_
  refine ev_go 1 (pc1 := 13) (lv1 := [.ref 86, .int a1]) (st1 := [.int (-1)]) (h1 := xhN) rfl ?_
  exact ev_ret rfl rfl
set_option maxRecDepth 20000 in
theorem px_end_2 {L : Nat} {xs : Nat → Int32} {a1 : Int32} (h1 : a1.toInt = 0) : xEv L xs 19 16 0 [.ref 0, .int a1] [] xhN (some (.int a1)) (xsetI xhN 1 1 a1) := by
  refine ev_go 1 (pc1 := 1) (lv1 := [.ref 0, .int a1]) (st1 := [.int a1]) (h1 := xhN) rfl ?_
  refine ev_br (b1 := false) rfl rfl (xcd_nlt (x := a1) (y := 0) (by rw [show ((0 : Int32)).toInt = 0 from by decide]; omega)) ?_
  refine ev_go 4 (pc1 := 12) (lv1 := [.ref 0, .int a1]) (st1 := [.int 0, .int a1]) (h1 := xhN) rfl ?_
  refine ev_br (b1 := true) rfl rfl (xcd_le (x := a1) (y := 0) (by rw [show ((0 : Int32)).toInt = 0 from by decide]; omega)) ?_
  refine ev_go 5 (pc1 := 26) (lv1 := [.ref 0, .int a1]) (st1 := [.int a1]) (h1 := (xsetI xhN 1 1 a1)) rfl ?_
  exact ev_ret rfl rfl
set_option maxRecDepth 20000 in
theorem pm_end_2 {L : Nat} {xs : Nat → Int32} {a1 : Int32} (h1 : a1.toInt = 0) : xEv L xs 19 146 0 [.ref 86, .int a1] [] (xsetI xhN 1 1 a1) (some (.int a1)) (xsetI (xsetI xhN 1 1 a1) 86 1 a1) := by
  refine ev_go 1 (pc1 := 1) (lv1 := [.ref 86, .int a1]) (st1 := [.int a1]) (h1 := (xsetI xhN 1 1 a1)) rfl ?_
  refine ev_br (b1 := false) rfl rfl (xcd_nlt (x := a1) (y := 0) (by rw [show ((0 : Int32)).toInt = 0 from by decide]; omega)) ?_
  refine ev_go 3 (pc1 := 9) (lv1 := [.ref 86, .int a1]) (st1 := [.int 0, .int a1]) (h1 := (xsetI xhN 1 1 a1)) rfl ?_
  refine ev_br (b1 := true) rfl rfl (xcd_le (x := a1) (y := 0) (by rw [show ((0 : Int32)).toInt = 0 from by decide]; omega)) ?_
  refine ev_go 4 (pc1 := 20) (lv1 := [.ref 86, .int a1]) (st1 := [.int a1]) (h1 := (xsetI (xsetI xhN 1 1 a1) 86 1 a1)) rfl ?_
  exact ev_ret rfl rfl
set_option maxRecDepth 20000 in
theorem px_fault_0 {L : Nat} {xs : Nat → Int32} {a1 : Int32} (h1 : a1.toInt ≠ 0) (h2 : a1.toInt ≠ 1) : xEv L xs 19 47 0 [.ref 0, .int a1] [] xhN (some (.int (-1))) xhN := by
  refine ev_go 1 (pc1 := 1) (lv1 := [.ref 0, .int a1]) (st1 := [.int a1]) (h1 := xhN) rfl ?_
  refine ev_lkp (x := a1) (t := 44) rfl rfl (by intro p hp; simp at hp; rcases hp with rfl | rfl <;> omega) rfl ?_
  refine ev_go 1 (pc1 := 45) (lv1 := [.ref 0, .int a1]) (st1 := [.int (-1)]) (h1 := xhN) rfl ?_
  exact ev_ret rfl rfl
set_option maxRecDepth 20000 in
theorem pm_fault_0 {L : Nat} {xs : Nat → Int32} {a1 : Int32} (h1 : a1.toInt ≠ 0) (h2 : a1.toInt ≠ 1) : xEv L xs 19 147 0 [.ref 86, .int a1] [] xhN (some (.int (-1))) xhN := by
  refine ev_go 1 (pc1 := 1) (lv1 := [.ref 86, .int a1]) (st1 := [.int a1]) (h1 := xhN) rfl ?_
  refine ev_br (b1 := true) rfl rfl (xcd_ne (x := a1) (y := 0) (by rw [show ((0 : Int32)).toInt = 0 from by decide]; omega)) ?_
  refine ev_go 2 (pc1 := 13) (lv1 := [.ref 86, .int a1]) (st1 := [.int 1, .int a1]) (h1 := xhN) rfl ?_
  refine ev_br (b1 := true) rfl rfl (xcd_ne (x := a1) (y := 1) (by rw [show ((1 : Int32)).toInt = 1 from by decide]; omega)) ?_
  refine ev_go 1 (pc1 := 24) (lv1 := [.ref 86, .int a1]) (st1 := [.int (-1)]) (h1 := xhN) rfl ?_
  exact ev_ret rfl rfl
set_option maxRecDepth 20000 in
theorem px_meeting_0 {L : Nat} {xs : Nat → Int32} {a1 a2 : Int32} (h1 : a1.toInt < 0) : xEv L xs 19 51 0 [.ref 0, .int a1, .int a2] [] xhN (some (.int (-2))) xhN := by
  refine ev_go 1 (pc1 := 1) (lv1 := [.ref 0, .int a1, .int a2]) (st1 := [.int a1]) (h1 := xhN) rfl ?_
  refine ev_br (b1 := true) rfl rfl (xcd_lt (x := a1) (y := 0) (by rw [show ((0 : Int32)).toInt = 0 from by decide]; omega)) ?_
  refine ev_go 1 (pc1 := 17) (lv1 := [.ref 0, .int a1, .int a2]) (st1 := [.int (-2)]) (h1 := xhN) rfl ?_
  exact ev_ret rfl rfl
set_option maxRecDepth 20000 in
theorem pm_meeting_0 {L : Nat} {xs : Nat → Int32} {a1 a2 : Int32} (h1 : a1.toInt < 0) : xEv L xs 19 169 0 [.ref 86, .int a1, .int a2] [] xhN (some (.int (-2))) xhN := by
  refine ev_go 8 (pc1 := 10) (lv1 := [.ref 86, .int a1, .int a2]) (st1 := [.int (-1), .int 0, .int a1]) (h1 := xhN) rfl ?_
  refine ev_call (v1 := (some (.int 0))) (h1 := xhN) rfl rfl ?_ ?_
  · refine ev_go 2 (pc1 := 2) (lv1 := [.int a1, .int 0, .int (-1)]) (st1 := [.int 0, .int a1]) (h1 := xhN) rfl ?_
    refine ev_br (b1 := true) rfl rfl (xcd_lt (x := a1) (y := 0) (by rw [show ((0 : Int32)).toInt = 0 from by decide]; omega)) ?_
    refine ev_go 1 (pc1 := 15) (lv1 := [.int a1, .int 0, .int (-1)]) (st1 := [.int 0]) (h1 := xhN) rfl ?_
    exact ev_ret rfl rfl
  refine ev_go 2 (pc1 := 27) (lv1 := [.ref 86, .int a1, .int a2]) (st1 := [.int (-2)]) (h1 := xhN) rfl ?_
  exact ev_ret rfl rfl
set_option maxRecDepth 20000 in
theorem px_meeting_1 {L : Nat} {xs : Nat → Int32} {a1 a2 : Int32} (h1 : 0 ≤ a1.toInt) : xEv L xs 19 51 0 [.ref 0, .int a1, .int a2] [] xhN (some (.int (-2))) xhN := by
  refine ev_go 1 (pc1 := 1) (lv1 := [.ref 0, .int a1, .int a2]) (st1 := [.int a1]) (h1 := xhN) rfl ?_
  refine ev_br (b1 := false) rfl rfl (xcd_nlt (x := a1) (y := 0) (by rw [show ((0 : Int32)).toInt = 0 from by decide]; omega)) ?_
  refine ev_go 4 (pc1 := 12) (lv1 := [.ref 0, .int a1, .int a2]) (st1 := [.int 0, .int a1]) (h1 := xhN) rfl ?_
  refine ev_br (b1 := false) rfl rfl (xcd_nlt (x := a1) (y := 0) (by rw [show ((0 : Int32)).toInt = 0 from by decide]; omega)) ?_
  refine ev_go 1 (pc1 := 17) (lv1 := [.ref 0, .int a1, .int a2]) (st1 := [.int (-2)]) (h1 := xhN) rfl ?_
  exact ev_ret rfl rfl
set_option maxRecDepth 20000 in
theorem pm_meeting_1 {L : Nat} {xs : Nat → Int32} {a1 a2 : Int32} (h1 : 0 ≤ a1.toInt) : xEv L xs 19 169 0 [.ref 86, .int a1, .int a2] [] xhN (some (.int (-2))) xhN := by
  refine ev_go 8 (pc1 := 10) (lv1 := [.ref 86, .int a1, .int a2]) (st1 := [.int (-1), .int 0, .int a1]) (h1 := xhN) rfl ?_
  refine ev_call (v1 := (some (.int 0))) (h1 := xhN) rfl rfl ?_ ?_
  · refine ev_go 2 (pc1 := 2) (lv1 := [.int a1, .int 0, .int (-1)]) (st1 := [.int 0, .int a1]) (h1 := xhN) rfl ?_
    refine ev_br (b1 := false) rfl rfl (xcd_nlt (x := a1) (y := 0) (by rw [show ((0 : Int32)).toInt = 0 from by decide]; omega)) ?_
    refine ev_go 2 (pc1 := 7) (lv1 := [.int a1, .int 0, .int (-1)]) (st1 := [.int (-1), .int a1]) (h1 := xhN) rfl ?_
    refine ev_br (b1 := true) rfl rfl (xcd_gt (x := a1) (y := (-1)) (by rw [show ((-1 : Int32)).toInt = -1 from by decide]; omega)) ?_
    refine ev_go 1 (pc1 := 15) (lv1 := [.int a1, .int 0, .int (-1)]) (st1 := [.int 0]) (h1 := xhN) rfl ?_
    exact ev_ret rfl rfl
  refine ev_go 2 (pc1 := 27) (lv1 := [.ref 86, .int a1, .int a2]) (st1 := [.int (-2)]) (h1 := xhN) rfl ?_
  exact ev_ret rfl rfl
