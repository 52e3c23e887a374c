theorem x_div10 {n : Int32} (h : 80 ≤ n.toInt) : 7 < (n / 10).toInt := by
  obtain ⟨k, hk, rfl⟩ := nI_of (x := n) (by rw [Int32.lt_iff_toInt_lt]; show ¬ n.toInt < 0; omega)
  rw [nI_toInt hk] at h
  rw [show (10 : Int32) = nI 10 from rfl, pk_div hk (by decide) (by decide), nI_toInt (by omega)]
  omega
set_option maxRecDepth 20000 in
theorem px_end_0 {L : Nat} {xs : Nat → Int32} {a1 : Int32} (h1 : a1.toInt < 0) : xEv L xs 19 16 0 [.ref 0, .int a1] [] xhN (some (.int (-1))) xhN := by
  refine ev_go 1 (pc1 := 1) (lv1 := [.ref 0, .int a1]) (st1 := [.int a1]) (h1 := xhN) rfl ?_
  refine ev_br (b1 := true) rfl rfl (xcd_lt (x := a1) (y := 0) (by rw [show ((0 : Int32)).toInt = 0 from by decide]; omega)) ?_
  refine ev_go 1 (pc1 := 16) (lv1 := [.ref 0, .int a1]) (st1 := [.int (-1)]) (h1 := xhN) rfl ?_
  exact ev_ret rfl rfl
set_option maxRecDepth 20000 in
theorem pm_end_0 {L : Nat} {xs : Nat → Int32} {a1 : Int32} (h1 : a1.toInt < 0) : xEv L xs 19 146 0 [.ref 86, .int a1] [] xhN (some (.int (-1))) xhN := by
  refine ev_go 1 (pc1 := 1) (lv1 := [.ref 86, .int a1]) (st1 := [.int a1]) (h1 := xhN) rfl ?_
  refine ev_br (b1 := true) rfl rfl (xcd_lt (x := a1) (y := 0) (by rw [show ((0 : Int32)).toInt = 0 from by decide]; omega)) ?_
  refine ev_go 1 (pc1 := 13) (lv1 := [.ref 86, .int a1]) (st1 := [.int (-1)]) (h1 := xhN) rfl ?_
  exact ev_ret rfl rfl
set_option maxRecDepth 20000 in
theorem px_end_1 {L : Nat} {xs : Nat → Int32} {a1 : Int32} (h1 : 0 < a1.toInt) : xEv L xs 19 16 0 [.ref 0, .int a1] [] xhN (some (.int (-1))) xhN := by
  refine ev_go 1 (pc1 := 1) (lv1 := [.ref 0, .int a1]) (st1 := [.int a1]) (h1 := xhN) rfl ?_
  refine ev_br (b1 := false) rfl rfl (xcd_nlt (x := a1) (y := 0) (by rw [show ((0 : Int32)).toInt = 0 from by decide]; omega)) ?_
  refine ev_go 4 (pc1 := 12) (lv1 := [.ref 0, .int a1]) (st1 := [.int 0, .int a1]) (h1 := xhN) rfl ?_
  refine ev_br (b1 := false) rfl rfl (xcd_nle (x := a1) (y := 0) (by rw [show ((0 : Int32)).toInt = 0 from by decide]; omega)) ?_
  refine ev_go 1 (pc1 := 16) (lv1 := [.ref 0, .int a1]) (st1 := [.int (-1)]) (h1 := xhN) rfl ?_
  exact ev_ret rfl rfl
set_option maxRecDepth 20000 in
theorem pm_end_1 {L : Nat} {xs : Nat → Int32} {a1 : Int32} (h1 : 0 < a1.toInt) : xEv L xs 19 146 0 [.ref 86, .int a1] [] xhN (some (.int (-1))) xhN := by
  refine ev_go 1 (pc1 := 1) (lv1 := [.ref 86, .int a1]) (st1 := [.int a1]) (h1 := xhN) rfl ?_
  refine ev_br (b1 := false) rfl rfl (xcd_nlt (x := a1) (y := 0) (by rw [show ((0 : Int32)).toInt = 0 from by decide]; omega)) ?_
  refine ev_go 3 (pc1 := 9) (lv1 := [.ref 86, .int a1]) (st1 := [.int 0, .int a1]) (h1 := xhN) rfl ?_
  refine ev_br (b1 := false) rfl rfl (xcd_nle (x := a1) (y := 0) (by rw [show ((0 : Int32)).toInt = 0 from by decide]; omega)) ?_
  refine ev_go 1 (pc1 := 13) (lv1 := [.ref 86, .int a1]) (st1 := [.int (-1)]) (h1 := xhN) rfl ?_
  exact ev_ret rfl rfl
set_option maxRecDepth 20000 in
theorem px_end_2 {L : Nat} {xs : Nat → Int32} {a1 : Int32} (h1 : a1.toInt = 0) : xEv L xs 19 16 0 [.ref 0, .int a1] [] xhN (some (.int a1)) (xsetI xhN 1 1 a1) := by
  refine ev_go 1 (pc1 := 1) (lv1 := [.ref 0, .int a1]) (st1 := [.int a1]) (h1 := xhN) rfl ?_
  refine ev_br (b1 := false) rfl rfl (xcd_nlt (x := a1) (y := 0) (by rw [show ((0 : Int32)).toInt = 0 from by decide]; omega)) ?_
  refine ev_go 4 (pc1 := 12) (lv1 := [.ref 0, .int a1]) (st1 := [.int 0, .int a1]) (h1 := xhN) rfl ?_
  refine ev_br (b1 := true) rfl rfl (xcd_le (x := a1) (y := 0) (by rw [show ((0 : Int32)).toInt = 0 from by decide]; omega)) ?_
  refine ev_go 5 (pc1 := 26) (lv1 := [.ref 0, .int a1]) (st1 := [.int a1]) (h1 := (xsetI xhN 1 1 a1)) rfl ?_
  exact ev_ret rfl rfl
set_option maxRecDepth 20000 in
theorem pm_end_2 {L : Nat} {xs : Nat → Int32} {a1 : Int32} (h1 : a1.toInt = 0) : xEv L xs 19 146 0 [.ref 86, .int a1] [] (xsetI xhN 1 1 a1) (some (.int a1)) (xsetI (xsetI xhN 1 1 a1) 86 1 a1) := by
  refine ev_go 1 (pc1 := 1) (lv1 := [.ref 86, .int a1]) (st1 := [.int a1]) (h1 := (xsetI xhN 1 1 a1)) rfl ?_
  refine ev_br (b1 := false) rfl rfl (xcd_nlt (x := a1) (y := 0) (by rw [show ((0 : Int32)).toInt = 0 from by decide]; omega)) ?_
  refine ev_go 3 (pc1 := 9) (lv1 := [.ref 86, .int a1]) (st1 := [.int 0, .int a1]) (h1 := (xsetI xhN 1 1 a1)) rfl ?_
  refine ev_br (b1 := true) rfl rfl (xcd_le (x := a1) (y := 0) (by rw [show ((0 : Int32)).toInt = 0 from by decide]; omega)) ?_
  refine ev_go 4 (pc1 := 20) (lv1 := [.ref 86, .int a1]) (st1 := [.int a1]) (h1 := (xsetI (xsetI xhN 1 1 a1) 86 1 a1)) rfl ?_
  exact ev_ret rfl rfl
set_option maxRecDepth 20000 in
theorem px_fault_0 {L : Nat} {xs : Nat → Int32} {a1 : Int32} (h1 : a1.toInt ≠ 0) (h2 : a1.toInt ≠ 1) : xEv L xs 19 47 0 [.ref 0, .int a1] [] xhN (some (.int (-1))) xhN := by
  refine ev_go 1 (pc1 := 1) (lv1 := [.ref 0, .int a1]) (st1 := [.int a1]) (h1 := xhN) rfl ?_
  refine ev_lkp (x := a1) (t := 44) rfl rfl (by intro p hp; simp at hp; rcases hp with rfl | rfl <;> omega) rfl ?_
  refine ev_go 1 (pc1 := 45) (lv1 := [.ref 0, .int a1]) (st1 := [.int (-1)]) (h1 := xhN) rfl ?_
  exact ev_ret rfl rfl
set_option maxRecDepth 20000 in
theorem pm_fault_0 {L : Nat} {xs : Nat → Int32} {a1 : Int32} (h1 : a1.toInt ≠ 0) (h2 : a1.toInt ≠ 1) : xEv L xs 19 147 0 [.ref 86, .int a1] [] xhN (some (.int (-1))) xhN := by
  refine ev_go 1 (pc1 := 1) (lv1 := [.ref 86, .int a1]) (st1 := [.int a1]) (h1 := xhN) rfl ?_
  refine ev_br (b1 := true) rfl rfl (xcd_ne (x := a1) (y := 0) (by rw [show ((0 : Int32)).toInt = 0 from by decide]; omega)) ?_
  refine ev_go 2 (pc1 := 13) (lv1 := [.ref 86, .int a1]) (st1 := [.int 1, .int a1]) (h1 := xhN) rfl ?_
  refine ev_br (b1 := true) rfl rfl (xcd_ne (x := a1) (y := 1) (by rw [show ((1 : Int32)).toInt = 1 from by decide]; omega)) ?_
  refine ev_go 1 (pc1 := 24) (lv1 := [.ref 86, .int a1]) (st1 := [.int (-1)]) (h1 := xhN) rfl ?_
  exact ev_ret rfl rfl
set_option maxRecDepth 20000 in
theorem px_meeting_0 {L : Nat} {xs : Nat → Int32} {a1 a2 : Int32} (h1 : a1.toInt < 0) : xEv L xs 19 51 0 [.ref 0, .int a1, .int a2] [] xhN (some (.int (-2))) xhN := by
  refine ev_go 1 (pc1 := 1) (lv1 := [.ref 0, .int a1, .int a2]) (st1 := [.int a1]) (h1 := xhN) rfl ?_
  refine ev_br (b1 := true) rfl rfl (xcd_lt (x := a1) (y := 0) (by rw [show ((0 : Int32)).toInt = 0 from by decide]; omega)) ?_
  refine ev_go 1 (pc1 := 17) (lv1 := [.ref 0, .int a1, .int a2]) (st1 := [.int (-2)]) (h1 := xhN) rfl ?_
  exact ev_ret rfl rfl
set_option maxRecDepth 20000 in
theorem pm_meeting_0 {L : Nat} {xs : Nat → Int32} {a1 a2 : Int32} (h1 : a1.toInt < 0) : xEv L xs 19 169 0 [.ref 86, .int a1, .int a2] [] xhN (some (.int (-2))) xhN := by
  refine ev_go 8 (pc1 := 10) (lv1 := [.ref 86, .int a1, .int a2]) (st1 := [.int (-1), .int 0, .int a1]) (h1 := xhN) rfl ?_
  refine ev_call (v1 := (some (.int 0))) (h1 := xhN) rfl rfl ?_ ?_
  · refine ev_go 2 (pc1 := 2) (lv1 := [.int a1, .int 0, .int (-1)]) (st1 := [.int 0, .int a1]) (h1 := xhN) rfl ?_
    refine ev_br (b1 := true) rfl rfl (xcd_lt (x := a1) (y := 0) (by rw [show ((0 : Int32)).toInt = 0 from by decide]; omega)) ?_
    refine ev_go 1 (pc1 := 15) (lv1 := [.int a1, .int 0, .int (-1)]) (st1 := [.int 0]) (h1 := xhN) rfl ?_
    exact ev_ret rfl rfl
  refine ev_go 2 (pc1 := 27) (lv1 := [.ref 86, .int a1, .int a2]) (st1 := [.int (-2)]) (h1 := xhN) rfl ?_
  exact ev_ret rfl rfl
set_option maxRecDepth 20000 in
theorem px_meeting_1 {L : Nat} {xs : Nat → Int32} {a1 a2 : Int32} (h1 : 0 ≤ a1.toInt) : xEv L xs 19 51 0 [.ref 0, .int a1, .int a2] [] xhN (some (.int (-2))) xhN := by
  refine ev_go 1 (pc1 := 1) (lv1 := [.ref 0, .int a1, .int a2]) (st1 := [.int a1]) (h1 := xhN) rfl ?_
  refine ev_br (b1 := false) rfl rfl (xcd_nlt (x := a1) (y := 0) (by rw [show ((0 : Int32)).toInt = 0 from by decide]; omega)) ?_
  refine ev_go 4 (pc1 := 12) (lv1 := [.ref 0, .int a1, .int a2]) (st1 := [.int 0, .int a1]) (h1 := xhN) rfl ?_
  refine ev_br (b1 := false) rfl rfl (xcd_nlt (x := a1) (y := 0) (by rw [show ((0 : Int32)).toInt = 0 from by decide]; omega)) ?_
  refine ev_go 1 (pc1 := 17) (lv1 := [.ref 0, .int a1, .int a2]) (st1 := [.int (-2)]) (h1 := xhN) rfl ?_
  exact ev_ret rfl rfl
set_option maxRecDepth 20000 in
theorem pm_meeting_1 {L : Nat} {xs : Nat → Int32} {a1 a2 : Int32} (h1 : 0 ≤ a1.toInt) : xEv L xs 19 169 0 [.ref 86, .int a1, .int a2] [] xhN (some (.int (-2))) xhN := by
  refine ev_go 8 (pc1 := 10) (lv1 := [.ref 86, .int a1, .int a2]) (st1 := [.int (-1), .int 0, .int a1]) (h1 := xhN) rfl ?_
  refine ev_call (v1 := (some (.int 0))) (h1 := xhN) rfl rfl ?_ ?_
  · refine ev_go 2 (pc1 := 2) (lv1 := [.int a1, .int 0, .int (-1)]) (st1 := [.int 0, .int a1]) (h1 := xhN) rfl ?_
    refine ev_br (b1 := false) rfl rfl (xcd_nlt (x := a1) (y := 0) (by rw [show ((0 : Int32)).toInt = 0 from by decide]; omega)) ?_
    refine ev_go 2 (pc1 := 7) (lv1 := [.int a1, .int 0, .int (-1)]) (st1 := [.int (-1), .int a1]) (h1 := xhN) rfl ?_
    refine ev_br (b1 := true) rfl rfl (xcd_gt (x := a1) (y := (-1)) (by rw [show ((-1 : Int32)).toInt = -1 from by decide]; omega)) ?_
    refine ev_go 1 (pc1 := 15) (lv1 := [.int a1, .int 0, .int (-1)]) (st1 := [.int 0]) (h1 := xhN) rfl ?_
    exact ev_ret rfl rfl
  refine ev_go 2 (pc1 := 27) (lv1 := [.ref 86, .int a1, .int a2]) (st1 := [.int (-2)]) (h1 := xhN) rfl ?_
  exact ev_ret rfl rfl
set_option maxRecDepth 20000 in
theorem px_time_0 {L : Nat} {xs : Nat → Int32} {a1 a2 : Int32} (h1 : a1.toInt < 0) : xEv L xs 19 52 0 [.ref 0, .int a1, .int a2] [] xhN (some (.int (-2))) xhN := by
  refine ev_go 1 (pc1 := 1) (lv1 := [.ref 0, .int a1, .int a2]) (st1 := [.int a1]) (h1 := xhN) rfl ?_
  refine ev_br (b1 := true) rfl rfl (xcd_lt (x := a1) (y := 0) (by rw [show ((0 : Int32)).toInt = 0 from by decide]; omega)) ?_
  refine ev_go 1 (pc1 := 20) (lv1 := [.ref 0, .int a1, .int a2]) (st1 := [.int (-2)]) (h1 := xhN) rfl ?_
  exact ev_ret rfl rfl
set_option maxRecDepth 20000 in
theorem pm_time_0 {L : Nat} {xs : Nat → Int32} {a1 a2 : Int32} (h1 : a1.toInt < 0) : xEv L xs 19 170 0 [.ref 86, .int a1, .int a2] [] xhN (some (.int (-2))) xhN := by
  refine ev_go 2 (pc1 := 2) (lv1 := [.ref 86, .int a1, .int a2]) (st1 := [.int a1, .ref 86]) (h1 := xhN) rfl ?_
  refine ev_call (v1 := (some (.int 0))) (h1 := xhN) rfl rfl ?_ ?_
  · refine ev_go 6 (pc1 := 8) (lv1 := [.ref 86, .int a1]) (st1 := [.int (-1), .int 0, .int a1]) (h1 := xhN) rfl ?_
    refine ev_call (v1 := (some (.int 0))) (h1 := xhN) rfl rfl ?_ ?_
    · refine ev_go 2 (pc1 := 2) (lv1 := [.int a1, .int 0, .int (-1)]) (st1 := [.int 0, .int a1]) (h1 := xhN) rfl ?_
      refine ev_br (b1 := true) rfl rfl (xcd_lt (x := a1) (y := 0) (by rw [show ((0 : Int32)).toInt = 0 from by decide]; omega)) ?_
      refine ev_go 1 (pc1 := 15) (lv1 := [.int a1, .int 0, .int (-1)]) (st1 := [.int 0]) (h1 := xhN) rfl ?_
      exact ev_ret rfl rfl
    exact ev_ret rfl rfl
  refine ev_go 2 (pc1 := 41) (lv1 := [.ref 86, .int a1, .int a2]) (st1 := [.int (-2)]) (h1 := xhN) rfl ?_
  exact ev_ret rfl rfl
set_option maxRecDepth 20000 in
theorem px_time_1 {L : Nat} {xs : Nat → Int32} {a1 a2 : Int32} (h1 : 0 ≤ a1.toInt) : xEv L xs 19 52 0 [.ref 0, .int a1, .int a2] [] xhN (some (.int (-2))) xhN := by
  refine ev_go 1 (pc1 := 1) (lv1 := [.ref 0, .int a1, .int a2]) (st1 := [.int a1]) (h1 := xhN) rfl ?_
  refine ev_br (b1 := false) rfl rfl (xcd_nlt (x := a1) (y := 0) (by rw [show ((0 : Int32)).toInt = 0 from by decide]; omega)) ?_
  refine ev_go 5 (pc1 := 15) (lv1 := [.ref 0, .int a1, .int a2]) (st1 := [.int 0, .int a1]) (h1 := xhN) rfl ?_
  refine ev_br (b1 := false) rfl rfl (xcd_nlt (x := a1) (y := 0) (by rw [show ((0 : Int32)).toInt = 0 from by decide]; omega)) ?_
  refine ev_go 1 (pc1 := 20) (lv1 := [.ref 0, .int a1, .int a2]) (st1 := [.int (-2)]) (h1 := xhN) rfl ?_
  exact ev_ret rfl rfl
set_option maxRecDepth 20000 in
theorem pm_time_1 {L : Nat} {xs : Nat → Int32} {a1 a2 : Int32} (h1 : 0 ≤ a1.toInt) : xEv L xs 19 170 0 [.ref 86, .int a1, .int a2] [] xhN (some (.int (-2))) xhN := by
  refine ev_go 2 (pc1 := 2) (lv1 := [.ref 86, .int a1, .int a2]) (st1 := [.int a1, .ref 86]) (h1 := xhN) rfl ?_
  refine ev_call (v1 := (some (.int 0))) (h1 := xhN) rfl rfl ?_ ?_
  · refine ev_go 6 (pc1 := 8) (lv1 := [.ref 86, .int a1]) (st1 := [.int (-1), .int 0, .int a1]) (h1 := xhN) rfl ?_
    refine ev_call (v1 := (some (.int 0))) (h1 := xhN) rfl rfl ?_ ?_
    · refine ev_go 2 (pc1 := 2) (lv1 := [.int a1, .int 0, .int (-1)]) (st1 := [.int 0, .int a1]) (h1 := xhN) rfl ?_
      refine ev_br (b1 := false) rfl rfl (xcd_nlt (x := a1) (y := 0) (by rw [show ((0 : Int32)).toInt = 0 from by decide]; omega)) ?_
      refine ev_go 2 (pc1 := 7) (lv1 := [.int a1, .int 0, .int (-1)]) (st1 := [.int (-1), .int a1]) (h1 := xhN) rfl ?_
      refine ev_br (b1 := true) rfl rfl (xcd_gt (x := a1) (y := (-1)) (by rw [show ((-1 : Int32)).toInt = -1 from by decide]; omega)) ?_
      refine ev_go 1 (pc1 := 15) (lv1 := [.int a1, .int 0, .int (-1)]) (st1 := [.int 0]) (h1 := xhN) rfl ?_
      exact ev_ret rfl rfl
    exact ev_ret rfl rfl
  refine ev_go 2 (pc1 := 41) (lv1 := [.ref 86, .int a1, .int a2]) (st1 := [.int (-2)]) (h1 := xhN) rfl ?_
  exact ev_ret rfl rfl
set_option maxRecDepth 20000 in
theorem px_judged_0 {L : Nat} {xs : Nat → Int32} {a1 a2 : Int32} (h1 : a1.toInt < 0) : xEv L xs 19 62 0 [.ref 0, .int a1, .int a2] [] xhN (some (.int (-2))) xhN := by
  refine ev_go 3 (pc1 := 5) (lv1 := [.ref 0, .int a1, .int a2]) (st1 := [.int a1, .ref 3]) (h1 := xhN) rfl ?_
  refine ev_call (v1 := (some (.int 0))) (h1 := xhN) rfl rfl ?_ ?_
  · refine ev_go 1 (pc1 := 1) (lv1 := [.ref 3, .int a1]) (st1 := [.int a1]) (h1 := xhN) rfl ?_
    refine ev_br (b1 := true) rfl rfl (xcd_lt (x := a1) (y := 0) (by rw [show ((0 : Int32)).toInt = 0 from by decide]; omega)) ?_
    refine ev_go 1 (pc1 := 17) (lv1 := [.ref 3, .int a1]) (st1 := [.int 0]) (h1 := xhN) rfl ?_
    exact ev_ret rfl rfl
  refine ev_go 2 (pc1 := 13) (lv1 := [.ref 0, .int a1, .int a2]) (st1 := [.int (-2)]) (h1 := xhN) rfl ?_
  exact ev_ret rfl rfl
set_option maxRecDepth 20000 in
theorem pm_judged_0 {L : Nat} {xs : Nat → Int32} {a1 a2 : Int32} (h1 : a1.toInt < 0) : xEv L xs 19 181 0 [.ref 86, .int a1, .int a2] [] xhN (some (.int (-2))) xhN := by
  refine ev_go 2 (pc1 := 2) (lv1 := [.ref 86, .int a1, .int a2]) (st1 := [.int a1, .ref 86]) (h1 := xhN) rfl ?_
  refine ev_call (v1 := (some (.int 0))) (h1 := xhN) rfl rfl ?_ ?_
  · refine ev_go 8 (pc1 := 10) (lv1 := [.ref 86, .int a1]) (st1 := [.int (-1), .int 0, .int a1]) (h1 := xhN) rfl ?_
    refine ev_call (v1 := (some (.int 0))) (h1 := xhN) rfl rfl ?_ ?_
    · refine ev_go 2 (pc1 := 2) (lv1 := [.int a1, .int 0, .int (-1)]) (st1 := [.int 0, .int a1]) (h1 := xhN) rfl ?_
      refine ev_br (b1 := true) rfl rfl (xcd_lt (x := a1) (y := 0) (by rw [show ((0 : Int32)).toInt = 0 from by decide]; omega)) ?_
      refine ev_go 1 (pc1 := 15) (lv1 := [.int a1, .int 0, .int (-1)]) (st1 := [.int 0]) (h1 := xhN) rfl ?_
      exact ev_ret rfl rfl
    exact ev_ret rfl rfl
  refine ev_go 2 (pc1 := 10) (lv1 := [.ref 86, .int a1, .int a2]) (st1 := [.int (-2)]) (h1 := xhN) rfl ?_
  exact ev_ret rfl rfl
set_option maxRecDepth 20000 in
theorem px_judged_1 {L : Nat} {xs : Nat → Int32} {a1 a2 : Int32} (h1 : 0 ≤ a1.toInt) : xEv L xs 19 62 0 [.ref 0, .int a1, .int a2] [] xhN (some (.int (-2))) xhN := by
  refine ev_go 3 (pc1 := 5) (lv1 := [.ref 0, .int a1, .int a2]) (st1 := [.int a1, .ref 3]) (h1 := xhN) rfl ?_
  refine ev_call (v1 := (some (.int 0))) (h1 := xhN) rfl rfl ?_ ?_
  · refine ev_go 1 (pc1 := 1) (lv1 := [.ref 3, .int a1]) (st1 := [.int a1]) (h1 := xhN) rfl ?_
    refine ev_br (b1 := false) rfl rfl (xcd_nlt (x := a1) (y := 0) (by rw [show ((0 : Int32)).toInt = 0 from by decide]; omega)) ?_
    refine ev_go 3 (pc1 := 9) (lv1 := [.ref 3, .int a1]) (st1 := [.int 0, .int a1]) (h1 := xhN) rfl ?_
    refine ev_br (b1 := true) rfl rfl (xcd_ge (x := a1) (y := 0) (by rw [show ((0 : Int32)).toInt = 0 from by decide]; omega)) ?_
    refine ev_go 1 (pc1 := 17) (lv1 := [.ref 3, .int a1]) (st1 := [.int 0]) (h1 := xhN) rfl ?_
    exact ev_ret rfl rfl
  refine ev_go 2 (pc1 := 13) (lv1 := [.ref 0, .int a1, .int a2]) (st1 := [.int (-2)]) (h1 := xhN) rfl ?_
  exact ev_ret rfl rfl
set_option maxRecDepth 20000 in
theorem pm_judged_1 {L : Nat} {xs : Nat → Int32} {a1 a2 : Int32} (h1 : 0 ≤ a1.toInt) : xEv L xs 19 181 0 [.ref 86, .int a1, .int a2] [] xhN (some (.int (-2))) xhN := by
  refine ev_go 2 (pc1 := 2) (lv1 := [.ref 86, .int a1, .int a2]) (st1 := [.int a1, .ref 86]) (h1 := xhN) rfl ?_
  refine ev_call (v1 := (some (.int 0))) (h1 := xhN) rfl rfl ?_ ?_
  · refine ev_go 8 (pc1 := 10) (lv1 := [.ref 86, .int a1]) (st1 := [.int (-1), .int 0, .int a1]) (h1 := xhN) rfl ?_
    refine ev_call (v1 := (some (.int 0))) (h1 := xhN) rfl rfl ?_ ?_
    · refine ev_go 2 (pc1 := 2) (lv1 := [.int a1, .int 0, .int (-1)]) (st1 := [.int 0, .int a1]) (h1 := xhN) rfl ?_
      refine ev_br (b1 := false) rfl rfl (xcd_nlt (x := a1) (y := 0) (by rw [show ((0 : Int32)).toInt = 0 from by decide]; omega)) ?_
      refine ev_go 2 (pc1 := 7) (lv1 := [.int a1, .int 0, .int (-1)]) (st1 := [.int (-1), .int a1]) (h1 := xhN) rfl ?_
      refine ev_br (b1 := true) rfl rfl (xcd_gt (x := a1) (y := (-1)) (by rw [show ((-1 : Int32)).toInt = -1 from by decide]; omega)) ?_
      refine ev_go 1 (pc1 := 15) (lv1 := [.int a1, .int 0, .int (-1)]) (st1 := [.int 0]) (h1 := xhN) rfl ?_
      exact ev_ret rfl rfl
    exact ev_ret rfl rfl
  refine ev_go 2 (pc1 := 10) (lv1 := [.ref 86, .int a1, .int a2]) (st1 := [.int (-2)]) (h1 := xhN) rfl ?_
  exact ev_ret rfl rfl
set_option maxRecDepth 20000 in
theorem px_soon_0 {L : Nat} {xs : Nat → Int32} {a1 a2 a3 a4 : Int32} (h1 : a1.toInt < 0) : xEv L xs 19 63 0 [.ref 0, .int a1, .int a2, .int a3, .int a4] [] xhN (some (.int (-2))) xhN := by
  refine ev_go 3 (pc1 := 5) (lv1 := [.ref 0, .int a1, .int a2, .int a3, .int a4]) (st1 := [.int a1, .ref 3]) (h1 := xhN) rfl ?_
  refine ev_call (v1 := (some (.int 0))) (h1 := xhN) rfl rfl ?_ ?_
  · refine ev_go 1 (pc1 := 1) (lv1 := [.ref 3, .int a1]) (st1 := [.int a1]) (h1 := xhN) rfl ?_
    refine ev_br (b1 := true) rfl rfl (xcd_lt (x := a1) (y := 0) (by rw [show ((0 : Int32)).toInt = 0 from by decide]; omega)) ?_
    refine ev_go 1 (pc1 := 17) (lv1 := [.ref 3, .int a1]) (st1 := [.int 0]) (h1 := xhN) rfl ?_
    exact ev_ret rfl rfl
  refine ev_go 2 (pc1 := 50) (lv1 := [.ref 0, .int a1, .int a2, .int a3, .int a4]) (st1 := [.int (-2)]) (h1 := xhN) rfl ?_
  exact ev_ret rfl rfl
set_option maxRecDepth 20000 in
theorem pm_soon_0 {L : Nat} {xs : Nat → Int32} {a1 a2 a3 a4 : Int32} (h1 : a1.toInt < 0) : xEv L xs 19 182 0 [.ref 86, .int a1, .int a2, .int a3, .int a4, xmk] [] xhN (some (.int (-2))) xhN := by
  refine ev_go 5 (pc1 := 6) (lv1 := [.ref 86, .int a1, .int a2, .int a3, .int a4, xmk]) (st1 := [.int a4, .int a3, .int a2, .int a1, .ref 86]) (h1 := xhN) rfl ?_
  refine ev_call (v1 := (some (.int 0))) (h1 := xhN) rfl rfl ?_ ?_
  · refine ev_go 2 (pc1 := 2) (lv1 := [.ref 86, .int a1, .int a2, .int a3, .int a4]) (st1 := [.int a1, .ref 86]) (h1 := xhN) rfl ?_
    refine ev_call (v1 := (some (.int 0))) (h1 := xhN) rfl rfl ?_ ?_
    · refine ev_go 8 (pc1 := 10) (lv1 := [.ref 86, .int a1]) (st1 := [.int (-1), .int 0, .int a1]) (h1 := xhN) rfl ?_
      refine ev_call (v1 := (some (.int 0))) (h1 := xhN) rfl rfl ?_ ?_
      · refine ev_go 2 (pc1 := 2) (lv1 := [.int a1, .int 0, .int (-1)]) (st1 := [.int 0, .int a1]) (h1 := xhN) rfl ?_
        refine ev_br (b1 := true) rfl rfl (xcd_lt (x := a1) (y := 0) (by rw [show ((0 : Int32)).toInt = 0 from by decide]; omega)) ?_
        refine ev_go 1 (pc1 := 15) (lv1 := [.int a1, .int 0, .int (-1)]) (st1 := [.int 0]) (h1 := xhN) rfl ?_
        exact ev_ret rfl rfl
      exact ev_ret rfl rfl
    refine ev_go 2 (pc1 := 38) (lv1 := [.ref 86, .int a1, .int a2, .int a3, .int a4]) (st1 := [.int 0]) (h1 := xhN) rfl ?_
    exact ev_ret rfl rfl
  refine ev_go 2 (pc1 := 14) (lv1 := [.ref 86, .int a1, .int a2, .int a3, .int a4, xmk]) (st1 := [.int (-2)]) (h1 := xhN) rfl ?_
  exact ev_ret rfl rfl
set_option maxRecDepth 20000 in
theorem px_soon_1 {L : Nat} {xs : Nat → Int32} {a1 a2 a3 a4 : Int32} (h1 : 0 ≤ a1.toInt) : xEv L xs 19 63 0 [.ref 0, .int a1, .int a2, .int a3, .int a4] [] xhN (some (.int (-2))) xhN := by
  refine ev_go 3 (pc1 := 5) (lv1 := [.ref 0, .int a1, .int a2, .int a3, .int a4]) (st1 := [.int a1, .ref 3]) (h1 := xhN) rfl ?_
  refine ev_call (v1 := (some (.int 0))) (h1 := xhN) rfl rfl ?_ ?_
  · refine ev_go 1 (pc1 := 1) (lv1 := [.ref 3, .int a1]) (st1 := [.int a1]) (h1 := xhN) rfl ?_
    refine ev_br (b1 := false) rfl rfl (xcd_nlt (x := a1) (y := 0) (by rw [show ((0 : Int32)).toInt = 0 from by decide]; omega)) ?_
    refine ev_go 3 (pc1 := 9) (lv1 := [.ref 3, .int a1]) (st1 := [.int 0, .int a1]) (h1 := xhN) rfl ?_
    refine ev_br (b1 := true) rfl rfl (xcd_ge (x := a1) (y := 0) (by rw [show ((0 : Int32)).toInt = 0 from by decide]; omega)) ?_
    refine ev_go 1 (pc1 := 17) (lv1 := [.ref 3, .int a1]) (st1 := [.int 0]) (h1 := xhN) rfl ?_
    exact ev_ret rfl rfl
  refine ev_go 2 (pc1 := 50) (lv1 := [.ref 0, .int a1, .int a2, .int a3, .int a4]) (st1 := [.int (-2)]) (h1 := xhN) rfl ?_
  exact ev_ret rfl rfl
set_option maxRecDepth 20000 in
theorem pm_soon_1 {L : Nat} {xs : Nat → Int32} {a1 a2 a3 a4 : Int32} (h1 : 0 ≤ a1.toInt) : xEv L xs 19 182 0 [.ref 86, .int a1, .int a2, .int a3, .int a4, xmk] [] xhN (some (.int (-2))) xhN := by
  refine ev_go 5 (pc1 := 6) (lv1 := [.ref 86, .int a1, .int a2, .int a3, .int a4, xmk]) (st1 := [.int a4, .int a3, .int a2, .int a1, .ref 86]) (h1 := xhN) rfl ?_
  refine ev_call (v1 := (some (.int 0))) (h1 := xhN) rfl rfl ?_ ?_
  · refine ev_go 2 (pc1 := 2) (lv1 := [.ref 86, .int a1, .int a2, .int a3, .int a4]) (st1 := [.int a1, .ref 86]) (h1 := xhN) rfl ?_
    refine ev_call (v1 := (some (.int 0))) (h1 := xhN) rfl rfl ?_ ?_
    · refine ev_go 8 (pc1 := 10) (lv1 := [.ref 86, .int a1]) (st1 := [.int (-1), .int 0, .int a1]) (h1 := xhN) rfl ?_
      refine ev_call (v1 := (some (.int 0))) (h1 := xhN) rfl rfl ?_ ?_
      · refine ev_go 2 (pc1 := 2) (lv1 := [.int a1, .int 0, .int (-1)]) (st1 := [.int 0, .int a1]) (h1 := xhN) rfl ?_
        refine ev_br (b1 := false) rfl rfl (xcd_nlt (x := a1) (y := 0) (by rw [show ((0 : Int32)).toInt = 0 from by decide]; omega)) ?_
        refine ev_go 2 (pc1 := 7) (lv1 := [.int a1, .int 0, .int (-1)]) (st1 := [.int (-1), .int a1]) (h1 := xhN) rfl ?_
        refine ev_br (b1 := true) rfl rfl (xcd_gt (x := a1) (y := (-1)) (by rw [show ((-1 : Int32)).toInt = -1 from by decide]; omega)) ?_
        refine ev_go 1 (pc1 := 15) (lv1 := [.int a1, .int 0, .int (-1)]) (st1 := [.int 0]) (h1 := xhN) rfl ?_
        exact ev_ret rfl rfl
      exact ev_ret rfl rfl
    refine ev_go 2 (pc1 := 38) (lv1 := [.ref 86, .int a1, .int a2, .int a3, .int a4]) (st1 := [.int 0]) (h1 := xhN) rfl ?_
    exact ev_ret rfl rfl
  refine ev_go 2 (pc1 := 14) (lv1 := [.ref 86, .int a1, .int a2, .int a3, .int a4, xmk]) (st1 := [.int (-2)]) (h1 := xhN) rfl ?_
  exact ev_ret rfl rfl
set_option maxRecDepth 20000 in
theorem px_surest_0 {L : Nat} {xs : Nat → Int32} {a1 a2 a3 a4 a5 a6 : Int32} (h1 : a1.toInt < 0) : xEv L xs 19 68 0 [.ref 0, .int a1, .int a2, .int a3, .int a4, .int a5, .int a6, xmk] [] xhN (some (.int (-2))) xhN := by
  refine ev_go 3 (pc1 := 5) (lv1 := [.ref 0, .int a1, .int a2, .int a3, .int a4, .int a5, .int a6, xmk]) (st1 := [.int a1, .ref 3]) (h1 := xhN) rfl ?_
  refine ev_call (v1 := (some (.int 0))) (h1 := xhN) rfl rfl ?_ ?_
  · refine ev_go 1 (pc1 := 1) (lv1 := [.ref 3, .int a1]) (st1 := [.int a1]) (h1 := xhN) rfl ?_
    refine ev_br (b1 := true) rfl rfl (xcd_lt (x := a1) (y := 0) (by rw [show ((0 : Int32)).toInt = 0 from by decide]; omega)) ?_
    refine ev_go 1 (pc1 := 17) (lv1 := [.ref 3, .int a1]) (st1 := [.int 0]) (h1 := xhN) rfl ?_
    exact ev_ret rfl rfl
  refine ev_go 2 (pc1 := 73) (lv1 := [.ref 0, .int a1, .int a2, .int a3, .int a4, .int a5, .int a6, xmk]) (st1 := [.int (-2)]) (h1 := xhN) rfl ?_
  exact ev_ret rfl rfl
set_option maxRecDepth 20000 in
theorem pm_surest_0 {L : Nat} {xs : Nat → Int32} {a1 a2 a3 a4 a5 a6 : Int32} (h1 : a1.toInt < 0) : xEv L xs 19 188 0 [.ref 86, .int a1, .int a2, .int a3, .int a4, .int a5, .int a6] [] xhN (some (.int (-2))) xhN := by
  refine ev_go 5 (pc1 := 6) (lv1 := [.ref 86, .int a1, .int a2, .int a3, .int a4, .int a5, .int a6]) (st1 := [.int a4, .int a3, .int a2, .int a1, .ref 86]) (h1 := xhN) rfl ?_
  refine ev_call (v1 := (some (.int 0))) (h1 := xhN) rfl rfl ?_ ?_
  · refine ev_go 2 (pc1 := 2) (lv1 := [.ref 86, .int a1, .int a2, .int a3, .int a4]) (st1 := [.int a1, .ref 86]) (h1 := xhN) rfl ?_
    refine ev_call (v1 := (some (.int 0))) (h1 := xhN) rfl rfl ?_ ?_
    · refine ev_go 8 (pc1 := 10) (lv1 := [.ref 86, .int a1]) (st1 := [.int (-1), .int 0, .int a1]) (h1 := xhN) rfl ?_
      refine ev_call (v1 := (some (.int 0))) (h1 := xhN) rfl rfl ?_ ?_
      · refine ev_go 2 (pc1 := 2) (lv1 := [.int a1, .int 0, .int (-1)]) (st1 := [.int 0, .int a1]) (h1 := xhN) rfl ?_
        refine ev_br (b1 := true) rfl rfl (xcd_lt (x := a1) (y := 0) (by rw [show ((0 : Int32)).toInt = 0 from by decide]; omega)) ?_
        refine ev_go 1 (pc1 := 15) (lv1 := [.int a1, .int 0, .int (-1)]) (st1 := [.int 0]) (h1 := xhN) rfl ?_
        exact ev_ret rfl rfl
      exact ev_ret rfl rfl
    refine ev_go 2 (pc1 := 38) (lv1 := [.ref 86, .int a1, .int a2, .int a3, .int a4]) (st1 := [.int 0]) (h1 := xhN) rfl ?_
    exact ev_ret rfl rfl
  refine ev_go 2 (pc1 := 35) (lv1 := [.ref 86, .int a1, .int a2, .int a3, .int a4, .int a5, .int a6]) (st1 := [.int (-2)]) (h1 := xhN) rfl ?_
  exact ev_ret rfl rfl
set_option maxRecDepth 20000 in
theorem px_surest_1 {L : Nat} {xs : Nat → Int32} {a1 a2 a3 a4 a5 a6 : Int32} (h1 : 0 ≤ a1.toInt) : xEv L xs 19 68 0 [.ref 0, .int a1, .int a2, .int a3, .int a4, .int a5, .int a6, xmk] [] xhN (some (.int (-2))) xhN := by
  refine ev_go 3 (pc1 := 5) (lv1 := [.ref 0, .int a1, .int a2, .int a3, .int a4, .int a5, .int a6, xmk]) (st1 := [.int a1, .ref 3]) (h1 := xhN) rfl ?_
  refine ev_call (v1 := (some (.int 0))) (h1 := xhN) rfl rfl ?_ ?_
  · refine ev_go 1 (pc1 := 1) (lv1 := [.ref 3, .int a1]) (st1 := [.int a1]) (h1 := xhN) rfl ?_
    refine ev_br (b1 := false) rfl rfl (xcd_nlt (x := a1) (y := 0) (by rw [show ((0 : Int32)).toInt = 0 from by decide]; omega)) ?_
    refine ev_go 3 (pc1 := 9) (lv1 := [.ref 3, .int a1]) (st1 := [.int 0, .int a1]) (h1 := xhN) rfl ?_
    refine ev_br (b1 := true) rfl rfl (xcd_ge (x := a1) (y := 0) (by rw [show ((0 : Int32)).toInt = 0 from by decide]; omega)) ?_
    refine ev_go 1 (pc1 := 17) (lv1 := [.ref 3, .int a1]) (st1 := [.int 0]) (h1 := xhN) rfl ?_
    exact ev_ret rfl rfl
  refine ev_go 2 (pc1 := 73) (lv1 := [.ref 0, .int a1, .int a2, .int a3, .int a4, .int a5, .int a6, xmk]) (st1 := [.int (-2)]) (h1 := xhN) rfl ?_
  exact ev_ret rfl rfl
set_option maxRecDepth 20000 in
theorem pm_surest_1 {L : Nat} {xs : Nat → Int32} {a1 a2 a3 a4 a5 a6 : Int32} (h1 : 0 ≤ a1.toInt) : xEv L xs 19 188 0 [.ref 86, .int a1, .int a2, .int a3, .int a4, .int a5, .int a6] [] xhN (some (.int (-2))) xhN := by
  refine ev_go 5 (pc1 := 6) (lv1 := [.ref 86, .int a1, .int a2, .int a3, .int a4, .int a5, .int a6]) (st1 := [.int a4, .int a3, .int a2, .int a1, .ref 86]) (h1 := xhN) rfl ?_
  refine ev_call (v1 := (some (.int 0))) (h1 := xhN) rfl rfl ?_ ?_
  · refine ev_go 2 (pc1 := 2) (lv1 := [.ref 86, .int a1, .int a2, .int a3, .int a4]) (st1 := [.int a1, .ref 86]) (h1 := xhN) rfl ?_
    refine ev_call (v1 := (some (.int 0))) (h1 := xhN) rfl rfl ?_ ?_
    · refine ev_go 8 (pc1 := 10) (lv1 := [.ref 86, .int a1]) (st1 := [.int (-1), .int 0, .int a1]) (h1 := xhN) rfl ?_
      refine ev_call (v1 := (some (.int 0))) (h1 := xhN) rfl rfl ?_ ?_
      · refine ev_go 2 (pc1 := 2) (lv1 := [.int a1, .int 0, .int (-1)]) (st1 := [.int 0, .int a1]) (h1 := xhN) rfl ?_
        refine ev_br (b1 := false) rfl rfl (xcd_nlt (x := a1) (y := 0) (by rw [show ((0 : Int32)).toInt = 0 from by decide]; omega)) ?_
        refine ev_go 2 (pc1 := 7) (lv1 := [.int a1, .int 0, .int (-1)]) (st1 := [.int (-1), .int a1]) (h1 := xhN) rfl ?_
        refine ev_br (b1 := true) rfl rfl (xcd_gt (x := a1) (y := (-1)) (by rw [show ((-1 : Int32)).toInt = -1 from by decide]; omega)) ?_
        refine ev_go 1 (pc1 := 15) (lv1 := [.int a1, .int 0, .int (-1)]) (st1 := [.int 0]) (h1 := xhN) rfl ?_
        exact ev_ret rfl rfl
      exact ev_ret rfl rfl
    refine ev_go 2 (pc1 := 38) (lv1 := [.ref 86, .int a1, .int a2, .int a3, .int a4]) (st1 := [.int 0]) (h1 := xhN) rfl ?_
    exact ev_ret rfl rfl
  refine ev_go 2 (pc1 := 35) (lv1 := [.ref 86, .int a1, .int a2, .int a3, .int a4, .int a5, .int a6]) (st1 := [.int (-2)]) (h1 := xhN) rfl ?_
  exact ev_ret rfl rfl
set_option maxRecDepth 20000 in
theorem px_bars_0 {L : Nat} {xs : Nat → Int32} {a1 a2 a3 a4 : Int32} (h1 : a1.toInt < 0) : xEv L xs 19 82 0 [.ref 0, .int a1, .int a2, .int a3, .int a4, xmk, xmk, xmk] [] xhN (some (.int (-2))) xhN := by
  refine ev_go 3 (pc1 := 5) (lv1 := [.ref 0, .int a1, .int a2, .int a3, .int a4, xmk, xmk, xmk]) (st1 := [.int a1, .ref 3]) (h1 := xhN) rfl ?_
  refine ev_call (v1 := (some (.int 0))) (h1 := xhN) rfl rfl ?_ ?_
  · refine ev_go 1 (pc1 := 1) (lv1 := [.ref 3, .int a1]) (st1 := [.int a1]) (h1 := xhN) rfl ?_
    refine ev_br (b1 := true) rfl rfl (xcd_lt (x := a1) (y := 0) (by rw [show ((0 : Int32)).toInt = 0 from by decide]; omega)) ?_
    refine ev_go 1 (pc1 := 17) (lv1 := [.ref 3, .int a1]) (st1 := [.int 0]) (h1 := xhN) rfl ?_
    exact ev_ret rfl rfl
  refine ev_go 2 (pc1 := 55) (lv1 := [.ref 0, .int a1, .int a2, .int a3, .int a4, xmk, xmk, xmk]) (st1 := [.int (-2)]) (h1 := xhN) rfl ?_
  exact ev_ret rfl rfl
set_option maxRecDepth 20000 in
theorem pm_bars_0 {L : Nat} {xs : Nat → Int32} {a1 a2 a3 a4 : Int32} (h1 : a1.toInt < 0) : xEv L xs 19 187 0 [.ref 86, .int a1, .int a2, .int a3, .int a4, xmk, xmk] [] xhN (some (.int (-2))) xhN := by
  refine ev_go 5 (pc1 := 6) (lv1 := [.ref 86, .int a1, .int a2, .int a3, .int a4, xmk, xmk]) (st1 := [.int a4, .int a3, .int a2, .int a1, .ref 86]) (h1 := xhN) rfl ?_
  refine ev_call (v1 := (some (.int 0))) (h1 := xhN) rfl rfl ?_ ?_
  · refine ev_go 2 (pc1 := 2) (lv1 := [.ref 86, .int a1, .int a2, .int a3, .int a4]) (st1 := [.int a1, .ref 86]) (h1 := xhN) rfl ?_
    refine ev_call (v1 := (some (.int 0))) (h1 := xhN) rfl rfl ?_ ?_
    · refine ev_go 8 (pc1 := 10) (lv1 := [.ref 86, .int a1]) (st1 := [.int (-1), .int 0, .int a1]) (h1 := xhN) rfl ?_
      refine ev_call (v1 := (some (.int 0))) (h1 := xhN) rfl rfl ?_ ?_
      · refine ev_go 2 (pc1 := 2) (lv1 := [.int a1, .int 0, .int (-1)]) (st1 := [.int 0, .int a1]) (h1 := xhN) rfl ?_
        refine ev_br (b1 := true) rfl rfl (xcd_lt (x := a1) (y := 0) (by rw [show ((0 : Int32)).toInt = 0 from by decide]; omega)) ?_
        refine ev_go 1 (pc1 := 15) (lv1 := [.int a1, .int 0, .int (-1)]) (st1 := [.int 0]) (h1 := xhN) rfl ?_
        exact ev_ret rfl rfl
      exact ev_ret rfl rfl
    refine ev_go 2 (pc1 := 38) (lv1 := [.ref 86, .int a1, .int a2, .int a3, .int a4]) (st1 := [.int 0]) (h1 := xhN) rfl ?_
    exact ev_ret rfl rfl
  refine ev_go 2 (pc1 := 19) (lv1 := [.ref 86, .int a1, .int a2, .int a3, .int a4, xmk, xmk]) (st1 := [.int (-2)]) (h1 := xhN) rfl ?_
  exact ev_ret rfl rfl
set_option maxRecDepth 20000 in
theorem px_bars_1 {L : Nat} {xs : Nat → Int32} {a1 a2 a3 a4 : Int32} (h1 : 0 ≤ a1.toInt) : xEv L xs 19 82 0 [.ref 0, .int a1, .int a2, .int a3, .int a4, xmk, xmk, xmk] [] xhN (some (.int (-2))) xhN := by
  refine ev_go 3 (pc1 := 5) (lv1 := [.ref 0, .int a1, .int a2, .int a3, .int a4, xmk, xmk, xmk]) (st1 := [.int a1, .ref 3]) (h1 := xhN) rfl ?_
  refine ev_call (v1 := (some (.int 0))) (h1 := xhN) rfl rfl ?_ ?_
  · refine ev_go 1 (pc1 := 1) (lv1 := [.ref 3, .int a1]) (st1 := [.int a1]) (h1 := xhN) rfl ?_
    refine ev_br (b1 := false) rfl rfl (xcd_nlt (x := a1) (y := 0) (by rw [show ((0 : Int32)).toInt = 0 from by decide]; omega)) ?_
    refine ev_go 3 (pc1 := 9) (lv1 := [.ref 3, .int a1]) (st1 := [.int 0, .int a1]) (h1 := xhN) rfl ?_
    refine ev_br (b1 := true) rfl rfl (xcd_ge (x := a1) (y := 0) (by rw [show ((0 : Int32)).toInt = 0 from by decide]; omega)) ?_
    refine ev_go 1 (pc1 := 17) (lv1 := [.ref 3, .int a1]) (st1 := [.int 0]) (h1 := xhN) rfl ?_
    exact ev_ret rfl rfl
  refine ev_go 2 (pc1 := 55) (lv1 := [.ref 0, .int a1, .int a2, .int a3, .int a4, xmk, xmk, xmk]) (st1 := [.int (-2)]) (h1 := xhN) rfl ?_
  exact ev_ret rfl rfl
set_option maxRecDepth 20000 in
theorem pm_bars_1 {L : Nat} {xs : Nat → Int32} {a1 a2 a3 a4 : Int32} (h1 : 0 ≤ a1.toInt) : xEv L xs 19 187 0 [.ref 86, .int a1, .int a2, .int a3, .int a4, xmk, xmk] [] xhN (some (.int (-2))) xhN := by
  refine ev_go 5 (pc1 := 6) (lv1 := [.ref 86, .int a1, .int a2, .int a3, .int a4, xmk, xmk]) (st1 := [.int a4, .int a3, .int a2, .int a1, .ref 86]) (h1 := xhN) rfl ?_
  refine ev_call (v1 := (some (.int 0))) (h1 := xhN) rfl rfl ?_ ?_
  · refine ev_go 2 (pc1 := 2) (lv1 := [.ref 86, .int a1, .int a2, .int a3, .int a4]) (st1 := [.int a1, .ref 86]) (h1 := xhN) rfl ?_
    refine ev_call (v1 := (some (.int 0))) (h1 := xhN) rfl rfl ?_ ?_
    · refine ev_go 8 (pc1 := 10) (lv1 := [.ref 86, .int a1]) (st1 := [.int (-1), .int 0, .int a1]) (h1 := xhN) rfl ?_
      refine ev_call (v1 := (some (.int 0))) (h1 := xhN) rfl rfl ?_ ?_
      · refine ev_go 2 (pc1 := 2) (lv1 := [.int a1, .int 0, .int (-1)]) (st1 := [.int 0, .int a1]) (h1 := xhN) rfl ?_
        refine ev_br (b1 := false) rfl rfl (xcd_nlt (x := a1) (y := 0) (by rw [show ((0 : Int32)).toInt = 0 from by decide]; omega)) ?_
        refine ev_go 2 (pc1 := 7) (lv1 := [.int a1, .int 0, .int (-1)]) (st1 := [.int (-1), .int a1]) (h1 := xhN) rfl ?_
        refine ev_br (b1 := true) rfl rfl (xcd_gt (x := a1) (y := (-1)) (by rw [show ((-1 : Int32)).toInt = -1 from by decide]; omega)) ?_
        refine ev_go 1 (pc1 := 15) (lv1 := [.int a1, .int 0, .int (-1)]) (st1 := [.int 0]) (h1 := xhN) rfl ?_
        exact ev_ret rfl rfl
      exact ev_ret rfl rfl
    refine ev_go 2 (pc1 := 38) (lv1 := [.ref 86, .int a1, .int a2, .int a3, .int a4]) (st1 := [.int 0]) (h1 := xhN) rfl ?_
    exact ev_ret rfl rfl
  refine ev_go 2 (pc1 := 19) (lv1 := [.ref 86, .int a1, .int a2, .int a3, .int a4, xmk, xmk]) (st1 := [.int (-2)]) (h1 := xhN) rfl ?_
  exact ev_ret rfl rfl
set_option maxRecDepth 20000 in
theorem px_together_0 {L : Nat} {xs : Nat → Int32} {a1 a2 : Int32} (h1 : a1.toInt < 1) : xEv L xs 19 93 0 [.ref 0, .int a1, .int a2, xmk] [] xhN (some (.int (-2))) xhN := by
  refine ev_go 2 (pc1 := 2) (lv1 := [.ref 0, .int a1, .int a2, xmk]) (st1 := [.int 1, .int a1]) (h1 := xhN) rfl ?_
  refine ev_br (b1 := true) rfl rfl (xcd_lt (x := a1) (y := 1) (by rw [show ((1 : Int32)).toInt = 1 from by decide]; omega)) ?_
  refine ev_go 1 (pc1 := 31) (lv1 := [.ref 0, .int a1, .int a2, xmk]) (st1 := [.int (-2)]) (h1 := xhN) rfl ?_
  exact ev_ret rfl rfl
set_option maxRecDepth 20000 in
theorem pm_together_0 {L : Nat} {xs : Nat → Int32} {a1 a2 : Int32} (h1 : a1.toInt < 1) : xEv L xs 19 208 0 [.ref 86, .int a1, .int a2, xmk, xmk, xmk, xmk, xmk] [] xhN (some (.int (-2))) xhN := by
  refine ev_go 2 (pc1 := 2) (lv1 := [.ref 86, .int a1, .int a2, xmk, xmk, xmk, xmk, xmk]) (st1 := [.int 1, .int a1]) (h1 := xhN) rfl ?_
  refine ev_br (b1 := true) rfl rfl (xcd_lt (x := a1) (y := 1) (by rw [show ((1 : Int32)).toInt = 1 from by decide]; omega)) ?_
  refine ev_go 1 (pc1 := 27) (lv1 := [.ref 86, .int a1, .int a2, xmk, xmk, xmk, xmk, xmk]) (st1 := [.int (-2)]) (h1 := xhN) rfl ?_
  exact ev_ret rfl rfl
set_option maxRecDepth 20000 in
theorem px_together_1 {L : Nat} {xs : Nat → Int32} {a1 a2 : Int32} (h1 : 1 ≤ a1.toInt) : xEv L xs 19 93 0 [.ref 0, .int a1, .int a2, xmk] [] xhN (some (.int (-2))) xhN := by
  refine ev_go 2 (pc1 := 2) (lv1 := [.ref 0, .int a1, .int a2, xmk]) (st1 := [.int 1, .int a1]) (h1 := xhN) rfl ?_
  refine ev_br (b1 := false) rfl rfl (xcd_nlt (x := a1) (y := 1) (by rw [show ((1 : Int32)).toInt = 1 from by decide]; omega)) ?_
  refine ev_go 5 (pc1 := 14) (lv1 := [.ref 0, .int a1, .int a2, xmk]) (st1 := [.int 0, .int 1, .int a1]) (h1 := xhN) rfl ?_
  refine ev_go 1 (pc1 := 15) (lv1 := [.ref 0, .int a1, .int a2, xmk]) (st1 := [.int 1, .int a1]) (h1 := xhN) rfl ?_
  refine ev_br (b1 := true) rfl rfl (xcd_ge (x := a1) (y := 1) (by rw [show ((1 : Int32)).toInt = 1 from by decide]; omega)) ?_
  refine ev_go 1 (pc1 := 31) (lv1 := [.ref 0, .int a1, .int a2, xmk]) (st1 := [.int (-2)]) (h1 := xhN) rfl ?_
  exact ev_ret rfl rfl
set_option maxRecDepth 20000 in
theorem pm_together_1 {L : Nat} {xs : Nat → Int32} {a1 a2 : Int32} (h1 : 1 ≤ a1.toInt) : xEv L xs 19 208 0 [.ref 86, .int a1, .int a2, xmk, xmk, xmk, xmk, xmk] [] xhN (some (.int (-2))) xhN := by
  refine ev_go 2 (pc1 := 2) (lv1 := [.ref 86, .int a1, .int a2, xmk, xmk, xmk, xmk, xmk]) (st1 := [.int 1, .int a1]) (h1 := xhN) rfl ?_
  refine ev_br (b1 := false) rfl rfl (xcd_nlt (x := a1) (y := 1) (by rw [show ((1 : Int32)).toInt = 1 from by decide]; omega)) ?_
  refine ev_go 6 (pc1 := 13) (lv1 := [.ref 86, .int a1, .int a2, xmk, xmk, xmk, xmk, xmk]) (st1 := [.int 0, .int 1, .int a1]) (h1 := xhN) rfl ?_
  refine ev_go 1 (pc1 := 14) (lv1 := [.ref 86, .int a1, .int a2, xmk, xmk, xmk, xmk, xmk]) (st1 := [.int 1, .int a1]) (h1 := xhN) rfl ?_
  refine ev_br (b1 := true) rfl rfl (xcd_ge (x := a1) (y := 1) (by rw [show ((1 : Int32)).toInt = 1 from by decide]; omega)) ?_
  refine ev_go 1 (pc1 := 27) (lv1 := [.ref 86, .int a1, .int a2, xmk, xmk, xmk, xmk, xmk]) (st1 := [.int (-2)]) (h1 := xhN) rfl ?_
  exact ev_ret rfl rfl
set_option maxRecDepth 20000 in
theorem px_reply_0 {L : Nat} {xs : Nat → Int32} {a1 : Int32} (h1 : a1.toInt < 0) : xEv L xs 19 95 0 [.ref 0, .int a1, xmk] [] xhN (some (.int (-2))) (xsetI xhN 1 1 0) := by
  refine ev_go 6 (pc1 := 11) (lv1 := [.ref 0, .int a1, .int (-2)]) (st1 := [.int a1, .ref 17]) (h1 := xhN) rfl ?_
  refine ev_call (v1 := (some (.int 0))) (h1 := xhN) rfl rfl ?_ ?_
  · refine ev_go 1 (pc1 := 1) (lv1 := [.ref 17, .int a1]) (st1 := [.int a1]) (h1 := xhN) rfl ?_
    refine ev_br (b1 := true) rfl rfl (xcd_lt (x := a1) (y := 0) (by rw [show ((0 : Int32)).toInt = 0 from by decide]; omega)) ?_
    refine ev_go 1 (pc1 := 17) (lv1 := [.ref 17, .int a1]) (st1 := [.int 0]) (h1 := xhN) rfl ?_
    exact ev_ret rfl rfl
  refine ev_go 6 (pc1 := 43) (lv1 := [.ref 0, .int a1, .int (-2)]) (st1 := [.int (-2)]) (h1 := (xsetI xhN 1 1 0)) rfl ?_
  exact ev_ret rfl rfl
set_option maxRecDepth 20000 in
theorem pm_reply_0 {L : Nat} {xs : Nat → Int32} {a1 : Int32} (h1 : a1.toInt < 0) : xEv L xs 19 210 0 [.ref 86, .int a1, xmk, xmk, xmk] [] (xsetI xhN 1 1 0) (some (.int (-2))) (xsetI (xsetI (xsetI xhN 1 1 0) 86 48 0) 86 1 0) := by
  refine ev_go 3 (pc1 := 3) (lv1 := [.ref 86, .int a1, xmk, xmk, xmk]) (st1 := [.int 0, .int 2, .ref 86]) (h1 := (xsetI xhN 1 1 0)) rfl ?_
  refine ev_call (v1 := (some (.int 0))) (h1 := (xsetI (xsetI (xsetI xhN 1 1 0) 86 48 0) 86 1 0)) rfl rfl ?_ ?_
  · refine ev_go 20 (pc1 := 137) (lv1 := [.ref 86, .int 2, .int 0, .int 0, .int 0]) (st1 := [.int 0]) (h1 := (xsetI (xsetI (xsetI xhN 1 1 0) 86 48 0) 86 1 0)) rfl ?_
    exact ev_ret rfl rfl
  refine ev_go 3 (pc1 := 9) (lv1 := [.ref 86, .int a1, .int 0, xmk, xmk]) (st1 := [.int a1, .ref 86]) (h1 := (xsetI (xsetI (xsetI xhN 1 1 0) 86 48 0) 86 1 0)) rfl ?_
  refine ev_call (v1 := (some (.int 0))) (h1 := (xsetI (xsetI (xsetI xhN 1 1 0) 86 48 0) 86 1 0)) rfl rfl ?_ ?_
  · refine ev_go 4 (pc1 := 6) (lv1 := [.ref 86, .int a1]) (st1 := [.int 0, .int 0, .int a1]) (h1 := (xsetI (xsetI (xsetI xhN 1 1 0) 86 48 0) 86 1 0)) rfl ?_
    refine ev_call (v1 := (some (.int 0))) (h1 := (xsetI (xsetI (xsetI xhN 1 1 0) 86 48 0) 86 1 0)) rfl rfl ?_ ?_
    · refine ev_go 2 (pc1 := 2) (lv1 := [.int a1, .int 0, .int 0]) (st1 := [.int 0, .int a1]) (h1 := (xsetI (xsetI (xsetI xhN 1 1 0) 86 48 0) 86 1 0)) rfl ?_
      refine ev_br (b1 := true) rfl rfl (xcd_lt (x := a1) (y := 0) (by rw [show ((0 : Int32)).toInt = 0 from by decide]; omega)) ?_
      refine ev_go 1 (pc1 := 15) (lv1 := [.int a1, .int 0, .int 0]) (st1 := [.int 0]) (h1 := (xsetI (xsetI (xsetI xhN 1 1 0) 86 48 0) 86 1 0)) rfl ?_
      exact ev_ret rfl rfl
    exact ev_ret rfl rfl
  refine ev_go 2 (pc1 := 17) (lv1 := [.ref 86, .int a1, .int 0, xmk, xmk]) (st1 := [.int (-2)]) (h1 := (xsetI (xsetI (xsetI xhN 1 1 0) 86 48 0) 86 1 0)) rfl ?_
  exact ev_ret rfl rfl
set_option maxRecDepth 20000 in
theorem px_reply_1 {L : Nat} {xs : Nat → Int32} {a1 : Int32} (h1 : 0 < a1.toInt) : xEv L xs 19 95 0 [.ref 0, .int a1, xmk] [] xhN (some (.int (-2))) (xsetI xhN 1 1 0) := by
  refine ev_go 6 (pc1 := 11) (lv1 := [.ref 0, .int a1, .int (-2)]) (st1 := [.int a1, .ref 17]) (h1 := xhN) rfl ?_
  refine ev_call (v1 := (some (.int 0))) (h1 := xhN) rfl rfl ?_ ?_
  · refine ev_go 1 (pc1 := 1) (lv1 := [.ref 17, .int a1]) (st1 := [.int a1]) (h1 := xhN) rfl ?_
    refine ev_br (b1 := false) rfl rfl (xcd_nlt (x := a1) (y := 0) (by rw [show ((0 : Int32)).toInt = 0 from by decide]; omega)) ?_
    refine ev_go 3 (pc1 := 9) (lv1 := [.ref 17, .int a1]) (st1 := [.int 0, .int a1]) (h1 := xhN) rfl ?_
    refine ev_br (b1 := true) rfl rfl (xcd_gt (x := a1) (y := 0) (by rw [show ((0 : Int32)).toInt = 0 from by decide]; omega)) ?_
    refine ev_go 1 (pc1 := 17) (lv1 := [.ref 17, .int a1]) (st1 := [.int 0]) (h1 := xhN) rfl ?_
    exact ev_ret rfl rfl
  refine ev_go 6 (pc1 := 43) (lv1 := [.ref 0, .int a1, .int (-2)]) (st1 := [.int (-2)]) (h1 := (xsetI xhN 1 1 0)) rfl ?_
  exact ev_ret rfl rfl
set_option maxRecDepth 20000 in
theorem pm_reply_1 {L : Nat} {xs : Nat → Int32} {a1 : Int32} (h1 : 0 < a1.toInt) : xEv L xs 19 210 0 [.ref 86, .int a1, xmk, xmk, xmk] [] (xsetI xhN 1 1 0) (some (.int (-2))) (xsetI (xsetI (xsetI xhN 1 1 0) 86 48 0) 86 1 0) := by
  refine ev_go 3 (pc1 := 3) (lv1 := [.ref 86, .int a1, xmk, xmk, xmk]) (st1 := [.int 0, .int 2, .ref 86]) (h1 := (xsetI xhN 1 1 0)) rfl ?_
  refine ev_call (v1 := (some (.int 0))) (h1 := (xsetI (xsetI (xsetI xhN 1 1 0) 86 48 0) 86 1 0)) rfl rfl ?_ ?_
  · refine ev_go 20 (pc1 := 137) (lv1 := [.ref 86, .int 2, .int 0, .int 0, .int 0]) (st1 := [.int 0]) (h1 := (xsetI (xsetI (xsetI xhN 1 1 0) 86 48 0) 86 1 0)) rfl ?_
    exact ev_ret rfl rfl
  refine ev_go 3 (pc1 := 9) (lv1 := [.ref 86, .int a1, .int 0, xmk, xmk]) (st1 := [.int a1, .ref 86]) (h1 := (xsetI (xsetI (xsetI xhN 1 1 0) 86 48 0) 86 1 0)) rfl ?_
  refine ev_call (v1 := (some (.int 0))) (h1 := (xsetI (xsetI (xsetI xhN 1 1 0) 86 48 0) 86 1 0)) rfl rfl ?_ ?_
  · refine ev_go 4 (pc1 := 6) (lv1 := [.ref 86, .int a1]) (st1 := [.int 0, .int 0, .int a1]) (h1 := (xsetI (xsetI (xsetI xhN 1 1 0) 86 48 0) 86 1 0)) rfl ?_
    refine ev_call (v1 := (some (.int 0))) (h1 := (xsetI (xsetI (xsetI xhN 1 1 0) 86 48 0) 86 1 0)) rfl rfl ?_ ?_
    · refine ev_go 2 (pc1 := 2) (lv1 := [.int a1, .int 0, .int 0]) (st1 := [.int 0, .int a1]) (h1 := (xsetI (xsetI (xsetI xhN 1 1 0) 86 48 0) 86 1 0)) rfl ?_
      refine ev_br (b1 := false) rfl rfl (xcd_nlt (x := a1) (y := 0) (by rw [show ((0 : Int32)).toInt = 0 from by decide]; omega)) ?_
      refine ev_go 2 (pc1 := 7) (lv1 := [.int a1, .int 0, .int 0]) (st1 := [.int 0, .int a1]) (h1 := (xsetI (xsetI (xsetI xhN 1 1 0) 86 48 0) 86 1 0)) rfl ?_
      refine ev_br (b1 := true) rfl rfl (xcd_gt (x := a1) (y := 0) (by rw [show ((0 : Int32)).toInt = 0 from by decide]; omega)) ?_
      refine ev_go 1 (pc1 := 15) (lv1 := [.int a1, .int 0, .int 0]) (st1 := [.int 0]) (h1 := (xsetI (xsetI (xsetI xhN 1 1 0) 86 48 0) 86 1 0)) rfl ?_
      exact ev_ret rfl rfl
    exact ev_ret rfl rfl
  refine ev_go 2 (pc1 := 17) (lv1 := [.ref 86, .int a1, .int 0, xmk, xmk]) (st1 := [.int (-2)]) (h1 := (xsetI (xsetI (xsetI xhN 1 1 0) 86 48 0) 86 1 0)) rfl ?_
  exact ev_ret rfl rfl
set_option maxRecDepth 20000 in
theorem px_ring_0 {L : Nat} {xs : Nat → Int32} {a1 : Int32} (h1 : a1.toInt < 0) : xEv L xs 19 100 0 [.ref 0, .int a1, xmk] [] xhN (some (.int (-2))) (xsetI xhN 1 1 0) := by
  refine ev_go 3 (pc1 := 4) (lv1 := [.ref 0, .int a1, .int (-2)]) (st1 := [.int a1]) (h1 := xhN) rfl ?_
  refine ev_br (b1 := true) rfl rfl (xcd_lt (x := a1) (y := 0) (by rw [show ((0 : Int32)).toInt = 0 from by decide]; omega)) ?_
  refine ev_go 5 (pc1 := 40) (lv1 := [.ref 0, .int a1, .int (-2)]) (st1 := [.int (-2)]) (h1 := (xsetI xhN 1 1 0)) rfl ?_
  exact ev_ret rfl rfl
set_option maxRecDepth 20000 in
theorem pm_ring_0 {L : Nat} {xs : Nat → Int32} {a1 : Int32} (h1 : a1.toInt < 0) : xEv L xs 19 212 0 [.ref 86, .int a1, xmk, xmk] [] (xsetI xhN 1 1 0) (some (.int (-2))) (xsetI (xsetI (xsetI xhN 1 1 0) 86 48 0) 86 1 0) := by
  refine ev_go 3 (pc1 := 3) (lv1 := [.ref 86, .int a1, xmk, xmk]) (st1 := [.int 1, .int 1, .ref 86]) (h1 := (xsetI xhN 1 1 0)) rfl ?_
  refine ev_call (v1 := (some (.int 0))) (h1 := (xsetI (xsetI (xsetI xhN 1 1 0) 86 48 0) 86 1 0)) rfl rfl ?_ ?_
  · refine ev_go 20 (pc1 := 137) (lv1 := [.ref 86, .int 1, .int 1, .int 0, .int 0]) (st1 := [.int 0]) (h1 := (xsetI (xsetI (xsetI xhN 1 1 0) 86 48 0) 86 1 0)) rfl ?_
    exact ev_ret rfl rfl
  refine ev_go 4 (pc1 := 12) (lv1 := [.ref 86, .int a1, .int 0, xmk]) (st1 := [.int 400, .int 0, .int a1]) (h1 := (xsetI (xsetI (xsetI xhN 1 1 0) 86 48 0) 86 1 0)) rfl ?_
  refine ev_call (v1 := (some (.int 0))) (h1 := (xsetI (xsetI (xsetI xhN 1 1 0) 86 48 0) 86 1 0)) rfl rfl ?_ ?_
  · refine ev_go 2 (pc1 := 2) (lv1 := [.int a1, .int 0, .int 400]) (st1 := [.int 0, .int a1]) (h1 := (xsetI (xsetI (xsetI xhN 1 1 0) 86 48 0) 86 1 0)) rfl ?_
    refine ev_br (b1 := true) rfl rfl (xcd_lt (x := a1) (y := 0) (by rw [show ((0 : Int32)).toInt = 0 from by decide]; omega)) ?_
    refine ev_go 1 (pc1 := 15) (lv1 := [.int a1, .int 0, .int 400]) (st1 := [.int 0]) (h1 := (xsetI (xsetI (xsetI xhN 1 1 0) 86 48 0) 86 1 0)) rfl ?_
    exact ev_ret rfl rfl
  refine ev_go 2 (pc1 := 20) (lv1 := [.ref 86, .int a1, .int 0, xmk]) (st1 := [.int (-2)]) (h1 := (xsetI (xsetI (xsetI xhN 1 1 0) 86 48 0) 86 1 0)) rfl ?_
  exact ev_ret rfl rfl
set_option maxRecDepth 20000 in
theorem px_ring_1 {L : Nat} {xs : Nat → Int32} {a1 : Int32} (h1 : 400 < a1.toInt) : xEv L xs 19 100 0 [.ref 0, .int a1, xmk] [] xhN (some (.int (-2))) (xsetI xhN 1 1 0) := by
  refine ev_go 3 (pc1 := 4) (lv1 := [.ref 0, .int a1, .int (-2)]) (st1 := [.int a1]) (h1 := xhN) rfl ?_
  refine ev_br (b1 := false) rfl rfl (xcd_nlt (x := a1) (y := 0) (by rw [show ((0 : Int32)).toInt = 0 from by decide]; omega)) ?_
  refine ev_go 2 (pc1 := 11) (lv1 := [.ref 0, .int a1, .int (-2)]) (st1 := [.int 400, .int a1]) (h1 := xhN) rfl ?_
  refine ev_br (b1 := true) rfl rfl (xcd_gt (x := a1) (y := 400) (by rw [show ((400 : Int32)).toInt = 400 from by decide]; omega)) ?_
  refine ev_go 5 (pc1 := 40) (lv1 := [.ref 0, .int a1, .int (-2)]) (st1 := [.int (-2)]) (h1 := (xsetI xhN 1 1 0)) rfl ?_
  exact ev_ret rfl rfl
set_option maxRecDepth 20000 in
theorem pm_ring_1 {L : Nat} {xs : Nat → Int32} {a1 : Int32} (h1 : 400 < a1.toInt) : xEv L xs 19 212 0 [.ref 86, .int a1, xmk, xmk] [] (xsetI xhN 1 1 0) (some (.int (-2))) (xsetI (xsetI (xsetI xhN 1 1 0) 86 48 0) 86 1 0) := by
  refine ev_go 3 (pc1 := 3) (lv1 := [.ref 86, .int a1, xmk, xmk]) (st1 := [.int 1, .int 1, .ref 86]) (h1 := (xsetI xhN 1 1 0)) rfl ?_
  refine ev_call (v1 := (some (.int 0))) (h1 := (xsetI (xsetI (xsetI xhN 1 1 0) 86 48 0) 86 1 0)) rfl rfl ?_ ?_
  · refine ev_go 20 (pc1 := 137) (lv1 := [.ref 86, .int 1, .int 1, .int 0, .int 0]) (st1 := [.int 0]) (h1 := (xsetI (xsetI (xsetI xhN 1 1 0) 86 48 0) 86 1 0)) rfl ?_
    exact ev_ret rfl rfl
  refine ev_go 4 (pc1 := 12) (lv1 := [.ref 86, .int a1, .int 0, xmk]) (st1 := [.int 400, .int 0, .int a1]) (h1 := (xsetI (xsetI (xsetI xhN 1 1 0) 86 48 0) 86 1 0)) rfl ?_
  refine ev_call (v1 := (some (.int 0))) (h1 := (xsetI (xsetI (xsetI xhN 1 1 0) 86 48 0) 86 1 0)) rfl rfl ?_ ?_
  · refine ev_go 2 (pc1 := 2) (lv1 := [.int a1, .int 0, .int 400]) (st1 := [.int 0, .int a1]) (h1 := (xsetI (xsetI (xsetI xhN 1 1 0) 86 48 0) 86 1 0)) rfl ?_
    refine ev_br (b1 := false) rfl rfl (xcd_nlt (x := a1) (y := 0) (by rw [show ((0 : Int32)).toInt = 0 from by decide]; omega)) ?_
    refine ev_go 2 (pc1 := 7) (lv1 := [.int a1, .int 0, .int 400]) (st1 := [.int 400, .int a1]) (h1 := (xsetI (xsetI (xsetI xhN 1 1 0) 86 48 0) 86 1 0)) rfl ?_
    refine ev_br (b1 := true) rfl rfl (xcd_gt (x := a1) (y := 400) (by rw [show ((400 : Int32)).toInt = 400 from by decide]; omega)) ?_
    refine ev_go 1 (pc1 := 15) (lv1 := [.int a1, .int 0, .int 400]) (st1 := [.int 0]) (h1 := (xsetI (xsetI (xsetI xhN 1 1 0) 86 48 0) 86 1 0)) rfl ?_
    exact ev_ret rfl rfl
  refine ev_go 2 (pc1 := 20) (lv1 := [.ref 86, .int a1, .int 0, xmk]) (st1 := [.int (-2)]) (h1 := (xsetI (xsetI (xsetI xhN 1 1 0) 86 48 0) 86 1 0)) rfl ?_
  exact ev_ret rfl rfl
set_option maxRecDepth 20000 in
theorem px_ring_2 {L : Nat} {xs : Nat → Int32} {a1 : Int32} (h1 : 0 ≤ a1.toInt) (h2 : a1.toInt ≤ 400) : xEv L xs 19 100 0 [.ref 0, .int a1, xmk] [] xhN (some (.int (-1))) (xsetI xhN 1 1 0) := by
  refine ev_go 3 (pc1 := 4) (lv1 := [.ref 0, .int a1, .int (-2)]) (st1 := [.int a1]) (h1 := xhN) rfl ?_
  refine ev_br (b1 := false) rfl rfl (xcd_nlt (x := a1) (y := 0) (by rw [show ((0 : Int32)).toInt = 0 from by decide]; omega)) ?_
  refine ev_go 2 (pc1 := 11) (lv1 := [.ref 0, .int a1, .int (-2)]) (st1 := [.int 400, .int a1]) (h1 := xhN) rfl ?_
  refine ev_br (b1 := false) rfl rfl (xcd_ngt (x := a1) (y := 400) (by rw [show ((400 : Int32)).toInt = 400 from by decide]; omega)) ?_
  refine ev_go 1 (pc1 := 15) (lv1 := [.ref 0, .int a1, .int (-2)]) (st1 := [.ref 0]) (h1 := xhN) rfl ?_
  refine ev_call (v1 := (some (.int 0))) (h1 := xhN) rfl rfl ?_ ?_
  · refine ev_go 15 (pc1 := 65) (lv1 := [.ref 0, .int 0, .int 0, xmk]) (st1 := [.int 0]) (h1 := xhN) rfl ?_
    exact ev_ret rfl rfl
  refine ev_go 8 (pc1 := 40) (lv1 := [.ref 0, .int a1, .int (-1)]) (st1 := [.int (-1)]) (h1 := (xsetI xhN 1 1 0)) rfl ?_
  exact ev_ret rfl rfl
set_option maxRecDepth 20000 in
theorem pm_ring_2 {L : Nat} {xs : Nat → Int32} {a1 : Int32} (h1 : 0 ≤ a1.toInt) (h2 : a1.toInt ≤ 400) : xEv L xs 19 212 0 [.ref 86, .int a1, xmk, xmk] [] (xsetI xhN 1 1 0) (some (.int (-1))) (xsetI (xsetI (xsetI xhN 1 1 0) 86 48 0) 86 1 0) := by
  refine ev_go 3 (pc1 := 3) (lv1 := [.ref 86, .int a1, xmk, xmk]) (st1 := [.int 1, .int 1, .ref 86]) (h1 := (xsetI xhN 1 1 0)) rfl ?_
  refine ev_call (v1 := (some (.int 0))) (h1 := (xsetI (xsetI (xsetI xhN 1 1 0) 86 48 0) 86 1 0)) rfl rfl ?_ ?_
  · refine ev_go 20 (pc1 := 137) (lv1 := [.ref 86, .int 1, .int 1, .int 0, .int 0]) (st1 := [.int 0]) (h1 := (xsetI (xsetI (xsetI xhN 1 1 0) 86 48 0) 86 1 0)) rfl ?_
    exact ev_ret rfl rfl
  refine ev_go 4 (pc1 := 12) (lv1 := [.ref 86, .int a1, .int 0, xmk]) (st1 := [.int 400, .int 0, .int a1]) (h1 := (xsetI (xsetI (xsetI xhN 1 1 0) 86 48 0) 86 1 0)) rfl ?_
  refine ev_call (v1 := (some (.int 1))) (h1 := (xsetI (xsetI (xsetI xhN 1 1 0) 86 48 0) 86 1 0)) rfl rfl ?_ ?_
  · refine ev_go 2 (pc1 := 2) (lv1 := [.int a1, .int 0, .int 400]) (st1 := [.int 0, .int a1]) (h1 := (xsetI (xsetI (xsetI xhN 1 1 0) 86 48 0) 86 1 0)) rfl ?_
    refine ev_br (b1 := false) rfl rfl (xcd_nlt (x := a1) (y := 0) (by rw [show ((0 : Int32)).toInt = 0 from by decide]; omega)) ?_
    refine ev_go 2 (pc1 := 7) (lv1 := [.int a1, .int 0, .int 400]) (st1 := [.int 400, .int a1]) (h1 := (xsetI (xsetI (xsetI xhN 1 1 0) 86 48 0) 86 1 0)) rfl ?_
    refine ev_br (b1 := false) rfl rfl (xcd_ngt (x := a1) (y := 400) (by rw [show ((400 : Int32)).toInt = 400 from by decide]; omega)) ?_
    refine ev_go 2 (pc1 := 15) (lv1 := [.int a1, .int 0, .int 400]) (st1 := [.int 1]) (h1 := (xsetI (xsetI (xsetI xhN 1 1 0) 86 48 0) 86 1 0)) rfl ?_
    exact ev_ret rfl rfl
  refine ev_go 4 (pc1 := 26) (lv1 := [.ref 86, .int a1, .int 0, xmk]) (st1 := [.int (-1)]) (h1 := (xsetI (xsetI (xsetI xhN 1 1 0) 86 48 0) 86 1 0)) rfl ?_
  exact ev_ret rfl rfl
set_option maxRecDepth 20000 in
theorem px_bestRing_0 {L : Nat} {xs : Nat → Int32} {a1 : Int32} (h1 : a1.toInt < 1) : xEv L xs 19 109 0 [.ref 0, .int a1, xmk, xmk] [] xhN (some (.int (-2))) xhN := by
  refine ev_go 2 (pc1 := 2) (lv1 := [.ref 0, .int a1, xmk, xmk]) (st1 := [.int 1, .int a1]) (h1 := xhN) rfl ?_
  refine ev_br (b1 := true) rfl rfl (xcd_lt (x := a1) (y := 1) (by rw [show ((1 : Int32)).toInt = 1 from by decide]; omega)) ?_
  refine ev_go 1 (pc1 := 18) (lv1 := [.ref 0, .int a1, xmk, xmk]) (st1 := [.int (-2)]) (h1 := xhN) rfl ?_
  exact ev_ret rfl rfl
set_option maxRecDepth 20000 in
theorem pm_bestRing_0 {L : Nat} {xs : Nat → Int32} {a1 : Int32} (h1 : a1.toInt < 1) : xEv L xs 19 214 0 [.ref 86, .int a1, xmk, xmk, xmk, xmk] [] xhN (some (.int (-2))) xhN := by
  refine ev_go 6 (pc1 := 8) (lv1 := [.ref 86, .int a1, xmk, xmk, xmk, xmk]) (st1 := [.int 0, .int 1, .int a1]) (h1 := xhN) rfl ?_
  refine ev_call (v1 := (some (.int 0))) (h1 := xhN) rfl rfl ?_ ?_
  · refine ev_go 2 (pc1 := 2) (lv1 := [.int a1, .int 1, .int 0]) (st1 := [.int 1, .int a1]) (h1 := xhN) rfl ?_
    refine ev_br (b1 := true) rfl rfl (xcd_lt (x := a1) (y := 1) (by rw [show ((1 : Int32)).toInt = 1 from by decide]; omega)) ?_
    refine ev_go 1 (pc1 := 15) (lv1 := [.int a1, .int 1, .int 0]) (st1 := [.int 0]) (h1 := xhN) rfl ?_
    exact ev_ret rfl rfl
  refine ev_go 2 (pc1 := 16) (lv1 := [.ref 86, .int a1, xmk, xmk, xmk, xmk]) (st1 := [.int (-2)]) (h1 := xhN) rfl ?_
  exact ev_ret rfl rfl
set_option maxRecDepth 20000 in
theorem px_bestRing_1 {L : Nat} {xs : Nat → Int32} {a1 : Int32} (h1 : 1 ≤ a1.toInt) : xEv L xs 19 109 0 [.ref 0, .int a1, xmk, xmk] [] xhN (some (.int (-2))) xhN := by
  refine ev_go 2 (pc1 := 2) (lv1 := [.ref 0, .int a1, xmk, xmk]) (st1 := [.int 1, .int a1]) (h1 := xhN) rfl ?_
  refine ev_br (b1 := false) rfl rfl (xcd_nlt (x := a1) (y := 1) (by rw [show ((1 : Int32)).toInt = 1 from by decide]; omega)) ?_
  refine ev_go 4 (pc1 := 13) (lv1 := [.ref 0, .int a1, xmk, xmk]) (st1 := [.int 0, .int a1]) (h1 := xhN) rfl ?_
  refine ev_br (b1 := false) rfl rfl (xcd_nle (x := a1) (y := 0) (by rw [show ((0 : Int32)).toInt = 0 from by decide]; omega)) ?_
  refine ev_go 1 (pc1 := 18) (lv1 := [.ref 0, .int a1, xmk, xmk]) (st1 := [.int (-2)]) (h1 := xhN) rfl ?_
  exact ev_ret rfl rfl
set_option maxRecDepth 20000 in
theorem pm_bestRing_1 {L : Nat} {xs : Nat → Int32} {a1 : Int32} (h1 : 1 ≤ a1.toInt) : xEv L xs 19 214 0 [.ref 86, .int a1, xmk, xmk, xmk, xmk] [] xhN (some (.int (-2))) xhN := by
  refine ev_go 6 (pc1 := 8) (lv1 := [.ref 86, .int a1, xmk, xmk, xmk, xmk]) (st1 := [.int 0, .int 1, .int a1]) (h1 := xhN) rfl ?_
  refine ev_call (v1 := (some (.int 0))) (h1 := xhN) rfl rfl ?_ ?_
  · refine ev_go 2 (pc1 := 2) (lv1 := [.int a1, .int 1, .int 0]) (st1 := [.int 1, .int a1]) (h1 := xhN) rfl ?_
    refine ev_br (b1 := false) rfl rfl (xcd_nlt (x := a1) (y := 1) (by rw [show ((1 : Int32)).toInt = 1 from by decide]; omega)) ?_
    refine ev_go 2 (pc1 := 7) (lv1 := [.int a1, .int 1, .int 0]) (st1 := [.int 0, .int a1]) (h1 := xhN) rfl ?_
    refine ev_br (b1 := true) rfl rfl (xcd_gt (x := a1) (y := 0) (by rw [show ((0 : Int32)).toInt = 0 from by decide]; omega)) ?_
    refine ev_go 1 (pc1 := 15) (lv1 := [.int a1, .int 1, .int 0]) (st1 := [.int 0]) (h1 := xhN) rfl ?_
    exact ev_ret rfl rfl
  refine ev_go 2 (pc1 := 16) (lv1 := [.ref 86, .int a1, xmk, xmk, xmk, xmk]) (st1 := [.int (-2)]) (h1 := xhN) rfl ?_
  exact ev_ret rfl rfl
set_option maxRecDepth 20000 in
theorem px_believe_0 {L : Nat} {xs : Nat → Int32} {a1 : Int32} : xEv L xs 19 118 0 [.ref 0, .int a1] [] xhN (some (.int (-1))) xhN := by
  refine ev_go 5 (pc1 := 11) (lv1 := [.ref 0, .int a1]) (st1 := [.int (-1)]) (h1 := xhN) rfl ?_
  exact ev_ret rfl rfl
set_option maxRecDepth 20000 in
theorem pm_believe_0 {L : Nat} {xs : Nat → Int32} {a1 : Int32} : xEv L xs 19 220 0 [.ref 86, .int a1] [] xhN (some (.int (-1))) xhN := by
  refine ev_go 4 (pc1 := 26) (lv1 := [.ref 86, .int a1]) (st1 := [.int (-1)]) (h1 := xhN) rfl ?_
  exact ev_ret rfl rfl
set_option maxRecDepth 20000 in
theorem px_rule_0 {L : Nat} {xs : Nat → Int32} {a1 a2 a3 : Int32} (h1 : a1.toInt < 0) : xEv L xs 19 119 0 [.ref 0, .int a1, .int a2, .int a3, xmk] [] xhN (some (.int (-2))) xhN := by
  refine ev_go 3 (pc1 := 5) (lv1 := [.ref 0, .int a1, .int a2, .int a3, xmk]) (st1 := [.int a1, .ref 3]) (h1 := xhN) rfl ?_
  refine ev_call (v1 := (some (.int 0))) (h1 := xhN) rfl rfl ?_ ?_
  · refine ev_go 1 (pc1 := 1) (lv1 := [.ref 3, .int a1]) (st1 := [.int a1]) (h1 := xhN) rfl ?_
    refine ev_br (b1 := true) rfl rfl (xcd_lt (x := a1) (y := 0) (by rw [show ((0 : Int32)).toInt = 0 from by decide]; omega)) ?_
    refine ev_go 1 (pc1 := 17) (lv1 := [.ref 3, .int a1]) (st1 := [.int 0]) (h1 := xhN) rfl ?_
    exact ev_ret rfl rfl
  refine ev_go 2 (pc1 := 38) (lv1 := [.ref 0, .int a1, .int a2, .int a3, xmk]) (st1 := [.int (-2)]) (h1 := xhN) rfl ?_
  exact ev_ret rfl rfl
set_option maxRecDepth 20000 in
theorem pm_rule_0 {L : Nat} {xs : Nat → Int32} {a1 a2 a3 : Int32} (h1 : a1.toInt < 0) : xEv L xs 19 221 0 [.ref 86, .int a1, .int a2, .int a3, xmk] [] xhN (some (.int (-2))) xhN := by
  refine ev_go 2 (pc1 := 2) (lv1 := [.ref 86, .int a1, .int a2, .int a3, xmk]) (st1 := [.int a1, .ref 86]) (h1 := xhN) rfl ?_
  refine ev_call (v1 := (some (.int 0))) (h1 := xhN) rfl rfl ?_ ?_
  · refine ev_go 8 (pc1 := 10) (lv1 := [.ref 86, .int a1]) (st1 := [.int (-1), .int 0, .int a1]) (h1 := xhN) rfl ?_
    refine ev_call (v1 := (some (.int 0))) (h1 := xhN) rfl rfl ?_ ?_
    · refine ev_go 2 (pc1 := 2) (lv1 := [.int a1, .int 0, .int (-1)]) (st1 := [.int 0, .int a1]) (h1 := xhN) rfl ?_
      refine ev_br (b1 := true) rfl rfl (xcd_lt (x := a1) (y := 0) (by rw [show ((0 : Int32)).toInt = 0 from by decide]; omega)) ?_
      refine ev_go 1 (pc1 := 15) (lv1 := [.int a1, .int 0, .int (-1)]) (st1 := [.int 0]) (h1 := xhN) rfl ?_
      exact ev_ret rfl rfl
    exact ev_ret rfl rfl
  refine ev_go 2 (pc1 := 32) (lv1 := [.ref 86, .int a1, .int a2, .int a3, xmk]) (st1 := [.int (-2)]) (h1 := xhN) rfl ?_
  exact ev_ret rfl rfl
set_option maxRecDepth 20000 in
theorem px_rule_1 {L : Nat} {xs : Nat → Int32} {a1 a2 a3 : Int32} (h1 : 0 ≤ a1.toInt) : xEv L xs 19 119 0 [.ref 0, .int a1, .int a2, .int a3, xmk] [] xhN (some (.int (-2))) xhN := by
  refine ev_go 3 (pc1 := 5) (lv1 := [.ref 0, .int a1, .int a2, .int a3, xmk]) (st1 := [.int a1, .ref 3]) (h1 := xhN) rfl ?_
  refine ev_call (v1 := (some (.int 0))) (h1 := xhN) rfl rfl ?_ ?_
  · refine ev_go 1 (pc1 := 1) (lv1 := [.ref 3, .int a1]) (st1 := [.int a1]) (h1 := xhN) rfl ?_
    refine ev_br (b1 := false) rfl rfl (xcd_nlt (x := a1) (y := 0) (by rw [show ((0 : Int32)).toInt = 0 from by decide]; omega)) ?_
    refine ev_go 3 (pc1 := 9) (lv1 := [.ref 3, .int a1]) (st1 := [.int 0, .int a1]) (h1 := xhN) rfl ?_
    refine ev_br (b1 := true) rfl rfl (xcd_ge (x := a1) (y := 0) (by rw [show ((0 : Int32)).toInt = 0 from by decide]; omega)) ?_
    refine ev_go 1 (pc1 := 17) (lv1 := [.ref 3, .int a1]) (st1 := [.int 0]) (h1 := xhN) rfl ?_
    exact ev_ret rfl rfl
  refine ev_go 2 (pc1 := 38) (lv1 := [.ref 0, .int a1, .int a2, .int a3, xmk]) (st1 := [.int (-2)]) (h1 := xhN) rfl ?_
  exact ev_ret rfl rfl
set_option maxRecDepth 20000 in
theorem pm_rule_1 {L : Nat} {xs : Nat → Int32} {a1 a2 a3 : Int32} (h1 : 0 ≤ a1.toInt) : xEv L xs 19 221 0 [.ref 86, .int a1, .int a2, .int a3, xmk] [] xhN (some (.int (-2))) xhN := by
  refine ev_go 2 (pc1 := 2) (lv1 := [.ref 86, .int a1, .int a2, .int a3, xmk]) (st1 := [.int a1, .ref 86]) (h1 := xhN) rfl ?_
  refine ev_call (v1 := (some (.int 0))) (h1 := xhN) rfl rfl ?_ ?_
  · refine ev_go 8 (pc1 := 10) (lv1 := [.ref 86, .int a1]) (st1 := [.int (-1), .int 0, .int a1]) (h1 := xhN) rfl ?_
    refine ev_call (v1 := (some (.int 0))) (h1 := xhN) rfl rfl ?_ ?_
    · refine ev_go 2 (pc1 := 2) (lv1 := [.int a1, .int 0, .int (-1)]) (st1 := [.int 0, .int a1]) (h1 := xhN) rfl ?_
      refine ev_br (b1 := false) rfl rfl (xcd_nlt (x := a1) (y := 0) (by rw [show ((0 : Int32)).toInt = 0 from by decide]; omega)) ?_
      refine ev_go 2 (pc1 := 7) (lv1 := [.int a1, .int 0, .int (-1)]) (st1 := [.int (-1), .int a1]) (h1 := xhN) rfl ?_
      refine ev_br (b1 := true) rfl rfl (xcd_gt (x := a1) (y := (-1)) (by rw [show ((-1 : Int32)).toInt = -1 from by decide]; omega)) ?_
      refine ev_go 1 (pc1 := 15) (lv1 := [.int a1, .int 0, .int (-1)]) (st1 := [.int 0]) (h1 := xhN) rfl ?_
      exact ev_ret rfl rfl
    exact ev_ret rfl rfl
  refine ev_go 2 (pc1 := 32) (lv1 := [.ref 86, .int a1, .int a2, .int a3, xmk]) (st1 := [.int (-2)]) (h1 := xhN) rfl ?_
  exact ev_ret rfl rfl
set_option maxRecDepth 20000 in
theorem px_begin_0 {L : Nat} {xs : Nat → Int32} {a1 : Int32} (h1 : a1.toInt < 0) : xEv L xs 19 120 0 [.ref 0, .int a1] [] xhN (some (.int (-2))) xhN := by
  refine ev_go 1 (pc1 := 1) (lv1 := [.ref 0, .int a1]) (st1 := [.int a1]) (h1 := xhN) rfl ?_
  refine ev_br (b1 := false) rfl rfl (xcd_nge (x := a1) (y := 0) (by rw [show ((0 : Int32)).toInt = 0 from by decide]; omega)) ?_
  refine ev_go 1 (pc1 := 6) (lv1 := [.ref 0, .int a1]) (st1 := [.int (-2)]) (h1 := xhN) rfl ?_
  exact ev_ret rfl rfl
set_option maxRecDepth 20000 in
theorem pm_begin_0 {L : Nat} {xs : Nat → Int32} {a1 : Int32} (h1 : a1.toInt < 0) : xEv L xs 19 222 0 [.ref 86, .int a1, xmk] [] xhN (some (.int (-2))) xhN := by
  refine ev_go 1 (pc1 := 1) (lv1 := [.ref 86, .int a1, xmk]) (st1 := [.int a1]) (h1 := xhN) rfl ?_
  refine ev_br (b1 := false) rfl rfl (xcd_nge (x := a1) (y := 0) (by rw [show ((0 : Int32)).toInt = 0 from by decide]; omega)) ?_
  refine ev_go 1 (pc1 := 6) (lv1 := [.ref 86, .int a1, xmk]) (st1 := [.int (-2)]) (h1 := xhN) rfl ?_
  exact ev_ret rfl rfl
set_option maxRecDepth 20000 in
theorem px_begin_1 {L : Nat} {xs : Nat → Int32} {a1 : Int32} (h1 : 0 ≤ a1.toInt) : xEv L xs 19 120 0 [.ref 0, .int a1] [] xhN (some (.int 1)) (xsetI (xsetI (xsetI (xsetI (xsetI (xsetI (xsetI (xsetI (xsetI (xsetI (xsetI (xsetI (xsetI (xsetI (xsetI (xsetI (xsetI (xsetL (xsetI (xsetI xhN 66 4 1) 66 5 0) 66 7 a1.toInt64) 66 6 0) 67 0 (-1)) 68 0 0) 69 0 (-1)) 70 0 (-1)) 67 1 (-1)) 68 1 0) 69 1 (-1)) 70 1 (-1)) 67 2 (-1)) 68 2 0) 69 2 (-1)) 70 2 (-1)) 67 3 (-1)) 68 3 0) 69 3 (-1)) 70 3 (-1)) := by
  refine ev_go 1 (pc1 := 1) (lv1 := [.ref 0, .int a1]) (st1 := [.int a1]) (h1 := xhN) rfl ?_
  refine ev_br (b1 := true) rfl rfl (xcd_ge (x := a1) (y := 0) (by rw [show ((0 : Int32)).toInt = 0 from by decide]; omega)) ?_
  refine ev_go 6 (pc1 := 19) (lv1 := [.ref 0, .int a1]) (st1 := [.int a1, .ref 3, .ref 66]) (h1 := xhN) rfl ?_
  refine ev_call (v1 := none) (h1 := (xsetI (xsetI (xsetI (xsetI (xsetI (xsetI (xsetI (xsetI (xsetI (xsetI (xsetI (xsetI (xsetI (xsetI (xsetI (xsetI (xsetI (xsetL (xsetI (xsetI xhN 66 4 1) 66 5 0) 66 7 a1.toInt64) 66 6 0) 67 0 (-1)) 68 0 0) 69 0 (-1)) 70 0 (-1)) 67 1 (-1)) 68 1 0) 69 1 (-1)) 70 1 (-1)) 67 2 (-1)) 68 2 0) 69 2 (-1)) 70 2 (-1)) 67 3 (-1)) 68 3 0) 69 3 (-1)) 70 3 (-1))) rfl rfl ?_ ?_
  · refine ev_go 14 (pc1 := 22) (lv1 := [.ref 66, .ref 3, .int a1, xmk]) (st1 := [.int 0, .int 1, .ref 66]) (h1 := (xsetL (xsetI (xsetI xhN 66 4 1) 66 5 0) 66 7 a1.toInt64)) rfl ?_
    refine ev_go 14 (pc1 := 42) (lv1 := [.ref 66, .ref 3, .int a1, .int 0]) (st1 := [.int 0, .ref 3, .int 0, .ref 67]) (h1 := (xsetI (xsetL (xsetI (xsetI xhN 66 4 1) 66 5 0) 66 7 a1.toInt64) 66 6 0)) rfl ?_
    refine ev_call (v1 := (some (.int 0))) (h1 := (xsetI (xsetL (xsetI (xsetI xhN 66 4 1) 66 5 0) 66 7 a1.toInt64) 66 6 0)) rfl rfl ?_ ?_
    · refine ev_go 7 (pc1 := 17) (lv1 := [.ref 3, .int 0]) (st1 := [.int 0]) (h1 := (xsetI (xsetL (xsetI (xsetI xhN 66 4 1) 66 5 0) 66 7 a1.toInt64) 66 6 0)) rfl ?_
      exact ev_ret rfl rfl
    refine ev_go 2 (pc1 := 60) (lv1 := [.ref 66, .ref 3, .int a1, .int 0]) (st1 := [.int (-1), .int 0, .ref 67]) (h1 := (xsetI (xsetL (xsetI (xsetI xhN 66 4 1) 66 5 0) 66 7 a1.toInt64) 66 6 0)) rfl ?_
    refine ev_call (v1 := none) (h1 := (xsetI (xsetI (xsetL (xsetI (xsetI xhN 66 4 1) 66 5 0) 66 7 a1.toInt64) 66 6 0) 67 0 (-1))) rfl rfl ?_ ?_
    · refine ev_go 10 (pc1 := 14) (lv1 := [.ref 67, .int 0, .int (-1)]) (st1 := []) (h1 := (xsetI (xsetI (xsetL (xsetI (xsetI xhN 66 4 1) 66 5 0) 66 7 a1.toInt64) 66 6 0) 67 0 (-1))) rfl ?_
      exact ev_ret rfl rfl
    refine ev_go 4 (pc1 := 69) (lv1 := [.ref 66, .ref 3, .int a1, .int 0]) (st1 := [.int 0, .int 0, .ref 68]) (h1 := (xsetI (xsetI (xsetL (xsetI (xsetI xhN 66 4 1) 66 5 0) 66 7 a1.toInt64) 66 6 0) 67 0 (-1))) rfl ?_
    refine ev_call (v1 := none) (h1 := (xsetI (xsetI (xsetI (xsetL (xsetI (xsetI xhN 66 4 1) 66 5 0) 66 7 a1.toInt64) 66 6 0) 67 0 (-1)) 68 0 0)) rfl rfl ?_ ?_
    · refine ev_go 10 (pc1 := 14) (lv1 := [.ref 68, .int 0, .int 0]) (st1 := []) (h1 := (xsetI (xsetI (xsetI (xsetL (xsetI (xsetI xhN 66 4 1) 66 5 0) 66 7 a1.toInt64) 66 6 0) 67 0 (-1)) 68 0 0)) rfl ?_
      exact ev_ret rfl rfl
    refine ev_go 4 (pc1 := 78) (lv1 := [.ref 66, .ref 3, .int a1, .int 0]) (st1 := [.int (-1), .int 0, .ref 69]) (h1 := (xsetI (xsetI (xsetI (xsetL (xsetI (xsetI xhN 66 4 1) 66 5 0) 66 7 a1.toInt64) 66 6 0) 67 0 (-1)) 68 0 0)) rfl ?_
    refine ev_call (v1 := none) (h1 := (xsetI (xsetI (xsetI (xsetI (xsetL (xsetI (xsetI xhN 66 4 1) 66 5 0) 66 7 a1.toInt64) 66 6 0) 67 0 (-1)) 68 0 0) 69 0 (-1))) rfl rfl ?_ ?_
    · refine ev_go 10 (pc1 := 14) (lv1 := [.ref 69, .int 0, .int (-1)]) (st1 := []) (h1 := (xsetI (xsetI (xsetI (xsetI (xsetL (xsetI (xsetI xhN 66 4 1) 66 5 0) 66 7 a1.toInt64) 66 6 0) 67 0 (-1)) 68 0 0) 69 0 (-1))) rfl ?_
      exact ev_ret rfl rfl
    refine ev_go 4 (pc1 := 87) (lv1 := [.ref 66, .ref 3, .int a1, .int 0]) (st1 := [.int (-1), .int 0, .ref 70]) (h1 := (xsetI (xsetI (xsetI (xsetI (xsetL (xsetI (xsetI xhN 66 4 1) 66 5 0) 66 7 a1.toInt64) 66 6 0) 67 0 (-1)) 68 0 0) 69 0 (-1))) rfl ?_
    refine ev_call (v1 := none) (h1 := (xsetI (xsetI (xsetI (xsetI (xsetI (xsetL (xsetI (xsetI xhN 66 4 1) 66 5 0) 66 7 a1.toInt64) 66 6 0) 67 0 (-1)) 68 0 0) 69 0 (-1)) 70 0 (-1))) rfl rfl ?_ ?_
    · refine ev_go 10 (pc1 := 14) (lv1 := [.ref 70, .int 0, .int (-1)]) (st1 := []) (h1 := (xsetI (xsetI (xsetI (xsetI (xsetI (xsetL (xsetI (xsetI xhN 66 4 1) 66 5 0) 66 7 a1.toInt64) 66 6 0) 67 0 (-1)) 68 0 0) 69 0 (-1)) 70 0 (-1))) rfl ?_
      exact ev_ret rfl rfl
    refine ev_go 10 (pc1 := 42) (lv1 := [.ref 66, .ref 3, .int a1, .int 1]) (st1 := [.int 1, .ref 3, .int 1, .ref 67]) (h1 := (xsetI (xsetI (xsetI (xsetI (xsetI (xsetL (xsetI (xsetI xhN 66 4 1) 66 5 0) 66 7 a1.toInt64) 66 6 0) 67 0 (-1)) 68 0 0) 69 0 (-1)) 70 0 (-1))) rfl ?_
    refine ev_call (v1 := (some (.int 0))) (h1 := (xsetI (xsetI (xsetI (xsetI (xsetI (xsetL (xsetI (xsetI xhN 66 4 1) 66 5 0) 66 7 a1.toInt64) 66 6 0) 67 0 (-1)) 68 0 0) 69 0 (-1)) 70 0 (-1))) rfl rfl ?_ ?_
    · refine ev_go 7 (pc1 := 17) (lv1 := [.ref 3, .int 1]) (st1 := [.int 0]) (h1 := (xsetI (xsetI (xsetI (xsetI (xsetI (xsetL (xsetI (xsetI xhN 66 4 1) 66 5 0) 66 7 a1.toInt64) 66 6 0) 67 0 (-1)) 68 0 0) 69 0 (-1)) 70 0 (-1))) rfl ?_
      exact ev_ret rfl rfl
    refine ev_go 2 (pc1 := 60) (lv1 := [.ref 66, .ref 3, .int a1, .int 1]) (st1 := [.int (-1), .int 1, .ref 67]) (h1 := (xsetI (xsetI (xsetI (xsetI (xsetI (xsetL (xsetI (xsetI xhN 66 4 1) 66 5 0) 66 7 a1.toInt64) 66 6 0) 67 0 (-1)) 68 0 0) 69 0 (-1)) 70 0 (-1))) rfl ?_
    refine ev_call (v1 := none) (h1 := (xsetI (xsetI (xsetI (xsetI (xsetI (xsetI (xsetL (xsetI (xsetI xhN 66 4 1) 66 5 0) 66 7 a1.toInt64) 66 6 0) 67 0 (-1)) 68 0 0) 69 0 (-1)) 70 0 (-1)) 67 1 (-1))) rfl rfl ?_ ?_
    · refine ev_go 10 (pc1 := 14) (lv1 := [.ref 67, .int 1, .int (-1)]) (st1 := []) (h1 := (xsetI (xsetI (xsetI (xsetI (xsetI (xsetI (xsetL (xsetI (xsetI xhN 66 4 1) 66 5 0) 66 7 a1.toInt64) 66 6 0) 67 0 (-1)) 68 0 0) 69 0 (-1)) 70 0 (-1)) 67 1 (-1))) rfl ?_
      exact ev_ret rfl rfl
    refine ev_go 4 (pc1 := 69) (lv1 := [.ref 66, .ref 3, .int a1, .int 1]) (st1 := [.int 0, .int 1, .ref 68]) (h1 := (xsetI (xsetI (xsetI (xsetI (xsetI (xsetI (xsetL (xsetI (xsetI xhN 66 4 1) 66 5 0) 66 7 a1.toInt64) 66 6 0) 67 0 (-1)) 68 0 0) 69 0 (-1)) 70 0 (-1)) 67 1 (-1))) rfl ?_
    refine ev_call (v1 := none) (h1 := (xsetI (xsetI (xsetI (xsetI (xsetI (xsetI (xsetI (xsetL (xsetI (xsetI xhN 66 4 1) 66 5 0) 66 7 a1.toInt64) 66 6 0) 67 0 (-1)) 68 0 0) 69 0 (-1)) 70 0 (-1)) 67 1 (-1)) 68 1 0)) rfl rfl ?_ ?_
    · refine ev_go 10 (pc1 := 14) (lv1 := [.ref 68, .int 1, .int 0]) (st1 := []) (h1 := (xsetI (xsetI (xsetI (xsetI (xsetI (xsetI (xsetI (xsetL (xsetI (xsetI xhN 66 4 1) 66 5 0) 66 7 a1.toInt64) 66 6 0) 67 0 (-1)) 68 0 0) 69 0 (-1)) 70 0 (-1)) 67 1 (-1)) 68 1 0)) rfl ?_
      exact ev_ret rfl rfl
    refine ev_go 4 (pc1 := 78) (lv1 := [.ref 66, .ref 3, .int a1, .int 1]) (st1 := [.int (-1), .int 1, .ref 69]) (h1 := (xsetI (xsetI (xsetI (xsetI (xsetI (xsetI (xsetI (xsetL (xsetI (xsetI xhN 66 4 1) 66 5 0) 66 7 a1.toInt64) 66 6 0) 67 0 (-1)) 68 0 0) 69 0 (-1)) 70 0 (-1)) 67 1 (-1)) 68 1 0)) rfl ?_
    refine ev_call (v1 := none) (h1 := (xsetI (xsetI (xsetI (xsetI (xsetI (xsetI (xsetI (xsetI (xsetL (xsetI (xsetI xhN 66 4 1) 66 5 0) 66 7 a1.toInt64) 66 6 0) 67 0 (-1)) 68 0 0) 69 0 (-1)) 70 0 (-1)) 67 1 (-1)) 68 1 0) 69 1 (-1))) rfl rfl ?_ ?_
    · refine ev_go 10 (pc1 := 14) (lv1 := [.ref 69, .int 1, .int (-1)]) (st1 := []) (h1 := (xsetI (xsetI (xsetI (xsetI (xsetI (xsetI (xsetI (xsetI (xsetL (xsetI (xsetI xhN 66 4 1) 66 5 0) 66 7 a1.toInt64) 66 6 0) 67 0 (-1)) 68 0 0) 69 0 (-1)) 70 0 (-1)) 67 1 (-1)) 68 1 0) 69 1 (-1))) rfl ?_
      exact ev_ret rfl rfl
    refine ev_go 4 (pc1 := 87) (lv1 := [.ref 66, .ref 3, .int a1, .int 1]) (st1 := [.int (-1), .int 1, .ref 70]) (h1 := (xsetI (xsetI (xsetI (xsetI (xsetI (xsetI (xsetI (xsetI (xsetL (xsetI (xsetI xhN 66 4 1) 66 5 0) 66 7 a1.toInt64) 66 6 0) 67 0 (-1)) 68 0 0) 69 0 (-1)) 70 0 (-1)) 67 1 (-1)) 68 1 0) 69 1 (-1))) rfl ?_
    refine ev_call (v1 := none) (h1 := (xsetI (xsetI (xsetI (xsetI (xsetI (xsetI (xsetI (xsetI (xsetI (xsetL (xsetI (xsetI xhN 66 4 1) 66 5 0) 66 7 a1.toInt64) 66 6 0) 67 0 (-1)) 68 0 0) 69 0 (-1)) 70 0 (-1)) 67 1 (-1)) 68 1 0) 69 1 (-1)) 70 1 (-1))) rfl rfl ?_ ?_
    · refine ev_go 10 (pc1 := 14) (lv1 := [.ref 70, .int 1, .int (-1)]) (st1 := []) (h1 := (xsetI (xsetI (xsetI (xsetI (xsetI (xsetI (xsetI (xsetI (xsetI (xsetL (xsetI (xsetI xhN 66 4 1) 66 5 0) 66 7 a1.toInt64) 66 6 0) 67 0 (-1)) 68 0 0) 69 0 (-1)) 70 0 (-1)) 67 1 (-1)) 68 1 0) 69 1 (-1)) 70 1 (-1))) rfl ?_
      exact ev_ret rfl rfl
    refine ev_go 10 (pc1 := 42) (lv1 := [.ref 66, .ref 3, .int a1, .int 2]) (st1 := [.int 2, .ref 3, .int 2, .ref 67]) (h1 := (xsetI (xsetI (xsetI (xsetI (xsetI (xsetI (xsetI (xsetI (xsetI (xsetL (xsetI (xsetI xhN 66 4 1) 66 5 0) 66 7 a1.toInt64) 66 6 0) 67 0 (-1)) 68 0 0) 69 0 (-1)) 70 0 (-1)) 67 1 (-1)) 68 1 0) 69 1 (-1)) 70 1 (-1))) rfl ?_
    refine ev_call (v1 := (some (.int 0))) (h1 := (xsetI (xsetI (xsetI (xsetI (xsetI (xsetI (xsetI (xsetI (xsetI (xsetL (xsetI (xsetI xhN 66 4 1) 66 5 0) 66 7 a1.toInt64) 66 6 0) 67 0 (-1)) 68 0 0) 69 0 (-1)) 70 0 (-1)) 67 1 (-1)) 68 1 0) 69 1 (-1)) 70 1 (-1))) rfl rfl ?_ ?_
    · refine ev_go 7 (pc1 := 17) (lv1 := [.ref 3, .int 2]) (st1 := [.int 0]) (h1 := (xsetI (xsetI (xsetI (xsetI (xsetI (xsetI (xsetI (xsetI (xsetI (xsetL (xsetI (xsetI xhN 66 4 1) 66 5 0) 66 7 a1.toInt64) 66 6 0) 67 0 (-1)) 68 0 0) 69 0 (-1)) 70 0 (-1)) 67 1 (-1)) 68 1 0) 69 1 (-1)) 70 1 (-1))) rfl ?_
      exact ev_ret rfl rfl
    refine ev_go 2 (pc1 := 60) (lv1 := [.ref 66, .ref 3, .int a1, .int 2]) (st1 := [.int (-1), .int 2, .ref 67]) (h1 := (xsetI (xsetI (xsetI (xsetI (xsetI (xsetI (xsetI (xsetI (xsetI (xsetL (xsetI (xsetI xhN 66 4 1) 66 5 0) 66 7 a1.toInt64) 66 6 0) 67 0 (-1)) 68 0 0) 69 0 (-1)) 70 0 (-1)) 67 1 (-1)) 68 1 0) 69 1 (-1)) 70 1 (-1))) rfl ?_
    refine ev_call (v1 := none) (h1 := (xsetI (xsetI (xsetI (xsetI (xsetI (xsetI (xsetI (xsetI (xsetI (xsetI (xsetL (xsetI (xsetI xhN 66 4 1) 66 5 0) 66 7 a1.toInt64) 66 6 0) 67 0 (-1)) 68 0 0) 69 0 (-1)) 70 0 (-1)) 67 1 (-1)) 68 1 0) 69 1 (-1)) 70 1 (-1)) 67 2 (-1))) rfl rfl ?_ ?_
    · refine ev_go 10 (pc1 := 14) (lv1 := [.ref 67, .int 2, .int (-1)]) (st1 := []) (h1 := (xsetI (xsetI (xsetI (xsetI (xsetI (xsetI (xsetI (xsetI (xsetI (xsetI (xsetL (xsetI (xsetI xhN 66 4 1) 66 5 0) 66 7 a1.toInt64) 66 6 0) 67 0 (-1)) 68 0 0) 69 0 (-1)) 70 0 (-1)) 67 1 (-1)) 68 1 0) 69 1 (-1)) 70 1 (-1)) 67 2 (-1))) rfl ?_
      exact ev_ret rfl rfl
    refine ev_go 4 (pc1 := 69) (lv1 := [.ref 66, .ref 3, .int a1, .int 2]) (st1 := [.int 0, .int 2, .ref 68]) (h1 := (xsetI (xsetI (xsetI (xsetI (xsetI (xsetI (xsetI (xsetI (xsetI (xsetI (xsetL (xsetI (xsetI xhN 66 4 1) 66 5 0) 66 7 a1.toInt64) 66 6 0) 67 0 (-1)) 68 0 0) 69 0 (-1)) 70 0 (-1)) 67 1 (-1)) 68 1 0) 69 1 (-1)) 70 1 (-1)) 67 2 (-1))) rfl ?_
    refine ev_call (v1 := none) (h1 := (xsetI (xsetI (xsetI (xsetI (xsetI (xsetI (xsetI (xsetI (xsetI (xsetI (xsetI (xsetL (xsetI (xsetI xhN 66 4 1) 66 5 0) 66 7 a1.toInt64) 66 6 0) 67 0 (-1)) 68 0 0) 69 0 (-1)) 70 0 (-1)) 67 1 (-1)) 68 1 0) 69 1 (-1)) 70 1 (-1)) 67 2 (-1)) 68 2 0)) rfl rfl ?_ ?_
    · refine ev_go 10 (pc1 := 14) (lv1 := [.ref 68, .int 2, .int 0]) (st1 := []) (h1 := (xsetI (xsetI (xsetI (xsetI (xsetI (xsetI (xsetI (xsetI (xsetI (xsetI (xsetI (xsetL (xsetI (xsetI xhN 66 4 1) 66 5 0) 66 7 a1.toInt64) 66 6 0) 67 0 (-1)) 68 0 0) 69 0 (-1)) 70 0 (-1)) 67 1 (-1)) 68 1 0) 69 1 (-1)) 70 1 (-1)) 67 2 (-1)) 68 2 0)) rfl ?_
      exact ev_ret rfl rfl
    refine ev_go 4 (pc1 := 78) (lv1 := [.ref 66, .ref 3, .int a1, .int 2]) (st1 := [.int (-1), .int 2, .ref 69]) (h1 := (xsetI (xsetI (xsetI (xsetI (xsetI (xsetI (xsetI (xsetI (xsetI (xsetI (xsetI (xsetL (xsetI (xsetI xhN 66 4 1) 66 5 0) 66 7 a1.toInt64) 66 6 0) 67 0 (-1)) 68 0 0) 69 0 (-1)) 70 0 (-1)) 67 1 (-1)) 68 1 0) 69 1 (-1)) 70 1 (-1)) 67 2 (-1)) 68 2 0)) rfl ?_
    refine ev_call (v1 := none) (h1 := (xsetI (xsetI (xsetI (xsetI (xsetI (xsetI (xsetI (xsetI (xsetI (xsetI (xsetI (xsetI (xsetL (xsetI (xsetI xhN 66 4 1) 66 5 0) 66 7 a1.toInt64) 66 6 0) 67 0 (-1)) 68 0 0) 69 0 (-1)) 70 0 (-1)) 67 1 (-1)) 68 1 0) 69 1 (-1)) 70 1 (-1)) 67 2 (-1)) 68 2 0) 69 2 (-1))) rfl rfl ?_ ?_
    · refine ev_go 10 (pc1 := 14) (lv1 := [.ref 69, .int 2, .int (-1)]) (st1 := []) (h1 := (xsetI (xsetI (xsetI (xsetI (xsetI (xsetI (xsetI (xsetI (xsetI (xsetI (xsetI (xsetI (xsetL (xsetI (xsetI xhN 66 4 1) 66 5 0) 66 7 a1.toInt64) 66 6 0) 67 0 (-1)) 68 0 0) 69 0 (-1)) 70 0 (-1)) 67 1 (-1)) 68 1 0) 69 1 (-1)) 70 1 (-1)) 67 2 (-1)) 68 2 0) 69 2 (-1))) rfl ?_
      exact ev_ret rfl rfl
    refine ev_go 4 (pc1 := 87) (lv1 := [.ref 66, .ref 3, .int a1, .int 2]) (st1 := [.int (-1), .int 2, .ref 70]) (h1 := (xsetI (xsetI (xsetI (xsetI (xsetI (xsetI (xsetI (xsetI (xsetI (xsetI (xsetI (xsetI (xsetL (xsetI (xsetI xhN 66 4 1) 66 5 0) 66 7 a1.toInt64) 66 6 0) 67 0 (-1)) 68 0 0) 69 0 (-1)) 70 0 (-1)) 67 1 (-1)) 68 1 0) 69 1 (-1)) 70 1 (-1)) 67 2 (-1)) 68 2 0) 69 2 (-1))) rfl ?_
    refine ev_call (v1 := none) (h1 := (xsetI (xsetI (xsetI (xsetI (xsetI (xsetI (xsetI (xsetI (xsetI (xsetI (xsetI (xsetI (xsetI (xsetL (xsetI (xsetI xhN 66 4 1) 66 5 0) 66 7 a1.toInt64) 66 6 0) 67 0 (-1)) 68 0 0) 69 0 (-1)) 70 0 (-1)) 67 1 (-1)) 68 1 0) 69 1 (-1)) 70 1 (-1)) 67 2 (-1)) 68 2 0) 69 2 (-1)) 70 2 (-1))) rfl rfl ?_ ?_
    · refine ev_go 10 (pc1 := 14) (lv1 := [.ref 70, .int 2, .int (-1)]) (st1 := []) (h1 := (xsetI (xsetI (xsetI (xsetI (xsetI (xsetI (xsetI (xsetI (xsetI (xsetI (xsetI (xsetI (xsetI (xsetL (xsetI (xsetI xhN 66 4 1) 66 5 0) 66 7 a1.toInt64) 66 6 0) 67 0 (-1)) 68 0 0) 69 0 (-1)) 70 0 (-1)) 67 1 (-1)) 68 1 0) 69 1 (-1)) 70 1 (-1)) 67 2 (-1)) 68 2 0) 69 2 (-1)) 70 2 (-1))) rfl ?_
      exact ev_ret rfl rfl
    refine ev_go 10 (pc1 := 42) (lv1 := [.ref 66, .ref 3, .int a1, .int 3]) (st1 := [.int 3, .ref 3, .int 3, .ref 67]) (h1 := (xsetI (xsetI (xsetI (xsetI (xsetI (xsetI (xsetI (xsetI (xsetI (xsetI (xsetI (xsetI (xsetI (xsetL (xsetI (xsetI xhN 66 4 1) 66 5 0) 66 7 a1.toInt64) 66 6 0) 67 0 (-1)) 68 0 0) 69 0 (-1)) 70 0 (-1)) 67 1 (-1)) 68 1 0) 69 1 (-1)) 70 1 (-1)) 67 2 (-1)) 68 2 0) 69 2 (-1)) 70 2 (-1))) rfl ?_
    refine ev_call (v1 := (some (.int 0))) (h1 := (xsetI (xsetI (xsetI (xsetI (xsetI (xsetI (xsetI (xsetI (xsetI (xsetI (xsetI (xsetI (xsetI (xsetL (xsetI (xsetI xhN 66 4 1) 66 5 0) 66 7 a1.toInt64) 66 6 0) 67 0 (-1)) 68 0 0) 69 0 (-1)) 70 0 (-1)) 67 1 (-1)) 68 1 0) 69 1 (-1)) 70 1 (-1)) 67 2 (-1)) 68 2 0) 69 2 (-1)) 70 2 (-1))) rfl rfl ?_ ?_
    · refine ev_go 7 (pc1 := 17) (lv1 := [.ref 3, .int 3]) (st1 := [.int 0]) (h1 := (xsetI (xsetI (xsetI (xsetI (xsetI (xsetI (xsetI (xsetI (xsetI (xsetI (xsetI (xsetI (xsetI (xsetL (xsetI (xsetI xhN 66 4 1) 66 5 0) 66 7 a1.toInt64) 66 6 0) 67 0 (-1)) 68 0 0) 69 0 (-1)) 70 0 (-1)) 67 1 (-1)) 68 1 0) 69 1 (-1)) 70 1 (-1)) 67 2 (-1)) 68 2 0) 69 2 (-1)) 70 2 (-1))) rfl ?_
      exact ev_ret rfl rfl
    refine ev_go 2 (pc1 := 60) (lv1 := [.ref 66, .ref 3, .int a1, .int 3]) (st1 := [.int (-1), .int 3, .ref 67]) (h1 := (xsetI (xsetI (xsetI (xsetI (xsetI (xsetI (xsetI (xsetI (xsetI (xsetI (xsetI (xsetI (xsetI (xsetL (xsetI (xsetI xhN 66 4 1) 66 5 0) 66 7 a1.toInt64) 66 6 0) 67 0 (-1)) 68 0 0) 69 0 (-1)) 70 0 (-1)) 67 1 (-1)) 68 1 0) 69 1 (-1)) 70 1 (-1)) 67 2 (-1)) 68 2 0) 69 2 (-1)) 70 2 (-1))) rfl ?_
    refine ev_call (v1 := none) (h1 := (xsetI (xsetI (xsetI (xsetI (xsetI (xsetI (xsetI (xsetI (xsetI (xsetI (xsetI (xsetI (xsetI (xsetI (xsetL (xsetI (xsetI xhN 66 4 1) 66 5 0) 66 7 a1.toInt64) 66 6 0) 67 0 (-1)) 68 0 0) 69 0 (-1)) 70 0 (-1)) 67 1 (-1)) 68 1 0) 69 1 (-1)) 70 1 (-1)) 67 2 (-1)) 68 2 0) 69 2 (-1)) 70 2 (-1)) 67 3 (-1))) rfl rfl ?_ ?_
    · refine ev_go 10 (pc1 := 14) (lv1 := [.ref 67, .int 3, .int (-1)]) (st1 := []) (h1 := (xsetI (xsetI (xsetI (xsetI (xsetI (xsetI (xsetI (xsetI (xsetI (xsetI (xsetI (xsetI (xsetI (xsetI (xsetL (xsetI (xsetI xhN 66 4 1) 66 5 0) 66 7 a1.toInt64) 66 6 0) 67 0 (-1)) 68 0 0) 69 0 (-1)) 70 0 (-1)) 67 1 (-1)) 68 1 0) 69 1 (-1)) 70 1 (-1)) 67 2 (-1)) 68 2 0) 69 2 (-1)) 70 2 (-1)) 67 3 (-1))) rfl ?_
      exact ev_ret rfl rfl
    refine ev_go 4 (pc1 := 69) (lv1 := [.ref 66, .ref 3, .int a1, .int 3]) (st1 := [.int 0, .int 3, .ref 68]) (h1 := (xsetI (xsetI (xsetI (xsetI (xsetI (xsetI (xsetI (xsetI (xsetI (xsetI (xsetI (xsetI (xsetI (xsetI (xsetL (xsetI (xsetI xhN 66 4 1) 66 5 0) 66 7 a1.toInt64) 66 6 0) 67 0 (-1)) 68 0 0) 69 0 (-1)) 70 0 (-1)) 67 1 (-1)) 68 1 0) 69 1 (-1)) 70 1 (-1)) 67 2 (-1)) 68 2 0) 69 2 (-1)) 70 2 (-1)) 67 3 (-1))) rfl ?_
    refine ev_call (v1 := none) (h1 := (xsetI (xsetI (xsetI (xsetI (xsetI (xsetI (xsetI (xsetI (xsetI (xsetI (xsetI (xsetI (xsetI (xsetI (xsetI (xsetL (xsetI (xsetI xhN 66 4 1) 66 5 0) 66 7 a1.toInt64) 66 6 0) 67 0 (-1)) 68 0 0) 69 0 (-1)) 70 0 (-1)) 67 1 (-1)) 68 1 0) 69 1 (-1)) 70 1 (-1)) 67 2 (-1)) 68 2 0) 69 2 (-1)) 70 2 (-1)) 67 3 (-1)) 68 3 0)) rfl rfl ?_ ?_
    · refine ev_go 10 (pc1 := 14) (lv1 := [.ref 68, .int 3, .int 0]) (st1 := []) (h1 := (xsetI (xsetI (xsetI (xsetI (xsetI (xsetI (xsetI (xsetI (xsetI (xsetI (xsetI (xsetI (xsetI (xsetI (xsetI (xsetL (xsetI (xsetI xhN 66 4 1) 66 5 0) 66 7 a1.toInt64) 66 6 0) 67 0 (-1)) 68 0 0) 69 0 (-1)) 70 0 (-1)) 67 1 (-1)) 68 1 0) 69 1 (-1)) 70 1 (-1)) 67 2 (-1)) 68 2 0) 69 2 (-1)) 70 2 (-1)) 67 3 (-1)) 68 3 0)) rfl ?_
      exact ev_ret rfl rfl
    refine ev_go 4 (pc1 := 78) (lv1 := [.ref 66, .ref 3, .int a1, .int 3]) (st1 := [.int (-1), .int 3, .ref 69]) (h1 := (xsetI (xsetI (xsetI (xsetI (xsetI (xsetI (xsetI (xsetI (xsetI (xsetI (xsetI (xsetI (xsetI (xsetI (xsetI (xsetL (xsetI (xsetI xhN 66 4 1) 66 5 0) 66 7 a1.toInt64) 66 6 0) 67 0 (-1)) 68 0 0) 69 0 (-1)) 70 0 (-1)) 67 1 (-1)) 68 1 0) 69 1 (-1)) 70 1 (-1)) 67 2 (-1)) 68 2 0) 69 2 (-1)) 70 2 (-1)) 67 3 (-1)) 68 3 0)) rfl ?_
    refine ev_call (v1 := none) (h1 := (xsetI (xsetI (xsetI (xsetI (xsetI (xsetI (xsetI (xsetI (xsetI (xsetI (xsetI (xsetI (xsetI (xsetI (xsetI (xsetI (xsetL (xsetI (xsetI xhN 66 4 1) 66 5 0) 66 7 a1.toInt64) 66 6 0) 67 0 (-1)) 68 0 0) 69 0 (-1)) 70 0 (-1)) 67 1 (-1)) 68 1 0) 69 1 (-1)) 70 1 (-1)) 67 2 (-1)) 68 2 0) 69 2 (-1)) 70 2 (-1)) 67 3 (-1)) 68 3 0) 69 3 (-1))) rfl rfl ?_ ?_
    · refine ev_go 10 (pc1 := 14) (lv1 := [.ref 69, .int 3, .int (-1)]) (st1 := []) (h1 := (xsetI (xsetI (xsetI (xsetI (xsetI (xsetI (xsetI (xsetI (xsetI (xsetI (xsetI (xsetI (xsetI (xsetI (xsetI (xsetI (xsetL (xsetI (xsetI xhN 66 4 1) 66 5 0) 66 7 a1.toInt64) 66 6 0) 67 0 (-1)) 68 0 0) 69 0 (-1)) 70 0 (-1)) 67 1 (-1)) 68 1 0) 69 1 (-1)) 70 1 (-1)) 67 2 (-1)) 68 2 0) 69 2 (-1)) 70 2 (-1)) 67 3 (-1)) 68 3 0) 69 3 (-1))) rfl ?_
      exact ev_ret rfl rfl
    refine ev_go 4 (pc1 := 87) (lv1 := [.ref 66, .ref 3, .int a1, .int 3]) (st1 := [.int (-1), .int 3, .ref 70]) (h1 := (xsetI (xsetI (xsetI (xsetI (xsetI (xsetI (xsetI (xsetI (xsetI (xsetI (xsetI (xsetI (xsetI (xsetI (xsetI (xsetI (xsetL (xsetI (xsetI xhN 66 4 1) 66 5 0) 66 7 a1.toInt64) 66 6 0) 67 0 (-1)) 68 0 0) 69 0 (-1)) 70 0 (-1)) 67 1 (-1)) 68 1 0) 69 1 (-1)) 70 1 (-1)) 67 2 (-1)) 68 2 0) 69 2 (-1)) 70 2 (-1)) 67 3 (-1)) 68 3 0) 69 3 (-1))) rfl ?_
    refine ev_call (v1 := none) (h1 := (xsetI (xsetI (xsetI (xsetI (xsetI (xsetI (xsetI (xsetI (xsetI (xsetI (xsetI (xsetI (xsetI (xsetI (xsetI (xsetI (xsetI (xsetL (xsetI (xsetI xhN 66 4 1) 66 5 0) 66 7 a1.toInt64) 66 6 0) 67 0 (-1)) 68 0 0) 69 0 (-1)) 70 0 (-1)) 67 1 (-1)) 68 1 0) 69 1 (-1)) 70 1 (-1)) 67 2 (-1)) 68 2 0) 69 2 (-1)) 70 2 (-1)) 67 3 (-1)) 68 3 0) 69 3 (-1)) 70 3 (-1))) rfl rfl ?_ ?_
    · refine ev_go 10 (pc1 := 14) (lv1 := [.ref 70, .int 3, .int (-1)]) (st1 := []) (h1 := (xsetI (xsetI (xsetI (xsetI (xsetI (xsetI (xsetI (xsetI (xsetI (xsetI (xsetI (xsetI (xsetI (xsetI (xsetI (xsetI (xsetI (xsetL (xsetI (xsetI xhN 66 4 1) 66 5 0) 66 7 a1.toInt64) 66 6 0) 67 0 (-1)) 68 0 0) 69 0 (-1)) 70 0 (-1)) 67 1 (-1)) 68 1 0) 69 1 (-1)) 70 1 (-1)) 67 2 (-1)) 68 2 0) 69 2 (-1)) 70 2 (-1)) 67 3 (-1)) 68 3 0) 69 3 (-1)) 70 3 (-1))) rfl ?_
      exact ev_ret rfl rfl
    refine ev_go 5 (pc1 := 96) (lv1 := [.ref 66, .ref 3, .int a1, .int 4]) (st1 := []) (h1 := (xsetI (xsetI (xsetI (xsetI (xsetI (xsetI (xsetI (xsetI (xsetI (xsetI (xsetI (xsetI (xsetI (xsetI (xsetI (xsetI (xsetI (xsetL (xsetI (xsetI xhN 66 4 1) 66 5 0) 66 7 a1.toInt64) 66 6 0) 67 0 (-1)) 68 0 0) 69 0 (-1)) 70 0 (-1)) 67 1 (-1)) 68 1 0) 69 1 (-1)) 70 1 (-1)) 67 2 (-1)) 68 2 0) 69 2 (-1)) 70 2 (-1)) 67 3 (-1)) 68 3 0) 69 3 (-1)) 70 3 (-1))) rfl ?_
    exact ev_ret rfl rfl
  refine ev_go 1 (pc1 := 23) (lv1 := [.ref 0, .int a1]) (st1 := [.int 1]) (h1 := (xsetI (xsetI (xsetI (xsetI (xsetI (xsetI (xsetI (xsetI (xsetI (xsetI (xsetI (xsetI (xsetI (xsetI (xsetI (xsetI (xsetI (xsetL (xsetI (xsetI xhN 66 4 1) 66 5 0) 66 7 a1.toInt64) 66 6 0) 67 0 (-1)) 68 0 0) 69 0 (-1)) 70 0 (-1)) 67 1 (-1)) 68 1 0) 69 1 (-1)) 70 1 (-1)) 67 2 (-1)) 68 2 0) 69 2 (-1)) 70 2 (-1)) 67 3 (-1)) 68 3 0) 69 3 (-1)) 70 3 (-1))) rfl ?_
  exact ev_ret rfl rfl
set_option maxRecDepth 20000 in
theorem pm_begin_1 {L : Nat} {xs : Nat → Int32} {a1 : Int32} (h1 : 0 ≤ a1.toInt) : xEv L xs 19 222 0 [.ref 86, .int a1, xmk] [] (xsetI (xsetI (xsetI (xsetI (xsetI (xsetI (xsetI (xsetI (xsetI (xsetI (xsetI (xsetI (xsetI (xsetI (xsetI (xsetI (xsetI (xsetL (xsetI (xsetI xhN 66 4 1) 66 5 0) 66 7 a1.toInt64) 66 6 0) 67 0 (-1)) 68 0 0) 69 0 (-1)) 70 0 (-1)) 67 1 (-1)) 68 1 0) 69 1 (-1)) 70 1 (-1)) 67 2 (-1)) 68 2 0) 69 2 (-1)) 70 2 (-1)) 67 3 (-1)) 68 3 0) 69 3 (-1)) 70 3 (-1)) (some (.int 1)) (xsetI (xsetI (xsetI (xsetI (xsetI (xsetI (xsetI (xsetI (xsetI (xsetI (xsetI (xsetI (xsetI (xsetI (xsetI (xsetI (xsetI (xsetI (xsetI (xsetI (xsetI (xsetI (xsetI (xsetL (xsetI (xsetI (xsetI (xsetI (xsetI (xsetI (xsetI (xsetI (xsetI (xsetI (xsetI (xsetI (xsetI (xsetI (xsetI (xsetI (xsetI (xsetI (xsetI (xsetL (xsetI (xsetI xhN 66 4 1) 66 5 0) 66 7 a1.toInt64) 66 6 0) 67 0 (-1)) 68 0 0) 69 0 (-1)) 70 0 (-1)) 67 1 (-1)) 68 1 0) 69 1 (-1)) 70 1 (-1)) 67 2 (-1)) 68 2 0) 69 2 (-1)) 70 2 (-1)) 67 3 (-1)) 68 3 0) 69 3 (-1)) 70 3 (-1)) 121 0 1) 121 1 0) 122 0 a1.toInt64) 121 2 1) 121 3 1) 121 4 1) 121 5 1) 121 6 1) 121 7 1) 121 8 1) 121 9 (-1)) 121 13 0) 121 17 (-1)) 121 21 (-1)) 121 10 (-1)) 121 14 0) 121 18 (-1)) 121 22 (-1)) 121 11 (-1)) 121 15 0) 121 19 (-1)) 121 23 (-1)) 121 12 (-1)) 121 16 0) 121 20 (-1)) 121 24 (-1)) := by
  refine ev_go 1 (pc1 := 1) (lv1 := [.ref 86, .int a1, xmk]) (st1 := [.int a1]) (h1 := (xsetI (xsetI (xsetI (xsetI (xsetI (xsetI (xsetI (xsetI (xsetI (xsetI (xsetI (xsetI (xsetI (xsetI (xsetI (xsetI (xsetI (xsetL (xsetI (xsetI xhN 66 4 1) 66 5 0) 66 7 a1.toInt64) 66 6 0) 67 0 (-1)) 68 0 0) 69 0 (-1)) 70 0 (-1)) 67 1 (-1)) 68 1 0) 69 1 (-1)) 70 1 (-1)) 67 2 (-1)) 68 2 0) 69 2 (-1)) 70 2 (-1)) 67 3 (-1)) 68 3 0) 69 3 (-1)) 70 3 (-1))) rfl ?_
  refine ev_br (b1 := true) rfl rfl (xcd_ge (x := a1) (y := 0) (by rw [show ((0 : Int32)).toInt = 0 from by decide]; omega)) ?_
  refine ev_go 40 (pc1 := 46) (lv1 := [.ref 86, .int a1, .int 1]) (st1 := []) (h1 := (xsetI (xsetI (xsetL (xsetI (xsetI (xsetI (xsetI (xsetI (xsetI (xsetI (xsetI (xsetI (xsetI (xsetI (xsetI (xsetI (xsetI (xsetI (xsetI (xsetI (xsetI (xsetI (xsetL (xsetI (xsetI xhN 66 4 1) 66 5 0) 66 7 a1.toInt64) 66 6 0) 67 0 (-1)) 68 0 0) 69 0 (-1)) 70 0 (-1)) 67 1 (-1)) 68 1 0) 69 1 (-1)) 70 1 (-1)) 67 2 (-1)) 68 2 0) 69 2 (-1)) 70 2 (-1)) 67 3 (-1)) 68 3 0) 69 3 (-1)) 70 3 (-1)) 121 0 1) 121 1 0) 122 0 a1.toInt64) 121 2 1) 121 3 1)) rfl ?_
  refine ev_go 40 (pc1 := 34) (lv1 := [.ref 86, .int a1, .int 5]) (st1 := [.int 7, .int 5]) (h1 := (xsetI (xsetI (xsetI (xsetI (xsetI (xsetL (xsetI (xsetI (xsetI (xsetI (xsetI (xsetI (xsetI (xsetI (xsetI (xsetI (xsetI (xsetI (xsetI (xsetI (xsetI (xsetI (xsetI (xsetI (xsetI (xsetL (xsetI (xsetI xhN 66 4 1) 66 5 0) 66 7 a1.toInt64) 66 6 0) 67 0 (-1)) 68 0 0) 69 0 (-1)) 70 0 (-1)) 67 1 (-1)) 68 1 0) 69 1 (-1)) 70 1 (-1)) 67 2 (-1)) 68 2 0) 69 2 (-1)) 70 2 (-1)) 67 3 (-1)) 68 3 0) 69 3 (-1)) 70 3 (-1)) 121 0 1) 121 1 0) 122 0 a1.toInt64) 121 2 1) 121 3 1) 121 4 1) 121 5 1) 121 6 1)) rfl ?_
  refine ev_go 37 (pc1 := 69) (lv1 := [.ref 86, .int a1, .int 0]) (st1 := [.int 0, .ref 86, .int 9, .ref 121]) (h1 := (xsetI (xsetI (xsetI (xsetI (xsetI (xsetI (xsetI (xsetL (xsetI (xsetI (xsetI (xsetI (xsetI (xsetI (xsetI (xsetI (xsetI (xsetI (xsetI (xsetI (xsetI (xsetI (xsetI (xsetI (xsetI (xsetI (xsetI (xsetL (xsetI (xsetI xhN 66 4 1) 66 5 0) 66 7 a1.toInt64) 66 6 0) 67 0 (-1)) 68 0 0) 69 0 (-1)) 70 0 (-1)) 67 1 (-1)) 68 1 0) 69 1 (-1)) 70 1 (-1)) 67 2 (-1)) 68 2 0) 69 2 (-1)) 70 2 (-1)) 67 3 (-1)) 68 3 0) 69 3 (-1)) 70 3 (-1)) 121 0 1) 121 1 0) 122 0 a1.toInt64) 121 2 1) 121 3 1) 121 4 1) 121 5 1) 121 6 1) 121 7 1) 121 8 1)) rfl ?_
  refine ev_call (v1 := (some (.int 0))) (h1 := (xsetI (xsetI (xsetI (xsetI (xsetI (xsetI (xsetI (xsetL (xsetI (xsetI (xsetI (xsetI (xsetI (xsetI (xsetI (xsetI (xsetI (xsetI (xsetI (xsetI (xsetI (xsetI (xsetI (xsetI (xsetI (xsetI (xsetI (xsetL (xsetI (xsetI xhN 66 4 1) 66 5 0) 66 7 a1.toInt64) 66 6 0) 67 0 (-1)) 68 0 0) 69 0 (-1)) 70 0 (-1)) 67 1 (-1)) 68 1 0) 69 1 (-1)) 70 1 (-1)) 67 2 (-1)) 68 2 0) 69 2 (-1)) 70 2 (-1)) 67 3 (-1)) 68 3 0) 69 3 (-1)) 70 3 (-1)) 121 0 1) 121 1 0) 122 0 a1.toInt64) 121 2 1) 121 3 1) 121 4 1) 121 5 1) 121 6 1) 121 7 1) 121 8 1)) rfl rfl ?_ ?_
  · refine ev_go 8 (pc1 := 10) (lv1 := [.ref 86, .int 0]) (st1 := [.int (-1), .int 0, .int 0]) (h1 := (xsetI (xsetI (xsetI (xsetI (xsetI (xsetI (xsetI (xsetL (xsetI (xsetI (xsetI (xsetI (xsetI (xsetI (xsetI (xsetI (xsetI (xsetI (xsetI (xsetI (xsetI (xsetI (xsetI (xsetI (xsetI (xsetI (xsetI (xsetL (xsetI (xsetI xhN 66 4 1) 66 5 0) 66 7 a1.toInt64) 66 6 0) 67 0 (-1)) 68 0 0) 69 0 (-1)) 70 0 (-1)) 67 1 (-1)) 68 1 0) 69 1 (-1)) 70 1 (-1)) 67 2 (-1)) 68 2 0) 69 2 (-1)) 70 2 (-1)) 67 3 (-1)) 68 3 0) 69 3 (-1)) 70 3 (-1)) 121 0 1) 121 1 0) 122 0 a1.toInt64) 121 2 1) 121 3 1) 121 4 1) 121 5 1) 121 6 1) 121 7 1) 121 8 1)) rfl ?_
    refine ev_call (v1 := (some (.int 0))) (h1 := (xsetI (xsetI (xsetI (xsetI (xsetI (xsetI (xsetI (xsetL (xsetI (xsetI (xsetI (xsetI (xsetI (xsetI (xsetI (xsetI (xsetI (xsetI (xsetI (xsetI (xsetI (xsetI (xsetI (xsetI (xsetI (xsetI (xsetI (xsetL (xsetI (xsetI xhN 66 4 1) 66 5 0) 66 7 a1.toInt64) 66 6 0) 67 0 (-1)) 68 0 0) 69 0 (-1)) 70 0 (-1)) 67 1 (-1)) 68 1 0) 69 1 (-1)) 70 1 (-1)) 67 2 (-1)) 68 2 0) 69 2 (-1)) 70 2 (-1)) 67 3 (-1)) 68 3 0) 69 3 (-1)) 70 3 (-1)) 121 0 1) 121 1 0) 122 0 a1.toInt64) 121 2 1) 121 3 1) 121 4 1) 121 5 1) 121 6 1) 121 7 1) 121 8 1)) rfl rfl ?_ ?_
    · refine ev_go 7 (pc1 := 15) (lv1 := [.int 0, .int 0, .int (-1)]) (st1 := [.int 0]) (h1 := (xsetI (xsetI (xsetI (xsetI (xsetI (xsetI (xsetI (xsetL (xsetI (xsetI (xsetI (xsetI (xsetI (xsetI (xsetI (xsetI (xsetI (xsetI (xsetI (xsetI (xsetI (xsetI (xsetI (xsetI (xsetI (xsetI (xsetI (xsetL (xsetI (xsetI xhN 66 4 1) 66 5 0) 66 7 a1.toInt64) 66 6 0) 67 0 (-1)) 68 0 0) 69 0 (-1)) 70 0 (-1)) 67 1 (-1)) 68 1 0) 69 1 (-1)) 70 1 (-1)) 67 2 (-1)) 68 2 0) 69 2 (-1)) 70 2 (-1)) 67 3 (-1)) 68 3 0) 69 3 (-1)) 70 3 (-1)) 121 0 1) 121 1 0) 122 0 a1.toInt64) 121 2 1) 121 3 1) 121 4 1) 121 5 1) 121 6 1) 121 7 1) 121 8 1)) rfl ?_
      exact ev_ret rfl rfl
    exact ev_ret rfl rfl
  refine ev_go 36 (pc1 := 69) (lv1 := [.ref 86, .int a1, .int 1]) (st1 := [.int 1, .ref 86, .int 10, .ref 121]) (h1 := (xsetI (xsetI (xsetI (xsetI (xsetI (xsetI (xsetI (xsetI (xsetI (xsetI (xsetI (xsetL (xsetI (xsetI (xsetI (xsetI (xsetI (xsetI (xsetI (xsetI (xsetI (xsetI (xsetI (xsetI (xsetI (xsetI (xsetI (xsetI (xsetI (xsetI (xsetI (xsetL (xsetI (xsetI xhN 66 4 1) 66 5 0) 66 7 a1.toInt64) 66 6 0) 67 0 (-1)) 68 0 0) 69 0 (-1)) 70 0 (-1)) 67 1 (-1)) 68 1 0) 69 1 (-1)) 70 1 (-1)) 67 2 (-1)) 68 2 0) 69 2 (-1)) 70 2 (-1)) 67 3 (-1)) 68 3 0) 69 3 (-1)) 70 3 (-1)) 121 0 1) 121 1 0) 122 0 a1.toInt64) 121 2 1) 121 3 1) 121 4 1) 121 5 1) 121 6 1) 121 7 1) 121 8 1) 121 9 (-1)) 121 13 0) 121 17 (-1)) 121 21 (-1))) rfl ?_
  refine ev_call (v1 := (some (.int 0))) (h1 := (xsetI (xsetI (xsetI (xsetI (xsetI (xsetI (xsetI (xsetI (xsetI (xsetI (xsetI (xsetL (xsetI (xsetI (xsetI (xsetI (xsetI (xsetI (xsetI (xsetI (xsetI (xsetI (xsetI (xsetI (xsetI (xsetI (xsetI (xsetI (xsetI (xsetI (xsetI (xsetL (xsetI (xsetI xhN 66 4 1) 66 5 0) 66 7 a1.toInt64) 66 6 0) 67 0 (-1)) 68 0 0) 69 0 (-1)) 70 0 (-1)) 67 1 (-1)) 68 1 0) 69 1 (-1)) 70 1 (-1)) 67 2 (-1)) 68 2 0) 69 2 (-1)) 70 2 (-1)) 67 3 (-1)) 68 3 0) 69 3 (-1)) 70 3 (-1)) 121 0 1) 121 1 0) 122 0 a1.toInt64) 121 2 1) 121 3 1) 121 4 1) 121 5 1) 121 6 1) 121 7 1) 121 8 1) 121 9 (-1)) 121 13 0) 121 17 (-1)) 121 21 (-1))) rfl rfl ?_ ?_
  · refine ev_go 8 (pc1 := 10) (lv1 := [.ref 86, .int 1]) (st1 := [.int (-1), .int 0, .int 1]) (h1 := (xsetI (xsetI (xsetI (xsetI (xsetI (xsetI (xsetI (xsetI (xsetI (xsetI (xsetI (xsetL (xsetI (xsetI (xsetI (xsetI (xsetI (xsetI (xsetI (xsetI (xsetI (xsetI (xsetI (xsetI (xsetI (xsetI (xsetI (xsetI (xsetI (xsetI (xsetI (xsetL (xsetI (xsetI xhN 66 4 1) 66 5 0) 66 7 a1.toInt64) 66 6 0) 67 0 (-1)) 68 0 0) 69 0 (-1)) 70 0 (-1)) 67 1 (-1)) 68 1 0) 69 1 (-1)) 70 1 (-1)) 67 2 (-1)) 68 2 0) 69 2 (-1)) 70 2 (-1)) 67 3 (-1)) 68 3 0) 69 3 (-1)) 70 3 (-1)) 121 0 1) 121 1 0) 122 0 a1.toInt64) 121 2 1) 121 3 1) 121 4 1) 121 5 1) 121 6 1) 121 7 1) 121 8 1) 121 9 (-1)) 121 13 0) 121 17 (-1)) 121 21 (-1))) rfl ?_
    refine ev_call (v1 := (some (.int 0))) (h1 := (xsetI (xsetI (xsetI (xsetI (xsetI (xsetI (xsetI (xsetI (xsetI (xsetI (xsetI (xsetL (xsetI (xsetI (xsetI (xsetI (xsetI (xsetI (xsetI (xsetI (xsetI (xsetI (xsetI (xsetI (xsetI (xsetI (xsetI (xsetI (xsetI (xsetI (xsetI (xsetL (xsetI (xsetI xhN 66 4 1) 66 5 0) 66 7 a1.toInt64) 66 6 0) 67 0 (-1)) 68 0 0) 69 0 (-1)) 70 0 (-1)) 67 1 (-1)) 68 1 0) 69 1 (-1)) 70 1 (-1)) 67 2 (-1)) 68 2 0) 69 2 (-1)) 70 2 (-1)) 67 3 (-1)) 68 3 0) 69 3 (-1)) 70 3 (-1)) 121 0 1) 121 1 0) 122 0 a1.toInt64) 121 2 1) 121 3 1) 121 4 1) 121 5 1) 121 6 1) 121 7 1) 121 8 1) 121 9 (-1)) 121 13 0) 121 17 (-1)) 121 21 (-1))) rfl rfl ?_ ?_
    · refine ev_go 7 (pc1 := 15) (lv1 := [.int 1, .int 0, .int (-1)]) (st1 := [.int 0]) (h1 := (xsetI (xsetI (xsetI (xsetI (xsetI (xsetI (xsetI (xsetI (xsetI (xsetI (xsetI (xsetL (xsetI (xsetI (xsetI (xsetI (xsetI (xsetI (xsetI (xsetI (xsetI (xsetI (xsetI (xsetI (xsetI (xsetI (xsetI (xsetI (xsetI (xsetI (xsetI (xsetL (xsetI (xsetI xhN 66 4 1) 66 5 0) 66 7 a1.toInt64) 66 6 0) 67 0 (-1)) 68 0 0) 69 0 (-1)) 70 0 (-1)) 67 1 (-1)) 68 1 0) 69 1 (-1)) 70 1 (-1)) 67 2 (-1)) 68 2 0) 69 2 (-1)) 70 2 (-1)) 67 3 (-1)) 68 3 0) 69 3 (-1)) 70 3 (-1)) 121 0 1) 121 1 0) 122 0 a1.toInt64) 121 2 1) 121 3 1) 121 4 1) 121 5 1) 121 6 1) 121 7 1) 121 8 1) 121 9 (-1)) 121 13 0) 121 17 (-1)) 121 21 (-1))) rfl ?_
      exact ev_ret rfl rfl
    exact ev_ret rfl rfl
  refine ev_go 36 (pc1 := 69) (lv1 := [.ref 86, .int a1, .int 2]) (st1 := [.int 2, .ref 86, .int 11, .ref 121]) (h1 := (xsetI (xsetI (xsetI (xsetI (xsetI (xsetI (xsetI (xsetI (xsetI (xsetI (xsetI (xsetI (xsetI (xsetI (xsetI (xsetL (xsetI (xsetI (xsetI (xsetI (xsetI (xsetI (xsetI (xsetI (xsetI (xsetI (xsetI (xsetI (xsetI (xsetI (xsetI (xsetI (xsetI (xsetI (xsetI (xsetL (xsetI (xsetI xhN 66 4 1) 66 5 0) 66 7 a1.toInt64) 66 6 0) 67 0 (-1)) 68 0 0) 69 0 (-1)) 70 0 (-1)) 67 1 (-1)) 68 1 0) 69 1 (-1)) 70 1 (-1)) 67 2 (-1)) 68 2 0) 69 2 (-1)) 70 2 (-1)) 67 3 (-1)) 68 3 0) 69 3 (-1)) 70 3 (-1)) 121 0 1) 121 1 0) 122 0 a1.toInt64) 121 2 1) 121 3 1) 121 4 1) 121 5 1) 121 6 1) 121 7 1) 121 8 1) 121 9 (-1)) 121 13 0) 121 17 (-1)) 121 21 (-1)) 121 10 (-1)) 121 14 0) 121 18 (-1)) 121 22 (-1))) rfl ?_
  refine ev_call (v1 := (some (.int 0))) (h1 := (xsetI (xsetI (xsetI (xsetI (xsetI (xsetI (xsetI (xsetI (xsetI (xsetI (xsetI (xsetI (xsetI (xsetI (xsetI (xsetL (xsetI (xsetI (xsetI (xsetI (xsetI (xsetI (xsetI (xsetI (xsetI (xsetI (xsetI (xsetI (xsetI (xsetI (xsetI (xsetI (xsetI (xsetI (xsetI (xsetL (xsetI (xsetI xhN 66 4 1) 66 5 0) 66 7 a1.toInt64) 66 6 0) 67 0 (-1)) 68 0 0) 69 0 (-1)) 70 0 (-1)) 67 1 (-1)) 68 1 0) 69 1 (-1)) 70 1 (-1)) 67 2 (-1)) 68 2 0) 69 2 (-1)) 70 2 (-1)) 67 3 (-1)) 68 3 0) 69 3 (-1)) 70 3 (-1)) 121 0 1) 121 1 0) 122 0 a1.toInt64) 121 2 1) 121 3 1) 121 4 1) 121 5 1) 121 6 1) 121 7 1) 121 8 1) 121 9 (-1)) 121 13 0) 121 17 (-1)) 121 21 (-1)) 121 10 (-1)) 121 14 0) 121 18 (-1)) 121 22 (-1))) rfl rfl ?_ ?_
  · refine ev_go 8 (pc1 := 10) (lv1 := [.ref 86, .int 2]) (st1 := [.int (-1), .int 0, .int 2]) (h1 := (xsetI (xsetI (xsetI (xsetI (xsetI (xsetI (xsetI (xsetI (xsetI (xsetI (xsetI (xsetI (xsetI (xsetI (xsetI (xsetL (xsetI (xsetI (xsetI (xsetI (xsetI (xsetI (xsetI (xsetI (xsetI (xsetI (xsetI (xsetI (xsetI (xsetI (xsetI (xsetI (xsetI (xsetI (xsetI (xsetL (xsetI (xsetI xhN 66 4 1) 66 5 0) 66 7 a1.toInt64) 66 6 0) 67 0 (-1)) 68 0 0) 69 0 (-1)) 70 0 (-1)) 67 1 (-1)) 68 1 0) 69 1 (-1)) 70 1 (-1)) 67 2 (-1)) 68 2 0) 69 2 (-1)) 70 2 (-1)) 67 3 (-1)) 68 3 0) 69 3 (-1)) 70 3 (-1)) 121 0 1) 121 1 0) 122 0 a1.toInt64) 121 2 1) 121 3 1) 121 4 1) 121 5 1) 121 6 1) 121 7 1) 121 8 1) 121 9 (-1)) 121 13 0) 121 17 (-1)) 121 21 (-1)) 121 10 (-1)) 121 14 0) 121 18 (-1)) 121 22 (-1))) rfl ?_
    refine ev_call (v1 := (some (.int 0))) (h1 := (xsetI (xsetI (xsetI (xsetI (xsetI (xsetI (xsetI (xsetI (xsetI (xsetI (xsetI (xsetI (xsetI (xsetI (xsetI (xsetL (xsetI (xsetI (xsetI (xsetI (xsetI (xsetI (xsetI (xsetI (xsetI (xsetI (xsetI (xsetI (xsetI (xsetI (xsetI (xsetI (xsetI (xsetI (xsetI (xsetL (xsetI (xsetI xhN 66 4 1) 66 5 0) 66 7 a1.toInt64) 66 6 0) 67 0 (-1)) 68 0 0) 69 0 (-1)) 70 0 (-1)) 67 1 (-1)) 68 1 0) 69 1 (-1)) 70 1 (-1)) 67 2 (-1)) 68 2 0) 69 2 (-1)) 70 2 (-1)) 67 3 (-1)) 68 3 0) 69 3 (-1)) 70 3 (-1)) 121 0 1) 121 1 0) 122 0 a1.toInt64) 121 2 1) 121 3 1) 121 4 1) 121 5 1) 121 6 1) 121 7 1) 121 8 1) 121 9 (-1)) 121 13 0) 121 17 (-1)) 121 21 (-1)) 121 10 (-1)) 121 14 0) 121 18 (-1)) 121 22 (-1))) rfl rfl ?_ ?_
    · refine ev_go 7 (pc1 := 15) (lv1 := [.int 2, .int 0, .int (-1)]) (st1 := [.int 0]) (h1 := (xsetI (xsetI (xsetI (xsetI (xsetI (xsetI (xsetI (xsetI (xsetI (xsetI (xsetI (xsetI (xsetI (xsetI (xsetI (xsetL (xsetI (xsetI (xsetI (xsetI (xsetI (xsetI (xsetI (xsetI (xsetI (xsetI (xsetI (xsetI (xsetI (xsetI (xsetI (xsetI (xsetI (xsetI (xsetI (xsetL (xsetI (xsetI xhN 66 4 1) 66 5 0) 66 7 a1.toInt64) 66 6 0) 67 0 (-1)) 68 0 0) 69 0 (-1)) 70 0 (-1)) 67 1 (-1)) 68 1 0) 69 1 (-1)) 70 1 (-1)) 67 2 (-1)) 68 2 0) 69 2 (-1)) 70 2 (-1)) 67 3 (-1)) 68 3 0) 69 3 (-1)) 70 3 (-1)) 121 0 1) 121 1 0) 122 0 a1.toInt64) 121 2 1) 121 3 1) 121 4 1) 121 5 1) 121 6 1) 121 7 1) 121 8 1) 121 9 (-1)) 121 13 0) 121 17 (-1)) 121 21 (-1)) 121 10 (-1)) 121 14 0) 121 18 (-1)) 121 22 (-1))) rfl ?_
      exact ev_ret rfl rfl
    exact ev_ret rfl rfl
  refine ev_go 36 (pc1 := 69) (lv1 := [.ref 86, .int a1, .int 3]) (st1 := [.int 3, .ref 86, .int 12, .ref 121]) (h1 := (xsetI (xsetI (xsetI (xsetI (xsetI (xsetI (xsetI (xsetI (xsetI (xsetI (xsetI (xsetI (xsetI (xsetI (xsetI (xsetI (xsetI (xsetI (xsetI (xsetL (xsetI (xsetI (xsetI (xsetI (xsetI (xsetI (xsetI (xsetI (xsetI (xsetI (xsetI (xsetI (xsetI (xsetI (xsetI (xsetI (xsetI (xsetI (xsetI (xsetL (xsetI (xsetI xhN 66 4 1) 66 5 0) 66 7 a1.toInt64) 66 6 0) 67 0 (-1)) 68 0 0) 69 0 (-1)) 70 0 (-1)) 67 1 (-1)) 68 1 0) 69 1 (-1)) 70 1 (-1)) 67 2 (-1)) 68 2 0) 69 2 (-1)) 70 2 (-1)) 67 3 (-1)) 68 3 0) 69 3 (-1)) 70 3 (-1)) 121 0 1) 121 1 0) 122 0 a1.toInt64) 121 2 1) 121 3 1) 121 4 1) 121 5 1) 121 6 1) 121 7 1) 121 8 1) 121 9 (-1)) 121 13 0) 121 17 (-1)) 121 21 (-1)) 121 10 (-1)) 121 14 0) 121 18 (-1)) 121 22 (-1)) 121 11 (-1)) 121 15 0) 121 19 (-1)) 121 23 (-1))) rfl ?_
  refine ev_call (v1 := (some (.int 0))) (h1 := (xsetI (xsetI (xsetI (xsetI (xsetI (xsetI (xsetI (xsetI (xsetI (xsetI (xsetI (xsetI (xsetI (xsetI (xsetI (xsetI (xsetI (xsetI (xsetI (xsetL (xsetI (xsetI (xsetI (xsetI (xsetI (xsetI (xsetI (xsetI (xsetI (xsetI (xsetI (xsetI (xsetI (xsetI (xsetI (xsetI (xsetI (xsetI (xsetI (xsetL (xsetI (xsetI xhN 66 4 1) 66 5 0) 66 7 a1.toInt64) 66 6 0) 67 0 (-1)) 68 0 0) 69 0 (-1)) 70 0 (-1)) 67 1 (-1)) 68 1 0) 69 1 (-1)) 70 1 (-1)) 67 2 (-1)) 68 2 0) 69 2 (-1)) 70 2 (-1)) 67 3 (-1)) 68 3 0) 69 3 (-1)) 70 3 (-1)) 121 0 1) 121 1 0) 122 0 a1.toInt64) 121 2 1) 121 3 1) 121 4 1) 121 5 1) 121 6 1) 121 7 1) 121 8 1) 121 9 (-1)) 121 13 0) 121 17 (-1)) 121 21 (-1)) 121 10 (-1)) 121 14 0) 121 18 (-1)) 121 22 (-1)) 121 11 (-1)) 121 15 0) 121 19 (-1)) 121 23 (-1))) rfl rfl ?_ ?_
  · refine ev_go 8 (pc1 := 10) (lv1 := [.ref 86, .int 3]) (st1 := [.int (-1), .int 0, .int 3]) (h1 := (xsetI (xsetI (xsetI (xsetI (xsetI (xsetI (xsetI (xsetI (xsetI (xsetI (xsetI (xsetI (xsetI (xsetI (xsetI (xsetI (xsetI (xsetI (xsetI (xsetL (xsetI (xsetI (xsetI (xsetI (xsetI (xsetI (xsetI (xsetI (xsetI (xsetI (xsetI (xsetI (xsetI (xsetI (xsetI (xsetI (xsetI (xsetI (xsetI (xsetL (xsetI (xsetI xhN 66 4 1) 66 5 0) 66 7 a1.toInt64) 66 6 0) 67 0 (-1)) 68 0 0) 69 0 (-1)) 70 0 (-1)) 67 1 (-1)) 68 1 0) 69 1 (-1)) 70 1 (-1)) 67 2 (-1)) 68 2 0) 69 2 (-1)) 70 2 (-1)) 67 3 (-1)) 68 3 0) 69 3 (-1)) 70 3 (-1)) 121 0 1) 121 1 0) 122 0 a1.toInt64) 121 2 1) 121 3 1) 121 4 1) 121 5 1) 121 6 1) 121 7 1) 121 8 1) 121 9 (-1)) 121 13 0) 121 17 (-1)) 121 21 (-1)) 121 10 (-1)) 121 14 0) 121 18 (-1)) 121 22 (-1)) 121 11 (-1)) 121 15 0) 121 19 (-1)) 121 23 (-1))) rfl ?_
    refine ev_call (v1 := (some (.int 0))) (h1 := (xsetI (xsetI (xsetI (xsetI (xsetI (xsetI (xsetI (xsetI (xsetI (xsetI (xsetI (xsetI (xsetI (xsetI (xsetI (xsetI (xsetI (xsetI (xsetI (xsetL (xsetI (xsetI (xsetI (xsetI (xsetI (xsetI (xsetI (xsetI (xsetI (xsetI (xsetI (xsetI (xsetI (xsetI (xsetI (xsetI (xsetI (xsetI (xsetI (xsetL (xsetI (xsetI xhN 66 4 1) 66 5 0) 66 7 a1.toInt64) 66 6 0) 67 0 (-1)) 68 0 0) 69 0 (-1)) 70 0 (-1)) 67 1 (-1)) 68 1 0) 69 1 (-1)) 70 1 (-1)) 67 2 (-1)) 68 2 0) 69 2 (-1)) 70 2 (-1)) 67 3 (-1)) 68 3 0) 69 3 (-1)) 70 3 (-1)) 121 0 1) 121 1 0) 122 0 a1.toInt64) 121 2 1) 121 3 1) 121 4 1) 121 5 1) 121 6 1) 121 7 1) 121 8 1) 121 9 (-1)) 121 13 0) 121 17 (-1)) 121 21 (-1)) 121 10 (-1)) 121 14 0) 121 18 (-1)) 121 22 (-1)) 121 11 (-1)) 121 15 0) 121 19 (-1)) 121 23 (-1))) rfl rfl ?_ ?_
    · refine ev_go 7 (pc1 := 15) (lv1 := [.int 3, .int 0, .int (-1)]) (st1 := [.int 0]) (h1 := (xsetI (xsetI (xsetI (xsetI (xsetI (xsetI (xsetI (xsetI (xsetI (xsetI (xsetI (xsetI (xsetI (xsetI (xsetI (xsetI (xsetI (xsetI (xsetI (xsetL (xsetI (xsetI (xsetI (xsetI (xsetI (xsetI (xsetI (xsetI (xsetI (xsetI (xsetI (xsetI (xsetI (xsetI (xsetI (xsetI (xsetI (xsetI (xsetI (xsetL (xsetI (xsetI xhN 66 4 1) 66 5 0) 66 7 a1.toInt64) 66 6 0) 67 0 (-1)) 68 0 0) 69 0 (-1)) 70 0 (-1)) 67 1 (-1)) 68 1 0) 69 1 (-1)) 70 1 (-1)) 67 2 (-1)) 68 2 0) 69 2 (-1)) 70 2 (-1)) 67 3 (-1)) 68 3 0) 69 3 (-1)) 70 3 (-1)) 121 0 1) 121 1 0) 122 0 a1.toInt64) 121 2 1) 121 3 1) 121 4 1) 121 5 1) 121 6 1) 121 7 1) 121 8 1) 121 9 (-1)) 121 13 0) 121 17 (-1)) 121 21 (-1)) 121 10 (-1)) 121 14 0) 121 18 (-1)) 121 22 (-1)) 121 11 (-1)) 121 15 0) 121 19 (-1)) 121 23 (-1))) rfl ?_
      exact ev_ret rfl rfl
    exact ev_ret rfl rfl
  refine ev_go 30 (pc1 := 123) (lv1 := [.ref 86, .int a1, .int 4]) (st1 := [.int 1]) (h1 := (xsetI (xsetI (xsetI (xsetI (xsetI (xsetI (xsetI (xsetI (xsetI (xsetI (xsetI (xsetI (xsetI (xsetI (xsetI (xsetI (xsetI (xsetI (xsetI (xsetI (xsetI (xsetI (xsetI (xsetL (xsetI (xsetI (xsetI (xsetI (xsetI (xsetI (xsetI (xsetI (xsetI (xsetI (xsetI (xsetI (xsetI (xsetI (xsetI (xsetI (xsetI (xsetI (xsetI (xsetL (xsetI (xsetI xhN 66 4 1) 66 5 0) 66 7 a1.toInt64) 66 6 0) 67 0 (-1)) 68 0 0) 69 0 (-1)) 70 0 (-1)) 67 1 (-1)) 68 1 0) 69 1 (-1)) 70 1 (-1)) 67 2 (-1)) 68 2 0) 69 2 (-1)) 70 2 (-1)) 67 3 (-1)) 68 3 0) 69 3 (-1)) 70 3 (-1)) 121 0 1) 121 1 0) 122 0 a1.toInt64) 121 2 1) 121 3 1) 121 4 1) 121 5 1) 121 6 1) 121 7 1) 121 8 1) 121 9 (-1)) 121 13 0) 121 17 (-1)) 121 21 (-1)) 121 10 (-1)) 121 14 0) 121 18 (-1)) 121 22 (-1)) 121 11 (-1)) 121 15 0) 121 19 (-1)) 121 23 (-1)) 121 12 (-1)) 121 16 0) 121 20 (-1)) 121 24 (-1))) rfl ?_
  exact ev_ret rfl rfl
set_option maxRecDepth 20000 in
theorem px_go_0 {L : Nat} {xs : Nat → Int32} {a1 : Int32} (h1 : a1.toInt < 0) : xEv L xs 19 122 0 [.ref 0, .int a1, xmk] [] xhN (some (.int (-2))) xhN := by
  refine ev_go 1 (pc1 := 1) (lv1 := [.ref 0, .int a1, xmk]) (st1 := [.int a1]) (h1 := xhN) rfl ?_
  refine ev_br (b1 := true) rfl rfl (xcd_lt (x := a1) (y := 0) (by rw [show ((0 : Int32)).toInt = 0 from by decide]; omega)) ?_
  refine ev_go 1 (pc1 := 12) (lv1 := [.ref 0, .int a1, xmk]) (st1 := [.int (-2)]) (h1 := xhN) rfl ?_
  exact ev_ret rfl rfl
set_option maxRecDepth 20000 in
theorem pm_go_0 {L : Nat} {xs : Nat → Int32} {a1 : Int32} (h1 : a1.toInt < 0) : xEv L xs 19 223 0 [.ref 86, .int a1, xmk] [] xhN (some (.int (-2))) xhN := by
  refine ev_go 3 (pc1 := 4) (lv1 := [.ref 86, .int a1, xmk]) (st1 := [.int 64, .int 0, .int a1]) (h1 := xhN) rfl ?_
  refine ev_call (v1 := (some (.int 0))) (h1 := xhN) rfl rfl ?_ ?_
  · refine ev_go 2 (pc1 := 2) (lv1 := [.int a1, .int 0, .int 64]) (st1 := [.int 0, .int a1]) (h1 := xhN) rfl ?_
    refine ev_br (b1 := true) rfl rfl (xcd_lt (x := a1) (y := 0) (by rw [show ((0 : Int32)).toInt = 0 from by decide]; omega)) ?_
    refine ev_go 1 (pc1 := 15) (lv1 := [.int a1, .int 0, .int 64]) (st1 := [.int 0]) (h1 := xhN) rfl ?_
    exact ev_ret rfl rfl
  refine ev_go 2 (pc1 := 12) (lv1 := [.ref 86, .int a1, xmk]) (st1 := [.int (-2)]) (h1 := xhN) rfl ?_
  exact ev_ret rfl rfl
set_option maxRecDepth 20000 in
theorem px_go_1 {L : Nat} {xs : Nat → Int32} {a1 : Int32} (h1 : 64 < a1.toInt) : xEv L xs 19 122 0 [.ref 0, .int a1, xmk] [] xhN (some (.int (-2))) xhN := by
  refine ev_go 1 (pc1 := 1) (lv1 := [.ref 0, .int a1, xmk]) (st1 := [.int a1]) (h1 := xhN) rfl ?_
  refine ev_br (b1 := false) rfl rfl (xcd_nlt (x := a1) (y := 0) (by rw [show ((0 : Int32)).toInt = 0 from by decide]; omega)) ?_
  refine ev_go 2 (pc1 := 7) (lv1 := [.ref 0, .int a1, xmk]) (st1 := [.int 64, .int a1]) (h1 := xhN) rfl ?_
  refine ev_br (b1 := false) rfl rfl (xcd_nle (x := a1) (y := 64) (by rw [show ((64 : Int32)).toInt = 64 from by decide]; omega)) ?_
  refine ev_go 1 (pc1 := 12) (lv1 := [.ref 0, .int a1, xmk]) (st1 := [.int (-2)]) (h1 := xhN) rfl ?_
  exact ev_ret rfl rfl
set_option maxRecDepth 20000 in
theorem pm_go_1 {L : Nat} {xs : Nat → Int32} {a1 : Int32} (h1 : 64 < a1.toInt) : xEv L xs 19 223 0 [.ref 86, .int a1, xmk] [] xhN (some (.int (-2))) xhN := by
  refine ev_go 3 (pc1 := 4) (lv1 := [.ref 86, .int a1, xmk]) (st1 := [.int 64, .int 0, .int a1]) (h1 := xhN) rfl ?_
  refine ev_call (v1 := (some (.int 0))) (h1 := xhN) rfl rfl ?_ ?_
  · refine ev_go 2 (pc1 := 2) (lv1 := [.int a1, .int 0, .int 64]) (st1 := [.int 0, .int a1]) (h1 := xhN) rfl ?_
    refine ev_br (b1 := false) rfl rfl (xcd_nlt (x := a1) (y := 0) (by rw [show ((0 : Int32)).toInt = 0 from by decide]; omega)) ?_
    refine ev_go 2 (pc1 := 7) (lv1 := [.int a1, .int 0, .int 64]) (st1 := [.int 64, .int a1]) (h1 := xhN) rfl ?_
    refine ev_br (b1 := true) rfl rfl (xcd_gt (x := a1) (y := 64) (by rw [show ((64 : Int32)).toInt = 64 from by decide]; omega)) ?_
    refine ev_go 1 (pc1 := 15) (lv1 := [.int a1, .int 0, .int 64]) (st1 := [.int 0]) (h1 := xhN) rfl ?_
    exact ev_ret rfl rfl
  refine ev_go 2 (pc1 := 12) (lv1 := [.ref 86, .int a1, xmk]) (st1 := [.int (-2)]) (h1 := xhN) rfl ?_
  exact ev_ret rfl rfl
set_option maxRecDepth 20000 in
theorem px_go_2 {L : Nat} {xs : Nat → Int32} {a1 : Int32} (h1 : 0 ≤ a1.toInt) (h2 : a1.toInt ≤ 64) : xEv L xs 19 122 0 [.ref 0, .int a1, xmk] [] xhN (some (.int (-4))) xhN := by
  refine ev_go 1 (pc1 := 1) (lv1 := [.ref 0, .int a1, xmk]) (st1 := [.int a1]) (h1 := xhN) rfl ?_
  refine ev_br (b1 := false) rfl rfl (xcd_nlt (x := a1) (y := 0) (by rw [show ((0 : Int32)).toInt = 0 from by decide]; omega)) ?_
  refine ev_go 2 (pc1 := 7) (lv1 := [.ref 0, .int a1, xmk]) (st1 := [.int 64, .int a1]) (h1 := xhN) rfl ?_
  refine ev_br (b1 := true) rfl rfl (xcd_le (x := a1) (y := 64) (by rw [show ((64 : Int32)).toInt = 64 from by decide]; omega)) ?_
  refine ev_go 6 (pc1 := 28) (lv1 := [.ref 0, .int a1, xmk]) (st1 := [.int (-4)]) (h1 := xhN) rfl ?_
  exact ev_ret rfl rfl
set_option maxRecDepth 20000 in
theorem pm_go_2 {L : Nat} {xs : Nat → Int32} {a1 : Int32} (h1 : 0 ≤ a1.toInt) (h2 : a1.toInt ≤ 64) : xEv L xs 19 223 0 [.ref 86, .int a1, xmk] [] xhN (some (.int (-4))) xhN := by
  refine ev_go 3 (pc1 := 4) (lv1 := [.ref 86, .int a1, xmk]) (st1 := [.int 64, .int 0, .int a1]) (h1 := xhN) rfl ?_
  refine ev_call (v1 := (some (.int 1))) (h1 := xhN) rfl rfl ?_ ?_
  · refine ev_go 2 (pc1 := 2) (lv1 := [.int a1, .int 0, .int 64]) (st1 := [.int 0, .int a1]) (h1 := xhN) rfl ?_
    refine ev_br (b1 := false) rfl rfl (xcd_nlt (x := a1) (y := 0) (by rw [show ((0 : Int32)).toInt = 0 from by decide]; omega)) ?_
    refine ev_go 2 (pc1 := 7) (lv1 := [.int a1, .int 0, .int 64]) (st1 := [.int 64, .int a1]) (h1 := xhN) rfl ?_
    refine ev_br (b1 := false) rfl rfl (xcd_ngt (x := a1) (y := 64) (by rw [show ((64 : Int32)).toInt = 64 from by decide]; omega)) ?_
    refine ev_go 2 (pc1 := 15) (lv1 := [.int a1, .int 0, .int 64]) (st1 := [.int 1]) (h1 := xhN) rfl ?_
    exact ev_ret rfl rfl
  refine ev_go 7 (pc1 := 24) (lv1 := [.ref 86, .int a1, xmk]) (st1 := [.int (-4)]) (h1 := xhN) rfl ?_
  exact ev_ret rfl rfl
set_option maxRecDepth 20000 in
theorem px_now_0 {L : Nat} {xs : Nat → Int32} {a1 a2 : Int32} (h1 : a1.toInt < 0) : xEv L xs 19 133 0 [.ref 0, .int a1, .int a2] [] xhN (some (.int (-2))) xhN := by
  refine ev_go 3 (pc1 := 5) (lv1 := [.ref 0, .int a1, .int a2]) (st1 := [.int a1, .ref 3]) (h1 := xhN) rfl ?_
  refine ev_call (v1 := (some (.int 0))) (h1 := xhN) rfl rfl ?_ ?_
  · refine ev_go 1 (pc1 := 1) (lv1 := [.ref 3, .int a1]) (st1 := [.int a1]) (h1 := xhN) rfl ?_
    refine ev_br (b1 := true) rfl rfl (xcd_lt (x := a1) (y := 0) (by rw [show ((0 : Int32)).toInt = 0 from by decide]; omega)) ?_
    refine ev_go 1 (pc1 := 17) (lv1 := [.ref 3, .int a1]) (st1 := [.int 0]) (h1 := xhN) rfl ?_
    exact ev_ret rfl rfl
  refine ev_go 2 (pc1 := 22) (lv1 := [.ref 0, .int a1, .int a2]) (st1 := [.int (-2)]) (h1 := xhN) rfl ?_
  exact ev_ret rfl rfl
set_option maxRecDepth 20000 in
theorem pm_now_0 {L : Nat} {xs : Nat → Int32} {a1 a2 : Int32} (h1 : a1.toInt < 0) : xEv L xs 19 231 0 [.ref 86, .int a1, .int a2] [] xhN (some (.int (-2))) xhN := by
  refine ev_go 2 (pc1 := 2) (lv1 := [.ref 86, .int a1, .int a2]) (st1 := [.int a1, .ref 86]) (h1 := xhN) rfl ?_
  refine ev_call (v1 := (some (.int 0))) (h1 := xhN) rfl rfl ?_ ?_
  · refine ev_go 8 (pc1 := 10) (lv1 := [.ref 86, .int a1]) (st1 := [.int (-1), .int 0, .int a1]) (h1 := xhN) rfl ?_
    refine ev_call (v1 := (some (.int 0))) (h1 := xhN) rfl rfl ?_ ?_
    · refine ev_go 2 (pc1 := 2) (lv1 := [.int a1, .int 0, .int (-1)]) (st1 := [.int 0, .int a1]) (h1 := xhN) rfl ?_
      refine ev_br (b1 := true) rfl rfl (xcd_lt (x := a1) (y := 0) (by rw [show ((0 : Int32)).toInt = 0 from by decide]; omega)) ?_
      refine ev_go 1 (pc1 := 15) (lv1 := [.int a1, .int 0, .int (-1)]) (st1 := [.int 0]) (h1 := xhN) rfl ?_
      exact ev_ret rfl rfl
    exact ev_ret rfl rfl
  refine ev_go 2 (pc1 := 19) (lv1 := [.ref 86, .int a1, .int a2]) (st1 := [.int (-2)]) (h1 := xhN) rfl ?_
  exact ev_ret rfl rfl
set_option maxRecDepth 20000 in
theorem px_now_1 {L : Nat} {xs : Nat → Int32} {a1 a2 : Int32} (h1 : 0 ≤ a1.toInt) : xEv L xs 19 133 0 [.ref 0, .int a1, .int a2] [] xhN (some (.int (-2))) xhN := by
  refine ev_go 3 (pc1 := 5) (lv1 := [.ref 0, .int a1, .int a2]) (st1 := [.int a1, .ref 3]) (h1 := xhN) rfl ?_
  refine ev_call (v1 := (some (.int 0))) (h1 := xhN) rfl rfl ?_ ?_
  · refine ev_go 1 (pc1 := 1) (lv1 := [.ref 3, .int a1]) (st1 := [.int a1]) (h1 := xhN) rfl ?_
    refine ev_br (b1 := false) rfl rfl (xcd_nlt (x := a1) (y := 0) (by rw [show ((0 : Int32)).toInt = 0 from by decide]; omega)) ?_
    refine ev_go 3 (pc1 := 9) (lv1 := [.ref 3, .int a1]) (st1 := [.int 0, .int a1]) (h1 := xhN) rfl ?_
    refine ev_br (b1 := true) rfl rfl (xcd_ge (x := a1) (y := 0) (by rw [show ((0 : Int32)).toInt = 0 from by decide]; omega)) ?_
    refine ev_go 1 (pc1 := 17) (lv1 := [.ref 3, .int a1]) (st1 := [.int 0]) (h1 := xhN) rfl ?_
    exact ev_ret rfl rfl
  refine ev_go 2 (pc1 := 22) (lv1 := [.ref 0, .int a1, .int a2]) (st1 := [.int (-2)]) (h1 := xhN) rfl ?_
  exact ev_ret rfl rfl
set_option maxRecDepth 20000 in
theorem pm_now_1 {L : Nat} {xs : Nat → Int32} {a1 a2 : Int32} (h1 : 0 ≤ a1.toInt) : xEv L xs 19 231 0 [.ref 86, .int a1, .int a2] [] xhN (some (.int (-2))) xhN := by
  refine ev_go 2 (pc1 := 2) (lv1 := [.ref 86, .int a1, .int a2]) (st1 := [.int a1, .ref 86]) (h1 := xhN) rfl ?_
  refine ev_call (v1 := (some (.int 0))) (h1 := xhN) rfl rfl ?_ ?_
  · refine ev_go 8 (pc1 := 10) (lv1 := [.ref 86, .int a1]) (st1 := [.int (-1), .int 0, .int a1]) (h1 := xhN) rfl ?_
    refine ev_call (v1 := (some (.int 0))) (h1 := xhN) rfl rfl ?_ ?_
    · refine ev_go 2 (pc1 := 2) (lv1 := [.int a1, .int 0, .int (-1)]) (st1 := [.int 0, .int a1]) (h1 := xhN) rfl ?_
      refine ev_br (b1 := false) rfl rfl (xcd_nlt (x := a1) (y := 0) (by rw [show ((0 : Int32)).toInt = 0 from by decide]; omega)) ?_
      refine ev_go 2 (pc1 := 7) (lv1 := [.int a1, .int 0, .int (-1)]) (st1 := [.int (-1), .int a1]) (h1 := xhN) rfl ?_
      refine ev_br (b1 := true) rfl rfl (xcd_gt (x := a1) (y := (-1)) (by rw [show ((-1 : Int32)).toInt = -1 from by decide]; omega)) ?_
      refine ev_go 1 (pc1 := 15) (lv1 := [.int a1, .int 0, .int (-1)]) (st1 := [.int 0]) (h1 := xhN) rfl ?_
      exact ev_ret rfl rfl
    exact ev_ret rfl rfl
  refine ev_go 2 (pc1 := 19) (lv1 := [.ref 86, .int a1, .int a2]) (st1 := [.int (-2)]) (h1 := xhN) rfl ?_
  exact ev_ret rfl rfl
set_option maxRecDepth 20000 in
theorem px_head_0 {L : Nat} {xs : Nat → Int32} {a1 a2 : Int32} (h1 : a1.toInt < 0) : xEv L xs 19 134 0 [.ref 0, .int a1, .int a2] [] xhN (some (.int (-2))) xhN := by
  refine ev_go 3 (pc1 := 5) (lv1 := [.ref 0, .int a1, .int a2]) (st1 := [.int a1, .ref 3]) (h1 := xhN) rfl ?_
  refine ev_call (v1 := (some (.int 0))) (h1 := xhN) rfl rfl ?_ ?_
  · refine ev_go 1 (pc1 := 1) (lv1 := [.ref 3, .int a1]) (st1 := [.int a1]) (h1 := xhN) rfl ?_
    refine ev_br (b1 := true) rfl rfl (xcd_lt (x := a1) (y := 0) (by rw [show ((0 : Int32)).toInt = 0 from by decide]; omega)) ?_
    refine ev_go 1 (pc1 := 17) (lv1 := [.ref 3, .int a1]) (st1 := [.int 0]) (h1 := xhN) rfl ?_
    exact ev_ret rfl rfl
  refine ev_go 2 (pc1 := 22) (lv1 := [.ref 0, .int a1, .int a2]) (st1 := [.int (-2)]) (h1 := xhN) rfl ?_
  exact ev_ret rfl rfl
set_option maxRecDepth 20000 in
theorem pm_head_0 {L : Nat} {xs : Nat → Int32} {a1 a2 : Int32} (h1 : a1.toInt < 0) : xEv L xs 19 232 0 [.ref 86, .int a1, .int a2] [] xhN (some (.int (-2))) xhN := by
  refine ev_go 2 (pc1 := 2) (lv1 := [.ref 86, .int a1, .int a2]) (st1 := [.int a1, .ref 86]) (h1 := xhN) rfl ?_
  refine ev_call (v1 := (some (.int 0))) (h1 := xhN) rfl rfl ?_ ?_
  · refine ev_go 8 (pc1 := 10) (lv1 := [.ref 86, .int a1]) (st1 := [.int (-1), .int 0, .int a1]) (h1 := xhN) rfl ?_
    refine ev_call (v1 := (some (.int 0))) (h1 := xhN) rfl rfl ?_ ?_
    · refine ev_go 2 (pc1 := 2) (lv1 := [.int a1, .int 0, .int (-1)]) (st1 := [.int 0, .int a1]) (h1 := xhN) rfl ?_
      refine ev_br (b1 := true) rfl rfl (xcd_lt (x := a1) (y := 0) (by rw [show ((0 : Int32)).toInt = 0 from by decide]; omega)) ?_
      refine ev_go 1 (pc1 := 15) (lv1 := [.int a1, .int 0, .int (-1)]) (st1 := [.int 0]) (h1 := xhN) rfl ?_
      exact ev_ret rfl rfl
    exact ev_ret rfl rfl
  refine ev_go 2 (pc1 := 19) (lv1 := [.ref 86, .int a1, .int a2]) (st1 := [.int (-2)]) (h1 := xhN) rfl ?_
  exact ev_ret rfl rfl
set_option maxRecDepth 20000 in
theorem px_head_1 {L : Nat} {xs : Nat → Int32} {a1 a2 : Int32} (h1 : 0 ≤ a1.toInt) : xEv L xs 19 134 0 [.ref 0, .int a1, .int a2] [] xhN (some (.int (-2))) xhN := by
  refine ev_go 3 (pc1 := 5) (lv1 := [.ref 0, .int a1, .int a2]) (st1 := [.int a1, .ref 3]) (h1 := xhN) rfl ?_
  refine ev_call (v1 := (some (.int 0))) (h1 := xhN) rfl rfl ?_ ?_
  · refine ev_go 1 (pc1 := 1) (lv1 := [.ref 3, .int a1]) (st1 := [.int a1]) (h1 := xhN) rfl ?_
    refine ev_br (b1 := false) rfl rfl (xcd_nlt (x := a1) (y := 0) (by rw [show ((0 : Int32)).toInt = 0 from by decide]; omega)) ?_
    refine ev_go 3 (pc1 := 9) (lv1 := [.ref 3, .int a1]) (st1 := [.int 0, .int a1]) (h1 := xhN) rfl ?_
    refine ev_br (b1 := true) rfl rfl (xcd_ge (x := a1) (y := 0) (by rw [show ((0 : Int32)).toInt = 0 from by decide]; omega)) ?_
    refine ev_go 1 (pc1 := 17) (lv1 := [.ref 3, .int a1]) (st1 := [.int 0]) (h1 := xhN) rfl ?_
    exact ev_ret rfl rfl
  refine ev_go 2 (pc1 := 22) (lv1 := [.ref 0, .int a1, .int a2]) (st1 := [.int (-2)]) (h1 := xhN) rfl ?_
  exact ev_ret rfl rfl
set_option maxRecDepth 20000 in
theorem pm_head_1 {L : Nat} {xs : Nat → Int32} {a1 a2 : Int32} (h1 : 0 ≤ a1.toInt) : xEv L xs 19 232 0 [.ref 86, .int a1, .int a2] [] xhN (some (.int (-2))) xhN := by
  refine ev_go 2 (pc1 := 2) (lv1 := [.ref 86, .int a1, .int a2]) (st1 := [.int a1, .ref 86]) (h1 := xhN) rfl ?_
  refine ev_call (v1 := (some (.int 0))) (h1 := xhN) rfl rfl ?_ ?_
  · refine ev_go 8 (pc1 := 10) (lv1 := [.ref 86, .int a1]) (st1 := [.int (-1), .int 0, .int a1]) (h1 := xhN) rfl ?_
    refine ev_call (v1 := (some (.int 0))) (h1 := xhN) rfl rfl ?_ ?_
    · refine ev_go 2 (pc1 := 2) (lv1 := [.int a1, .int 0, .int (-1)]) (st1 := [.int 0, .int a1]) (h1 := xhN) rfl ?_
      refine ev_br (b1 := false) rfl rfl (xcd_nlt (x := a1) (y := 0) (by rw [show ((0 : Int32)).toInt = 0 from by decide]; omega)) ?_
      refine ev_go 2 (pc1 := 7) (lv1 := [.int a1, .int 0, .int (-1)]) (st1 := [.int (-1), .int a1]) (h1 := xhN) rfl ?_
      refine ev_br (b1 := true) rfl rfl (xcd_gt (x := a1) (y := (-1)) (by rw [show ((-1 : Int32)).toInt = -1 from by decide]; omega)) ?_
      refine ev_go 1 (pc1 := 15) (lv1 := [.int a1, .int 0, .int (-1)]) (st1 := [.int 0]) (h1 := xhN) rfl ?_
      exact ev_ret rfl rfl
    exact ev_ret rfl rfl
  refine ev_go 2 (pc1 := 19) (lv1 := [.ref 86, .int a1, .int a2]) (st1 := [.int (-2)]) (h1 := xhN) rfl ?_
  exact ev_ret rfl rfl
set_option maxRecDepth 20000 in
theorem px_keep_0 {L : Nat} {xs : Nat → Int32} {a1 : Int32} (h1 : a1.toInt < 0) : xEv L xs 19 135 0 [.ref 0, .int a1, xmk] [] xhN (some (.int (-2))) xhN := by
  refine ev_go 1 (pc1 := 1) (lv1 := [.ref 0, .int a1, xmk]) (st1 := [.int a1]) (h1 := xhN) rfl ?_
  refine ev_br (b1 := true) rfl rfl (xcd_lt (x := a1) (y := 0) (by rw [show ((0 : Int32)).toInt = 0 from by decide]; omega)) ?_
  refine ev_go 1 (pc1 := 11) (lv1 := [.ref 0, .int a1, xmk]) (st1 := [.int (-2)]) (h1 := xhN) rfl ?_
  exact ev_ret rfl rfl
set_option maxRecDepth 20000 in
theorem pm_keep_0 {L : Nat} {xs : Nat → Int32} {a1 : Int32} (h1 : a1.toInt < 0) : xEv L xs 19 233 0 [.ref 86, .int a1, xmk] [] xhN (some (.int (-2))) xhN := by
  refine ev_go 1 (pc1 := 1) (lv1 := [.ref 86, .int a1, xmk]) (st1 := [.int a1]) (h1 := xhN) rfl ?_
  refine ev_call (v1 := (some (.int 0))) (h1 := xhN) rfl rfl ?_ ?_
  · refine ev_go 3 (pc1 := 3) (lv1 := [.int a1]) (st1 := [.int 2, .int 0, .int a1]) (h1 := xhN) rfl ?_
    refine ev_call (v1 := (some (.int 0))) (h1 := xhN) rfl rfl ?_ ?_
    · refine ev_go 2 (pc1 := 2) (lv1 := [.int a1, .int 0, .int 2]) (st1 := [.int 0, .int a1]) (h1 := xhN) rfl ?_
      refine ev_br (b1 := true) rfl rfl (xcd_lt (x := a1) (y := 0) (by rw [show ((0 : Int32)).toInt = 0 from by decide]; omega)) ?_
      refine ev_go 1 (pc1 := 15) (lv1 := [.int a1, .int 0, .int 2]) (st1 := [.int 0]) (h1 := xhN) rfl ?_
      exact ev_ret rfl rfl
    exact ev_ret rfl rfl
  refine ev_go 2 (pc1 := 9) (lv1 := [.ref 86, .int a1, xmk]) (st1 := [.int (-2)]) (h1 := xhN) rfl ?_
  exact ev_ret rfl rfl
set_option maxRecDepth 20000 in
theorem px_keep_1 {L : Nat} {xs : Nat → Int32} {a1 : Int32} (h1 : 2 < a1.toInt) : xEv L xs 19 135 0 [.ref 0, .int a1, xmk] [] xhN (some (.int (-2))) xhN := by
  refine ev_go 1 (pc1 := 1) (lv1 := [.ref 0, .int a1, xmk]) (st1 := [.int a1]) (h1 := xhN) rfl ?_
  refine ev_br (b1 := false) rfl rfl (xcd_nlt (x := a1) (y := 0) (by rw [show ((0 : Int32)).toInt = 0 from by decide]; omega)) ?_
  refine ev_go 2 (pc1 := 6) (lv1 := [.ref 0, .int a1, xmk]) (st1 := [.int 3, .int a1]) (h1 := xhN) rfl ?_
  refine ev_br (b1 := false) rfl rfl (xcd_nlt (x := a1) (y := 3) (by rw [show ((3 : Int32)).toInt = 3 from by decide]; omega)) ?_
  refine ev_go 1 (pc1 := 11) (lv1 := [.ref 0, .int a1, xmk]) (st1 := [.int (-2)]) (h1 := xhN) rfl ?_
  exact ev_ret rfl rfl
set_option maxRecDepth 20000 in
theorem pm_keep_1 {L : Nat} {xs : Nat → Int32} {a1 : Int32} (h1 : 2 < a1.toInt) : xEv L xs 19 233 0 [.ref 86, .int a1, xmk] [] xhN (some (.int (-2))) xhN := by
  refine ev_go 1 (pc1 := 1) (lv1 := [.ref 86, .int a1, xmk]) (st1 := [.int a1]) (h1 := xhN) rfl ?_
  refine ev_call (v1 := (some (.int 0))) (h1 := xhN) rfl rfl ?_ ?_
  · refine ev_go 3 (pc1 := 3) (lv1 := [.int a1]) (st1 := [.int 2, .int 0, .int a1]) (h1 := xhN) rfl ?_
    refine ev_call (v1 := (some (.int 0))) (h1 := xhN) rfl rfl ?_ ?_
    · refine ev_go 2 (pc1 := 2) (lv1 := [.int a1, .int 0, .int 2]) (st1 := [.int 0, .int a1]) (h1 := xhN) rfl ?_
      refine ev_br (b1 := false) rfl rfl (xcd_nlt (x := a1) (y := 0) (by rw [show ((0 : Int32)).toInt = 0 from by decide]; omega)) ?_
      refine ev_go 2 (pc1 := 7) (lv1 := [.int a1, .int 0, .int 2]) (st1 := [.int 2, .int a1]) (h1 := xhN) rfl ?_
      refine ev_br (b1 := true) rfl rfl (xcd_gt (x := a1) (y := 2) (by rw [show ((2 : Int32)).toInt = 2 from by decide]; omega)) ?_
      refine ev_go 1 (pc1 := 15) (lv1 := [.int a1, .int 0, .int 2]) (st1 := [.int 0]) (h1 := xhN) rfl ?_
      exact ev_ret rfl rfl
    exact ev_ret rfl rfl
  refine ev_go 2 (pc1 := 9) (lv1 := [.ref 86, .int a1, xmk]) (st1 := [.int (-2)]) (h1 := xhN) rfl ?_
  exact ev_ret rfl rfl
set_option maxRecDepth 20000 in
theorem px_keep_2 {L : Nat} {xs : Nat → Int32} {a1 : Int32} (h1 : 0 ≤ a1.toInt) (h2 : a1.toInt ≤ 2) : xEv L xs 19 135 0 [.ref 0, .int a1, xmk] [] xhN (some (.int (-4))) xhN := by
  refine ev_go 1 (pc1 := 1) (lv1 := [.ref 0, .int a1, xmk]) (st1 := [.int a1]) (h1 := xhN) rfl ?_
  refine ev_br (b1 := false) rfl rfl (xcd_nlt (x := a1) (y := 0) (by rw [show ((0 : Int32)).toInt = 0 from by decide]; omega)) ?_
  refine ev_go 2 (pc1 := 6) (lv1 := [.ref 0, .int a1, xmk]) (st1 := [.int 3, .int a1]) (h1 := xhN) rfl ?_
  refine ev_br (b1 := true) rfl rfl (xcd_lt (x := a1) (y := 3) (by rw [show ((3 : Int32)).toInt = 3 from by decide]; omega)) ?_
  refine ev_go 6 (pc1 := 27) (lv1 := [.ref 0, .int a1, xmk]) (st1 := [.int (-4)]) (h1 := xhN) rfl ?_
  exact ev_ret rfl rfl
set_option maxRecDepth 20000 in
theorem pm_keep_2 {L : Nat} {xs : Nat → Int32} {a1 : Int32} (h1 : 0 ≤ a1.toInt) (h2 : a1.toInt ≤ 2) : xEv L xs 19 233 0 [.ref 86, .int a1, xmk] [] xhN (some (.int (-4))) xhN := by
  refine ev_go 1 (pc1 := 1) (lv1 := [.ref 86, .int a1, xmk]) (st1 := [.int a1]) (h1 := xhN) rfl ?_
  refine ev_call (v1 := (some (.int 1))) (h1 := xhN) rfl rfl ?_ ?_
  · refine ev_go 3 (pc1 := 3) (lv1 := [.int a1]) (st1 := [.int 2, .int 0, .int a1]) (h1 := xhN) rfl ?_
    refine ev_call (v1 := (some (.int 1))) (h1 := xhN) rfl rfl ?_ ?_
    · refine ev_go 2 (pc1 := 2) (lv1 := [.int a1, .int 0, .int 2]) (st1 := [.int 0, .int a1]) (h1 := xhN) rfl ?_
      refine ev_br (b1 := false) rfl rfl (xcd_nlt (x := a1) (y := 0) (by rw [show ((0 : Int32)).toInt = 0 from by decide]; omega)) ?_
      refine ev_go 2 (pc1 := 7) (lv1 := [.int a1, .int 0, .int 2]) (st1 := [.int 2, .int a1]) (h1 := xhN) rfl ?_
      refine ev_br (b1 := false) rfl rfl (xcd_ngt (x := a1) (y := 2) (by rw [show ((2 : Int32)).toInt = 2 from by decide]; omega)) ?_
      refine ev_go 2 (pc1 := 15) (lv1 := [.int a1, .int 0, .int 2]) (st1 := [.int 1]) (h1 := xhN) rfl ?_
      exact ev_ret rfl rfl
    exact ev_ret rfl rfl
  refine ev_go 7 (pc1 := 21) (lv1 := [.ref 86, .int a1, xmk]) (st1 := [.int (-4)]) (h1 := xhN) rfl ?_
  exact ev_ret rfl rfl
set_option maxRecDepth 20000 in
theorem px_take_0 {L : Nat} {xs : Nat → Int32} {a1 : Int32} (h1 : a1.toInt < 0) : xEv L xs 19 138 0 [.ref 0, .int a1, xmk] [] xhN (some (.int (-2))) xhN := by
  refine ev_go 1 (pc1 := 1) (lv1 := [.ref 0, .int a1, xmk]) (st1 := [.int a1]) (h1 := xhN) rfl ?_
  refine ev_br (b1 := true) rfl rfl (xcd_lt (x := a1) (y := 0) (by rw [show ((0 : Int32)).toInt = 0 from by decide]; omega)) ?_
  refine ev_go 1 (pc1 := 11) (lv1 := [.ref 0, .int a1, xmk]) (st1 := [.int (-2)]) (h1 := xhN) rfl ?_
  exact ev_ret rfl rfl
set_option maxRecDepth 20000 in
theorem pm_take_0 {L : Nat} {xs : Nat → Int32} {a1 : Int32} (h1 : a1.toInt < 0) : xEv L xs 19 235 0 [.ref 86, .int a1, xmk] [] xhN (some (.int (-2))) xhN := by
  refine ev_go 1 (pc1 := 1) (lv1 := [.ref 86, .int a1, xmk]) (st1 := [.int a1]) (h1 := xhN) rfl ?_
  refine ev_call (v1 := (some (.int 0))) (h1 := xhN) rfl rfl ?_ ?_
  · refine ev_go 3 (pc1 := 3) (lv1 := [.int a1]) (st1 := [.int 2, .int 0, .int a1]) (h1 := xhN) rfl ?_
    refine ev_call (v1 := (some (.int 0))) (h1 := xhN) rfl rfl ?_ ?_
    · refine ev_go 2 (pc1 := 2) (lv1 := [.int a1, .int 0, .int 2]) (st1 := [.int 0, .int a1]) (h1 := xhN) rfl ?_
      refine ev_br (b1 := true) rfl rfl (xcd_lt (x := a1) (y := 0) (by rw [show ((0 : Int32)).toInt = 0 from by decide]; omega)) ?_
      refine ev_go 1 (pc1 := 15) (lv1 := [.int a1, .int 0, .int 2]) (st1 := [.int 0]) (h1 := xhN) rfl ?_
      exact ev_ret rfl rfl
    exact ev_ret rfl rfl
  refine ev_go 2 (pc1 := 9) (lv1 := [.ref 86, .int a1, xmk]) (st1 := [.int (-2)]) (h1 := xhN) rfl ?_
  exact ev_ret rfl rfl
set_option maxRecDepth 20000 in
theorem px_take_1 {L : Nat} {xs : Nat → Int32} {a1 : Int32} (h1 : 2 < a1.toInt) : xEv L xs 19 138 0 [.ref 0, .int a1, xmk] [] xhN (some (.int (-2))) xhN := by
  refine ev_go 1 (pc1 := 1) (lv1 := [.ref 0, .int a1, xmk]) (st1 := [.int a1]) (h1 := xhN) rfl ?_
  refine ev_br (b1 := false) rfl rfl (xcd_nlt (x := a1) (y := 0) (by rw [show ((0 : Int32)).toInt = 0 from by decide]; omega)) ?_
  refine ev_go 2 (pc1 := 6) (lv1 := [.ref 0, .int a1, xmk]) (st1 := [.int 3, .int a1]) (h1 := xhN) rfl ?_
  refine ev_br (b1 := false) rfl rfl (xcd_nlt (x := a1) (y := 3) (by rw [show ((3 : Int32)).toInt = 3 from by decide]; omega)) ?_
  refine ev_go 1 (pc1 := 11) (lv1 := [.ref 0, .int a1, xmk]) (st1 := [.int (-2)]) (h1 := xhN) rfl ?_
  exact ev_ret rfl rfl
set_option maxRecDepth 20000 in
theorem pm_take_1 {L : Nat} {xs : Nat → Int32} {a1 : Int32} (h1 : 2 < a1.toInt) : xEv L xs 19 235 0 [.ref 86, .int a1, xmk] [] xhN (some (.int (-2))) xhN := by
  refine ev_go 1 (pc1 := 1) (lv1 := [.ref 86, .int a1, xmk]) (st1 := [.int a1]) (h1 := xhN) rfl ?_
  refine ev_call (v1 := (some (.int 0))) (h1 := xhN) rfl rfl ?_ ?_
  · refine ev_go 3 (pc1 := 3) (lv1 := [.int a1]) (st1 := [.int 2, .int 0, .int a1]) (h1 := xhN) rfl ?_
    refine ev_call (v1 := (some (.int 0))) (h1 := xhN) rfl rfl ?_ ?_
    · refine ev_go 2 (pc1 := 2) (lv1 := [.int a1, .int 0, .int 2]) (st1 := [.int 0, .int a1]) (h1 := xhN) rfl ?_
      refine ev_br (b1 := false) rfl rfl (xcd_nlt (x := a1) (y := 0) (by rw [show ((0 : Int32)).toInt = 0 from by decide]; omega)) ?_
      refine ev_go 2 (pc1 := 7) (lv1 := [.int a1, .int 0, .int 2]) (st1 := [.int 2, .int a1]) (h1 := xhN) rfl ?_
      refine ev_br (b1 := true) rfl rfl (xcd_gt (x := a1) (y := 2) (by rw [show ((2 : Int32)).toInt = 2 from by decide]; omega)) ?_
      refine ev_go 1 (pc1 := 15) (lv1 := [.int a1, .int 0, .int 2]) (st1 := [.int 0]) (h1 := xhN) rfl ?_
      exact ev_ret rfl rfl
    exact ev_ret rfl rfl
  refine ev_go 2 (pc1 := 9) (lv1 := [.ref 86, .int a1, xmk]) (st1 := [.int (-2)]) (h1 := xhN) rfl ?_
  exact ev_ret rfl rfl
set_option maxRecDepth 20000 in
theorem px_count_0 {L : Nat} {xs : Nat → Int32} {a1 : Int32} (h1 : a1.toInt ≠ 0) (h2 : a1.toInt ≠ 1) : xEv L xs 19 139 0 [.ref 0, .int a1] [] xhN (some (.int (-1))) xhN := by
  refine ev_go 1 (pc1 := 1) (lv1 := [.ref 0, .int a1]) (st1 := [.int a1]) (h1 := xhN) rfl ?_
  refine ev_lkp (x := a1) (t := 44) rfl rfl (by intro p hp; simp at hp; rcases hp with rfl | rfl <;> omega) rfl ?_
  refine ev_go 1 (pc1 := 45) (lv1 := [.ref 0, .int a1]) (st1 := [.int (-1)]) (h1 := xhN) rfl ?_
  exact ev_ret rfl rfl
set_option maxRecDepth 20000 in
theorem pm_count_0 {L : Nat} {xs : Nat → Int32} {a1 : Int32} (h1 : a1.toInt ≠ 0) (h2 : a1.toInt ≠ 1) : xEv L xs 19 236 0 [.ref 86, .int a1] [] xhN (some (.int (-1))) xhN := by
  refine ev_go 1 (pc1 := 1) (lv1 := [.ref 86, .int a1]) (st1 := [.int a1]) (h1 := xhN) rfl ?_
  refine ev_br (b1 := true) rfl rfl (xcd_ne (x := a1) (y := 0) (by rw [show ((0 : Int32)).toInt = 0 from by decide]; omega)) ?_
  refine ev_go 2 (pc1 := 13) (lv1 := [.ref 86, .int a1]) (st1 := [.int 1, .int a1]) (h1 := xhN) rfl ?_
  refine ev_br (b1 := true) rfl rfl (xcd_ne (x := a1) (y := 1) (by rw [show ((1 : Int32)).toInt = 1 from by decide]; omega)) ?_
  refine ev_go 1 (pc1 := 24) (lv1 := [.ref 86, .int a1]) (st1 := [.int (-1)]) (h1 := xhN) rfl ?_
  exact ev_ret rfl rfl
set_option maxRecDepth 20000 in
theorem px_all_0 {L : Nat} {xs : Nat → Int32} {a1 : Int32} (h1 : a1.toInt ≠ 0) (h2 : a1.toInt ≠ 1) : xEv L xs 19 83 0 [.ref 0, .int a1] [] xhN (some (.int (-2))) xhN := by
  refine ev_go 1 (pc1 := 1) (lv1 := [.ref 0, .int a1]) (st1 := [.int a1]) (h1 := xhN) rfl ?_
  refine ev_lkp (x := a1) (t := 52) rfl rfl (by intro p hp; simp at hp; rcases hp with rfl | rfl <;> omega) rfl ?_
  refine ev_go 1 (pc1 := 54) (lv1 := [.ref 0, .int a1]) (st1 := [.int (-2)]) (h1 := xhN) rfl ?_
  exact ev_ret rfl rfl
set_option maxRecDepth 20000 in
theorem pm_all_0 {L : Nat} {xs : Nat → Int32} {a1 : Int32} (h1 : a1.toInt ≠ 0) (h2 : a1.toInt ≠ 1) : xEv L xs 19 198 0 [.ref 86, .int a1] [] xhN (some (.int (-2))) xhN := by
  refine ev_go 1 (pc1 := 1) (lv1 := [.ref 86, .int a1]) (st1 := [.int a1]) (h1 := xhN) rfl ?_
  refine ev_br (b1 := true) rfl rfl (xcd_ne (x := a1) (y := 0) (by rw [show ((0 : Int32)).toInt = 0 from by decide]; omega)) ?_
  refine ev_go 2 (pc1 := 13) (lv1 := [.ref 86, .int a1]) (st1 := [.int 1, .int a1]) (h1 := xhN) rfl ?_
  refine ev_br (b1 := true) rfl rfl (xcd_ne (x := a1) (y := 1) (by rw [show ((1 : Int32)).toInt = 1 from by decide]; omega)) ?_
  refine ev_go 1 (pc1 := 25) (lv1 := [.ref 86, .int a1]) (st1 := [.int (-2)]) (h1 := xhN) rfl ?_
  exact ev_ret rfl rfl
set_option maxRecDepth 20000 in
theorem px_ask_0 {L : Nat} {xs : Nat → Int32} {a1 a2 a3 a4 a5 : Int32} (h1 : a1.toInt < 0) : xEv L xs 19 114 0 [.ref 0, .int a1, .int a2, .int a3, .int a4, .int a5, xmk, xmk] [] xhN (some (.int (-2))) xhN := by
  refine ev_go 6 (pc1 := 8) (lv1 := [.ref 0, .int a1, .int a2, .int a3, .int a4, .int a5, xmk, xmk]) (st1 := [.int a5, .int a4, .int a3, .int a2, .int a1, .ref 0]) (h1 := xhN) rfl ?_
  refine ev_call (v1 := (some (.int 0))) (h1 := xhN) rfl rfl ?_ ?_
  · refine ev_go 3 (pc1 := 5) (lv1 := [.ref 0, .int a1, .int a2, .int a3, .int a4, .int a5]) (st1 := [.int a1, .ref 3]) (h1 := xhN) rfl ?_
    refine ev_call (v1 := (some (.int 0))) (h1 := xhN) rfl rfl ?_ ?_
    · refine ev_go 1 (pc1 := 1) (lv1 := [.ref 3, .int a1]) (st1 := [.int a1]) (h1 := xhN) rfl ?_
      refine ev_br (b1 := true) rfl rfl (xcd_lt (x := a1) (y := 0) (by rw [show ((0 : Int32)).toInt = 0 from by decide]; omega)) ?_
      refine ev_go 1 (pc1 := 17) (lv1 := [.ref 3, .int a1]) (st1 := [.int 0]) (h1 := xhN) rfl ?_
      exact ev_ret rfl rfl
    refine ev_go 2 (pc1 := 60) (lv1 := [.ref 0, .int a1, .int a2, .int a3, .int a4, .int a5]) (st1 := [.int 0]) (h1 := xhN) rfl ?_
    exact ev_ret rfl rfl
  refine ev_go 2 (pc1 := 16) (lv1 := [.ref 0, .int a1, .int a2, .int a3, .int a4, .int a5, xmk, xmk]) (st1 := [.int (-2)]) (h1 := xhN) rfl ?_
  exact ev_ret rfl rfl
set_option maxRecDepth 20000 in
theorem pm_ask_0 {L : Nat} {xs : Nat → Int32} {a1 a2 a3 a4 a5 : Int32} (h1 : a1.toInt < 0) : xEv L xs 19 218 0 [.ref 86, .int a1, .int a2, .int a3, .int a4, .int a5, xmk, xmk] [] xhN (some (.int (-2))) xhN := by
  refine ev_go 6 (pc1 := 8) (lv1 := [.ref 86, .int a1, .int a2, .int a3, .int a4, .int a5, xmk, xmk]) (st1 := [.int a5, .int a4, .int a3, .int a2, .int a1, .ref 86]) (h1 := xhN) rfl ?_
  refine ev_call (v1 := (some (.int 0))) (h1 := xhN) rfl rfl ?_ ?_
  · refine ev_go 2 (pc1 := 2) (lv1 := [.ref 86, .int a1, .int a2, .int a3, .int a4, .int a5]) (st1 := [.int a1, .ref 86]) (h1 := xhN) rfl ?_
    refine ev_call (v1 := (some (.int 0))) (h1 := xhN) rfl rfl ?_ ?_
    · refine ev_go 8 (pc1 := 10) (lv1 := [.ref 86, .int a1]) (st1 := [.int (-1), .int 0, .int a1]) (h1 := xhN) rfl ?_
      refine ev_call (v1 := (some (.int 0))) (h1 := xhN) rfl rfl ?_ ?_
      · refine ev_go 2 (pc1 := 2) (lv1 := [.int a1, .int 0, .int (-1)]) (st1 := [.int 0, .int a1]) (h1 := xhN) rfl ?_
        refine ev_br (b1 := true) rfl rfl (xcd_lt (x := a1) (y := 0) (by rw [show ((0 : Int32)).toInt = 0 from by decide]; omega)) ?_
        refine ev_go 1 (pc1 := 15) (lv1 := [.int a1, .int 0, .int (-1)]) (st1 := [.int 0]) (h1 := xhN) rfl ?_
        exact ev_ret rfl rfl
      exact ev_ret rfl rfl
    refine ev_go 2 (pc1 := 53) (lv1 := [.ref 86, .int a1, .int a2, .int a3, .int a4, .int a5]) (st1 := [.int 0]) (h1 := xhN) rfl ?_
    exact ev_ret rfl rfl
  refine ev_go 2 (pc1 := 16) (lv1 := [.ref 86, .int a1, .int a2, .int a3, .int a4, .int a5, xmk, xmk]) (st1 := [.int (-2)]) (h1 := xhN) rfl ?_
  exact ev_ret rfl rfl
set_option maxRecDepth 20000 in
theorem px_ask_1 {L : Nat} {xs : Nat → Int32} {a1 a2 a3 a4 a5 : Int32} (h1 : 0 ≤ a1.toInt) : xEv L xs 19 114 0 [.ref 0, .int a1, .int a2, .int a3, .int a4, .int a5, xmk, xmk] [] xhN (some (.int (-2))) xhN := by
  refine ev_go 6 (pc1 := 8) (lv1 := [.ref 0, .int a1, .int a2, .int a3, .int a4, .int a5, xmk, xmk]) (st1 := [.int a5, .int a4, .int a3, .int a2, .int a1, .ref 0]) (h1 := xhN) rfl ?_
  refine ev_call (v1 := (some (.int 0))) (h1 := xhN) rfl rfl ?_ ?_
  · refine ev_go 3 (pc1 := 5) (lv1 := [.ref 0, .int a1, .int a2, .int a3, .int a4, .int a5]) (st1 := [.int a1, .ref 3]) (h1 := xhN) rfl ?_
    refine ev_call (v1 := (some (.int 0))) (h1 := xhN) rfl rfl ?_ ?_
    · refine ev_go 1 (pc1 := 1) (lv1 := [.ref 3, .int a1]) (st1 := [.int a1]) (h1 := xhN) rfl ?_
      refine ev_br (b1 := false) rfl rfl (xcd_nlt (x := a1) (y := 0) (by rw [show ((0 : Int32)).toInt = 0 from by decide]; omega)) ?_
      refine ev_go 3 (pc1 := 9) (lv1 := [.ref 3, .int a1]) (st1 := [.int 0, .int a1]) (h1 := xhN) rfl ?_
      refine ev_br (b1 := true) rfl rfl (xcd_ge (x := a1) (y := 0) (by rw [show ((0 : Int32)).toInt = 0 from by decide]; omega)) ?_
      refine ev_go 1 (pc1 := 17) (lv1 := [.ref 3, .int a1]) (st1 := [.int 0]) (h1 := xhN) rfl ?_
      exact ev_ret rfl rfl
    refine ev_go 2 (pc1 := 60) (lv1 := [.ref 0, .int a1, .int a2, .int a3, .int a4, .int a5]) (st1 := [.int 0]) (h1 := xhN) rfl ?_
    exact ev_ret rfl rfl
  refine ev_go 2 (pc1 := 16) (lv1 := [.ref 0, .int a1, .int a2, .int a3, .int a4, .int a5, xmk, xmk]) (st1 := [.int (-2)]) (h1 := xhN) rfl ?_
  exact ev_ret rfl rfl
set_option maxRecDepth 20000 in
theorem pm_ask_1 {L : Nat} {xs : Nat → Int32} {a1 a2 a3 a4 a5 : Int32} (h1 : 0 ≤ a1.toInt) : xEv L xs 19 218 0 [.ref 86, .int a1, .int a2, .int a3, .int a4, .int a5, xmk, xmk] [] xhN (some (.int (-2))) xhN := by
  refine ev_go 6 (pc1 := 8) (lv1 := [.ref 86, .int a1, .int a2, .int a3, .int a4, .int a5, xmk, xmk]) (st1 := [.int a5, .int a4, .int a3, .int a2, .int a1, .ref 86]) (h1 := xhN) rfl ?_
  refine ev_call (v1 := (some (.int 0))) (h1 := xhN) rfl rfl ?_ ?_
  · refine ev_go 2 (pc1 := 2) (lv1 := [.ref 86, .int a1, .int a2, .int a3, .int a4, .int a5]) (st1 := [.int a1, .ref 86]) (h1 := xhN) rfl ?_
    refine ev_call (v1 := (some (.int 0))) (h1 := xhN) rfl rfl ?_ ?_
    · refine ev_go 8 (pc1 := 10) (lv1 := [.ref 86, .int a1]) (st1 := [.int (-1), .int 0, .int a1]) (h1 := xhN) rfl ?_
      refine ev_call (v1 := (some (.int 0))) (h1 := xhN) rfl rfl ?_ ?_
      · refine ev_go 2 (pc1 := 2) (lv1 := [.int a1, .int 0, .int (-1)]) (st1 := [.int 0, .int a1]) (h1 := xhN) rfl ?_
        refine ev_br (b1 := false) rfl rfl (xcd_nlt (x := a1) (y := 0) (by rw [show ((0 : Int32)).toInt = 0 from by decide]; omega)) ?_
        refine ev_go 2 (pc1 := 7) (lv1 := [.int a1, .int 0, .int (-1)]) (st1 := [.int (-1), .int a1]) (h1 := xhN) rfl ?_
        refine ev_br (b1 := true) rfl rfl (xcd_gt (x := a1) (y := (-1)) (by rw [show ((-1 : Int32)).toInt = -1 from by decide]; omega)) ?_
        refine ev_go 1 (pc1 := 15) (lv1 := [.int a1, .int 0, .int (-1)]) (st1 := [.int 0]) (h1 := xhN) rfl ?_
        exact ev_ret rfl rfl
      exact ev_ret rfl rfl
    refine ev_go 2 (pc1 := 53) (lv1 := [.ref 86, .int a1, .int a2, .int a3, .int a4, .int a5]) (st1 := [.int 0]) (h1 := xhN) rfl ?_
    exact ev_ret rfl rfl
  refine ev_go 2 (pc1 := 16) (lv1 := [.ref 86, .int a1, .int a2, .int a3, .int a4, .int a5, xmk, xmk]) (st1 := [.int (-2)]) (h1 := xhN) rfl ?_
  exact ev_ret rfl rfl
set_option maxRecDepth 20000 in
theorem px_fight_0 {L : Nat} {xs : Nat → Int32} {a1 : Int32} (h1 : a1.toInt < 0) : xEv L xs 19 115 0 [.ref 0, .int a1, xmk] [] xhN (some (.int (-2000))) (xsetI (xsetI (xsetI (xsetL (xsetI (xsetI (xsetI xhN 44 4 0) 1 2 0) 1 4 0) 1 5 0) 1 3 0) 1 2 0) 1 1 0) := by
  refine ev_go 4 (pc1 := 8) (lv1 := [.ref 0, .int a1, xmk]) (st1 := [.ref 1, .ref 44]) (h1 := xhN) rfl ?_
  refine ev_call (v1 := (some (.int 1))) (h1 := (xsetI (xsetI (xsetL (xsetI (xsetI (xsetI xhN 44 4 0) 1 2 0) 1 4 0) 1 5 0) 1 3 0) 1 2 0)) rfl rfl ?_ ?_
  · refine ev_go 4 (pc1 := 6) (lv1 := [.ref 44, .ref 1, xmk, xmk, xmk]) (st1 := [.ref 1]) (h1 := (xsetI xhN 44 4 0)) rfl ?_
    refine ev_call (v1 := none) (h1 := (xsetI (xsetI (xsetL (xsetI (xsetI (xsetI xhN 44 4 0) 1 2 0) 1 4 0) 1 5 0) 1 3 0) 1 2 0)) rfl rfl ?_ ?_
    · refine ev_go 4 (pc1 := 6) (lv1 := [.ref 1]) (st1 := [.ref 1]) (h1 := (xsetI (xsetI xhN 44 4 0) 1 2 0)) rfl ?_
      refine ev_call (v1 := none) (h1 := (xsetI (xsetI (xsetL (xsetI (xsetI (xsetI xhN 44 4 0) 1 2 0) 1 4 0) 1 5 0) 1 3 0) 1 2 0)) rfl rfl ?_ ?_
      · refine ev_go 16 (pc1 := 58) (lv1 := [.ref 1]) (st1 := [.int 0, .ref 1, .ref 1]) (h1 := (xsetL (xsetI (xsetI (xsetI xhN 44 4 0) 1 2 0) 1 4 0) 1 5 0)) rfl ?_
        refine ev_call (v1 := (some (.int (-1)))) (h1 := (xsetL (xsetI (xsetI (xsetI xhN 44 4 0) 1 2 0) 1 4 0) 1 5 0)) rfl rfl ?_ ?_
        · refine ev_go 7 (pc1 := 31) (lv1 := [.ref 1, .int 0]) (st1 := [.int (-1)]) (h1 := (xsetL (xsetI (xsetI (xsetI xhN 44 4 0) 1 2 0) 1 4 0) 1 5 0)) rfl ?_
          exact ev_ret rfl rfl
        refine ev_call (v1 := (some (.int 0))) (h1 := (xsetL (xsetI (xsetI (xsetI xhN 44 4 0) 1 2 0) 1 4 0) 1 5 0)) rfl rfl ?_ ?_
        · refine ev_go 4 (pc1 := 6) (lv1 := [.int (-1)]) (st1 := [.int 0]) (h1 := (xsetL (xsetI (xsetI (xsetI xhN 44 4 0) 1 2 0) 1 4 0) 1 5 0)) rfl ?_
          exact ev_ret rfl rfl
        refine ev_go 17 (pc1 := 107) (lv1 := [.ref 1]) (st1 := []) (h1 := (xsetI (xsetI (xsetL (xsetI (xsetI (xsetI xhN 44 4 0) 1 2 0) 1 4 0) 1 5 0) 1 3 0) 1 2 0)) rfl ?_
        exact ev_ret rfl rfl
      exact ev_ret rfl rfl
    refine ev_go 13 (pc1 := 108) (lv1 := [.ref 44, .ref 1, .int 0, xmk, xmk]) (st1 := [.int 1]) (h1 := (xsetI (xsetI (xsetL (xsetI (xsetI (xsetI xhN 44 4 0) 1 2 0) 1 4 0) 1 5 0) 1 3 0) 1 2 0)) rfl ?_
    exact ev_ret rfl rfl
  refine ev_go 8 (pc1 := 25) (lv1 := [.ref 0, .int a1, .int 1]) (st1 := [.int a1, .ref 3]) (h1 := (xsetI (xsetI (xsetI (xsetL (xsetI (xsetI (xsetI xhN 44 4 0) 1 2 0) 1 4 0) 1 5 0) 1 3 0) 1 2 0) 1 1 0)) rfl ?_
  refine ev_call (v1 := (some (.int 0))) (h1 := (xsetI (xsetI (xsetI (xsetL (xsetI (xsetI (xsetI xhN 44 4 0) 1 2 0) 1 4 0) 1 5 0) 1 3 0) 1 2 0) 1 1 0)) rfl rfl ?_ ?_
  · refine ev_go 1 (pc1 := 1) (lv1 := [.ref 3, .int a1]) (st1 := [.int a1]) (h1 := (xsetI (xsetI (xsetI (xsetL (xsetI (xsetI (xsetI xhN 44 4 0) 1 2 0) 1 4 0) 1 5 0) 1 3 0) 1 2 0) 1 1 0)) rfl ?_
    refine ev_br (b1 := true) rfl rfl (xcd_lt (x := a1) (y := 0) (by rw [show ((0 : Int32)).toInt = 0 from by decide]; omega)) ?_
    refine ev_go 1 (pc1 := 17) (lv1 := [.ref 3, .int a1]) (st1 := [.int 0]) (h1 := (xsetI (xsetI (xsetI (xsetL (xsetI (xsetI (xsetI xhN 44 4 0) 1 2 0) 1 4 0) 1 5 0) 1 3 0) 1 2 0) 1 1 0)) rfl ?_
    exact ev_ret rfl rfl
  refine ev_go 2 (pc1 := 34) (lv1 := [.ref 0, .int a1, .int 1]) (st1 := [.int (-2000)]) (h1 := (xsetI (xsetI (xsetI (xsetL (xsetI (xsetI (xsetI xhN 44 4 0) 1 2 0) 1 4 0) 1 5 0) 1 3 0) 1 2 0) 1 1 0)) rfl ?_
  exact ev_ret rfl rfl
set_option maxRecDepth 20000 in
theorem pm_fight_0 {L : Nat} {xs : Nat → Int32} {a1 : Int32} (h1 : a1.toInt < 0) : xEv L xs 19 219 0 [.ref 86, .int a1, xmk, xmk, xmk, xmk, xmk, xmk, xmk] [] (xsetI (xsetI (xsetI (xsetL (xsetI (xsetI (xsetI xhN 44 4 0) 1 2 0) 1 4 0) 1 5 0) 1 3 0) 1 2 0) 1 1 0) (some (.int (-2000))) (xsetI (xsetI (xsetI (xsetI (xsetI (xsetI (xsetI (xsetI (xsetI (xsetI (xsetI (xsetI (xsetI (xsetI (xsetI (xsetL (xsetI (xsetI (xsetI xhN 44 4 0) 1 2 0) 1 4 0) 1 5 0) 1 3 0) 1 2 0) 1 1 0) 86 33 0) 86 34 (-1)) 86 2 0) 86 1 0) 86 6 0) 86 5 0) 86 4 (-1)) 86 3 4) 86 6 0) 86 30 0) 86 8 0) 86 9 (-1)) := by
  refine ev_go 2 (pc1 := 2) (lv1 := [.ref 86, .int a1, xmk, xmk, xmk, xmk, xmk, xmk, xmk]) (st1 := [.int 1, .ref 86]) (h1 := (xsetI (xsetI (xsetI (xsetL (xsetI (xsetI (xsetI xhN 44 4 0) 1 2 0) 1 4 0) 1 5 0) 1 3 0) 1 2 0) 1 1 0)) rfl ?_
  refine ev_call (v1 := (some (.int 1))) (h1 := (xsetI (xsetI (xsetI (xsetI (xsetI (xsetI (xsetI (xsetI (xsetI (xsetI (xsetI (xsetI (xsetI (xsetI (xsetI (xsetL (xsetI (xsetI (xsetI xhN 44 4 0) 1 2 0) 1 4 0) 1 5 0) 1 3 0) 1 2 0) 1 1 0) 86 33 0) 86 34 (-1)) 86 2 0) 86 1 0) 86 6 0) 86 5 0) 86 4 (-1)) 86 3 4) 86 6 0) 86 30 0) 86 8 0) 86 9 (-1))) rfl rfl ?_ ?_
  · refine ev_go 10 (pc1 := 18) (lv1 := [.ref 86, .int 1, xmk]) (st1 := [.int 1, .ref 86]) (h1 := (xsetI (xsetI (xsetI (xsetI (xsetI (xsetL (xsetI (xsetI (xsetI xhN 44 4 0) 1 2 0) 1 4 0) 1 5 0) 1 3 0) 1 2 0) 1 1 0) 86 33 0) 86 34 (-1))) rfl ?_
    refine ev_call (v1 := (some (.int 1))) (h1 := (xsetI (xsetI (xsetI (xsetI (xsetI (xsetI (xsetI (xsetI (xsetI (xsetI (xsetI (xsetI (xsetI (xsetL (xsetI (xsetI (xsetI xhN 44 4 0) 1 2 0) 1 4 0) 1 5 0) 1 3 0) 1 2 0) 1 1 0) 86 33 0) 86 34 (-1)) 86 2 0) 86 1 0) 86 6 0) 86 5 0) 86 4 (-1)) 86 3 4) 86 6 0) 86 30 0)) rfl rfl ?_ ?_
    · refine ev_go 1 (pc1 := 1) (lv1 := [.ref 86, .int 1]) (st1 := [.ref 86]) (h1 := (xsetI (xsetI (xsetI (xsetI (xsetI (xsetL (xsetI (xsetI (xsetI xhN 44 4 0) 1 2 0) 1 4 0) 1 5 0) 1 3 0) 1 2 0) 1 1 0) 86 33 0) 86 34 (-1))) rfl ?_
      refine ev_call (v1 := none) (h1 := (xsetI (xsetI (xsetI (xsetI (xsetI (xsetI (xsetI (xsetI (xsetI (xsetI (xsetI (xsetI (xsetL (xsetI (xsetI (xsetI xhN 44 4 0) 1 2 0) 1 4 0) 1 5 0) 1 3 0) 1 2 0) 1 1 0) 86 33 0) 86 34 (-1)) 86 2 0) 86 1 0) 86 6 0) 86 5 0) 86 4 (-1)) 86 3 4) 86 6 0)) rfl rfl ?_ ?_
      · refine ev_go 11 (pc1 := 19) (lv1 := [.ref 86]) (st1 := [.ref 86]) (h1 := (xsetI (xsetI (xsetI (xsetI (xsetI (xsetI (xsetI (xsetI (xsetL (xsetI (xsetI (xsetI xhN 44 4 0) 1 2 0) 1 4 0) 1 5 0) 1 3 0) 1 2 0) 1 1 0) 86 33 0) 86 34 (-1)) 86 2 0) 86 1 0) 86 6 0)) rfl ?_
        refine ev_call (v1 := none) (h1 := (xsetI (xsetI (xsetI (xsetI (xsetI (xsetI (xsetI (xsetI (xsetI (xsetI (xsetI (xsetI (xsetL (xsetI (xsetI (xsetI xhN 44 4 0) 1 2 0) 1 4 0) 1 5 0) 1 3 0) 1 2 0) 1 1 0) 86 33 0) 86 34 (-1)) 86 2 0) 86 1 0) 86 6 0) 86 5 0) 86 4 (-1)) 86 3 4) 86 6 0)) rfl rfl ?_ ?_
        · refine ev_go 5 (pc1 := 7) (lv1 := [.ref 86, .int 0, xmk, xmk]) (st1 := [.int 0, .ref 86]) (h1 := (xsetI (xsetI (xsetI (xsetI (xsetI (xsetI (xsetI (xsetI (xsetL (xsetI (xsetI (xsetI xhN 44 4 0) 1 2 0) 1 4 0) 1 5 0) 1 3 0) 1 2 0) 1 1 0) 86 33 0) 86 34 (-1)) 86 2 0) 86 1 0) 86 6 0)) rfl ?_
          refine ev_call (v1 := (some (.int (-1)))) (h1 := (xsetI (xsetI (xsetI (xsetI (xsetI (xsetI (xsetI (xsetI (xsetL (xsetI (xsetI (xsetI xhN 44 4 0) 1 2 0) 1 4 0) 1 5 0) 1 3 0) 1 2 0) 1 1 0) 86 33 0) 86 34 (-1)) 86 2 0) 86 1 0) 86 6 0)) rfl rfl ?_ ?_
          · refine ev_go 5 (pc1 := 22) (lv1 := [.ref 86, .int 0]) (st1 := [.int (-1)]) (h1 := (xsetI (xsetI (xsetI (xsetI (xsetI (xsetI (xsetI (xsetI (xsetL (xsetI (xsetI (xsetI xhN 44 4 0) 1 2 0) 1 4 0) 1 5 0) 1 3 0) 1 2 0) 1 1 0) 86 33 0) 86 34 (-1)) 86 2 0) 86 1 0) 86 6 0)) rfl ?_
            exact ev_ret rfl rfl
          refine ev_go 4 (pc1 := 17) (lv1 := [.ref 86, .int 0, xmk, xmk]) (st1 := [.int 0, .ref 86]) (h1 := (xsetI (xsetI (xsetI (xsetI (xsetI (xsetI (xsetI (xsetI (xsetL (xsetI (xsetI (xsetI xhN 44 4 0) 1 2 0) 1 4 0) 1 5 0) 1 3 0) 1 2 0) 1 1 0) 86 33 0) 86 34 (-1)) 86 2 0) 86 1 0) 86 6 0)) rfl ?_
          refine ev_call (v1 := (some (.int (-1)))) (h1 := (xsetI (xsetI (xsetI (xsetI (xsetI (xsetI (xsetI (xsetI (xsetL (xsetI (xsetI (xsetI xhN 44 4 0) 1 2 0) 1 4 0) 1 5 0) 1 3 0) 1 2 0) 1 1 0) 86 33 0) 86 34 (-1)) 86 2 0) 86 1 0) 86 6 0)) rfl rfl ?_ ?_
          · refine ev_go 5 (pc1 := 22) (lv1 := [.ref 86, .int 0]) (st1 := [.int (-1)]) (h1 := (xsetI (xsetI (xsetI (xsetI (xsetI (xsetI (xsetI (xsetI (xsetL (xsetI (xsetI (xsetI xhN 44 4 0) 1 2 0) 1 4 0) 1 5 0) 1 3 0) 1 2 0) 1 1 0) 86 33 0) 86 34 (-1)) 86 2 0) 86 1 0) 86 6 0)) rfl ?_
            exact ev_ret rfl rfl
          refine ev_go 7 (pc1 := 38) (lv1 := [.ref 86, .int 0, xmk, xmk]) (st1 := [.int 0, .ref 86]) (h1 := (xsetI (xsetI (xsetI (xsetI (xsetI (xsetI (xsetI (xsetI (xsetI (xsetL (xsetI (xsetI (xsetI xhN 44 4 0) 1 2 0) 1 4 0) 1 5 0) 1 3 0) 1 2 0) 1 1 0) 86 33 0) 86 34 (-1)) 86 2 0) 86 1 0) 86 6 0) 86 5 0)) rfl ?_
          refine ev_call (v1 := (some (.int (-1)))) (h1 := (xsetI (xsetI (xsetI (xsetI (xsetI (xsetI (xsetI (xsetI (xsetI (xsetL (xsetI (xsetI (xsetI xhN 44 4 0) 1 2 0) 1 4 0) 1 5 0) 1 3 0) 1 2 0) 1 1 0) 86 33 0) 86 34 (-1)) 86 2 0) 86 1 0) 86 6 0) 86 5 0)) rfl rfl ?_ ?_
          · refine ev_go 5 (pc1 := 22) (lv1 := [.ref 86, .int 0]) (st1 := [.int (-1)]) (h1 := (xsetI (xsetI (xsetI (xsetI (xsetI (xsetI (xsetI (xsetI (xsetI (xsetL (xsetI (xsetI (xsetI xhN 44 4 0) 1 2 0) 1 4 0) 1 5 0) 1 3 0) 1 2 0) 1 1 0) 86 33 0) 86 34 (-1)) 86 2 0) 86 1 0) 86 6 0) 86 5 0)) rfl ?_
            exact ev_ret rfl rfl
          refine ev_go 20 (pc1 := 275) (lv1 := [.ref 86, .int 0, .int (-1), .int 0]) (st1 := []) (h1 := (xsetI (xsetI (xsetI (xsetI (xsetI (xsetI (xsetI (xsetI (xsetI (xsetI (xsetI (xsetI (xsetL (xsetI (xsetI (xsetI xhN 44 4 0) 1 2 0) 1 4 0) 1 5 0) 1 3 0) 1 2 0) 1 1 0) 86 33 0) 86 34 (-1)) 86 2 0) 86 1 0) 86 6 0) 86 5 0) 86 4 (-1)) 86 3 4) 86 6 0)) rfl ?_
          exact ev_ret rfl rfl
        exact ev_ret rfl rfl
      refine ev_go 8 (pc1 := 94) (lv1 := [.ref 86, .int 1]) (st1 := [.int 1]) (h1 := (xsetI (xsetI (xsetI (xsetI (xsetI (xsetI (xsetI (xsetI (xsetI (xsetI (xsetI (xsetI (xsetI (xsetL (xsetI (xsetI (xsetI xhN 44 4 0) 1 2 0) 1 4 0) 1 5 0) 1 3 0) 1 2 0) 1 1 0) 86 33 0) 86 34 (-1)) 86 2 0) 86 1 0) 86 6 0) 86 5 0) 86 4 (-1)) 86 3 4) 86 6 0) 86 30 0)) rfl ?_
      exact ev_ret rfl rfl
    refine ev_go 10 (pc1 := 39) (lv1 := [.ref 86, .int 1, .int 1]) (st1 := [.int 1]) (h1 := (xsetI (xsetI (xsetI (xsetI (xsetI (xsetI (xsetI (xsetI (xsetI (xsetI (xsetI (xsetI (xsetI (xsetI (xsetI (xsetL (xsetI (xsetI (xsetI xhN 44 4 0) 1 2 0) 1 4 0) 1 5 0) 1 3 0) 1 2 0) 1 1 0) 86 33 0) 86 34 (-1)) 86 2 0) 86 1 0) 86 6 0) 86 5 0) 86 4 (-1)) 86 3 4) 86 6 0) 86 30 0) 86 8 0) 86 9 (-1))) rfl ?_
    exact ev_ret rfl rfl
  refine ev_go 3 (pc1 := 8) (lv1 := [.ref 86, .int a1, .int 1, xmk, xmk, xmk, xmk, xmk, xmk]) (st1 := [.int a1, .ref 86]) (h1 := (xsetI (xsetI (xsetI (xsetI (xsetI (xsetI (xsetI (xsetI (xsetI (xsetI (xsetI (xsetI (xsetI (xsetI (xsetI (xsetL (xsetI (xsetI (xsetI xhN 44 4 0) 1 2 0) 1 4 0) 1 5 0) 1 3 0) 1 2 0) 1 1 0) 86 33 0) 86 34 (-1)) 86 2 0) 86 1 0) 86 6 0) 86 5 0) 86 4 (-1)) 86 3 4) 86 6 0) 86 30 0) 86 8 0) 86 9 (-1))) rfl ?_
  refine ev_call (v1 := (some (.int 0))) (h1 := (xsetI (xsetI (xsetI (xsetI (xsetI (xsetI (xsetI (xsetI (xsetI (xsetI (xsetI (xsetI (xsetI (xsetI (xsetI (xsetL (xsetI (xsetI (xsetI xhN 44 4 0) 1 2 0) 1 4 0) 1 5 0) 1 3 0) 1 2 0) 1 1 0) 86 33 0) 86 34 (-1)) 86 2 0) 86 1 0) 86 6 0) 86 5 0) 86 4 (-1)) 86 3 4) 86 6 0) 86 30 0) 86 8 0) 86 9 (-1))) rfl rfl ?_ ?_
  · refine ev_go 8 (pc1 := 10) (lv1 := [.ref 86, .int a1]) (st1 := [.int (-1), .int 0, .int a1]) (h1 := (xsetI (xsetI (xsetI (xsetI (xsetI (xsetI (xsetI (xsetI (xsetI (xsetI (xsetI (xsetI (xsetI (xsetI (xsetI (xsetL (xsetI (xsetI (xsetI xhN 44 4 0) 1 2 0) 1 4 0) 1 5 0) 1 3 0) 1 2 0) 1 1 0) 86 33 0) 86 34 (-1)) 86 2 0) 86 1 0) 86 6 0) 86 5 0) 86 4 (-1)) 86 3 4) 86 6 0) 86 30 0) 86 8 0) 86 9 (-1))) rfl ?_
    refine ev_call (v1 := (some (.int 0))) (h1 := (xsetI (xsetI (xsetI (xsetI (xsetI (xsetI (xsetI (xsetI (xsetI (xsetI (xsetI (xsetI (xsetI (xsetI (xsetI (xsetL (xsetI (xsetI (xsetI xhN 44 4 0) 1 2 0) 1 4 0) 1 5 0) 1 3 0) 1 2 0) 1 1 0) 86 33 0) 86 34 (-1)) 86 2 0) 86 1 0) 86 6 0) 86 5 0) 86 4 (-1)) 86 3 4) 86 6 0) 86 30 0) 86 8 0) 86 9 (-1))) rfl rfl ?_ ?_
    · refine ev_go 2 (pc1 := 2) (lv1 := [.int a1, .int 0, .int (-1)]) (st1 := [.int 0, .int a1]) (h1 := (xsetI (xsetI (xsetI (xsetI (xsetI (xsetI (xsetI (xsetI (xsetI (xsetI (xsetI (xsetI (xsetI (xsetI (xsetI (xsetL (xsetI (xsetI (xsetI xhN 44 4 0) 1 2 0) 1 4 0) 1 5 0) 1 3 0) 1 2 0) 1 1 0) 86 33 0) 86 34 (-1)) 86 2 0) 86 1 0) 86 6 0) 86 5 0) 86 4 (-1)) 86 3 4) 86 6 0) 86 30 0) 86 8 0) 86 9 (-1))) rfl ?_
      refine ev_br (b1 := true) rfl rfl (xcd_lt (x := a1) (y := 0) (by rw [show ((0 : Int32)).toInt = 0 from by decide]; omega)) ?_
      refine ev_go 1 (pc1 := 15) (lv1 := [.int a1, .int 0, .int (-1)]) (st1 := [.int 0]) (h1 := (xsetI (xsetI (xsetI (xsetI (xsetI (xsetI (xsetI (xsetI (xsetI (xsetI (xsetI (xsetI (xsetI (xsetI (xsetI (xsetL (xsetI (xsetI (xsetI xhN 44 4 0) 1 2 0) 1 4 0) 1 5 0) 1 3 0) 1 2 0) 1 1 0) 86 33 0) 86 34 (-1)) 86 2 0) 86 1 0) 86 6 0) 86 5 0) 86 4 (-1)) 86 3 4) 86 6 0) 86 30 0) 86 8 0) 86 9 (-1))) rfl ?_
      exact ev_ret rfl rfl
    exact ev_ret rfl rfl
  refine ev_go 2 (pc1 := 17) (lv1 := [.ref 86, .int a1, .int 1, xmk, xmk, xmk, xmk, xmk, xmk]) (st1 := [.int (-2000)]) (h1 := (xsetI (xsetI (xsetI (xsetI (xsetI (xsetI (xsetI (xsetI (xsetI (xsetI (xsetI (xsetI (xsetI (xsetI (xsetI (xsetL (xsetI (xsetI (xsetI xhN 44 4 0) 1 2 0) 1 4 0) 1 5 0) 1 3 0) 1 2 0) 1 1 0) 86 33 0) 86 34 (-1)) 86 2 0) 86 1 0) 86 6 0) 86 5 0) 86 4 (-1)) 86 3 4) 86 6 0) 86 30 0) 86 8 0) 86 9 (-1))) rfl ?_
  exact ev_ret rfl rfl
set_option maxRecDepth 20000 in
theorem px_fight_1 {L : Nat} {xs : Nat → Int32} {a1 : Int32} (h1 : 0 ≤ a1.toInt) : xEv L xs 19 115 0 [.ref 0, .int a1, xmk] [] xhN (some (.int (-2000))) (xsetI (xsetI (xsetI (xsetL (xsetI (xsetI (xsetI xhN 44 4 0) 1 2 0) 1 4 0) 1 5 0) 1 3 0) 1 2 0) 1 1 0) := by
  refine ev_go 4 (pc1 := 8) (lv1 := [.ref 0, .int a1, xmk]) (st1 := [.ref 1, .ref 44]) (h1 := xhN) rfl ?_
  refine ev_call (v1 := (some (.int 1))) (h1 := (xsetI (xsetI (xsetL (xsetI (xsetI (xsetI xhN 44 4 0) 1 2 0) 1 4 0) 1 5 0) 1 3 0) 1 2 0)) rfl rfl ?_ ?_
  · refine ev_go 4 (pc1 := 6) (lv1 := [.ref 44, .ref 1, xmk, xmk, xmk]) (st1 := [.ref 1]) (h1 := (xsetI xhN 44 4 0)) rfl ?_
    refine ev_call (v1 := none) (h1 := (xsetI (xsetI (xsetL (xsetI (xsetI (xsetI xhN 44 4 0) 1 2 0) 1 4 0) 1 5 0) 1 3 0) 1 2 0)) rfl rfl ?_ ?_
    · refine ev_go 4 (pc1 := 6) (lv1 := [.ref 1]) (st1 := [.ref 1]) (h1 := (xsetI (xsetI xhN 44 4 0) 1 2 0)) rfl ?_
      refine ev_call (v1 := none) (h1 := (xsetI (xsetI (xsetL (xsetI (xsetI (xsetI xhN 44 4 0) 1 2 0) 1 4 0) 1 5 0) 1 3 0) 1 2 0)) rfl rfl ?_ ?_
      · refine ev_go 16 (pc1 := 58) (lv1 := [.ref 1]) (st1 := [.int 0, .ref 1, .ref 1]) (h1 := (xsetL (xsetI (xsetI (xsetI xhN 44 4 0) 1 2 0) 1 4 0) 1 5 0)) rfl ?_
        refine ev_call (v1 := (some (.int (-1)))) (h1 := (xsetL (xsetI (xsetI (xsetI xhN 44 4 0) 1 2 0) 1 4 0) 1 5 0)) rfl rfl ?_ ?_
        · refine ev_go 7 (pc1 := 31) (lv1 := [.ref 1, .int 0]) (st1 := [.int (-1)]) (h1 := (xsetL (xsetI (xsetI (xsetI xhN 44 4 0) 1 2 0) 1 4 0) 1 5 0)) rfl ?_
          exact ev_ret rfl rfl
        refine ev_call (v1 := (some (.int 0))) (h1 := (xsetL (xsetI (xsetI (xsetI xhN 44 4 0) 1 2 0) 1 4 0) 1 5 0)) rfl rfl ?_ ?_
        · refine ev_go 4 (pc1 := 6) (lv1 := [.int (-1)]) (st1 := [.int 0]) (h1 := (xsetL (xsetI (xsetI (xsetI xhN 44 4 0) 1 2 0) 1 4 0) 1 5 0)) rfl ?_
          exact ev_ret rfl rfl
        refine ev_go 17 (pc1 := 107) (lv1 := [.ref 1]) (st1 := []) (h1 := (xsetI (xsetI (xsetL (xsetI (xsetI (xsetI xhN 44 4 0) 1 2 0) 1 4 0) 1 5 0) 1 3 0) 1 2 0)) rfl ?_
        exact ev_ret rfl rfl
      exact ev_ret rfl rfl
    refine ev_go 13 (pc1 := 108) (lv1 := [.ref 44, .ref 1, .int 0, xmk, xmk]) (st1 := [.int 1]) (h1 := (xsetI (xsetI (xsetL (xsetI (xsetI (xsetI xhN 44 4 0) 1 2 0) 1 4 0) 1 5 0) 1 3 0) 1 2 0)) rfl ?_
    exact ev_ret rfl rfl
  refine ev_go 8 (pc1 := 25) (lv1 := [.ref 0, .int a1, .int 1]) (st1 := [.int a1, .ref 3]) (h1 := (xsetI (xsetI (xsetI (xsetL (xsetI (xsetI (xsetI xhN 44 4 0) 1 2 0) 1 4 0) 1 5 0) 1 3 0) 1 2 0) 1 1 0)) rfl ?_
  refine ev_call (v1 := (some (.int 0))) (h1 := (xsetI (xsetI (xsetI (xsetL (xsetI (xsetI (xsetI xhN 44 4 0) 1 2 0) 1 4 0) 1 5 0) 1 3 0) 1 2 0) 1 1 0)) rfl rfl ?_ ?_
  · refine ev_go 1 (pc1 := 1) (lv1 := [.ref 3, .int a1]) (st1 := [.int a1]) (h1 := (xsetI (xsetI (xsetI (xsetL (xsetI (xsetI (xsetI xhN 44 4 0) 1 2 0) 1 4 0) 1 5 0) 1 3 0) 1 2 0) 1 1 0)) rfl ?_
    refine ev_br (b1 := false) rfl rfl (xcd_nlt (x := a1) (y := 0) (by rw [show ((0 : Int32)).toInt = 0 from by decide]; omega)) ?_
    refine ev_go 3 (pc1 := 9) (lv1 := [.ref 3, .int a1]) (st1 := [.int 0, .int a1]) (h1 := (xsetI (xsetI (xsetI (xsetL (xsetI (xsetI (xsetI xhN 44 4 0) 1 2 0) 1 4 0) 1 5 0) 1 3 0) 1 2 0) 1 1 0)) rfl ?_
    refine ev_br (b1 := true) rfl rfl (xcd_ge (x := a1) (y := 0) (by rw [show ((0 : Int32)).toInt = 0 from by decide]; omega)) ?_
    refine ev_go 1 (pc1 := 17) (lv1 := [.ref 3, .int a1]) (st1 := [.int 0]) (h1 := (xsetI (xsetI (xsetI (xsetL (xsetI (xsetI (xsetI xhN 44 4 0) 1 2 0) 1 4 0) 1 5 0) 1 3 0) 1 2 0) 1 1 0)) rfl ?_
    exact ev_ret rfl rfl
  refine ev_go 2 (pc1 := 34) (lv1 := [.ref 0, .int a1, .int 1]) (st1 := [.int (-2000)]) (h1 := (xsetI (xsetI (xsetI (xsetL (xsetI (xsetI (xsetI xhN 44 4 0) 1 2 0) 1 4 0) 1 5 0) 1 3 0) 1 2 0) 1 1 0)) rfl ?_
  exact ev_ret rfl rfl
set_option maxRecDepth 20000 in
theorem pm_fight_1 {L : Nat} {xs : Nat → Int32} {a1 : Int32} (h1 : 0 ≤ a1.toInt) : xEv L xs 19 219 0 [.ref 86, .int a1, xmk, xmk, xmk, xmk, xmk, xmk, xmk] [] (xsetI (xsetI (xsetI (xsetL (xsetI (xsetI (xsetI xhN 44 4 0) 1 2 0) 1 4 0) 1 5 0) 1 3 0) 1 2 0) 1 1 0) (some (.int (-2000))) (xsetI (xsetI (xsetI (xsetI (xsetI (xsetI (xsetI (xsetI (xsetI (xsetI (xsetI (xsetI (xsetI (xsetI (xsetI (xsetL (xsetI (xsetI (xsetI xhN 44 4 0) 1 2 0) 1 4 0) 1 5 0) 1 3 0) 1 2 0) 1 1 0) 86 33 0) 86 34 (-1)) 86 2 0) 86 1 0) 86 6 0) 86 5 0) 86 4 (-1)) 86 3 4) 86 6 0) 86 30 0) 86 8 0) 86 9 (-1)) := by
  refine ev_go 2 (pc1 := 2) (lv1 := [.ref 86, .int a1, xmk, xmk, xmk, xmk, xmk, xmk, xmk]) (st1 := [.int 1, .ref 86]) (h1 := (xsetI (xsetI (xsetI (xsetL (xsetI (xsetI (xsetI xhN 44 4 0) 1 2 0) 1 4 0) 1 5 0) 1 3 0) 1 2 0) 1 1 0)) rfl ?_
  refine ev_call (v1 := (some (.int 1))) (h1 := (xsetI (xsetI (xsetI (xsetI (xsetI (xsetI (xsetI (xsetI (xsetI (xsetI (xsetI (xsetI (xsetI (xsetI (xsetI (xsetL (xsetI (xsetI (xsetI xhN 44 4 0) 1 2 0) 1 4 0) 1 5 0) 1 3 0) 1 2 0) 1 1 0) 86 33 0) 86 34 (-1)) 86 2 0) 86 1 0) 86 6 0) 86 5 0) 86 4 (-1)) 86 3 4) 86 6 0) 86 30 0) 86 8 0) 86 9 (-1))) rfl rfl ?_ ?_
  · refine ev_go 10 (pc1 := 18) (lv1 := [.ref 86, .int 1, xmk]) (st1 := [.int 1, .ref 86]) (h1 := (xsetI (xsetI (xsetI (xsetI (xsetI (xsetL (xsetI (xsetI (xsetI xhN 44 4 0) 1 2 0) 1 4 0) 1 5 0) 1 3 0) 1 2 0) 1 1 0) 86 33 0) 86 34 (-1))) rfl ?_
    refine ev_call (v1 := (some (.int 1))) (h1 := (xsetI (xsetI (xsetI (xsetI (xsetI (xsetI (xsetI (xsetI (xsetI (xsetI (xsetI (xsetI (xsetI (xsetL (xsetI (xsetI (xsetI xhN 44 4 0) 1 2 0) 1 4 0) 1 5 0) 1 3 0) 1 2 0) 1 1 0) 86 33 0) 86 34 (-1)) 86 2 0) 86 1 0) 86 6 0) 86 5 0) 86 4 (-1)) 86 3 4) 86 6 0) 86 30 0)) rfl rfl ?_ ?_
    · refine ev_go 1 (pc1 := 1) (lv1 := [.ref 86, .int 1]) (st1 := [.ref 86]) (h1 := (xsetI (xsetI (xsetI (xsetI (xsetI (xsetL (xsetI (xsetI (xsetI xhN 44 4 0) 1 2 0) 1 4 0) 1 5 0) 1 3 0) 1 2 0) 1 1 0) 86 33 0) 86 34 (-1))) rfl ?_
      refine ev_call (v1 := none) (h1 := (xsetI (xsetI (xsetI (xsetI (xsetI (xsetI (xsetI (xsetI (xsetI (xsetI (xsetI (xsetI (xsetL (xsetI (xsetI (xsetI xhN 44 4 0) 1 2 0) 1 4 0) 1 5 0) 1 3 0) 1 2 0) 1 1 0) 86 33 0) 86 34 (-1)) 86 2 0) 86 1 0) 86 6 0) 86 5 0) 86 4 (-1)) 86 3 4) 86 6 0)) rfl rfl ?_ ?_
      · refine ev_go 11 (pc1 := 19) (lv1 := [.ref 86]) (st1 := [.ref 86]) (h1 := (xsetI (xsetI (xsetI (xsetI (xsetI (xsetI (xsetI (xsetI (xsetL (xsetI (xsetI (xsetI xhN 44 4 0) 1 2 0) 1 4 0) 1 5 0) 1 3 0) 1 2 0) 1 1 0) 86 33 0) 86 34 (-1)) 86 2 0) 86 1 0) 86 6 0)) rfl ?_
        refine ev_call (v1 := none) (h1 := (xsetI (xsetI (xsetI (xsetI (xsetI (xsetI (xsetI (xsetI (xsetI (xsetI (xsetI (xsetI (xsetL (xsetI (xsetI (xsetI xhN 44 4 0) 1 2 0) 1 4 0) 1 5 0) 1 3 0) 1 2 0) 1 1 0) 86 33 0) 86 34 (-1)) 86 2 0) 86 1 0) 86 6 0) 86 5 0) 86 4 (-1)) 86 3 4) 86 6 0)) rfl rfl ?_ ?_
        · refine ev_go 5 (pc1 := 7) (lv1 := [.ref 86, .int 0, xmk, xmk]) (st1 := [.int 0, .ref 86]) (h1 := (xsetI (xsetI (xsetI (xsetI (xsetI (xsetI (xsetI (xsetI (xsetL (xsetI (xsetI (xsetI xhN 44 4 0) 1 2 0) 1 4 0) 1 5 0) 1 3 0) 1 2 0) 1 1 0) 86 33 0) 86 34 (-1)) 86 2 0) 86 1 0) 86 6 0)) rfl ?_
          refine ev_call (v1 := (some (.int (-1)))) (h1 := (xsetI (xsetI (xsetI (xsetI (xsetI (xsetI (xsetI (xsetI (xsetL (xsetI (xsetI (xsetI xhN 44 4 0) 1 2 0) 1 4 0) 1 5 0) 1 3 0) 1 2 0) 1 1 0) 86 33 0) 86 34 (-1)) 86 2 0) 86 1 0) 86 6 0)) rfl rfl ?_ ?_
          · refine ev_go 5 (pc1 := 22) (lv1 := [.ref 86, .int 0]) (st1 := [.int (-1)]) (h1 := (xsetI (xsetI (xsetI (xsetI (xsetI (xsetI (xsetI (xsetI (xsetL (xsetI (xsetI (xsetI xhN 44 4 0) 1 2 0) 1 4 0) 1 5 0) 1 3 0) 1 2 0) 1 1 0) 86 33 0) 86 34 (-1)) 86 2 0) 86 1 0) 86 6 0)) rfl ?_
            exact ev_ret rfl rfl
          refine ev_go 4 (pc1 := 17) (lv1 := [.ref 86, .int 0, xmk, xmk]) (st1 := [.int 0, .ref 86]) (h1 := (xsetI (xsetI (xsetI (xsetI (xsetI (xsetI (xsetI (xsetI (xsetL (xsetI (xsetI (xsetI xhN 44 4 0) 1 2 0) 1 4 0) 1 5 0) 1 3 0) 1 2 0) 1 1 0) 86 33 0) 86 34 (-1)) 86 2 0) 86 1 0) 86 6 0)) rfl ?_
          refine ev_call (v1 := (some (.int (-1)))) (h1 := (xsetI (xsetI (xsetI (xsetI (xsetI (xsetI (xsetI (xsetI (xsetL (xsetI (xsetI (xsetI xhN 44 4 0) 1 2 0) 1 4 0) 1 5 0) 1 3 0) 1 2 0) 1 1 0) 86 33 0) 86 34 (-1)) 86 2 0) 86 1 0) 86 6 0)) rfl rfl ?_ ?_
          · refine ev_go 5 (pc1 := 22) (lv1 := [.ref 86, .int 0]) (st1 := [.int (-1)]) (h1 := (xsetI (xsetI (xsetI (xsetI (xsetI (xsetI (xsetI (xsetI (xsetL (xsetI (xsetI (xsetI xhN 44 4 0) 1 2 0) 1 4 0) 1 5 0) 1 3 0) 1 2 0) 1 1 0) 86 33 0) 86 34 (-1)) 86 2 0) 86 1 0) 86 6 0)) rfl ?_
            exact ev_ret rfl rfl
          refine ev_go 7 (pc1 := 38) (lv1 := [.ref 86, .int 0, xmk, xmk]) (st1 := [.int 0, .ref 86]) (h1 := (xsetI (xsetI (xsetI (xsetI (xsetI (xsetI (xsetI (xsetI (xsetI (xsetL (xsetI (xsetI (xsetI xhN 44 4 0) 1 2 0) 1 4 0) 1 5 0) 1 3 0) 1 2 0) 1 1 0) 86 33 0) 86 34 (-1)) 86 2 0) 86 1 0) 86 6 0) 86 5 0)) rfl ?_
          refine ev_call (v1 := (some (.int (-1)))) (h1 := (xsetI (xsetI (xsetI (xsetI (xsetI (xsetI (xsetI (xsetI (xsetI (xsetL (xsetI (xsetI (xsetI xhN 44 4 0) 1 2 0) 1 4 0) 1 5 0) 1 3 0) 1 2 0) 1 1 0) 86 33 0) 86 34 (-1)) 86 2 0) 86 1 0) 86 6 0) 86 5 0)) rfl rfl ?_ ?_
          · refine ev_go 5 (pc1 := 22) (lv1 := [.ref 86, .int 0]) (st1 := [.int (-1)]) (h1 := (xsetI (xsetI (xsetI (xsetI (xsetI (xsetI (xsetI (xsetI (xsetI (xsetL (xsetI (xsetI (xsetI xhN 44 4 0) 1 2 0) 1 4 0) 1 5 0) 1 3 0) 1 2 0) 1 1 0) 86 33 0) 86 34 (-1)) 86 2 0) 86 1 0) 86 6 0) 86 5 0)) rfl ?_
            exact ev_ret rfl rfl
          refine ev_go 20 (pc1 := 275) (lv1 := [.ref 86, .int 0, .int (-1), .int 0]) (st1 := []) (h1 := (xsetI (xsetI (xsetI (xsetI (xsetI (xsetI (xsetI (xsetI (xsetI (xsetI (xsetI (xsetI (xsetL (xsetI (xsetI (xsetI xhN 44 4 0) 1 2 0) 1 4 0) 1 5 0) 1 3 0) 1 2 0) 1 1 0) 86 33 0) 86 34 (-1)) 86 2 0) 86 1 0) 86 6 0) 86 5 0) 86 4 (-1)) 86 3 4) 86 6 0)) rfl ?_
          exact ev_ret rfl rfl
        exact ev_ret rfl rfl
      refine ev_go 8 (pc1 := 94) (lv1 := [.ref 86, .int 1]) (st1 := [.int 1]) (h1 := (xsetI (xsetI (xsetI (xsetI (xsetI (xsetI (xsetI (xsetI (xsetI (xsetI (xsetI (xsetI (xsetI (xsetL (xsetI (xsetI (xsetI xhN 44 4 0) 1 2 0) 1 4 0) 1 5 0) 1 3 0) 1 2 0) 1 1 0) 86 33 0) 86 34 (-1)) 86 2 0) 86 1 0) 86 6 0) 86 5 0) 86 4 (-1)) 86 3 4) 86 6 0) 86 30 0)) rfl ?_
      exact ev_ret rfl rfl
    refine ev_go 10 (pc1 := 39) (lv1 := [.ref 86, .int 1, .int 1]) (st1 := [.int 1]) (h1 := (xsetI (xsetI (xsetI (xsetI (xsetI (xsetI (xsetI (xsetI (xsetI (xsetI (xsetI (xsetI (xsetI (xsetI (xsetI (xsetL (xsetI (xsetI (xsetI xhN 44 4 0) 1 2 0) 1 4 0) 1 5 0) 1 3 0) 1 2 0) 1 1 0) 86 33 0) 86 34 (-1)) 86 2 0) 86 1 0) 86 6 0) 86 5 0) 86 4 (-1)) 86 3 4) 86 6 0) 86 30 0) 86 8 0) 86 9 (-1))) rfl ?_
    exact ev_ret rfl rfl
  refine ev_go 3 (pc1 := 8) (lv1 := [.ref 86, .int a1, .int 1, xmk, xmk, xmk, xmk, xmk, xmk]) (st1 := [.int a1, .ref 86]) (h1 := (xsetI (xsetI (xsetI (xsetI (xsetI (xsetI (xsetI (xsetI (xsetI (xsetI (xsetI (xsetI (xsetI (xsetI (xsetI (xsetL (xsetI (xsetI (xsetI xhN 44 4 0) 1 2 0) 1 4 0) 1 5 0) 1 3 0) 1 2 0) 1 1 0) 86 33 0) 86 34 (-1)) 86 2 0) 86 1 0) 86 6 0) 86 5 0) 86 4 (-1)) 86 3 4) 86 6 0) 86 30 0) 86 8 0) 86 9 (-1))) rfl ?_
  refine ev_call (v1 := (some (.int 0))) (h1 := (xsetI (xsetI (xsetI (xsetI (xsetI (xsetI (xsetI (xsetI (xsetI (xsetI (xsetI (xsetI (xsetI (xsetI (xsetI (xsetL (xsetI (xsetI (xsetI xhN 44 4 0) 1 2 0) 1 4 0) 1 5 0) 1 3 0) 1 2 0) 1 1 0) 86 33 0) 86 34 (-1)) 86 2 0) 86 1 0) 86 6 0) 86 5 0) 86 4 (-1)) 86 3 4) 86 6 0) 86 30 0) 86 8 0) 86 9 (-1))) rfl rfl ?_ ?_
  · refine ev_go 8 (pc1 := 10) (lv1 := [.ref 86, .int a1]) (st1 := [.int (-1), .int 0, .int a1]) (h1 := (xsetI (xsetI (xsetI (xsetI (xsetI (xsetI (xsetI (xsetI (xsetI (xsetI (xsetI (xsetI (xsetI (xsetI (xsetI (xsetL (xsetI (xsetI (xsetI xhN 44 4 0) 1 2 0) 1 4 0) 1 5 0) 1 3 0) 1 2 0) 1 1 0) 86 33 0) 86 34 (-1)) 86 2 0) 86 1 0) 86 6 0) 86 5 0) 86 4 (-1)) 86 3 4) 86 6 0) 86 30 0) 86 8 0) 86 9 (-1))) rfl ?_
    refine ev_call (v1 := (some (.int 0))) (h1 := (xsetI (xsetI (xsetI (xsetI (xsetI (xsetI (xsetI (xsetI (xsetI (xsetI (xsetI (xsetI (xsetI (xsetI (xsetI (xsetL (xsetI (xsetI (xsetI xhN 44 4 0) 1 2 0) 1 4 0) 1 5 0) 1 3 0) 1 2 0) 1 1 0) 86 33 0) 86 34 (-1)) 86 2 0) 86 1 0) 86 6 0) 86 5 0) 86 4 (-1)) 86 3 4) 86 6 0) 86 30 0) 86 8 0) 86 9 (-1))) rfl rfl ?_ ?_
    · refine ev_go 2 (pc1 := 2) (lv1 := [.int a1, .int 0, .int (-1)]) (st1 := [.int 0, .int a1]) (h1 := (xsetI (xsetI (xsetI (xsetI (xsetI (xsetI (xsetI (xsetI (xsetI (xsetI (xsetI (xsetI (xsetI (xsetI (xsetI (xsetL (xsetI (xsetI (xsetI xhN 44 4 0) 1 2 0) 1 4 0) 1 5 0) 1 3 0) 1 2 0) 1 1 0) 86 33 0) 86 34 (-1)) 86 2 0) 86 1 0) 86 6 0) 86 5 0) 86 4 (-1)) 86 3 4) 86 6 0) 86 30 0) 86 8 0) 86 9 (-1))) rfl ?_
      refine ev_br (b1 := false) rfl rfl (xcd_nlt (x := a1) (y := 0) (by rw [show ((0 : Int32)).toInt = 0 from by decide]; omega)) ?_
      refine ev_go 2 (pc1 := 7) (lv1 := [.int a1, .int 0, .int (-1)]) (st1 := [.int (-1), .int a1]) (h1 := (xsetI (xsetI (xsetI (xsetI (xsetI (xsetI (xsetI (xsetI (xsetI (xsetI (xsetI (xsetI (xsetI (xsetI (xsetI (xsetL (xsetI (xsetI (xsetI xhN 44 4 0) 1 2 0) 1 4 0) 1 5 0) 1 3 0) 1 2 0) 1 1 0) 86 33 0) 86 34 (-1)) 86 2 0) 86 1 0) 86 6 0) 86 5 0) 86 4 (-1)) 86 3 4) 86 6 0) 86 30 0) 86 8 0) 86 9 (-1))) rfl ?_
      refine ev_br (b1 := true) rfl rfl (xcd_gt (x := a1) (y := (-1)) (by rw [show ((-1 : Int32)).toInt = -1 from by decide]; omega)) ?_
      refine ev_go 1 (pc1 := 15) (lv1 := [.int a1, .int 0, .int (-1)]) (st1 := [.int 0]) (h1 := (xsetI (xsetI (xsetI (xsetI (xsetI (xsetI (xsetI (xsetI (xsetI (xsetI (xsetI (xsetI (xsetI (xsetI (xsetI (xsetL (xsetI (xsetI (xsetI xhN 44 4 0) 1 2 0) 1 4 0) 1 5 0) 1 3 0) 1 2 0) 1 1 0) 86 33 0) 86 34 (-1)) 86 2 0) 86 1 0) 86 6 0) 86 5 0) 86 4 (-1)) 86 3 4) 86 6 0) 86 30 0) 86 8 0) 86 9 (-1))) rfl ?_
      exact ev_ret rfl rfl
    exact ev_ret rfl rfl
  refine ev_go 2 (pc1 := 17) (lv1 := [.ref 86, .int a1, .int 1, xmk, xmk, xmk, xmk, xmk, xmk]) (st1 := [.int (-2000)]) (h1 := (xsetI (xsetI (xsetI (xsetI (xsetI (xsetI (xsetI (xsetI (xsetI (xsetI (xsetI (xsetI (xsetI (xsetI (xsetI (xsetL (xsetI (xsetI (xsetI xhN 44 4 0) 1 2 0) 1 4 0) 1 5 0) 1 3 0) 1 2 0) 1 1 0) 86 33 0) 86 34 (-1)) 86 2 0) 86 1 0) 86 6 0) 86 5 0) 86 4 (-1)) 86 3 4) 86 6 0) 86 30 0) 86 8 0) 86 9 (-1))) rfl ?_
  exact ev_ret rfl rfl
set_option maxRecDepth 20000 in
theorem px_where_0 {L : Nat} {xs : Nat → Int32} {a1 a2 a3 a4 a5 a6 : Int32} (h1 : a6.toInt < 0) : xEv L xs 19 111 0 [.ref 0, .int a1, .int a2, .int a3, .int a4, .int a5, .int a6] [] xhN (some (.int (-2))) xhN := by
  refine ev_go 3 (pc1 := 6) (lv1 := [.ref 0, .int a1, .int a2, .int a3, .int a4, .int a5, .int a6]) (st1 := [.int a6, .ref 3]) (h1 := xhN) rfl ?_
  refine ev_call (v1 := (some (.int 0))) (h1 := xhN) rfl rfl ?_ ?_
  · refine ev_go 1 (pc1 := 1) (lv1 := [.ref 3, .int a6]) (st1 := [.int a6]) (h1 := xhN) rfl ?_
    refine ev_br (b1 := true) rfl rfl (xcd_lt (x := a6) (y := 0) (by rw [show ((0 : Int32)).toInt = 0 from by decide]; omega)) ?_
    refine ev_go 1 (pc1 := 17) (lv1 := [.ref 3, .int a6]) (st1 := [.int 0]) (h1 := xhN) rfl ?_
    exact ev_ret rfl rfl
  refine ev_go 2 (pc1 := 28) (lv1 := [.ref 0, .int a1, .int a2, .int a3, .int a4, .int a5, .int a6]) (st1 := [.int (-2)]) (h1 := xhN) rfl ?_
  exact ev_ret rfl rfl
set_option maxRecDepth 20000 in
theorem pm_where_0 {L : Nat} {xs : Nat → Int32} {a1 a2 a3 a4 a5 a6 : Int32} (h1 : a1.toInt < 0) : xEv L xs 19 215 0 [.ref 86, .int a1, .int a2, .int a3, .int a4, .int a5, .int a6] [] xhN (some (.int (-2))) xhN := by
  refine ev_go 6 (pc1 := 8) (lv1 := [.ref 86, .int a1, .int a2, .int a3, .int a4, .int a5, .int a6]) (st1 := [.int a5, .int a4, .int a3, .int a2, .int a1, .ref 86]) (h1 := xhN) rfl ?_
  refine ev_call (v1 := (some (.int 0))) (h1 := xhN) rfl rfl ?_ ?_
  · refine ev_go 2 (pc1 := 2) (lv1 := [.ref 86, .int a1, .int a2, .int a3, .int a4, .int a5]) (st1 := [.int a1, .ref 86]) (h1 := xhN) rfl ?_
    refine ev_call (v1 := (some (.int 0))) (h1 := xhN) rfl rfl ?_ ?_
    · refine ev_go 8 (pc1 := 10) (lv1 := [.ref 86, .int a1]) (st1 := [.int (-1), .int 0, .int a1]) (h1 := xhN) rfl ?_
      refine ev_call (v1 := (some (.int 0))) (h1 := xhN) rfl rfl ?_ ?_
      · refine ev_go 2 (pc1 := 2) (lv1 := [.int a1, .int 0, .int (-1)]) (st1 := [.int 0, .int a1]) (h1 := xhN) rfl ?_
        refine ev_br (b1 := true) rfl rfl (xcd_lt (x := a1) (y := 0) (by rw [show ((0 : Int32)).toInt = 0 from by decide]; omega)) ?_
        refine ev_go 1 (pc1 := 15) (lv1 := [.int a1, .int 0, .int (-1)]) (st1 := [.int 0]) (h1 := xhN) rfl ?_
        exact ev_ret rfl rfl
      exact ev_ret rfl rfl
    refine ev_go 2 (pc1 := 53) (lv1 := [.ref 86, .int a1, .int a2, .int a3, .int a4, .int a5]) (st1 := [.int 0]) (h1 := xhN) rfl ?_
    exact ev_ret rfl rfl
  refine ev_go 2 (pc1 := 25) (lv1 := [.ref 86, .int a1, .int a2, .int a3, .int a4, .int a5, .int a6]) (st1 := [.int (-2)]) (h1 := xhN) rfl ?_
  exact ev_ret rfl rfl
set_option maxRecDepth 20000 in
theorem px_where_1 {L : Nat} {xs : Nat → Int32} {a1 a2 a3 a4 a5 a6 : Int32} (h1 : 0 ≤ a6.toInt) : xEv L xs 19 111 0 [.ref 0, .int a1, .int a2, .int a3, .int a4, .int a5, .int a6] [] xhN (some (.int (-2))) xhN := by
  refine ev_go 3 (pc1 := 6) (lv1 := [.ref 0, .int a1, .int a2, .int a3, .int a4, .int a5, .int a6]) (st1 := [.int a6, .ref 3]) (h1 := xhN) rfl ?_
  refine ev_call (v1 := (some (.int 0))) (h1 := xhN) rfl rfl ?_ ?_
  · refine ev_go 1 (pc1 := 1) (lv1 := [.ref 3, .int a6]) (st1 := [.int a6]) (h1 := xhN) rfl ?_
    refine ev_br (b1 := false) rfl rfl (xcd_nlt (x := a6) (y := 0) (by rw [show ((0 : Int32)).toInt = 0 from by decide]; omega)) ?_
    refine ev_go 3 (pc1 := 9) (lv1 := [.ref 3, .int a6]) (st1 := [.int 0, .int a6]) (h1 := xhN) rfl ?_
    refine ev_br (b1 := true) rfl rfl (xcd_ge (x := a6) (y := 0) (by rw [show ((0 : Int32)).toInt = 0 from by decide]; omega)) ?_
    refine ev_go 1 (pc1 := 17) (lv1 := [.ref 3, .int a6]) (st1 := [.int 0]) (h1 := xhN) rfl ?_
    exact ev_ret rfl rfl
  refine ev_go 2 (pc1 := 28) (lv1 := [.ref 0, .int a1, .int a2, .int a3, .int a4, .int a5, .int a6]) (st1 := [.int (-2)]) (h1 := xhN) rfl ?_
  exact ev_ret rfl rfl
set_option maxRecDepth 20000 in
theorem pm_where_1 {L : Nat} {xs : Nat → Int32} {a1 a2 a3 a4 a5 a6 : Int32} (h1 : 0 ≤ a1.toInt) : xEv L xs 19 215 0 [.ref 86, .int a1, .int a2, .int a3, .int a4, .int a5, .int a6] [] xhN (some (.int (-2))) xhN := by
  refine ev_go 6 (pc1 := 8) (lv1 := [.ref 86, .int a1, .int a2, .int a3, .int a4, .int a5, .int a6]) (st1 := [.int a5, .int a4, .int a3, .int a2, .int a1, .ref 86]) (h1 := xhN) rfl ?_
  refine ev_call (v1 := (some (.int 0))) (h1 := xhN) rfl rfl ?_ ?_
  · refine ev_go 2 (pc1 := 2) (lv1 := [.ref 86, .int a1, .int a2, .int a3, .int a4, .int a5]) (st1 := [.int a1, .ref 86]) (h1 := xhN) rfl ?_
    refine ev_call (v1 := (some (.int 0))) (h1 := xhN) rfl rfl ?_ ?_
    · refine ev_go 8 (pc1 := 10) (lv1 := [.ref 86, .int a1]) (st1 := [.int (-1), .int 0, .int a1]) (h1 := xhN) rfl ?_
      refine ev_call (v1 := (some (.int 0))) (h1 := xhN) rfl rfl ?_ ?_
      · refine ev_go 2 (pc1 := 2) (lv1 := [.int a1, .int 0, .int (-1)]) (st1 := [.int 0, .int a1]) (h1 := xhN) rfl ?_
        refine ev_br (b1 := false) rfl rfl (xcd_nlt (x := a1) (y := 0) (by rw [show ((0 : Int32)).toInt = 0 from by decide]; omega)) ?_
        refine ev_go 2 (pc1 := 7) (lv1 := [.int a1, .int 0, .int (-1)]) (st1 := [.int (-1), .int a1]) (h1 := xhN) rfl ?_
        refine ev_br (b1 := true) rfl rfl (xcd_gt (x := a1) (y := (-1)) (by rw [show ((-1 : Int32)).toInt = -1 from by decide]; omega)) ?_
        refine ev_go 1 (pc1 := 15) (lv1 := [.int a1, .int 0, .int (-1)]) (st1 := [.int 0]) (h1 := xhN) rfl ?_
        exact ev_ret rfl rfl
      exact ev_ret rfl rfl
    refine ev_go 2 (pc1 := 53) (lv1 := [.ref 86, .int a1, .int a2, .int a3, .int a4, .int a5]) (st1 := [.int 0]) (h1 := xhN) rfl ?_
    exact ev_ret rfl rfl
  refine ev_go 2 (pc1 := 25) (lv1 := [.ref 86, .int a1, .int a2, .int a3, .int a4, .int a5, .int a6]) (st1 := [.int (-2)]) (h1 := xhN) rfl ?_
  exact ev_ret rfl rfl
set_option maxRecDepth 20000 in
theorem px_told_0 {L : Nat} {xs : Nat → Int32} {a1 : Int32} (h1 : a1.toInt < 0) : xEv L xs 19 48 0 [.ref 0, .int a1, xmk] [] xhN (some (.int (-1))) xhN := by
  refine ev_go 1 (pc1 := 1) (lv1 := [.ref 0, .int a1, xmk]) (st1 := [.int a1]) (h1 := xhN) rfl ?_
  refine ev_br (b1 := false) rfl rfl (xcd_nge (x := a1) (y := 0) (by rw [show ((0 : Int32)).toInt = 0 from by decide]; omega)) ?_
  refine ev_go 1 (pc1 := 5) (lv1 := [.ref 0, .int a1, xmk]) (st1 := [.int (-1)]) (h1 := xhN) rfl ?_
  exact ev_ret rfl rfl
set_option maxRecDepth 20000 in
theorem pm_told_0 {L : Nat} {xs : Nat → Int32} {a1 : Int32} (h1 : a1.toInt < 0) : xEv L xs 19 166 0 [.ref 86, .int a1, xmk] [] xhN (some (.int (-1))) xhN := by
  refine ev_go 3 (pc1 := 3) (lv1 := [.ref 86, .int a1, xmk]) (st1 := [.int 3, .int 0, .int a1]) (h1 := xhN) rfl ?_
  refine ev_call (v1 := (some (.int 0))) (h1 := xhN) rfl rfl ?_ ?_
  · refine ev_go 2 (pc1 := 2) (lv1 := [.int a1, .int 0, .int 3]) (st1 := [.int 0, .int a1]) (h1 := xhN) rfl ?_
    refine ev_br (b1 := true) rfl rfl (xcd_lt (x := a1) (y := 0) (by rw [show ((0 : Int32)).toInt = 0 from by decide]; omega)) ?_
    refine ev_go 1 (pc1 := 15) (lv1 := [.int a1, .int 0, .int 3]) (st1 := [.int 0]) (h1 := xhN) rfl ?_
    exact ev_ret rfl rfl
  refine ev_go 3 (pc1 := 31) (lv1 := [.ref 86, .int a1, xmk]) (st1 := [.int 10, .int a1]) (h1 := xhN) rfl ?_
  refine ev_go 5 (pc1 := 38) (lv1 := [.ref 86, .int a1, .int (a1 - a1 / 10 * 10)]) (st1 := [.int 29, .int 10, .int a1]) (h1 := xhN) rfl ?_
  refine ev_call (v1 := (some (.int 0))) (h1 := xhN) rfl rfl ?_ ?_
  · refine ev_go 2 (pc1 := 2) (lv1 := [.int a1, .int 10, .int 29]) (st1 := [.int 10, .int a1]) (h1 := xhN) rfl ?_
    refine ev_br (b1 := true) rfl rfl (xcd_lt (x := a1) (y := 10) (by rw [show ((10 : Int32)).toInt = 10 from by decide]; omega)) ?_
    refine ev_go 1 (pc1 := 15) (lv1 := [.int a1, .int 10, .int 29]) (st1 := [.int 0]) (h1 := xhN) rfl ?_
    exact ev_ret rfl rfl
  refine ev_go 4 (pc1 := 83) (lv1 := [.ref 86, .int a1, .int (a1 - a1 / 10 * 10)]) (st1 := [.int 79, .int 30, .int a1]) (h1 := xhN) rfl ?_
  refine ev_call (v1 := (some (.int 0))) (h1 := xhN) rfl rfl ?_ ?_
  · refine ev_go 2 (pc1 := 2) (lv1 := [.int a1, .int 30, .int 79]) (st1 := [.int 30, .int a1]) (h1 := xhN) rfl ?_
    refine ev_br (b1 := true) rfl rfl (xcd_lt (x := a1) (y := 30) (by rw [show ((30 : Int32)).toInt = 30 from by decide]; omega)) ?_
    refine ev_go 1 (pc1 := 15) (lv1 := [.int a1, .int 30, .int 79]) (st1 := [.int 0]) (h1 := xhN) rfl ?_
    exact ev_ret rfl rfl
  refine ev_go 2 (pc1 := 98) (lv1 := [.ref 86, .int a1, .int (a1 - a1 / 10 * 10)]) (st1 := [.int (-1)]) (h1 := xhN) rfl ?_
  exact ev_ret rfl rfl
set_option maxRecDepth 20000 in
theorem px_told_1 {L : Nat} {xs : Nat → Int32} {a1 : Int32} (h1 : 80 ≤ a1.toInt) : xEv L xs 19 48 0 [.ref 0, .int a1, xmk] [] xhN (some (.int (-1))) xhN := by
  refine ev_go 1 (pc1 := 1) (lv1 := [.ref 0, .int a1, xmk]) (st1 := [.int a1]) (h1 := xhN) rfl ?_
  refine ev_br (b1 := true) rfl rfl (xcd_ge (x := a1) (y := 0) (by rw [show ((0 : Int32)).toInt = 0 from by decide]; omega)) ?_
  refine ev_go 2 (pc1 := 9) (lv1 := [.ref 0, .int a1, xmk]) (st1 := [.int 10, .int a1]) (h1 := xhN) rfl ?_
  refine ev_go 4 (pc1 := 14) (lv1 := [.ref 0, .int a1, .int (a1 - a1 / 10 * 10)]) (st1 := [.int 10, .int a1]) (h1 := xhN) rfl ?_
  refine ev_go 1 (pc1 := 15) (lv1 := [.ref 0, .int a1, .int (a1 - a1 / 10 * 10)]) (st1 := [.int (a1 / 10)]) (h1 := xhN) rfl ?_
  refine ev_tab (x := (a1 / 10)) (t := 199) rfl rfl (Or.inr (x_div10 h1)) rfl ?_
  refine ev_go 1 (pc1 := 200) (lv1 := [.ref 0, .int a1, .int (a1 - a1 / 10 * 10)]) (st1 := [.int (-1)]) (h1 := xhN) rfl ?_
  exact ev_ret rfl rfl
set_option maxRecDepth 20000 in
theorem pm_told_1 {L : Nat} {xs : Nat → Int32} {a1 : Int32} (h1 : 80 ≤ a1.toInt) : xEv L xs 19 166 0 [.ref 86, .int a1, xmk] [] xhN (some (.int (-1))) xhN := by
  refine ev_go 3 (pc1 := 3) (lv1 := [.ref 86, .int a1, xmk]) (st1 := [.int 3, .int 0, .int a1]) (h1 := xhN) rfl ?_
  refine ev_call (v1 := (some (.int 0))) (h1 := xhN) rfl rfl ?_ ?_
  · refine ev_go 2 (pc1 := 2) (lv1 := [.int a1, .int 0, .int 3]) (st1 := [.int 0, .int a1]) (h1 := xhN) rfl ?_
    refine ev_br (b1 := false) rfl rfl (xcd_nlt (x := a1) (y := 0) (by rw [show ((0 : Int32)).toInt = 0 from by decide]; omega)) ?_
    refine ev_go 2 (pc1 := 7) (lv1 := [.int a1, .int 0, .int 3]) (st1 := [.int 3, .int a1]) (h1 := xhN) rfl ?_
    refine ev_br (b1 := true) rfl rfl (xcd_gt (x := a1) (y := 3) (by rw [show ((3 : Int32)).toInt = 3 from by decide]; omega)) ?_
    refine ev_go 1 (pc1 := 15) (lv1 := [.int a1, .int 0, .int 3]) (st1 := [.int 0]) (h1 := xhN) rfl ?_
    exact ev_ret rfl rfl
  refine ev_go 3 (pc1 := 31) (lv1 := [.ref 86, .int a1, xmk]) (st1 := [.int 10, .int a1]) (h1 := xhN) rfl ?_
  refine ev_go 5 (pc1 := 38) (lv1 := [.ref 86, .int a1, .int (a1 - a1 / 10 * 10)]) (st1 := [.int 29, .int 10, .int a1]) (h1 := xhN) rfl ?_
  refine ev_call (v1 := (some (.int 0))) (h1 := xhN) rfl rfl ?_ ?_
  · refine ev_go 2 (pc1 := 2) (lv1 := [.int a1, .int 10, .int 29]) (st1 := [.int 10, .int a1]) (h1 := xhN) rfl ?_
    refine ev_br (b1 := false) rfl rfl (xcd_nlt (x := a1) (y := 10) (by rw [show ((10 : Int32)).toInt = 10 from by decide]; omega)) ?_
    refine ev_go 2 (pc1 := 7) (lv1 := [.int a1, .int 10, .int 29]) (st1 := [.int 29, .int a1]) (h1 := xhN) rfl ?_
    refine ev_br (b1 := true) rfl rfl (xcd_gt (x := a1) (y := 29) (by rw [show ((29 : Int32)).toInt = 29 from by decide]; omega)) ?_
    refine ev_go 1 (pc1 := 15) (lv1 := [.int a1, .int 10, .int 29]) (st1 := [.int 0]) (h1 := xhN) rfl ?_
    exact ev_ret rfl rfl
  refine ev_go 4 (pc1 := 83) (lv1 := [.ref 86, .int a1, .int (a1 - a1 / 10 * 10)]) (st1 := [.int 79, .int 30, .int a1]) (h1 := xhN) rfl ?_
  refine ev_call (v1 := (some (.int 0))) (h1 := xhN) rfl rfl ?_ ?_
  · refine ev_go 2 (pc1 := 2) (lv1 := [.int a1, .int 30, .int 79]) (st1 := [.int 30, .int a1]) (h1 := xhN) rfl ?_
    refine ev_br (b1 := false) rfl rfl (xcd_nlt (x := a1) (y := 30) (by rw [show ((30 : Int32)).toInt = 30 from by decide]; omega)) ?_
    refine ev_go 2 (pc1 := 7) (lv1 := [.int a1, .int 30, .int 79]) (st1 := [.int 79, .int a1]) (h1 := xhN) rfl ?_
    refine ev_br (b1 := true) rfl rfl (xcd_gt (x := a1) (y := 79) (by rw [show ((79 : Int32)).toInt = 79 from by decide]; omega)) ?_
    refine ev_go 1 (pc1 := 15) (lv1 := [.int a1, .int 30, .int 79]) (st1 := [.int 0]) (h1 := xhN) rfl ?_
    exact ev_ret rfl rfl
  refine ev_go 2 (pc1 := 98) (lv1 := [.ref 86, .int a1, .int (a1 - a1 / 10 * 10)]) (st1 := [.int (-1)]) (h1 := xhN) rfl ?_
  exact ev_ret rfl rfl
set_option maxRecDepth 20000 in
theorem px_feed_0 {L : Nat} {xs : Nat → Int32} {a1 a2 a3 a4 a5 : Int32} : xEv L xs 19 14 0 [.ref 0, .int a1, .int a2, .int a3, .int a4, .int a5] [] xhN (some (.int 20)) (xsetI (xsetI (xsetI (xsetI (xsetI (xsetI (xsetI (xsetI (xsetI (xsetI (xsetI (xsetI (xsetI (xsetI (xsetI (xsetI (xsetI (xsetI (xsetI (xsetI (xsetI (xsetI (xsetI (xsetI (xsetI (xsetI (xsetI (xsetI (xsetI (xsetI (xsetI (xsetI (xsetI (xsetI (xsetI (xsetI (xsetI (xsetI (xsetI (xsetI xhN 2 0 ((a1 >>> (24 &&& 31)) &&& 255)) 1 1 1) 2 1 ((a1 >>> (16 &&& 31)) &&& 255)) 1 1 2) 2 2 ((a1 >>> (8 &&& 31)) &&& 255)) 1 1 3) 2 3 ((a1 >>> (0 &&& 31)) &&& 255)) 1 1 4) 2 4 ((a2 >>> (24 &&& 31)) &&& 255)) 1 1 5) 2 5 ((a2 >>> (16 &&& 31)) &&& 255)) 1 1 6) 2 6 ((a2 >>> (8 &&& 31)) &&& 255)) 1 1 7) 2 7 ((a2 >>> (0 &&& 31)) &&& 255)) 1 1 8) 2 8 ((a3 >>> (24 &&& 31)) &&& 255)) 1 1 9) 2 9 ((a3 >>> (16 &&& 31)) &&& 255)) 1 1 10) 2 10 ((a3 >>> (8 &&& 31)) &&& 255)) 1 1 11) 2 11 ((a3 >>> (0 &&& 31)) &&& 255)) 1 1 12) 2 12 ((a4 >>> (24 &&& 31)) &&& 255)) 1 1 13) 2 13 ((a4 >>> (16 &&& 31)) &&& 255)) 1 1 14) 2 14 ((a4 >>> (8 &&& 31)) &&& 255)) 1 1 15) 2 15 ((a4 >>> (0 &&& 31)) &&& 255)) 1 1 16) 2 16 ((a5 >>> (24 &&& 31)) &&& 255)) 1 1 17) 2 17 ((a5 >>> (16 &&& 31)) &&& 255)) 1 1 18) 2 18 ((a5 >>> (8 &&& 31)) &&& 255)) 1 1 19) 2 19 ((a5 >>> (0 &&& 31)) &&& 255)) 1 1 20) := by
  refine ev_go 8 (pc1 := 21) (lv1 := [.ref 0, .int a1, .int a2, .int a3, .int a4, .int a5]) (st1 := [.int a1, .ref 1]) (h1 := xhN) rfl ?_
  refine ev_call (v1 := none) (h1 := (xsetI (xsetI (xsetI (xsetI (xsetI (xsetI (xsetI (xsetI xhN 2 0 ((a1 >>> (24 &&& 31)) &&& 255)) 1 1 1) 2 1 ((a1 >>> (16 &&& 31)) &&& 255)) 1 1 2) 2 2 ((a1 >>> (8 &&& 31)) &&& 255)) 1 1 3) 2 3 ((a1 >>> (0 &&& 31)) &&& 255)) 1 1 4)) rfl rfl ?_ ?_
  · refine ev_go 19 (pc1 := 36) (lv1 := [.ref 1, .int a1, .int 24]) (st1 := [.int 24, .int a1, .int 0, .ref 2]) (h1 := xhN) rfl ?_
    refine ev_go 29 (pc1 := 36) (lv1 := [.ref 1, .int a1, .int 16]) (st1 := [.int 16, .int a1, .int 1, .ref 2]) (h1 := (xsetI (xsetI xhN 2 0 ((a1 >>> (24 &&& 31)) &&& 255)) 1 1 1)) rfl ?_
    refine ev_go 29 (pc1 := 36) (lv1 := [.ref 1, .int a1, .int 8]) (st1 := [.int 8, .int a1, .int 2, .ref 2]) (h1 := (xsetI (xsetI (xsetI (xsetI xhN 2 0 ((a1 >>> (24 &&& 31)) &&& 255)) 1 1 1) 2 1 ((a1 >>> (16 &&& 31)) &&& 255)) 1 1 2)) rfl ?_
    refine ev_go 29 (pc1 := 36) (lv1 := [.ref 1, .int a1, .int 0]) (st1 := [.int 0, .int a1, .int 3, .ref 2]) (h1 := (xsetI (xsetI (xsetI (xsetI (xsetI (xsetI xhN 2 0 ((a1 >>> (24 &&& 31)) &&& 255)) 1 1 1) 2 1 ((a1 >>> (16 &&& 31)) &&& 255)) 1 1 2) 2 2 ((a1 >>> (8 &&& 31)) &&& 255)) 1 1 3)) rfl ?_
    refine ev_go 14 (pc1 := 58) (lv1 := [.ref 1, .int a1, .int (-8)]) (st1 := []) (h1 := (xsetI (xsetI (xsetI (xsetI (xsetI (xsetI (xsetI (xsetI xhN 2 0 ((a1 >>> (24 &&& 31)) &&& 255)) 1 1 1) 2 1 ((a1 >>> (16 &&& 31)) &&& 255)) 1 1 2) 2 2 ((a1 >>> (8 &&& 31)) &&& 255)) 1 1 3) 2 3 ((a1 >>> (0 &&& 31)) &&& 255)) 1 1 4)) rfl ?_
    exact ev_ret rfl rfl
  refine ev_go 3 (pc1 := 29) (lv1 := [.ref 0, .int a1, .int a2, .int a3, .int a4, .int a5]) (st1 := [.int a2, .ref 1]) (h1 := (xsetI (xsetI (xsetI (xsetI (xsetI (xsetI (xsetI (xsetI xhN 2 0 ((a1 >>> (24 &&& 31)) &&& 255)) 1 1 1) 2 1 ((a1 >>> (16 &&& 31)) &&& 255)) 1 1 2) 2 2 ((a1 >>> (8 &&& 31)) &&& 255)) 1 1 3) 2 3 ((a1 >>> (0 &&& 31)) &&& 255)) 1 1 4)) rfl ?_
  refine ev_call (v1 := none) (h1 := (xsetI (xsetI (xsetI (xsetI (xsetI (xsetI (xsetI (xsetI (xsetI (xsetI (xsetI (xsetI (xsetI (xsetI (xsetI (xsetI xhN 2 0 ((a1 >>> (24 &&& 31)) &&& 255)) 1 1 1) 2 1 ((a1 >>> (16 &&& 31)) &&& 255)) 1 1 2) 2 2 ((a1 >>> (8 &&& 31)) &&& 255)) 1 1 3) 2 3 ((a1 >>> (0 &&& 31)) &&& 255)) 1 1 4) 2 4 ((a2 >>> (24 &&& 31)) &&& 255)) 1 1 5) 2 5 ((a2 >>> (16 &&& 31)) &&& 255)) 1 1 6) 2 6 ((a2 >>> (8 &&& 31)) &&& 255)) 1 1 7) 2 7 ((a2 >>> (0 &&& 31)) &&& 255)) 1 1 8)) rfl rfl ?_ ?_
  · refine ev_go 19 (pc1 := 36) (lv1 := [.ref 1, .int a2, .int 24]) (st1 := [.int 24, .int a2, .int 4, .ref 2]) (h1 := (xsetI (xsetI (xsetI (xsetI (xsetI (xsetI (xsetI (xsetI xhN 2 0 ((a1 >>> (24 &&& 31)) &&& 255)) 1 1 1) 2 1 ((a1 >>> (16 &&& 31)) &&& 255)) 1 1 2) 2 2 ((a1 >>> (8 &&& 31)) &&& 255)) 1 1 3) 2 3 ((a1 >>> (0 &&& 31)) &&& 255)) 1 1 4)) rfl ?_
    refine ev_go 29 (pc1 := 36) (lv1 := [.ref 1, .int a2, .int 16]) (st1 := [.int 16, .int a2, .int 5, .ref 2]) (h1 := (xsetI (xsetI (xsetI (xsetI (xsetI (xsetI (xsetI (xsetI (xsetI (xsetI xhN 2 0 ((a1 >>> (24 &&& 31)) &&& 255)) 1 1 1) 2 1 ((a1 >>> (16 &&& 31)) &&& 255)) 1 1 2) 2 2 ((a1 >>> (8 &&& 31)) &&& 255)) 1 1 3) 2 3 ((a1 >>> (0 &&& 31)) &&& 255)) 1 1 4) 2 4 ((a2 >>> (24 &&& 31)) &&& 255)) 1 1 5)) rfl ?_
    refine ev_go 29 (pc1 := 36) (lv1 := [.ref 1, .int a2, .int 8]) (st1 := [.int 8, .int a2, .int 6, .ref 2]) (h1 := (xsetI (xsetI (xsetI (xsetI (xsetI (xsetI (xsetI (xsetI (xsetI (xsetI (xsetI (xsetI xhN 2 0 ((a1 >>> (24 &&& 31)) &&& 255)) 1 1 1) 2 1 ((a1 >>> (16 &&& 31)) &&& 255)) 1 1 2) 2 2 ((a1 >>> (8 &&& 31)) &&& 255)) 1 1 3) 2 3 ((a1 >>> (0 &&& 31)) &&& 255)) 1 1 4) 2 4 ((a2 >>> (24 &&& 31)) &&& 255)) 1 1 5) 2 5 ((a2 >>> (16 &&& 31)) &&& 255)) 1 1 6)) rfl ?_
    refine ev_go 29 (pc1 := 36) (lv1 := [.ref 1, .int a2, .int 0]) (st1 := [.int 0, .int a2, .int 7, .ref 2]) (h1 := (xsetI (xsetI (xsetI (xsetI (xsetI (xsetI (xsetI (xsetI (xsetI (xsetI (xsetI (xsetI (xsetI (xsetI xhN 2 0 ((a1 >>> (24 &&& 31)) &&& 255)) 1 1 1) 2 1 ((a1 >>> (16 &&& 31)) &&& 255)) 1 1 2) 2 2 ((a1 >>> (8 &&& 31)) &&& 255)) 1 1 3) 2 3 ((a1 >>> (0 &&& 31)) &&& 255)) 1 1 4) 2 4 ((a2 >>> (24 &&& 31)) &&& 255)) 1 1 5) 2 5 ((a2 >>> (16 &&& 31)) &&& 255)) 1 1 6) 2 6 ((a2 >>> (8 &&& 31)) &&& 255)) 1 1 7)) rfl ?_
    refine ev_go 14 (pc1 := 58) (lv1 := [.ref 1, .int a2, .int (-8)]) (st1 := []) (h1 := (xsetI (xsetI (xsetI (xsetI (xsetI (xsetI (xsetI (xsetI (xsetI (xsetI (xsetI (xsetI (xsetI (xsetI (xsetI (xsetI xhN 2 0 ((a1 >>> (24 &&& 31)) &&& 255)) 1 1 1) 2 1 ((a1 >>> (16 &&& 31)) &&& 255)) 1 1 2) 2 2 ((a1 >>> (8 &&& 31)) &&& 255)) 1 1 3) 2 3 ((a1 >>> (0 &&& 31)) &&& 255)) 1 1 4) 2 4 ((a2 >>> (24 &&& 31)) &&& 255)) 1 1 5) 2 5 ((a2 >>> (16 &&& 31)) &&& 255)) 1 1 6) 2 6 ((a2 >>> (8 &&& 31)) &&& 255)) 1 1 7) 2 7 ((a2 >>> (0 &&& 31)) &&& 255)) 1 1 8)) rfl ?_
    exact ev_ret rfl rfl
  refine ev_go 3 (pc1 := 37) (lv1 := [.ref 0, .int a1, .int a2, .int a3, .int a4, .int a5]) (st1 := [.int a3, .ref 1]) (h1 := (xsetI (xsetI (xsetI (xsetI (xsetI (xsetI (xsetI (xsetI (xsetI (xsetI (xsetI (xsetI (xsetI (xsetI (xsetI (xsetI xhN 2 0 ((a1 >>> (24 &&& 31)) &&& 255)) 1 1 1) 2 1 ((a1 >>> (16 &&& 31)) &&& 255)) 1 1 2) 2 2 ((a1 >>> (8 &&& 31)) &&& 255)) 1 1 3) 2 3 ((a1 >>> (0 &&& 31)) &&& 255)) 1 1 4) 2 4 ((a2 >>> (24 &&& 31)) &&& 255)) 1 1 5) 2 5 ((a2 >>> (16 &&& 31)) &&& 255)) 1 1 6) 2 6 ((a2 >>> (8 &&& 31)) &&& 255)) 1 1 7) 2 7 ((a2 >>> (0 &&& 31)) &&& 255)) 1 1 8)) rfl ?_
  refine ev_call (v1 := none) (h1 := (xsetI (xsetI (xsetI (xsetI (xsetI (xsetI (xsetI (xsetI (xsetI (xsetI (xsetI (xsetI (xsetI (xsetI (xsetI (xsetI (xsetI (xsetI (xsetI (xsetI (xsetI (xsetI (xsetI (xsetI xhN 2 0 ((a1 >>> (24 &&& 31)) &&& 255)) 1 1 1) 2 1 ((a1 >>> (16 &&& 31)) &&& 255)) 1 1 2) 2 2 ((a1 >>> (8 &&& 31)) &&& 255)) 1 1 3) 2 3 ((a1 >>> (0 &&& 31)) &&& 255)) 1 1 4) 2 4 ((a2 >>> (24 &&& 31)) &&& 255)) 1 1 5) 2 5 ((a2 >>> (16 &&& 31)) &&& 255)) 1 1 6) 2 6 ((a2 >>> (8 &&& 31)) &&& 255)) 1 1 7) 2 7 ((a2 >>> (0 &&& 31)) &&& 255)) 1 1 8) 2 8 ((a3 >>> (24 &&& 31)) &&& 255)) 1 1 9) 2 9 ((a3 >>> (16 &&& 31)) &&& 255)) 1 1 10) 2 10 ((a3 >>> (8 &&& 31)) &&& 255)) 1 1 11) 2 11 ((a3 >>> (0 &&& 31)) &&& 255)) 1 1 12)) rfl rfl ?_ ?_
  · refine ev_go 19 (pc1 := 36) (lv1 := [.ref 1, .int a3, .int 24]) (st1 := [.int 24, .int a3, .int 8, .ref 2]) (h1 := (xsetI (xsetI (xsetI (xsetI (xsetI (xsetI (xsetI (xsetI (xsetI (xsetI (xsetI (xsetI (xsetI (xsetI (xsetI (xsetI xhN 2 0 ((a1 >>> (24 &&& 31)) &&& 255)) 1 1 1) 2 1 ((a1 >>> (16 &&& 31)) &&& 255)) 1 1 2) 2 2 ((a1 >>> (8 &&& 31)) &&& 255)) 1 1 3) 2 3 ((a1 >>> (0 &&& 31)) &&& 255)) 1 1 4) 2 4 ((a2 >>> (24 &&& 31)) &&& 255)) 1 1 5) 2 5 ((a2 >>> (16 &&& 31)) &&& 255)) 1 1 6) 2 6 ((a2 >>> (8 &&& 31)) &&& 255)) 1 1 7) 2 7 ((a2 >>> (0 &&& 31)) &&& 255)) 1 1 8)) rfl ?_
    refine ev_go 29 (pc1 := 36) (lv1 := [.ref 1, .int a3, .int 16]) (st1 := [.int 16, .int a3, .int 9, .ref 2]) (h1 := (xsetI (xsetI (xsetI (xsetI (xsetI (xsetI (xsetI (xsetI (xsetI (xsetI (xsetI (xsetI (xsetI (xsetI (xsetI (xsetI (xsetI (xsetI xhN 2 0 ((a1 >>> (24 &&& 31)) &&& 255)) 1 1 1) 2 1 ((a1 >>> (16 &&& 31)) &&& 255)) 1 1 2) 2 2 ((a1 >>> (8 &&& 31)) &&& 255)) 1 1 3) 2 3 ((a1 >>> (0 &&& 31)) &&& 255)) 1 1 4) 2 4 ((a2 >>> (24 &&& 31)) &&& 255)) 1 1 5) 2 5 ((a2 >>> (16 &&& 31)) &&& 255)) 1 1 6) 2 6 ((a2 >>> (8 &&& 31)) &&& 255)) 1 1 7) 2 7 ((a2 >>> (0 &&& 31)) &&& 255)) 1 1 8) 2 8 ((a3 >>> (24 &&& 31)) &&& 255)) 1 1 9)) rfl ?_
    refine ev_go 29 (pc1 := 36) (lv1 := [.ref 1, .int a3, .int 8]) (st1 := [.int 8, .int a3, .int 10, .ref 2]) (h1 := (xsetI (xsetI (xsetI (xsetI (xsetI (xsetI (xsetI (xsetI (xsetI (xsetI (xsetI (xsetI (xsetI (xsetI (xsetI (xsetI (xsetI (xsetI (xsetI (xsetI xhN 2 0 ((a1 >>> (24 &&& 31)) &&& 255)) 1 1 1) 2 1 ((a1 >>> (16 &&& 31)) &&& 255)) 1 1 2) 2 2 ((a1 >>> (8 &&& 31)) &&& 255)) 1 1 3) 2 3 ((a1 >>> (0 &&& 31)) &&& 255)) 1 1 4) 2 4 ((a2 >>> (24 &&& 31)) &&& 255)) 1 1 5) 2 5 ((a2 >>> (16 &&& 31)) &&& 255)) 1 1 6) 2 6 ((a2 >>> (8 &&& 31)) &&& 255)) 1 1 7) 2 7 ((a2 >>> (0 &&& 31)) &&& 255)) 1 1 8) 2 8 ((a3 >>> (24 &&& 31)) &&& 255)) 1 1 9) 2 9 ((a3 >>> (16 &&& 31)) &&& 255)) 1 1 10)) rfl ?_
    refine ev_go 29 (pc1 := 36) (lv1 := [.ref 1, .int a3, .int 0]) (st1 := [.int 0, .int a3, .int 11, .ref 2]) (h1 := (xsetI (xsetI (xsetI (xsetI (xsetI (xsetI (xsetI (xsetI (xsetI (xsetI (xsetI (xsetI (xsetI (xsetI (xsetI (xsetI (xsetI (xsetI (xsetI (xsetI (xsetI (xsetI xhN 2 0 ((a1 >>> (24 &&& 31)) &&& 255)) 1 1 1) 2 1 ((a1 >>> (16 &&& 31)) &&& 255)) 1 1 2) 2 2 ((a1 >>> (8 &&& 31)) &&& 255)) 1 1 3) 2 3 ((a1 >>> (0 &&& 31)) &&& 255)) 1 1 4) 2 4 ((a2 >>> (24 &&& 31)) &&& 255)) 1 1 5) 2 5 ((a2 >>> (16 &&& 31)) &&& 255)) 1 1 6) 2 6 ((a2 >>> (8 &&& 31)) &&& 255)) 1 1 7) 2 7 ((a2 >>> (0 &&& 31)) &&& 255)) 1 1 8) 2 8 ((a3 >>> (24 &&& 31)) &&& 255)) 1 1 9) 2 9 ((a3 >>> (16 &&& 31)) &&& 255)) 1 1 10) 2 10 ((a3 >>> (8 &&& 31)) &&& 255)) 1 1 11)) rfl ?_
    refine ev_go 14 (pc1 := 58) (lv1 := [.ref 1, .int a3, .int (-8)]) (st1 := []) (h1 := (xsetI (xsetI (xsetI (xsetI (xsetI (xsetI (xsetI (xsetI (xsetI (xsetI (xsetI (xsetI (xsetI (xsetI (xsetI (xsetI (xsetI (xsetI (xsetI (xsetI (xsetI (xsetI (xsetI (xsetI xhN 2 0 ((a1 >>> (24 &&& 31)) &&& 255)) 1 1 1) 2 1 ((a1 >>> (16 &&& 31)) &&& 255)) 1 1 2) 2 2 ((a1 >>> (8 &&& 31)) &&& 255)) 1 1 3) 2 3 ((a1 >>> (0 &&& 31)) &&& 255)) 1 1 4) 2 4 ((a2 >>> (24 &&& 31)) &&& 255)) 1 1 5) 2 5 ((a2 >>> (16 &&& 31)) &&& 255)) 1 1 6) 2 6 ((a2 >>> (8 &&& 31)) &&& 255)) 1 1 7) 2 7 ((a2 >>> (0 &&& 31)) &&& 255)) 1 1 8) 2 8 ((a3 >>> (24 &&& 31)) &&& 255)) 1 1 9) 2 9 ((a3 >>> (16 &&& 31)) &&& 255)) 1 1 10) 2 10 ((a3 >>> (8 &&& 31)) &&& 255)) 1 1 11) 2 11 ((a3 >>> (0 &&& 31)) &&& 255)) 1 1 12)) rfl ?_
    exact ev_ret rfl rfl
  refine ev_go 3 (pc1 := 46) (lv1 := [.ref 0, .int a1, .int a2, .int a3, .int a4, .int a5]) (st1 := [.int a4, .ref 1]) (h1 := (xsetI (xsetI (xsetI (xsetI (xsetI (xsetI (xsetI (xsetI (xsetI (xsetI (xsetI (xsetI (xsetI (xsetI (xsetI (xsetI (xsetI (xsetI (xsetI (xsetI (xsetI (xsetI (xsetI (xsetI xhN 2 0 ((a1 >>> (24 &&& 31)) &&& 255)) 1 1 1) 2 1 ((a1 >>> (16 &&& 31)) &&& 255)) 1 1 2) 2 2 ((a1 >>> (8 &&& 31)) &&& 255)) 1 1 3) 2 3 ((a1 >>> (0 &&& 31)) &&& 255)) 1 1 4) 2 4 ((a2 >>> (24 &&& 31)) &&& 255)) 1 1 5) 2 5 ((a2 >>> (16 &&& 31)) &&& 255)) 1 1 6) 2 6 ((a2 >>> (8 &&& 31)) &&& 255)) 1 1 7) 2 7 ((a2 >>> (0 &&& 31)) &&& 255)) 1 1 8) 2 8 ((a3 >>> (24 &&& 31)) &&& 255)) 1 1 9) 2 9 ((a3 >>> (16 &&& 31)) &&& 255)) 1 1 10) 2 10 ((a3 >>> (8 &&& 31)) &&& 255)) 1 1 11) 2 11 ((a3 >>> (0 &&& 31)) &&& 255)) 1 1 12)) rfl ?_
  refine ev_call (v1 := none) (h1 := (xsetI (xsetI (xsetI (xsetI (xsetI (xsetI (xsetI (xsetI (xsetI (xsetI (xsetI (xsetI (xsetI (xsetI (xsetI (xsetI (xsetI (xsetI (xsetI (xsetI (xsetI (xsetI (xsetI (xsetI (xsetI (xsetI (xsetI (xsetI (xsetI (xsetI (xsetI (xsetI xhN 2 0 ((a1 >>> (24 &&& 31)) &&& 255)) 1 1 1) 2 1 ((a1 >>> (16 &&& 31)) &&& 255)) 1 1 2) 2 2 ((a1 >>> (8 &&& 31)) &&& 255)) 1 1 3) 2 3 ((a1 >>> (0 &&& 31)) &&& 255)) 1 1 4) 2 4 ((a2 >>> (24 &&& 31)) &&& 255)) 1 1 5) 2 5 ((a2 >>> (16 &&& 31)) &&& 255)) 1 1 6) 2 6 ((a2 >>> (8 &&& 31)) &&& 255)) 1 1 7) 2 7 ((a2 >>> (0 &&& 31)) &&& 255)) 1 1 8) 2 8 ((a3 >>> (24 &&& 31)) &&& 255)) 1 1 9) 2 9 ((a3 >>> (16 &&& 31)) &&& 255)) 1 1 10) 2 10 ((a3 >>> (8 &&& 31)) &&& 255)) 1 1 11) 2 11 ((a3 >>> (0 &&& 31)) &&& 255)) 1 1 12) 2 12 ((a4 >>> (24 &&& 31)) &&& 255)) 1 1 13) 2 13 ((a4 >>> (16 &&& 31)) &&& 255)) 1 1 14) 2 14 ((a4 >>> (8 &&& 31)) &&& 255)) 1 1 15) 2 15 ((a4 >>> (0 &&& 31)) &&& 255)) 1 1 16)) rfl rfl ?_ ?_
  · refine ev_go 19 (pc1 := 36) (lv1 := [.ref 1, .int a4, .int 24]) (st1 := [.int 24, .int a4, .int 12, .ref 2]) (h1 := (xsetI (xsetI (xsetI (xsetI (xsetI (xsetI (xsetI (xsetI (xsetI (xsetI (xsetI (xsetI (xsetI (xsetI (xsetI (xsetI (xsetI (xsetI (xsetI (xsetI (xsetI (xsetI (xsetI (xsetI xhN 2 0 ((a1 >>> (24 &&& 31)) &&& 255)) 1 1 1) 2 1 ((a1 >>> (16 &&& 31)) &&& 255)) 1 1 2) 2 2 ((a1 >>> (8 &&& 31)) &&& 255)) 1 1 3) 2 3 ((a1 >>> (0 &&& 31)) &&& 255)) 1 1 4) 2 4 ((a2 >>> (24 &&& 31)) &&& 255)) 1 1 5) 2 5 ((a2 >>> (16 &&& 31)) &&& 255)) 1 1 6) 2 6 ((a2 >>> (8 &&& 31)) &&& 255)) 1 1 7) 2 7 ((a2 >>> (0 &&& 31)) &&& 255)) 1 1 8) 2 8 ((a3 >>> (24 &&& 31)) &&& 255)) 1 1 9) 2 9 ((a3 >>> (16 &&& 31)) &&& 255)) 1 1 10) 2 10 ((a3 >>> (8 &&& 31)) &&& 255)) 1 1 11) 2 11 ((a3 >>> (0 &&& 31)) &&& 255)) 1 1 12)) rfl ?_
    refine ev_go 29 (pc1 := 36) (lv1 := [.ref 1, .int a4, .int 16]) (st1 := [.int 16, .int a4, .int 13, .ref 2]) (h1 := (xsetI (xsetI (xsetI (xsetI (xsetI (xsetI (xsetI (xsetI (xsetI (xsetI (xsetI (xsetI (xsetI (xsetI (xsetI (xsetI (xsetI (xsetI (xsetI (xsetI (xsetI (xsetI (xsetI (xsetI (xsetI (xsetI xhN 2 0 ((a1 >>> (24 &&& 31)) &&& 255)) 1 1 1) 2 1 ((a1 >>> (16 &&& 31)) &&& 255)) 1 1 2) 2 2 ((a1 >>> (8 &&& 31)) &&& 255)) 1 1 3) 2 3 ((a1 >>> (0 &&& 31)) &&& 255)) 1 1 4) 2 4 ((a2 >>> (24 &&& 31)) &&& 255)) 1 1 5) 2 5 ((a2 >>> (16 &&& 31)) &&& 255)) 1 1 6) 2 6 ((a2 >>> (8 &&& 31)) &&& 255)) 1 1 7) 2 7 ((a2 >>> (0 &&& 31)) &&& 255)) 1 1 8) 2 8 ((a3 >>> (24 &&& 31)) &&& 255)) 1 1 9) 2 9 ((a3 >>> (16 &&& 31)) &&& 255)) 1 1 10) 2 10 ((a3 >>> (8 &&& 31)) &&& 255)) 1 1 11) 2 11 ((a3 >>> (0 &&& 31)) &&& 255)) 1 1 12) 2 12 ((a4 >>> (24 &&& 31)) &&& 255)) 1 1 13)) rfl ?_
    refine ev_go 29 (pc1 := 36) (lv1 := [.ref 1, .int a4, .int 8]) (st1 := [.int 8, .int a4, .int 14, .ref 2]) (h1 := (xsetI (xsetI (xsetI (xsetI (xsetI (xsetI (xsetI (xsetI (xsetI (xsetI (xsetI (xsetI (xsetI (xsetI (xsetI (xsetI (xsetI (xsetI (xsetI (xsetI (xsetI (xsetI (xsetI (xsetI (xsetI (xsetI (xsetI (xsetI xhN 2 0 ((a1 >>> (24 &&& 31)) &&& 255)) 1 1 1) 2 1 ((a1 >>> (16 &&& 31)) &&& 255)) 1 1 2) 2 2 ((a1 >>> (8 &&& 31)) &&& 255)) 1 1 3) 2 3 ((a1 >>> (0 &&& 31)) &&& 255)) 1 1 4) 2 4 ((a2 >>> (24 &&& 31)) &&& 255)) 1 1 5) 2 5 ((a2 >>> (16 &&& 31)) &&& 255)) 1 1 6) 2 6 ((a2 >>> (8 &&& 31)) &&& 255)) 1 1 7) 2 7 ((a2 >>> (0 &&& 31)) &&& 255)) 1 1 8) 2 8 ((a3 >>> (24 &&& 31)) &&& 255)) 1 1 9) 2 9 ((a3 >>> (16 &&& 31)) &&& 255)) 1 1 10) 2 10 ((a3 >>> (8 &&& 31)) &&& 255)) 1 1 11) 2 11 ((a3 >>> (0 &&& 31)) &&& 255)) 1 1 12) 2 12 ((a4 >>> (24 &&& 31)) &&& 255)) 1 1 13) 2 13 ((a4 >>> (16 &&& 31)) &&& 255)) 1 1 14)) rfl ?_
    refine ev_go 29 (pc1 := 36) (lv1 := [.ref 1, .int a4, .int 0]) (st1 := [.int 0, .int a4, .int 15, .ref 2]) (h1 := (xsetI (xsetI (xsetI (xsetI (xsetI (xsetI (xsetI (xsetI (xsetI (xsetI (xsetI (xsetI (xsetI (xsetI (xsetI (xsetI (xsetI (xsetI (xsetI (xsetI (xsetI (xsetI (xsetI (xsetI (xsetI (xsetI (xsetI (xsetI (xsetI (xsetI xhN 2 0 ((a1 >>> (24 &&& 31)) &&& 255)) 1 1 1) 2 1 ((a1 >>> (16 &&& 31)) &&& 255)) 1 1 2) 2 2 ((a1 >>> (8 &&& 31)) &&& 255)) 1 1 3) 2 3 ((a1 >>> (0 &&& 31)) &&& 255)) 1 1 4) 2 4 ((a2 >>> (24 &&& 31)) &&& 255)) 1 1 5) 2 5 ((a2 >>> (16 &&& 31)) &&& 255)) 1 1 6) 2 6 ((a2 >>> (8 &&& 31)) &&& 255)) 1 1 7) 2 7 ((a2 >>> (0 &&& 31)) &&& 255)) 1 1 8) 2 8 ((a3 >>> (24 &&& 31)) &&& 255)) 1 1 9) 2 9 ((a3 >>> (16 &&& 31)) &&& 255)) 1 1 10) 2 10 ((a3 >>> (8 &&& 31)) &&& 255)) 1 1 11) 2 11 ((a3 >>> (0 &&& 31)) &&& 255)) 1 1 12) 2 12 ((a4 >>> (24 &&& 31)) &&& 255)) 1 1 13) 2 13 ((a4 >>> (16 &&& 31)) &&& 255)) 1 1 14) 2 14 ((a4 >>> (8 &&& 31)) &&& 255)) 1 1 15)) rfl ?_
    refine ev_go 14 (pc1 := 58) (lv1 := [.ref 1, .int a4, .int (-8)]) (st1 := []) (h1 := (xsetI (xsetI (xsetI (xsetI (xsetI (xsetI (xsetI (xsetI (xsetI (xsetI (xsetI (xsetI (xsetI (xsetI (xsetI (xsetI (xsetI (xsetI (xsetI (xsetI (xsetI (xsetI (xsetI (xsetI (xsetI (xsetI (xsetI (xsetI (xsetI (xsetI (xsetI (xsetI xhN 2 0 ((a1 >>> (24 &&& 31)) &&& 255)) 1 1 1) 2 1 ((a1 >>> (16 &&& 31)) &&& 255)) 1 1 2) 2 2 ((a1 >>> (8 &&& 31)) &&& 255)) 1 1 3) 2 3 ((a1 >>> (0 &&& 31)) &&& 255)) 1 1 4) 2 4 ((a2 >>> (24 &&& 31)) &&& 255)) 1 1 5) 2 5 ((a2 >>> (16 &&& 31)) &&& 255)) 1 1 6) 2 6 ((a2 >>> (8 &&& 31)) &&& 255)) 1 1 7) 2 7 ((a2 >>> (0 &&& 31)) &&& 255)) 1 1 8) 2 8 ((a3 >>> (24 &&& 31)) &&& 255)) 1 1 9) 2 9 ((a3 >>> (16 &&& 31)) &&& 255)) 1 1 10) 2 10 ((a3 >>> (8 &&& 31)) &&& 255)) 1 1 11) 2 11 ((a3 >>> (0 &&& 31)) &&& 255)) 1 1 12) 2 12 ((a4 >>> (24 &&& 31)) &&& 255)) 1 1 13) 2 13 ((a4 >>> (16 &&& 31)) &&& 255)) 1 1 14) 2 14 ((a4 >>> (8 &&& 31)) &&& 255)) 1 1 15) 2 15 ((a4 >>> (0 &&& 31)) &&& 255)) 1 1 16)) rfl ?_
    exact ev_ret rfl rfl
  refine ev_go 3 (pc1 := 55) (lv1 := [.ref 0, .int a1, .int a2, .int a3, .int a4, .int a5]) (st1 := [.int a5, .ref 1]) (h1 := (xsetI (xsetI (xsetI (xsetI (xsetI (xsetI (xsetI (xsetI (xsetI (xsetI (xsetI (xsetI (xsetI (xsetI (xsetI (xsetI (xsetI (xsetI (xsetI (xsetI (xsetI (xsetI (xsetI (xsetI (xsetI (xsetI (xsetI (xsetI (xsetI (xsetI (xsetI (xsetI xhN 2 0 ((a1 >>> (24 &&& 31)) &&& 255)) 1 1 1) 2 1 ((a1 >>> (16 &&& 31)) &&& 255)) 1 1 2) 2 2 ((a1 >>> (8 &&& 31)) &&& 255)) 1 1 3) 2 3 ((a1 >>> (0 &&& 31)) &&& 255)) 1 1 4) 2 4 ((a2 >>> (24 &&& 31)) &&& 255)) 1 1 5) 2 5 ((a2 >>> (16 &&& 31)) &&& 255)) 1 1 6) 2 6 ((a2 >>> (8 &&& 31)) &&& 255)) 1 1 7) 2 7 ((a2 >>> (0 &&& 31)) &&& 255)) 1 1 8) 2 8 ((a3 >>> (24 &&& 31)) &&& 255)) 1 1 9) 2 9 ((a3 >>> (16 &&& 31)) &&& 255)) 1 1 10) 2 10 ((a3 >>> (8 &&& 31)) &&& 255)) 1 1 11) 2 11 ((a3 >>> (0 &&& 31)) &&& 255)) 1 1 12) 2 12 ((a4 >>> (24 &&& 31)) &&& 255)) 1 1 13) 2 13 ((a4 >>> (16 &&& 31)) &&& 255)) 1 1 14) 2 14 ((a4 >>> (8 &&& 31)) &&& 255)) 1 1 15) 2 15 ((a4 >>> (0 &&& 31)) &&& 255)) 1 1 16)) rfl ?_
  refine ev_call (v1 := none) (h1 := (xsetI (xsetI (xsetI (xsetI (xsetI (xsetI (xsetI (xsetI (xsetI (xsetI (xsetI (xsetI (xsetI (xsetI (xsetI (xsetI (xsetI (xsetI (xsetI (xsetI (xsetI (xsetI (xsetI (xsetI (xsetI (xsetI (xsetI (xsetI (xsetI (xsetI (xsetI (xsetI (xsetI (xsetI (xsetI (xsetI (xsetI (xsetI (xsetI (xsetI xhN 2 0 ((a1 >>> (24 &&& 31)) &&& 255)) 1 1 1) 2 1 ((a1 >>> (16 &&& 31)) &&& 255)) 1 1 2) 2 2 ((a1 >>> (8 &&& 31)) &&& 255)) 1 1 3) 2 3 ((a1 >>> (0 &&& 31)) &&& 255)) 1 1 4) 2 4 ((a2 >>> (24 &&& 31)) &&& 255)) 1 1 5) 2 5 ((a2 >>> (16 &&& 31)) &&& 255)) 1 1 6) 2 6 ((a2 >>> (8 &&& 31)) &&& 255)) 1 1 7) 2 7 ((a2 >>> (0 &&& 31)) &&& 255)) 1 1 8) 2 8 ((a3 >>> (24 &&& 31)) &&& 255)) 1 1 9) 2 9 ((a3 >>> (16 &&& 31)) &&& 255)) 1 1 10) 2 10 ((a3 >>> (8 &&& 31)) &&& 255)) 1 1 11) 2 11 ((a3 >>> (0 &&& 31)) &&& 255)) 1 1 12) 2 12 ((a4 >>> (24 &&& 31)) &&& 255)) 1 1 13) 2 13 ((a4 >>> (16 &&& 31)) &&& 255)) 1 1 14) 2 14 ((a4 >>> (8 &&& 31)) &&& 255)) 1 1 15) 2 15 ((a4 >>> (0 &&& 31)) &&& 255)) 1 1 16) 2 16 ((a5 >>> (24 &&& 31)) &&& 255)) 1 1 17) 2 17 ((a5 >>> (16 &&& 31)) &&& 255)) 1 1 18) 2 18 ((a5 >>> (8 &&& 31)) &&& 255)) 1 1 19) 2 19 ((a5 >>> (0 &&& 31)) &&& 255)) 1 1 20)) rfl rfl ?_ ?_
  · refine ev_go 19 (pc1 := 36) (lv1 := [.ref 1, .int a5, .int 24]) (st1 := [.int 24, .int a5, .int 16, .ref 2]) (h1 := (xsetI (xsetI (xsetI (xsetI (xsetI (xsetI (xsetI (xsetI (xsetI (xsetI (xsetI (xsetI (xsetI (xsetI (xsetI (xsetI (xsetI (xsetI (xsetI (xsetI (xsetI (xsetI (xsetI (xsetI (xsetI (xsetI (xsetI (xsetI (xsetI (xsetI (xsetI (xsetI xhN 2 0 ((a1 >>> (24 &&& 31)) &&& 255)) 1 1 1) 2 1 ((a1 >>> (16 &&& 31)) &&& 255)) 1 1 2) 2 2 ((a1 >>> (8 &&& 31)) &&& 255)) 1 1 3) 2 3 ((a1 >>> (0 &&& 31)) &&& 255)) 1 1 4) 2 4 ((a2 >>> (24 &&& 31)) &&& 255)) 1 1 5) 2 5 ((a2 >>> (16 &&& 31)) &&& 255)) 1 1 6) 2 6 ((a2 >>> (8 &&& 31)) &&& 255)) 1 1 7) 2 7 ((a2 >>> (0 &&& 31)) &&& 255)) 1 1 8) 2 8 ((a3 >>> (24 &&& 31)) &&& 255)) 1 1 9) 2 9 ((a3 >>> (16 &&& 31)) &&& 255)) 1 1 10) 2 10 ((a3 >>> (8 &&& 31)) &&& 255)) 1 1 11) 2 11 ((a3 >>> (0 &&& 31)) &&& 255)) 1 1 12) 2 12 ((a4 >>> (24 &&& 31)) &&& 255)) 1 1 13) 2 13 ((a4 >>> (16 &&& 31)) &&& 255)) 1 1 14) 2 14 ((a4 >>> (8 &&& 31)) &&& 255)) 1 1 15) 2 15 ((a4 >>> (0 &&& 31)) &&& 255)) 1 1 16)) rfl ?_
    refine ev_go 29 (pc1 := 36) (lv1 := [.ref 1, .int a5, .int 16]) (st1 := [.int 16, .int a5, .int 17, .ref 2]) (h1 := (xsetI (xsetI (xsetI (xsetI (xsetI (xsetI (xsetI (xsetI (xsetI (xsetI (xsetI (xsetI (xsetI (xsetI (xsetI (xsetI (xsetI (xsetI (xsetI (xsetI (xsetI (xsetI (xsetI (xsetI (xsetI (xsetI (xsetI (xsetI (xsetI (xsetI (xsetI (xsetI (xsetI (xsetI xhN 2 0 ((a1 >>> (24 &&& 31)) &&& 255)) 1 1 1) 2 1 ((a1 >>> (16 &&& 31)) &&& 255)) 1 1 2) 2 2 ((a1 >>> (8 &&& 31)) &&& 255)) 1 1 3) 2 3 ((a1 >>> (0 &&& 31)) &&& 255)) 1 1 4) 2 4 ((a2 >>> (24 &&& 31)) &&& 255)) 1 1 5) 2 5 ((a2 >>> (16 &&& 31)) &&& 255)) 1 1 6) 2 6 ((a2 >>> (8 &&& 31)) &&& 255)) 1 1 7) 2 7 ((a2 >>> (0 &&& 31)) &&& 255)) 1 1 8) 2 8 ((a3 >>> (24 &&& 31)) &&& 255)) 1 1 9) 2 9 ((a3 >>> (16 &&& 31)) &&& 255)) 1 1 10) 2 10 ((a3 >>> (8 &&& 31)) &&& 255)) 1 1 11) 2 11 ((a3 >>> (0 &&& 31)) &&& 255)) 1 1 12) 2 12 ((a4 >>> (24 &&& 31)) &&& 255)) 1 1 13) 2 13 ((a4 >>> (16 &&& 31)) &&& 255)) 1 1 14) 2 14 ((a4 >>> (8 &&& 31)) &&& 255)) 1 1 15) 2 15 ((a4 >>> (0 &&& 31)) &&& 255)) 1 1 16) 2 16 ((a5 >>> (24 &&& 31)) &&& 255)) 1 1 17)) rfl ?_
    refine ev_go 29 (pc1 := 36) (lv1 := [.ref 1, .int a5, .int 8]) (st1 := [.int 8, .int a5, .int 18, .ref 2]) (h1 := (xsetI (xsetI (xsetI (xsetI (xsetI (xsetI (xsetI (xsetI (xsetI (xsetI (xsetI (xsetI (xsetI (xsetI (xsetI (xsetI (xsetI (xsetI (xsetI (xsetI (xsetI (xsetI (xsetI (xsetI (xsetI (xsetI (xsetI (xsetI (xsetI (xsetI (xsetI (xsetI (xsetI (xsetI (xsetI (xsetI xhN 2 0 ((a1 >>> (24 &&& 31)) &&& 255)) 1 1 1) 2 1 ((a1 >>> (16 &&& 31)) &&& 255)) 1 1 2) 2 2 ((a1 >>> (8 &&& 31)) &&& 255)) 1 1 3) 2 3 ((a1 >>> (0 &&& 31)) &&& 255)) 1 1 4) 2 4 ((a2 >>> (24 &&& 31)) &&& 255)) 1 1 5) 2 5 ((a2 >>> (16 &&& 31)) &&& 255)) 1 1 6) 2 6 ((a2 >>> (8 &&& 31)) &&& 255)) 1 1 7) 2 7 ((a2 >>> (0 &&& 31)) &&& 255)) 1 1 8) 2 8 ((a3 >>> (24 &&& 31)) &&& 255)) 1 1 9) 2 9 ((a3 >>> (16 &&& 31)) &&& 255)) 1 1 10) 2 10 ((a3 >>> (8 &&& 31)) &&& 255)) 1 1 11) 2 11 ((a3 >>> (0 &&& 31)) &&& 255)) 1 1 12) 2 12 ((a4 >>> (24 &&& 31)) &&& 255)) 1 1 13) 2 13 ((a4 >>> (16 &&& 31)) &&& 255)) 1 1 14) 2 14 ((a4 >>> (8 &&& 31)) &&& 255)) 1 1 15) 2 15 ((a4 >>> (0 &&& 31)) &&& 255)) 1 1 16) 2 16 ((a5 >>> (24 &&& 31)) &&& 255)) 1 1 17) 2 17 ((a5 >>> (16 &&& 31)) &&& 255)) 1 1 18)) rfl ?_
    refine ev_go 29 (pc1 := 36) (lv1 := [.ref 1, .int a5, .int 0]) (st1 := [.int 0, .int a5, .int 19, .ref 2]) (h1 := (xsetI (xsetI (xsetI (xsetI (xsetI (xsetI (xsetI (xsetI (xsetI (xsetI (xsetI (xsetI (xsetI (xsetI (xsetI (xsetI (xsetI (xsetI (xsetI (xsetI (xsetI (xsetI (xsetI (xsetI (xsetI (xsetI (xsetI (xsetI (xsetI (xsetI (xsetI (xsetI (xsetI (xsetI (xsetI (xsetI (xsetI (xsetI xhN 2 0 ((a1 >>> (24 &&& 31)) &&& 255)) 1 1 1) 2 1 ((a1 >>> (16 &&& 31)) &&& 255)) 1 1 2) 2 2 ((a1 >>> (8 &&& 31)) &&& 255)) 1 1 3) 2 3 ((a1 >>> (0 &&& 31)) &&& 255)) 1 1 4) 2 4 ((a2 >>> (24 &&& 31)) &&& 255)) 1 1 5) 2 5 ((a2 >>> (16 &&& 31)) &&& 255)) 1 1 6) 2 6 ((a2 >>> (8 &&& 31)) &&& 255)) 1 1 7) 2 7 ((a2 >>> (0 &&& 31)) &&& 255)) 1 1 8) 2 8 ((a3 >>> (24 &&& 31)) &&& 255)) 1 1 9) 2 9 ((a3 >>> (16 &&& 31)) &&& 255)) 1 1 10) 2 10 ((a3 >>> (8 &&& 31)) &&& 255)) 1 1 11) 2 11 ((a3 >>> (0 &&& 31)) &&& 255)) 1 1 12) 2 12 ((a4 >>> (24 &&& 31)) &&& 255)) 1 1 13) 2 13 ((a4 >>> (16 &&& 31)) &&& 255)) 1 1 14) 2 14 ((a4 >>> (8 &&& 31)) &&& 255)) 1 1 15) 2 15 ((a4 >>> (0 &&& 31)) &&& 255)) 1 1 16) 2 16 ((a5 >>> (24 &&& 31)) &&& 255)) 1 1 17) 2 17 ((a5 >>> (16 &&& 31)) &&& 255)) 1 1 18) 2 18 ((a5 >>> (8 &&& 31)) &&& 255)) 1 1 19)) rfl ?_
    refine ev_go 14 (pc1 := 58) (lv1 := [.ref 1, .int a5, .int (-8)]) (st1 := []) (h1 := (xsetI (xsetI (xsetI (xsetI (xsetI (xsetI (xsetI (xsetI (xsetI (xsetI (xsetI (xsetI (xsetI (xsetI (xsetI (xsetI (xsetI (xsetI (xsetI (xsetI (xsetI (xsetI (xsetI (xsetI (xsetI (xsetI (xsetI (xsetI (xsetI (xsetI (xsetI (xsetI (xsetI (xsetI (xsetI (xsetI (xsetI (xsetI (xsetI (xsetI xhN 2 0 ((a1 >>> (24 &&& 31)) &&& 255)) 1 1 1) 2 1 ((a1 >>> (16 &&& 31)) &&& 255)) 1 1 2) 2 2 ((a1 >>> (8 &&& 31)) &&& 255)) 1 1 3) 2 3 ((a1 >>> (0 &&& 31)) &&& 255)) 1 1 4) 2 4 ((a2 >>> (24 &&& 31)) &&& 255)) 1 1 5) 2 5 ((a2 >>> (16 &&& 31)) &&& 255)) 1 1 6) 2 6 ((a2 >>> (8 &&& 31)) &&& 255)) 1 1 7) 2 7 ((a2 >>> (0 &&& 31)) &&& 255)) 1 1 8) 2 8 ((a3 >>> (24 &&& 31)) &&& 255)) 1 1 9) 2 9 ((a3 >>> (16 &&& 31)) &&& 255)) 1 1 10) 2 10 ((a3 >>> (8 &&& 31)) &&& 255)) 1 1 11) 2 11 ((a3 >>> (0 &&& 31)) &&& 255)) 1 1 12) 2 12 ((a4 >>> (24 &&& 31)) &&& 255)) 1 1 13) 2 13 ((a4 >>> (16 &&& 31)) &&& 255)) 1 1 14) 2 14 ((a4 >>> (8 &&& 31)) &&& 255)) 1 1 15) 2 15 ((a4 >>> (0 &&& 31)) &&& 255)) 1 1 16) 2 16 ((a5 >>> (24 &&& 31)) &&& 255)) 1 1 17) 2 17 ((a5 >>> (16 &&& 31)) &&& 255)) 1 1 18) 2 18 ((a5 >>> (8 &&& 31)) &&& 255)) 1 1 19) 2 19 ((a5 >>> (0 &&& 31)) &&& 255)) 1 1 20)) rfl ?_
    exact ev_ret rfl rfl
  refine ev_go 3 (pc1 := 65) (lv1 := [.ref 0, .int a1, .int a2, .int a3, .int a4, .int a5]) (st1 := [.int 20]) (h1 := (xsetI (xsetI (xsetI (xsetI (xsetI (xsetI (xsetI (xsetI (xsetI (xsetI (xsetI (xsetI (xsetI (xsetI (xsetI (xsetI (xsetI (xsetI (xsetI (xsetI (xsetI (xsetI (xsetI (xsetI (xsetI (xsetI (xsetI (xsetI (xsetI (xsetI (xsetI (xsetI (xsetI (xsetI (xsetI (xsetI (xsetI (xsetI (xsetI (xsetI xhN 2 0 ((a1 >>> (24 &&& 31)) &&& 255)) 1 1 1) 2 1 ((a1 >>> (16 &&& 31)) &&& 255)) 1 1 2) 2 2 ((a1 >>> (8 &&& 31)) &&& 255)) 1 1 3) 2 3 ((a1 >>> (0 &&& 31)) &&& 255)) 1 1 4) 2 4 ((a2 >>> (24 &&& 31)) &&& 255)) 1 1 5) 2 5 ((a2 >>> (16 &&& 31)) &&& 255)) 1 1 6) 2 6 ((a2 >>> (8 &&& 31)) &&& 255)) 1 1 7) 2 7 ((a2 >>> (0 &&& 31)) &&& 255)) 1 1 8) 2 8 ((a3 >>> (24 &&& 31)) &&& 255)) 1 1 9) 2 9 ((a3 >>> (16 &&& 31)) &&& 255)) 1 1 10) 2 10 ((a3 >>> (8 &&& 31)) &&& 255)) 1 1 11) 2 11 ((a3 >>> (0 &&& 31)) &&& 255)) 1 1 12) 2 12 ((a4 >>> (24 &&& 31)) &&& 255)) 1 1 13) 2 13 ((a4 >>> (16 &&& 31)) &&& 255)) 1 1 14) 2 14 ((a4 >>> (8 &&& 31)) &&& 255)) 1 1 15) 2 15 ((a4 >>> (0 &&& 31)) &&& 255)) 1 1 16) 2 16 ((a5 >>> (24 &&& 31)) &&& 255)) 1 1 17) 2 17 ((a5 >>> (16 &&& 31)) &&& 255)) 1 1 18) 2 18 ((a5 >>> (8 &&& 31)) &&& 255)) 1 1 19) 2 19 ((a5 >>> (0 &&& 31)) &&& 255)) 1 1 20)) rfl ?_
  exact ev_ret rfl rfl
set_option maxRecDepth 20000 in
theorem pm_feed_0 {L : Nat} {xs : Nat → Int32} {a1 a2 a3 a4 a5 : Int32} : xEv L xs 19 145 0 [.ref 86, .int a1, .int a2, .int a3, .int a4, .int a5, xmk, xmk, xmk] [] (xsetI (xsetI (xsetI (xsetI (xsetI (xsetI (xsetI (xsetI (xsetI (xsetI (xsetI (xsetI (xsetI (xsetI (xsetI (xsetI (xsetI (xsetI (xsetI (xsetI (xsetI (xsetI (xsetI (xsetI (xsetI (xsetI (xsetI (xsetI (xsetI (xsetI (xsetI (xsetI (xsetI (xsetI (xsetI (xsetI (xsetI (xsetI (xsetI (xsetI xhN 2 0 ((a1 >>> (24 &&& 31)) &&& 255)) 1 1 1) 2 1 ((a1 >>> (16 &&& 31)) &&& 255)) 1 1 2) 2 2 ((a1 >>> (8 &&& 31)) &&& 255)) 1 1 3) 2 3 ((a1 >>> (0 &&& 31)) &&& 255)) 1 1 4) 2 4 ((a2 >>> (24 &&& 31)) &&& 255)) 1 1 5) 2 5 ((a2 >>> (16 &&& 31)) &&& 255)) 1 1 6) 2 6 ((a2 >>> (8 &&& 31)) &&& 255)) 1 1 7) 2 7 ((a2 >>> (0 &&& 31)) &&& 255)) 1 1 8) 2 8 ((a3 >>> (24 &&& 31)) &&& 255)) 1 1 9) 2 9 ((a3 >>> (16 &&& 31)) &&& 255)) 1 1 10) 2 10 ((a3 >>> (8 &&& 31)) &&& 255)) 1 1 11) 2 11 ((a3 >>> (0 &&& 31)) &&& 255)) 1 1 12) 2 12 ((a4 >>> (24 &&& 31)) &&& 255)) 1 1 13) 2 13 ((a4 >>> (16 &&& 31)) &&& 255)) 1 1 14) 2 14 ((a4 >>> (8 &&& 31)) &&& 255)) 1 1 15) 2 15 ((a4 >>> (0 &&& 31)) &&& 255)) 1 1 16) 2 16 ((a5 >>> (24 &&& 31)) &&& 255)) 1 1 17) 2 17 ((a5 >>> (16 &&& 31)) &&& 255)) 1 1 18) 2 18 ((a5 >>> (8 &&& 31)) &&& 255)) 1 1 19) 2 19 ((a5 >>> (0 &&& 31)) &&& 255)) 1 1 20) (some (.int 20)) (xsetI (xsetI (xsetI (xsetI (xsetI (xsetI (xsetI (xsetI (xsetI (xsetI (xsetI (xsetI (xsetI (xsetI (xsetI (xsetI (xsetI (xsetI (xsetI (xsetI (xsetI (xsetI (xsetI (xsetI (xsetI (xsetI (xsetI (xsetI (xsetI (xsetI (xsetI (xsetI (xsetI (xsetI (xsetI (xsetI (xsetI (xsetI (xsetI (xsetI (xsetI (xsetI (xsetI (xsetI (xsetI (xsetI (xsetI (xsetI (xsetI (xsetI (xsetI (xsetI (xsetI (xsetI (xsetI (xsetI (xsetI (xsetI (xsetI (xsetI (xsetI (xsetI (xsetI (xsetI (xsetI (xsetI (xsetI (xsetI (xsetI (xsetI (xsetI (xsetI (xsetI (xsetI (xsetI (xsetI (xsetI (xsetI (xsetI (xsetI xhN 2 0 ((a1 >>> (24 &&& 31)) &&& 255)) 1 1 1) 2 1 ((a1 >>> (16 &&& 31)) &&& 255)) 1 1 2) 2 2 ((a1 >>> (8 &&& 31)) &&& 255)) 1 1 3) 2 3 ((a1 >>> (0 &&& 31)) &&& 255)) 1 1 4) 2 4 ((a2 >>> (24 &&& 31)) &&& 255)) 1 1 5) 2 5 ((a2 >>> (16 &&& 31)) &&& 255)) 1 1 6) 2 6 ((a2 >>> (8 &&& 31)) &&& 255)) 1 1 7) 2 7 ((a2 >>> (0 &&& 31)) &&& 255)) 1 1 8) 2 8 ((a3 >>> (24 &&& 31)) &&& 255)) 1 1 9) 2 9 ((a3 >>> (16 &&& 31)) &&& 255)) 1 1 10) 2 10 ((a3 >>> (8 &&& 31)) &&& 255)) 1 1 11) 2 11 ((a3 >>> (0 &&& 31)) &&& 255)) 1 1 12) 2 12 ((a4 >>> (24 &&& 31)) &&& 255)) 1 1 13) 2 13 ((a4 >>> (16 &&& 31)) &&& 255)) 1 1 14) 2 14 ((a4 >>> (8 &&& 31)) &&& 255)) 1 1 15) 2 15 ((a4 >>> (0 &&& 31)) &&& 255)) 1 1 16) 2 16 ((a5 >>> (24 &&& 31)) &&& 255)) 1 1 17) 2 17 ((a5 >>> (16 &&& 31)) &&& 255)) 1 1 18) 2 18 ((a5 >>> (8 &&& 31)) &&& 255)) 1 1 19) 2 19 ((a5 >>> (0 &&& 31)) &&& 255)) 1 1 20) 87 0 (vp_nar .byte (a1 >>> (24 &&& 31)).toInt8.toInt32)) 86 1 1) 87 1 (vp_nar .byte (a1 >>> (16 &&& 31)).toInt8.toInt32)) 86 1 2) 87 2 (vp_nar .byte (a1 >>> (8 &&& 31)).toInt8.toInt32)) 86 1 3) 87 3 (vp_nar .byte (a1 >>> (0 &&& 31)).toInt8.toInt32)) 86 1 4) 87 4 (vp_nar .byte (a2 >>> (24 &&& 31)).toInt8.toInt32)) 86 1 5) 87 5 (vp_nar .byte (a2 >>> (16 &&& 31)).toInt8.toInt32)) 86 1 6) 87 6 (vp_nar .byte (a2 >>> (8 &&& 31)).toInt8.toInt32)) 86 1 7) 87 7 (vp_nar .byte (a2 >>> (0 &&& 31)).toInt8.toInt32)) 86 1 8) 87 8 (vp_nar .byte (a3 >>> (24 &&& 31)).toInt8.toInt32)) 86 1 9) 87 9 (vp_nar .byte (a3 >>> (16 &&& 31)).toInt8.toInt32)) 86 1 10) 87 10 (vp_nar .byte (a3 >>> (8 &&& 31)).toInt8.toInt32)) 86 1 11) 87 11 (vp_nar .byte (a3 >>> (0 &&& 31)).toInt8.toInt32)) 86 1 12) 87 12 (vp_nar .byte (a4 >>> (24 &&& 31)).toInt8.toInt32)) 86 1 13) 87 13 (vp_nar .byte (a4 >>> (16 &&& 31)).toInt8.toInt32)) 86 1 14) 87 14 (vp_nar .byte (a4 >>> (8 &&& 31)).toInt8.toInt32)) 86 1 15) 87 15 (vp_nar .byte (a4 >>> (0 &&& 31)).toInt8.toInt32)) 86 1 16) 87 16 (vp_nar .byte (a5 >>> (24 &&& 31)).toInt8.toInt32)) 86 1 17) 87 17 (vp_nar .byte (a5 >>> (16 &&& 31)).toInt8.toInt32)) 86 1 18) 87 18 (vp_nar .byte (a5 >>> (8 &&& 31)).toInt8.toInt32)) 86 1 19) 87 19 (vp_nar .byte (a5 >>> (0 &&& 31)).toInt8.toInt32)) 86 1 20) := by
  refine ev_go 26 (pc1 := 90) (lv1 := [.ref 86, .int a1, .int a2, .int a3, .int a4, .int a5, .int 0, .int a1, .int 24]) (st1 := [.int 24, .int a1, .int 0, .ref 87]) (h1 := (xsetI (xsetI (xsetI (xsetI (xsetI (xsetI (xsetI (xsetI (xsetI (xsetI (xsetI (xsetI (xsetI (xsetI (xsetI (xsetI (xsetI (xsetI (xsetI (xsetI (xsetI (xsetI (xsetI (xsetI (xsetI (xsetI (xsetI (xsetI (xsetI (xsetI (xsetI (xsetI (xsetI (xsetI (xsetI (xsetI (xsetI (xsetI (xsetI (xsetI xhN 2 0 ((a1 >>> (24 &&& 31)) &&& 255)) 1 1 1) 2 1 ((a1 >>> (16 &&& 31)) &&& 255)) 1 1 2) 2 2 ((a1 >>> (8 &&& 31)) &&& 255)) 1 1 3) 2 3 ((a1 >>> (0 &&& 31)) &&& 255)) 1 1 4) 2 4 ((a2 >>> (24 &&& 31)) &&& 255)) 1 1 5) 2 5 ((a2 >>> (16 &&& 31)) &&& 255)) 1 1 6) 2 6 ((a2 >>> (8 &&& 31)) &&& 255)) 1 1 7) 2 7 ((a2 >>> (0 &&& 31)) &&& 255)) 1 1 8) 2 8 ((a3 >>> (24 &&& 31)) &&& 255)) 1 1 9) 2 9 ((a3 >>> (16 &&& 31)) &&& 255)) 1 1 10) 2 10 ((a3 >>> (8 &&& 31)) &&& 255)) 1 1 11) 2 11 ((a3 >>> (0 &&& 31)) &&& 255)) 1 1 12) 2 12 ((a4 >>> (24 &&& 31)) &&& 255)) 1 1 13) 2 13 ((a4 >>> (16 &&& 31)) &&& 255)) 1 1 14) 2 14 ((a4 >>> (8 &&& 31)) &&& 255)) 1 1 15) 2 15 ((a4 >>> (0 &&& 31)) &&& 255)) 1 1 16) 2 16 ((a5 >>> (24 &&& 31)) &&& 255)) 1 1 17) 2 17 ((a5 >>> (16 &&& 31)) &&& 255)) 1 1 18) 2 18 ((a5 >>> (8 &&& 31)) &&& 255)) 1 1 19) 2 19 ((a5 >>> (0 &&& 31)) &&& 255)) 1 1 20)) rfl ?_
  refine ev_go 19 (pc1 := 90) (lv1 := [.ref 86, .int a1, .int a2, .int a3, .int a4, .int a5, .int 0, .int a1, .int 16]) (st1 := [.int 16, .int a1, .int 1, .ref 87]) (h1 := (xsetI (xsetI (xsetI (xsetI (xsetI (xsetI (xsetI (xsetI (xsetI (xsetI (xsetI (xsetI (xsetI (xsetI (xsetI (xsetI (xsetI (xsetI (xsetI (xsetI (xsetI (xsetI (xsetI (xsetI (xsetI (xsetI (xsetI (xsetI (xsetI (xsetI (xsetI (xsetI (xsetI (xsetI (xsetI (xsetI (xsetI (xsetI (xsetI (xsetI (xsetI (xsetI xhN 2 0 ((a1 >>> (24 &&& 31)) &&& 255)) 1 1 1) 2 1 ((a1 >>> (16 &&& 31)) &&& 255)) 1 1 2) 2 2 ((a1 >>> (8 &&& 31)) &&& 255)) 1 1 3) 2 3 ((a1 >>> (0 &&& 31)) &&& 255)) 1 1 4) 2 4 ((a2 >>> (24 &&& 31)) &&& 255)) 1 1 5) 2 5 ((a2 >>> (16 &&& 31)) &&& 255)) 1 1 6) 2 6 ((a2 >>> (8 &&& 31)) &&& 255)) 1 1 7) 2 7 ((a2 >>> (0 &&& 31)) &&& 255)) 1 1 8) 2 8 ((a3 >>> (24 &&& 31)) &&& 255)) 1 1 9) 2 9 ((a3 >>> (16 &&& 31)) &&& 255)) 1 1 10) 2 10 ((a3 >>> (8 &&& 31)) &&& 255)) 1 1 11) 2 11 ((a3 >>> (0 &&& 31)) &&& 255)) 1 1 12) 2 12 ((a4 >>> (24 &&& 31)) &&& 255)) 1 1 13) 2 13 ((a4 >>> (16 &&& 31)) &&& 255)) 1 1 14) 2 14 ((a4 >>> (8 &&& 31)) &&& 255)) 1 1 15) 2 15 ((a4 >>> (0 &&& 31)) &&& 255)) 1 1 16) 2 16 ((a5 >>> (24 &&& 31)) &&& 255)) 1 1 17) 2 17 ((a5 >>> (16 &&& 31)) &&& 255)) 1 1 18) 2 18 ((a5 >>> (8 &&& 31)) &&& 255)) 1 1 19) 2 19 ((a5 >>> (0 &&& 31)) &&& 255)) 1 1 20) 87 0 (vp_nar .byte (a1 >>> (24 &&& 31)).toInt8.toInt32)) 86 1 1)) rfl ?_
  refine ev_go 19 (pc1 := 90) (lv1 := [.ref 86, .int a1, .int a2, .int a3, .int a4, .int a5, .int 0, .int a1, .int 8]) (st1 := [.int 8, .int a1, .int 2, .ref 87]) (h1 := (xsetI (xsetI (xsetI (xsetI (xsetI (xsetI (xsetI (xsetI (xsetI (xsetI (xsetI (xsetI (xsetI (xsetI (xsetI (xsetI (xsetI (xsetI (xsetI (xsetI (xsetI (xsetI (xsetI (xsetI (xsetI (xsetI (xsetI (xsetI (xsetI (xsetI (xsetI (xsetI (xsetI (xsetI (xsetI (xsetI (xsetI (xsetI (xsetI (xsetI (xsetI (xsetI (xsetI (xsetI xhN 2 0 ((a1 >>> (24 &&& 31)) &&& 255)) 1 1 1) 2 1 ((a1 >>> (16 &&& 31)) &&& 255)) 1 1 2) 2 2 ((a1 >>> (8 &&& 31)) &&& 255)) 1 1 3) 2 3 ((a1 >>> (0 &&& 31)) &&& 255)) 1 1 4) 2 4 ((a2 >>> (24 &&& 31)) &&& 255)) 1 1 5) 2 5 ((a2 >>> (16 &&& 31)) &&& 255)) 1 1 6) 2 6 ((a2 >>> (8 &&& 31)) &&& 255)) 1 1 7) 2 7 ((a2 >>> (0 &&& 31)) &&& 255)) 1 1 8) 2 8 ((a3 >>> (24 &&& 31)) &&& 255)) 1 1 9) 2 9 ((a3 >>> (16 &&& 31)) &&& 255)) 1 1 10) 2 10 ((a3 >>> (8 &&& 31)) &&& 255)) 1 1 11) 2 11 ((a3 >>> (0 &&& 31)) &&& 255)) 1 1 12) 2 12 ((a4 >>> (24 &&& 31)) &&& 255)) 1 1 13) 2 13 ((a4 >>> (16 &&& 31)) &&& 255)) 1 1 14) 2 14 ((a4 >>> (8 &&& 31)) &&& 255)) 1 1 15) 2 15 ((a4 >>> (0 &&& 31)) &&& 255)) 1 1 16) 2 16 ((a5 >>> (24 &&& 31)) &&& 255)) 1 1 17) 2 17 ((a5 >>> (16 &&& 31)) &&& 255)) 1 1 18) 2 18 ((a5 >>> (8 &&& 31)) &&& 255)) 1 1 19) 2 19 ((a5 >>> (0 &&& 31)) &&& 255)) 1 1 20) 87 0 (vp_nar .byte (a1 >>> (24 &&& 31)).toInt8.toInt32)) 86 1 1) 87 1 (vp_nar .byte (a1 >>> (16 &&& 31)).toInt8.toInt32)) 86 1 2)) rfl ?_
  refine ev_go 19 (pc1 := 90) (lv1 := [.ref 86, .int a1, .int a2, .int a3, .int a4, .int a5, .int 0, .int a1, .int 0]) (st1 := [.int 0, .int a1, .int 3, .ref 87]) (h1 := (xsetI (xsetI (xsetI (xsetI (xsetI (xsetI (xsetI (xsetI (xsetI (xsetI (xsetI (xsetI (xsetI (xsetI (xsetI (xsetI (xsetI (xsetI (xsetI (xsetI (xsetI (xsetI (xsetI (xsetI (xsetI (xsetI (xsetI (xsetI (xsetI (xsetI (xsetI (xsetI (xsetI (xsetI (xsetI (xsetI (xsetI (xsetI (xsetI (xsetI (xsetI (xsetI (xsetI (xsetI (xsetI (xsetI xhN 2 0 ((a1 >>> (24 &&& 31)) &&& 255)) 1 1 1) 2 1 ((a1 >>> (16 &&& 31)) &&& 255)) 1 1 2) 2 2 ((a1 >>> (8 &&& 31)) &&& 255)) 1 1 3) 2 3 ((a1 >>> (0 &&& 31)) &&& 255)) 1 1 4) 2 4 ((a2 >>> (24 &&& 31)) &&& 255)) 1 1 5) 2 5 ((a2 >>> (16 &&& 31)) &&& 255)) 1 1 6) 2 6 ((a2 >>> (8 &&& 31)) &&& 255)) 1 1 7) 2 7 ((a2 >>> (0 &&& 31)) &&& 255)) 1 1 8) 2 8 ((a3 >>> (24 &&& 31)) &&& 255)) 1 1 9) 2 9 ((a3 >>> (16 &&& 31)) &&& 255)) 1 1 10) 2 10 ((a3 >>> (8 &&& 31)) &&& 255)) 1 1 11) 2 11 ((a3 >>> (0 &&& 31)) &&& 255)) 1 1 12) 2 12 ((a4 >>> (24 &&& 31)) &&& 255)) 1 1 13) 2 13 ((a4 >>> (16 &&& 31)) &&& 255)) 1 1 14) 2 14 ((a4 >>> (8 &&& 31)) &&& 255)) 1 1 15) 2 15 ((a4 >>> (0 &&& 31)) &&& 255)) 1 1 16) 2 16 ((a5 >>> (24 &&& 31)) &&& 255)) 1 1 17) 2 17 ((a5 >>> (16 &&& 31)) &&& 255)) 1 1 18) 2 18 ((a5 >>> (8 &&& 31)) &&& 255)) 1 1 19) 2 19 ((a5 >>> (0 &&& 31)) &&& 255)) 1 1 20) 87 0 (vp_nar .byte (a1 >>> (24 &&& 31)).toInt8.toInt32)) 86 1 1) 87 1 (vp_nar .byte (a1 >>> (16 &&& 31)).toInt8.toInt32)) 86 1 2) 87 2 (vp_nar .byte (a1 >>> (8 &&& 31)).toInt8.toInt32)) 86 1 3)) rfl ?_
  refine ev_go 36 (pc1 := 90) (lv1 := [.ref 86, .int a1, .int a2, .int a3, .int a4, .int a5, .int 1, .int a2, .int 24]) (st1 := [.int 24, .int a2, .int 4, .ref 87]) (h1 := (xsetI (xsetI (xsetI (xsetI (xsetI (xsetI (xsetI (xsetI (xsetI (xsetI (xsetI (xsetI (xsetI (xsetI (xsetI (xsetI (xsetI (xsetI (xsetI (xsetI (xsetI (xsetI (xsetI (xsetI (xsetI (xsetI (xsetI (xsetI (xsetI (xsetI (xsetI (xsetI (xsetI (xsetI (xsetI (xsetI (xsetI (xsetI (xsetI (xsetI (xsetI (xsetI (xsetI (xsetI (xsetI (xsetI (xsetI (xsetI xhN 2 0 ((a1 >>> (24 &&& 31)) &&& 255)) 1 1 1) 2 1 ((a1 >>> (16 &&& 31)) &&& 255)) 1 1 2) 2 2 ((a1 >>> (8 &&& 31)) &&& 255)) 1 1 3) 2 3 ((a1 >>> (0 &&& 31)) &&& 255)) 1 1 4) 2 4 ((a2 >>> (24 &&& 31)) &&& 255)) 1 1 5) 2 5 ((a2 >>> (16 &&& 31)) &&& 255)) 1 1 6) 2 6 ((a2 >>> (8 &&& 31)) &&& 255)) 1 1 7) 2 7 ((a2 >>> (0 &&& 31)) &&& 255)) 1 1 8) 2 8 ((a3 >>> (24 &&& 31)) &&& 255)) 1 1 9) 2 9 ((a3 >>> (16 &&& 31)) &&& 255)) 1 1 10) 2 10 ((a3 >>> (8 &&& 31)) &&& 255)) 1 1 11) 2 11 ((a3 >>> (0 &&& 31)) &&& 255)) 1 1 12) 2 12 ((a4 >>> (24 &&& 31)) &&& 255)) 1 1 13) 2 13 ((a4 >>> (16 &&& 31)) &&& 255)) 1 1 14) 2 14 ((a4 >>> (8 &&& 31)) &&& 255)) 1 1 15) 2 15 ((a4 >>> (0 &&& 31)) &&& 255)) 1 1 16) 2 16 ((a5 >>> (24 &&& 31)) &&& 255)) 1 1 17) 2 17 ((a5 >>> (16 &&& 31)) &&& 255)) 1 1 18) 2 18 ((a5 >>> (8 &&& 31)) &&& 255)) 1 1 19) 2 19 ((a5 >>> (0 &&& 31)) &&& 255)) 1 1 20) 87 0 (vp_nar .byte (a1 >>> (24 &&& 31)).toInt8.toInt32)) 86 1 1) 87 1 (vp_nar .byte (a1 >>> (16 &&& 31)).toInt8.toInt32)) 86 1 2) 87 2 (vp_nar .byte (a1 >>> (8 &&& 31)).toInt8.toInt32)) 86 1 3) 87 3 (vp_nar .byte (a1 >>> (0 &&& 31)).toInt8.toInt32)) 86 1 4)) rfl ?_
  refine ev_go 19 (pc1 := 90) (lv1 := [.ref 86, .int a1, .int a2, .int a3, .int a4, .int a5, .int 1, .int a2, .int 16]) (st1 := [.int 16, .int a2, .int 5, .ref 87]) (h1 := (xsetI (xsetI (xsetI (xsetI (xsetI (xsetI (xsetI (xsetI (xsetI (xsetI (xsetI (xsetI (xsetI (xsetI (xsetI (xsetI (xsetI (xsetI (xsetI (xsetI (xsetI (xsetI (xsetI (xsetI (xsetI (xsetI (xsetI (xsetI (xsetI (xsetI (xsetI (xsetI (xsetI (xsetI (xsetI (xsetI (xsetI (xsetI (xsetI (xsetI (xsetI (xsetI (xsetI (xsetI (xsetI (xsetI (xsetI (xsetI (xsetI (xsetI xhN 2 0 ((a1 >>> (24 &&& 31)) &&& 255)) 1 1 1) 2 1 ((a1 >>> (16 &&& 31)) &&& 255)) 1 1 2) 2 2 ((a1 >>> (8 &&& 31)) &&& 255)) 1 1 3) 2 3 ((a1 >>> (0 &&& 31)) &&& 255)) 1 1 4) 2 4 ((a2 >>> (24 &&& 31)) &&& 255)) 1 1 5) 2 5 ((a2 >>> (16 &&& 31)) &&& 255)) 1 1 6) 2 6 ((a2 >>> (8 &&& 31)) &&& 255)) 1 1 7) 2 7 ((a2 >>> (0 &&& 31)) &&& 255)) 1 1 8) 2 8 ((a3 >>> (24 &&& 31)) &&& 255)) 1 1 9) 2 9 ((a3 >>> (16 &&& 31)) &&& 255)) 1 1 10) 2 10 ((a3 >>> (8 &&& 31)) &&& 255)) 1 1 11) 2 11 ((a3 >>> (0 &&& 31)) &&& 255)) 1 1 12) 2 12 ((a4 >>> (24 &&& 31)) &&& 255)) 1 1 13) 2 13 ((a4 >>> (16 &&& 31)) &&& 255)) 1 1 14) 2 14 ((a4 >>> (8 &&& 31)) &&& 255)) 1 1 15) 2 15 ((a4 >>> (0 &&& 31)) &&& 255)) 1 1 16) 2 16 ((a5 >>> (24 &&& 31)) &&& 255)) 1 1 17) 2 17 ((a5 >>> (16 &&& 31)) &&& 255)) 1 1 18) 2 18 ((a5 >>> (8 &&& 31)) &&& 255)) 1 1 19) 2 19 ((a5 >>> (0 &&& 31)) &&& 255)) 1 1 20) 87 0 (vp_nar .byte (a1 >>> (24 &&& 31)).toInt8.toInt32)) 86 1 1) 87 1 (vp_nar .byte (a1 >>> (16 &&& 31)).toInt8.toInt32)) 86 1 2) 87 2 (vp_nar .byte (a1 >>> (8 &&& 31)).toInt8.toInt32)) 86 1 3) 87 3 (vp_nar .byte (a1 >>> (0 &&& 31)).toInt8.toInt32)) 86 1 4) 87 4 (vp_nar .byte (a2 >>> (24 &&& 31)).toInt8.toInt32)) 86 1 5)) rfl ?_
  refine ev_go 19 (pc1 := 90) (lv1 := [.ref 86, .int a1, .int a2, .int a3, .int a4, .int a5, .int 1, .int a2, .int 8]) (st1 := [.int 8, .int a2, .int 6, .ref 87]) (h1 := (xsetI (xsetI (xsetI (xsetI (xsetI (xsetI (xsetI (xsetI (xsetI (xsetI (xsetI (xsetI (xsetI (xsetI (xsetI (xsetI (xsetI (xsetI (xsetI (xsetI (xsetI (xsetI (xsetI (xsetI (xsetI (xsetI (xsetI (xsetI (xsetI (xsetI (xsetI (xsetI (xsetI (xsetI (xsetI (xsetI (xsetI (xsetI (xsetI (xsetI (xsetI (xsetI (xsetI (xsetI (xsetI (xsetI (xsetI (xsetI (xsetI (xsetI (xsetI (xsetI xhN 2 0 ((a1 >>> (24 &&& 31)) &&& 255)) 1 1 1) 2 1 ((a1 >>> (16 &&& 31)) &&& 255)) 1 1 2) 2 2 ((a1 >>> (8 &&& 31)) &&& 255)) 1 1 3) 2 3 ((a1 >>> (0 &&& 31)) &&& 255)) 1 1 4) 2 4 ((a2 >>> (24 &&& 31)) &&& 255)) 1 1 5) 2 5 ((a2 >>> (16 &&& 31)) &&& 255)) 1 1 6) 2 6 ((a2 >>> (8 &&& 31)) &&& 255)) 1 1 7) 2 7 ((a2 >>> (0 &&& 31)) &&& 255)) 1 1 8) 2 8 ((a3 >>> (24 &&& 31)) &&& 255)) 1 1 9) 2 9 ((a3 >>> (16 &&& 31)) &&& 255)) 1 1 10) 2 10 ((a3 >>> (8 &&& 31)) &&& 255)) 1 1 11) 2 11 ((a3 >>> (0 &&& 31)) &&& 255)) 1 1 12) 2 12 ((a4 >>> (24 &&& 31)) &&& 255)) 1 1 13) 2 13 ((a4 >>> (16 &&& 31)) &&& 255)) 1 1 14) 2 14 ((a4 >>> (8 &&& 31)) &&& 255)) 1 1 15) 2 15 ((a4 >>> (0 &&& 31)) &&& 255)) 1 1 16) 2 16 ((a5 >>> (24 &&& 31)) &&& 255)) 1 1 17) 2 17 ((a5 >>> (16 &&& 31)) &&& 255)) 1 1 18) 2 18 ((a5 >>> (8 &&& 31)) &&& 255)) 1 1 19) 2 19 ((a5 >>> (0 &&& 31)) &&& 255)) 1 1 20) 87 0 (vp_nar .byte (a1 >>> (24 &&& 31)).toInt8.toInt32)) 86 1 1) 87 1 (vp_nar .byte (a1 >>> (16 &&& 31)).toInt8.toInt32)) 86 1 2) 87 2 (vp_nar .byte (a1 >>> (8 &&& 31)).toInt8.toInt32)) 86 1 3) 87 3 (vp_nar .byte (a1 >>> (0 &&& 31)).toInt8.toInt32)) 86 1 4) 87 4 (vp_nar .byte (a2 >>> (24 &&& 31)).toInt8.toInt32)) 86 1 5) 87 5 (vp_nar .byte (a2 >>> (16 &&& 31)).toInt8.toInt32)) 86 1 6)) rfl ?_
  refine ev_go 19 (pc1 := 90) (lv1 := [.ref 86, .int a1, .int a2, .int a3, .int a4, .int a5, .int 1, .int a2, .int 0]) (st1 := [.int 0, .int a2, .int 7, .ref 87]) (h1 := (xsetI (xsetI (xsetI (xsetI (xsetI (xsetI (xsetI (xsetI (xsetI (xsetI (xsetI (xsetI (xsetI (xsetI (xsetI (xsetI (xsetI (xsetI (xsetI (xsetI (xsetI (xsetI (xsetI (xsetI (xsetI (xsetI (xsetI (xsetI (xsetI (xsetI (xsetI (xsetI (xsetI (xsetI (xsetI (xsetI (xsetI (xsetI (xsetI (xsetI (xsetI (xsetI (xsetI (xsetI (xsetI (xsetI (xsetI (xsetI (xsetI (xsetI (xsetI (xsetI (xsetI (xsetI xhN 2 0 ((a1 >>> (24 &&& 31)) &&& 255)) 1 1 1) 2 1 ((a1 >>> (16 &&& 31)) &&& 255)) 1 1 2) 2 2 ((a1 >>> (8 &&& 31)) &&& 255)) 1 1 3) 2 3 ((a1 >>> (0 &&& 31)) &&& 255)) 1 1 4) 2 4 ((a2 >>> (24 &&& 31)) &&& 255)) 1 1 5) 2 5 ((a2 >>> (16 &&& 31)) &&& 255)) 1 1 6) 2 6 ((a2 >>> (8 &&& 31)) &&& 255)) 1 1 7) 2 7 ((a2 >>> (0 &&& 31)) &&& 255)) 1 1 8) 2 8 ((a3 >>> (24 &&& 31)) &&& 255)) 1 1 9) 2 9 ((a3 >>> (16 &&& 31)) &&& 255)) 1 1 10) 2 10 ((a3 >>> (8 &&& 31)) &&& 255)) 1 1 11) 2 11 ((a3 >>> (0 &&& 31)) &&& 255)) 1 1 12) 2 12 ((a4 >>> (24 &&& 31)) &&& 255)) 1 1 13) 2 13 ((a4 >>> (16 &&& 31)) &&& 255)) 1 1 14) 2 14 ((a4 >>> (8 &&& 31)) &&& 255)) 1 1 15) 2 15 ((a4 >>> (0 &&& 31)) &&& 255)) 1 1 16) 2 16 ((a5 >>> (24 &&& 31)) &&& 255)) 1 1 17) 2 17 ((a5 >>> (16 &&& 31)) &&& 255)) 1 1 18) 2 18 ((a5 >>> (8 &&& 31)) &&& 255)) 1 1 19) 2 19 ((a5 >>> (0 &&& 31)) &&& 255)) 1 1 20) 87 0 (vp_nar .byte (a1 >>> (24 &&& 31)).toInt8.toInt32)) 86 1 1) 87 1 (vp_nar .byte (a1 >>> (16 &&& 31)).toInt8.toInt32)) 86 1 2) 87 2 (vp_nar .byte (a1 >>> (8 &&& 31)).toInt8.toInt32)) 86 1 3) 87 3 (vp_nar .byte (a1 >>> (0 &&& 31)).toInt8.toInt32)) 86 1 4) 87 4 (vp_nar .byte (a2 >>> (24 &&& 31)).toInt8.toInt32)) 86 1 5) 87 5 (vp_nar .byte (a2 >>> (16 &&& 31)).toInt8.toInt32)) 86 1 6) 87 6 (vp_nar .byte (a2 >>> (8 &&& 31)).toInt8.toInt32)) 86 1 7)) rfl ?_
  refine ev_go 39 (pc1 := 90) (lv1 := [.ref 86, .int a1, .int a2, .int a3, .int a4, .int a5, .int 2, .int a3, .int 24]) (st1 := [.int 24, .int a3, .int 8, .ref 87]) (h1 := (xsetI (xsetI (xsetI (xsetI (xsetI (xsetI (xsetI (xsetI (xsetI (xsetI (xsetI (xsetI (xsetI (xsetI (xsetI (xsetI (xsetI (xsetI (xsetI (xsetI (xsetI (xsetI (xsetI (xsetI (xsetI (xsetI (xsetI (xsetI (xsetI (xsetI (xsetI (xsetI (xsetI (xsetI (xsetI (xsetI (xsetI (xsetI (xsetI (xsetI (xsetI (xsetI (xsetI (xsetI (xsetI (xsetI (xsetI (xsetI (xsetI (xsetI (xsetI (xsetI (xsetI (xsetI (xsetI (xsetI xhN 2 0 ((a1 >>> (24 &&& 31)) &&& 255)) 1 1 1) 2 1 ((a1 >>> (16 &&& 31)) &&& 255)) 1 1 2) 2 2 ((a1 >>> (8 &&& 31)) &&& 255)) 1 1 3) 2 3 ((a1 >>> (0 &&& 31)) &&& 255)) 1 1 4) 2 4 ((a2 >>> (24 &&& 31)) &&& 255)) 1 1 5) 2 5 ((a2 >>> (16 &&& 31)) &&& 255)) 1 1 6) 2 6 ((a2 >>> (8 &&& 31)) &&& 255)) 1 1 7) 2 7 ((a2 >>> (0 &&& 31)) &&& 255)) 1 1 8) 2 8 ((a3 >>> (24 &&& 31)) &&& 255)) 1 1 9) 2 9 ((a3 >>> (16 &&& 31)) &&& 255)) 1 1 10) 2 10 ((a3 >>> (8 &&& 31)) &&& 255)) 1 1 11) 2 11 ((a3 >>> (0 &&& 31)) &&& 255)) 1 1 12) 2 12 ((a4 >>> (24 &&& 31)) &&& 255)) 1 1 13) 2 13 ((a4 >>> (16 &&& 31)) &&& 255)) 1 1 14) 2 14 ((a4 >>> (8 &&& 31)) &&& 255)) 1 1 15) 2 15 ((a4 >>> (0 &&& 31)) &&& 255)) 1 1 16) 2 16 ((a5 >>> (24 &&& 31)) &&& 255)) 1 1 17) 2 17 ((a5 >>> (16 &&& 31)) &&& 255)) 1 1 18) 2 18 ((a5 >>> (8 &&& 31)) &&& 255)) 1 1 19) 2 19 ((a5 >>> (0 &&& 31)) &&& 255)) 1 1 20) 87 0 (vp_nar .byte (a1 >>> (24 &&& 31)).toInt8.toInt32)) 86 1 1) 87 1 (vp_nar .byte (a1 >>> (16 &&& 31)).toInt8.toInt32)) 86 1 2) 87 2 (vp_nar .byte (a1 >>> (8 &&& 31)).toInt8.toInt32)) 86 1 3) 87 3 (vp_nar .byte (a1 >>> (0 &&& 31)).toInt8.toInt32)) 86 1 4) 87 4 (vp_nar .byte (a2 >>> (24 &&& 31)).toInt8.toInt32)) 86 1 5) 87 5 (vp_nar .byte (a2 >>> (16 &&& 31)).toInt8.toInt32)) 86 1 6) 87 6 (vp_nar .byte (a2 >>> (8 &&& 31)).toInt8.toInt32)) 86 1 7) 87 7 (vp_nar .byte (a2 >>> (0 &&& 31)).toInt8.toInt32)) 86 1 8)) rfl ?_
  refine ev_go 19 (pc1 := 90) (lv1 := [.ref 86, .int a1, .int a2, .int a3, .int a4, .int a5, .int 2, .int a3, .int 16]) (st1 := [.int 16, .int a3, .int 9, .ref 87]) (h1 := (xsetI (xsetI (xsetI (xsetI (xsetI (xsetI (xsetI (xsetI (xsetI (xsetI (xsetI (xsetI (xsetI (xsetI (xsetI (xsetI (xsetI (xsetI (xsetI (xsetI (xsetI (xsetI (xsetI (xsetI (xsetI (xsetI (xsetI (xsetI (xsetI (xsetI (xsetI (xsetI (xsetI (xsetI (xsetI (xsetI (xsetI (xsetI (xsetI (xsetI (xsetI (xsetI (xsetI (xsetI (xsetI (xsetI (xsetI (xsetI (xsetI (xsetI (xsetI (xsetI (xsetI (xsetI (xsetI (xsetI (xsetI (xsetI xhN 2 0 ((a1 >>> (24 &&& 31)) &&& 255)) 1 1 1) 2 1 ((a1 >>> (16 &&& 31)) &&& 255)) 1 1 2) 2 2 ((a1 >>> (8 &&& 31)) &&& 255)) 1 1 3) 2 3 ((a1 >>> (0 &&& 31)) &&& 255)) 1 1 4) 2 4 ((a2 >>> (24 &&& 31)) &&& 255)) 1 1 5) 2 5 ((a2 >>> (16 &&& 31)) &&& 255)) 1 1 6) 2 6 ((a2 >>> (8 &&& 31)) &&& 255)) 1 1 7) 2 7 ((a2 >>> (0 &&& 31)) &&& 255)) 1 1 8) 2 8 ((a3 >>> (24 &&& 31)) &&& 255)) 1 1 9) 2 9 ((a3 >>> (16 &&& 31)) &&& 255)) 1 1 10) 2 10 ((a3 >>> (8 &&& 31)) &&& 255)) 1 1 11) 2 11 ((a3 >>> (0 &&& 31)) &&& 255)) 1 1 12) 2 12 ((a4 >>> (24 &&& 31)) &&& 255)) 1 1 13) 2 13 ((a4 >>> (16 &&& 31)) &&& 255)) 1 1 14) 2 14 ((a4 >>> (8 &&& 31)) &&& 255)) 1 1 15) 2 15 ((a4 >>> (0 &&& 31)) &&& 255)) 1 1 16) 2 16 ((a5 >>> (24 &&& 31)) &&& 255)) 1 1 17) 2 17 ((a5 >>> (16 &&& 31)) &&& 255)) 1 1 18) 2 18 ((a5 >>> (8 &&& 31)) &&& 255)) 1 1 19) 2 19 ((a5 >>> (0 &&& 31)) &&& 255)) 1 1 20) 87 0 (vp_nar .byte (a1 >>> (24 &&& 31)).toInt8.toInt32)) 86 1 1) 87 1 (vp_nar .byte (a1 >>> (16 &&& 31)).toInt8.toInt32)) 86 1 2) 87 2 (vp_nar .byte (a1 >>> (8 &&& 31)).toInt8.toInt32)) 86 1 3) 87 3 (vp_nar .byte (a1 >>> (0 &&& 31)).toInt8.toInt32)) 86 1 4) 87 4 (vp_nar .byte (a2 >>> (24 &&& 31)).toInt8.toInt32)) 86 1 5) 87 5 (vp_nar .byte (a2 >>> (16 &&& 31)).toInt8.toInt32)) 86 1 6) 87 6 (vp_nar .byte (a2 >>> (8 &&& 31)).toInt8.toInt32)) 86 1 7) 87 7 (vp_nar .byte (a2 >>> (0 &&& 31)).toInt8.toInt32)) 86 1 8) 87 8 (vp_nar .byte (a3 >>> (24 &&& 31)).toInt8.toInt32)) 86 1 9)) rfl ?_
  refine ev_go 19 (pc1 := 90) (lv1 := [.ref 86, .int a1, .int a2, .int a3, .int a4, .int a5, .int 2, .int a3, .int 8]) (st1 := [.int 8, .int a3, .int 10, .ref 87]) (h1 := (xsetI (xsetI (xsetI (xsetI (xsetI (xsetI (xsetI (xsetI (xsetI (xsetI (xsetI (xsetI (xsetI (xsetI (xsetI (xsetI (xsetI (xsetI (xsetI (xsetI (xsetI (xsetI (xsetI (xsetI (xsetI (xsetI (xsetI (xsetI (xsetI (xsetI (xsetI (xsetI (xsetI (xsetI (xsetI (xsetI (xsetI (xsetI (xsetI (xsetI (xsetI (xsetI (xsetI (xsetI (xsetI (xsetI (xsetI (xsetI (xsetI (xsetI (xsetI (xsetI (xsetI (xsetI (xsetI (xsetI (xsetI (xsetI (xsetI (xsetI xhN 2 0 ((a1 >>> (24 &&& 31)) &&& 255)) 1 1 1) 2 1 ((a1 >>> (16 &&& 31)) &&& 255)) 1 1 2) 2 2 ((a1 >>> (8 &&& 31)) &&& 255)) 1 1 3) 2 3 ((a1 >>> (0 &&& 31)) &&& 255)) 1 1 4) 2 4 ((a2 >>> (24 &&& 31)) &&& 255)) 1 1 5) 2 5 ((a2 >>> (16 &&& 31)) &&& 255)) 1 1 6) 2 6 ((a2 >>> (8 &&& 31)) &&& 255)) 1 1 7) 2 7 ((a2 >>> (0 &&& 31)) &&& 255)) 1 1 8) 2 8 ((a3 >>> (24 &&& 31)) &&& 255)) 1 1 9) 2 9 ((a3 >>> (16 &&& 31)) &&& 255)) 1 1 10) 2 10 ((a3 >>> (8 &&& 31)) &&& 255)) 1 1 11) 2 11 ((a3 >>> (0 &&& 31)) &&& 255)) 1 1 12) 2 12 ((a4 >>> (24 &&& 31)) &&& 255)) 1 1 13) 2 13 ((a4 >>> (16 &&& 31)) &&& 255)) 1 1 14) 2 14 ((a4 >>> (8 &&& 31)) &&& 255)) 1 1 15) 2 15 ((a4 >>> (0 &&& 31)) &&& 255)) 1 1 16) 2 16 ((a5 >>> (24 &&& 31)) &&& 255)) 1 1 17) 2 17 ((a5 >>> (16 &&& 31)) &&& 255)) 1 1 18) 2 18 ((a5 >>> (8 &&& 31)) &&& 255)) 1 1 19) 2 19 ((a5 >>> (0 &&& 31)) &&& 255)) 1 1 20) 87 0 (vp_nar .byte (a1 >>> (24 &&& 31)).toInt8.toInt32)) 86 1 1) 87 1 (vp_nar .byte (a1 >>> (16 &&& 31)).toInt8.toInt32)) 86 1 2) 87 2 (vp_nar .byte (a1 >>> (8 &&& 31)).toInt8.toInt32)) 86 1 3) 87 3 (vp_nar .byte (a1 >>> (0 &&& 31)).toInt8.toInt32)) 86 1 4) 87 4 (vp_nar .byte (a2 >>> (24 &&& 31)).toInt8.toInt32)) 86 1 5) 87 5 (vp_nar .byte (a2 >>> (16 &&& 31)).toInt8.toInt32)) 86 1 6) 87 6 (vp_nar .byte (a2 >>> (8 &&& 31)).toInt8.toInt32)) 86 1 7) 87 7 (vp_nar .byte (a2 >>> (0 &&& 31)).toInt8.toInt32)) 86 1 8) 87 8 (vp_nar .byte (a3 >>> (24 &&& 31)).toInt8.toInt32)) 86 1 9) 87 9 (vp_nar .byte (a3 >>> (16 &&& 31)).toInt8.toInt32)) 86 1 10)) rfl ?_
  refine ev_go 19 (pc1 := 90) (lv1 := [.ref 86, .int a1, .int a2, .int a3, .int a4, .int a5, .int 2, .int a3, .int 0]) (st1 := [.int 0, .int a3, .int 11, .ref 87]) (h1 := (xsetI (xsetI (xsetI (xsetI (xsetI (xsetI (xsetI (xsetI (xsetI (xsetI (xsetI (xsetI (xsetI (xsetI (xsetI (xsetI (xsetI (xsetI (xsetI (xsetI (xsetI (xsetI (xsetI (xsetI (xsetI (xsetI (xsetI (xsetI (xsetI (xsetI (xsetI (xsetI (xsetI (xsetI (xsetI (xsetI (xsetI (xsetI (xsetI (xsetI (xsetI (xsetI (xsetI (xsetI (xsetI (xsetI (xsetI (xsetI (xsetI (xsetI (xsetI (xsetI (xsetI (xsetI (xsetI (xsetI (xsetI (xsetI (xsetI (xsetI (xsetI (xsetI xhN 2 0 ((a1 >>> (24 &&& 31)) &&& 255)) 1 1 1) 2 1 ((a1 >>> (16 &&& 31)) &&& 255)) 1 1 2) 2 2 ((a1 >>> (8 &&& 31)) &&& 255)) 1 1 3) 2 3 ((a1 >>> (0 &&& 31)) &&& 255)) 1 1 4) 2 4 ((a2 >>> (24 &&& 31)) &&& 255)) 1 1 5) 2 5 ((a2 >>> (16 &&& 31)) &&& 255)) 1 1 6) 2 6 ((a2 >>> (8 &&& 31)) &&& 255)) 1 1 7) 2 7 ((a2 >>> (0 &&& 31)) &&& 255)) 1 1 8) 2 8 ((a3 >>> (24 &&& 31)) &&& 255)) 1 1 9) 2 9 ((a3 >>> (16 &&& 31)) &&& 255)) 1 1 10) 2 10 ((a3 >>> (8 &&& 31)) &&& 255)) 1 1 11) 2 11 ((a3 >>> (0 &&& 31)) &&& 255)) 1 1 12) 2 12 ((a4 >>> (24 &&& 31)) &&& 255)) 1 1 13) 2 13 ((a4 >>> (16 &&& 31)) &&& 255)) 1 1 14) 2 14 ((a4 >>> (8 &&& 31)) &&& 255)) 1 1 15) 2 15 ((a4 >>> (0 &&& 31)) &&& 255)) 1 1 16) 2 16 ((a5 >>> (24 &&& 31)) &&& 255)) 1 1 17) 2 17 ((a5 >>> (16 &&& 31)) &&& 255)) 1 1 18) 2 18 ((a5 >>> (8 &&& 31)) &&& 255)) 1 1 19) 2 19 ((a5 >>> (0 &&& 31)) &&& 255)) 1 1 20) 87 0 (vp_nar .byte (a1 >>> (24 &&& 31)).toInt8.toInt32)) 86 1 1) 87 1 (vp_nar .byte (a1 >>> (16 &&& 31)).toInt8.toInt32)) 86 1 2) 87 2 (vp_nar .byte (a1 >>> (8 &&& 31)).toInt8.toInt32)) 86 1 3) 87 3 (vp_nar .byte (a1 >>> (0 &&& 31)).toInt8.toInt32)) 86 1 4) 87 4 (vp_nar .byte (a2 >>> (24 &&& 31)).toInt8.toInt32)) 86 1 5) 87 5 (vp_nar .byte (a2 >>> (16 &&& 31)).toInt8.toInt32)) 86 1 6) 87 6 (vp_nar .byte (a2 >>> (8 &&& 31)).toInt8.toInt32)) 86 1 7) 87 7 (vp_nar .byte (a2 >>> (0 &&& 31)).toInt8.toInt32)) 86 1 8) 87 8 (vp_nar .byte (a3 >>> (24 &&& 31)).toInt8.toInt32)) 86 1 9) 87 9 (vp_nar .byte (a3 >>> (16 &&& 31)).toInt8.toInt32)) 86 1 10) 87 10 (vp_nar .byte (a3 >>> (8 &&& 31)).toInt8.toInt32)) 86 1 11)) rfl ?_
  refine ev_go 40 (pc1 := 86) (lv1 := [.ref 86, .int a1, .int a2, .int a3, .int a4, .int a5, .int 3, .int a4, .int 24]) (st1 := [.int 12, .ref 87]) (h1 := (xsetI (xsetI (xsetI (xsetI (xsetI (xsetI (xsetI (xsetI (xsetI (xsetI (xsetI (xsetI (xsetI (xsetI (xsetI (xsetI (xsetI (xsetI (xsetI (xsetI (xsetI (xsetI (xsetI (xsetI (xsetI (xsetI (xsetI (xsetI (xsetI (xsetI (xsetI (xsetI (xsetI (xsetI (xsetI (xsetI (xsetI (xsetI (xsetI (xsetI (xsetI (xsetI (xsetI (xsetI (xsetI (xsetI (xsetI (xsetI (xsetI (xsetI (xsetI (xsetI (xsetI (xsetI (xsetI (xsetI (xsetI (xsetI (xsetI (xsetI (xsetI (xsetI (xsetI (xsetI xhN 2 0 ((a1 >>> (24 &&& 31)) &&& 255)) 1 1 1) 2 1 ((a1 >>> (16 &&& 31)) &&& 255)) 1 1 2) 2 2 ((a1 >>> (8 &&& 31)) &&& 255)) 1 1 3) 2 3 ((a1 >>> (0 &&& 31)) &&& 255)) 1 1 4) 2 4 ((a2 >>> (24 &&& 31)) &&& 255)) 1 1 5) 2 5 ((a2 >>> (16 &&& 31)) &&& 255)) 1 1 6) 2 6 ((a2 >>> (8 &&& 31)) &&& 255)) 1 1 7) 2 7 ((a2 >>> (0 &&& 31)) &&& 255)) 1 1 8) 2 8 ((a3 >>> (24 &&& 31)) &&& 255)) 1 1 9) 2 9 ((a3 >>> (16 &&& 31)) &&& 255)) 1 1 10) 2 10 ((a3 >>> (8 &&& 31)) &&& 255)) 1 1 11) 2 11 ((a3 >>> (0 &&& 31)) &&& 255)) 1 1 12) 2 12 ((a4 >>> (24 &&& 31)) &&& 255)) 1 1 13) 2 13 ((a4 >>> (16 &&& 31)) &&& 255)) 1 1 14) 2 14 ((a4 >>> (8 &&& 31)) &&& 255)) 1 1 15) 2 15 ((a4 >>> (0 &&& 31)) &&& 255)) 1 1 16) 2 16 ((a5 >>> (24 &&& 31)) &&& 255)) 1 1 17) 2 17 ((a5 >>> (16 &&& 31)) &&& 255)) 1 1 18) 2 18 ((a5 >>> (8 &&& 31)) &&& 255)) 1 1 19) 2 19 ((a5 >>> (0 &&& 31)) &&& 255)) 1 1 20) 87 0 (vp_nar .byte (a1 >>> (24 &&& 31)).toInt8.toInt32)) 86 1 1) 87 1 (vp_nar .byte (a1 >>> (16 &&& 31)).toInt8.toInt32)) 86 1 2) 87 2 (vp_nar .byte (a1 >>> (8 &&& 31)).toInt8.toInt32)) 86 1 3) 87 3 (vp_nar .byte (a1 >>> (0 &&& 31)).toInt8.toInt32)) 86 1 4) 87 4 (vp_nar .byte (a2 >>> (24 &&& 31)).toInt8.toInt32)) 86 1 5) 87 5 (vp_nar .byte (a2 >>> (16 &&& 31)).toInt8.toInt32)) 86 1 6) 87 6 (vp_nar .byte (a2 >>> (8 &&& 31)).toInt8.toInt32)) 86 1 7) 87 7 (vp_nar .byte (a2 >>> (0 &&& 31)).toInt8.toInt32)) 86 1 8) 87 8 (vp_nar .byte (a3 >>> (24 &&& 31)).toInt8.toInt32)) 86 1 9) 87 9 (vp_nar .byte (a3 >>> (16 &&& 31)).toInt8.toInt32)) 86 1 10) 87 10 (vp_nar .byte (a3 >>> (8 &&& 31)).toInt8.toInt32)) 86 1 11) 87 11 (vp_nar .byte (a3 >>> (0 &&& 31)).toInt8.toInt32)) 86 1 12)) rfl ?_
  refine ev_go 2 (pc1 := 90) (lv1 := [.ref 86, .int a1, .int a2, .int a3, .int a4, .int a5, .int 3, .int a4, .int 24]) (st1 := [.int 24, .int a4, .int 12, .ref 87]) (h1 := (xsetI (xsetI (xsetI (xsetI (xsetI (xsetI (xsetI (xsetI (xsetI (xsetI (xsetI (xsetI (xsetI (xsetI (xsetI (xsetI (xsetI (xsetI (xsetI (xsetI (xsetI (xsetI (xsetI (xsetI (xsetI (xsetI (xsetI (xsetI (xsetI (xsetI (xsetI (xsetI (xsetI (xsetI (xsetI (xsetI (xsetI (xsetI (xsetI (xsetI (xsetI (xsetI (xsetI (xsetI (xsetI (xsetI (xsetI (xsetI (xsetI (xsetI (xsetI (xsetI (xsetI (xsetI (xsetI (xsetI (xsetI (xsetI (xsetI (xsetI (xsetI (xsetI (xsetI (xsetI xhN 2 0 ((a1 >>> (24 &&& 31)) &&& 255)) 1 1 1) 2 1 ((a1 >>> (16 &&& 31)) &&& 255)) 1 1 2) 2 2 ((a1 >>> (8 &&& 31)) &&& 255)) 1 1 3) 2 3 ((a1 >>> (0 &&& 31)) &&& 255)) 1 1 4) 2 4 ((a2 >>> (24 &&& 31)) &&& 255)) 1 1 5) 2 5 ((a2 >>> (16 &&& 31)) &&& 255)) 1 1 6) 2 6 ((a2 >>> (8 &&& 31)) &&& 255)) 1 1 7) 2 7 ((a2 >>> (0 &&& 31)) &&& 255)) 1 1 8) 2 8 ((a3 >>> (24 &&& 31)) &&& 255)) 1 1 9) 2 9 ((a3 >>> (16 &&& 31)) &&& 255)) 1 1 10) 2 10 ((a3 >>> (8 &&& 31)) &&& 255)) 1 1 11) 2 11 ((a3 >>> (0 &&& 31)) &&& 255)) 1 1 12) 2 12 ((a4 >>> (24 &&& 31)) &&& 255)) 1 1 13) 2 13 ((a4 >>> (16 &&& 31)) &&& 255)) 1 1 14) 2 14 ((a4 >>> (8 &&& 31)) &&& 255)) 1 1 15) 2 15 ((a4 >>> (0 &&& 31)) &&& 255)) 1 1 16) 2 16 ((a5 >>> (24 &&& 31)) &&& 255)) 1 1 17) 2 17 ((a5 >>> (16 &&& 31)) &&& 255)) 1 1 18) 2 18 ((a5 >>> (8 &&& 31)) &&& 255)) 1 1 19) 2 19 ((a5 >>> (0 &&& 31)) &&& 255)) 1 1 20) 87 0 (vp_nar .byte (a1 >>> (24 &&& 31)).toInt8.toInt32)) 86 1 1) 87 1 (vp_nar .byte (a1 >>> (16 &&& 31)).toInt8.toInt32)) 86 1 2) 87 2 (vp_nar .byte (a1 >>> (8 &&& 31)).toInt8.toInt32)) 86 1 3) 87 3 (vp_nar .byte (a1 >>> (0 &&& 31)).toInt8.toInt32)) 86 1 4) 87 4 (vp_nar .byte (a2 >>> (24 &&& 31)).toInt8.toInt32)) 86 1 5) 87 5 (vp_nar .byte (a2 >>> (16 &&& 31)).toInt8.toInt32)) 86 1 6) 87 6 (vp_nar .byte (a2 >>> (8 &&& 31)).toInt8.toInt32)) 86 1 7) 87 7 (vp_nar .byte (a2 >>> (0 &&& 31)).toInt8.toInt32)) 86 1 8) 87 8 (vp_nar .byte (a3 >>> (24 &&& 31)).toInt8.toInt32)) 86 1 9) 87 9 (vp_nar .byte (a3 >>> (16 &&& 31)).toInt8.toInt32)) 86 1 10) 87 10 (vp_nar .byte (a3 >>> (8 &&& 31)).toInt8.toInt32)) 86 1 11) 87 11 (vp_nar .byte (a3 >>> (0 &&& 31)).toInt8.toInt32)) 86 1 12)) rfl ?_
  refine ev_go 19 (pc1 := 90) (lv1 := [.ref 86, .int a1, .int a2, .int a3, .int a4, .int a5, .int 3, .int a4, .int 16]) (st1 := [.int 16, .int a4, .int 13, .ref 87]) (h1 := (xsetI (xsetI (xsetI (xsetI (xsetI (xsetI (xsetI (xsetI (xsetI (xsetI (xsetI (xsetI (xsetI (xsetI (xsetI (xsetI (xsetI (xsetI (xsetI (xsetI (xsetI (xsetI (xsetI (xsetI (xsetI (xsetI (xsetI (xsetI (xsetI (xsetI (xsetI (xsetI (xsetI (xsetI (xsetI (xsetI (xsetI (xsetI (xsetI (xsetI (xsetI (xsetI (xsetI (xsetI (xsetI (xsetI (xsetI (xsetI (xsetI (xsetI (xsetI (xsetI (xsetI (xsetI (xsetI (xsetI (xsetI (xsetI (xsetI (xsetI (xsetI (xsetI (xsetI (xsetI (xsetI (xsetI xhN 2 0 ((a1 >>> (24 &&& 31)) &&& 255)) 1 1 1) 2 1 ((a1 >>> (16 &&& 31)) &&& 255)) 1 1 2) 2 2 ((a1 >>> (8 &&& 31)) &&& 255)) 1 1 3) 2 3 ((a1 >>> (0 &&& 31)) &&& 255)) 1 1 4) 2 4 ((a2 >>> (24 &&& 31)) &&& 255)) 1 1 5) 2 5 ((a2 >>> (16 &&& 31)) &&& 255)) 1 1 6) 2 6 ((a2 >>> (8 &&& 31)) &&& 255)) 1 1 7) 2 7 ((a2 >>> (0 &&& 31)) &&& 255)) 1 1 8) 2 8 ((a3 >>> (24 &&& 31)) &&& 255)) 1 1 9) 2 9 ((a3 >>> (16 &&& 31)) &&& 255)) 1 1 10) 2 10 ((a3 >>> (8 &&& 31)) &&& 255)) 1 1 11) 2 11 ((a3 >>> (0 &&& 31)) &&& 255)) 1 1 12) 2 12 ((a4 >>> (24 &&& 31)) &&& 255)) 1 1 13) 2 13 ((a4 >>> (16 &&& 31)) &&& 255)) 1 1 14) 2 14 ((a4 >>> (8 &&& 31)) &&& 255)) 1 1 15) 2 15 ((a4 >>> (0 &&& 31)) &&& 255)) 1 1 16) 2 16 ((a5 >>> (24 &&& 31)) &&& 255)) 1 1 17) 2 17 ((a5 >>> (16 &&& 31)) &&& 255)) 1 1 18) 2 18 ((a5 >>> (8 &&& 31)) &&& 255)) 1 1 19) 2 19 ((a5 >>> (0 &&& 31)) &&& 255)) 1 1 20) 87 0 (vp_nar .byte (a1 >>> (24 &&& 31)).toInt8.toInt32)) 86 1 1) 87 1 (vp_nar .byte (a1 >>> (16 &&& 31)).toInt8.toInt32)) 86 1 2) 87 2 (vp_nar .byte (a1 >>> (8 &&& 31)).toInt8.toInt32)) 86 1 3) 87 3 (vp_nar .byte (a1 >>> (0 &&& 31)).toInt8.toInt32)) 86 1 4) 87 4 (vp_nar .byte (a2 >>> (24 &&& 31)).toInt8.toInt32)) 86 1 5) 87 5 (vp_nar .byte (a2 >>> (16 &&& 31)).toInt8.toInt32)) 86 1 6) 87 6 (vp_nar .byte (a2 >>> (8 &&& 31)).toInt8.toInt32)) 86 1 7) 87 7 (vp_nar .byte (a2 >>> (0 &&& 31)).toInt8.toInt32)) 86 1 8) 87 8 (vp_nar .byte (a3 >>> (24 &&& 31)).toInt8.toInt32)) 86 1 9) 87 9 (vp_nar .byte (a3 >>> (16 &&& 31)).toInt8.toInt32)) 86 1 10) 87 10 (vp_nar .byte (a3 >>> (8 &&& 31)).toInt8.toInt32)) 86 1 11) 87 11 (vp_nar .byte (a3 >>> (0 &&& 31)).toInt8.toInt32)) 86 1 12) 87 12 (vp_nar .byte (a4 >>> (24 &&& 31)).toInt8.toInt32)) 86 1 13)) rfl ?_
  refine ev_go 19 (pc1 := 90) (lv1 := [.ref 86, .int a1, .int a2, .int a3, .int a4, .int a5, .int 3, .int a4, .int 8]) (st1 := [.int 8, .int a4, .int 14, .ref 87]) (h1 := (xsetI (xsetI (xsetI (xsetI (xsetI (xsetI (xsetI (xsetI (xsetI (xsetI (xsetI (xsetI (xsetI (xsetI (xsetI (xsetI (xsetI (xsetI (xsetI (xsetI (xsetI (xsetI (xsetI (xsetI (xsetI (xsetI (xsetI (xsetI (xsetI (xsetI (xsetI (xsetI (xsetI (xsetI (xsetI (xsetI (xsetI (xsetI (xsetI (xsetI (xsetI (xsetI (xsetI (xsetI (xsetI (xsetI (xsetI (xsetI (xsetI (xsetI (xsetI (xsetI (xsetI (xsetI (xsetI (xsetI (xsetI (xsetI (xsetI (xsetI (xsetI (xsetI (xsetI (xsetI (xsetI (xsetI (xsetI (xsetI xhN 2 0 ((a1 >>> (24 &&& 31)) &&& 255)) 1 1 1) 2 1 ((a1 >>> (16 &&& 31)) &&& 255)) 1 1 2) 2 2 ((a1 >>> (8 &&& 31)) &&& 255)) 1 1 3) 2 3 ((a1 >>> (0 &&& 31)) &&& 255)) 1 1 4) 2 4 ((a2 >>> (24 &&& 31)) &&& 255)) 1 1 5) 2 5 ((a2 >>> (16 &&& 31)) &&& 255)) 1 1 6) 2 6 ((a2 >>> (8 &&& 31)) &&& 255)) 1 1 7) 2 7 ((a2 >>> (0 &&& 31)) &&& 255)) 1 1 8) 2 8 ((a3 >>> (24 &&& 31)) &&& 255)) 1 1 9) 2 9 ((a3 >>> (16 &&& 31)) &&& 255)) 1 1 10) 2 10 ((a3 >>> (8 &&& 31)) &&& 255)) 1 1 11) 2 11 ((a3 >>> (0 &&& 31)) &&& 255)) 1 1 12) 2 12 ((a4 >>> (24 &&& 31)) &&& 255)) 1 1 13) 2 13 ((a4 >>> (16 &&& 31)) &&& 255)) 1 1 14) 2 14 ((a4 >>> (8 &&& 31)) &&& 255)) 1 1 15) 2 15 ((a4 >>> (0 &&& 31)) &&& 255)) 1 1 16) 2 16 ((a5 >>> (24 &&& 31)) &&& 255)) 1 1 17) 2 17 ((a5 >>> (16 &&& 31)) &&& 255)) 1 1 18) 2 18 ((a5 >>> (8 &&& 31)) &&& 255)) 1 1 19) 2 19 ((a5 >>> (0 &&& 31)) &&& 255)) 1 1 20) 87 0 (vp_nar .byte (a1 >>> (24 &&& 31)).toInt8.toInt32)) 86 1 1) 87 1 (vp_nar .byte (a1 >>> (16 &&& 31)).toInt8.toInt32)) 86 1 2) 87 2 (vp_nar .byte (a1 >>> (8 &&& 31)).toInt8.toInt32)) 86 1 3) 87 3 (vp_nar .byte (a1 >>> (0 &&& 31)).toInt8.toInt32)) 86 1 4) 87 4 (vp_nar .byte (a2 >>> (24 &&& 31)).toInt8.toInt32)) 86 1 5) 87 5 (vp_nar .byte (a2 >>> (16 &&& 31)).toInt8.toInt32)) 86 1 6) 87 6 (vp_nar .byte (a2 >>> (8 &&& 31)).toInt8.toInt32)) 86 1 7) 87 7 (vp_nar .byte (a2 >>> (0 &&& 31)).toInt8.toInt32)) 86 1 8) 87 8 (vp_nar .byte (a3 >>> (24 &&& 31)).toInt8.toInt32)) 86 1 9) 87 9 (vp_nar .byte (a3 >>> (16 &&& 31)).toInt8.toInt32)) 86 1 10) 87 10 (vp_nar .byte (a3 >>> (8 &&& 31)).toInt8.toInt32)) 86 1 11) 87 11 (vp_nar .byte (a3 >>> (0 &&& 31)).toInt8.toInt32)) 86 1 12) 87 12 (vp_nar .byte (a4 >>> (24 &&& 31)).toInt8.toInt32)) 86 1 13) 87 13 (vp_nar .byte (a4 >>> (16 &&& 31)).toInt8.toInt32)) 86 1 14)) rfl ?_
  refine ev_go 19 (pc1 := 90) (lv1 := [.ref 86, .int a1, .int a2, .int a3, .int a4, .int a5, .int 3, .int a4, .int 0]) (st1 := [.int 0, .int a4, .int 15, .ref 87]) (h1 := (xsetI (xsetI (xsetI (xsetI (xsetI (xsetI (xsetI (xsetI (xsetI (xsetI (xsetI (xsetI (xsetI (xsetI (xsetI (xsetI (xsetI (xsetI (xsetI (xsetI (xsetI (xsetI (xsetI (xsetI (xsetI (xsetI (xsetI (xsetI (xsetI (xsetI (xsetI (xsetI (xsetI (xsetI (xsetI (xsetI (xsetI (xsetI (xsetI (xsetI (xsetI (xsetI (xsetI (xsetI (xsetI (xsetI (xsetI (xsetI (xsetI (xsetI (xsetI (xsetI (xsetI (xsetI (xsetI (xsetI (xsetI (xsetI (xsetI (xsetI (xsetI (xsetI (xsetI (xsetI (xsetI (xsetI (xsetI (xsetI (xsetI (xsetI xhN 2 0 ((a1 >>> (24 &&& 31)) &&& 255)) 1 1 1) 2 1 ((a1 >>> (16 &&& 31)) &&& 255)) 1 1 2) 2 2 ((a1 >>> (8 &&& 31)) &&& 255)) 1 1 3) 2 3 ((a1 >>> (0 &&& 31)) &&& 255)) 1 1 4) 2 4 ((a2 >>> (24 &&& 31)) &&& 255)) 1 1 5) 2 5 ((a2 >>> (16 &&& 31)) &&& 255)) 1 1 6) 2 6 ((a2 >>> (8 &&& 31)) &&& 255)) 1 1 7) 2 7 ((a2 >>> (0 &&& 31)) &&& 255)) 1 1 8) 2 8 ((a3 >>> (24 &&& 31)) &&& 255)) 1 1 9) 2 9 ((a3 >>> (16 &&& 31)) &&& 255)) 1 1 10) 2 10 ((a3 >>> (8 &&& 31)) &&& 255)) 1 1 11) 2 11 ((a3 >>> (0 &&& 31)) &&& 255)) 1 1 12) 2 12 ((a4 >>> (24 &&& 31)) &&& 255)) 1 1 13) 2 13 ((a4 >>> (16 &&& 31)) &&& 255)) 1 1 14) 2 14 ((a4 >>> (8 &&& 31)) &&& 255)) 1 1 15) 2 15 ((a4 >>> (0 &&& 31)) &&& 255)) 1 1 16) 2 16 ((a5 >>> (24 &&& 31)) &&& 255)) 1 1 17) 2 17 ((a5 >>> (16 &&& 31)) &&& 255)) 1 1 18) 2 18 ((a5 >>> (8 &&& 31)) &&& 255)) 1 1 19) 2 19 ((a5 >>> (0 &&& 31)) &&& 255)) 1 1 20) 87 0 (vp_nar .byte (a1 >>> (24 &&& 31)).toInt8.toInt32)) 86 1 1) 87 1 (vp_nar .byte (a1 >>> (16 &&& 31)).toInt8.toInt32)) 86 1 2) 87 2 (vp_nar .byte (a1 >>> (8 &&& 31)).toInt8.toInt32)) 86 1 3) 87 3 (vp_nar .byte (a1 >>> (0 &&& 31)).toInt8.toInt32)) 86 1 4) 87 4 (vp_nar .byte (a2 >>> (24 &&& 31)).toInt8.toInt32)) 86 1 5) 87 5 (vp_nar .byte (a2 >>> (16 &&& 31)).toInt8.toInt32)) 86 1 6) 87 6 (vp_nar .byte (a2 >>> (8 &&& 31)).toInt8.toInt32)) 86 1 7) 87 7 (vp_nar .byte (a2 >>> (0 &&& 31)).toInt8.toInt32)) 86 1 8) 87 8 (vp_nar .byte (a3 >>> (24 &&& 31)).toInt8.toInt32)) 86 1 9) 87 9 (vp_nar .byte (a3 >>> (16 &&& 31)).toInt8.toInt32)) 86 1 10) 87 10 (vp_nar .byte (a3 >>> (8 &&& 31)).toInt8.toInt32)) 86 1 11) 87 11 (vp_nar .byte (a3 >>> (0 &&& 31)).toInt8.toInt32)) 86 1 12) 87 12 (vp_nar .byte (a4 >>> (24 &&& 31)).toInt8.toInt32)) 86 1 13) 87 13 (vp_nar .byte (a4 >>> (16 &&& 31)).toInt8.toInt32)) 86 1 14) 87 14 (vp_nar .byte (a4 >>> (8 &&& 31)).toInt8.toInt32)) 86 1 15)) rfl ?_
  refine ev_go 40 (pc1 := 88) (lv1 := [.ref 86, .int a1, .int a2, .int a3, .int a4, .int a5, .int 4, .int a5, .int 24]) (st1 := [.int a5, .int 16, .ref 87]) (h1 := (xsetI (xsetI (xsetI (xsetI (xsetI (xsetI (xsetI (xsetI (xsetI (xsetI (xsetI (xsetI (xsetI (xsetI (xsetI (xsetI (xsetI (xsetI (xsetI (xsetI (xsetI (xsetI (xsetI (xsetI (xsetI (xsetI (xsetI (xsetI (xsetI (xsetI (xsetI (xsetI (xsetI (xsetI (xsetI (xsetI (xsetI (xsetI (xsetI (xsetI (xsetI (xsetI (xsetI (xsetI (xsetI (xsetI (xsetI (xsetI (xsetI (xsetI (xsetI (xsetI (xsetI (xsetI (xsetI (xsetI (xsetI (xsetI (xsetI (xsetI (xsetI (xsetI (xsetI (xsetI (xsetI (xsetI (xsetI (xsetI (xsetI (xsetI (xsetI (xsetI xhN 2 0 ((a1 >>> (24 &&& 31)) &&& 255)) 1 1 1) 2 1 ((a1 >>> (16 &&& 31)) &&& 255)) 1 1 2) 2 2 ((a1 >>> (8 &&& 31)) &&& 255)) 1 1 3) 2 3 ((a1 >>> (0 &&& 31)) &&& 255)) 1 1 4) 2 4 ((a2 >>> (24 &&& 31)) &&& 255)) 1 1 5) 2 5 ((a2 >>> (16 &&& 31)) &&& 255)) 1 1 6) 2 6 ((a2 >>> (8 &&& 31)) &&& 255)) 1 1 7) 2 7 ((a2 >>> (0 &&& 31)) &&& 255)) 1 1 8) 2 8 ((a3 >>> (24 &&& 31)) &&& 255)) 1 1 9) 2 9 ((a3 >>> (16 &&& 31)) &&& 255)) 1 1 10) 2 10 ((a3 >>> (8 &&& 31)) &&& 255)) 1 1 11) 2 11 ((a3 >>> (0 &&& 31)) &&& 255)) 1 1 12) 2 12 ((a4 >>> (24 &&& 31)) &&& 255)) 1 1 13) 2 13 ((a4 >>> (16 &&& 31)) &&& 255)) 1 1 14) 2 14 ((a4 >>> (8 &&& 31)) &&& 255)) 1 1 15) 2 15 ((a4 >>> (0 &&& 31)) &&& 255)) 1 1 16) 2 16 ((a5 >>> (24 &&& 31)) &&& 255)) 1 1 17) 2 17 ((a5 >>> (16 &&& 31)) &&& 255)) 1 1 18) 2 18 ((a5 >>> (8 &&& 31)) &&& 255)) 1 1 19) 2 19 ((a5 >>> (0 &&& 31)) &&& 255)) 1 1 20) 87 0 (vp_nar .byte (a1 >>> (24 &&& 31)).toInt8.toInt32)) 86 1 1) 87 1 (vp_nar .byte (a1 >>> (16 &&& 31)).toInt8.toInt32)) 86 1 2) 87 2 (vp_nar .byte (a1 >>> (8 &&& 31)).toInt8.toInt32)) 86 1 3) 87 3 (vp_nar .byte (a1 >>> (0 &&& 31)).toInt8.toInt32)) 86 1 4) 87 4 (vp_nar .byte (a2 >>> (24 &&& 31)).toInt8.toInt32)) 86 1 5) 87 5 (vp_nar .byte (a2 >>> (16 &&& 31)).toInt8.toInt32)) 86 1 6) 87 6 (vp_nar .byte (a2 >>> (8 &&& 31)).toInt8.toInt32)) 86 1 7) 87 7 (vp_nar .byte (a2 >>> (0 &&& 31)).toInt8.toInt32)) 86 1 8) 87 8 (vp_nar .byte (a3 >>> (24 &&& 31)).toInt8.toInt32)) 86 1 9) 87 9 (vp_nar .byte (a3 >>> (16 &&& 31)).toInt8.toInt32)) 86 1 10) 87 10 (vp_nar .byte (a3 >>> (8 &&& 31)).toInt8.toInt32)) 86 1 11) 87 11 (vp_nar .byte (a3 >>> (0 &&& 31)).toInt8.toInt32)) 86 1 12) 87 12 (vp_nar .byte (a4 >>> (24 &&& 31)).toInt8.toInt32)) 86 1 13) 87 13 (vp_nar .byte (a4 >>> (16 &&& 31)).toInt8.toInt32)) 86 1 14) 87 14 (vp_nar .byte (a4 >>> (8 &&& 31)).toInt8.toInt32)) 86 1 15) 87 15 (vp_nar .byte (a4 >>> (0 &&& 31)).toInt8.toInt32)) 86 1 16)) rfl ?_
  refine ev_go 1 (pc1 := 90) (lv1 := [.ref 86, .int a1, .int a2, .int a3, .int a4, .int a5, .int 4, .int a5, .int 24]) (st1 := [.int 24, .int a5, .int 16, .ref 87]) (h1 := (xsetI (xsetI (xsetI (xsetI (xsetI (xsetI (xsetI (xsetI (xsetI (xsetI (xsetI (xsetI (xsetI (xsetI (xsetI (xsetI (xsetI (xsetI (xsetI (xsetI (xsetI (xsetI (xsetI (xsetI (xsetI (xsetI (xsetI (xsetI (xsetI (xsetI (xsetI (xsetI (xsetI (xsetI (xsetI (xsetI (xsetI (xsetI (xsetI (xsetI (xsetI (xsetI (xsetI (xsetI (xsetI (xsetI (xsetI (xsetI (xsetI (xsetI (xsetI (xsetI (xsetI (xsetI (xsetI (xsetI (xsetI (xsetI (xsetI (xsetI (xsetI (xsetI (xsetI (xsetI (xsetI (xsetI (xsetI (xsetI (xsetI (xsetI (xsetI (xsetI xhN 2 0 ((a1 >>> (24 &&& 31)) &&& 255)) 1 1 1) 2 1 ((a1 >>> (16 &&& 31)) &&& 255)) 1 1 2) 2 2 ((a1 >>> (8 &&& 31)) &&& 255)) 1 1 3) 2 3 ((a1 >>> (0 &&& 31)) &&& 255)) 1 1 4) 2 4 ((a2 >>> (24 &&& 31)) &&& 255)) 1 1 5) 2 5 ((a2 >>> (16 &&& 31)) &&& 255)) 1 1 6) 2 6 ((a2 >>> (8 &&& 31)) &&& 255)) 1 1 7) 2 7 ((a2 >>> (0 &&& 31)) &&& 255)) 1 1 8) 2 8 ((a3 >>> (24 &&& 31)) &&& 255)) 1 1 9) 2 9 ((a3 >>> (16 &&& 31)) &&& 255)) 1 1 10) 2 10 ((a3 >>> (8 &&& 31)) &&& 255)) 1 1 11) 2 11 ((a3 >>> (0 &&& 31)) &&& 255)) 1 1 12) 2 12 ((a4 >>> (24 &&& 31)) &&& 255)) 1 1 13) 2 13 ((a4 >>> (16 &&& 31)) &&& 255)) 1 1 14) 2 14 ((a4 >>> (8 &&& 31)) &&& 255)) 1 1 15) 2 15 ((a4 >>> (0 &&& 31)) &&& 255)) 1 1 16) 2 16 ((a5 >>> (24 &&& 31)) &&& 255)) 1 1 17) 2 17 ((a5 >>> (16 &&& 31)) &&& 255)) 1 1 18) 2 18 ((a5 >>> (8 &&& 31)) &&& 255)) 1 1 19) 2 19 ((a5 >>> (0 &&& 31)) &&& 255)) 1 1 20) 87 0 (vp_nar .byte (a1 >>> (24 &&& 31)).toInt8.toInt32)) 86 1 1) 87 1 (vp_nar .byte (a1 >>> (16 &&& 31)).toInt8.toInt32)) 86 1 2) 87 2 (vp_nar .byte (a1 >>> (8 &&& 31)).toInt8.toInt32)) 86 1 3) 87 3 (vp_nar .byte (a1 >>> (0 &&& 31)).toInt8.toInt32)) 86 1 4) 87 4 (vp_nar .byte (a2 >>> (24 &&& 31)).toInt8.toInt32)) 86 1 5) 87 5 (vp_nar .byte (a2 >>> (16 &&& 31)).toInt8.toInt32)) 86 1 6) 87 6 (vp_nar .byte (a2 >>> (8 &&& 31)).toInt8.toInt32)) 86 1 7) 87 7 (vp_nar .byte (a2 >>> (0 &&& 31)).toInt8.toInt32)) 86 1 8) 87 8 (vp_nar .byte (a3 >>> (24 &&& 31)).toInt8.toInt32)) 86 1 9) 87 9 (vp_nar .byte (a3 >>> (16 &&& 31)).toInt8.toInt32)) 86 1 10) 87 10 (vp_nar .byte (a3 >>> (8 &&& 31)).toInt8.toInt32)) 86 1 11) 87 11 (vp_nar .byte (a3 >>> (0 &&& 31)).toInt8.toInt32)) 86 1 12) 87 12 (vp_nar .byte (a4 >>> (24 &&& 31)).toInt8.toInt32)) 86 1 13) 87 13 (vp_nar .byte (a4 >>> (16 &&& 31)).toInt8.toInt32)) 86 1 14) 87 14 (vp_nar .byte (a4 >>> (8 &&& 31)).toInt8.toInt32)) 86 1 15) 87 15 (vp_nar .byte (a4 >>> (0 &&& 31)).toInt8.toInt32)) 86 1 16)) rfl ?_
  refine ev_go 19 (pc1 := 90) (lv1 := [.ref 86, .int a1, .int a2, .int a3, .int a4, .int a5, .int 4, .int a5, .int 16]) (st1 := [.int 16, .int a5, .int 17, .ref 87]) (h1 := (xsetI (xsetI (xsetI (xsetI (xsetI (xsetI (xsetI (xsetI (xsetI (xsetI (xsetI (xsetI (xsetI (xsetI (xsetI (xsetI (xsetI (xsetI (xsetI (xsetI (xsetI (xsetI (xsetI (xsetI (xsetI (xsetI (xsetI (xsetI (xsetI (xsetI (xsetI (xsetI (xsetI (xsetI (xsetI (xsetI (xsetI (xsetI (xsetI (xsetI (xsetI (xsetI (xsetI (xsetI (xsetI (xsetI (xsetI (xsetI (xsetI (xsetI (xsetI (xsetI (xsetI (xsetI (xsetI (xsetI (xsetI (xsetI (xsetI (xsetI (xsetI (xsetI (xsetI (xsetI (xsetI (xsetI (xsetI (xsetI (xsetI (xsetI (xsetI (xsetI (xsetI (xsetI xhN 2 0 ((a1 >>> (24 &&& 31)) &&& 255)) 1 1 1) 2 1 ((a1 >>> (16 &&& 31)) &&& 255)) 1 1 2) 2 2 ((a1 >>> (8 &&& 31)) &&& 255)) 1 1 3) 2 3 ((a1 >>> (0 &&& 31)) &&& 255)) 1 1 4) 2 4 ((a2 >>> (24 &&& 31)) &&& 255)) 1 1 5) 2 5 ((a2 >>> (16 &&& 31)) &&& 255)) 1 1 6) 2 6 ((a2 >>> (8 &&& 31)) &&& 255)) 1 1 7) 2 7 ((a2 >>> (0 &&& 31)) &&& 255)) 1 1 8) 2 8 ((a3 >>> (24 &&& 31)) &&& 255)) 1 1 9) 2 9 ((a3 >>> (16 &&& 31)) &&& 255)) 1 1 10) 2 10 ((a3 >>> (8 &&& 31)) &&& 255)) 1 1 11) 2 11 ((a3 >>> (0 &&& 31)) &&& 255)) 1 1 12) 2 12 ((a4 >>> (24 &&& 31)) &&& 255)) 1 1 13) 2 13 ((a4 >>> (16 &&& 31)) &&& 255)) 1 1 14) 2 14 ((a4 >>> (8 &&& 31)) &&& 255)) 1 1 15) 2 15 ((a4 >>> (0 &&& 31)) &&& 255)) 1 1 16) 2 16 ((a5 >>> (24 &&& 31)) &&& 255)) 1 1 17) 2 17 ((a5 >>> (16 &&& 31)) &&& 255)) 1 1 18) 2 18 ((a5 >>> (8 &&& 31)) &&& 255)) 1 1 19) 2 19 ((a5 >>> (0 &&& 31)) &&& 255)) 1 1 20) 87 0 (vp_nar .byte (a1 >>> (24 &&& 31)).toInt8.toInt32)) 86 1 1) 87 1 (vp_nar .byte (a1 >>> (16 &&& 31)).toInt8.toInt32)) 86 1 2) 87 2 (vp_nar .byte (a1 >>> (8 &&& 31)).toInt8.toInt32)) 86 1 3) 87 3 (vp_nar .byte (a1 >>> (0 &&& 31)).toInt8.toInt32)) 86 1 4) 87 4 (vp_nar .byte (a2 >>> (24 &&& 31)).toInt8.toInt32)) 86 1 5) 87 5 (vp_nar .byte (a2 >>> (16 &&& 31)).toInt8.toInt32)) 86 1 6) 87 6 (vp_nar .byte (a2 >>> (8 &&& 31)).toInt8.toInt32)) 86 1 7) 87 7 (vp_nar .byte (a2 >>> (0 &&& 31)).toInt8.toInt32)) 86 1 8) 87 8 (vp_nar .byte (a3 >>> (24 &&& 31)).toInt8.toInt32)) 86 1 9) 87 9 (vp_nar .byte (a3 >>> (16 &&& 31)).toInt8.toInt32)) 86 1 10) 87 10 (vp_nar .byte (a3 >>> (8 &&& 31)).toInt8.toInt32)) 86 1 11) 87 11 (vp_nar .byte (a3 >>> (0 &&& 31)).toInt8.toInt32)) 86 1 12) 87 12 (vp_nar .byte (a4 >>> (24 &&& 31)).toInt8.toInt32)) 86 1 13) 87 13 (vp_nar .byte (a4 >>> (16 &&& 31)).toInt8.toInt32)) 86 1 14) 87 14 (vp_nar .byte (a4 >>> (8 &&& 31)).toInt8.toInt32)) 86 1 15) 87 15 (vp_nar .byte (a4 >>> (0 &&& 31)).toInt8.toInt32)) 86 1 16) 87 16 (vp_nar .byte (a5 >>> (24 &&& 31)).toInt8.toInt32)) 86 1 17)) rfl ?_
  refine ev_go 19 (pc1 := 90) (lv1 := [.ref 86, .int a1, .int a2, .int a3, .int a4, .int a5, .int 4, .int a5, .int 8]) (st1 := [.int 8, .int a5, .int 18, .ref 87]) (h1 := (xsetI (xsetI (xsetI (xsetI (xsetI (xsetI (xsetI (xsetI (xsetI (xsetI (xsetI (xsetI (xsetI (xsetI (xsetI (xsetI (xsetI (xsetI (xsetI (xsetI (xsetI (xsetI (xsetI (xsetI (xsetI (xsetI (xsetI (xsetI (xsetI (xsetI (xsetI (xsetI (xsetI (xsetI (xsetI (xsetI (xsetI (xsetI (xsetI (xsetI (xsetI (xsetI (xsetI (xsetI (xsetI (xsetI (xsetI (xsetI (xsetI (xsetI (xsetI (xsetI (xsetI (xsetI (xsetI (xsetI (xsetI (xsetI (xsetI (xsetI (xsetI (xsetI (xsetI (xsetI (xsetI (xsetI (xsetI (xsetI (xsetI (xsetI (xsetI (xsetI (xsetI (xsetI (xsetI (xsetI xhN 2 0 ((a1 >>> (24 &&& 31)) &&& 255)) 1 1 1) 2 1 ((a1 >>> (16 &&& 31)) &&& 255)) 1 1 2) 2 2 ((a1 >>> (8 &&& 31)) &&& 255)) 1 1 3) 2 3 ((a1 >>> (0 &&& 31)) &&& 255)) 1 1 4) 2 4 ((a2 >>> (24 &&& 31)) &&& 255)) 1 1 5) 2 5 ((a2 >>> (16 &&& 31)) &&& 255)) 1 1 6) 2 6 ((a2 >>> (8 &&& 31)) &&& 255)) 1 1 7) 2 7 ((a2 >>> (0 &&& 31)) &&& 255)) 1 1 8) 2 8 ((a3 >>> (24 &&& 31)) &&& 255)) 1 1 9) 2 9 ((a3 >>> (16 &&& 31)) &&& 255)) 1 1 10) 2 10 ((a3 >>> (8 &&& 31)) &&& 255)) 1 1 11) 2 11 ((a3 >>> (0 &&& 31)) &&& 255)) 1 1 12) 2 12 ((a4 >>> (24 &&& 31)) &&& 255)) 1 1 13) 2 13 ((a4 >>> (16 &&& 31)) &&& 255)) 1 1 14) 2 14 ((a4 >>> (8 &&& 31)) &&& 255)) 1 1 15) 2 15 ((a4 >>> (0 &&& 31)) &&& 255)) 1 1 16) 2 16 ((a5 >>> (24 &&& 31)) &&& 255)) 1 1 17) 2 17 ((a5 >>> (16 &&& 31)) &&& 255)) 1 1 18) 2 18 ((a5 >>> (8 &&& 31)) &&& 255)) 1 1 19) 2 19 ((a5 >>> (0 &&& 31)) &&& 255)) 1 1 20) 87 0 (vp_nar .byte (a1 >>> (24 &&& 31)).toInt8.toInt32)) 86 1 1) 87 1 (vp_nar .byte (a1 >>> (16 &&& 31)).toInt8.toInt32)) 86 1 2) 87 2 (vp_nar .byte (a1 >>> (8 &&& 31)).toInt8.toInt32)) 86 1 3) 87 3 (vp_nar .byte (a1 >>> (0 &&& 31)).toInt8.toInt32)) 86 1 4) 87 4 (vp_nar .byte (a2 >>> (24 &&& 31)).toInt8.toInt32)) 86 1 5) 87 5 (vp_nar .byte (a2 >>> (16 &&& 31)).toInt8.toInt32)) 86 1 6) 87 6 (vp_nar .byte (a2 >>> (8 &&& 31)).toInt8.toInt32)) 86 1 7) 87 7 (vp_nar .byte (a2 >>> (0 &&& 31)).toInt8.toInt32)) 86 1 8) 87 8 (vp_nar .byte (a3 >>> (24 &&& 31)).toInt8.toInt32)) 86 1 9) 87 9 (vp_nar .byte (a3 >>> (16 &&& 31)).toInt8.toInt32)) 86 1 10) 87 10 (vp_nar .byte (a3 >>> (8 &&& 31)).toInt8.toInt32)) 86 1 11) 87 11 (vp_nar .byte (a3 >>> (0 &&& 31)).toInt8.toInt32)) 86 1 12) 87 12 (vp_nar .byte (a4 >>> (24 &&& 31)).toInt8.toInt32)) 86 1 13) 87 13 (vp_nar .byte (a4 >>> (16 &&& 31)).toInt8.toInt32)) 86 1 14) 87 14 (vp_nar .byte (a4 >>> (8 &&& 31)).toInt8.toInt32)) 86 1 15) 87 15 (vp_nar .byte (a4 >>> (0 &&& 31)).toInt8.toInt32)) 86 1 16) 87 16 (vp_nar .byte (a5 >>> (24 &&& 31)).toInt8.toInt32)) 86 1 17) 87 17 (vp_nar .byte (a5 >>> (16 &&& 31)).toInt8.toInt32)) 86 1 18)) rfl ?_
  refine ev_go 19 (pc1 := 90) (lv1 := [.ref 86, .int a1, .int a2, .int a3, .int a4, .int a5, .int 4, .int a5, .int 0]) (st1 := [.int 0, .int a5, .int 19, .ref 87]) (h1 := (xsetI (xsetI (xsetI (xsetI (xsetI (xsetI (xsetI (xsetI (xsetI (xsetI (xsetI (xsetI (xsetI (xsetI (xsetI (xsetI (xsetI (xsetI (xsetI (xsetI (xsetI (xsetI (xsetI (xsetI (xsetI (xsetI (xsetI (xsetI (xsetI (xsetI (xsetI (xsetI (xsetI (xsetI (xsetI (xsetI (xsetI (xsetI (xsetI (xsetI (xsetI (xsetI (xsetI (xsetI (xsetI (xsetI (xsetI (xsetI (xsetI (xsetI (xsetI (xsetI (xsetI (xsetI (xsetI (xsetI (xsetI (xsetI (xsetI (xsetI (xsetI (xsetI (xsetI (xsetI (xsetI (xsetI (xsetI (xsetI (xsetI (xsetI (xsetI (xsetI (xsetI (xsetI (xsetI (xsetI (xsetI (xsetI xhN 2 0 ((a1 >>> (24 &&& 31)) &&& 255)) 1 1 1) 2 1 ((a1 >>> (16 &&& 31)) &&& 255)) 1 1 2) 2 2 ((a1 >>> (8 &&& 31)) &&& 255)) 1 1 3) 2 3 ((a1 >>> (0 &&& 31)) &&& 255)) 1 1 4) 2 4 ((a2 >>> (24 &&& 31)) &&& 255)) 1 1 5) 2 5 ((a2 >>> (16 &&& 31)) &&& 255)) 1 1 6) 2 6 ((a2 >>> (8 &&& 31)) &&& 255)) 1 1 7) 2 7 ((a2 >>> (0 &&& 31)) &&& 255)) 1 1 8) 2 8 ((a3 >>> (24 &&& 31)) &&& 255)) 1 1 9) 2 9 ((a3 >>> (16 &&& 31)) &&& 255)) 1 1 10) 2 10 ((a3 >>> (8 &&& 31)) &&& 255)) 1 1 11) 2 11 ((a3 >>> (0 &&& 31)) &&& 255)) 1 1 12) 2 12 ((a4 >>> (24 &&& 31)) &&& 255)) 1 1 13) 2 13 ((a4 >>> (16 &&& 31)) &&& 255)) 1 1 14) 2 14 ((a4 >>> (8 &&& 31)) &&& 255)) 1 1 15) 2 15 ((a4 >>> (0 &&& 31)) &&& 255)) 1 1 16) 2 16 ((a5 >>> (24 &&& 31)) &&& 255)) 1 1 17) 2 17 ((a5 >>> (16 &&& 31)) &&& 255)) 1 1 18) 2 18 ((a5 >>> (8 &&& 31)) &&& 255)) 1 1 19) 2 19 ((a5 >>> (0 &&& 31)) &&& 255)) 1 1 20) 87 0 (vp_nar .byte (a1 >>> (24 &&& 31)).toInt8.toInt32)) 86 1 1) 87 1 (vp_nar .byte (a1 >>> (16 &&& 31)).toInt8.toInt32)) 86 1 2) 87 2 (vp_nar .byte (a1 >>> (8 &&& 31)).toInt8.toInt32)) 86 1 3) 87 3 (vp_nar .byte (a1 >>> (0 &&& 31)).toInt8.toInt32)) 86 1 4) 87 4 (vp_nar .byte (a2 >>> (24 &&& 31)).toInt8.toInt32)) 86 1 5) 87 5 (vp_nar .byte (a2 >>> (16 &&& 31)).toInt8.toInt32)) 86 1 6) 87 6 (vp_nar .byte (a2 >>> (8 &&& 31)).toInt8.toInt32)) 86 1 7) 87 7 (vp_nar .byte (a2 >>> (0 &&& 31)).toInt8.toInt32)) 86 1 8) 87 8 (vp_nar .byte (a3 >>> (24 &&& 31)).toInt8.toInt32)) 86 1 9) 87 9 (vp_nar .byte (a3 >>> (16 &&& 31)).toInt8.toInt32)) 86 1 10) 87 10 (vp_nar .byte (a3 >>> (8 &&& 31)).toInt8.toInt32)) 86 1 11) 87 11 (vp_nar .byte (a3 >>> (0 &&& 31)).toInt8.toInt32)) 86 1 12) 87 12 (vp_nar .byte (a4 >>> (24 &&& 31)).toInt8.toInt32)) 86 1 13) 87 13 (vp_nar .byte (a4 >>> (16 &&& 31)).toInt8.toInt32)) 86 1 14) 87 14 (vp_nar .byte (a4 >>> (8 &&& 31)).toInt8.toInt32)) 86 1 15) 87 15 (vp_nar .byte (a4 >>> (0 &&& 31)).toInt8.toInt32)) 86 1 16) 87 16 (vp_nar .byte (a5 >>> (24 &&& 31)).toInt8.toInt32)) 86 1 17) 87 17 (vp_nar .byte (a5 >>> (16 &&& 31)).toInt8.toInt32)) 86 1 18) 87 18 (vp_nar .byte (a5 >>> (8 &&& 31)).toInt8.toInt32)) 86 1 19)) rfl ?_
  refine ev_go 20 (pc1 := 119) (lv1 := [.ref 86, .int a1, .int a2, .int a3, .int a4, .int a5, .int 5, .int a5, .int (-8)]) (st1 := [.int 20]) (h1 := (xsetI (xsetI (xsetI (xsetI (xsetI (xsetI (xsetI (xsetI (xsetI (xsetI (xsetI (xsetI (xsetI (xsetI (xsetI (xsetI (xsetI (xsetI (xsetI (xsetI (xsetI (xsetI (xsetI (xsetI (xsetI (xsetI (xsetI (xsetI (xsetI (xsetI (xsetI (xsetI (xsetI (xsetI (xsetI (xsetI (xsetI (xsetI (xsetI (xsetI (xsetI (xsetI (xsetI (xsetI (xsetI (xsetI (xsetI (xsetI (xsetI (xsetI (xsetI (xsetI (xsetI (xsetI (xsetI (xsetI (xsetI (xsetI (xsetI (xsetI (xsetI (xsetI (xsetI (xsetI (xsetI (xsetI (xsetI (xsetI (xsetI (xsetI (xsetI (xsetI (xsetI (xsetI (xsetI (xsetI (xsetI (xsetI (xsetI (xsetI xhN 2 0 ((a1 >>> (24 &&& 31)) &&& 255)) 1 1 1) 2 1 ((a1 >>> (16 &&& 31)) &&& 255)) 1 1 2) 2 2 ((a1 >>> (8 &&& 31)) &&& 255)) 1 1 3) 2 3 ((a1 >>> (0 &&& 31)) &&& 255)) 1 1 4) 2 4 ((a2 >>> (24 &&& 31)) &&& 255)) 1 1 5) 2 5 ((a2 >>> (16 &&& 31)) &&& 255)) 1 1 6) 2 6 ((a2 >>> (8 &&& 31)) &&& 255)) 1 1 7) 2 7 ((a2 >>> (0 &&& 31)) &&& 255)) 1 1 8) 2 8 ((a3 >>> (24 &&& 31)) &&& 255)) 1 1 9) 2 9 ((a3 >>> (16 &&& 31)) &&& 255)) 1 1 10) 2 10 ((a3 >>> (8 &&& 31)) &&& 255)) 1 1 11) 2 11 ((a3 >>> (0 &&& 31)) &&& 255)) 1 1 12) 2 12 ((a4 >>> (24 &&& 31)) &&& 255)) 1 1 13) 2 13 ((a4 >>> (16 &&& 31)) &&& 255)) 1 1 14) 2 14 ((a4 >>> (8 &&& 31)) &&& 255)) 1 1 15) 2 15 ((a4 >>> (0 &&& 31)) &&& 255)) 1 1 16) 2 16 ((a5 >>> (24 &&& 31)) &&& 255)) 1 1 17) 2 17 ((a5 >>> (16 &&& 31)) &&& 255)) 1 1 18) 2 18 ((a5 >>> (8 &&& 31)) &&& 255)) 1 1 19) 2 19 ((a5 >>> (0 &&& 31)) &&& 255)) 1 1 20) 87 0 (vp_nar .byte (a1 >>> (24 &&& 31)).toInt8.toInt32)) 86 1 1) 87 1 (vp_nar .byte (a1 >>> (16 &&& 31)).toInt8.toInt32)) 86 1 2) 87 2 (vp_nar .byte (a1 >>> (8 &&& 31)).toInt8.toInt32)) 86 1 3) 87 3 (vp_nar .byte (a1 >>> (0 &&& 31)).toInt8.toInt32)) 86 1 4) 87 4 (vp_nar .byte (a2 >>> (24 &&& 31)).toInt8.toInt32)) 86 1 5) 87 5 (vp_nar .byte (a2 >>> (16 &&& 31)).toInt8.toInt32)) 86 1 6) 87 6 (vp_nar .byte (a2 >>> (8 &&& 31)).toInt8.toInt32)) 86 1 7) 87 7 (vp_nar .byte (a2 >>> (0 &&& 31)).toInt8.toInt32)) 86 1 8) 87 8 (vp_nar .byte (a3 >>> (24 &&& 31)).toInt8.toInt32)) 86 1 9) 87 9 (vp_nar .byte (a3 >>> (16 &&& 31)).toInt8.toInt32)) 86 1 10) 87 10 (vp_nar .byte (a3 >>> (8 &&& 31)).toInt8.toInt32)) 86 1 11) 87 11 (vp_nar .byte (a3 >>> (0 &&& 31)).toInt8.toInt32)) 86 1 12) 87 12 (vp_nar .byte (a4 >>> (24 &&& 31)).toInt8.toInt32)) 86 1 13) 87 13 (vp_nar .byte (a4 >>> (16 &&& 31)).toInt8.toInt32)) 86 1 14) 87 14 (vp_nar .byte (a4 >>> (8 &&& 31)).toInt8.toInt32)) 86 1 15) 87 15 (vp_nar .byte (a4 >>> (0 &&& 31)).toInt8.toInt32)) 86 1 16) 87 16 (vp_nar .byte (a5 >>> (24 &&& 31)).toInt8.toInt32)) 86 1 17) 87 17 (vp_nar .byte (a5 >>> (16 &&& 31)).toInt8.toInt32)) 86 1 18) 87 18 (vp_nar .byte (a5 >>> (8 &&& 31)).toInt8.toInt32)) 86 1 19) 87 19 (vp_nar .byte (a5 >>> (0 &&& 31)).toInt8.toInt32)) 86 1 20)) rfl ?_
  exact ev_ret rfl rfl
