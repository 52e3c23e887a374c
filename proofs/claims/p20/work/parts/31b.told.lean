theorem dv10 {a : Int32} {z : Nat} (h : a.toInt = z) : (a / 10).toInt = ((z / 10 : Nat) : Int) ∧ (a - a / 10 * 10).toInt = ((z % 10 : Nat) : Int) := by
  refine ⟨?_, ?_⟩
  · rw [ai_div (by decide), h, show (10 : Int32).toInt = 10 from by decide, Int.tdiv_eq_ediv_of_nonneg (by omega)]
    omega
  · rw [ai_rem (by decide), h, show (10 : Int32).toInt = 10 from by decide, Int.tmod_eq_emod_of_nonneg (by omega)]
    omega
theorem en_run {L : Nat} {xs : Nat → Int32} {d : Nat} {I : Nat → Nat → Int32} {J : Nat → Nat → Int64} {R : Nat → Nat → Nat} {c n : Nat} (ho : ∀ f : FieldType → Nat → Option xR, xarr (124, I, J, R) c f = f .int n) (hn : n < 2147483648) (s i : Int32) : xEv L xs (d + 1) 50 0 [.ref c, .int s, .int i] [] (124, I, J, R) (some (.int (if 0 ≤ i.toInt ∧ i.toInt < s.toInt then (if 0 ≤ i.toInt ∧ i.toInt < n then I c i.toNatClampNeg else 0) else -1))) (124, I, J, R) := by
  by_cases h1 : i.toInt < 0
  · rw [if_neg (by omega)]
    refine ev_go 1 (pc1 := 1) (lv1 := [.ref c, .int s, .int i]) (st1 := [.int i]) (h1 := (124, I, J, R)) rfl ?_
    refine ev_br (b1 := true) rfl rfl (xcd_lt (x := i) (y := 0) (by rw [show ((0 : Int32)).toInt = 0 from by decide]; exact h1)) ?_
    refine ev_go 1 (pc1 := 18) (lv1 := [.ref c, .int s, .int i]) (st1 := [.int (-1)]) (h1 := (124, I, J, R)) rfl ?_
    exact ev_ret rfl rfl
  · by_cases h2 : i.toInt ≥ s.toInt
    · rw [if_neg (by omega)]
      refine ev_go 1 (pc1 := 1) (lv1 := [.ref c, .int s, .int i]) (st1 := [.int i]) (h1 := (124, I, J, R)) rfl ?_
      refine ev_br (b1 := false) rfl rfl (xcd_nlt (x := i) (y := 0) (by rw [show ((0 : Int32)).toInt = 0 from by decide]; omega)) ?_
      refine ev_go 2 (pc1 := 6) (lv1 := [.ref c, .int s, .int i]) (st1 := [.int s, .int i]) (h1 := (124, I, J, R)) rfl ?_
      refine ev_br (b1 := true) rfl rfl (xcd_ge (x := i) (y := s) h2) ?_
      refine ev_go 1 (pc1 := 18) (lv1 := [.ref c, .int s, .int i]) (st1 := [.int (-1)]) (h1 := (124, I, J, R)) rfl ?_
      exact ev_ret rfl rfl
    · rw [if_pos ⟨by omega, by omega⟩]
      refine ev_go 1 (pc1 := 1) (lv1 := [.ref c, .int s, .int i]) (st1 := [.int i]) (h1 := (124, I, J, R)) rfl ?_
      refine ev_br (b1 := false) rfl rfl (xcd_nlt (x := i) (y := 0) (by rw [show ((0 : Int32)).toInt = 0 from by decide]; omega)) ?_
      refine ev_go 2 (pc1 := 6) (lv1 := [.ref c, .int s, .int i]) (st1 := [.int s, .int i]) (h1 := (124, I, J, R)) rfl ?_
      refine ev_br (b1 := false) rfl rfl (xcd_nge (x := i) (y := s) (by omega)) ?_
      refine ev_go 2 (pc1 := 11) (lv1 := [.ref c, .int s, .int i]) (st1 := [.int i, .ref c]) (h1 := (124, I, J, R)) rfl ?_
      refine ev_call (v1 := some (.int (if 0 ≤ i.toInt ∧ i.toInt < n then I c i.toNatClampNeg else 0))) (h1 := (124, I, J, R)) rfl rfl (at_run (L := L) (xs := xs) (d := d) (h := (124, I, J, R)) ho hn i) ?_
      refine ev_go 1 (pc1 := 18) (lv1 := [.ref c, .int s, .int i]) (st1 := [.int (if 0 ≤ i.toInt ∧ i.toInt < n then I c i.toNatClampNeg else 0)]) (h1 := (124, I, J, R)) rfl ?_
      exact ev_ret rfl rfl
set_option maxRecDepth 20000 in
theorem ip_0 {L : Nat} {xs : Nat → Int32} {d : Nat} {I : Nat → Nat → Int32} {J : Nat → Nat → Int64} {R : Nat → Nat → Nat} {x : Int32} (hG : aGd R) (c1 : xEv L xs d 160 0 [.int x, .int 0, .int ((I 88 0) - 1)] [] (124, I, J, R) (some (.int 0)) (124, I, J, R)) : xEv L xs (d + 1) 167 0 [.ref 86, .int x] [] (124, I, J, R) (some (.int 0)) (124, I, J, R) := by
  refine ev_go 3 (pc1 := 3) (lv1 := [.ref 86, .int x]) (st1 := [.ref 86, .int 0, .int x]) (h1 := (124, I, J, R)) rfl ?_
  refine ev_gf (c := 86) (t := 88) (X := R 86 12) rfl rfl (fun _ => rfl) rfl (hG 86 12 88 rfl rfl) ?_
  refine ev_go 4 (pc1 := 10) (lv1 := [.ref 86, .int x]) (st1 := [.int ((I 88 0) - 1), .int 0, .int x]) (h1 := (124, I, J, R)) rfl ?_
  refine ev_call (v1 := (some (.int 0))) (h1 := (124, I, J, R)) rfl rfl c1 ?_
  exact ev_ret rfl rfl
set_option maxRecDepth 20000 in
theorem ip_1 {L : Nat} {xs : Nat → Int32} {d : Nat} {I : Nat → Nat → Int32} {J : Nat → Nat → Int64} {R : Nat → Nat → Nat} {x : Int32} (hG : aGd R) (c1 : xEv L xs d 160 0 [.int x, .int 0, .int ((I 88 0) - 1)] [] (124, I, J, R) (some (.int 1)) (124, I, J, R)) : xEv L xs (d + 1) 167 0 [.ref 86, .int x] [] (124, I, J, R) (some (.int 1)) (124, I, J, R) := by
  refine ev_go 3 (pc1 := 3) (lv1 := [.ref 86, .int x]) (st1 := [.ref 86, .int 0, .int x]) (h1 := (124, I, J, R)) rfl ?_
  refine ev_gf (c := 86) (t := 88) (X := R 86 12) rfl rfl (fun _ => rfl) rfl (hG 86 12 88 rfl rfl) ?_
  refine ev_go 4 (pc1 := 10) (lv1 := [.ref 86, .int x]) (st1 := [.int ((I 88 0) - 1), .int 0, .int x]) (h1 := (124, I, J, R)) rfl ?_
  refine ev_call (v1 := (some (.int 1))) (h1 := (124, I, J, R)) rfl rfl c1 ?_
  exact ev_ret rfl rfl
theorem ip_run {L : Nat} {xs : Nat → Int32} {d : Nat} {I : Nat → Nat → Int32} {J : Nat → Nat → Int64} {R : Nat → Nat → Nat} (hG : aGd R) {m : Nat} (hm : (I 88 0).toInt = m) (x : Int32) : ((0 ≤ x.toInt ∧ x.toInt < m) ∧ xEv L xs (d + 1) 167 0 [.ref 86, .int x] [] (124, I, J, R) (some (.int 1)) (124, I, J, R)) ∨ (¬ (0 ≤ x.toInt ∧ x.toInt < m) ∧ xEv L xs (d + 1) 167 0 [.ref 86, .int x] [] (124, I, J, R) (some (.int 0)) (124, I, J, R)) := by
  have hw := aw (I 88 0)
  have e1 : (I 88 0 - 1).toInt = (m : Int) - 1 := by
    rw [i_sub (by rw [show (1 : Int32).toInt = 1 from by decide]; omega) (by rw [show (1 : Int32).toInt = 1 from by decide]; omega), show (1 : Int32).toInt = 1 from by decide]
    omega
  rcases in_ex (L := L) (xs := xs) (d := d) (I := I) (J := J) hG x 0 (I 88 0 - 1) with ⟨w, c⟩ | ⟨w, c⟩
  · rw [e1, show (0 : Int32).toInt = 0 from by decide] at w
    exact Or.inl ⟨by omega, ip_1 hG c⟩
  · rw [e1, show (0 : Int32).toInt = 0 from by decide] at w
    exact Or.inr ⟨by omega, ip_0 hG c⟩
set_option maxRecDepth 20000 in
theorem ie_0 {L : Nat} {xs : Nat → Int32} {d : Nat} {I : Nat → Nat → Int32} {J : Nat → Nat → Int64} {R : Nat → Nat → Nat} {x : Int32} (hG : aGd R) (c1 : xEv L xs d 160 0 [.int x, .int 0, .int ((I 88 2) - 1)] [] (124, I, J, R) (some (.int 0)) (124, I, J, R)) : xEv L xs (d + 1) 168 0 [.ref 86, .int x] [] (124, I, J, R) (some (.int 0)) (124, I, J, R) := by
  refine ev_go 3 (pc1 := 3) (lv1 := [.ref 86, .int x]) (st1 := [.ref 86, .int 0, .int x]) (h1 := (124, I, J, R)) rfl ?_
  refine ev_gf (c := 86) (t := 88) (X := R 86 12) rfl rfl (fun _ => rfl) rfl (hG 86 12 88 rfl rfl) ?_
  refine ev_go 4 (pc1 := 10) (lv1 := [.ref 86, .int x]) (st1 := [.int ((I 88 2) - 1), .int 0, .int x]) (h1 := (124, I, J, R)) rfl ?_
  refine ev_call (v1 := (some (.int 0))) (h1 := (124, I, J, R)) rfl rfl c1 ?_
  exact ev_ret rfl rfl
set_option maxRecDepth 20000 in
theorem ie_1 {L : Nat} {xs : Nat → Int32} {d : Nat} {I : Nat → Nat → Int32} {J : Nat → Nat → Int64} {R : Nat → Nat → Nat} {x : Int32} (hG : aGd R) (c1 : xEv L xs d 160 0 [.int x, .int 0, .int ((I 88 2) - 1)] [] (124, I, J, R) (some (.int 1)) (124, I, J, R)) : xEv L xs (d + 1) 168 0 [.ref 86, .int x] [] (124, I, J, R) (some (.int 1)) (124, I, J, R) := by
  refine ev_go 3 (pc1 := 3) (lv1 := [.ref 86, .int x]) (st1 := [.ref 86, .int 0, .int x]) (h1 := (124, I, J, R)) rfl ?_
  refine ev_gf (c := 86) (t := 88) (X := R 86 12) rfl rfl (fun _ => rfl) rfl (hG 86 12 88 rfl rfl) ?_
  refine ev_go 4 (pc1 := 10) (lv1 := [.ref 86, .int x]) (st1 := [.int ((I 88 2) - 1), .int 0, .int x]) (h1 := (124, I, J, R)) rfl ?_
  refine ev_call (v1 := (some (.int 1))) (h1 := (124, I, J, R)) rfl rfl c1 ?_
  exact ev_ret rfl rfl
theorem ie_run {L : Nat} {xs : Nat → Int32} {d : Nat} {I : Nat → Nat → Int32} {J : Nat → Nat → Int64} {R : Nat → Nat → Nat} (hG : aGd R) {m : Nat} (hm : (I 88 2).toInt = m) (x : Int32) : ((0 ≤ x.toInt ∧ x.toInt < m) ∧ xEv L xs (d + 1) 168 0 [.ref 86, .int x] [] (124, I, J, R) (some (.int 1)) (124, I, J, R)) ∨ (¬ (0 ≤ x.toInt ∧ x.toInt < m) ∧ xEv L xs (d + 1) 168 0 [.ref 86, .int x] [] (124, I, J, R) (some (.int 0)) (124, I, J, R)) := by
  have hw := aw (I 88 2)
  have e1 : (I 88 2 - 1).toInt = (m : Int) - 1 := by
    rw [i_sub (by rw [show (1 : Int32).toInt = 1 from by decide]; omega) (by rw [show (1 : Int32).toInt = 1 from by decide]; omega), show (1 : Int32).toInt = 1 from by decide]
    omega
  rcases in_ex (L := L) (xs := xs) (d := d) (I := I) (J := J) hG x 0 (I 88 2 - 1) with ⟨w, c⟩ | ⟨w, c⟩
  · rw [e1, show (0 : Int32).toInt = 0 from by decide] at w
    exact Or.inl ⟨by omega, ie_1 hG c⟩
  · rw [e1, show (0 : Int32).toInt = 0 from by decide] at w
    exact Or.inr ⟨by omega, ie_0 hG c⟩
set_option maxRecDepth 20000 in
theorem it_0 {L : Nat} {xs : Nat → Int32} {d : Nat} {I : Nat → Nat → Int32} {J : Nat → Nat → Int64} {R : Nat → Nat → Nat} {x : Int32} (hG : aGd R) (c1 : xEv L xs d 160 0 [.int x, .int 0, .int ((I 86 26) - 1)] [] (124, I, J, R) (some (.int 0)) (124, I, J, R)) : xEv L xs (d + 1) 171 0 [.ref 86, .int x] [] (124, I, J, R) (some (.int 0)) (124, I, J, R) := by
  refine ev_go 6 (pc1 := 8) (lv1 := [.ref 86, .int x]) (st1 := [.int ((I 86 26) - 1), .int 0, .int x]) (h1 := (124, I, J, R)) rfl ?_
  refine ev_call (v1 := (some (.int 0))) (h1 := (124, I, J, R)) rfl rfl c1 ?_
  exact ev_ret rfl rfl
set_option maxRecDepth 20000 in
theorem it_1 {L : Nat} {xs : Nat → Int32} {d : Nat} {I : Nat → Nat → Int32} {J : Nat → Nat → Int64} {R : Nat → Nat → Nat} {x : Int32} (hG : aGd R) (c1 : xEv L xs d 160 0 [.int x, .int 0, .int ((I 86 26) - 1)] [] (124, I, J, R) (some (.int 1)) (124, I, J, R)) : xEv L xs (d + 1) 171 0 [.ref 86, .int x] [] (124, I, J, R) (some (.int 1)) (124, I, J, R) := by
  refine ev_go 6 (pc1 := 8) (lv1 := [.ref 86, .int x]) (st1 := [.int ((I 86 26) - 1), .int 0, .int x]) (h1 := (124, I, J, R)) rfl ?_
  refine ev_call (v1 := (some (.int 1))) (h1 := (124, I, J, R)) rfl rfl c1 ?_
  exact ev_ret rfl rfl
theorem it_run {L : Nat} {xs : Nat → Int32} {d : Nat} {I : Nat → Nat → Int32} {J : Nat → Nat → Int64} {R : Nat → Nat → Nat} (hG : aGd R) {m : Nat} (hm : (I 86 26).toInt = m) (x : Int32) : ((0 ≤ x.toInt ∧ x.toInt < m) ∧ xEv L xs (d + 1) 171 0 [.ref 86, .int x] [] (124, I, J, R) (some (.int 1)) (124, I, J, R)) ∨ (¬ (0 ≤ x.toInt ∧ x.toInt < m) ∧ xEv L xs (d + 1) 171 0 [.ref 86, .int x] [] (124, I, J, R) (some (.int 0)) (124, I, J, R)) := by
  have hw := aw (I 86 26)
  have e1 : (I 86 26 - 1).toInt = (m : Int) - 1 := by
    rw [i_sub (by rw [show (1 : Int32).toInt = 1 from by decide]; omega) (by rw [show (1 : Int32).toInt = 1 from by decide]; omega), show (1 : Int32).toInt = 1 from by decide]
    omega
  rcases in_ex (L := L) (xs := xs) (d := d) (I := I) (J := J) hG x 0 (I 86 26 - 1) with ⟨w, c⟩ | ⟨w, c⟩
  · rw [e1, show (0 : Int32).toInt = 0 from by decide] at w
    exact Or.inl ⟨by omega, it_1 hG c⟩
  · rw [e1, show (0 : Int32).toInt = 0 from by decide] at w
    exact Or.inr ⟨by omega, it_0 hG c⟩
set_option maxRecDepth 20000 in
theorem hp_a_3 {L : Nat} {xs : Nat → Int32} {d : Nat} {I : Nat → Nat → Int32} {J : Nat → Nat → Int64} {R : Nat → Nat → Nat} {x : Int32} (hG : aGd R) (b1 : x.toInt < 0) : xEv L xs d 64 0 [.ref 3, .int x] [] (124, I, J, R) (some (.int 0)) (124, I, J, R) := by
  refine ev_go 1 (pc1 := 1) (lv1 := [.ref 3, .int x]) (st1 := [.int x]) (h1 := (124, I, J, R)) rfl ?_
  refine ev_br (b1 := true) rfl rfl (xcd_lt (x := x) (y := 0) (by rw [show ((0 : Int32)).toInt = 0 from by decide]; first | exact b1 | omega)) ?_
  refine ev_go 1 (pc1 := 17) (lv1 := [.ref 3, .int x]) (st1 := [.int 0]) (h1 := (124, I, J, R)) rfl ?_
  exact ev_ret rfl rfl
set_option maxRecDepth 20000 in
theorem hp_b_3 {L : Nat} {xs : Nat → Int32} {d : Nat} {I : Nat → Nat → Int32} {J : Nat → Nat → Int64} {R : Nat → Nat → Nat} {x : Int32} (hG : aGd R) (b1 : x.toInt ≥ 0) (b2 : x.toInt ≥ (I 3 14).toInt) : xEv L xs d 64 0 [.ref 3, .int x] [] (124, I, J, R) (some (.int 0)) (124, I, J, R) := by
  refine ev_go 1 (pc1 := 1) (lv1 := [.ref 3, .int x]) (st1 := [.int x]) (h1 := (124, I, J, R)) rfl ?_
  refine ev_br (b1 := false) rfl rfl (xcd_nlt (x := x) (y := 0) (by rw [show ((0 : Int32)).toInt = 0 from by decide]; first | exact b1 | omega)) ?_
  refine ev_go 3 (pc1 := 9) (lv1 := [.ref 3, .int x]) (st1 := [.int (I 3 14), .int x]) (h1 := (124, I, J, R)) rfl ?_
  refine ev_br (b1 := true) rfl rfl (xcd_ge (x := x) (y := (I 3 14)) (by first | exact b2 | omega)) ?_
  refine ev_go 1 (pc1 := 17) (lv1 := [.ref 3, .int x]) (st1 := [.int 0]) (h1 := (124, I, J, R)) rfl ?_
  exact ev_ret rfl rfl
set_option maxRecDepth 20000 in
theorem hp_c_3 {L : Nat} {xs : Nat → Int32} {d : Nat} {I : Nat → Nat → Int32} {J : Nat → Nat → Int64} {R : Nat → Nat → Nat} {x : Int32} (hG : aGd R) (b1 : x.toInt ≥ 0) (b2 : x.toInt < (I 3 14).toInt) : xEv L xs d 64 0 [.ref 3, .int x] [] (124, I, J, R) (some (.int 1)) (124, I, J, R) := by
  refine ev_go 1 (pc1 := 1) (lv1 := [.ref 3, .int x]) (st1 := [.int x]) (h1 := (124, I, J, R)) rfl ?_
  refine ev_br (b1 := false) rfl rfl (xcd_nlt (x := x) (y := 0) (by rw [show ((0 : Int32)).toInt = 0 from by decide]; first | exact b1 | omega)) ?_
  refine ev_go 3 (pc1 := 9) (lv1 := [.ref 3, .int x]) (st1 := [.int (I 3 14), .int x]) (h1 := (124, I, J, R)) rfl ?_
  refine ev_br (b1 := false) rfl rfl (xcd_nge (x := x) (y := (I 3 14)) (by first | exact b2 | omega)) ?_
  refine ev_go 2 (pc1 := 17) (lv1 := [.ref 3, .int x]) (st1 := [.int 1]) (h1 := (124, I, J, R)) rfl ?_
  exact ev_ret rfl rfl
theorem hp_run_3 {L : Nat} {xs : Nat → Int32} {d : Nat} {I : Nat → Nat → Int32} {J : Nat → Nat → Int64} {R : Nat → Nat → Nat} (hG : aGd R) {m : Nat} (hm : (I 3 14).toInt = m) (x : Int32) : ((0 ≤ x.toInt ∧ x.toInt < m) ∧ xEv L xs d 64 0 [.ref 3, .int x] [] (124, I, J, R) (some (.int 1)) (124, I, J, R)) ∨ (¬ (0 ≤ x.toInt ∧ x.toInt < m) ∧ xEv L xs d 64 0 [.ref 3, .int x] [] (124, I, J, R) (some (.int 0)) (124, I, J, R)) := by
  by_cases h1 : x.toInt < 0
  · exact Or.inr ⟨by omega, hp_a_3 hG h1⟩
  by_cases h2 : x.toInt ≥ (I 3 14).toInt
  · exact Or.inr ⟨by omega, hp_b_3 hG (by omega) h2⟩
  · exact Or.inl ⟨by omega, hp_c_3 hG (by omega) (by omega)⟩
set_option maxRecDepth 20000 in
theorem hn_a_3 {L : Nat} {xs : Nat → Int32} {d : Nat} {I : Nat → Nat → Int32} {J : Nat → Nat → Int64} {R : Nat → Nat → Nat} {x : Int32} (hG : aGd R) (b1 : x.toInt < 0) : xEv L xs d 59 0 [.ref 3, .int x] [] (124, I, J, R) (some (.int 0)) (124, I, J, R) := by
  refine ev_go 1 (pc1 := 1) (lv1 := [.ref 3, .int x]) (st1 := [.int x]) (h1 := (124, I, J, R)) rfl ?_
  refine ev_br (b1 := true) rfl rfl (xcd_lt (x := x) (y := 0) (by rw [show ((0 : Int32)).toInt = 0 from by decide]; first | exact b1 | omega)) ?_
  refine ev_go 1 (pc1 := 17) (lv1 := [.ref 3, .int x]) (st1 := [.int 0]) (h1 := (124, I, J, R)) rfl ?_
  exact ev_ret rfl rfl
set_option maxRecDepth 20000 in
theorem hn_b_3 {L : Nat} {xs : Nat → Int32} {d : Nat} {I : Nat → Nat → Int32} {J : Nat → Nat → Int64} {R : Nat → Nat → Nat} {x : Int32} (hG : aGd R) (b1 : x.toInt ≥ 0) (b2 : x.toInt ≥ (I 3 16).toInt) : xEv L xs d 59 0 [.ref 3, .int x] [] (124, I, J, R) (some (.int 0)) (124, I, J, R) := by
  refine ev_go 1 (pc1 := 1) (lv1 := [.ref 3, .int x]) (st1 := [.int x]) (h1 := (124, I, J, R)) rfl ?_
  refine ev_br (b1 := false) rfl rfl (xcd_nlt (x := x) (y := 0) (by rw [show ((0 : Int32)).toInt = 0 from by decide]; first | exact b1 | omega)) ?_
  refine ev_go 3 (pc1 := 9) (lv1 := [.ref 3, .int x]) (st1 := [.int (I 3 16), .int x]) (h1 := (124, I, J, R)) rfl ?_
  refine ev_br (b1 := true) rfl rfl (xcd_ge (x := x) (y := (I 3 16)) (by first | exact b2 | omega)) ?_
  refine ev_go 1 (pc1 := 17) (lv1 := [.ref 3, .int x]) (st1 := [.int 0]) (h1 := (124, I, J, R)) rfl ?_
  exact ev_ret rfl rfl
set_option maxRecDepth 20000 in
theorem hn_c_3 {L : Nat} {xs : Nat → Int32} {d : Nat} {I : Nat → Nat → Int32} {J : Nat → Nat → Int64} {R : Nat → Nat → Nat} {x : Int32} (hG : aGd R) (b1 : x.toInt ≥ 0) (b2 : x.toInt < (I 3 16).toInt) : xEv L xs d 59 0 [.ref 3, .int x] [] (124, I, J, R) (some (.int 1)) (124, I, J, R) := by
  refine ev_go 1 (pc1 := 1) (lv1 := [.ref 3, .int x]) (st1 := [.int x]) (h1 := (124, I, J, R)) rfl ?_
  refine ev_br (b1 := false) rfl rfl (xcd_nlt (x := x) (y := 0) (by rw [show ((0 : Int32)).toInt = 0 from by decide]; first | exact b1 | omega)) ?_
  refine ev_go 3 (pc1 := 9) (lv1 := [.ref 3, .int x]) (st1 := [.int (I 3 16), .int x]) (h1 := (124, I, J, R)) rfl ?_
  refine ev_br (b1 := false) rfl rfl (xcd_nge (x := x) (y := (I 3 16)) (by first | exact b2 | omega)) ?_
  refine ev_go 2 (pc1 := 17) (lv1 := [.ref 3, .int x]) (st1 := [.int 1]) (h1 := (124, I, J, R)) rfl ?_
  exact ev_ret rfl rfl
theorem hn_run_3 {L : Nat} {xs : Nat → Int32} {d : Nat} {I : Nat → Nat → Int32} {J : Nat → Nat → Int64} {R : Nat → Nat → Nat} (hG : aGd R) {m : Nat} (hm : (I 3 16).toInt = m) (x : Int32) : ((0 ≤ x.toInt ∧ x.toInt < m) ∧ xEv L xs d 59 0 [.ref 3, .int x] [] (124, I, J, R) (some (.int 1)) (124, I, J, R)) ∨ (¬ (0 ≤ x.toInt ∧ x.toInt < m) ∧ xEv L xs d 59 0 [.ref 3, .int x] [] (124, I, J, R) (some (.int 0)) (124, I, J, R)) := by
  by_cases h1 : x.toInt < 0
  · exact Or.inr ⟨by omega, hn_a_3 hG h1⟩
  by_cases h2 : x.toInt ≥ (I 3 16).toInt
  · exact Or.inr ⟨by omega, hn_b_3 hG (by omega) h2⟩
  · exact Or.inl ⟨by omega, hn_c_3 hG (by omega) (by omega)⟩
set_option maxRecDepth 20000 in
theorem hp_a_23 {L : Nat} {xs : Nat → Int32} {d : Nat} {I : Nat → Nat → Int32} {J : Nat → Nat → Int64} {R : Nat → Nat → Nat} {x : Int32} (hG : aGd R) (b1 : x.toInt < 0) : xEv L xs d 64 0 [.ref 23, .int x] [] (124, I, J, R) (some (.int 0)) (124, I, J, R) := by
  refine ev_go 1 (pc1 := 1) (lv1 := [.ref 23, .int x]) (st1 := [.int x]) (h1 := (124, I, J, R)) rfl ?_
  refine ev_br (b1 := true) rfl rfl (xcd_lt (x := x) (y := 0) (by rw [show ((0 : Int32)).toInt = 0 from by decide]; first | exact b1 | omega)) ?_
  refine ev_go 1 (pc1 := 17) (lv1 := [.ref 23, .int x]) (st1 := [.int 0]) (h1 := (124, I, J, R)) rfl ?_
  exact ev_ret rfl rfl
set_option maxRecDepth 20000 in
theorem hp_b_23 {L : Nat} {xs : Nat → Int32} {d : Nat} {I : Nat → Nat → Int32} {J : Nat → Nat → Int64} {R : Nat → Nat → Nat} {x : Int32} (hG : aGd R) (b1 : x.toInt ≥ 0) (b2 : x.toInt ≥ (I 23 14).toInt) : xEv L xs d 64 0 [.ref 23, .int x] [] (124, I, J, R) (some (.int 0)) (124, I, J, R) := by
  refine ev_go 1 (pc1 := 1) (lv1 := [.ref 23, .int x]) (st1 := [.int x]) (h1 := (124, I, J, R)) rfl ?_
  refine ev_br (b1 := false) rfl rfl (xcd_nlt (x := x) (y := 0) (by rw [show ((0 : Int32)).toInt = 0 from by decide]; first | exact b1 | omega)) ?_
  refine ev_go 3 (pc1 := 9) (lv1 := [.ref 23, .int x]) (st1 := [.int (I 23 14), .int x]) (h1 := (124, I, J, R)) rfl ?_
  refine ev_br (b1 := true) rfl rfl (xcd_ge (x := x) (y := (I 23 14)) (by first | exact b2 | omega)) ?_
  refine ev_go 1 (pc1 := 17) (lv1 := [.ref 23, .int x]) (st1 := [.int 0]) (h1 := (124, I, J, R)) rfl ?_
  exact ev_ret rfl rfl
set_option maxRecDepth 20000 in
theorem hp_c_23 {L : Nat} {xs : Nat → Int32} {d : Nat} {I : Nat → Nat → Int32} {J : Nat → Nat → Int64} {R : Nat → Nat → Nat} {x : Int32} (hG : aGd R) (b1 : x.toInt ≥ 0) (b2 : x.toInt < (I 23 14).toInt) : xEv L xs d 64 0 [.ref 23, .int x] [] (124, I, J, R) (some (.int 1)) (124, I, J, R) := by
  refine ev_go 1 (pc1 := 1) (lv1 := [.ref 23, .int x]) (st1 := [.int x]) (h1 := (124, I, J, R)) rfl ?_
  refine ev_br (b1 := false) rfl rfl (xcd_nlt (x := x) (y := 0) (by rw [show ((0 : Int32)).toInt = 0 from by decide]; first | exact b1 | omega)) ?_
  refine ev_go 3 (pc1 := 9) (lv1 := [.ref 23, .int x]) (st1 := [.int (I 23 14), .int x]) (h1 := (124, I, J, R)) rfl ?_
  refine ev_br (b1 := false) rfl rfl (xcd_nge (x := x) (y := (I 23 14)) (by first | exact b2 | omega)) ?_
  refine ev_go 2 (pc1 := 17) (lv1 := [.ref 23, .int x]) (st1 := [.int 1]) (h1 := (124, I, J, R)) rfl ?_
  exact ev_ret rfl rfl
theorem hp_run_23 {L : Nat} {xs : Nat → Int32} {d : Nat} {I : Nat → Nat → Int32} {J : Nat → Nat → Int64} {R : Nat → Nat → Nat} (hG : aGd R) {m : Nat} (hm : (I 23 14).toInt = m) (x : Int32) : ((0 ≤ x.toInt ∧ x.toInt < m) ∧ xEv L xs d 64 0 [.ref 23, .int x] [] (124, I, J, R) (some (.int 1)) (124, I, J, R)) ∨ (¬ (0 ≤ x.toInt ∧ x.toInt < m) ∧ xEv L xs d 64 0 [.ref 23, .int x] [] (124, I, J, R) (some (.int 0)) (124, I, J, R)) := by
  by_cases h1 : x.toInt < 0
  · exact Or.inr ⟨by omega, hp_a_23 hG h1⟩
  by_cases h2 : x.toInt ≥ (I 23 14).toInt
  · exact Or.inr ⟨by omega, hp_b_23 hG (by omega) h2⟩
  · exact Or.inl ⟨by omega, hp_c_23 hG (by omega) (by omega)⟩
set_option maxRecDepth 20000 in
theorem hn_a_23 {L : Nat} {xs : Nat → Int32} {d : Nat} {I : Nat → Nat → Int32} {J : Nat → Nat → Int64} {R : Nat → Nat → Nat} {x : Int32} (hG : aGd R) (b1 : x.toInt < 0) : xEv L xs d 59 0 [.ref 23, .int x] [] (124, I, J, R) (some (.int 0)) (124, I, J, R) := by
  refine ev_go 1 (pc1 := 1) (lv1 := [.ref 23, .int x]) (st1 := [.int x]) (h1 := (124, I, J, R)) rfl ?_
  refine ev_br (b1 := true) rfl rfl (xcd_lt (x := x) (y := 0) (by rw [show ((0 : Int32)).toInt = 0 from by decide]; first | exact b1 | omega)) ?_
  refine ev_go 1 (pc1 := 17) (lv1 := [.ref 23, .int x]) (st1 := [.int 0]) (h1 := (124, I, J, R)) rfl ?_
  exact ev_ret rfl rfl
set_option maxRecDepth 20000 in
theorem hn_b_23 {L : Nat} {xs : Nat → Int32} {d : Nat} {I : Nat → Nat → Int32} {J : Nat → Nat → Int64} {R : Nat → Nat → Nat} {x : Int32} (hG : aGd R) (b1 : x.toInt ≥ 0) (b2 : x.toInt ≥ (I 23 16).toInt) : xEv L xs d 59 0 [.ref 23, .int x] [] (124, I, J, R) (some (.int 0)) (124, I, J, R) := by
  refine ev_go 1 (pc1 := 1) (lv1 := [.ref 23, .int x]) (st1 := [.int x]) (h1 := (124, I, J, R)) rfl ?_
  refine ev_br (b1 := false) rfl rfl (xcd_nlt (x := x) (y := 0) (by rw [show ((0 : Int32)).toInt = 0 from by decide]; first | exact b1 | omega)) ?_
  refine ev_go 3 (pc1 := 9) (lv1 := [.ref 23, .int x]) (st1 := [.int (I 23 16), .int x]) (h1 := (124, I, J, R)) rfl ?_
  refine ev_br (b1 := true) rfl rfl (xcd_ge (x := x) (y := (I 23 16)) (by first | exact b2 | omega)) ?_
  refine ev_go 1 (pc1 := 17) (lv1 := [.ref 23, .int x]) (st1 := [.int 0]) (h1 := (124, I, J, R)) rfl ?_
  exact ev_ret rfl rfl
set_option maxRecDepth 20000 in
theorem hn_c_23 {L : Nat} {xs : Nat → Int32} {d : Nat} {I : Nat → Nat → Int32} {J : Nat → Nat → Int64} {R : Nat → Nat → Nat} {x : Int32} (hG : aGd R) (b1 : x.toInt ≥ 0) (b2 : x.toInt < (I 23 16).toInt) : xEv L xs d 59 0 [.ref 23, .int x] [] (124, I, J, R) (some (.int 1)) (124, I, J, R) := by
  refine ev_go 1 (pc1 := 1) (lv1 := [.ref 23, .int x]) (st1 := [.int x]) (h1 := (124, I, J, R)) rfl ?_
  refine ev_br (b1 := false) rfl rfl (xcd_nlt (x := x) (y := 0) (by rw [show ((0 : Int32)).toInt = 0 from by decide]; first | exact b1 | omega)) ?_
  refine ev_go 3 (pc1 := 9) (lv1 := [.ref 23, .int x]) (st1 := [.int (I 23 16), .int x]) (h1 := (124, I, J, R)) rfl ?_
  refine ev_br (b1 := false) rfl rfl (xcd_nge (x := x) (y := (I 23 16)) (by first | exact b2 | omega)) ?_
  refine ev_go 2 (pc1 := 17) (lv1 := [.ref 23, .int x]) (st1 := [.int 1]) (h1 := (124, I, J, R)) rfl ?_
  exact ev_ret rfl rfl
theorem hn_run_23 {L : Nat} {xs : Nat → Int32} {d : Nat} {I : Nat → Nat → Int32} {J : Nat → Nat → Int64} {R : Nat → Nat → Nat} (hG : aGd R) {m : Nat} (hm : (I 23 16).toInt = m) (x : Int32) : ((0 ≤ x.toInt ∧ x.toInt < m) ∧ xEv L xs d 59 0 [.ref 23, .int x] [] (124, I, J, R) (some (.int 1)) (124, I, J, R)) ∨ (¬ (0 ≤ x.toInt ∧ x.toInt < m) ∧ xEv L xs d 59 0 [.ref 23, .int x] [] (124, I, J, R) (some (.int 0)) (124, I, J, R)) := by
  by_cases h1 : x.toInt < 0
  · exact Or.inr ⟨by omega, hn_a_23 hG h1⟩
  by_cases h2 : x.toInt ≥ (I 23 16).toInt
  · exact Or.inr ⟨by omega, hn_b_23 hG (by omega) h2⟩
  · exact Or.inl ⟨by omega, hn_c_23 hG (by omega) (by omega)⟩
set_option maxRecDepth 20000 in
theorem tm_a {L : Nat} {xs : Nat → Int32} {d : Nat} {I : Nat → Nat → Int32} {J : Nat → Nat → Int64} {R : Nat → Nat → Nat} {a : Int32} (hG : aGd R) (c1 : xEv L xs d 160 0 [.int a, .int 0, .int 3] [] (124, I, J, R) (some (.int 1)) (124, I, J, R)) (b1 : a.toInt = 3) : xEv L xs (d + 1) 166 0 [.ref 86, .int a, xmk] [] (124, I, J, R) (some (.int (I 86 26))) (124, I, J, R) := by
  refine ev_go 3 (pc1 := 3) (lv1 := [.ref 86, .int a, xmk]) (st1 := [.int 3, .int 0, .int a]) (h1 := (124, I, J, R)) rfl ?_
  refine ev_call (v1 := (some (.int 1))) (h1 := (124, I, J, R)) rfl rfl c1 ?_
  refine ev_go 3 (pc1 := 11) (lv1 := [.ref 86, .int a, xmk]) (st1 := [.int 3, .int a]) (h1 := (124, I, J, R)) rfl ?_
  refine ev_br (b1 := false) rfl rfl (xcd_nne (x := a) (y := 3) (by rw [show ((3 : Int32)).toInt = 3 from by decide]; first | exact b1 | omega)) ?_
  refine ev_go 3 (pc1 := 27) (lv1 := [.ref 86, .int a, xmk]) (st1 := [.int (I 86 26)]) (h1 := (124, I, J, R)) rfl ?_
  exact ev_ret rfl rfl
set_option maxRecDepth 20000 in
theorem tm_b {L : Nat} {xs : Nat → Int32} {d : Nat} {I : Nat → Nat → Int32} {J : Nat → Nat → Int64} {R : Nat → Nat → Nat} {a : Int32} (hG : aGd R) (c1 : xEv L xs d 160 0 [.int a, .int 0, .int 3] [] (124, I, J, R) (some (.int 1)) (124, I, J, R)) (b1 : a.toInt ≠ 3) (n1 : 0 ≤ a.toInt) (m1 : a.toInt < 6) : xEv L xs (d + 1) 166 0 [.ref 86, .int a, xmk] [] (124, I, J, R) (some (.int (I 88 a.toNatClampNeg))) (124, I, J, R) := by
  refine ev_go 3 (pc1 := 3) (lv1 := [.ref 86, .int a, xmk]) (st1 := [.int 3, .int 0, .int a]) (h1 := (124, I, J, R)) rfl ?_
  refine ev_call (v1 := (some (.int 1))) (h1 := (124, I, J, R)) rfl rfl c1 ?_
  refine ev_go 3 (pc1 := 11) (lv1 := [.ref 86, .int a, xmk]) (st1 := [.int 3, .int a]) (h1 := (124, I, J, R)) rfl ?_
  refine ev_br (b1 := true) rfl rfl (xcd_ne (x := a) (y := 3) (by rw [show ((3 : Int32)).toInt = 3 from by decide]; first | exact b1 | omega)) ?_
  refine ev_go 1 (pc1 := 22) (lv1 := [.ref 86, .int a, xmk]) (st1 := [.ref 86]) (h1 := (124, I, J, R)) rfl ?_
  refine ev_gf (c := 86) (t := 88) (X := R 86 12) rfl rfl (fun _ => rfl) rfl (hG 86 12 88 rfl rfl) ?_
  refine ev_go 1 (pc1 := 26) (lv1 := [.ref 86, .int a, xmk]) (st1 := [.int a, .ref 88]) (h1 := (124, I, J, R)) rfl ?_
  refine ev_ild (n := 6) rfl rfl (fun _ => rfl) n1 m1 ?_
  exact ev_ret rfl rfl
set_option maxRecDepth 20000 in
theorem tm_c {L : Nat} {xs : Nat → Int32} {d : Nat} {I : Nat → Nat → Int32} {J : Nat → Nat → Int64} {R : Nat → Nat → Nat} {a : Int32} (hG : aGd R) (c1 : xEv L xs d 160 0 [.int a, .int 0, .int 3] [] (124, I, J, R) (some (.int 0)) (124, I, J, R)) (c2 : xEv L xs d 160 0 [.int a, .int 10, .int 29] [] (124, I, J, R) (some (.int 1)) (124, I, J, R)) (c3 : xEv L xs d 167 0 [.ref 86, .int (a - a / 10 * 10)] [] (124, I, J, R) (some (.int 0)) (124, I, J, R)) : xEv L xs (d + 1) 166 0 [.ref 86, .int a, xmk] [] (124, I, J, R) (some (.int (-1))) (124, I, J, R) := by
  refine ev_go 3 (pc1 := 3) (lv1 := [.ref 86, .int a, xmk]) (st1 := [.int 3, .int 0, .int a]) (h1 := (124, I, J, R)) rfl ?_
  refine ev_call (v1 := (some (.int 0))) (h1 := (124, I, J, R)) rfl rfl c1 ?_
  refine ev_go 3 (pc1 := 31) (lv1 := [.ref 86, .int a, xmk]) (st1 := [.int 10, .int a]) (h1 := (124, I, J, R)) rfl ?_
  refine ev_go 5 (pc1 := 38) (lv1 := [.ref 86, .int a, .int (a - a / 10 * 10)]) (st1 := [.int 29, .int 10, .int a]) (h1 := (124, I, J, R)) rfl ?_
  refine ev_call (v1 := (some (.int 1))) (h1 := (124, I, J, R)) rfl rfl c2 ?_
  refine ev_go 3 (pc1 := 46) (lv1 := [.ref 86, .int a, .int (a - a / 10 * 10)]) (st1 := [.int (a - a / 10 * 10), .ref 86]) (h1 := (124, I, J, R)) rfl ?_
  refine ev_call (v1 := (some (.int 0))) (h1 := (124, I, J, R)) rfl rfl c3 ?_
  refine ev_go 3 (pc1 := 77) (lv1 := [.ref 86, .int a, .int (a - a / 10 * 10)]) (st1 := [.int (-1)]) (h1 := (124, I, J, R)) rfl ?_
  exact ev_ret rfl rfl
set_option maxRecDepth 20000 in
theorem tm_d {L : Nat} {xs : Nat → Int32} {d : Nat} {I : Nat → Nat → Int32} {J : Nat → Nat → Int64} {R : Nat → Nat → Nat} {a : Int32} (hG : aGd R) (c1 : xEv L xs d 160 0 [.int a, .int 0, .int 3] [] (124, I, J, R) (some (.int 0)) (124, I, J, R)) (c2 : xEv L xs d 160 0 [.int a, .int 10, .int 29] [] (124, I, J, R) (some (.int 1)) (124, I, J, R)) (c3 : xEv L xs d 167 0 [.ref 86, .int (a - a / 10 * 10)] [] (124, I, J, R) (some (.int 1)) (124, I, J, R)) (b1 : a.toInt < 20) (n1 : 0 ≤ (a - a / 10 * 10).toInt) (m1 : (a - a / 10 * 10).toInt < 14) : xEv L xs (d + 1) 166 0 [.ref 86, .int a, xmk] [] (124, I, J, R) (some (.int (I 90 (a - a / 10 * 10).toNatClampNeg))) (124, I, J, R) := by
  refine ev_go 3 (pc1 := 3) (lv1 := [.ref 86, .int a, xmk]) (st1 := [.int 3, .int 0, .int a]) (h1 := (124, I, J, R)) rfl ?_
  refine ev_call (v1 := (some (.int 0))) (h1 := (124, I, J, R)) rfl rfl c1 ?_
  refine ev_go 3 (pc1 := 31) (lv1 := [.ref 86, .int a, xmk]) (st1 := [.int 10, .int a]) (h1 := (124, I, J, R)) rfl ?_
  refine ev_go 5 (pc1 := 38) (lv1 := [.ref 86, .int a, .int (a - a / 10 * 10)]) (st1 := [.int 29, .int 10, .int a]) (h1 := (124, I, J, R)) rfl ?_
  refine ev_call (v1 := (some (.int 1))) (h1 := (124, I, J, R)) rfl rfl c2 ?_
  refine ev_go 3 (pc1 := 46) (lv1 := [.ref 86, .int a, .int (a - a / 10 * 10)]) (st1 := [.int (a - a / 10 * 10), .ref 86]) (h1 := (124, I, J, R)) rfl ?_
  refine ev_call (v1 := (some (.int 1))) (h1 := (124, I, J, R)) rfl rfl c3 ?_
  refine ev_go 3 (pc1 := 59) (lv1 := [.ref 86, .int a, .int (a - a / 10 * 10)]) (st1 := [.int 20, .int a]) (h1 := (124, I, J, R)) rfl ?_
  refine ev_br (b1 := false) rfl rfl (xcd_nge (x := a) (y := 20) (by rw [show ((20 : Int32)).toInt = 20 from by decide]; first | exact b1 | omega)) ?_
  refine ev_go 1 (pc1 := 63) (lv1 := [.ref 86, .int a, .int (a - a / 10 * 10)]) (st1 := [.ref 86]) (h1 := (124, I, J, R)) rfl ?_
  refine ev_gf (c := 86) (t := 90) (X := R 86 14) rfl rfl (fun _ => rfl) rfl (hG 86 14 90 rfl rfl) ?_
  refine ev_go 1 (pc1 := 67) (lv1 := [.ref 86, .int a, .int (a - a / 10 * 10)]) (st1 := [.int (a - a / 10 * 10), .ref 90]) (h1 := (124, I, J, R)) rfl ?_
  refine ev_ild (n := 14) rfl rfl (fun _ => rfl) n1 m1 ?_
  refine ev_go 1 (pc1 := 77) (lv1 := [.ref 86, .int a, .int (a - a / 10 * 10)]) (st1 := [.int (I 90 (a - a / 10 * 10).toNatClampNeg)]) (h1 := (124, I, J, R)) rfl ?_
  exact ev_ret rfl rfl
set_option maxRecDepth 20000 in
theorem tm_e {L : Nat} {xs : Nat → Int32} {d : Nat} {I : Nat → Nat → Int32} {J : Nat → Nat → Int64} {R : Nat → Nat → Nat} {a : Int32} (hG : aGd R) (c1 : xEv L xs d 160 0 [.int a, .int 0, .int 3] [] (124, I, J, R) (some (.int 0)) (124, I, J, R)) (c2 : xEv L xs d 160 0 [.int a, .int 10, .int 29] [] (124, I, J, R) (some (.int 1)) (124, I, J, R)) (c3 : xEv L xs d 167 0 [.ref 86, .int (a - a / 10 * 10)] [] (124, I, J, R) (some (.int 1)) (124, I, J, R)) (b1 : a.toInt ≥ 20) (n1 : 0 ≤ (a - a / 10 * 10).toInt) (m1 : (a - a / 10 * 10).toInt < 14) : xEv L xs (d + 1) 166 0 [.ref 86, .int a, xmk] [] (124, I, J, R) (some (.int (I 91 (a - a / 10 * 10).toNatClampNeg))) (124, I, J, R) := by
  refine ev_go 3 (pc1 := 3) (lv1 := [.ref 86, .int a, xmk]) (st1 := [.int 3, .int 0, .int a]) (h1 := (124, I, J, R)) rfl ?_
  refine ev_call (v1 := (some (.int 0))) (h1 := (124, I, J, R)) rfl rfl c1 ?_
  refine ev_go 3 (pc1 := 31) (lv1 := [.ref 86, .int a, xmk]) (st1 := [.int 10, .int a]) (h1 := (124, I, J, R)) rfl ?_
  refine ev_go 5 (pc1 := 38) (lv1 := [.ref 86, .int a, .int (a - a / 10 * 10)]) (st1 := [.int 29, .int 10, .int a]) (h1 := (124, I, J, R)) rfl ?_
  refine ev_call (v1 := (some (.int 1))) (h1 := (124, I, J, R)) rfl rfl c2 ?_
  refine ev_go 3 (pc1 := 46) (lv1 := [.ref 86, .int a, .int (a - a / 10 * 10)]) (st1 := [.int (a - a / 10 * 10), .ref 86]) (h1 := (124, I, J, R)) rfl ?_
  refine ev_call (v1 := (some (.int 1))) (h1 := (124, I, J, R)) rfl rfl c3 ?_
  refine ev_go 3 (pc1 := 59) (lv1 := [.ref 86, .int a, .int (a - a / 10 * 10)]) (st1 := [.int 20, .int a]) (h1 := (124, I, J, R)) rfl ?_
  refine ev_br (b1 := true) rfl rfl (xcd_ge (x := a) (y := 20) (by rw [show ((20 : Int32)).toInt = 20 from by decide]; first | exact b1 | omega)) ?_
  refine ev_go 1 (pc1 := 72) (lv1 := [.ref 86, .int a, .int (a - a / 10 * 10)]) (st1 := [.ref 86]) (h1 := (124, I, J, R)) rfl ?_
  refine ev_gf (c := 86) (t := 91) (X := R 86 15) rfl rfl (fun _ => rfl) rfl (hG 86 15 91 rfl rfl) ?_
  refine ev_go 1 (pc1 := 76) (lv1 := [.ref 86, .int a, .int (a - a / 10 * 10)]) (st1 := [.int (a - a / 10 * 10), .ref 91]) (h1 := (124, I, J, R)) rfl ?_
  refine ev_ild (n := 14) rfl rfl (fun _ => rfl) n1 m1 ?_
  exact ev_ret rfl rfl
set_option maxRecDepth 20000 in
theorem tm_f {L : Nat} {xs : Nat → Int32} {d : Nat} {I : Nat → Nat → Int32} {J : Nat → Nat → Int64} {R : Nat → Nat → Nat} {a : Int32} (hG : aGd R) (c1 : xEv L xs d 160 0 [.int a, .int 0, .int 3] [] (124, I, J, R) (some (.int 0)) (124, I, J, R)) (c2 : xEv L xs d 160 0 [.int a, .int 10, .int 29] [] (124, I, J, R) (some (.int 0)) (124, I, J, R)) (c3 : xEv L xs d 160 0 [.int a, .int 30, .int 79] [] (124, I, J, R) (some (.int 0)) (124, I, J, R)) : xEv L xs (d + 1) 166 0 [.ref 86, .int a, xmk] [] (124, I, J, R) (some (.int (-1))) (124, I, J, R) := by
  refine ev_go 3 (pc1 := 3) (lv1 := [.ref 86, .int a, xmk]) (st1 := [.int 3, .int 0, .int a]) (h1 := (124, I, J, R)) rfl ?_
  refine ev_call (v1 := (some (.int 0))) (h1 := (124, I, J, R)) rfl rfl c1 ?_
  refine ev_go 3 (pc1 := 31) (lv1 := [.ref 86, .int a, xmk]) (st1 := [.int 10, .int a]) (h1 := (124, I, J, R)) rfl ?_
  refine ev_go 5 (pc1 := 38) (lv1 := [.ref 86, .int a, .int (a - a / 10 * 10)]) (st1 := [.int 29, .int 10, .int a]) (h1 := (124, I, J, R)) rfl ?_
  refine ev_call (v1 := (some (.int 0))) (h1 := (124, I, J, R)) rfl rfl c2 ?_
  refine ev_go 4 (pc1 := 83) (lv1 := [.ref 86, .int a, .int (a - a / 10 * 10)]) (st1 := [.int 79, .int 30, .int a]) (h1 := (124, I, J, R)) rfl ?_
  refine ev_call (v1 := (some (.int 0))) (h1 := (124, I, J, R)) rfl rfl c3 ?_
  refine ev_go 2 (pc1 := 98) (lv1 := [.ref 86, .int a, .int (a - a / 10 * 10)]) (st1 := [.int (-1)]) (h1 := (124, I, J, R)) rfl ?_
  exact ev_ret rfl rfl
set_option maxRecDepth 20000 in
theorem tm_g {L : Nat} {xs : Nat → Int32} {d : Nat} {I : Nat → Nat → Int32} {J : Nat → Nat → Int64} {R : Nat → Nat → Nat} {a : Int32} (hG : aGd R) (c1 : xEv L xs d 160 0 [.int a, .int 0, .int 3] [] (124, I, J, R) (some (.int 0)) (124, I, J, R)) (c2 : xEv L xs d 160 0 [.int a, .int 10, .int 29] [] (124, I, J, R) (some (.int 0)) (124, I, J, R)) (c3 : xEv L xs d 160 0 [.int a, .int 30, .int 79] [] (124, I, J, R) (some (.int 1)) (124, I, J, R)) (c4 : xEv L xs d 168 0 [.ref 86, .int (a - a / 10 * 10)] [] (124, I, J, R) (some (.int 0)) (124, I, J, R)) : xEv L xs (d + 1) 166 0 [.ref 86, .int a, xmk] [] (124, I, J, R) (some (.int (-1))) (124, I, J, R) := by
  refine ev_go 3 (pc1 := 3) (lv1 := [.ref 86, .int a, xmk]) (st1 := [.int 3, .int 0, .int a]) (h1 := (124, I, J, R)) rfl ?_
  refine ev_call (v1 := (some (.int 0))) (h1 := (124, I, J, R)) rfl rfl c1 ?_
  refine ev_go 3 (pc1 := 31) (lv1 := [.ref 86, .int a, xmk]) (st1 := [.int 10, .int a]) (h1 := (124, I, J, R)) rfl ?_
  refine ev_go 5 (pc1 := 38) (lv1 := [.ref 86, .int a, .int (a - a / 10 * 10)]) (st1 := [.int 29, .int 10, .int a]) (h1 := (124, I, J, R)) rfl ?_
  refine ev_call (v1 := (some (.int 0))) (h1 := (124, I, J, R)) rfl rfl c2 ?_
  refine ev_go 4 (pc1 := 83) (lv1 := [.ref 86, .int a, .int (a - a / 10 * 10)]) (st1 := [.int 79, .int 30, .int a]) (h1 := (124, I, J, R)) rfl ?_
  refine ev_call (v1 := (some (.int 1))) (h1 := (124, I, J, R)) rfl rfl c3 ?_
  refine ev_go 3 (pc1 := 91) (lv1 := [.ref 86, .int a, .int (a - a / 10 * 10)]) (st1 := [.int (a - a / 10 * 10), .ref 86]) (h1 := (124, I, J, R)) rfl ?_
  refine ev_call (v1 := (some (.int 0))) (h1 := (124, I, J, R)) rfl rfl c4 ?_
  refine ev_go 2 (pc1 := 98) (lv1 := [.ref 86, .int a, .int (a - a / 10 * 10)]) (st1 := [.int (-1)]) (h1 := (124, I, J, R)) rfl ?_
  exact ev_ret rfl rfl
set_option maxRecDepth 20000 in
theorem tm_3 {L : Nat} {xs : Nat → Int32} {d : Nat} {I : Nat → Nat → Int32} {J : Nat → Nat → Int64} {R : Nat → Nat → Nat} {a : Int32} (hG : aGd R) (c1 : xEv L xs d 160 0 [.int a, .int 0, .int 3] [] (124, I, J, R) (some (.int 0)) (124, I, J, R)) (c2 : xEv L xs d 160 0 [.int a, .int 10, .int 29] [] (124, I, J, R) (some (.int 0)) (124, I, J, R)) (c3 : xEv L xs d 160 0 [.int a, .int 30, .int 79] [] (124, I, J, R) (some (.int 1)) (124, I, J, R)) (c4 : xEv L xs d 168 0 [.ref 86, .int (a - a / 10 * 10)] [] (124, I, J, R) (some (.int 1)) (124, I, J, R)) (b1 : (a / 10).toInt = 3) (n1 : 0 ≤ (a - a / 10 * 10).toInt) (m1 : (a - a / 10 * 10).toInt < 8) : xEv L xs (d + 1) 166 0 [.ref 86, .int a, xmk] [] (124, I, J, R) (some (.int (I 96 (a - a / 10 * 10).toNatClampNeg))) (124, I, J, R) := by
  refine ev_go 3 (pc1 := 3) (lv1 := [.ref 86, .int a, xmk]) (st1 := [.int 3, .int 0, .int a]) (h1 := (124, I, J, R)) rfl ?_
  refine ev_call (v1 := (some (.int 0))) (h1 := (124, I, J, R)) rfl rfl c1 ?_
  refine ev_go 3 (pc1 := 31) (lv1 := [.ref 86, .int a, xmk]) (st1 := [.int 10, .int a]) (h1 := (124, I, J, R)) rfl ?_
  refine ev_go 5 (pc1 := 38) (lv1 := [.ref 86, .int a, .int (a - a / 10 * 10)]) (st1 := [.int 29, .int 10, .int a]) (h1 := (124, I, J, R)) rfl ?_
  refine ev_call (v1 := (some (.int 0))) (h1 := (124, I, J, R)) rfl rfl c2 ?_
  refine ev_go 4 (pc1 := 83) (lv1 := [.ref 86, .int a, .int (a - a / 10 * 10)]) (st1 := [.int 79, .int 30, .int a]) (h1 := (124, I, J, R)) rfl ?_
  refine ev_call (v1 := (some (.int 1))) (h1 := (124, I, J, R)) rfl rfl c3 ?_
  refine ev_go 3 (pc1 := 91) (lv1 := [.ref 86, .int a, .int (a - a / 10 * 10)]) (st1 := [.int (a - a / 10 * 10), .ref 86]) (h1 := (124, I, J, R)) rfl ?_
  refine ev_call (v1 := (some (.int 1))) (h1 := (124, I, J, R)) rfl rfl c4 ?_
  refine ev_go 3 (pc1 := 102) (lv1 := [.ref 86, .int a, .int (a - a / 10 * 10)]) (st1 := [.int 10, .int a]) (h1 := (124, I, J, R)) rfl ?_
  refine ev_go 1 (pc1 := 103) (lv1 := [.ref 86, .int a, .int (a - a / 10 * 10)]) (st1 := [.int (a / 10)]) (h1 := (124, I, J, R)) rfl ?_
  refine ev_tk (x := (a / 10)) (z := 3) (t := 132) rfl rfl b1 (by decide) rfl rfl ?_
  refine ev_go 1 (pc1 := 133) (lv1 := [.ref 86, .int a, .int (a - a / 10 * 10)]) (st1 := [.ref 86]) (h1 := (124, I, J, R)) rfl ?_
  refine ev_gf (c := 86) (t := 96) (X := R 86 20) rfl rfl (fun _ => rfl) rfl (hG 86 20 96 rfl rfl) ?_
  refine ev_go 1 (pc1 := 137) (lv1 := [.ref 86, .int a, .int (a - a / 10 * 10)]) (st1 := [.int (a - a / 10 * 10), .ref 96]) (h1 := (124, I, J, R)) rfl ?_
  refine ev_ild (n := 8) rfl rfl (fun _ => rfl) n1 m1 ?_
  exact ev_ret rfl rfl
set_option maxRecDepth 20000 in
theorem tm_4 {L : Nat} {xs : Nat → Int32} {d : Nat} {I : Nat → Nat → Int32} {J : Nat → Nat → Int64} {R : Nat → Nat → Nat} {a : Int32} (hG : aGd R) (c1 : xEv L xs d 160 0 [.int a, .int 0, .int 3] [] (124, I, J, R) (some (.int 0)) (124, I, J, R)) (c2 : xEv L xs d 160 0 [.int a, .int 10, .int 29] [] (124, I, J, R) (some (.int 0)) (124, I, J, R)) (c3 : xEv L xs d 160 0 [.int a, .int 30, .int 79] [] (124, I, J, R) (some (.int 1)) (124, I, J, R)) (c4 : xEv L xs d 168 0 [.ref 86, .int (a - a / 10 * 10)] [] (124, I, J, R) (some (.int 1)) (124, I, J, R)) (b1 : (a / 10).toInt = 4) (n1 : 0 ≤ (a - a / 10 * 10).toInt) (m1 : (a - a / 10 * 10).toInt < 8) : xEv L xs (d + 1) 166 0 [.ref 86, .int a, xmk] [] (124, I, J, R) (some (.int (I 97 (a - a / 10 * 10).toNatClampNeg))) (124, I, J, R) := by
  refine ev_go 3 (pc1 := 3) (lv1 := [.ref 86, .int a, xmk]) (st1 := [.int 3, .int 0, .int a]) (h1 := (124, I, J, R)) rfl ?_
  refine ev_call (v1 := (some (.int 0))) (h1 := (124, I, J, R)) rfl rfl c1 ?_
  refine ev_go 3 (pc1 := 31) (lv1 := [.ref 86, .int a, xmk]) (st1 := [.int 10, .int a]) (h1 := (124, I, J, R)) rfl ?_
  refine ev_go 5 (pc1 := 38) (lv1 := [.ref 86, .int a, .int (a - a / 10 * 10)]) (st1 := [.int 29, .int 10, .int a]) (h1 := (124, I, J, R)) rfl ?_
  refine ev_call (v1 := (some (.int 0))) (h1 := (124, I, J, R)) rfl rfl c2 ?_
  refine ev_go 4 (pc1 := 83) (lv1 := [.ref 86, .int a, .int (a - a / 10 * 10)]) (st1 := [.int 79, .int 30, .int a]) (h1 := (124, I, J, R)) rfl ?_
  refine ev_call (v1 := (some (.int 1))) (h1 := (124, I, J, R)) rfl rfl c3 ?_
  refine ev_go 3 (pc1 := 91) (lv1 := [.ref 86, .int a, .int (a - a / 10 * 10)]) (st1 := [.int (a - a / 10 * 10), .ref 86]) (h1 := (124, I, J, R)) rfl ?_
  refine ev_call (v1 := (some (.int 1))) (h1 := (124, I, J, R)) rfl rfl c4 ?_
  refine ev_go 3 (pc1 := 102) (lv1 := [.ref 86, .int a, .int (a - a / 10 * 10)]) (st1 := [.int 10, .int a]) (h1 := (124, I, J, R)) rfl ?_
  refine ev_go 1 (pc1 := 103) (lv1 := [.ref 86, .int a, .int (a - a / 10 * 10)]) (st1 := [.int (a / 10)]) (h1 := (124, I, J, R)) rfl ?_
  refine ev_tk (x := (a / 10)) (z := 4) (t := 139) rfl rfl b1 (by decide) rfl rfl ?_
  refine ev_go 1 (pc1 := 140) (lv1 := [.ref 86, .int a, .int (a - a / 10 * 10)]) (st1 := [.ref 86]) (h1 := (124, I, J, R)) rfl ?_
  refine ev_gf (c := 86) (t := 97) (X := R 86 21) rfl rfl (fun _ => rfl) rfl (hG 86 21 97 rfl rfl) ?_
  refine ev_go 1 (pc1 := 144) (lv1 := [.ref 86, .int a, .int (a - a / 10 * 10)]) (st1 := [.int (a - a / 10 * 10), .ref 97]) (h1 := (124, I, J, R)) rfl ?_
  refine ev_ild (n := 8) rfl rfl (fun _ => rfl) n1 m1 ?_
  exact ev_ret rfl rfl
set_option maxRecDepth 20000 in
theorem tm_5 {L : Nat} {xs : Nat → Int32} {d : Nat} {I : Nat → Nat → Int32} {J : Nat → Nat → Int64} {R : Nat → Nat → Nat} {a : Int32} (hG : aGd R) (c1 : xEv L xs d 160 0 [.int a, .int 0, .int 3] [] (124, I, J, R) (some (.int 0)) (124, I, J, R)) (c2 : xEv L xs d 160 0 [.int a, .int 10, .int 29] [] (124, I, J, R) (some (.int 0)) (124, I, J, R)) (c3 : xEv L xs d 160 0 [.int a, .int 30, .int 79] [] (124, I, J, R) (some (.int 1)) (124, I, J, R)) (c4 : xEv L xs d 168 0 [.ref 86, .int (a - a / 10 * 10)] [] (124, I, J, R) (some (.int 1)) (124, I, J, R)) (b1 : (a / 10).toInt = 5) (n1 : 0 ≤ (a - a / 10 * 10).toInt) (m1 : (a - a / 10 * 10).toInt < 8) : xEv L xs (d + 1) 166 0 [.ref 86, .int a, xmk] [] (124, I, J, R) (some (.int (I 98 (a - a / 10 * 10).toNatClampNeg))) (124, I, J, R) := by
  refine ev_go 3 (pc1 := 3) (lv1 := [.ref 86, .int a, xmk]) (st1 := [.int 3, .int 0, .int a]) (h1 := (124, I, J, R)) rfl ?_
  refine ev_call (v1 := (some (.int 0))) (h1 := (124, I, J, R)) rfl rfl c1 ?_
  refine ev_go 3 (pc1 := 31) (lv1 := [.ref 86, .int a, xmk]) (st1 := [.int 10, .int a]) (h1 := (124, I, J, R)) rfl ?_
  refine ev_go 5 (pc1 := 38) (lv1 := [.ref 86, .int a, .int (a - a / 10 * 10)]) (st1 := [.int 29, .int 10, .int a]) (h1 := (124, I, J, R)) rfl ?_
  refine ev_call (v1 := (some (.int 0))) (h1 := (124, I, J, R)) rfl rfl c2 ?_
  refine ev_go 4 (pc1 := 83) (lv1 := [.ref 86, .int a, .int (a - a / 10 * 10)]) (st1 := [.int 79, .int 30, .int a]) (h1 := (124, I, J, R)) rfl ?_
  refine ev_call (v1 := (some (.int 1))) (h1 := (124, I, J, R)) rfl rfl c3 ?_
  refine ev_go 3 (pc1 := 91) (lv1 := [.ref 86, .int a, .int (a - a / 10 * 10)]) (st1 := [.int (a - a / 10 * 10), .ref 86]) (h1 := (124, I, J, R)) rfl ?_
  refine ev_call (v1 := (some (.int 1))) (h1 := (124, I, J, R)) rfl rfl c4 ?_
  refine ev_go 3 (pc1 := 102) (lv1 := [.ref 86, .int a, .int (a - a / 10 * 10)]) (st1 := [.int 10, .int a]) (h1 := (124, I, J, R)) rfl ?_
  refine ev_go 1 (pc1 := 103) (lv1 := [.ref 86, .int a, .int (a - a / 10 * 10)]) (st1 := [.int (a / 10)]) (h1 := (124, I, J, R)) rfl ?_
  refine ev_tk (x := (a / 10)) (z := 5) (t := 146) rfl rfl b1 (by decide) rfl rfl ?_
  refine ev_go 1 (pc1 := 147) (lv1 := [.ref 86, .int a, .int (a - a / 10 * 10)]) (st1 := [.ref 86]) (h1 := (124, I, J, R)) rfl ?_
  refine ev_gf (c := 86) (t := 98) (X := R 86 22) rfl rfl (fun _ => rfl) rfl (hG 86 22 98 rfl rfl) ?_
  refine ev_go 1 (pc1 := 151) (lv1 := [.ref 86, .int a, .int (a - a / 10 * 10)]) (st1 := [.int (a - a / 10 * 10), .ref 98]) (h1 := (124, I, J, R)) rfl ?_
  refine ev_ild (n := 8) rfl rfl (fun _ => rfl) n1 m1 ?_
  exact ev_ret rfl rfl
set_option maxRecDepth 20000 in
theorem tm_6 {L : Nat} {xs : Nat → Int32} {d : Nat} {I : Nat → Nat → Int32} {J : Nat → Nat → Int64} {R : Nat → Nat → Nat} {a : Int32} (hG : aGd R) (c1 : xEv L xs d 160 0 [.int a, .int 0, .int 3] [] (124, I, J, R) (some (.int 0)) (124, I, J, R)) (c2 : xEv L xs d 160 0 [.int a, .int 10, .int 29] [] (124, I, J, R) (some (.int 0)) (124, I, J, R)) (c3 : xEv L xs d 160 0 [.int a, .int 30, .int 79] [] (124, I, J, R) (some (.int 1)) (124, I, J, R)) (c4 : xEv L xs d 168 0 [.ref 86, .int (a - a / 10 * 10)] [] (124, I, J, R) (some (.int 1)) (124, I, J, R)) (b1 : (a / 10).toInt = 6) (n1 : 0 ≤ (a - a / 10 * 10).toInt) (m1 : (a - a / 10 * 10).toInt < 8) : xEv L xs (d + 1) 166 0 [.ref 86, .int a, xmk] [] (124, I, J, R) (some (.int (I 99 (a - a / 10 * 10).toNatClampNeg))) (124, I, J, R) := by
  refine ev_go 3 (pc1 := 3) (lv1 := [.ref 86, .int a, xmk]) (st1 := [.int 3, .int 0, .int a]) (h1 := (124, I, J, R)) rfl ?_
  refine ev_call (v1 := (some (.int 0))) (h1 := (124, I, J, R)) rfl rfl c1 ?_
  refine ev_go 3 (pc1 := 31) (lv1 := [.ref 86, .int a, xmk]) (st1 := [.int 10, .int a]) (h1 := (124, I, J, R)) rfl ?_
  refine ev_go 5 (pc1 := 38) (lv1 := [.ref 86, .int a, .int (a - a / 10 * 10)]) (st1 := [.int 29, .int 10, .int a]) (h1 := (124, I, J, R)) rfl ?_
  refine ev_call (v1 := (some (.int 0))) (h1 := (124, I, J, R)) rfl rfl c2 ?_
  refine ev_go 4 (pc1 := 83) (lv1 := [.ref 86, .int a, .int (a - a / 10 * 10)]) (st1 := [.int 79, .int 30, .int a]) (h1 := (124, I, J, R)) rfl ?_
  refine ev_call (v1 := (some (.int 1))) (h1 := (124, I, J, R)) rfl rfl c3 ?_
  refine ev_go 3 (pc1 := 91) (lv1 := [.ref 86, .int a, .int (a - a / 10 * 10)]) (st1 := [.int (a - a / 10 * 10), .ref 86]) (h1 := (124, I, J, R)) rfl ?_
  refine ev_call (v1 := (some (.int 1))) (h1 := (124, I, J, R)) rfl rfl c4 ?_
  refine ev_go 3 (pc1 := 102) (lv1 := [.ref 86, .int a, .int (a - a / 10 * 10)]) (st1 := [.int 10, .int a]) (h1 := (124, I, J, R)) rfl ?_
  refine ev_go 1 (pc1 := 103) (lv1 := [.ref 86, .int a, .int (a - a / 10 * 10)]) (st1 := [.int (a / 10)]) (h1 := (124, I, J, R)) rfl ?_
  refine ev_tk (x := (a / 10)) (z := 6) (t := 153) rfl rfl b1 (by decide) rfl rfl ?_
  refine ev_go 1 (pc1 := 154) (lv1 := [.ref 86, .int a, .int (a - a / 10 * 10)]) (st1 := [.ref 86]) (h1 := (124, I, J, R)) rfl ?_
  refine ev_gf (c := 86) (t := 99) (X := R 86 23) rfl rfl (fun _ => rfl) rfl (hG 86 23 99 rfl rfl) ?_
  refine ev_go 1 (pc1 := 158) (lv1 := [.ref 86, .int a, .int (a - a / 10 * 10)]) (st1 := [.int (a - a / 10 * 10), .ref 99]) (h1 := (124, I, J, R)) rfl ?_
  refine ev_ild (n := 8) rfl rfl (fun _ => rfl) n1 m1 ?_
  exact ev_ret rfl rfl
set_option maxRecDepth 20000 in
theorem tm_7 {L : Nat} {xs : Nat → Int32} {d : Nat} {I : Nat → Nat → Int32} {J : Nat → Nat → Int64} {R : Nat → Nat → Nat} {a : Int32} (hG : aGd R) (c1 : xEv L xs d 160 0 [.int a, .int 0, .int 3] [] (124, I, J, R) (some (.int 0)) (124, I, J, R)) (c2 : xEv L xs d 160 0 [.int a, .int 10, .int 29] [] (124, I, J, R) (some (.int 0)) (124, I, J, R)) (c3 : xEv L xs d 160 0 [.int a, .int 30, .int 79] [] (124, I, J, R) (some (.int 1)) (124, I, J, R)) (c4 : xEv L xs d 168 0 [.ref 86, .int (a - a / 10 * 10)] [] (124, I, J, R) (some (.int 1)) (124, I, J, R)) (b1 : (a / 10).toInt < 3 ∨ 6 < (a / 10).toInt) (n1 : 0 ≤ (a - a / 10 * 10).toInt) (m1 : (a - a / 10 * 10).toInt < 8) : xEv L xs (d + 1) 166 0 [.ref 86, .int a, xmk] [] (124, I, J, R) (some (.int (I 100 (a - a / 10 * 10).toNatClampNeg))) (124, I, J, R) := by
  refine ev_go 3 (pc1 := 3) (lv1 := [.ref 86, .int a, xmk]) (st1 := [.int 3, .int 0, .int a]) (h1 := (124, I, J, R)) rfl ?_
  refine ev_call (v1 := (some (.int 0))) (h1 := (124, I, J, R)) rfl rfl c1 ?_
  refine ev_go 3 (pc1 := 31) (lv1 := [.ref 86, .int a, xmk]) (st1 := [.int 10, .int a]) (h1 := (124, I, J, R)) rfl ?_
  refine ev_go 5 (pc1 := 38) (lv1 := [.ref 86, .int a, .int (a - a / 10 * 10)]) (st1 := [.int 29, .int 10, .int a]) (h1 := (124, I, J, R)) rfl ?_
  refine ev_call (v1 := (some (.int 0))) (h1 := (124, I, J, R)) rfl rfl c2 ?_
  refine ev_go 4 (pc1 := 83) (lv1 := [.ref 86, .int a, .int (a - a / 10 * 10)]) (st1 := [.int 79, .int 30, .int a]) (h1 := (124, I, J, R)) rfl ?_
  refine ev_call (v1 := (some (.int 1))) (h1 := (124, I, J, R)) rfl rfl c3 ?_
  refine ev_go 3 (pc1 := 91) (lv1 := [.ref 86, .int a, .int (a - a / 10 * 10)]) (st1 := [.int (a - a / 10 * 10), .ref 86]) (h1 := (124, I, J, R)) rfl ?_
  refine ev_call (v1 := (some (.int 1))) (h1 := (124, I, J, R)) rfl rfl c4 ?_
  refine ev_go 3 (pc1 := 102) (lv1 := [.ref 86, .int a, .int (a - a / 10 * 10)]) (st1 := [.int 10, .int a]) (h1 := (124, I, J, R)) rfl ?_
  refine ev_go 1 (pc1 := 103) (lv1 := [.ref 86, .int a, .int (a - a / 10 * 10)]) (st1 := [.int (a / 10)]) (h1 := (124, I, J, R)) rfl ?_
  refine ev_tab (x := (a / 10)) (t := 160) rfl rfl b1 rfl ?_
  refine ev_go 1 (pc1 := 161) (lv1 := [.ref 86, .int a, .int (a - a / 10 * 10)]) (st1 := [.ref 86]) (h1 := (124, I, J, R)) rfl ?_
  refine ev_gf (c := 86) (t := 100) (X := R 86 24) rfl rfl (fun _ => rfl) rfl (hG 86 24 100 rfl rfl) ?_
  refine ev_go 1 (pc1 := 165) (lv1 := [.ref 86, .int a, .int (a - a / 10 * 10)]) (st1 := [.int (a - a / 10 * 10), .ref 100]) (h1 := (124, I, J, R)) rfl ?_
  refine ev_ild (n := 8) rfl rfl (fun _ => rfl) n1 m1 ?_
  exact ev_ret rfl rfl
set_option maxRecDepth 20000 in
theorem td_n_3 {L : Nat} {xs : Nat → Int32} {d : Nat} {I : Nat → Nat → Int32} {J : Nat → Nat → Int64} {R : Nat → Nat → Nat} {a : Int32} (hG : aGd R) (b1 : a.toInt < 0) : xEv L xs d 48 0 [.ref 0, .int a, xmk] [] (124, I, J, R) (some (.int (-1))) (124, I, J, R) := by
  refine ev_go 1 (pc1 := 1) (lv1 := [.ref 0, .int a, xmk]) (st1 := [.int a]) (h1 := (124, I, J, R)) rfl ?_
  refine ev_br (b1 := false) rfl rfl (xcd_nge (x := a) (y := 0) (by rw [show ((0 : Int32)).toInt = 0 from by decide]; first | exact b1 | omega)) ?_
  refine ev_go 1 (pc1 := 5) (lv1 := [.ref 0, .int a, xmk]) (st1 := [.int (-1)]) (h1 := (124, I, J, R)) rfl ?_
  exact ev_ret rfl rfl
set_option maxRecDepth 20000 in
theorem td_0_3 {L : Nat} {xs : Nat → Int32} {d : Nat} {I : Nat → Nat → Int32} {J : Nat → Nat → Int64} {R : Nat → Nat → Nat} {a r : Int32} (hG : aGd R) (b1 : a.toInt ≥ 0) (b2 : (a / 10).toInt = 0) (c1 : xEv L xs d 49 0 [.ref 0, .int (a - a / 10 * 10)] [] (124, I, J, R) (some (.int r)) (124, I, J, R)) : xEv L xs (d + 1) 48 0 [.ref 0, .int a, xmk] [] (124, I, J, R) (some (.int r)) (124, I, J, R) := by
  refine ev_go 1 (pc1 := 1) (lv1 := [.ref 0, .int a, xmk]) (st1 := [.int a]) (h1 := (124, I, J, R)) rfl ?_
  refine ev_br (b1 := true) rfl rfl (xcd_ge (x := a) (y := 0) (by rw [show ((0 : Int32)).toInt = 0 from by decide]; first | exact b1 | omega)) ?_
  refine ev_go 2 (pc1 := 9) (lv1 := [.ref 0, .int a, xmk]) (st1 := [.int 10, .int a]) (h1 := (124, I, J, R)) rfl ?_
  refine ev_go 4 (pc1 := 14) (lv1 := [.ref 0, .int a, .int (a - a / 10 * 10)]) (st1 := [.int 10, .int a]) (h1 := (124, I, J, R)) rfl ?_
  refine ev_go 1 (pc1 := 15) (lv1 := [.ref 0, .int a, .int (a - a / 10 * 10)]) (st1 := [.int (a / 10)]) (h1 := (124, I, J, R)) rfl ?_
  refine ev_tk (x := (a / 10)) (z := 0) (t := 60) rfl rfl b2 (by decide) rfl rfl ?_
  refine ev_go 2 (pc1 := 62) (lv1 := [.ref 0, .int a, .int (a - a / 10 * 10)]) (st1 := [.int (a - a / 10 * 10), .ref 0]) (h1 := (124, I, J, R)) rfl ?_
  refine ev_call (v1 := (some (.int r))) (h1 := (124, I, J, R)) rfl rfl c1 ?_
  exact ev_ret rfl rfl
set_option maxRecDepth 20000 in
theorem td_1_3 {L : Nat} {xs : Nat → Int32} {d : Nat} {I : Nat → Nat → Int32} {J : Nat → Nat → Int64} {R : Nat → Nat → Nat} {a r : Int32} (hG : aGd R) (b1 : a.toInt ≥ 0) (b2 : (a / 10).toInt = 1) (r_R_0_8 : R 0 8 = 4) (c1 : xEv L xs d 50 0 [.ref 5, .int (I 3 14), .int (a - a / 10 * 10)] [] (124, I, J, R) (some (.int r)) (124, I, J, R)) : xEv L xs (d + 1) 48 0 [.ref 0, .int a, xmk] [] (124, I, J, R) (some (.int r)) (124, I, J, R) := by
  refine ev_go 1 (pc1 := 1) (lv1 := [.ref 0, .int a, xmk]) (st1 := [.int a]) (h1 := (124, I, J, R)) rfl ?_
  refine ev_br (b1 := true) rfl rfl (xcd_ge (x := a) (y := 0) (by rw [show ((0 : Int32)).toInt = 0 from by decide]; first | exact b1 | omega)) ?_
  refine ev_go 2 (pc1 := 9) (lv1 := [.ref 0, .int a, xmk]) (st1 := [.int 10, .int a]) (h1 := (124, I, J, R)) rfl ?_
  refine ev_go 4 (pc1 := 14) (lv1 := [.ref 0, .int a, .int (a - a / 10 * 10)]) (st1 := [.int 10, .int a]) (h1 := (124, I, J, R)) rfl ?_
  refine ev_go 1 (pc1 := 15) (lv1 := [.ref 0, .int a, .int (a - a / 10 * 10)]) (st1 := [.int (a / 10)]) (h1 := (124, I, J, R)) rfl ?_
  refine ev_tk (x := (a / 10)) (z := 1) (t := 66) rfl rfl b2 (by decide) rfl rfl ?_
  refine ev_go 1 (pc1 := 67) (lv1 := [.ref 0, .int a, .int (a - a / 10 * 10)]) (st1 := [.ref 0]) (h1 := (124, I, J, R)) rfl ?_
  refine ev_gf (c := 0) (t := 3) (X := R 0 8) rfl rfl (fun _ => rfl) rfl r_R_0_8 ?_
  refine ev_gf (c := 3) (t := 5) (X := R 3 1) rfl rfl (fun _ => rfl) rfl (hG 3 1 5 rfl rfl) ?_
  refine ev_go 1 (pc1 := 74) (lv1 := [.ref 0, .int a, .int (a - a / 10 * 10)]) (st1 := [.ref 0, .ref 5]) (h1 := (124, I, J, R)) rfl ?_
  refine ev_gf (c := 0) (t := 3) (X := R 0 8) rfl rfl (fun _ => rfl) rfl r_R_0_8 ?_
  refine ev_go 2 (pc1 := 81) (lv1 := [.ref 0, .int a, .int (a - a / 10 * 10)]) (st1 := [.int (a - a / 10 * 10), .int (I 3 14), .ref 5]) (h1 := (124, I, J, R)) rfl ?_
  refine ev_call (v1 := (some (.int r))) (h1 := (124, I, J, R)) rfl rfl c1 ?_
  exact ev_ret rfl rfl
set_option maxRecDepth 20000 in
theorem td_2_3 {L : Nat} {xs : Nat → Int32} {d : Nat} {I : Nat → Nat → Int32} {J : Nat → Nat → Int64} {R : Nat → Nat → Nat} {a r : Int32} (hG : aGd R) (b1 : a.toInt ≥ 0) (b2 : (a / 10).toInt = 2) (r_R_0_8 : R 0 8 = 4) (c1 : xEv L xs d 50 0 [.ref 6, .int (I 3 14), .int (a - a / 10 * 10)] [] (124, I, J, R) (some (.int r)) (124, I, J, R)) : xEv L xs (d + 1) 48 0 [.ref 0, .int a, xmk] [] (124, I, J, R) (some (.int r)) (124, I, J, R) := by
  refine ev_go 1 (pc1 := 1) (lv1 := [.ref 0, .int a, xmk]) (st1 := [.int a]) (h1 := (124, I, J, R)) rfl ?_
  refine ev_br (b1 := true) rfl rfl (xcd_ge (x := a) (y := 0) (by rw [show ((0 : Int32)).toInt = 0 from by decide]; first | exact b1 | omega)) ?_
  refine ev_go 2 (pc1 := 9) (lv1 := [.ref 0, .int a, xmk]) (st1 := [.int 10, .int a]) (h1 := (124, I, J, R)) rfl ?_
  refine ev_go 4 (pc1 := 14) (lv1 := [.ref 0, .int a, .int (a - a / 10 * 10)]) (st1 := [.int 10, .int a]) (h1 := (124, I, J, R)) rfl ?_
  refine ev_go 1 (pc1 := 15) (lv1 := [.ref 0, .int a, .int (a - a / 10 * 10)]) (st1 := [.int (a / 10)]) (h1 := (124, I, J, R)) rfl ?_
  refine ev_tk (x := (a / 10)) (z := 2) (t := 85) rfl rfl b2 (by decide) rfl rfl ?_
  refine ev_go 1 (pc1 := 86) (lv1 := [.ref 0, .int a, .int (a - a / 10 * 10)]) (st1 := [.ref 0]) (h1 := (124, I, J, R)) rfl ?_
  refine ev_gf (c := 0) (t := 3) (X := R 0 8) rfl rfl (fun _ => rfl) rfl r_R_0_8 ?_
  refine ev_gf (c := 3) (t := 6) (X := R 3 2) rfl rfl (fun _ => rfl) rfl (hG 3 2 6 rfl rfl) ?_
  refine ev_go 1 (pc1 := 93) (lv1 := [.ref 0, .int a, .int (a - a / 10 * 10)]) (st1 := [.ref 0, .ref 6]) (h1 := (124, I, J, R)) rfl ?_
  refine ev_gf (c := 0) (t := 3) (X := R 0 8) rfl rfl (fun _ => rfl) rfl r_R_0_8 ?_
  refine ev_go 2 (pc1 := 100) (lv1 := [.ref 0, .int a, .int (a - a / 10 * 10)]) (st1 := [.int (a - a / 10 * 10), .int (I 3 14), .ref 6]) (h1 := (124, I, J, R)) rfl ?_
  refine ev_call (v1 := (some (.int r))) (h1 := (124, I, J, R)) rfl rfl c1 ?_
  exact ev_ret rfl rfl
set_option maxRecDepth 20000 in
theorem td_3_3 {L : Nat} {xs : Nat → Int32} {d : Nat} {I : Nat → Nat → Int32} {J : Nat → Nat → Int64} {R : Nat → Nat → Nat} {a r : Int32} (hG : aGd R) (b1 : a.toInt ≥ 0) (b2 : (a / 10).toInt = 3) (r_R_0_8 : R 0 8 = 4) (c1 : xEv L xs d 50 0 [.ref 11, .int (I 3 16), .int (a - a / 10 * 10)] [] (124, I, J, R) (some (.int r)) (124, I, J, R)) : xEv L xs (d + 1) 48 0 [.ref 0, .int a, xmk] [] (124, I, J, R) (some (.int r)) (124, I, J, R) := by
  refine ev_go 1 (pc1 := 1) (lv1 := [.ref 0, .int a, xmk]) (st1 := [.int a]) (h1 := (124, I, J, R)) rfl ?_
  refine ev_br (b1 := true) rfl rfl (xcd_ge (x := a) (y := 0) (by rw [show ((0 : Int32)).toInt = 0 from by decide]; first | exact b1 | omega)) ?_
  refine ev_go 2 (pc1 := 9) (lv1 := [.ref 0, .int a, xmk]) (st1 := [.int 10, .int a]) (h1 := (124, I, J, R)) rfl ?_
  refine ev_go 4 (pc1 := 14) (lv1 := [.ref 0, .int a, .int (a - a / 10 * 10)]) (st1 := [.int 10, .int a]) (h1 := (124, I, J, R)) rfl ?_
  refine ev_go 1 (pc1 := 15) (lv1 := [.ref 0, .int a, .int (a - a / 10 * 10)]) (st1 := [.int (a / 10)]) (h1 := (124, I, J, R)) rfl ?_
  refine ev_tk (x := (a / 10)) (z := 3) (t := 104) rfl rfl b2 (by decide) rfl rfl ?_
  refine ev_go 1 (pc1 := 105) (lv1 := [.ref 0, .int a, .int (a - a / 10 * 10)]) (st1 := [.ref 0]) (h1 := (124, I, J, R)) rfl ?_
  refine ev_gf (c := 0) (t := 3) (X := R 0 8) rfl rfl (fun _ => rfl) rfl r_R_0_8 ?_
  refine ev_gf (c := 3) (t := 11) (X := R 3 7) rfl rfl (fun _ => rfl) rfl (hG 3 7 11 rfl rfl) ?_
  refine ev_go 1 (pc1 := 112) (lv1 := [.ref 0, .int a, .int (a - a / 10 * 10)]) (st1 := [.ref 0, .ref 11]) (h1 := (124, I, J, R)) rfl ?_
  refine ev_gf (c := 0) (t := 3) (X := R 0 8) rfl rfl (fun _ => rfl) rfl r_R_0_8 ?_
  refine ev_go 2 (pc1 := 119) (lv1 := [.ref 0, .int a, .int (a - a / 10 * 10)]) (st1 := [.int (a - a / 10 * 10), .int (I 3 16), .ref 11]) (h1 := (124, I, J, R)) rfl ?_
  refine ev_call (v1 := (some (.int r))) (h1 := (124, I, J, R)) rfl rfl c1 ?_
  exact ev_ret rfl rfl
set_option maxRecDepth 20000 in
theorem td_4_3 {L : Nat} {xs : Nat → Int32} {d : Nat} {I : Nat → Nat → Int32} {J : Nat → Nat → Int64} {R : Nat → Nat → Nat} {a r : Int32} (hG : aGd R) (b1 : a.toInt ≥ 0) (b2 : (a / 10).toInt = 4) (r_R_0_8 : R 0 8 = 4) (c1 : xEv L xs d 50 0 [.ref 12, .int (I 3 16), .int (a - a / 10 * 10)] [] (124, I, J, R) (some (.int r)) (124, I, J, R)) : xEv L xs (d + 1) 48 0 [.ref 0, .int a, xmk] [] (124, I, J, R) (some (.int r)) (124, I, J, R) := by
  refine ev_go 1 (pc1 := 1) (lv1 := [.ref 0, .int a, xmk]) (st1 := [.int a]) (h1 := (124, I, J, R)) rfl ?_
  refine ev_br (b1 := true) rfl rfl (xcd_ge (x := a) (y := 0) (by rw [show ((0 : Int32)).toInt = 0 from by decide]; first | exact b1 | omega)) ?_
  refine ev_go 2 (pc1 := 9) (lv1 := [.ref 0, .int a, xmk]) (st1 := [.int 10, .int a]) (h1 := (124, I, J, R)) rfl ?_
  refine ev_go 4 (pc1 := 14) (lv1 := [.ref 0, .int a, .int (a - a / 10 * 10)]) (st1 := [.int 10, .int a]) (h1 := (124, I, J, R)) rfl ?_
  refine ev_go 1 (pc1 := 15) (lv1 := [.ref 0, .int a, .int (a - a / 10 * 10)]) (st1 := [.int (a / 10)]) (h1 := (124, I, J, R)) rfl ?_
  refine ev_tk (x := (a / 10)) (z := 4) (t := 123) rfl rfl b2 (by decide) rfl rfl ?_
  refine ev_go 1 (pc1 := 124) (lv1 := [.ref 0, .int a, .int (a - a / 10 * 10)]) (st1 := [.ref 0]) (h1 := (124, I, J, R)) rfl ?_
  refine ev_gf (c := 0) (t := 3) (X := R 0 8) rfl rfl (fun _ => rfl) rfl r_R_0_8 ?_
  refine ev_gf (c := 3) (t := 12) (X := R 3 8) rfl rfl (fun _ => rfl) rfl (hG 3 8 12 rfl rfl) ?_
  refine ev_go 1 (pc1 := 131) (lv1 := [.ref 0, .int a, .int (a - a / 10 * 10)]) (st1 := [.ref 0, .ref 12]) (h1 := (124, I, J, R)) rfl ?_
  refine ev_gf (c := 0) (t := 3) (X := R 0 8) rfl rfl (fun _ => rfl) rfl r_R_0_8 ?_
  refine ev_go 2 (pc1 := 138) (lv1 := [.ref 0, .int a, .int (a - a / 10 * 10)]) (st1 := [.int (a - a / 10 * 10), .int (I 3 16), .ref 12]) (h1 := (124, I, J, R)) rfl ?_
  refine ev_call (v1 := (some (.int r))) (h1 := (124, I, J, R)) rfl rfl c1 ?_
  exact ev_ret rfl rfl
set_option maxRecDepth 20000 in
theorem td_5_3 {L : Nat} {xs : Nat → Int32} {d : Nat} {I : Nat → Nat → Int32} {J : Nat → Nat → Int64} {R : Nat → Nat → Nat} {a r : Int32} (hG : aGd R) (b1 : a.toInt ≥ 0) (b2 : (a / 10).toInt = 5) (r_R_0_8 : R 0 8 = 4) (c1 : xEv L xs d 50 0 [.ref 13, .int (I 3 16), .int (a - a / 10 * 10)] [] (124, I, J, R) (some (.int r)) (124, I, J, R)) : xEv L xs (d + 1) 48 0 [.ref 0, .int a, xmk] [] (124, I, J, R) (some (.int r)) (124, I, J, R) := by
  refine ev_go 1 (pc1 := 1) (lv1 := [.ref 0, .int a, xmk]) (st1 := [.int a]) (h1 := (124, I, J, R)) rfl ?_
  refine ev_br (b1 := true) rfl rfl (xcd_ge (x := a) (y := 0) (by rw [show ((0 : Int32)).toInt = 0 from by decide]; first | exact b1 | omega)) ?_
  refine ev_go 2 (pc1 := 9) (lv1 := [.ref 0, .int a, xmk]) (st1 := [.int 10, .int a]) (h1 := (124, I, J, R)) rfl ?_
  refine ev_go 4 (pc1 := 14) (lv1 := [.ref 0, .int a, .int (a - a / 10 * 10)]) (st1 := [.int 10, .int a]) (h1 := (124, I, J, R)) rfl ?_
  refine ev_go 1 (pc1 := 15) (lv1 := [.ref 0, .int a, .int (a - a / 10 * 10)]) (st1 := [.int (a / 10)]) (h1 := (124, I, J, R)) rfl ?_
  refine ev_tk (x := (a / 10)) (z := 5) (t := 142) rfl rfl b2 (by decide) rfl rfl ?_
  refine ev_go 1 (pc1 := 143) (lv1 := [.ref 0, .int a, .int (a - a / 10 * 10)]) (st1 := [.ref 0]) (h1 := (124, I, J, R)) rfl ?_
  refine ev_gf (c := 0) (t := 3) (X := R 0 8) rfl rfl (fun _ => rfl) rfl r_R_0_8 ?_
  refine ev_gf (c := 3) (t := 13) (X := R 3 9) rfl rfl (fun _ => rfl) rfl (hG 3 9 13 rfl rfl) ?_
  refine ev_go 1 (pc1 := 150) (lv1 := [.ref 0, .int a, .int (a - a / 10 * 10)]) (st1 := [.ref 0, .ref 13]) (h1 := (124, I, J, R)) rfl ?_
  refine ev_gf (c := 0) (t := 3) (X := R 0 8) rfl rfl (fun _ => rfl) rfl r_R_0_8 ?_
  refine ev_go 2 (pc1 := 157) (lv1 := [.ref 0, .int a, .int (a - a / 10 * 10)]) (st1 := [.int (a - a / 10 * 10), .int (I 3 16), .ref 13]) (h1 := (124, I, J, R)) rfl ?_
  refine ev_call (v1 := (some (.int r))) (h1 := (124, I, J, R)) rfl rfl c1 ?_
  exact ev_ret rfl rfl
set_option maxRecDepth 20000 in
theorem td_6_3 {L : Nat} {xs : Nat → Int32} {d : Nat} {I : Nat → Nat → Int32} {J : Nat → Nat → Int64} {R : Nat → Nat → Nat} {a r : Int32} (hG : aGd R) (b1 : a.toInt ≥ 0) (b2 : (a / 10).toInt = 6) (r_R_0_8 : R 0 8 = 4) (c1 : xEv L xs d 50 0 [.ref 14, .int (I 3 16), .int (a - a / 10 * 10)] [] (124, I, J, R) (some (.int r)) (124, I, J, R)) : xEv L xs (d + 1) 48 0 [.ref 0, .int a, xmk] [] (124, I, J, R) (some (.int r)) (124, I, J, R) := by
  refine ev_go 1 (pc1 := 1) (lv1 := [.ref 0, .int a, xmk]) (st1 := [.int a]) (h1 := (124, I, J, R)) rfl ?_
  refine ev_br (b1 := true) rfl rfl (xcd_ge (x := a) (y := 0) (by rw [show ((0 : Int32)).toInt = 0 from by decide]; first | exact b1 | omega)) ?_
  refine ev_go 2 (pc1 := 9) (lv1 := [.ref 0, .int a, xmk]) (st1 := [.int 10, .int a]) (h1 := (124, I, J, R)) rfl ?_
  refine ev_go 4 (pc1 := 14) (lv1 := [.ref 0, .int a, .int (a - a / 10 * 10)]) (st1 := [.int 10, .int a]) (h1 := (124, I, J, R)) rfl ?_
  refine ev_go 1 (pc1 := 15) (lv1 := [.ref 0, .int a, .int (a - a / 10 * 10)]) (st1 := [.int (a / 10)]) (h1 := (124, I, J, R)) rfl ?_
  refine ev_tk (x := (a / 10)) (z := 6) (t := 161) rfl rfl b2 (by decide) rfl rfl ?_
  refine ev_go 1 (pc1 := 162) (lv1 := [.ref 0, .int a, .int (a - a / 10 * 10)]) (st1 := [.ref 0]) (h1 := (124, I, J, R)) rfl ?_
  refine ev_gf (c := 0) (t := 3) (X := R 0 8) rfl rfl (fun _ => rfl) rfl r_R_0_8 ?_
  refine ev_gf (c := 3) (t := 14) (X := R 3 10) rfl rfl (fun _ => rfl) rfl (hG 3 10 14 rfl rfl) ?_
  refine ev_go 1 (pc1 := 169) (lv1 := [.ref 0, .int a, .int (a - a / 10 * 10)]) (st1 := [.ref 0, .ref 14]) (h1 := (124, I, J, R)) rfl ?_
  refine ev_gf (c := 0) (t := 3) (X := R 0 8) rfl rfl (fun _ => rfl) rfl r_R_0_8 ?_
  refine ev_go 2 (pc1 := 176) (lv1 := [.ref 0, .int a, .int (a - a / 10 * 10)]) (st1 := [.int (a - a / 10 * 10), .int (I 3 16), .ref 14]) (h1 := (124, I, J, R)) rfl ?_
  refine ev_call (v1 := (some (.int r))) (h1 := (124, I, J, R)) rfl rfl c1 ?_
  exact ev_ret rfl rfl
set_option maxRecDepth 20000 in
theorem td_7_3 {L : Nat} {xs : Nat → Int32} {d : Nat} {I : Nat → Nat → Int32} {J : Nat → Nat → Int64} {R : Nat → Nat → Nat} {a r : Int32} (hG : aGd R) (b1 : a.toInt ≥ 0) (b2 : (a / 10).toInt = 7) (r_R_0_8 : R 0 8 = 4) (c1 : xEv L xs d 50 0 [.ref 15, .int (I 3 16), .int (a - a / 10 * 10)] [] (124, I, J, R) (some (.int r)) (124, I, J, R)) : xEv L xs (d + 1) 48 0 [.ref 0, .int a, xmk] [] (124, I, J, R) (some (.int r)) (124, I, J, R) := by
  refine ev_go 1 (pc1 := 1) (lv1 := [.ref 0, .int a, xmk]) (st1 := [.int a]) (h1 := (124, I, J, R)) rfl ?_
  refine ev_br (b1 := true) rfl rfl (xcd_ge (x := a) (y := 0) (by rw [show ((0 : Int32)).toInt = 0 from by decide]; first | exact b1 | omega)) ?_
  refine ev_go 2 (pc1 := 9) (lv1 := [.ref 0, .int a, xmk]) (st1 := [.int 10, .int a]) (h1 := (124, I, J, R)) rfl ?_
  refine ev_go 4 (pc1 := 14) (lv1 := [.ref 0, .int a, .int (a - a / 10 * 10)]) (st1 := [.int 10, .int a]) (h1 := (124, I, J, R)) rfl ?_
  refine ev_go 1 (pc1 := 15) (lv1 := [.ref 0, .int a, .int (a - a / 10 * 10)]) (st1 := [.int (a / 10)]) (h1 := (124, I, J, R)) rfl ?_
  refine ev_tk (x := (a / 10)) (z := 7) (t := 180) rfl rfl b2 (by decide) rfl rfl ?_
  refine ev_go 1 (pc1 := 181) (lv1 := [.ref 0, .int a, .int (a - a / 10 * 10)]) (st1 := [.ref 0]) (h1 := (124, I, J, R)) rfl ?_
  refine ev_gf (c := 0) (t := 3) (X := R 0 8) rfl rfl (fun _ => rfl) rfl r_R_0_8 ?_
  refine ev_gf (c := 3) (t := 15) (X := R 3 11) rfl rfl (fun _ => rfl) rfl (hG 3 11 15 rfl rfl) ?_
  refine ev_go 1 (pc1 := 188) (lv1 := [.ref 0, .int a, .int (a - a / 10 * 10)]) (st1 := [.ref 0, .ref 15]) (h1 := (124, I, J, R)) rfl ?_
  refine ev_gf (c := 0) (t := 3) (X := R 0 8) rfl rfl (fun _ => rfl) rfl r_R_0_8 ?_
  refine ev_go 2 (pc1 := 195) (lv1 := [.ref 0, .int a, .int (a - a / 10 * 10)]) (st1 := [.int (a - a / 10 * 10), .int (I 3 16), .ref 15]) (h1 := (124, I, J, R)) rfl ?_
  refine ev_call (v1 := (some (.int r))) (h1 := (124, I, J, R)) rfl rfl c1 ?_
  exact ev_ret rfl rfl
set_option maxRecDepth 20000 in
theorem td_d_3 {L : Nat} {xs : Nat → Int32} {d : Nat} {I : Nat → Nat → Int32} {J : Nat → Nat → Int64} {R : Nat → Nat → Nat} {a : Int32} (hG : aGd R) (b1 : a.toInt ≥ 0) (b2 : (a / 10).toInt < 0 ∨ 7 < (a / 10).toInt) : xEv L xs d 48 0 [.ref 0, .int a, xmk] [] (124, I, J, R) (some (.int (-1))) (124, I, J, R) := by
  refine ev_go 1 (pc1 := 1) (lv1 := [.ref 0, .int a, xmk]) (st1 := [.int a]) (h1 := (124, I, J, R)) rfl ?_
  refine ev_br (b1 := true) rfl rfl (xcd_ge (x := a) (y := 0) (by rw [show ((0 : Int32)).toInt = 0 from by decide]; first | exact b1 | omega)) ?_
  refine ev_go 2 (pc1 := 9) (lv1 := [.ref 0, .int a, xmk]) (st1 := [.int 10, .int a]) (h1 := (124, I, J, R)) rfl ?_
  refine ev_go 4 (pc1 := 14) (lv1 := [.ref 0, .int a, .int (a - a / 10 * 10)]) (st1 := [.int 10, .int a]) (h1 := (124, I, J, R)) rfl ?_
  refine ev_go 1 (pc1 := 15) (lv1 := [.ref 0, .int a, .int (a - a / 10 * 10)]) (st1 := [.int (a / 10)]) (h1 := (124, I, J, R)) rfl ?_
  refine ev_tab (x := (a / 10)) (t := 199) rfl rfl b2 rfl ?_
  refine ev_go 1 (pc1 := 200) (lv1 := [.ref 0, .int a, .int (a - a / 10 * 10)]) (st1 := [.int (-1)]) (h1 := (124, I, J, R)) rfl ?_
  exact ev_ret rfl rfl
set_option maxRecDepth 20000 in
theorem so_0_3 {L : Nat} {xs : Nat → Int32} {d : Nat} {I : Nat → Nat → Int32} {J : Nat → Nat → Int64} {R : Nat → Nat → Nat} {a : Int32} (hG : aGd R) (b1 : a.toInt = 0) (r_R_0_8 : R 0 8 = 4) : xEv L xs d 49 0 [.ref 0, .int a] [] (124, I, J, R) (some (.int (I 3 14))) (124, I, J, R) := by
  refine ev_go 1 (pc1 := 1) (lv1 := [.ref 0, .int a]) (st1 := [.int a]) (h1 := (124, I, J, R)) rfl ?_
  refine ev_tk (x := a) (z := 0) (t := 32) rfl rfl b1 (by decide) rfl rfl ?_
  refine ev_go 1 (pc1 := 33) (lv1 := [.ref 0, .int a]) (st1 := [.ref 0]) (h1 := (124, I, J, R)) rfl ?_
  refine ev_gf (c := 0) (t := 3) (X := R 0 8) rfl rfl (fun _ => rfl) rfl r_R_0_8 ?_
  refine ev_go 1 (pc1 := 39) (lv1 := [.ref 0, .int a]) (st1 := [.int (I 3 14)]) (h1 := (124, I, J, R)) rfl ?_
  exact ev_ret rfl rfl
set_option maxRecDepth 20000 in
theorem so_1_3 {L : Nat} {xs : Nat → Int32} {d : Nat} {I : Nat → Nat → Int32} {J : Nat → Nat → Int64} {R : Nat → Nat → Nat} {a : Int32} (hG : aGd R) (b1 : a.toInt = 1) (r_R_0_8 : R 0 8 = 4) : xEv L xs d 49 0 [.ref 0, .int a] [] (124, I, J, R) (some (.int (I 3 15))) (124, I, J, R) := by
  refine ev_go 1 (pc1 := 1) (lv1 := [.ref 0, .int a]) (st1 := [.int a]) (h1 := (124, I, J, R)) rfl ?_
  refine ev_tk (x := a) (z := 1) (t := 40) rfl rfl b1 (by decide) rfl rfl ?_
  refine ev_go 1 (pc1 := 41) (lv1 := [.ref 0, .int a]) (st1 := [.ref 0]) (h1 := (124, I, J, R)) rfl ?_
  refine ev_gf (c := 0) (t := 3) (X := R 0 8) rfl rfl (fun _ => rfl) rfl r_R_0_8 ?_
  refine ev_go 1 (pc1 := 47) (lv1 := [.ref 0, .int a]) (st1 := [.int (I 3 15)]) (h1 := (124, I, J, R)) rfl ?_
  exact ev_ret rfl rfl
set_option maxRecDepth 20000 in
theorem so_2_3 {L : Nat} {xs : Nat → Int32} {d : Nat} {I : Nat → Nat → Int32} {J : Nat → Nat → Int64} {R : Nat → Nat → Nat} {a : Int32} (hG : aGd R) (b1 : a.toInt = 2) (r_R_0_8 : R 0 8 = 4) : xEv L xs d 49 0 [.ref 0, .int a] [] (124, I, J, R) (some (.int (I 3 16))) (124, I, J, R) := by
  refine ev_go 1 (pc1 := 1) (lv1 := [.ref 0, .int a]) (st1 := [.int a]) (h1 := (124, I, J, R)) rfl ?_
  refine ev_tk (x := a) (z := 2) (t := 48) rfl rfl b1 (by decide) rfl rfl ?_
  refine ev_go 1 (pc1 := 49) (lv1 := [.ref 0, .int a]) (st1 := [.ref 0]) (h1 := (124, I, J, R)) rfl ?_
  refine ev_gf (c := 0) (t := 3) (X := R 0 8) rfl rfl (fun _ => rfl) rfl r_R_0_8 ?_
  refine ev_go 1 (pc1 := 55) (lv1 := [.ref 0, .int a]) (st1 := [.int (I 3 16)]) (h1 := (124, I, J, R)) rfl ?_
  exact ev_ret rfl rfl
set_option maxRecDepth 20000 in
theorem so_3_3 {L : Nat} {xs : Nat → Int32} {d : Nat} {I : Nat → Nat → Int32} {J : Nat → Nat → Int64} {R : Nat → Nat → Nat} {a : Int32} (hG : aGd R) (b1 : a.toInt = 3) (r_R_0_8 : R 0 8 = 4) : xEv L xs d 49 0 [.ref 0, .int a] [] (124, I, J, R) (some (.int (I 17 5))) (124, I, J, R) := by
  refine ev_go 1 (pc1 := 1) (lv1 := [.ref 0, .int a]) (st1 := [.int a]) (h1 := (124, I, J, R)) rfl ?_
  refine ev_tk (x := a) (z := 3) (t := 56) rfl rfl b1 (by decide) rfl rfl ?_
  refine ev_go 1 (pc1 := 57) (lv1 := [.ref 0, .int a]) (st1 := [.ref 0]) (h1 := (124, I, J, R)) rfl ?_
  refine ev_gf (c := 0) (t := 3) (X := R 0 8) rfl rfl (fun _ => rfl) rfl r_R_0_8 ?_
  refine ev_gf (c := 3) (t := 17) (X := R 3 13) rfl rfl (fun _ => rfl) rfl (hG 3 13 17 rfl rfl) ?_
  refine ev_go 1 (pc1 := 66) (lv1 := [.ref 0, .int a]) (st1 := [.int (I 17 5)]) (h1 := (124, I, J, R)) rfl ?_
  exact ev_ret rfl rfl
set_option maxRecDepth 20000 in
theorem so_d_3 {L : Nat} {xs : Nat → Int32} {d : Nat} {I : Nat → Nat → Int32} {J : Nat → Nat → Int64} {R : Nat → Nat → Nat} {a : Int32} (hG : aGd R) (b1 : a.toInt < 0 ∨ 3 < a.toInt) : xEv L xs d 49 0 [.ref 0, .int a] [] (124, I, J, R) (some (.int (-1))) (124, I, J, R) := by
  refine ev_go 1 (pc1 := 1) (lv1 := [.ref 0, .int a]) (st1 := [.int a]) (h1 := (124, I, J, R)) rfl ?_
  refine ev_tab (x := a) (t := 67) rfl rfl b1 rfl ?_
  refine ev_go 1 (pc1 := 68) (lv1 := [.ref 0, .int a]) (st1 := [.int (-1)]) (h1 := (124, I, J, R)) rfl ?_
  exact ev_ret rfl rfl
theorem tol_3 {L : Nat} {xs : Nat → Int32} {d : Nat} {I : Nat → Nat → Int32} {J : Nat → Nat → Int64} {R : Nat → Nat → Nat} {d' : Nat} (hG : aGd R) (h8 : R 0 8 = 4) {np nm nn : Nat} {l : List (Nat × Nat)} (hV : VR_3 np nm nn l I I) (a : Int32) : ∃ r : Int32, xEv L xs (d + 2) 48 0 [.ref 0, .int a, xmk] [] (124, I, J, R) (some (.int r)) (124, I, J, R) ∧ xEv L xs (d' + 2) 166 0 [.ref 86, .int a, xmk] [] (124, I, J, R) (some (.int r)) (124, I, J, R) := by
  obtain ⟨⟨p1, p2, p3⟩, p4, p5, p6, ⟨q1, q2⟩, ⟨q3, q4⟩, ⟨q5, q6⟩, q7, q8, q9, ⟨q10, q11⟩, q12, -⟩ := hV
  have e0 : (0 : Int32).toInt = 0 := by decide
  have e3 : (3 : Int32).toInt = 3 := by decide
  have e10 : (10 : Int32).toInt = 10 := by decide
  have e29 : (29 : Int32).toInt = 29 := by decide
  have e30 : (30 : Int32).toInt = 30 := by decide
  have e79 : (79 : Int32).toInt = 79 := by decide
  have i0 := in_ex (L := L) (xs := xs) (d := d' + 1) (I := I) (J := J) hG a 0 3
  have i1 := in_ex (L := L) (xs := xs) (d := d' + 1) (I := I) (J := J) hG a 10 29
  have i2 := in_ex (L := L) (xs := xs) (d := d' + 1) (I := I) (J := J) hG a 30 79
  rw [e0, e3] at i0
  rw [e10, e29] at i1
  rw [e30, e79] at i2
  by_cases hneg : a.toInt < 0
  · exact ⟨-1, td_n_3 hG hneg, tm_f hG (i0.resolve_left (fun z => by have := z.1; omega)).2 (i1.resolve_left (fun z => by have := z.1; omega)).2 (i2.resolve_left (fun z => by have := z.1; omega)).2⟩
  obtain ⟨z, hz⟩ := Int.eq_ofNat_of_zero_le (show 0 ≤ a.toInt by omega)
  obtain ⟨hd, hr⟩ := dv10 (a := a) (z := z) hz
  have ec := clamp_s (i := a) (by omega)
  have ekz : a.toNatClampNeg = z := by omega
  have ecr := clamp_s (i := a - a / 10 * 10) (by omega)
  have ekr : (a - a / 10 * 10).toNatClampNeg = z % 10 := by omega
  by_cases h3 : z ≤ 3
  · have j0 := (i0.resolve_right (fun y => by have := y.1; omega)).2
    have hz4 : z = 0 ∨ z = 1 ∨ z = 2 ∨ z = 3 := by omega
    rcases hz4 with rfl | rfl | rfl | rfl
    · have t := tm_b (L := L) (xs := xs) (d := d' + 1) (J := J) hG j0 (by omega) (by omega) (by omega)
      rw [ekz, show I 88 0 = I 3 14 from Int32.toInt_inj.mp (by omega)] at t
      exact ⟨_, td_0_3 hG (by omega) (by rw [hd]; rfl) (so_0_3 hG (by rw [hr]; rfl) h8), t⟩
    · have t := tm_b (L := L) (xs := xs) (d := d' + 1) (J := J) hG j0 (by omega) (by omega) (by omega)
      rw [ekz, show I 88 1 = I 3 15 from Int32.toInt_inj.mp (by omega)] at t
      exact ⟨_, td_0_3 hG (by omega) (by rw [hd]; rfl) (so_1_3 hG (by rw [hr]; rfl) h8), t⟩
    · have t := tm_b (L := L) (xs := xs) (d := d' + 1) (J := J) hG j0 (by omega) (by omega) (by omega)
      rw [ekz, show I 88 2 = I 3 16 from Int32.toInt_inj.mp (by omega)] at t
      exact ⟨_, td_0_3 hG (by omega) (by rw [hd]; rfl) (so_2_3 hG (by rw [hr]; rfl) h8), t⟩
    · have t := tm_a (L := L) (xs := xs) (d := d' + 1) (J := J) hG j0 (by omega)
      rw [show I 86 26 = I 17 5 from Int32.toInt_inj.mp (by omega)] at t
      exact ⟨_, td_0_3 hG (by omega) (by rw [hd]; rfl) (so_3_3 hG (by rw [hr]; rfl) h8), t⟩
  have j0 := (i0.resolve_left (fun y => by have := y.1; omega)).2
  by_cases h10 : z < 10
  · exact ⟨-1, td_0_3 hG (by omega) (by rw [hd]; omega) (so_d_3 hG (by rw [hr]; omega)), tm_f hG j0 (i1.resolve_left (fun y => by have := y.1; omega)).2 (i2.resolve_left (fun y => by have := y.1; omega)).2⟩
  by_cases h30 : z < 30
  · have j1 := (i1.resolve_right (fun y => by have := y.1; omega)).2
    have hp := ip_run (L := L) (xs := xs) (d := d') (I := I) (J := J) hG q2 (a - a / 10 * 10)
    by_cases hk : z % 10 < np
    · have c2 := (hp.resolve_right (fun y => by have := y.1; omega)).2
      by_cases h20 : z < 20
      · have t := tm_d (L := L) (xs := xs) (d := d' + 1) (J := J) hG j0 j1 c2 (by omega) (by omega) (by omega)
        have u := en_run (L := L) (xs := xs) (d := d) (I := I) (J := J) (R := R) (c := 5) (n := 7) (fun _ => rfl) (by decide) (I 3 14) (a - a / 10 * 10)
        rw [if_pos ⟨by omega, by omega⟩, if_pos ⟨by omega, by omega⟩, ekr] at u
        rw [ekr, ← (q7 _ hk).1] at t
        exact ⟨_, td_1_3 hG (by omega) (by rw [hd]; omega) h8 u, t⟩
      · have t := tm_e (L := L) (xs := xs) (d := d' + 1) (J := J) hG j0 j1 c2 (by omega) (by omega) (by omega)
        have u := en_run (L := L) (xs := xs) (d := d) (I := I) (J := J) (R := R) (c := 6) (n := 7) (fun _ => rfl) (by decide) (I 3 14) (a - a / 10 * 10)
        rw [if_pos ⟨by omega, by omega⟩, if_pos ⟨by omega, by omega⟩, ekr] at u
        rw [ekr, ← (q7 _ hk).2] at t
        exact ⟨_, td_2_3 hG (by omega) (by rw [hd]; omega) h8 u, t⟩
    · have c2 := (hp.resolve_left (fun y => by have := y.1; omega)).2
      have t := tm_c (L := L) (xs := xs) (d := d' + 1) (J := J) hG j0 j1 c2
      by_cases h20 : z < 20
      · have u := en_run (L := L) (xs := xs) (d := d) (I := I) (J := J) (R := R) (c := 5) (n := 7) (fun _ => rfl) (by decide) (I 3 14) (a - a / 10 * 10)
        rw [if_neg (by omega)] at u
        exact ⟨_, td_1_3 hG (by omega) (by rw [hd]; omega) h8 u, t⟩
      · have u := en_run (L := L) (xs := xs) (d := d) (I := I) (J := J) (R := R) (c := 6) (n := 7) (fun _ => rfl) (by decide) (I 3 14) (a - a / 10 * 10)
        rw [if_neg (by omega)] at u
        exact ⟨_, td_2_3 hG (by omega) (by rw [hd]; omega) h8 u, t⟩
  have j1 := (i1.resolve_left (fun y => by have := y.1; omega)).2
  by_cases h80 : 80 ≤ z
  · exact ⟨-1, td_d_3 hG (by omega) (Or.inr (by rw [hd]; omega)), tm_f hG j0 j1 (i2.resolve_left (fun y => by have := y.1; omega)).2⟩
  have j2 := (i2.resolve_right (fun y => by have := y.1; omega)).2
  have hq := ie_run (L := L) (xs := xs) (d := d') (I := I) (J := J) hG q6 (a - a / 10 * 10)
  have hz5 : z / 10 = 3 ∨ z / 10 = 4 ∨ z / 10 = 5 ∨ z / 10 = 6 ∨ z / 10 = 7 := by omega
  by_cases hk : z % 10 < nn
  · have c2 := (hq.resolve_right (fun y => by have := y.1; omega)).2
    obtain ⟨w1, w2, w3, w4, w5, -⟩ := q9 _ hk
    rcases hz5 with h5 | h5 | h5 | h5 | h5
    · have t := tm_3 (L := L) (xs := xs) (d := d' + 1) (J := J) hG j0 j1 j2 c2 (by rw [hd]; omega) (by omega) (by omega)
      have u := en_run (L := L) (xs := xs) (d := d) (I := I) (J := J) (R := R) (c := 11) (n := 4) (fun _ => rfl) (by decide) (I 3 16) (a - a / 10 * 10)
      rw [if_pos ⟨by omega, by omega⟩, if_pos ⟨by omega, by omega⟩, ekr] at u
      rw [ekr, ← w1] at t
      exact ⟨_, td_3_3 hG (by omega) (by rw [hd]; omega) h8 u, t⟩
    · have t := tm_4 (L := L) (xs := xs) (d := d' + 1) (J := J) hG j0 j1 j2 c2 (by rw [hd]; omega) (by omega) (by omega)
      have u := en_run (L := L) (xs := xs) (d := d) (I := I) (J := J) (R := R) (c := 12) (n := 4) (fun _ => rfl) (by decide) (I 3 16) (a - a / 10 * 10)
      rw [if_pos ⟨by omega, by omega⟩, if_pos ⟨by omega, by omega⟩, ekr] at u
      rw [ekr, ← w2] at t
      exact ⟨_, td_4_3 hG (by omega) (by rw [hd]; omega) h8 u, t⟩
    · have t := tm_5 (L := L) (xs := xs) (d := d' + 1) (J := J) hG j0 j1 j2 c2 (by rw [hd]; omega) (by omega) (by omega)
      have u := en_run (L := L) (xs := xs) (d := d) (I := I) (J := J) (R := R) (c := 13) (n := 4) (fun _ => rfl) (by decide) (I 3 16) (a - a / 10 * 10)
      rw [if_pos ⟨by omega, by omega⟩, if_pos ⟨by omega, by omega⟩, ekr] at u
      rw [ekr, ← w3] at t
      exact ⟨_, td_5_3 hG (by omega) (by rw [hd]; omega) h8 u, t⟩
    · have t := tm_6 (L := L) (xs := xs) (d := d' + 1) (J := J) hG j0 j1 j2 c2 (by rw [hd]; omega) (by omega) (by omega)
      have u := en_run (L := L) (xs := xs) (d := d) (I := I) (J := J) (R := R) (c := 14) (n := 4) (fun _ => rfl) (by decide) (I 3 16) (a - a / 10 * 10)
      rw [if_pos ⟨by omega, by omega⟩, if_pos ⟨by omega, by omega⟩, ekr] at u
      rw [ekr, ← w4] at t
      exact ⟨_, td_6_3 hG (by omega) (by rw [hd]; omega) h8 u, t⟩
    · have t := tm_7 (L := L) (xs := xs) (d := d' + 1) (J := J) hG j0 j1 j2 c2 (Or.inr (by rw [hd]; omega)) (by omega) (by omega)
      have u := en_run (L := L) (xs := xs) (d := d) (I := I) (J := J) (R := R) (c := 15) (n := 4) (fun _ => rfl) (by decide) (I 3 16) (a - a / 10 * 10)
      rw [if_pos ⟨by omega, by omega⟩, if_pos ⟨by omega, by omega⟩, ekr] at u
      rw [ekr, ← w5] at t
      exact ⟨_, td_7_3 hG (by omega) (by rw [hd]; omega) h8 u, t⟩
  · have c2 := (hq.resolve_left (fun y => by have := y.1; omega)).2
    have t := tm_g (L := L) (xs := xs) (d := d' + 1) (J := J) hG j0 j1 j2 c2
    rcases hz5 with h5 | h5 | h5 | h5 | h5
    · have u := en_run (L := L) (xs := xs) (d := d) (I := I) (J := J) (R := R) (c := 11) (n := 4) (fun _ => rfl) (by decide) (I 3 16) (a - a / 10 * 10)
      rw [if_neg (by omega)] at u
      exact ⟨_, td_3_3 hG (by omega) (by rw [hd]; omega) h8 u, t⟩
    · have u := en_run (L := L) (xs := xs) (d := d) (I := I) (J := J) (R := R) (c := 12) (n := 4) (fun _ => rfl) (by decide) (I 3 16) (a - a / 10 * 10)
      rw [if_neg (by omega)] at u
      exact ⟨_, td_4_3 hG (by omega) (by rw [hd]; omega) h8 u, t⟩
    · have u := en_run (L := L) (xs := xs) (d := d) (I := I) (J := J) (R := R) (c := 13) (n := 4) (fun _ => rfl) (by decide) (I 3 16) (a - a / 10 * 10)
      rw [if_neg (by omega)] at u
      exact ⟨_, td_5_3 hG (by omega) (by rw [hd]; omega) h8 u, t⟩
    · have u := en_run (L := L) (xs := xs) (d := d) (I := I) (J := J) (R := R) (c := 14) (n := 4) (fun _ => rfl) (by decide) (I 3 16) (a - a / 10 * 10)
      rw [if_neg (by omega)] at u
      exact ⟨_, td_6_3 hG (by omega) (by rw [hd]; omega) h8 u, t⟩
    · have u := en_run (L := L) (xs := xs) (d := d) (I := I) (J := J) (R := R) (c := 15) (n := 4) (fun _ => rfl) (by decide) (I 3 16) (a - a / 10 * 10)
      rw [if_neg (by omega)] at u
      exact ⟨_, td_7_3 hG (by omega) (by rw [hd]; omega) h8 u, t⟩
set_option maxRecDepth 20000 in
theorem td_n_23 {L : Nat} {xs : Nat → Int32} {d : Nat} {I : Nat → Nat → Int32} {J : Nat → Nat → Int64} {R : Nat → Nat → Nat} {a : Int32} (hG : aGd R) (b1 : a.toInt < 0) : xEv L xs d 48 0 [.ref 0, .int a, xmk] [] (124, I, J, R) (some (.int (-1))) (124, I, J, R) := by
  refine ev_go 1 (pc1 := 1) (lv1 := [.ref 0, .int a, xmk]) (st1 := [.int a]) (h1 := (124, I, J, R)) rfl ?_
  refine ev_br (b1 := false) rfl rfl (xcd_nge (x := a) (y := 0) (by rw [show ((0 : Int32)).toInt = 0 from by decide]; first | exact b1 | omega)) ?_
  refine ev_go 1 (pc1 := 5) (lv1 := [.ref 0, .int a, xmk]) (st1 := [.int (-1)]) (h1 := (124, I, J, R)) rfl ?_
  exact ev_ret rfl rfl
set_option maxRecDepth 20000 in
theorem td_0_23 {L : Nat} {xs : Nat → Int32} {d : Nat} {I : Nat → Nat → Int32} {J : Nat → Nat → Int64} {R : Nat → Nat → Nat} {a r : Int32} (hG : aGd R) (b1 : a.toInt ≥ 0) (b2 : (a / 10).toInt = 0) (c1 : xEv L xs d 49 0 [.ref 0, .int (a - a / 10 * 10)] [] (124, I, J, R) (some (.int r)) (124, I, J, R)) : xEv L xs (d + 1) 48 0 [.ref 0, .int a, xmk] [] (124, I, J, R) (some (.int r)) (124, I, J, R) := by
  refine ev_go 1 (pc1 := 1) (lv1 := [.ref 0, .int a, xmk]) (st1 := [.int a]) (h1 := (124, I, J, R)) rfl ?_
  refine ev_br (b1 := true) rfl rfl (xcd_ge (x := a) (y := 0) (by rw [show ((0 : Int32)).toInt = 0 from by decide]; first | exact b1 | omega)) ?_
  refine ev_go 2 (pc1 := 9) (lv1 := [.ref 0, .int a, xmk]) (st1 := [.int 10, .int a]) (h1 := (124, I, J, R)) rfl ?_
  refine ev_go 4 (pc1 := 14) (lv1 := [.ref 0, .int a, .int (a - a / 10 * 10)]) (st1 := [.int 10, .int a]) (h1 := (124, I, J, R)) rfl ?_
  refine ev_go 1 (pc1 := 15) (lv1 := [.ref 0, .int a, .int (a - a / 10 * 10)]) (st1 := [.int (a / 10)]) (h1 := (124, I, J, R)) rfl ?_
  refine ev_tk (x := (a / 10)) (z := 0) (t := 60) rfl rfl b2 (by decide) rfl rfl ?_
  refine ev_go 2 (pc1 := 62) (lv1 := [.ref 0, .int a, .int (a - a / 10 * 10)]) (st1 := [.int (a - a / 10 * 10), .ref 0]) (h1 := (124, I, J, R)) rfl ?_
  refine ev_call (v1 := (some (.int r))) (h1 := (124, I, J, R)) rfl rfl c1 ?_
  exact ev_ret rfl rfl
set_option maxRecDepth 20000 in
theorem td_1_23 {L : Nat} {xs : Nat → Int32} {d : Nat} {I : Nat → Nat → Int32} {J : Nat → Nat → Int64} {R : Nat → Nat → Nat} {a r : Int32} (hG : aGd R) (b1 : a.toInt ≥ 0) (b2 : (a / 10).toInt = 1) (r_R_0_8 : R 0 8 = 24) (c1 : xEv L xs d 50 0 [.ref 25, .int (I 23 14), .int (a - a / 10 * 10)] [] (124, I, J, R) (some (.int r)) (124, I, J, R)) : xEv L xs (d + 1) 48 0 [.ref 0, .int a, xmk] [] (124, I, J, R) (some (.int r)) (124, I, J, R) := by
  refine ev_go 1 (pc1 := 1) (lv1 := [.ref 0, .int a, xmk]) (st1 := [.int a]) (h1 := (124, I, J, R)) rfl ?_
  refine ev_br (b1 := true) rfl rfl (xcd_ge (x := a) (y := 0) (by rw [show ((0 : Int32)).toInt = 0 from by decide]; first | exact b1 | omega)) ?_
  refine ev_go 2 (pc1 := 9) (lv1 := [.ref 0, .int a, xmk]) (st1 := [.int 10, .int a]) (h1 := (124, I, J, R)) rfl ?_
  refine ev_go 4 (pc1 := 14) (lv1 := [.ref 0, .int a, .int (a - a / 10 * 10)]) (st1 := [.int 10, .int a]) (h1 := (124, I, J, R)) rfl ?_
  refine ev_go 1 (pc1 := 15) (lv1 := [.ref 0, .int a, .int (a - a / 10 * 10)]) (st1 := [.int (a / 10)]) (h1 := (124, I, J, R)) rfl ?_
  refine ev_tk (x := (a / 10)) (z := 1) (t := 66) rfl rfl b2 (by decide) rfl rfl ?_
  refine ev_go 1 (pc1 := 67) (lv1 := [.ref 0, .int a, .int (a - a / 10 * 10)]) (st1 := [.ref 0]) (h1 := (124, I, J, R)) rfl ?_
  refine ev_gf (c := 0) (t := 23) (X := R 0 8) rfl rfl (fun _ => rfl) rfl r_R_0_8 ?_
  refine ev_gf (c := 23) (t := 25) (X := R 23 1) rfl rfl (fun _ => rfl) rfl (hG 23 1 25 rfl rfl) ?_
  refine ev_go 1 (pc1 := 74) (lv1 := [.ref 0, .int a, .int (a - a / 10 * 10)]) (st1 := [.ref 0, .ref 25]) (h1 := (124, I, J, R)) rfl ?_
  refine ev_gf (c := 0) (t := 23) (X := R 0 8) rfl rfl (fun _ => rfl) rfl r_R_0_8 ?_
  refine ev_go 2 (pc1 := 81) (lv1 := [.ref 0, .int a, .int (a - a / 10 * 10)]) (st1 := [.int (a - a / 10 * 10), .int (I 23 14), .ref 25]) (h1 := (124, I, J, R)) rfl ?_
  refine ev_call (v1 := (some (.int r))) (h1 := (124, I, J, R)) rfl rfl c1 ?_
  exact ev_ret rfl rfl
set_option maxRecDepth 20000 in
theorem td_2_23 {L : Nat} {xs : Nat → Int32} {d : Nat} {I : Nat → Nat → Int32} {J : Nat → Nat → Int64} {R : Nat → Nat → Nat} {a r : Int32} (hG : aGd R) (b1 : a.toInt ≥ 0) (b2 : (a / 10).toInt = 2) (r_R_0_8 : R 0 8 = 24) (c1 : xEv L xs d 50 0 [.ref 26, .int (I 23 14), .int (a - a / 10 * 10)] [] (124, I, J, R) (some (.int r)) (124, I, J, R)) : xEv L xs (d + 1) 48 0 [.ref 0, .int a, xmk] [] (124, I, J, R) (some (.int r)) (124, I, J, R) := by
  refine ev_go 1 (pc1 := 1) (lv1 := [.ref 0, .int a, xmk]) (st1 := [.int a]) (h1 := (124, I, J, R)) rfl ?_
  refine ev_br (b1 := true) rfl rfl (xcd_ge (x := a) (y := 0) (by rw [show ((0 : Int32)).toInt = 0 from by decide]; first | exact b1 | omega)) ?_
  refine ev_go 2 (pc1 := 9) (lv1 := [.ref 0, .int a, xmk]) (st1 := [.int 10, .int a]) (h1 := (124, I, J, R)) rfl ?_
  refine ev_go 4 (pc1 := 14) (lv1 := [.ref 0, .int a, .int (a - a / 10 * 10)]) (st1 := [.int 10, .int a]) (h1 := (124, I, J, R)) rfl ?_
  refine ev_go 1 (pc1 := 15) (lv1 := [.ref 0, .int a, .int (a - a / 10 * 10)]) (st1 := [.int (a / 10)]) (h1 := (124, I, J, R)) rfl ?_
  refine ev_tk (x := (a / 10)) (z := 2) (t := 85) rfl rfl b2 (by decide) rfl rfl ?_
  refine ev_go 1 (pc1 := 86) (lv1 := [.ref 0, .int a, .int (a - a / 10 * 10)]) (st1 := [.ref 0]) (h1 := (124, I, J, R)) rfl ?_
  refine ev_gf (c := 0) (t := 23) (X := R 0 8) rfl rfl (fun _ => rfl) rfl r_R_0_8 ?_
  refine ev_gf (c := 23) (t := 26) (X := R 23 2) rfl rfl (fun _ => rfl) rfl (hG 23 2 26 rfl rfl) ?_
  refine ev_go 1 (pc1 := 93) (lv1 := [.ref 0, .int a, .int (a - a / 10 * 10)]) (st1 := [.ref 0, .ref 26]) (h1 := (124, I, J, R)) rfl ?_
  refine ev_gf (c := 0) (t := 23) (X := R 0 8) rfl rfl (fun _ => rfl) rfl r_R_0_8 ?_
  refine ev_go 2 (pc1 := 100) (lv1 := [.ref 0, .int a, .int (a - a / 10 * 10)]) (st1 := [.int (a - a / 10 * 10), .int (I 23 14), .ref 26]) (h1 := (124, I, J, R)) rfl ?_
  refine ev_call (v1 := (some (.int r))) (h1 := (124, I, J, R)) rfl rfl c1 ?_
  exact ev_ret rfl rfl
set_option maxRecDepth 20000 in
theorem td_3_23 {L : Nat} {xs : Nat → Int32} {d : Nat} {I : Nat → Nat → Int32} {J : Nat → Nat → Int64} {R : Nat → Nat → Nat} {a r : Int32} (hG : aGd R) (b1 : a.toInt ≥ 0) (b2 : (a / 10).toInt = 3) (r_R_0_8 : R 0 8 = 24) (c1 : xEv L xs d 50 0 [.ref 31, .int (I 23 16), .int (a - a / 10 * 10)] [] (124, I, J, R) (some (.int r)) (124, I, J, R)) : xEv L xs (d + 1) 48 0 [.ref 0, .int a, xmk] [] (124, I, J, R) (some (.int r)) (124, I, J, R) := by
  refine ev_go 1 (pc1 := 1) (lv1 := [.ref 0, .int a, xmk]) (st1 := [.int a]) (h1 := (124, I, J, R)) rfl ?_
  refine ev_br (b1 := true) rfl rfl (xcd_ge (x := a) (y := 0) (by rw [show ((0 : Int32)).toInt = 0 from by decide]; first | exact b1 | omega)) ?_
  refine ev_go 2 (pc1 := 9) (lv1 := [.ref 0, .int a, xmk]) (st1 := [.int 10, .int a]) (h1 := (124, I, J, R)) rfl ?_
  refine ev_go 4 (pc1 := 14) (lv1 := [.ref 0, .int a, .int (a - a / 10 * 10)]) (st1 := [.int 10, .int a]) (h1 := (124, I, J, R)) rfl ?_
  refine ev_go 1 (pc1 := 15) (lv1 := [.ref 0, .int a, .int (a - a / 10 * 10)]) (st1 := [.int (a / 10)]) (h1 := (124, I, J, R)) rfl ?_
  refine ev_tk (x := (a / 10)) (z := 3) (t := 104) rfl rfl b2 (by decide) rfl rfl ?_
  refine ev_go 1 (pc1 := 105) (lv1 := [.ref 0, .int a, .int (a - a / 10 * 10)]) (st1 := [.ref 0]) (h1 := (124, I, J, R)) rfl ?_
  refine ev_gf (c := 0) (t := 23) (X := R 0 8) rfl rfl (fun _ => rfl) rfl r_R_0_8 ?_
  refine ev_gf (c := 23) (t := 31) (X := R 23 7) rfl rfl (fun _ => rfl) rfl (hG 23 7 31 rfl rfl) ?_
  refine ev_go 1 (pc1 := 112) (lv1 := [.ref 0, .int a, .int (a - a / 10 * 10)]) (st1 := [.ref 0, .ref 31]) (h1 := (124, I, J, R)) rfl ?_
  refine ev_gf (c := 0) (t := 23) (X := R 0 8) rfl rfl (fun _ => rfl) rfl r_R_0_8 ?_
  refine ev_go 2 (pc1 := 119) (lv1 := [.ref 0, .int a, .int (a - a / 10 * 10)]) (st1 := [.int (a - a / 10 * 10), .int (I 23 16), .ref 31]) (h1 := (124, I, J, R)) rfl ?_
  refine ev_call (v1 := (some (.int r))) (h1 := (124, I, J, R)) rfl rfl c1 ?_
  exact ev_ret rfl rfl
set_option maxRecDepth 20000 in
theorem td_4_23 {L : Nat} {xs : Nat → Int32} {d : Nat} {I : Nat → Nat → Int32} {J : Nat → Nat → Int64} {R : Nat → Nat → Nat} {a r : Int32} (hG : aGd R) (b1 : a.toInt ≥ 0) (b2 : (a / 10).toInt = 4) (r_R_0_8 : R 0 8 = 24) (c1 : xEv L xs d 50 0 [.ref 32, .int (I 23 16), .int (a - a / 10 * 10)] [] (124, I, J, R) (some (.int r)) (124, I, J, R)) : xEv L xs (d + 1) 48 0 [.ref 0, .int a, xmk] [] (124, I, J, R) (some (.int r)) (124, I, J, R) := by
  refine ev_go 1 (pc1 := 1) (lv1 := [.ref 0, .int a, xmk]) (st1 := [.int a]) (h1 := (124, I, J, R)) rfl ?_
  refine ev_br (b1 := true) rfl rfl (xcd_ge (x := a) (y := 0) (by rw [show ((0 : Int32)).toInt = 0 from by decide]; first | exact b1 | omega)) ?_
  refine ev_go 2 (pc1 := 9) (lv1 := [.ref 0, .int a, xmk]) (st1 := [.int 10, .int a]) (h1 := (124, I, J, R)) rfl ?_
  refine ev_go 4 (pc1 := 14) (lv1 := [.ref 0, .int a, .int (a - a / 10 * 10)]) (st1 := [.int 10, .int a]) (h1 := (124, I, J, R)) rfl ?_
  refine ev_go 1 (pc1 := 15) (lv1 := [.ref 0, .int a, .int (a - a / 10 * 10)]) (st1 := [.int (a / 10)]) (h1 := (124, I, J, R)) rfl ?_
  refine ev_tk (x := (a / 10)) (z := 4) (t := 123) rfl rfl b2 (by decide) rfl rfl ?_
  refine ev_go 1 (pc1 := 124) (lv1 := [.ref 0, .int a, .int (a - a / 10 * 10)]) (st1 := [.ref 0]) (h1 := (124, I, J, R)) rfl ?_
  refine ev_gf (c := 0) (t := 23) (X := R 0 8) rfl rfl (fun _ => rfl) rfl r_R_0_8 ?_
  refine ev_gf (c := 23) (t := 32) (X := R 23 8) rfl rfl (fun _ => rfl) rfl (hG 23 8 32 rfl rfl) ?_
  refine ev_go 1 (pc1 := 131) (lv1 := [.ref 0, .int a, .int (a - a / 10 * 10)]) (st1 := [.ref 0, .ref 32]) (h1 := (124, I, J, R)) rfl ?_
  refine ev_gf (c := 0) (t := 23) (X := R 0 8) rfl rfl (fun _ => rfl) rfl r_R_0_8 ?_
  refine ev_go 2 (pc1 := 138) (lv1 := [.ref 0, .int a, .int (a - a / 10 * 10)]) (st1 := [.int (a - a / 10 * 10), .int (I 23 16), .ref 32]) (h1 := (124, I, J, R)) rfl ?_
  refine ev_call (v1 := (some (.int r))) (h1 := (124, I, J, R)) rfl rfl c1 ?_
  exact ev_ret rfl rfl
set_option maxRecDepth 20000 in
theorem td_5_23 {L : Nat} {xs : Nat → Int32} {d : Nat} {I : Nat → Nat → Int32} {J : Nat → Nat → Int64} {R : Nat → Nat → Nat} {a r : Int32} (hG : aGd R) (b1 : a.toInt ≥ 0) (b2 : (a / 10).toInt = 5) (r_R_0_8 : R 0 8 = 24) (c1 : xEv L xs d 50 0 [.ref 33, .int (I 23 16), .int (a - a / 10 * 10)] [] (124, I, J, R) (some (.int r)) (124, I, J, R)) : xEv L xs (d + 1) 48 0 [.ref 0, .int a, xmk] [] (124, I, J, R) (some (.int r)) (124, I, J, R) := by
  refine ev_go 1 (pc1 := 1) (lv1 := [.ref 0, .int a, xmk]) (st1 := [.int a]) (h1 := (124, I, J, R)) rfl ?_
  refine ev_br (b1 := true) rfl rfl (xcd_ge (x := a) (y := 0) (by rw [show ((0 : Int32)).toInt = 0 from by decide]; first | exact b1 | omega)) ?_
  refine ev_go 2 (pc1 := 9) (lv1 := [.ref 0, .int a, xmk]) (st1 := [.int 10, .int a]) (h1 := (124, I, J, R)) rfl ?_
  refine ev_go 4 (pc1 := 14) (lv1 := [.ref 0, .int a, .int (a - a / 10 * 10)]) (st1 := [.int 10, .int a]) (h1 := (124, I, J, R)) rfl ?_
  refine ev_go 1 (pc1 := 15) (lv1 := [.ref 0, .int a, .int (a - a / 10 * 10)]) (st1 := [.int (a / 10)]) (h1 := (124, I, J, R)) rfl ?_
  refine ev_tk (x := (a / 10)) (z := 5) (t := 142) rfl rfl b2 (by decide) rfl rfl ?_
  refine ev_go 1 (pc1 := 143) (lv1 := [.ref 0, .int a, .int (a - a / 10 * 10)]) (st1 := [.ref 0]) (h1 := (124, I, J, R)) rfl ?_
  refine ev_gf (c := 0) (t := 23) (X := R 0 8) rfl rfl (fun _ => rfl) rfl r_R_0_8 ?_
  refine ev_gf (c := 23) (t := 33) (X := R 23 9) rfl rfl (fun _ => rfl) rfl (hG 23 9 33 rfl rfl) ?_
  refine ev_go 1 (pc1 := 150) (lv1 := [.ref 0, .int a, .int (a - a / 10 * 10)]) (st1 := [.ref 0, .ref 33]) (h1 := (124, I, J, R)) rfl ?_
  refine ev_gf (c := 0) (t := 23) (X := R 0 8) rfl rfl (fun _ => rfl) rfl r_R_0_8 ?_
  refine ev_go 2 (pc1 := 157) (lv1 := [.ref 0, .int a, .int (a - a / 10 * 10)]) (st1 := [.int (a - a / 10 * 10), .int (I 23 16), .ref 33]) (h1 := (124, I, J, R)) rfl ?_
  refine ev_call (v1 := (some (.int r))) (h1 := (124, I, J, R)) rfl rfl c1 ?_
  exact ev_ret rfl rfl
set_option maxRecDepth 20000 in
theorem td_6_23 {L : Nat} {xs : Nat → Int32} {d : Nat} {I : Nat → Nat → Int32} {J : Nat → Nat → Int64} {R : Nat → Nat → Nat} {a r : Int32} (hG : aGd R) (b1 : a.toInt ≥ 0) (b2 : (a / 10).toInt = 6) (r_R_0_8 : R 0 8 = 24) (c1 : xEv L xs d 50 0 [.ref 34, .int (I 23 16), .int (a - a / 10 * 10)] [] (124, I, J, R) (some (.int r)) (124, I, J, R)) : xEv L xs (d + 1) 48 0 [.ref 0, .int a, xmk] [] (124, I, J, R) (some (.int r)) (124, I, J, R) := by
  refine ev_go 1 (pc1 := 1) (lv1 := [.ref 0, .int a, xmk]) (st1 := [.int a]) (h1 := (124, I, J, R)) rfl ?_
  refine ev_br (b1 := true) rfl rfl (xcd_ge (x := a) (y := 0) (by rw [show ((0 : Int32)).toInt = 0 from by decide]; first | exact b1 | omega)) ?_
  refine ev_go 2 (pc1 := 9) (lv1 := [.ref 0, .int a, xmk]) (st1 := [.int 10, .int a]) (h1 := (124, I, J, R)) rfl ?_
  refine ev_go 4 (pc1 := 14) (lv1 := [.ref 0, .int a, .int (a - a / 10 * 10)]) (st1 := [.int 10, .int a]) (h1 := (124, I, J, R)) rfl ?_
  refine ev_go 1 (pc1 := 15) (lv1 := [.ref 0, .int a, .int (a - a / 10 * 10)]) (st1 := [.int (a / 10)]) (h1 := (124, I, J, R)) rfl ?_
  refine ev_tk (x := (a / 10)) (z := 6) (t := 161) rfl rfl b2 (by decide) rfl rfl ?_
  refine ev_go 1 (pc1 := 162) (lv1 := [.ref 0, .int a, .int (a - a / 10 * 10)]) (st1 := [.ref 0]) (h1 := (124, I, J, R)) rfl ?_
  refine ev_gf (c := 0) (t := 23) (X := R 0 8) rfl rfl (fun _ => rfl) rfl r_R_0_8 ?_
  refine ev_gf (c := 23) (t := 34) (X := R 23 10) rfl rfl (fun _ => rfl) rfl (hG 23 10 34 rfl rfl) ?_
  refine ev_go 1 (pc1 := 169) (lv1 := [.ref 0, .int a, .int (a - a / 10 * 10)]) (st1 := [.ref 0, .ref 34]) (h1 := (124, I, J, R)) rfl ?_
  refine ev_gf (c := 0) (t := 23) (X := R 0 8) rfl rfl (fun _ => rfl) rfl r_R_0_8 ?_
  refine ev_go 2 (pc1 := 176) (lv1 := [.ref 0, .int a, .int (a - a / 10 * 10)]) (st1 := [.int (a - a / 10 * 10), .int (I 23 16), .ref 34]) (h1 := (124, I, J, R)) rfl ?_
  refine ev_call (v1 := (some (.int r))) (h1 := (124, I, J, R)) rfl rfl c1 ?_
  exact ev_ret rfl rfl
set_option maxRecDepth 20000 in
theorem td_7_23 {L : Nat} {xs : Nat → Int32} {d : Nat} {I : Nat → Nat → Int32} {J : Nat → Nat → Int64} {R : Nat → Nat → Nat} {a r : Int32} (hG : aGd R) (b1 : a.toInt ≥ 0) (b2 : (a / 10).toInt = 7) (r_R_0_8 : R 0 8 = 24) (c1 : xEv L xs d 50 0 [.ref 35, .int (I 23 16), .int (a - a / 10 * 10)] [] (124, I, J, R) (some (.int r)) (124, I, J, R)) : xEv L xs (d + 1) 48 0 [.ref 0, .int a, xmk] [] (124, I, J, R) (some (.int r)) (124, I, J, R) := by
  refine ev_go 1 (pc1 := 1) (lv1 := [.ref 0, .int a, xmk]) (st1 := [.int a]) (h1 := (124, I, J, R)) rfl ?_
  refine ev_br (b1 := true) rfl rfl (xcd_ge (x := a) (y := 0) (by rw [show ((0 : Int32)).toInt = 0 from by decide]; first | exact b1 | omega)) ?_
  refine ev_go 2 (pc1 := 9) (lv1 := [.ref 0, .int a, xmk]) (st1 := [.int 10, .int a]) (h1 := (124, I, J, R)) rfl ?_
  refine ev_go 4 (pc1 := 14) (lv1 := [.ref 0, .int a, .int (a - a / 10 * 10)]) (st1 := [.int 10, .int a]) (h1 := (124, I, J, R)) rfl ?_
  refine ev_go 1 (pc1 := 15) (lv1 := [.ref 0, .int a, .int (a - a / 10 * 10)]) (st1 := [.int (a / 10)]) (h1 := (124, I, J, R)) rfl ?_
  refine ev_tk (x := (a / 10)) (z := 7) (t := 180) rfl rfl b2 (by decide) rfl rfl ?_
  refine ev_go 1 (pc1 := 181) (lv1 := [.ref 0, .int a, .int (a - a / 10 * 10)]) (st1 := [.ref 0]) (h1 := (124, I, J, R)) rfl ?_
  refine ev_gf (c := 0) (t := 23) (X := R 0 8) rfl rfl (fun _ => rfl) rfl r_R_0_8 ?_
  refine ev_gf (c := 23) (t := 35) (X := R 23 11) rfl rfl (fun _ => rfl) rfl (hG 23 11 35 rfl rfl) ?_
  refine ev_go 1 (pc1 := 188) (lv1 := [.ref 0, .int a, .int (a - a / 10 * 10)]) (st1 := [.ref 0, .ref 35]) (h1 := (124, I, J, R)) rfl ?_
  refine ev_gf (c := 0) (t := 23) (X := R 0 8) rfl rfl (fun _ => rfl) rfl r_R_0_8 ?_
  refine ev_go 2 (pc1 := 195) (lv1 := [.ref 0, .int a, .int (a - a / 10 * 10)]) (st1 := [.int (a - a / 10 * 10), .int (I 23 16), .ref 35]) (h1 := (124, I, J, R)) rfl ?_
  refine ev_call (v1 := (some (.int r))) (h1 := (124, I, J, R)) rfl rfl c1 ?_
  exact ev_ret rfl rfl
set_option maxRecDepth 20000 in
theorem td_d_23 {L : Nat} {xs : Nat → Int32} {d : Nat} {I : Nat → Nat → Int32} {J : Nat → Nat → Int64} {R : Nat → Nat → Nat} {a : Int32} (hG : aGd R) (b1 : a.toInt ≥ 0) (b2 : (a / 10).toInt < 0 ∨ 7 < (a / 10).toInt) : xEv L xs d 48 0 [.ref 0, .int a, xmk] [] (124, I, J, R) (some (.int (-1))) (124, I, J, R) := by
  refine ev_go 1 (pc1 := 1) (lv1 := [.ref 0, .int a, xmk]) (st1 := [.int a]) (h1 := (124, I, J, R)) rfl ?_
  refine ev_br (b1 := true) rfl rfl (xcd_ge (x := a) (y := 0) (by rw [show ((0 : Int32)).toInt = 0 from by decide]; first | exact b1 | omega)) ?_
  refine ev_go 2 (pc1 := 9) (lv1 := [.ref 0, .int a, xmk]) (st1 := [.int 10, .int a]) (h1 := (124, I, J, R)) rfl ?_
  refine ev_go 4 (pc1 := 14) (lv1 := [.ref 0, .int a, .int (a - a / 10 * 10)]) (st1 := [.int 10, .int a]) (h1 := (124, I, J, R)) rfl ?_
  refine ev_go 1 (pc1 := 15) (lv1 := [.ref 0, .int a, .int (a - a / 10 * 10)]) (st1 := [.int (a / 10)]) (h1 := (124, I, J, R)) rfl ?_
  refine ev_tab (x := (a / 10)) (t := 199) rfl rfl b2 rfl ?_
  refine ev_go 1 (pc1 := 200) (lv1 := [.ref 0, .int a, .int (a - a / 10 * 10)]) (st1 := [.int (-1)]) (h1 := (124, I, J, R)) rfl ?_
  exact ev_ret rfl rfl
set_option maxRecDepth 20000 in
theorem so_0_23 {L : Nat} {xs : Nat → Int32} {d : Nat} {I : Nat → Nat → Int32} {J : Nat → Nat → Int64} {R : Nat → Nat → Nat} {a : Int32} (hG : aGd R) (b1 : a.toInt = 0) (r_R_0_8 : R 0 8 = 24) : xEv L xs d 49 0 [.ref 0, .int a] [] (124, I, J, R) (some (.int (I 23 14))) (124, I, J, R) := by
  refine ev_go 1 (pc1 := 1) (lv1 := [.ref 0, .int a]) (st1 := [.int a]) (h1 := (124, I, J, R)) rfl ?_
  refine ev_tk (x := a) (z := 0) (t := 32) rfl rfl b1 (by decide) rfl rfl ?_
  refine ev_go 1 (pc1 := 33) (lv1 := [.ref 0, .int a]) (st1 := [.ref 0]) (h1 := (124, I, J, R)) rfl ?_
  refine ev_gf (c := 0) (t := 23) (X := R 0 8) rfl rfl (fun _ => rfl) rfl r_R_0_8 ?_
  refine ev_go 1 (pc1 := 39) (lv1 := [.ref 0, .int a]) (st1 := [.int (I 23 14)]) (h1 := (124, I, J, R)) rfl ?_
  exact ev_ret rfl rfl
set_option maxRecDepth 20000 in
theorem so_1_23 {L : Nat} {xs : Nat → Int32} {d : Nat} {I : Nat → Nat → Int32} {J : Nat → Nat → Int64} {R : Nat → Nat → Nat} {a : Int32} (hG : aGd R) (b1 : a.toInt = 1) (r_R_0_8 : R 0 8 = 24) : xEv L xs d 49 0 [.ref 0, .int a] [] (124, I, J, R) (some (.int (I 23 15))) (124, I, J, R) := by
  refine ev_go 1 (pc1 := 1) (lv1 := [.ref 0, .int a]) (st1 := [.int a]) (h1 := (124, I, J, R)) rfl ?_
  refine ev_tk (x := a) (z := 1) (t := 40) rfl rfl b1 (by decide) rfl rfl ?_
  refine ev_go 1 (pc1 := 41) (lv1 := [.ref 0, .int a]) (st1 := [.ref 0]) (h1 := (124, I, J, R)) rfl ?_
  refine ev_gf (c := 0) (t := 23) (X := R 0 8) rfl rfl (fun _ => rfl) rfl r_R_0_8 ?_
  refine ev_go 1 (pc1 := 47) (lv1 := [.ref 0, .int a]) (st1 := [.int (I 23 15)]) (h1 := (124, I, J, R)) rfl ?_
  exact ev_ret rfl rfl
set_option maxRecDepth 20000 in
theorem so_2_23 {L : Nat} {xs : Nat → Int32} {d : Nat} {I : Nat → Nat → Int32} {J : Nat → Nat → Int64} {R : Nat → Nat → Nat} {a : Int32} (hG : aGd R) (b1 : a.toInt = 2) (r_R_0_8 : R 0 8 = 24) : xEv L xs d 49 0 [.ref 0, .int a] [] (124, I, J, R) (some (.int (I 23 16))) (124, I, J, R) := by
  refine ev_go 1 (pc1 := 1) (lv1 := [.ref 0, .int a]) (st1 := [.int a]) (h1 := (124, I, J, R)) rfl ?_
  refine ev_tk (x := a) (z := 2) (t := 48) rfl rfl b1 (by decide) rfl rfl ?_
  refine ev_go 1 (pc1 := 49) (lv1 := [.ref 0, .int a]) (st1 := [.ref 0]) (h1 := (124, I, J, R)) rfl ?_
  refine ev_gf (c := 0) (t := 23) (X := R 0 8) rfl rfl (fun _ => rfl) rfl r_R_0_8 ?_
  refine ev_go 1 (pc1 := 55) (lv1 := [.ref 0, .int a]) (st1 := [.int (I 23 16)]) (h1 := (124, I, J, R)) rfl ?_
  exact ev_ret rfl rfl
set_option maxRecDepth 20000 in
theorem so_3_23 {L : Nat} {xs : Nat → Int32} {d : Nat} {I : Nat → Nat → Int32} {J : Nat → Nat → Int64} {R : Nat → Nat → Nat} {a : Int32} (hG : aGd R) (b1 : a.toInt = 3) (r_R_0_8 : R 0 8 = 24) : xEv L xs d 49 0 [.ref 0, .int a] [] (124, I, J, R) (some (.int (I 37 5))) (124, I, J, R) := by
  refine ev_go 1 (pc1 := 1) (lv1 := [.ref 0, .int a]) (st1 := [.int a]) (h1 := (124, I, J, R)) rfl ?_
  refine ev_tk (x := a) (z := 3) (t := 56) rfl rfl b1 (by decide) rfl rfl ?_
  refine ev_go 1 (pc1 := 57) (lv1 := [.ref 0, .int a]) (st1 := [.ref 0]) (h1 := (124, I, J, R)) rfl ?_
  refine ev_gf (c := 0) (t := 23) (X := R 0 8) rfl rfl (fun _ => rfl) rfl r_R_0_8 ?_
  refine ev_gf (c := 23) (t := 37) (X := R 23 13) rfl rfl (fun _ => rfl) rfl (hG 23 13 37 rfl rfl) ?_
  refine ev_go 1 (pc1 := 66) (lv1 := [.ref 0, .int a]) (st1 := [.int (I 37 5)]) (h1 := (124, I, J, R)) rfl ?_
  exact ev_ret rfl rfl
set_option maxRecDepth 20000 in
theorem so_d_23 {L : Nat} {xs : Nat → Int32} {d : Nat} {I : Nat → Nat → Int32} {J : Nat → Nat → Int64} {R : Nat → Nat → Nat} {a : Int32} (hG : aGd R) (b1 : a.toInt < 0 ∨ 3 < a.toInt) : xEv L xs d 49 0 [.ref 0, .int a] [] (124, I, J, R) (some (.int (-1))) (124, I, J, R) := by
  refine ev_go 1 (pc1 := 1) (lv1 := [.ref 0, .int a]) (st1 := [.int a]) (h1 := (124, I, J, R)) rfl ?_
  refine ev_tab (x := a) (t := 67) rfl rfl b1 rfl ?_
  refine ev_go 1 (pc1 := 68) (lv1 := [.ref 0, .int a]) (st1 := [.int (-1)]) (h1 := (124, I, J, R)) rfl ?_
  exact ev_ret rfl rfl
theorem tol_23 {L : Nat} {xs : Nat → Int32} {d : Nat} {I : Nat → Nat → Int32} {J : Nat → Nat → Int64} {R : Nat → Nat → Nat} {d' : Nat} (hG : aGd R) (h8 : R 0 8 = 24) {np nm nn : Nat} {l : List (Nat × Nat)} (hV : VR_23 np nm nn l I I) (a : Int32) : ∃ r : Int32, xEv L xs (d + 2) 48 0 [.ref 0, .int a, xmk] [] (124, I, J, R) (some (.int r)) (124, I, J, R) ∧ xEv L xs (d' + 2) 166 0 [.ref 86, .int a, xmk] [] (124, I, J, R) (some (.int r)) (124, I, J, R) := by
  obtain ⟨⟨p1, p2, p3⟩, p4, p5, p6, ⟨q1, q2⟩, ⟨q3, q4⟩, ⟨q5, q6⟩, q7, q8, q9, ⟨q10, q11⟩, q12, -⟩ := hV
  have e0 : (0 : Int32).toInt = 0 := by decide
  have e3 : (3 : Int32).toInt = 3 := by decide
  have e10 : (10 : Int32).toInt = 10 := by decide
  have e29 : (29 : Int32).toInt = 29 := by decide
  have e30 : (30 : Int32).toInt = 30 := by decide
  have e79 : (79 : Int32).toInt = 79 := by decide
  have i0 := in_ex (L := L) (xs := xs) (d := d' + 1) (I := I) (J := J) hG a 0 3
  have i1 := in_ex (L := L) (xs := xs) (d := d' + 1) (I := I) (J := J) hG a 10 29
  have i2 := in_ex (L := L) (xs := xs) (d := d' + 1) (I := I) (J := J) hG a 30 79
  rw [e0, e3] at i0
  rw [e10, e29] at i1
  rw [e30, e79] at i2
  by_cases hneg : a.toInt < 0
  · exact ⟨-1, td_n_23 hG hneg, tm_f hG (i0.resolve_left (fun z => by have := z.1; omega)).2 (i1.resolve_left (fun z => by have := z.1; omega)).2 (i2.resolve_left (fun z => by have := z.1; omega)).2⟩
  obtain ⟨z, hz⟩ := Int.eq_ofNat_of_zero_le (show 0 ≤ a.toInt by omega)
  obtain ⟨hd, hr⟩ := dv10 (a := a) (z := z) hz
  have ec := clamp_s (i := a) (by omega)
  have ekz : a.toNatClampNeg = z := by omega
  have ecr := clamp_s (i := a - a / 10 * 10) (by omega)
  have ekr : (a - a / 10 * 10).toNatClampNeg = z % 10 := by omega
  by_cases h3 : z ≤ 3
  · have j0 := (i0.resolve_right (fun y => by have := y.1; omega)).2
    have hz4 : z = 0 ∨ z = 1 ∨ z = 2 ∨ z = 3 := by omega
    rcases hz4 with rfl | rfl | rfl | rfl
    · have t := tm_b (L := L) (xs := xs) (d := d' + 1) (J := J) hG j0 (by omega) (by omega) (by omega)
      rw [ekz, show I 88 0 = I 23 14 from Int32.toInt_inj.mp (by omega)] at t
      exact ⟨_, td_0_23 hG (by omega) (by rw [hd]; rfl) (so_0_23 hG (by rw [hr]; rfl) h8), t⟩
    · have t := tm_b (L := L) (xs := xs) (d := d' + 1) (J := J) hG j0 (by omega) (by omega) (by omega)
      rw [ekz, show I 88 1 = I 23 15 from Int32.toInt_inj.mp (by omega)] at t
      exact ⟨_, td_0_23 hG (by omega) (by rw [hd]; rfl) (so_1_23 hG (by rw [hr]; rfl) h8), t⟩
    · have t := tm_b (L := L) (xs := xs) (d := d' + 1) (J := J) hG j0 (by omega) (by omega) (by omega)
      rw [ekz, show I 88 2 = I 23 16 from Int32.toInt_inj.mp (by omega)] at t
      exact ⟨_, td_0_23 hG (by omega) (by rw [hd]; rfl) (so_2_23 hG (by rw [hr]; rfl) h8), t⟩
    · have t := tm_a (L := L) (xs := xs) (d := d' + 1) (J := J) hG j0 (by omega)
      rw [show I 86 26 = I 37 5 from Int32.toInt_inj.mp (by omega)] at t
      exact ⟨_, td_0_23 hG (by omega) (by rw [hd]; rfl) (so_3_23 hG (by rw [hr]; rfl) h8), t⟩
  have j0 := (i0.resolve_left (fun y => by have := y.1; omega)).2
  by_cases h10 : z < 10
  · exact ⟨-1, td_0_23 hG (by omega) (by rw [hd]; omega) (so_d_23 hG (by rw [hr]; omega)), tm_f hG j0 (i1.resolve_left (fun y => by have := y.1; omega)).2 (i2.resolve_left (fun y => by have := y.1; omega)).2⟩
  by_cases h30 : z < 30
  · have j1 := (i1.resolve_right (fun y => by have := y.1; omega)).2
    have hp := ip_run (L := L) (xs := xs) (d := d') (I := I) (J := J) hG q2 (a - a / 10 * 10)
    by_cases hk : z % 10 < np
    · have c2 := (hp.resolve_right (fun y => by have := y.1; omega)).2
      by_cases h20 : z < 20
      · have t := tm_d (L := L) (xs := xs) (d := d' + 1) (J := J) hG j0 j1 c2 (by omega) (by omega) (by omega)
        have u := en_run (L := L) (xs := xs) (d := d) (I := I) (J := J) (R := R) (c := 25) (n := 7) (fun _ => rfl) (by decide) (I 23 14) (a - a / 10 * 10)
        rw [if_pos ⟨by omega, by omega⟩, if_pos ⟨by omega, by omega⟩, ekr] at u
        rw [ekr, ← (q7 _ hk).1] at t
        exact ⟨_, td_1_23 hG (by omega) (by rw [hd]; omega) h8 u, t⟩
      · have t := tm_e (L := L) (xs := xs) (d := d' + 1) (J := J) hG j0 j1 c2 (by omega) (by omega) (by omega)
        have u := en_run (L := L) (xs := xs) (d := d) (I := I) (J := J) (R := R) (c := 26) (n := 7) (fun _ => rfl) (by decide) (I 23 14) (a - a / 10 * 10)
        rw [if_pos ⟨by omega, by omega⟩, if_pos ⟨by omega, by omega⟩, ekr] at u
        rw [ekr, ← (q7 _ hk).2] at t
        exact ⟨_, td_2_23 hG (by omega) (by rw [hd]; omega) h8 u, t⟩
    · have c2 := (hp.resolve_left (fun y => by have := y.1; omega)).2
      have t := tm_c (L := L) (xs := xs) (d := d' + 1) (J := J) hG j0 j1 c2
      by_cases h20 : z < 20
      · have u := en_run (L := L) (xs := xs) (d := d) (I := I) (J := J) (R := R) (c := 25) (n := 7) (fun _ => rfl) (by decide) (I 23 14) (a - a / 10 * 10)
        rw [if_neg (by omega)] at u
        exact ⟨_, td_1_23 hG (by omega) (by rw [hd]; omega) h8 u, t⟩
      · have u := en_run (L := L) (xs := xs) (d := d) (I := I) (J := J) (R := R) (c := 26) (n := 7) (fun _ => rfl) (by decide) (I 23 14) (a - a / 10 * 10)
        rw [if_neg (by omega)] at u
        exact ⟨_, td_2_23 hG (by omega) (by rw [hd]; omega) h8 u, t⟩
  have j1 := (i1.resolve_left (fun y => by have := y.1; omega)).2
  by_cases h80 : 80 ≤ z
  · exact ⟨-1, td_d_23 hG (by omega) (Or.inr (by rw [hd]; omega)), tm_f hG j0 j1 (i2.resolve_left (fun y => by have := y.1; omega)).2⟩
  have j2 := (i2.resolve_right (fun y => by have := y.1; omega)).2
  have hq := ie_run (L := L) (xs := xs) (d := d') (I := I) (J := J) hG q6 (a - a / 10 * 10)
  have hz5 : z / 10 = 3 ∨ z / 10 = 4 ∨ z / 10 = 5 ∨ z / 10 = 6 ∨ z / 10 = 7 := by omega
  by_cases hk : z % 10 < nn
  · have c2 := (hq.resolve_right (fun y => by have := y.1; omega)).2
    obtain ⟨w1, w2, w3, w4, w5, -⟩ := q9 _ hk
    rcases hz5 with h5 | h5 | h5 | h5 | h5
    · have t := tm_3 (L := L) (xs := xs) (d := d' + 1) (J := J) hG j0 j1 j2 c2 (by rw [hd]; omega) (by omega) (by omega)
      have u := en_run (L := L) (xs := xs) (d := d) (I := I) (J := J) (R := R) (c := 31) (n := 4) (fun _ => rfl) (by decide) (I 23 16) (a - a / 10 * 10)
      rw [if_pos ⟨by omega, by omega⟩, if_pos ⟨by omega, by omega⟩, ekr] at u
      rw [ekr, ← w1] at t
      exact ⟨_, td_3_23 hG (by omega) (by rw [hd]; omega) h8 u, t⟩
    · have t := tm_4 (L := L) (xs := xs) (d := d' + 1) (J := J) hG j0 j1 j2 c2 (by rw [hd]; omega) (by omega) (by omega)
      have u := en_run (L := L) (xs := xs) (d := d) (I := I) (J := J) (R := R) (c := 32) (n := 4) (fun _ => rfl) (by decide) (I 23 16) (a - a / 10 * 10)
      rw [if_pos ⟨by omega, by omega⟩, if_pos ⟨by omega, by omega⟩, ekr] at u
      rw [ekr, ← w2] at t
      exact ⟨_, td_4_23 hG (by omega) (by rw [hd]; omega) h8 u, t⟩
    · have t := tm_5 (L := L) (xs := xs) (d := d' + 1) (J := J) hG j0 j1 j2 c2 (by rw [hd]; omega) (by omega) (by omega)
      have u := en_run (L := L) (xs := xs) (d := d) (I := I) (J := J) (R := R) (c := 33) (n := 4) (fun _ => rfl) (by decide) (I 23 16) (a - a / 10 * 10)
      rw [if_pos ⟨by omega, by omega⟩, if_pos ⟨by omega, by omega⟩, ekr] at u
      rw [ekr, ← w3] at t
      exact ⟨_, td_5_23 hG (by omega) (by rw [hd]; omega) h8 u, t⟩
    · have t := tm_6 (L := L) (xs := xs) (d := d' + 1) (J := J) hG j0 j1 j2 c2 (by rw [hd]; omega) (by omega) (by omega)
      have u := en_run (L := L) (xs := xs) (d := d) (I := I) (J := J) (R := R) (c := 34) (n := 4) (fun _ => rfl) (by decide) (I 23 16) (a - a / 10 * 10)
      rw [if_pos ⟨by omega, by omega⟩, if_pos ⟨by omega, by omega⟩, ekr] at u
      rw [ekr, ← w4] at t
      exact ⟨_, td_6_23 hG (by omega) (by rw [hd]; omega) h8 u, t⟩
    · have t := tm_7 (L := L) (xs := xs) (d := d' + 1) (J := J) hG j0 j1 j2 c2 (Or.inr (by rw [hd]; omega)) (by omega) (by omega)
      have u := en_run (L := L) (xs := xs) (d := d) (I := I) (J := J) (R := R) (c := 35) (n := 4) (fun _ => rfl) (by decide) (I 23 16) (a - a / 10 * 10)
      rw [if_pos ⟨by omega, by omega⟩, if_pos ⟨by omega, by omega⟩, ekr] at u
      rw [ekr, ← w5] at t
      exact ⟨_, td_7_23 hG (by omega) (by rw [hd]; omega) h8 u, t⟩
  · have c2 := (hq.resolve_left (fun y => by have := y.1; omega)).2
    have t := tm_g (L := L) (xs := xs) (d := d' + 1) (J := J) hG j0 j1 j2 c2
    rcases hz5 with h5 | h5 | h5 | h5 | h5
    · have u := en_run (L := L) (xs := xs) (d := d) (I := I) (J := J) (R := R) (c := 31) (n := 4) (fun _ => rfl) (by decide) (I 23 16) (a - a / 10 * 10)
      rw [if_neg (by omega)] at u
      exact ⟨_, td_3_23 hG (by omega) (by rw [hd]; omega) h8 u, t⟩
    · have u := en_run (L := L) (xs := xs) (d := d) (I := I) (J := J) (R := R) (c := 32) (n := 4) (fun _ => rfl) (by decide) (I 23 16) (a - a / 10 * 10)
      rw [if_neg (by omega)] at u
      exact ⟨_, td_4_23 hG (by omega) (by rw [hd]; omega) h8 u, t⟩
    · have u := en_run (L := L) (xs := xs) (d := d) (I := I) (J := J) (R := R) (c := 33) (n := 4) (fun _ => rfl) (by decide) (I 23 16) (a - a / 10 * 10)
      rw [if_neg (by omega)] at u
      exact ⟨_, td_5_23 hG (by omega) (by rw [hd]; omega) h8 u, t⟩
    · have u := en_run (L := L) (xs := xs) (d := d) (I := I) (J := J) (R := R) (c := 34) (n := 4) (fun _ => rfl) (by decide) (I 23 16) (a - a / 10 * 10)
      rw [if_neg (by omega)] at u
      exact ⟨_, td_6_23 hG (by omega) (by rw [hd]; omega) h8 u, t⟩
    · have u := en_run (L := L) (xs := xs) (d := d) (I := I) (J := J) (R := R) (c := 35) (n := 4) (fun _ => rfl) (by decide) (I 23 16) (a - a / 10 * 10)
      rw [if_neg (by omega)] at u
      exact ⟨_, td_7_23 hG (by omega) (by rw [hd]; omega) h8 u, t⟩
set_option maxRecDepth 20000 in
theorem mm_x {L : Nat} {xs : Nat → Int32} {d : Nat} {I : Nat → Nat → Int32} {J : Nat → Nat → Int64} {R : Nat → Nat → Nat} {a b : Int32} (hG : aGd R) (c1 : xEv L xs d 160 0 [.int a, .int 0, .int ((I 88 1) - 1)] [] (124, I, J, R) (some (.int 0)) (124, I, J, R)) : xEv L xs (d + 1) 169 0 [.ref 86, .int a, .int b] [] (124, I, J, R) (some (.int (-2))) (124, I, J, R) := by
  refine ev_go 3 (pc1 := 3) (lv1 := [.ref 86, .int a, .int b]) (st1 := [.ref 86, .int 0, .int a]) (h1 := (124, I, J, R)) rfl ?_
  refine ev_gf (c := 86) (t := 88) (X := R 86 12) rfl rfl (fun _ => rfl) rfl (hG 86 12 88 rfl rfl) ?_
  refine ev_go 4 (pc1 := 10) (lv1 := [.ref 86, .int a, .int b]) (st1 := [.int ((I 88 1) - 1), .int 0, .int a]) (h1 := (124, I, J, R)) rfl ?_
  refine ev_call (v1 := (some (.int 0))) (h1 := (124, I, J, R)) rfl rfl c1 ?_
  refine ev_go 2 (pc1 := 27) (lv1 := [.ref 86, .int a, .int b]) (st1 := [.int (-2)]) (h1 := (124, I, J, R)) rfl ?_
  exact ev_ret rfl rfl
set_option maxRecDepth 20000 in
theorem mm_y {L : Nat} {xs : Nat → Int32} {d : Nat} {I : Nat → Nat → Int32} {J : Nat → Nat → Int64} {R : Nat → Nat → Nat} {a b : Int32} (hG : aGd R) (c1 : xEv L xs d 160 0 [.int a, .int 0, .int ((I 88 1) - 1)] [] (124, I, J, R) (some (.int 1)) (124, I, J, R)) (c2 : xEv L xs d 160 0 [.int b, .int 0, .int 3] [] (124, I, J, R) (some (.int 0)) (124, I, J, R)) : xEv L xs (d + 1) 169 0 [.ref 86, .int a, .int b] [] (124, I, J, R) (some (.int (-2))) (124, I, J, R) := by
  refine ev_go 3 (pc1 := 3) (lv1 := [.ref 86, .int a, .int b]) (st1 := [.ref 86, .int 0, .int a]) (h1 := (124, I, J, R)) rfl ?_
  refine ev_gf (c := 86) (t := 88) (X := R 86 12) rfl rfl (fun _ => rfl) rfl (hG 86 12 88 rfl rfl) ?_
  refine ev_go 4 (pc1 := 10) (lv1 := [.ref 86, .int a, .int b]) (st1 := [.int ((I 88 1) - 1), .int 0, .int a]) (h1 := (124, I, J, R)) rfl ?_
  refine ev_call (v1 := (some (.int 1))) (h1 := (124, I, J, R)) rfl rfl c1 ?_
  refine ev_go 4 (pc1 := 19) (lv1 := [.ref 86, .int a, .int b]) (st1 := [.int 3, .int 0, .int b]) (h1 := (124, I, J, R)) rfl ?_
  refine ev_call (v1 := (some (.int 0))) (h1 := (124, I, J, R)) rfl rfl c2 ?_
  refine ev_go 2 (pc1 := 27) (lv1 := [.ref 86, .int a, .int b]) (st1 := [.int (-2)]) (h1 := (124, I, J, R)) rfl ?_
  exact ev_ret rfl rfl
set_option maxRecDepth 20000 in
theorem mg_0 {L : Nat} {xs : Nat → Int32} {d : Nat} {I : Nat → Nat → Int32} {J : Nat → Nat → Int64} {R : Nat → Nat → Nat} {a b : Int32} (hG : aGd R) (c1 : xEv L xs d 160 0 [.int a, .int 0, .int ((I 88 1) - 1)] [] (124, I, J, R) (some (.int 1)) (124, I, J, R)) (c2 : xEv L xs d 160 0 [.int b, .int 0, .int 3] [] (124, I, J, R) (some (.int 1)) (124, I, J, R)) (b1 : b.toInt = 0) (n1 : 0 ≤ a.toInt) (m1 : a.toInt < 32) : xEv L xs (d + 1) 169 0 [.ref 86, .int a, .int b] [] (124, I, J, R) (some (.int (I 92 a.toNatClampNeg))) (124, I, J, R) := by
  refine ev_go 3 (pc1 := 3) (lv1 := [.ref 86, .int a, .int b]) (st1 := [.ref 86, .int 0, .int a]) (h1 := (124, I, J, R)) rfl ?_
  refine ev_gf (c := 86) (t := 88) (X := R 86 12) rfl rfl (fun _ => rfl) rfl (hG 86 12 88 rfl rfl) ?_
  refine ev_go 4 (pc1 := 10) (lv1 := [.ref 86, .int a, .int b]) (st1 := [.int ((I 88 1) - 1), .int 0, .int a]) (h1 := (124, I, J, R)) rfl ?_
  refine ev_call (v1 := (some (.int 1))) (h1 := (124, I, J, R)) rfl rfl c1 ?_
  refine ev_go 4 (pc1 := 19) (lv1 := [.ref 86, .int a, .int b]) (st1 := [.int 3, .int 0, .int b]) (h1 := (124, I, J, R)) rfl ?_
  refine ev_call (v1 := (some (.int 1))) (h1 := (124, I, J, R)) rfl rfl c2 ?_
  refine ev_go 2 (pc1 := 29) (lv1 := [.ref 86, .int a, .int b]) (st1 := [.int b]) (h1 := (124, I, J, R)) rfl ?_
  refine ev_br (b1 := false) rfl rfl (xcd_nne (x := b) (y := 0) (by rw [show ((0 : Int32)).toInt = 0 from by decide]; first | exact b1 | omega)) ?_
  refine ev_go 1 (pc1 := 33) (lv1 := [.ref 86, .int a, .int b]) (st1 := [.ref 86]) (h1 := (124, I, J, R)) rfl ?_
  refine ev_gf (c := 86) (t := 92) (X := R 86 16) rfl rfl (fun _ => rfl) rfl (hG 86 16 92 rfl rfl) ?_
  refine ev_go 1 (pc1 := 37) (lv1 := [.ref 86, .int a, .int b]) (st1 := [.int a, .ref 92]) (h1 := (124, I, J, R)) rfl ?_
  refine ev_ild (n := 32) rfl rfl (fun _ => rfl) n1 m1 ?_
  refine ev_go 1 (pc1 := 75) (lv1 := [.ref 86, .int a, .int b]) (st1 := [.int (I 92 a.toNatClampNeg)]) (h1 := (124, I, J, R)) rfl ?_
  exact ev_ret rfl rfl
set_option maxRecDepth 20000 in
theorem mg_1 {L : Nat} {xs : Nat → Int32} {d : Nat} {I : Nat → Nat → Int32} {J : Nat → Nat → Int64} {R : Nat → Nat → Nat} {a b : Int32} (hG : aGd R) (c1 : xEv L xs d 160 0 [.int a, .int 0, .int ((I 88 1) - 1)] [] (124, I, J, R) (some (.int 1)) (124, I, J, R)) (c2 : xEv L xs d 160 0 [.int b, .int 0, .int 3] [] (124, I, J, R) (some (.int 1)) (124, I, J, R)) (b1 : b.toInt ≠ 0) (b2 : b.toInt = 1) (n1 : 0 ≤ a.toInt) (m1 : a.toInt < 32) : xEv L xs (d + 1) 169 0 [.ref 86, .int a, .int b] [] (124, I, J, R) (some (.int (I 93 a.toNatClampNeg))) (124, I, J, R) := by
  refine ev_go 3 (pc1 := 3) (lv1 := [.ref 86, .int a, .int b]) (st1 := [.ref 86, .int 0, .int a]) (h1 := (124, I, J, R)) rfl ?_
  refine ev_gf (c := 86) (t := 88) (X := R 86 12) rfl rfl (fun _ => rfl) rfl (hG 86 12 88 rfl rfl) ?_
  refine ev_go 4 (pc1 := 10) (lv1 := [.ref 86, .int a, .int b]) (st1 := [.int ((I 88 1) - 1), .int 0, .int a]) (h1 := (124, I, J, R)) rfl ?_
  refine ev_call (v1 := (some (.int 1))) (h1 := (124, I, J, R)) rfl rfl c1 ?_
  refine ev_go 4 (pc1 := 19) (lv1 := [.ref 86, .int a, .int b]) (st1 := [.int 3, .int 0, .int b]) (h1 := (124, I, J, R)) rfl ?_
  refine ev_call (v1 := (some (.int 1))) (h1 := (124, I, J, R)) rfl rfl c2 ?_
  refine ev_go 2 (pc1 := 29) (lv1 := [.ref 86, .int a, .int b]) (st1 := [.int b]) (h1 := (124, I, J, R)) rfl ?_
  refine ev_br (b1 := true) rfl rfl (xcd_ne (x := b) (y := 0) (by rw [show ((0 : Int32)).toInt = 0 from by decide]; first | exact b1 | omega)) ?_
  refine ev_go 2 (pc1 := 43) (lv1 := [.ref 86, .int a, .int b]) (st1 := [.int 1, .int b]) (h1 := (124, I, J, R)) rfl ?_
  refine ev_br (b1 := false) rfl rfl (xcd_nne (x := b) (y := 1) (by rw [show ((1 : Int32)).toInt = 1 from by decide]; first | exact b2 | omega)) ?_
  refine ev_go 1 (pc1 := 47) (lv1 := [.ref 86, .int a, .int b]) (st1 := [.ref 86]) (h1 := (124, I, J, R)) rfl ?_
  refine ev_gf (c := 86) (t := 93) (X := R 86 17) rfl rfl (fun _ => rfl) rfl (hG 86 17 93 rfl rfl) ?_
  refine ev_go 1 (pc1 := 51) (lv1 := [.ref 86, .int a, .int b]) (st1 := [.int a, .ref 93]) (h1 := (124, I, J, R)) rfl ?_
  refine ev_ild (n := 32) rfl rfl (fun _ => rfl) n1 m1 ?_
  refine ev_go 1 (pc1 := 75) (lv1 := [.ref 86, .int a, .int b]) (st1 := [.int (I 93 a.toNatClampNeg)]) (h1 := (124, I, J, R)) rfl ?_
  exact ev_ret rfl rfl
set_option maxRecDepth 20000 in
theorem mg_2 {L : Nat} {xs : Nat → Int32} {d : Nat} {I : Nat → Nat → Int32} {J : Nat → Nat → Int64} {R : Nat → Nat → Nat} {a b : Int32} (hG : aGd R) (c1 : xEv L xs d 160 0 [.int a, .int 0, .int ((I 88 1) - 1)] [] (124, I, J, R) (some (.int 1)) (124, I, J, R)) (c2 : xEv L xs d 160 0 [.int b, .int 0, .int 3] [] (124, I, J, R) (some (.int 1)) (124, I, J, R)) (b1 : b.toInt ≠ 0) (b2 : b.toInt ≠ 1) (b3 : b.toInt = 2) (n1 : 0 ≤ a.toInt) (m1 : a.toInt < 32) : xEv L xs (d + 1) 169 0 [.ref 86, .int a, .int b] [] (124, I, J, R) (some (.int (I 94 a.toNatClampNeg))) (124, I, J, R) := by
  refine ev_go 3 (pc1 := 3) (lv1 := [.ref 86, .int a, .int b]) (st1 := [.ref 86, .int 0, .int a]) (h1 := (124, I, J, R)) rfl ?_
  refine ev_gf (c := 86) (t := 88) (X := R 86 12) rfl rfl (fun _ => rfl) rfl (hG 86 12 88 rfl rfl) ?_
  refine ev_go 4 (pc1 := 10) (lv1 := [.ref 86, .int a, .int b]) (st1 := [.int ((I 88 1) - 1), .int 0, .int a]) (h1 := (124, I, J, R)) rfl ?_
  refine ev_call (v1 := (some (.int 1))) (h1 := (124, I, J, R)) rfl rfl c1 ?_
  refine ev_go 4 (pc1 := 19) (lv1 := [.ref 86, .int a, .int b]) (st1 := [.int 3, .int 0, .int b]) (h1 := (124, I, J, R)) rfl ?_
  refine ev_call (v1 := (some (.int 1))) (h1 := (124, I, J, R)) rfl rfl c2 ?_
  refine ev_go 2 (pc1 := 29) (lv1 := [.ref 86, .int a, .int b]) (st1 := [.int b]) (h1 := (124, I, J, R)) rfl ?_
  refine ev_br (b1 := true) rfl rfl (xcd_ne (x := b) (y := 0) (by rw [show ((0 : Int32)).toInt = 0 from by decide]; first | exact b1 | omega)) ?_
  refine ev_go 2 (pc1 := 43) (lv1 := [.ref 86, .int a, .int b]) (st1 := [.int 1, .int b]) (h1 := (124, I, J, R)) rfl ?_
  refine ev_br (b1 := true) rfl rfl (xcd_ne (x := b) (y := 1) (by rw [show ((1 : Int32)).toInt = 1 from by decide]; first | exact b2 | omega)) ?_
  refine ev_go 2 (pc1 := 57) (lv1 := [.ref 86, .int a, .int b]) (st1 := [.int 2, .int b]) (h1 := (124, I, J, R)) rfl ?_
  refine ev_br (b1 := false) rfl rfl (xcd_nne (x := b) (y := 2) (by rw [show ((2 : Int32)).toInt = 2 from by decide]; first | exact b3 | omega)) ?_
  refine ev_go 1 (pc1 := 61) (lv1 := [.ref 86, .int a, .int b]) (st1 := [.ref 86]) (h1 := (124, I, J, R)) rfl ?_
  refine ev_gf (c := 86) (t := 94) (X := R 86 18) rfl rfl (fun _ => rfl) rfl (hG 86 18 94 rfl rfl) ?_
  refine ev_go 1 (pc1 := 65) (lv1 := [.ref 86, .int a, .int b]) (st1 := [.int a, .ref 94]) (h1 := (124, I, J, R)) rfl ?_
  refine ev_ild (n := 32) rfl rfl (fun _ => rfl) n1 m1 ?_
  refine ev_go 1 (pc1 := 75) (lv1 := [.ref 86, .int a, .int b]) (st1 := [.int (I 94 a.toNatClampNeg)]) (h1 := (124, I, J, R)) rfl ?_
  exact ev_ret rfl rfl
set_option maxRecDepth 20000 in
theorem mg_3 {L : Nat} {xs : Nat → Int32} {d : Nat} {I : Nat → Nat → Int32} {J : Nat → Nat → Int64} {R : Nat → Nat → Nat} {a b : Int32} (hG : aGd R) (c1 : xEv L xs d 160 0 [.int a, .int 0, .int ((I 88 1) - 1)] [] (124, I, J, R) (some (.int 1)) (124, I, J, R)) (c2 : xEv L xs d 160 0 [.int b, .int 0, .int 3] [] (124, I, J, R) (some (.int 1)) (124, I, J, R)) (b1 : b.toInt ≠ 0) (b2 : b.toInt ≠ 1) (b3 : b.toInt ≠ 2) (n1 : 0 ≤ a.toInt) (m1 : a.toInt < 32) : xEv L xs (d + 1) 169 0 [.ref 86, .int a, .int b] [] (124, I, J, R) (some (.int (I 95 a.toNatClampNeg))) (124, I, J, R) := by
  refine ev_go 3 (pc1 := 3) (lv1 := [.ref 86, .int a, .int b]) (st1 := [.ref 86, .int 0, .int a]) (h1 := (124, I, J, R)) rfl ?_
  refine ev_gf (c := 86) (t := 88) (X := R 86 12) rfl rfl (fun _ => rfl) rfl (hG 86 12 88 rfl rfl) ?_
  refine ev_go 4 (pc1 := 10) (lv1 := [.ref 86, .int a, .int b]) (st1 := [.int ((I 88 1) - 1), .int 0, .int a]) (h1 := (124, I, J, R)) rfl ?_
  refine ev_call (v1 := (some (.int 1))) (h1 := (124, I, J, R)) rfl rfl c1 ?_
  refine ev_go 4 (pc1 := 19) (lv1 := [.ref 86, .int a, .int b]) (st1 := [.int 3, .int 0, .int b]) (h1 := (124, I, J, R)) rfl ?_
  refine ev_call (v1 := (some (.int 1))) (h1 := (124, I, J, R)) rfl rfl c2 ?_
  refine ev_go 2 (pc1 := 29) (lv1 := [.ref 86, .int a, .int b]) (st1 := [.int b]) (h1 := (124, I, J, R)) rfl ?_
  refine ev_br (b1 := true) rfl rfl (xcd_ne (x := b) (y := 0) (by rw [show ((0 : Int32)).toInt = 0 from by decide]; first | exact b1 | omega)) ?_
  refine ev_go 2 (pc1 := 43) (lv1 := [.ref 86, .int a, .int b]) (st1 := [.int 1, .int b]) (h1 := (124, I, J, R)) rfl ?_
  refine ev_br (b1 := true) rfl rfl (xcd_ne (x := b) (y := 1) (by rw [show ((1 : Int32)).toInt = 1 from by decide]; first | exact b2 | omega)) ?_
  refine ev_go 2 (pc1 := 57) (lv1 := [.ref 86, .int a, .int b]) (st1 := [.int 2, .int b]) (h1 := (124, I, J, R)) rfl ?_
  refine ev_br (b1 := true) rfl rfl (xcd_ne (x := b) (y := 2) (by rw [show ((2 : Int32)).toInt = 2 from by decide]; first | exact b3 | omega)) ?_
  refine ev_go 1 (pc1 := 70) (lv1 := [.ref 86, .int a, .int b]) (st1 := [.ref 86]) (h1 := (124, I, J, R)) rfl ?_
  refine ev_gf (c := 86) (t := 95) (X := R 86 19) rfl rfl (fun _ => rfl) rfl (hG 86 19 95 rfl rfl) ?_
  refine ev_go 1 (pc1 := 74) (lv1 := [.ref 86, .int a, .int b]) (st1 := [.int a, .ref 95]) (h1 := (124, I, J, R)) rfl ?_
  refine ev_ild (n := 32) rfl rfl (fun _ => rfl) n1 m1 ?_
  exact ev_ret rfl rfl
set_option maxRecDepth 20000 in
theorem tt_x {L : Nat} {xs : Nat → Int32} {d : Nat} {I : Nat → Nat → Int32} {J : Nat → Nat → Int64} {R : Nat → Nat → Nat} {a b : Int32} (hG : aGd R) (c1 : xEv L xs d 171 0 [.ref 86, .int a] [] (124, I, J, R) (some (.int 0)) (124, I, J, R)) : xEv L xs (d + 1) 170 0 [.ref 86, .int a, .int b] [] (124, I, J, R) (some (.int (-2))) (124, I, J, R) := by
  refine ev_go 2 (pc1 := 2) (lv1 := [.ref 86, .int a, .int b]) (st1 := [.int a, .ref 86]) (h1 := (124, I, J, R)) rfl ?_
  refine ev_call (v1 := (some (.int 0))) (h1 := (124, I, J, R)) rfl rfl c1 ?_
  refine ev_go 2 (pc1 := 41) (lv1 := [.ref 86, .int a, .int b]) (st1 := [.int (-2)]) (h1 := (124, I, J, R)) rfl ?_
  exact ev_ret rfl rfl
set_option maxRecDepth 20000 in
theorem tt_y {L : Nat} {xs : Nat → Int32} {d : Nat} {I : Nat → Nat → Int32} {J : Nat → Nat → Int64} {R : Nat → Nat → Nat} {a b : Int32} (hG : aGd R) (c1 : xEv L xs d 171 0 [.ref 86, .int a] [] (124, I, J, R) (some (.int 1)) (124, I, J, R)) (c2 : xEv L xs d 160 0 [.int b, .int 0, .int 1] [] (124, I, J, R) (some (.int 0)) (124, I, J, R)) : xEv L xs (d + 1) 170 0 [.ref 86, .int a, .int b] [] (124, I, J, R) (some (.int (-2))) (124, I, J, R) := by
  refine ev_go 2 (pc1 := 2) (lv1 := [.ref 86, .int a, .int b]) (st1 := [.int a, .ref 86]) (h1 := (124, I, J, R)) rfl ?_
  refine ev_call (v1 := (some (.int 1))) (h1 := (124, I, J, R)) rfl rfl c1 ?_
  refine ev_go 4 (pc1 := 11) (lv1 := [.ref 86, .int a, .int b]) (st1 := [.int 1, .int 0, .int b]) (h1 := (124, I, J, R)) rfl ?_
  refine ev_call (v1 := (some (.int 0))) (h1 := (124, I, J, R)) rfl rfl c2 ?_
  refine ev_go 2 (pc1 := 41) (lv1 := [.ref 86, .int a, .int b]) (st1 := [.int (-2)]) (h1 := (124, I, J, R)) rfl ?_
  exact ev_ret rfl rfl
set_option maxRecDepth 20000 in
theorem tq_0 {L : Nat} {xs : Nat → Int32} {d : Nat} {I : Nat → Nat → Int32} {J : Nat → Nat → Int64} {R : Nat → Nat → Nat} {a b : Int32} (hG : aGd R) (c1 : xEv L xs d 171 0 [.ref 86, .int a] [] (124, I, J, R) (some (.int 1)) (124, I, J, R)) (c2 : xEv L xs d 160 0 [.int b, .int 0, .int 1] [] (124, I, J, R) (some (.int 1)) (124, I, J, R)) (b1 : b.toInt = 0) (n1 : 0 ≤ a.toInt) (m1 : a.toInt < 64) : xEv L xs (d + 1) 170 0 [.ref 86, .int a, .int b] [] (124, I, J, R) (some (.int (I 102 a.toNatClampNeg))) (124, I, J, R) := by
  refine ev_go 2 (pc1 := 2) (lv1 := [.ref 86, .int a, .int b]) (st1 := [.int a, .ref 86]) (h1 := (124, I, J, R)) rfl ?_
  refine ev_call (v1 := (some (.int 1))) (h1 := (124, I, J, R)) rfl rfl c1 ?_
  refine ev_go 4 (pc1 := 11) (lv1 := [.ref 86, .int a, .int b]) (st1 := [.int 1, .int 0, .int b]) (h1 := (124, I, J, R)) rfl ?_
  refine ev_call (v1 := (some (.int 1))) (h1 := (124, I, J, R)) rfl rfl c2 ?_
  refine ev_go 2 (pc1 := 18) (lv1 := [.ref 86, .int a, .int b]) (st1 := [.int b]) (h1 := (124, I, J, R)) rfl ?_
  refine ev_br (b1 := false) rfl rfl (xcd_nne (x := b) (y := 0) (by rw [show ((0 : Int32)).toInt = 0 from by decide]; first | exact b1 | omega)) ?_
  refine ev_go 1 (pc1 := 22) (lv1 := [.ref 86, .int a, .int b]) (st1 := [.ref 86]) (h1 := (124, I, J, R)) rfl ?_
  refine ev_gf (c := 86) (t := 102) (X := R 86 28) rfl rfl (fun _ => rfl) rfl (hG 86 28 102 rfl rfl) ?_
  refine ev_go 1 (pc1 := 26) (lv1 := [.ref 86, .int a, .int b]) (st1 := [.int a, .ref 102]) (h1 := (124, I, J, R)) rfl ?_
  refine ev_ild (n := 64) rfl rfl (fun _ => rfl) n1 m1 ?_
  refine ev_go 1 (pc1 := 41) (lv1 := [.ref 86, .int a, .int b]) (st1 := [.int (I 102 a.toNatClampNeg)]) (h1 := (124, I, J, R)) rfl ?_
  exact ev_ret rfl rfl
set_option maxRecDepth 20000 in
theorem tq_1 {L : Nat} {xs : Nat → Int32} {d : Nat} {I : Nat → Nat → Int32} {J : Nat → Nat → Int64} {R : Nat → Nat → Nat} {a b : Int32} (hG : aGd R) (c1 : xEv L xs d 171 0 [.ref 86, .int a] [] (124, I, J, R) (some (.int 1)) (124, I, J, R)) (c2 : xEv L xs d 160 0 [.int b, .int 0, .int 1] [] (124, I, J, R) (some (.int 1)) (124, I, J, R)) (b1 : b.toInt ≠ 0) (n1 : 0 ≤ a.toInt) (m1 : a.toInt < 64) : xEv L xs (d + 1) 170 0 [.ref 86, .int a, .int b] [] (124, I, J, R) (some (.int (I 101 a.toNatClampNeg))) (124, I, J, R) := by
  refine ev_go 2 (pc1 := 2) (lv1 := [.ref 86, .int a, .int b]) (st1 := [.int a, .ref 86]) (h1 := (124, I, J, R)) rfl ?_
  refine ev_call (v1 := (some (.int 1))) (h1 := (124, I, J, R)) rfl rfl c1 ?_
  refine ev_go 4 (pc1 := 11) (lv1 := [.ref 86, .int a, .int b]) (st1 := [.int 1, .int 0, .int b]) (h1 := (124, I, J, R)) rfl ?_
  refine ev_call (v1 := (some (.int 1))) (h1 := (124, I, J, R)) rfl rfl c2 ?_
  refine ev_go 2 (pc1 := 18) (lv1 := [.ref 86, .int a, .int b]) (st1 := [.int b]) (h1 := (124, I, J, R)) rfl ?_
  refine ev_br (b1 := true) rfl rfl (xcd_ne (x := b) (y := 0) (by rw [show ((0 : Int32)).toInt = 0 from by decide]; first | exact b1 | omega)) ?_
  refine ev_go 1 (pc1 := 31) (lv1 := [.ref 86, .int a, .int b]) (st1 := [.ref 86]) (h1 := (124, I, J, R)) rfl ?_
  refine ev_gf (c := 86) (t := 101) (X := R 86 27) rfl rfl (fun _ => rfl) rfl (hG 86 27 101 rfl rfl) ?_
  refine ev_go 1 (pc1 := 35) (lv1 := [.ref 86, .int a, .int b]) (st1 := [.int a, .ref 101]) (h1 := (124, I, J, R)) rfl ?_
  refine ev_ild (n := 64) rfl rfl (fun _ => rfl) n1 m1 ?_
  refine ev_go 1 (pc1 := 41) (lv1 := [.ref 86, .int a, .int b]) (st1 := [.int (I 101 a.toNatClampNeg)]) (h1 := (124, I, J, R)) rfl ?_
  exact ev_ret rfl rfl
set_option maxRecDepth 20000 in
theorem ct_0 {L : Nat} {xs : Nat → Int32} {d : Nat} {I : Nat → Nat → Int32} {J : Nat → Nat → Int64} {R : Nat → Nat → Nat} {a : Int32} (hG : aGd R) (b1 : a.toInt = 0) : xEv L xs d 236 0 [.ref 86, .int a] [] (124, I, J, R) (some (.int (I 86 25))) (124, I, J, R) := by
  refine ev_go 1 (pc1 := 1) (lv1 := [.ref 86, .int a]) (st1 := [.int a]) (h1 := (124, I, J, R)) rfl ?_
  refine ev_br (b1 := false) rfl rfl (xcd_nne (x := a) (y := 0) (by rw [show ((0 : Int32)).toInt = 0 from by decide]; first | exact b1 | omega)) ?_
  refine ev_go 3 (pc1 := 24) (lv1 := [.ref 86, .int a]) (st1 := [.int (I 86 25)]) (h1 := (124, I, J, R)) rfl ?_
  exact ev_ret rfl rfl
set_option maxRecDepth 20000 in
theorem ct_1 {L : Nat} {xs : Nat → Int32} {d : Nat} {I : Nat → Nat → Int32} {J : Nat → Nat → Int64} {R : Nat → Nat → Nat} {a : Int32} (hG : aGd R) (b1 : a.toInt ≠ 0) (b2 : a.toInt = 1) : xEv L xs d 236 0 [.ref 86, .int a] [] (124, I, J, R) (some (.int (I 86 1))) (124, I, J, R) := by
  refine ev_go 1 (pc1 := 1) (lv1 := [.ref 86, .int a]) (st1 := [.int a]) (h1 := (124, I, J, R)) rfl ?_
  refine ev_br (b1 := true) rfl rfl (xcd_ne (x := a) (y := 0) (by rw [show ((0 : Int32)).toInt = 0 from by decide]; first | exact b1 | omega)) ?_
  refine ev_go 2 (pc1 := 13) (lv1 := [.ref 86, .int a]) (st1 := [.int 1, .int a]) (h1 := (124, I, J, R)) rfl ?_
  refine ev_br (b1 := false) rfl rfl (xcd_nne (x := a) (y := 1) (by rw [show ((1 : Int32)).toInt = 1 from by decide]; first | exact b2 | omega)) ?_
  refine ev_go 3 (pc1 := 24) (lv1 := [.ref 86, .int a]) (st1 := [.int (I 86 1)]) (h1 := (124, I, J, R)) rfl ?_
  exact ev_ret rfl rfl
set_option maxRecDepth 20000 in
theorem ct_2 {L : Nat} {xs : Nat → Int32} {d : Nat} {I : Nat → Nat → Int32} {J : Nat → Nat → Int64} {R : Nat → Nat → Nat} {a : Int32} (hG : aGd R) (b1 : a.toInt ≠ 0) (b2 : a.toInt ≠ 1) : xEv L xs d 236 0 [.ref 86, .int a] [] (124, I, J, R) (some (.int (-1))) (124, I, J, R) := by
  refine ev_go 1 (pc1 := 1) (lv1 := [.ref 86, .int a]) (st1 := [.int a]) (h1 := (124, I, J, R)) rfl ?_
  refine ev_br (b1 := true) rfl rfl (xcd_ne (x := a) (y := 0) (by rw [show ((0 : Int32)).toInt = 0 from by decide]; first | exact b1 | omega)) ?_
  refine ev_go 2 (pc1 := 13) (lv1 := [.ref 86, .int a]) (st1 := [.int 1, .int a]) (h1 := (124, I, J, R)) rfl ?_
  refine ev_br (b1 := true) rfl rfl (xcd_ne (x := a) (y := 1) (by rw [show ((1 : Int32)).toInt = 1 from by decide]; first | exact b2 | omega)) ?_
  refine ev_go 1 (pc1 := 24) (lv1 := [.ref 86, .int a]) (st1 := [.int (-1)]) (h1 := (124, I, J, R)) rfl ?_
  exact ev_ret rfl rfl
set_option maxRecDepth 20000 in
theorem fq_0 {L : Nat} {xs : Nat → Int32} {d : Nat} {I : Nat → Nat → Int32} {J : Nat → Nat → Int64} {R : Nat → Nat → Nat} {a : Int32} (hG : aGd R) (b1 : a.toInt = 0) : xEv L xs d 147 0 [.ref 86, .int a] [] (124, I, J, R) (some (.int (I 86 8))) (124, I, J, R) := by
  refine ev_go 1 (pc1 := 1) (lv1 := [.ref 86, .int a]) (st1 := [.int a]) (h1 := (124, I, J, R)) rfl ?_
  refine ev_br (b1 := false) rfl rfl (xcd_nne (x := a) (y := 0) (by rw [show ((0 : Int32)).toInt = 0 from by decide]; first | exact b1 | omega)) ?_
  refine ev_go 3 (pc1 := 24) (lv1 := [.ref 86, .int a]) (st1 := [.int (I 86 8)]) (h1 := (124, I, J, R)) rfl ?_
  exact ev_ret rfl rfl
set_option maxRecDepth 20000 in
theorem fq_1 {L : Nat} {xs : Nat → Int32} {d : Nat} {I : Nat → Nat → Int32} {J : Nat → Nat → Int64} {R : Nat → Nat → Nat} {a : Int32} (hG : aGd R) (b1 : a.toInt ≠ 0) (b2 : a.toInt = 1) : xEv L xs d 147 0 [.ref 86, .int a] [] (124, I, J, R) (some (.int (I 86 9))) (124, I, J, R) := by
  refine ev_go 1 (pc1 := 1) (lv1 := [.ref 86, .int a]) (st1 := [.int a]) (h1 := (124, I, J, R)) rfl ?_
  refine ev_br (b1 := true) rfl rfl (xcd_ne (x := a) (y := 0) (by rw [show ((0 : Int32)).toInt = 0 from by decide]; first | exact b1 | omega)) ?_
  refine ev_go 2 (pc1 := 13) (lv1 := [.ref 86, .int a]) (st1 := [.int 1, .int a]) (h1 := (124, I, J, R)) rfl ?_
  refine ev_br (b1 := false) rfl rfl (xcd_nne (x := a) (y := 1) (by rw [show ((1 : Int32)).toInt = 1 from by decide]; first | exact b2 | omega)) ?_
  refine ev_go 3 (pc1 := 24) (lv1 := [.ref 86, .int a]) (st1 := [.int (I 86 9)]) (h1 := (124, I, J, R)) rfl ?_
  exact ev_ret rfl rfl
set_option maxRecDepth 20000 in
theorem fq_2 {L : Nat} {xs : Nat → Int32} {d : Nat} {I : Nat → Nat → Int32} {J : Nat → Nat → Int64} {R : Nat → Nat → Nat} {a : Int32} (hG : aGd R) (b1 : a.toInt ≠ 0) (b2 : a.toInt ≠ 1) : xEv L xs d 147 0 [.ref 86, .int a] [] (124, I, J, R) (some (.int (-1))) (124, I, J, R) := by
  refine ev_go 1 (pc1 := 1) (lv1 := [.ref 86, .int a]) (st1 := [.int a]) (h1 := (124, I, J, R)) rfl ?_
  refine ev_br (b1 := true) rfl rfl (xcd_ne (x := a) (y := 0) (by rw [show ((0 : Int32)).toInt = 0 from by decide]; first | exact b1 | omega)) ?_
  refine ev_go 2 (pc1 := 13) (lv1 := [.ref 86, .int a]) (st1 := [.int 1, .int a]) (h1 := (124, I, J, R)) rfl ?_
  refine ev_br (b1 := true) rfl rfl (xcd_ne (x := a) (y := 1) (by rw [show ((1 : Int32)).toInt = 1 from by decide]; first | exact b2 | omega)) ?_
  refine ev_go 1 (pc1 := 24) (lv1 := [.ref 86, .int a]) (st1 := [.int (-1)]) (h1 := (124, I, J, R)) rfl ?_
  exact ev_ret rfl rfl
set_option maxRecDepth 20000 in
theorem cf_0 {L : Nat} {xs : Nat → Int32} {d : Nat} {I : Nat → Nat → Int32} {J : Nat → Nat → Int64} {R : Nat → Nat → Nat} {a : Int32} (hG : aGd R) (b1 : a.toInt = 0) : xEv L xs d 47 0 [.ref 0, .int a] [] (124, I, J, R) (some (.int (I 43 2))) (124, I, J, R) := by
  refine ev_go 1 (pc1 := 1) (lv1 := [.ref 0, .int a]) (st1 := [.int a]) (h1 := (124, I, J, R)) rfl ?_
  refine ev_lk1 (x := a) (z := 0) (t := 28) rfl rfl b1 rfl rfl ?_
  refine ev_go 1 (pc1 := 29) (lv1 := [.ref 0, .int a]) (st1 := [.ref 0]) (h1 := (124, I, J, R)) rfl ?_
  refine ev_gf (c := 0) (t := 43) (X := R 0 1) rfl rfl (fun _ => rfl) rfl (hG 0 1 43 rfl rfl) ?_
  refine ev_go 1 (pc1 := 35) (lv1 := [.ref 0, .int a]) (st1 := [.int (I 43 2)]) (h1 := (124, I, J, R)) rfl ?_
  exact ev_ret rfl rfl
set_option maxRecDepth 20000 in
theorem cf_1 {L : Nat} {xs : Nat → Int32} {d : Nat} {I : Nat → Nat → Int32} {J : Nat → Nat → Int64} {R : Nat → Nat → Nat} {a : Int32} (hG : aGd R) (b1 : a.toInt = 1) : xEv L xs d 47 0 [.ref 0, .int a] [] (124, I, J, R) (some (.int (I 43 3))) (124, I, J, R) := by
  refine ev_go 1 (pc1 := 1) (lv1 := [.ref 0, .int a]) (st1 := [.int a]) (h1 := (124, I, J, R)) rfl ?_
  refine ev_lk1 (x := a) (z := 1) (t := 36) rfl rfl b1 rfl rfl ?_
  refine ev_go 1 (pc1 := 37) (lv1 := [.ref 0, .int a]) (st1 := [.ref 0]) (h1 := (124, I, J, R)) rfl ?_
  refine ev_gf (c := 0) (t := 43) (X := R 0 1) rfl rfl (fun _ => rfl) rfl (hG 0 1 43 rfl rfl) ?_
  refine ev_go 1 (pc1 := 43) (lv1 := [.ref 0, .int a]) (st1 := [.int (I 43 3)]) (h1 := (124, I, J, R)) rfl ?_
  exact ev_ret rfl rfl
set_option maxRecDepth 20000 in
theorem cf_2 {L : Nat} {xs : Nat → Int32} {d : Nat} {I : Nat → Nat → Int32} {J : Nat → Nat → Int64} {R : Nat → Nat → Nat} {a : Int32} (hG : aGd R) (b1 : a.toInt ≠ 0 ∧ a.toInt ≠ 1) : xEv L xs d 47 0 [.ref 0, .int a] [] (124, I, J, R) (some (.int (-1))) (124, I, J, R) := by
  refine ev_go 1 (pc1 := 1) (lv1 := [.ref 0, .int a]) (st1 := [.int a]) (h1 := (124, I, J, R)) rfl ?_
  refine ev_lkp (x := a) (t := 44) rfl rfl (fun p hp => by have hp' : p ∈ [((0 : Int), (27 : Int)), (1, 35)] := hp; simp only [List.mem_cons, List.not_mem_nil, or_false] at hp'; rcases hp' with rfl | rfl; exact b1.1; exact b1.2) rfl ?_
  refine ev_go 1 (pc1 := 45) (lv1 := [.ref 0, .int a]) (st1 := [.int (-1)]) (h1 := (124, I, J, R)) rfl ?_
  exact ev_ret rfl rfl
theorem flt_run {L : Nat} {xs : Nat → Int32} {d : Nat} {I : Nat → Nat → Int32} {J : Nat → Nat → Int64} {R : Nat → Nat → Nat} {d' : Nat} (hG : aGd R) (h1 : (I 43 2).toInt = (I 86 8).toInt) (h2 : (I 43 3).toInt = (I 86 9).toInt) (a : Int32) : ∃ r : Int32, xEv L xs d 47 0 [.ref 0, .int a] [] (124, I, J, R) (some (.int r)) (124, I, J, R) ∧ xEv L xs d' 147 0 [.ref 86, .int a] [] (124, I, J, R) (some (.int r)) (124, I, J, R) := by
  by_cases g0 : a.toInt = 0
  · have t := fq_0 (L := L) (xs := xs) (d := d') (I := I) (J := J) hG g0
    rw [← Int32.toInt_inj.mp h1] at t
    exact ⟨_, cf_0 hG g0, t⟩
  by_cases g1 : a.toInt = 1
  · have t := fq_1 (L := L) (xs := xs) (d := d') (I := I) (J := J) hG g0 g1
    rw [← Int32.toInt_inj.mp h2] at t
    exact ⟨_, cf_1 hG g1, t⟩
  · exact ⟨_, cf_2 hG ⟨g0, g1⟩, fq_2 hG g0 g1⟩
set_option maxRecDepth 20000 in
theorem mc_n_3 {L : Nat} {xs : Nat → Int32} {d : Nat} {I : Nat → Nat → Int32} {J : Nat → Nat → Int64} {R : Nat → Nat → Nat} {a b : Int32} (hG : aGd R) (b1 : a.toInt < 0) : xEv L xs d 51 0 [.ref 0, .int a, .int b] [] (124, I, J, R) (some (.int (-2))) (124, I, J, R) := by
  refine ev_go 1 (pc1 := 1) (lv1 := [.ref 0, .int a, .int b]) (st1 := [.int a]) (h1 := (124, I, J, R)) rfl ?_
  refine ev_br (b1 := true) rfl rfl (xcd_lt (x := a) (y := 0) (by rw [show ((0 : Int32)).toInt = 0 from by decide]; first | exact b1 | omega)) ?_
  refine ev_go 1 (pc1 := 17) (lv1 := [.ref 0, .int a, .int b]) (st1 := [.int (-2)]) (h1 := (124, I, J, R)) rfl ?_
  exact ev_ret rfl rfl
set_option maxRecDepth 20000 in
theorem mc_b_3 {L : Nat} {xs : Nat → Int32} {d : Nat} {I : Nat → Nat → Int32} {J : Nat → Nat → Int64} {R : Nat → Nat → Nat} {a b : Int32} (hG : aGd R) (b1 : a.toInt ≥ 0) (r_R_0_8 : R 0 8 = 4) (b2 : a.toInt ≥ (I 3 15).toInt) : xEv L xs d 51 0 [.ref 0, .int a, .int b] [] (124, I, J, R) (some (.int (-2))) (124, I, J, R) := by
  refine ev_go 1 (pc1 := 1) (lv1 := [.ref 0, .int a, .int b]) (st1 := [.int a]) (h1 := (124, I, J, R)) rfl ?_
  refine ev_br (b1 := false) rfl rfl (xcd_nlt (x := a) (y := 0) (by rw [show ((0 : Int32)).toInt = 0 from by decide]; first | exact b1 | omega)) ?_
  refine ev_go 2 (pc1 := 6) (lv1 := [.ref 0, .int a, .int b]) (st1 := [.ref 0, .int a]) (h1 := (124, I, J, R)) rfl ?_
  refine ev_gf (c := 0) (t := 3) (X := R 0 8) rfl rfl (fun _ => rfl) rfl r_R_0_8 ?_
  refine ev_go 1 (pc1 := 12) (lv1 := [.ref 0, .int a, .int b]) (st1 := [.int (I 3 15), .int a]) (h1 := (124, I, J, R)) rfl ?_
  refine ev_br (b1 := false) rfl rfl (xcd_nlt (x := a) (y := (I 3 15)) (by first | exact b2 | omega)) ?_
  refine ev_go 1 (pc1 := 17) (lv1 := [.ref 0, .int a, .int b]) (st1 := [.int (-2)]) (h1 := (124, I, J, R)) rfl ?_
  exact ev_ret rfl rfl
set_option maxRecDepth 20000 in
theorem mc_0_3 {L : Nat} {xs : Nat → Int32} {d : Nat} {I : Nat → Nat → Int32} {J : Nat → Nat → Int64} {R : Nat → Nat → Nat} {a b r : Int32} (hG : aGd R) (b1 : a.toInt ≥ 0) (r_R_0_8 : R 0 8 = 4) (b2 : a.toInt < (I 3 15).toInt) (b3 : b.toInt = 0) (c1 : xEv L xs d 39 0 [.ref 7, .int a] [] (124, I, J, R) (some (.int r)) (124, I, J, R)) : xEv L xs (d + 1) 51 0 [.ref 0, .int a, .int b] [] (124, I, J, R) (some (.int r)) (124, I, J, R) := by
  refine ev_go 1 (pc1 := 1) (lv1 := [.ref 0, .int a, .int b]) (st1 := [.int a]) (h1 := (124, I, J, R)) rfl ?_
  refine ev_br (b1 := false) rfl rfl (xcd_nlt (x := a) (y := 0) (by rw [show ((0 : Int32)).toInt = 0 from by decide]; first | exact b1 | omega)) ?_
  refine ev_go 2 (pc1 := 6) (lv1 := [.ref 0, .int a, .int b]) (st1 := [.ref 0, .int a]) (h1 := (124, I, J, R)) rfl ?_
  refine ev_gf (c := 0) (t := 3) (X := R 0 8) rfl rfl (fun _ => rfl) rfl r_R_0_8 ?_
  refine ev_go 1 (pc1 := 12) (lv1 := [.ref 0, .int a, .int b]) (st1 := [.int (I 3 15), .int a]) (h1 := (124, I, J, R)) rfl ?_
  refine ev_br (b1 := true) rfl rfl (xcd_lt (x := a) (y := (I 3 15)) (by first | exact b2 | omega)) ?_
  refine ev_go 1 (pc1 := 19) (lv1 := [.ref 0, .int a, .int b]) (st1 := [.int b]) (h1 := (124, I, J, R)) rfl ?_
  refine ev_tk (x := b) (z := 0) (t := 48) rfl rfl b3 (by decide) rfl rfl ?_
  refine ev_go 1 (pc1 := 49) (lv1 := [.ref 0, .int a, .int b]) (st1 := [.ref 0]) (h1 := (124, I, J, R)) rfl ?_
  refine ev_gf (c := 0) (t := 3) (X := R 0 8) rfl rfl (fun _ => rfl) rfl r_R_0_8 ?_
  refine ev_gf (c := 3) (t := 7) (X := R 3 3) rfl rfl (fun _ => rfl) rfl (hG 3 3 7 rfl rfl) ?_
  refine ev_go 1 (pc1 := 56) (lv1 := [.ref 0, .int a, .int b]) (st1 := [.int a, .ref 7]) (h1 := (124, I, J, R)) rfl ?_
  refine ev_call (v1 := (some (.int r))) (h1 := (124, I, J, R)) rfl rfl c1 ?_
  exact ev_ret rfl rfl
set_option maxRecDepth 20000 in
theorem mc_1_3 {L : Nat} {xs : Nat → Int32} {d : Nat} {I : Nat → Nat → Int32} {J : Nat → Nat → Int64} {R : Nat → Nat → Nat} {a b r : Int32} (hG : aGd R) (b1 : a.toInt ≥ 0) (r_R_0_8 : R 0 8 = 4) (b2 : a.toInt < (I 3 15).toInt) (b3 : b.toInt = 1) (c1 : xEv L xs d 39 0 [.ref 8, .int a] [] (124, I, J, R) (some (.int r)) (124, I, J, R)) : xEv L xs (d + 1) 51 0 [.ref 0, .int a, .int b] [] (124, I, J, R) (some (.int r)) (124, I, J, R) := by
  refine ev_go 1 (pc1 := 1) (lv1 := [.ref 0, .int a, .int b]) (st1 := [.int a]) (h1 := (124, I, J, R)) rfl ?_
  refine ev_br (b1 := false) rfl rfl (xcd_nlt (x := a) (y := 0) (by rw [show ((0 : Int32)).toInt = 0 from by decide]; first | exact b1 | omega)) ?_
  refine ev_go 2 (pc1 := 6) (lv1 := [.ref 0, .int a, .int b]) (st1 := [.ref 0, .int a]) (h1 := (124, I, J, R)) rfl ?_
  refine ev_gf (c := 0) (t := 3) (X := R 0 8) rfl rfl (fun _ => rfl) rfl r_R_0_8 ?_
  refine ev_go 1 (pc1 := 12) (lv1 := [.ref 0, .int a, .int b]) (st1 := [.int (I 3 15), .int a]) (h1 := (124, I, J, R)) rfl ?_
  refine ev_br (b1 := true) rfl rfl (xcd_lt (x := a) (y := (I 3 15)) (by first | exact b2 | omega)) ?_
  refine ev_go 1 (pc1 := 19) (lv1 := [.ref 0, .int a, .int b]) (st1 := [.int b]) (h1 := (124, I, J, R)) rfl ?_
  refine ev_tk (x := b) (z := 1) (t := 60) rfl rfl b3 (by decide) rfl rfl ?_
  refine ev_go 1 (pc1 := 61) (lv1 := [.ref 0, .int a, .int b]) (st1 := [.ref 0]) (h1 := (124, I, J, R)) rfl ?_
  refine ev_gf (c := 0) (t := 3) (X := R 0 8) rfl rfl (fun _ => rfl) rfl r_R_0_8 ?_
  refine ev_gf (c := 3) (t := 8) (X := R 3 4) rfl rfl (fun _ => rfl) rfl (hG 3 4 8 rfl rfl) ?_
  refine ev_go 1 (pc1 := 68) (lv1 := [.ref 0, .int a, .int b]) (st1 := [.int a, .ref 8]) (h1 := (124, I, J, R)) rfl ?_
  refine ev_call (v1 := (some (.int r))) (h1 := (124, I, J, R)) rfl rfl c1 ?_
  exact ev_ret rfl rfl
set_option maxRecDepth 20000 in
theorem mc_2_3 {L : Nat} {xs : Nat → Int32} {d : Nat} {I : Nat → Nat → Int32} {J : Nat → Nat → Int64} {R : Nat → Nat → Nat} {a b r : Int32} (hG : aGd R) (b1 : a.toInt ≥ 0) (r_R_0_8 : R 0 8 = 4) (b2 : a.toInt < (I 3 15).toInt) (b3 : b.toInt = 2) (c1 : xEv L xs d 39 0 [.ref 9, .int a] [] (124, I, J, R) (some (.int r)) (124, I, J, R)) : xEv L xs (d + 1) 51 0 [.ref 0, .int a, .int b] [] (124, I, J, R) (some (.int r)) (124, I, J, R) := by
  refine ev_go 1 (pc1 := 1) (lv1 := [.ref 0, .int a, .int b]) (st1 := [.int a]) (h1 := (124, I, J, R)) rfl ?_
  refine ev_br (b1 := false) rfl rfl (xcd_nlt (x := a) (y := 0) (by rw [show ((0 : Int32)).toInt = 0 from by decide]; first | exact b1 | omega)) ?_
  refine ev_go 2 (pc1 := 6) (lv1 := [.ref 0, .int a, .int b]) (st1 := [.ref 0, .int a]) (h1 := (124, I, J, R)) rfl ?_
  refine ev_gf (c := 0) (t := 3) (X := R 0 8) rfl rfl (fun _ => rfl) rfl r_R_0_8 ?_
  refine ev_go 1 (pc1 := 12) (lv1 := [.ref 0, .int a, .int b]) (st1 := [.int (I 3 15), .int a]) (h1 := (124, I, J, R)) rfl ?_
  refine ev_br (b1 := true) rfl rfl (xcd_lt (x := a) (y := (I 3 15)) (by first | exact b2 | omega)) ?_
  refine ev_go 1 (pc1 := 19) (lv1 := [.ref 0, .int a, .int b]) (st1 := [.int b]) (h1 := (124, I, J, R)) rfl ?_
  refine ev_tk (x := b) (z := 2) (t := 72) rfl rfl b3 (by decide) rfl rfl ?_
  refine ev_go 1 (pc1 := 73) (lv1 := [.ref 0, .int a, .int b]) (st1 := [.ref 0]) (h1 := (124, I, J, R)) rfl ?_
  refine ev_gf (c := 0) (t := 3) (X := R 0 8) rfl rfl (fun _ => rfl) rfl r_R_0_8 ?_
  refine ev_gf (c := 3) (t := 9) (X := R 3 5) rfl rfl (fun _ => rfl) rfl (hG 3 5 9 rfl rfl) ?_
  refine ev_go 1 (pc1 := 80) (lv1 := [.ref 0, .int a, .int b]) (st1 := [.int a, .ref 9]) (h1 := (124, I, J, R)) rfl ?_
  refine ev_call (v1 := (some (.int r))) (h1 := (124, I, J, R)) rfl rfl c1 ?_
  exact ev_ret rfl rfl
set_option maxRecDepth 20000 in
theorem mc_3_3 {L : Nat} {xs : Nat → Int32} {d : Nat} {I : Nat → Nat → Int32} {J : Nat → Nat → Int64} {R : Nat → Nat → Nat} {a b r : Int32} (hG : aGd R) (b1 : a.toInt ≥ 0) (r_R_0_8 : R 0 8 = 4) (b2 : a.toInt < (I 3 15).toInt) (b3 : b.toInt = 3) (c1 : xEv L xs d 39 0 [.ref 10, .int a] [] (124, I, J, R) (some (.int r)) (124, I, J, R)) : xEv L xs (d + 1) 51 0 [.ref 0, .int a, .int b] [] (124, I, J, R) (some (.int r)) (124, I, J, R) := by
  refine ev_go 1 (pc1 := 1) (lv1 := [.ref 0, .int a, .int b]) (st1 := [.int a]) (h1 := (124, I, J, R)) rfl ?_
  refine ev_br (b1 := false) rfl rfl (xcd_nlt (x := a) (y := 0) (by rw [show ((0 : Int32)).toInt = 0 from by decide]; first | exact b1 | omega)) ?_
  refine ev_go 2 (pc1 := 6) (lv1 := [.ref 0, .int a, .int b]) (st1 := [.ref 0, .int a]) (h1 := (124, I, J, R)) rfl ?_
  refine ev_gf (c := 0) (t := 3) (X := R 0 8) rfl rfl (fun _ => rfl) rfl r_R_0_8 ?_
  refine ev_go 1 (pc1 := 12) (lv1 := [.ref 0, .int a, .int b]) (st1 := [.int (I 3 15), .int a]) (h1 := (124, I, J, R)) rfl ?_
  refine ev_br (b1 := true) rfl rfl (xcd_lt (x := a) (y := (I 3 15)) (by first | exact b2 | omega)) ?_
  refine ev_go 1 (pc1 := 19) (lv1 := [.ref 0, .int a, .int b]) (st1 := [.int b]) (h1 := (124, I, J, R)) rfl ?_
  refine ev_tk (x := b) (z := 3) (t := 84) rfl rfl b3 (by decide) rfl rfl ?_
  refine ev_go 1 (pc1 := 85) (lv1 := [.ref 0, .int a, .int b]) (st1 := [.ref 0]) (h1 := (124, I, J, R)) rfl ?_
  refine ev_gf (c := 0) (t := 3) (X := R 0 8) rfl rfl (fun _ => rfl) rfl r_R_0_8 ?_
  refine ev_gf (c := 3) (t := 10) (X := R 3 6) rfl rfl (fun _ => rfl) rfl (hG 3 6 10 rfl rfl) ?_
  refine ev_go 1 (pc1 := 92) (lv1 := [.ref 0, .int a, .int b]) (st1 := [.int a, .ref 10]) (h1 := (124, I, J, R)) rfl ?_
  refine ev_call (v1 := (some (.int r))) (h1 := (124, I, J, R)) rfl rfl c1 ?_
  exact ev_ret rfl rfl
set_option maxRecDepth 20000 in
theorem mc_d_3 {L : Nat} {xs : Nat → Int32} {d : Nat} {I : Nat → Nat → Int32} {J : Nat → Nat → Int64} {R : Nat → Nat → Nat} {a b : Int32} (hG : aGd R) (b1 : a.toInt ≥ 0) (r_R_0_8 : R 0 8 = 4) (b2 : a.toInt < (I 3 15).toInt) (b3 : b.toInt < 0 ∨ 3 < b.toInt) : xEv L xs d 51 0 [.ref 0, .int a, .int b] [] (124, I, J, R) (some (.int (-2))) (124, I, J, R) := by
  refine ev_go 1 (pc1 := 1) (lv1 := [.ref 0, .int a, .int b]) (st1 := [.int a]) (h1 := (124, I, J, R)) rfl ?_
  refine ev_br (b1 := false) rfl rfl (xcd_nlt (x := a) (y := 0) (by rw [show ((0 : Int32)).toInt = 0 from by decide]; first | exact b1 | omega)) ?_
  refine ev_go 2 (pc1 := 6) (lv1 := [.ref 0, .int a, .int b]) (st1 := [.ref 0, .int a]) (h1 := (124, I, J, R)) rfl ?_
  refine ev_gf (c := 0) (t := 3) (X := R 0 8) rfl rfl (fun _ => rfl) rfl r_R_0_8 ?_
  refine ev_go 1 (pc1 := 12) (lv1 := [.ref 0, .int a, .int b]) (st1 := [.int (I 3 15), .int a]) (h1 := (124, I, J, R)) rfl ?_
  refine ev_br (b1 := true) rfl rfl (xcd_lt (x := a) (y := (I 3 15)) (by first | exact b2 | omega)) ?_
  refine ev_go 1 (pc1 := 19) (lv1 := [.ref 0, .int a, .int b]) (st1 := [.int b]) (h1 := (124, I, J, R)) rfl ?_
  refine ev_tab (x := b) (t := 96) rfl rfl b3 rfl ?_
  refine ev_go 1 (pc1 := 98) (lv1 := [.ref 0, .int a, .int b]) (st1 := [.int (-2)]) (h1 := (124, I, J, R)) rfl ?_
  exact ev_ret rfl rfl
set_option maxRecDepth 20000 in
theorem tc_n_3 {L : Nat} {xs : Nat → Int32} {d : Nat} {I : Nat → Nat → Int32} {J : Nat → Nat → Int64} {R : Nat → Nat → Nat} {a b : Int32} (hG : aGd R) (b1 : a.toInt < 0) : xEv L xs d 52 0 [.ref 0, .int a, .int b] [] (124, I, J, R) (some (.int (-2))) (124, I, J, R) := by
  refine ev_go 1 (pc1 := 1) (lv1 := [.ref 0, .int a, .int b]) (st1 := [.int a]) (h1 := (124, I, J, R)) rfl ?_
  refine ev_br (b1 := true) rfl rfl (xcd_lt (x := a) (y := 0) (by rw [show ((0 : Int32)).toInt = 0 from by decide]; first | exact b1 | omega)) ?_
  refine ev_go 1 (pc1 := 20) (lv1 := [.ref 0, .int a, .int b]) (st1 := [.int (-2)]) (h1 := (124, I, J, R)) rfl ?_
  exact ev_ret rfl rfl
set_option maxRecDepth 20000 in
theorem tc_b_3 {L : Nat} {xs : Nat → Int32} {d : Nat} {I : Nat → Nat → Int32} {J : Nat → Nat → Int64} {R : Nat → Nat → Nat} {a b : Int32} (hG : aGd R) (b1 : a.toInt ≥ 0) (r_R_0_8 : R 0 8 = 4) (b2 : a.toInt ≥ (I 17 5).toInt) : xEv L xs d 52 0 [.ref 0, .int a, .int b] [] (124, I, J, R) (some (.int (-2))) (124, I, J, R) := by
  refine ev_go 1 (pc1 := 1) (lv1 := [.ref 0, .int a, .int b]) (st1 := [.int a]) (h1 := (124, I, J, R)) rfl ?_
  refine ev_br (b1 := false) rfl rfl (xcd_nlt (x := a) (y := 0) (by rw [show ((0 : Int32)).toInt = 0 from by decide]; first | exact b1 | omega)) ?_
  refine ev_go 2 (pc1 := 6) (lv1 := [.ref 0, .int a, .int b]) (st1 := [.ref 0, .int a]) (h1 := (124, I, J, R)) rfl ?_
  refine ev_gf (c := 0) (t := 3) (X := R 0 8) rfl rfl (fun _ => rfl) rfl r_R_0_8 ?_
  refine ev_gf (c := 3) (t := 17) (X := R 3 13) rfl rfl (fun _ => rfl) rfl (hG 3 13 17 rfl rfl) ?_
  refine ev_go 1 (pc1 := 15) (lv1 := [.ref 0, .int a, .int b]) (st1 := [.int (I 17 5), .int a]) (h1 := (124, I, J, R)) rfl ?_
  refine ev_br (b1 := false) rfl rfl (xcd_nlt (x := a) (y := (I 17 5)) (by first | exact b2 | omega)) ?_
  refine ev_go 1 (pc1 := 20) (lv1 := [.ref 0, .int a, .int b]) (st1 := [.int (-2)]) (h1 := (124, I, J, R)) rfl ?_
  exact ev_ret rfl rfl
set_option maxRecDepth 20000 in
theorem tc_0_3 {L : Nat} {xs : Nat → Int32} {d : Nat} {I : Nat → Nat → Int32} {J : Nat → Nat → Int64} {R : Nat → Nat → Nat} {a b r : Int32} (hG : aGd R) (b1 : a.toInt ≥ 0) (r_R_0_8 : R 0 8 = 4) (b2 : a.toInt < (I 17 5).toInt) (b3 : b.toInt = 0) (c1 : xEv L xs d 39 0 [.ref 18, .int a] [] (124, I, J, R) (some (.int r)) (124, I, J, R)) : xEv L xs (d + 1) 52 0 [.ref 0, .int a, .int b] [] (124, I, J, R) (some (.int r)) (124, I, J, R) := by
  refine ev_go 1 (pc1 := 1) (lv1 := [.ref 0, .int a, .int b]) (st1 := [.int a]) (h1 := (124, I, J, R)) rfl ?_
  refine ev_br (b1 := false) rfl rfl (xcd_nlt (x := a) (y := 0) (by rw [show ((0 : Int32)).toInt = 0 from by decide]; first | exact b1 | omega)) ?_
  refine ev_go 2 (pc1 := 6) (lv1 := [.ref 0, .int a, .int b]) (st1 := [.ref 0, .int a]) (h1 := (124, I, J, R)) rfl ?_
  refine ev_gf (c := 0) (t := 3) (X := R 0 8) rfl rfl (fun _ => rfl) rfl r_R_0_8 ?_
  refine ev_gf (c := 3) (t := 17) (X := R 3 13) rfl rfl (fun _ => rfl) rfl (hG 3 13 17 rfl rfl) ?_
  refine ev_go 1 (pc1 := 15) (lv1 := [.ref 0, .int a, .int b]) (st1 := [.int (I 17 5), .int a]) (h1 := (124, I, J, R)) rfl ?_
  refine ev_br (b1 := true) rfl rfl (xcd_lt (x := a) (y := (I 17 5)) (by first | exact b2 | omega)) ?_
  refine ev_go 1 (pc1 := 22) (lv1 := [.ref 0, .int a, .int b]) (st1 := [.int b]) (h1 := (124, I, J, R)) rfl ?_
  refine ev_lk1 (x := b) (z := 0) (t := 48) rfl rfl b3 rfl rfl ?_
  refine ev_go 1 (pc1 := 49) (lv1 := [.ref 0, .int a, .int b]) (st1 := [.ref 0]) (h1 := (124, I, J, R)) rfl ?_
  refine ev_gf (c := 0) (t := 3) (X := R 0 8) rfl rfl (fun _ => rfl) rfl r_R_0_8 ?_
  refine ev_gf (c := 3) (t := 17) (X := R 3 13) rfl rfl (fun _ => rfl) rfl (hG 3 13 17 rfl rfl) ?_
  refine ev_gf (c := 17) (t := 18) (X := R 17 0) rfl rfl (fun _ => rfl) rfl (hG 17 0 18 rfl rfl) ?_
  refine ev_go 1 (pc1 := 59) (lv1 := [.ref 0, .int a, .int b]) (st1 := [.int a, .ref 18]) (h1 := (124, I, J, R)) rfl ?_
  refine ev_call (v1 := (some (.int r))) (h1 := (124, I, J, R)) rfl rfl c1 ?_
  exact ev_ret rfl rfl
set_option maxRecDepth 20000 in
theorem tc_1_3 {L : Nat} {xs : Nat → Int32} {d : Nat} {I : Nat → Nat → Int32} {J : Nat → Nat → Int64} {R : Nat → Nat → Nat} {a b r : Int32} (hG : aGd R) (b1 : a.toInt ≥ 0) (r_R_0_8 : R 0 8 = 4) (b2 : a.toInt < (I 17 5).toInt) (b3 : b.toInt = 1) (c1 : xEv L xs d 39 0 [.ref 19, .int a] [] (124, I, J, R) (some (.int r)) (124, I, J, R)) : xEv L xs (d + 1) 52 0 [.ref 0, .int a, .int b] [] (124, I, J, R) (some (.int r)) (124, I, J, R) := by
  refine ev_go 1 (pc1 := 1) (lv1 := [.ref 0, .int a, .int b]) (st1 := [.int a]) (h1 := (124, I, J, R)) rfl ?_
  refine ev_br (b1 := false) rfl rfl (xcd_nlt (x := a) (y := 0) (by rw [show ((0 : Int32)).toInt = 0 from by decide]; first | exact b1 | omega)) ?_
  refine ev_go 2 (pc1 := 6) (lv1 := [.ref 0, .int a, .int b]) (st1 := [.ref 0, .int a]) (h1 := (124, I, J, R)) rfl ?_
  refine ev_gf (c := 0) (t := 3) (X := R 0 8) rfl rfl (fun _ => rfl) rfl r_R_0_8 ?_
  refine ev_gf (c := 3) (t := 17) (X := R 3 13) rfl rfl (fun _ => rfl) rfl (hG 3 13 17 rfl rfl) ?_
  refine ev_go 1 (pc1 := 15) (lv1 := [.ref 0, .int a, .int b]) (st1 := [.int (I 17 5), .int a]) (h1 := (124, I, J, R)) rfl ?_
  refine ev_br (b1 := true) rfl rfl (xcd_lt (x := a) (y := (I 17 5)) (by first | exact b2 | omega)) ?_
  refine ev_go 1 (pc1 := 22) (lv1 := [.ref 0, .int a, .int b]) (st1 := [.int b]) (h1 := (124, I, J, R)) rfl ?_
  refine ev_lk1 (x := b) (z := 1) (t := 63) rfl rfl b3 rfl rfl ?_
  refine ev_go 1 (pc1 := 64) (lv1 := [.ref 0, .int a, .int b]) (st1 := [.ref 0]) (h1 := (124, I, J, R)) rfl ?_
  refine ev_gf (c := 0) (t := 3) (X := R 0 8) rfl rfl (fun _ => rfl) rfl r_R_0_8 ?_
  refine ev_gf (c := 3) (t := 17) (X := R 3 13) rfl rfl (fun _ => rfl) rfl (hG 3 13 17 rfl rfl) ?_
  refine ev_gf (c := 17) (t := 19) (X := R 17 1) rfl rfl (fun _ => rfl) rfl (hG 17 1 19 rfl rfl) ?_
  refine ev_go 1 (pc1 := 74) (lv1 := [.ref 0, .int a, .int b]) (st1 := [.int a, .ref 19]) (h1 := (124, I, J, R)) rfl ?_
  refine ev_call (v1 := (some (.int r))) (h1 := (124, I, J, R)) rfl rfl c1 ?_
  exact ev_ret rfl rfl
set_option maxRecDepth 20000 in
theorem tc_d_3 {L : Nat} {xs : Nat → Int32} {d : Nat} {I : Nat → Nat → Int32} {J : Nat → Nat → Int64} {R : Nat → Nat → Nat} {a b : Int32} (hG : aGd R) (b1 : a.toInt ≥ 0) (r_R_0_8 : R 0 8 = 4) (b2 : a.toInt < (I 17 5).toInt) (b3 : b.toInt ≠ 0 ∧ b.toInt ≠ 1) : xEv L xs d 52 0 [.ref 0, .int a, .int b] [] (124, I, J, R) (some (.int (-2))) (124, I, J, R) := by
  refine ev_go 1 (pc1 := 1) (lv1 := [.ref 0, .int a, .int b]) (st1 := [.int a]) (h1 := (124, I, J, R)) rfl ?_
  refine ev_br (b1 := false) rfl rfl (xcd_nlt (x := a) (y := 0) (by rw [show ((0 : Int32)).toInt = 0 from by decide]; first | exact b1 | omega)) ?_
  refine ev_go 2 (pc1 := 6) (lv1 := [.ref 0, .int a, .int b]) (st1 := [.ref 0, .int a]) (h1 := (124, I, J, R)) rfl ?_
  refine ev_gf (c := 0) (t := 3) (X := R 0 8) rfl rfl (fun _ => rfl) rfl r_R_0_8 ?_
  refine ev_gf (c := 3) (t := 17) (X := R 3 13) rfl rfl (fun _ => rfl) rfl (hG 3 13 17 rfl rfl) ?_
  refine ev_go 1 (pc1 := 15) (lv1 := [.ref 0, .int a, .int b]) (st1 := [.int (I 17 5), .int a]) (h1 := (124, I, J, R)) rfl ?_
  refine ev_br (b1 := true) rfl rfl (xcd_lt (x := a) (y := (I 17 5)) (by first | exact b2 | omega)) ?_
  refine ev_go 1 (pc1 := 22) (lv1 := [.ref 0, .int a, .int b]) (st1 := [.int b]) (h1 := (124, I, J, R)) rfl ?_
  refine ev_lkp (x := b) (t := 78) rfl rfl (fun p hp => by have hp' : p ∈ [((0 : Int), (26 : Int)), (1, 41)] := hp; simp only [List.mem_cons, List.not_mem_nil, or_false] at hp'; rcases hp' with rfl | rfl; exact b3.1; exact b3.2) rfl ?_
  refine ev_go 1 (pc1 := 80) (lv1 := [.ref 0, .int a, .int b]) (st1 := [.int (-2)]) (h1 := (124, I, J, R)) rfl ?_
  exact ev_ret rfl rfl
set_option maxRecDepth 20000 in
theorem cc0_3 {L : Nat} {xs : Nat → Int32} {d : Nat} {I : Nat → Nat → Int32} {J : Nat → Nat → Int64} {R : Nat → Nat → Nat} {a : Int32} (hG : aGd R) (b1 : a.toInt = 0) (r_R_0_8 : R 0 8 = 4) : xEv L xs d 139 0 [.ref 0, .int a] [] (124, I, J, R) (some (.int (I 3 17))) (124, I, J, R) := by
  refine ev_go 1 (pc1 := 1) (lv1 := [.ref 0, .int a]) (st1 := [.int a]) (h1 := (124, I, J, R)) rfl ?_
  refine ev_lk1 (x := a) (z := 0) (t := 28) rfl rfl b1 rfl rfl ?_
  refine ev_go 1 (pc1 := 29) (lv1 := [.ref 0, .int a]) (st1 := [.ref 0]) (h1 := (124, I, J, R)) rfl ?_
  refine ev_gf (c := 0) (t := 3) (X := R 0 8) rfl rfl (fun _ => rfl) rfl r_R_0_8 ?_
  refine ev_go 1 (pc1 := 35) (lv1 := [.ref 0, .int a]) (st1 := [.int (I 3 17)]) (h1 := (124, I, J, R)) rfl ?_
  exact ev_ret rfl rfl
set_option maxRecDepth 20000 in
theorem cc1_3 {L : Nat} {xs : Nat → Int32} {d : Nat} {I : Nat → Nat → Int32} {J : Nat → Nat → Int64} {R : Nat → Nat → Nat} {a : Int32} (hG : aGd R) (b1 : a.toInt = 1) : xEv L xs d 139 0 [.ref 0, .int a] [] (124, I, J, R) (some (.int (I 1 1))) (124, I, J, R) := by
  refine ev_go 1 (pc1 := 1) (lv1 := [.ref 0, .int a]) (st1 := [.int a]) (h1 := (124, I, J, R)) rfl ?_
  refine ev_lk1 (x := a) (z := 1) (t := 36) rfl rfl b1 rfl rfl ?_
  refine ev_go 1 (pc1 := 37) (lv1 := [.ref 0, .int a]) (st1 := [.ref 0]) (h1 := (124, I, J, R)) rfl ?_
  refine ev_gf (c := 0) (t := 1) (X := R 0 0) rfl rfl (fun _ => rfl) rfl (hG 0 0 1 rfl rfl) ?_
  refine ev_go 1 (pc1 := 43) (lv1 := [.ref 0, .int a]) (st1 := [.int (I 1 1)]) (h1 := (124, I, J, R)) rfl ?_
  exact ev_ret rfl rfl
set_option maxRecDepth 20000 in
theorem cc2_3 {L : Nat} {xs : Nat → Int32} {d : Nat} {I : Nat → Nat → Int32} {J : Nat → Nat → Int64} {R : Nat → Nat → Nat} {a : Int32} (hG : aGd R) (b1 : a.toInt ≠ 0 ∧ a.toInt ≠ 1) : xEv L xs d 139 0 [.ref 0, .int a] [] (124, I, J, R) (some (.int (-1))) (124, I, J, R) := by
  refine ev_go 1 (pc1 := 1) (lv1 := [.ref 0, .int a]) (st1 := [.int a]) (h1 := (124, I, J, R)) rfl ?_
  refine ev_lkp (x := a) (t := 44) rfl rfl (fun p hp => by have hp' : p ∈ [((0 : Int), (27 : Int)), (1, 35)] := hp; simp only [List.mem_cons, List.not_mem_nil, or_false] at hp'; rcases hp' with rfl | rfl; exact b1.1; exact b1.2) rfl ?_
  refine ev_go 1 (pc1 := 45) (lv1 := [.ref 0, .int a]) (st1 := [.int (-1)]) (h1 := (124, I, J, R)) rfl ?_
  exact ev_ret rfl rfl
theorem mee_3 {L : Nat} {xs : Nat → Int32} {d : Nat} {I : Nat → Nat → Int32} {J : Nat → Nat → Int64} {R : Nat → Nat → Nat} {d' : Nat} (hG : aGd R) (h8 : R 0 8 = 4) {np nm nn : Nat} {l : List (Nat × Nat)} (hV : VR_3 np nm nn l I I) (a b : Int32) : ∃ r : Int32, xEv L xs (d + 1) 51 0 [.ref 0, .int a, .int b] [] (124, I, J, R) (some (.int r)) (124, I, J, R) ∧ xEv L xs (d' + 1) 169 0 [.ref 86, .int a, .int b] [] (124, I, J, R) (some (.int r)) (124, I, J, R) := by
  obtain ⟨⟨p1, p2, p3⟩, p4, p5, p6, ⟨q1, q2⟩, ⟨q3, q4⟩, ⟨q5, q6⟩, q7, q8, -⟩ := hV
  have e0 : (0 : Int32).toInt = 0 := by decide
  have e3 : (3 : Int32).toInt = 3 := by decide
  have e1 : (I 88 1 - 1).toInt = (nm : Int) - 1 := by
    rw [i_sub (by rw [show (1 : Int32).toInt = 1 from by decide]; omega) (by rw [show (1 : Int32).toInt = 1 from by decide]; omega), show (1 : Int32).toInt = 1 from by decide]
    omega
  have i0 := in_ex (L := L) (xs := xs) (d := d') (I := I) (J := J) hG a 0 (I 88 1 - 1)
  have i1 := in_ex (L := L) (xs := xs) (d := d') (I := I) (J := J) hG b 0 3
  rw [e0, e1] at i0
  rw [e0, e3] at i1
  by_cases hneg : a.toInt < 0
  · exact ⟨-2, mc_n_3 hG hneg, mm_x hG (i0.resolve_left (fun z => by have := z.1; omega)).2⟩
  by_cases hbig : a.toInt ≥ nm
  · exact ⟨-2, mc_b_3 hG (by omega) h8 (by omega), mm_x hG (i0.resolve_left (fun z => by have := z.1; omega)).2⟩
  have j0 := (i0.resolve_right (fun z => by have := z.1; omega)).2
  obtain ⟨z, hz⟩ := Int.eq_ofNat_of_zero_le (show 0 ≤ a.toInt by omega)
  have ec := clamp_s (i := a) (by omega)
  have ekz : a.toNatClampNeg = z := by omega
  obtain ⟨w1, w2, w3, w4⟩ := q8 z (by omega)
  have at1 : ∀ c, (∀ g : FieldType → Nat → Option xR, xarr (124, I, J, R) c g = g .int 16) → xEv L xs d 39 0 [.ref c, .int a] [] (124, I, J, R) (some (.int (I c z))) (124, I, J, R) := by
    intro c ho
    have h4 := at_run (L := L) (xs := xs) (d := d) (h := (124, I, J, R)) ho (by decide) a
    rw [if_pos ⟨by omega, by omega⟩, ekz] at h4
    exact h4
  by_cases hb : 0 ≤ b.toInt ∧ b.toInt ≤ 3
  rotate_left
  · exact ⟨-2, mc_d_3 hG (by omega) h8 (by omega) (by omega), mm_y hG j0 (i1.resolve_left (fun z => hb z.1)).2⟩
  have j1 := (i1.resolve_right (fun z => z.1 hb)).2
  have hb4 : b.toInt = 0 ∨ b.toInt = 1 ∨ b.toInt = 2 ∨ b.toInt = 3 := by omega
  rcases hb4 with h | h | h | h
  · have t := mg_0 (L := L) (xs := xs) (d := d') (J := J) hG j0 j1 (by omega) (by omega) (by omega)
    rw [ekz, ← w1] at t
    exact ⟨_, mc_0_3 hG (by omega) h8 (by omega) h (at1 7 (fun _ => rfl)), t⟩
  · have t := mg_1 (L := L) (xs := xs) (d := d') (J := J) hG j0 j1 (by omega) (by omega) (by omega) (by omega)
    rw [ekz, ← w2] at t
    exact ⟨_, mc_1_3 hG (by omega) h8 (by omega) h (at1 8 (fun _ => rfl)), t⟩
  · have t := mg_2 (L := L) (xs := xs) (d := d') (J := J) hG j0 j1 (by omega) (by omega) (by omega) (by omega) (by omega)
    rw [ekz, ← w3] at t
    exact ⟨_, mc_2_3 hG (by omega) h8 (by omega) h (at1 9 (fun _ => rfl)), t⟩
  · have t := mg_3 (L := L) (xs := xs) (d := d') (J := J) hG j0 j1 (by omega) (by omega) (by omega) (by omega) (by omega)
    rw [ekz, ← w4] at t
    exact ⟨_, mc_3_3 hG (by omega) h8 (by omega) h (at1 10 (fun _ => rfl)), t⟩
theorem tim_3 {L : Nat} {xs : Nat → Int32} {d : Nat} {I : Nat → Nat → Int32} {J : Nat → Nat → Int64} {R : Nat → Nat → Nat} {d' : Nat} (hG : aGd R) (h8 : R 0 8 = 4) {np nm nn : Nat} {l : List (Nat × Nat)} (hV : VR_3 np nm nn l I I) (a b : Int32) : ∃ r : Int32, xEv L xs (d + 1) 52 0 [.ref 0, .int a, .int b] [] (124, I, J, R) (some (.int r)) (124, I, J, R) ∧ xEv L xs (d' + 2) 170 0 [.ref 86, .int a, .int b] [] (124, I, J, R) (some (.int r)) (124, I, J, R) := by
  obtain ⟨⟨p1, p2, p3⟩, p4, p5, p6, ⟨q1, q2⟩, ⟨q3, q4⟩, ⟨q5, q6⟩, q7, q8, q9, ⟨q10, q11⟩, q12, -⟩ := hV
  have e0 : (0 : Int32).toInt = 0 := by decide
  have e1 : (1 : Int32).toInt = 1 := by decide
  have i0 := it_run (L := L) (xs := xs) (d := d') (I := I) (J := J) hG q11 a
  have i1 := in_ex (L := L) (xs := xs) (d := d' + 1) (I := I) (J := J) hG b 0 1
  rw [e0, e1] at i1
  by_cases hneg : a.toInt < 0
  · exact ⟨-2, tc_n_3 hG hneg, tt_x hG (i0.resolve_left (fun z => by have := z.1; omega)).2⟩
  by_cases hbig : a.toInt ≥ l.length
  · exact ⟨-2, tc_b_3 hG (by omega) h8 (by omega), tt_x hG (i0.resolve_left (fun z => by have := z.1; omega)).2⟩
  have j0 := (i0.resolve_right (fun z => by have := z.1; omega)).2
  obtain ⟨z, hz⟩ := Int.eq_ofNat_of_zero_le (show 0 ≤ a.toInt by omega)
  have ec := clamp_s (i := a) (by omega)
  have ekz : a.toNatClampNeg = z := by omega
  have hzl : z < l.length := by omega
  obtain ⟨w1, w2, w3, w4, -⟩ := q12 z (l[z]).1 (l[z]).2 (List.getElem?_eq_getElem hzl)
  have at1 : ∀ c, (∀ g : FieldType → Nat → Option xR, xarr (124, I, J, R) c g = g .int 64) → xEv L xs d 39 0 [.ref c, .int a] [] (124, I, J, R) (some (.int (I c z))) (124, I, J, R) := by
    intro c ho
    have h4 := at_run (L := L) (xs := xs) (d := d) (h := (124, I, J, R)) ho (by decide) a
    rw [if_pos ⟨by omega, by omega⟩, ekz] at h4
    exact h4
  by_cases g0 : b.toInt = 0
  · have t := tq_0 (L := L) (xs := xs) (d := d' + 1) (J := J) hG j0 (i1.resolve_right (fun z => by have := z.1; omega)).2 g0 (by omega) (by omega)
    rw [ekz, show I 102 z = I 18 z from Int32.toInt_inj.mp (by omega)] at t
    exact ⟨_, tc_0_3 hG (by omega) h8 (by omega) g0 (at1 18 (fun _ => rfl)), t⟩
  by_cases g1 : b.toInt = 1
  · have t := tq_1 (L := L) (xs := xs) (d := d' + 1) (J := J) hG j0 (i1.resolve_right (fun z => by have := z.1; omega)).2 g0 (by omega) (by omega)
    rw [ekz, show I 101 z = I 19 z from Int32.toInt_inj.mp (by omega)] at t
    exact ⟨_, tc_1_3 hG (by omega) h8 (by omega) g1 (at1 19 (fun _ => rfl)), t⟩
  · exact ⟨-2, tc_d_3 hG (by omega) h8 (by omega) ⟨g0, g1⟩, tt_y hG j0 (i1.resolve_left (fun z => by have := z.1; omega)).2⟩
theorem cou_3 {L : Nat} {xs : Nat → Int32} {d : Nat} {I : Nat → Nat → Int32} {J : Nat → Nat → Int64} {R : Nat → Nat → Nat} {d' : Nat} (hG : aGd R) (h8 : R 0 8 = 4) {np nm nn : Nat} {l : List (Nat × Nat)} (hV : VR_3 np nm nn l I I) (hT : (I 1 1).toInt = (I 86 1).toInt) (a : Int32) : ∃ r : Int32, xEv L xs d 139 0 [.ref 0, .int a] [] (124, I, J, R) (some (.int r)) (124, I, J, R) ∧ xEv L xs d' 236 0 [.ref 86, .int a] [] (124, I, J, R) (some (.int r)) (124, I, J, R) := by
  obtain ⟨⟨p1, p2, p3⟩, p4, p5, p6, ⟨q1, q2⟩, ⟨q3, q4⟩, ⟨q5, q6⟩, q7, q8, q9, ⟨q10, q11⟩, q12, q13, -⟩ := hV
  by_cases g0 : a.toInt = 0
  · have t := ct_0 (L := L) (xs := xs) (d := d') (I := I) (J := J) hG g0
    rw [← q13] at t
    exact ⟨_, cc0_3 hG g0 h8, t⟩
  by_cases g1 : a.toInt = 1
  · have t := ct_1 (L := L) (xs := xs) (d := d') (I := I) (J := J) hG g0 g1
    rw [← Int32.toInt_inj.mp hT] at t
    exact ⟨_, cc1_3 hG g1, t⟩
  · exact ⟨_, cc2_3 hG ⟨g0, g1⟩, ct_2 hG g0 g1⟩
set_option maxRecDepth 20000 in
theorem mc_n_23 {L : Nat} {xs : Nat → Int32} {d : Nat} {I : Nat → Nat → Int32} {J : Nat → Nat → Int64} {R : Nat → Nat → Nat} {a b : Int32} (hG : aGd R) (b1 : a.toInt < 0) : xEv L xs d 51 0 [.ref 0, .int a, .int b] [] (124, I, J, R) (some (.int (-2))) (124, I, J, R) := by
  refine ev_go 1 (pc1 := 1) (lv1 := [.ref 0, .int a, .int b]) (st1 := [.int a]) (h1 := (124, I, J, R)) rfl ?_
  refine ev_br (b1 := true) rfl rfl (xcd_lt (x := a) (y := 0) (by rw [show ((0 : Int32)).toInt = 0 from by decide]; first | exact b1 | omega)) ?_
  refine ev_go 1 (pc1 := 17) (lv1 := [.ref 0, .int a, .int b]) (st1 := [.int (-2)]) (h1 := (124, I, J, R)) rfl ?_
  exact ev_ret rfl rfl
set_option maxRecDepth 20000 in
theorem mc_b_23 {L : Nat} {xs : Nat → Int32} {d : Nat} {I : Nat → Nat → Int32} {J : Nat → Nat → Int64} {R : Nat → Nat → Nat} {a b : Int32} (hG : aGd R) (b1 : a.toInt ≥ 0) (r_R_0_8 : R 0 8 = 24) (b2 : a.toInt ≥ (I 23 15).toInt) : xEv L xs d 51 0 [.ref 0, .int a, .int b] [] (124, I, J, R) (some (.int (-2))) (124, I, J, R) := by
  refine ev_go 1 (pc1 := 1) (lv1 := [.ref 0, .int a, .int b]) (st1 := [.int a]) (h1 := (124, I, J, R)) rfl ?_
  refine ev_br (b1 := false) rfl rfl (xcd_nlt (x := a) (y := 0) (by rw [show ((0 : Int32)).toInt = 0 from by decide]; first | exact b1 | omega)) ?_
  refine ev_go 2 (pc1 := 6) (lv1 := [.ref 0, .int a, .int b]) (st1 := [.ref 0, .int a]) (h1 := (124, I, J, R)) rfl ?_
  refine ev_gf (c := 0) (t := 23) (X := R 0 8) rfl rfl (fun _ => rfl) rfl r_R_0_8 ?_
  refine ev_go 1 (pc1 := 12) (lv1 := [.ref 0, .int a, .int b]) (st1 := [.int (I 23 15), .int a]) (h1 := (124, I, J, R)) rfl ?_
  refine ev_br (b1 := false) rfl rfl (xcd_nlt (x := a) (y := (I 23 15)) (by first | exact b2 | omega)) ?_
  refine ev_go 1 (pc1 := 17) (lv1 := [.ref 0, .int a, .int b]) (st1 := [.int (-2)]) (h1 := (124, I, J, R)) rfl ?_
  exact ev_ret rfl rfl
set_option maxRecDepth 20000 in
theorem mc_0_23 {L : Nat} {xs : Nat → Int32} {d : Nat} {I : Nat → Nat → Int32} {J : Nat → Nat → Int64} {R : Nat → Nat → Nat} {a b r : Int32} (hG : aGd R) (b1 : a.toInt ≥ 0) (r_R_0_8 : R 0 8 = 24) (b2 : a.toInt < (I 23 15).toInt) (b3 : b.toInt = 0) (c1 : xEv L xs d 39 0 [.ref 27, .int a] [] (124, I, J, R) (some (.int r)) (124, I, J, R)) : xEv L xs (d + 1) 51 0 [.ref 0, .int a, .int b] [] (124, I, J, R) (some (.int r)) (124, I, J, R) := by
  refine ev_go 1 (pc1 := 1) (lv1 := [.ref 0, .int a, .int b]) (st1 := [.int a]) (h1 := (124, I, J, R)) rfl ?_
  refine ev_br (b1 := false) rfl rfl (xcd_nlt (x := a) (y := 0) (by rw [show ((0 : Int32)).toInt = 0 from by decide]; first | exact b1 | omega)) ?_
  refine ev_go 2 (pc1 := 6) (lv1 := [.ref 0, .int a, .int b]) (st1 := [.ref 0, .int a]) (h1 := (124, I, J, R)) rfl ?_
  refine ev_gf (c := 0) (t := 23) (X := R 0 8) rfl rfl (fun _ => rfl) rfl r_R_0_8 ?_
  refine ev_go 1 (pc1 := 12) (lv1 := [.ref 0, .int a, .int b]) (st1 := [.int (I 23 15), .int a]) (h1 := (124, I, J, R)) rfl ?_
  refine ev_br (b1 := true) rfl rfl (xcd_lt (x := a) (y := (I 23 15)) (by first | exact b2 | omega)) ?_
  refine ev_go 1 (pc1 := 19) (lv1 := [.ref 0, .int a, .int b]) (st1 := [.int b]) (h1 := (124, I, J, R)) rfl ?_
  refine ev_tk (x := b) (z := 0) (t := 48) rfl rfl b3 (by decide) rfl rfl ?_
  refine ev_go 1 (pc1 := 49) (lv1 := [.ref 0, .int a, .int b]) (st1 := [.ref 0]) (h1 := (124, I, J, R)) rfl ?_
  refine ev_gf (c := 0) (t := 23) (X := R 0 8) rfl rfl (fun _ => rfl) rfl r_R_0_8 ?_
  refine ev_gf (c := 23) (t := 27) (X := R 23 3) rfl rfl (fun _ => rfl) rfl (hG 23 3 27 rfl rfl) ?_
  refine ev_go 1 (pc1 := 56) (lv1 := [.ref 0, .int a, .int b]) (st1 := [.int a, .ref 27]) (h1 := (124, I, J, R)) rfl ?_
  refine ev_call (v1 := (some (.int r))) (h1 := (124, I, J, R)) rfl rfl c1 ?_
  exact ev_ret rfl rfl
set_option maxRecDepth 20000 in
theorem mc_1_23 {L : Nat} {xs : Nat → Int32} {d : Nat} {I : Nat → Nat → Int32} {J : Nat → Nat → Int64} {R : Nat → Nat → Nat} {a b r : Int32} (hG : aGd R) (b1 : a.toInt ≥ 0) (r_R_0_8 : R 0 8 = 24) (b2 : a.toInt < (I 23 15).toInt) (b3 : b.toInt = 1) (c1 : xEv L xs d 39 0 [.ref 28, .int a] [] (124, I, J, R) (some (.int r)) (124, I, J, R)) : xEv L xs (d + 1) 51 0 [.ref 0, .int a, .int b] [] (124, I, J, R) (some (.int r)) (124, I, J, R) := by
  refine ev_go 1 (pc1 := 1) (lv1 := [.ref 0, .int a, .int b]) (st1 := [.int a]) (h1 := (124, I, J, R)) rfl ?_
  refine ev_br (b1 := false) rfl rfl (xcd_nlt (x := a) (y := 0) (by rw [show ((0 : Int32)).toInt = 0 from by decide]; first | exact b1 | omega)) ?_
  refine ev_go 2 (pc1 := 6) (lv1 := [.ref 0, .int a, .int b]) (st1 := [.ref 0, .int a]) (h1 := (124, I, J, R)) rfl ?_
  refine ev_gf (c := 0) (t := 23) (X := R 0 8) rfl rfl (fun _ => rfl) rfl r_R_0_8 ?_
  refine ev_go 1 (pc1 := 12) (lv1 := [.ref 0, .int a, .int b]) (st1 := [.int (I 23 15), .int a]) (h1 := (124, I, J, R)) rfl ?_
  refine ev_br (b1 := true) rfl rfl (xcd_lt (x := a) (y := (I 23 15)) (by first | exact b2 | omega)) ?_
  refine ev_go 1 (pc1 := 19) (lv1 := [.ref 0, .int a, .int b]) (st1 := [.int b]) (h1 := (124, I, J, R)) rfl ?_
  refine ev_tk (x := b) (z := 1) (t := 60) rfl rfl b3 (by decide) rfl rfl ?_
  refine ev_go 1 (pc1 := 61) (lv1 := [.ref 0, .int a, .int b]) (st1 := [.ref 0]) (h1 := (124, I, J, R)) rfl ?_
  refine ev_gf (c := 0) (t := 23) (X := R 0 8) rfl rfl (fun _ => rfl) rfl r_R_0_8 ?_
  refine ev_gf (c := 23) (t := 28) (X := R 23 4) rfl rfl (fun _ => rfl) rfl (hG 23 4 28 rfl rfl) ?_
  refine ev_go 1 (pc1 := 68) (lv1 := [.ref 0, .int a, .int b]) (st1 := [.int a, .ref 28]) (h1 := (124, I, J, R)) rfl ?_
  refine ev_call (v1 := (some (.int r))) (h1 := (124, I, J, R)) rfl rfl c1 ?_
  exact ev_ret rfl rfl
set_option maxRecDepth 20000 in
theorem mc_2_23 {L : Nat} {xs : Nat → Int32} {d : Nat} {I : Nat → Nat → Int32} {J : Nat → Nat → Int64} {R : Nat → Nat → Nat} {a b r : Int32} (hG : aGd R) (b1 : a.toInt ≥ 0) (r_R_0_8 : R 0 8 = 24) (b2 : a.toInt < (I 23 15).toInt) (b3 : b.toInt = 2) (c1 : xEv L xs d 39 0 [.ref 29, .int a] [] (124, I, J, R) (some (.int r)) (124, I, J, R)) : xEv L xs (d + 1) 51 0 [.ref 0, .int a, .int b] [] (124, I, J, R) (some (.int r)) (124, I, J, R) := by
  refine ev_go 1 (pc1 := 1) (lv1 := [.ref 0, .int a, .int b]) (st1 := [.int a]) (h1 := (124, I, J, R)) rfl ?_
  refine ev_br (b1 := false) rfl rfl (xcd_nlt (x := a) (y := 0) (by rw [show ((0 : Int32)).toInt = 0 from by decide]; first | exact b1 | omega)) ?_
  refine ev_go 2 (pc1 := 6) (lv1 := [.ref 0, .int a, .int b]) (st1 := [.ref 0, .int a]) (h1 := (124, I, J, R)) rfl ?_
  refine ev_gf (c := 0) (t := 23) (X := R 0 8) rfl rfl (fun _ => rfl) rfl r_R_0_8 ?_
  refine ev_go 1 (pc1 := 12) (lv1 := [.ref 0, .int a, .int b]) (st1 := [.int (I 23 15), .int a]) (h1 := (124, I, J, R)) rfl ?_
  refine ev_br (b1 := true) rfl rfl (xcd_lt (x := a) (y := (I 23 15)) (by first | exact b2 | omega)) ?_
  refine ev_go 1 (pc1 := 19) (lv1 := [.ref 0, .int a, .int b]) (st1 := [.int b]) (h1 := (124, I, J, R)) rfl ?_
  refine ev_tk (x := b) (z := 2) (t := 72) rfl rfl b3 (by decide) rfl rfl ?_
  refine ev_go 1 (pc1 := 73) (lv1 := [.ref 0, .int a, .int b]) (st1 := [.ref 0]) (h1 := (124, I, J, R)) rfl ?_
  refine ev_gf (c := 0) (t := 23) (X := R 0 8) rfl rfl (fun _ => rfl) rfl r_R_0_8 ?_
  refine ev_gf (c := 23) (t := 29) (X := R 23 5) rfl rfl (fun _ => rfl) rfl (hG 23 5 29 rfl rfl) ?_
  refine ev_go 1 (pc1 := 80) (lv1 := [.ref 0, .int a, .int b]) (st1 := [.int a, .ref 29]) (h1 := (124, I, J, R)) rfl ?_
  refine ev_call (v1 := (some (.int r))) (h1 := (124, I, J, R)) rfl rfl c1 ?_
  exact ev_ret rfl rfl
set_option maxRecDepth 20000 in
theorem mc_3_23 {L : Nat} {xs : Nat → Int32} {d : Nat} {I : Nat → Nat → Int32} {J : Nat → Nat → Int64} {R : Nat → Nat → Nat} {a b r : Int32} (hG : aGd R) (b1 : a.toInt ≥ 0) (r_R_0_8 : R 0 8 = 24) (b2 : a.toInt < (I 23 15).toInt) (b3 : b.toInt = 3) (c1 : xEv L xs d 39 0 [.ref 30, .int a] [] (124, I, J, R) (some (.int r)) (124, I, J, R)) : xEv L xs (d + 1) 51 0 [.ref 0, .int a, .int b] [] (124, I, J, R) (some (.int r)) (124, I, J, R) := by
  refine ev_go 1 (pc1 := 1) (lv1 := [.ref 0, .int a, .int b]) (st1 := [.int a]) (h1 := (124, I, J, R)) rfl ?_
  refine ev_br (b1 := false) rfl rfl (xcd_nlt (x := a) (y := 0) (by rw [show ((0 : Int32)).toInt = 0 from by decide]; first | exact b1 | omega)) ?_
  refine ev_go 2 (pc1 := 6) (lv1 := [.ref 0, .int a, .int b]) (st1 := [.ref 0, .int a]) (h1 := (124, I, J, R)) rfl ?_
  refine ev_gf (c := 0) (t := 23) (X := R 0 8) rfl rfl (fun _ => rfl) rfl r_R_0_8 ?_
  refine ev_go 1 (pc1 := 12) (lv1 := [.ref 0, .int a, .int b]) (st1 := [.int (I 23 15), .int a]) (h1 := (124, I, J, R)) rfl ?_
  refine ev_br (b1 := true) rfl rfl (xcd_lt (x := a) (y := (I 23 15)) (by first | exact b2 | omega)) ?_
  refine ev_go 1 (pc1 := 19) (lv1 := [.ref 0, .int a, .int b]) (st1 := [.int b]) (h1 := (124, I, J, R)) rfl ?_
  refine ev_tk (x := b) (z := 3) (t := 84) rfl rfl b3 (by decide) rfl rfl ?_
  refine ev_go 1 (pc1 := 85) (lv1 := [.ref 0, .int a, .int b]) (st1 := [.ref 0]) (h1 := (124, I, J, R)) rfl ?_
  refine ev_gf (c := 0) (t := 23) (X := R 0 8) rfl rfl (fun _ => rfl) rfl r_R_0_8 ?_
  refine ev_gf (c := 23) (t := 30) (X := R 23 6) rfl rfl (fun _ => rfl) rfl (hG 23 6 30 rfl rfl) ?_
  refine ev_go 1 (pc1 := 92) (lv1 := [.ref 0, .int a, .int b]) (st1 := [.int a, .ref 30]) (h1 := (124, I, J, R)) rfl ?_
  refine ev_call (v1 := (some (.int r))) (h1 := (124, I, J, R)) rfl rfl c1 ?_
  exact ev_ret rfl rfl
set_option maxRecDepth 20000 in
theorem mc_d_23 {L : Nat} {xs : Nat → Int32} {d : Nat} {I : Nat → Nat → Int32} {J : Nat → Nat → Int64} {R : Nat → Nat → Nat} {a b : Int32} (hG : aGd R) (b1 : a.toInt ≥ 0) (r_R_0_8 : R 0 8 = 24) (b2 : a.toInt < (I 23 15).toInt) (b3 : b.toInt < 0 ∨ 3 < b.toInt) : xEv L xs d 51 0 [.ref 0, .int a, .int b] [] (124, I, J, R) (some (.int (-2))) (124, I, J, R) := by
  refine ev_go 1 (pc1 := 1) (lv1 := [.ref 0, .int a, .int b]) (st1 := [.int a]) (h1 := (124, I, J, R)) rfl ?_
  refine ev_br (b1 := false) rfl rfl (xcd_nlt (x := a) (y := 0) (by rw [show ((0 : Int32)).toInt = 0 from by decide]; first | exact b1 | omega)) ?_
  refine ev_go 2 (pc1 := 6) (lv1 := [.ref 0, .int a, .int b]) (st1 := [.ref 0, .int a]) (h1 := (124, I, J, R)) rfl ?_
  refine ev_gf (c := 0) (t := 23) (X := R 0 8) rfl rfl (fun _ => rfl) rfl r_R_0_8 ?_
  refine ev_go 1 (pc1 := 12) (lv1 := [.ref 0, .int a, .int b]) (st1 := [.int (I 23 15), .int a]) (h1 := (124, I, J, R)) rfl ?_
  refine ev_br (b1 := true) rfl rfl (xcd_lt (x := a) (y := (I 23 15)) (by first | exact b2 | omega)) ?_
  refine ev_go 1 (pc1 := 19) (lv1 := [.ref 0, .int a, .int b]) (st1 := [.int b]) (h1 := (124, I, J, R)) rfl ?_
  refine ev_tab (x := b) (t := 96) rfl rfl b3 rfl ?_
  refine ev_go 1 (pc1 := 98) (lv1 := [.ref 0, .int a, .int b]) (st1 := [.int (-2)]) (h1 := (124, I, J, R)) rfl ?_
  exact ev_ret rfl rfl
set_option maxRecDepth 20000 in
theorem tc_n_23 {L : Nat} {xs : Nat → Int32} {d : Nat} {I : Nat → Nat → Int32} {J : Nat → Nat → Int64} {R : Nat → Nat → Nat} {a b : Int32} (hG : aGd R) (b1 : a.toInt < 0) : xEv L xs d 52 0 [.ref 0, .int a, .int b] [] (124, I, J, R) (some (.int (-2))) (124, I, J, R) := by
  refine ev_go 1 (pc1 := 1) (lv1 := [.ref 0, .int a, .int b]) (st1 := [.int a]) (h1 := (124, I, J, R)) rfl ?_
  refine ev_br (b1 := true) rfl rfl (xcd_lt (x := a) (y := 0) (by rw [show ((0 : Int32)).toInt = 0 from by decide]; first | exact b1 | omega)) ?_
  refine ev_go 1 (pc1 := 20) (lv1 := [.ref 0, .int a, .int b]) (st1 := [.int (-2)]) (h1 := (124, I, J, R)) rfl ?_
  exact ev_ret rfl rfl
set_option maxRecDepth 20000 in
theorem tc_b_23 {L : Nat} {xs : Nat → Int32} {d : Nat} {I : Nat → Nat → Int32} {J : Nat → Nat → Int64} {R : Nat → Nat → Nat} {a b : Int32} (hG : aGd R) (b1 : a.toInt ≥ 0) (r_R_0_8 : R 0 8 = 24) (b2 : a.toInt ≥ (I 37 5).toInt) : xEv L xs d 52 0 [.ref 0, .int a, .int b] [] (124, I, J, R) (some (.int (-2))) (124, I, J, R) := by
  refine ev_go 1 (pc1 := 1) (lv1 := [.ref 0, .int a, .int b]) (st1 := [.int a]) (h1 := (124, I, J, R)) rfl ?_
  refine ev_br (b1 := false) rfl rfl (xcd_nlt (x := a) (y := 0) (by rw [show ((0 : Int32)).toInt = 0 from by decide]; first | exact b1 | omega)) ?_
  refine ev_go 2 (pc1 := 6) (lv1 := [.ref 0, .int a, .int b]) (st1 := [.ref 0, .int a]) (h1 := (124, I, J, R)) rfl ?_
  refine ev_gf (c := 0) (t := 23) (X := R 0 8) rfl rfl (fun _ => rfl) rfl r_R_0_8 ?_
  refine ev_gf (c := 23) (t := 37) (X := R 23 13) rfl rfl (fun _ => rfl) rfl (hG 23 13 37 rfl rfl) ?_
  refine ev_go 1 (pc1 := 15) (lv1 := [.ref 0, .int a, .int b]) (st1 := [.int (I 37 5), .int a]) (h1 := (124, I, J, R)) rfl ?_
  refine ev_br (b1 := false) rfl rfl (xcd_nlt (x := a) (y := (I 37 5)) (by first | exact b2 | omega)) ?_
  refine ev_go 1 (pc1 := 20) (lv1 := [.ref 0, .int a, .int b]) (st1 := [.int (-2)]) (h1 := (124, I, J, R)) rfl ?_
  exact ev_ret rfl rfl
set_option maxRecDepth 20000 in
theorem tc_0_23 {L : Nat} {xs : Nat → Int32} {d : Nat} {I : Nat → Nat → Int32} {J : Nat → Nat → Int64} {R : Nat → Nat → Nat} {a b r : Int32} (hG : aGd R) (b1 : a.toInt ≥ 0) (r_R_0_8 : R 0 8 = 24) (b2 : a.toInt < (I 37 5).toInt) (b3 : b.toInt = 0) (c1 : xEv L xs d 39 0 [.ref 38, .int a] [] (124, I, J, R) (some (.int r)) (124, I, J, R)) : xEv L xs (d + 1) 52 0 [.ref 0, .int a, .int b] [] (124, I, J, R) (some (.int r)) (124, I, J, R) := by
  refine ev_go 1 (pc1 := 1) (lv1 := [.ref 0, .int a, .int b]) (st1 := [.int a]) (h1 := (124, I, J, R)) rfl ?_
  refine ev_br (b1 := false) rfl rfl (xcd_nlt (x := a) (y := 0) (by rw [show ((0 : Int32)).toInt = 0 from by decide]; first | exact b1 | omega)) ?_
  refine ev_go 2 (pc1 := 6) (lv1 := [.ref 0, .int a, .int b]) (st1 := [.ref 0, .int a]) (h1 := (124, I, J, R)) rfl ?_
  refine ev_gf (c := 0) (t := 23) (X := R 0 8) rfl rfl (fun _ => rfl) rfl r_R_0_8 ?_
  refine ev_gf (c := 23) (t := 37) (X := R 23 13) rfl rfl (fun _ => rfl) rfl (hG 23 13 37 rfl rfl) ?_
  refine ev_go 1 (pc1 := 15) (lv1 := [.ref 0, .int a, .int b]) (st1 := [.int (I 37 5), .int a]) (h1 := (124, I, J, R)) rfl ?_
  refine ev_br (b1 := true) rfl rfl (xcd_lt (x := a) (y := (I 37 5)) (by first | exact b2 | omega)) ?_
  refine ev_go 1 (pc1 := 22) (lv1 := [.ref 0, .int a, .int b]) (st1 := [.int b]) (h1 := (124, I, J, R)) rfl ?_
  refine ev_lk1 (x := b) (z := 0) (t := 48) rfl rfl b3 rfl rfl ?_
  refine ev_go 1 (pc1 := 49) (lv1 := [.ref 0, .int a, .int b]) (st1 := [.ref 0]) (h1 := (124, I, J, R)) rfl ?_
  refine ev_gf (c := 0) (t := 23) (X := R 0 8) rfl rfl (fun _ => rfl) rfl r_R_0_8 ?_
  refine ev_gf (c := 23) (t := 37) (X := R 23 13) rfl rfl (fun _ => rfl) rfl (hG 23 13 37 rfl rfl) ?_
  refine ev_gf (c := 37) (t := 38) (X := R 37 0) rfl rfl (fun _ => rfl) rfl (hG 37 0 38 rfl rfl) ?_
  refine ev_go 1 (pc1 := 59) (lv1 := [.ref 0, .int a, .int b]) (st1 := [.int a, .ref 38]) (h1 := (124, I, J, R)) rfl ?_
  refine ev_call (v1 := (some (.int r))) (h1 := (124, I, J, R)) rfl rfl c1 ?_
  exact ev_ret rfl rfl
set_option maxRecDepth 20000 in
theorem tc_1_23 {L : Nat} {xs : Nat → Int32} {d : Nat} {I : Nat → Nat → Int32} {J : Nat → Nat → Int64} {R : Nat → Nat → Nat} {a b r : Int32} (hG : aGd R) (b1 : a.toInt ≥ 0) (r_R_0_8 : R 0 8 = 24) (b2 : a.toInt < (I 37 5).toInt) (b3 : b.toInt = 1) (c1 : xEv L xs d 39 0 [.ref 39, .int a] [] (124, I, J, R) (some (.int r)) (124, I, J, R)) : xEv L xs (d + 1) 52 0 [.ref 0, .int a, .int b] [] (124, I, J, R) (some (.int r)) (124, I, J, R) := by
  refine ev_go 1 (pc1 := 1) (lv1 := [.ref 0, .int a, .int b]) (st1 := [.int a]) (h1 := (124, I, J, R)) rfl ?_
  refine ev_br (b1 := false) rfl rfl (xcd_nlt (x := a) (y := 0) (by rw [show ((0 : Int32)).toInt = 0 from by decide]; first | exact b1 | omega)) ?_
  refine ev_go 2 (pc1 := 6) (lv1 := [.ref 0, .int a, .int b]) (st1 := [.ref 0, .int a]) (h1 := (124, I, J, R)) rfl ?_
  refine ev_gf (c := 0) (t := 23) (X := R 0 8) rfl rfl (fun _ => rfl) rfl r_R_0_8 ?_
  refine ev_gf (c := 23) (t := 37) (X := R 23 13) rfl rfl (fun _ => rfl) rfl (hG 23 13 37 rfl rfl) ?_
  refine ev_go 1 (pc1 := 15) (lv1 := [.ref 0, .int a, .int b]) (st1 := [.int (I 37 5), .int a]) (h1 := (124, I, J, R)) rfl ?_
  refine ev_br (b1 := true) rfl rfl (xcd_lt (x := a) (y := (I 37 5)) (by first | exact b2 | omega)) ?_
  refine ev_go 1 (pc1 := 22) (lv1 := [.ref 0, .int a, .int b]) (st1 := [.int b]) (h1 := (124, I, J, R)) rfl ?_
  refine ev_lk1 (x := b) (z := 1) (t := 63) rfl rfl b3 rfl rfl ?_
  refine ev_go 1 (pc1 := 64) (lv1 := [.ref 0, .int a, .int b]) (st1 := [.ref 0]) (h1 := (124, I, J, R)) rfl ?_
  refine ev_gf (c := 0) (t := 23) (X := R 0 8) rfl rfl (fun _ => rfl) rfl r_R_0_8 ?_
  refine ev_gf (c := 23) (t := 37) (X := R 23 13) rfl rfl (fun _ => rfl) rfl (hG 23 13 37 rfl rfl) ?_
  refine ev_gf (c := 37) (t := 39) (X := R 37 1) rfl rfl (fun _ => rfl) rfl (hG 37 1 39 rfl rfl) ?_
  refine ev_go 1 (pc1 := 74) (lv1 := [.ref 0, .int a, .int b]) (st1 := [.int a, .ref 39]) (h1 := (124, I, J, R)) rfl ?_
  refine ev_call (v1 := (some (.int r))) (h1 := (124, I, J, R)) rfl rfl c1 ?_
  exact ev_ret rfl rfl
set_option maxRecDepth 20000 in
theorem tc_d_23 {L : Nat} {xs : Nat → Int32} {d : Nat} {I : Nat → Nat → Int32} {J : Nat → Nat → Int64} {R : Nat → Nat → Nat} {a b : Int32} (hG : aGd R) (b1 : a.toInt ≥ 0) (r_R_0_8 : R 0 8 = 24) (b2 : a.toInt < (I 37 5).toInt) (b3 : b.toInt ≠ 0 ∧ b.toInt ≠ 1) : xEv L xs d 52 0 [.ref 0, .int a, .int b] [] (124, I, J, R) (some (.int (-2))) (124, I, J, R) := by
  refine ev_go 1 (pc1 := 1) (lv1 := [.ref 0, .int a, .int b]) (st1 := [.int a]) (h1 := (124, I, J, R)) rfl ?_
  refine ev_br (b1 := false) rfl rfl (xcd_nlt (x := a) (y := 0) (by rw [show ((0 : Int32)).toInt = 0 from by decide]; first | exact b1 | omega)) ?_
  refine ev_go 2 (pc1 := 6) (lv1 := [.ref 0, .int a, .int b]) (st1 := [.ref 0, .int a]) (h1 := (124, I, J, R)) rfl ?_
  refine ev_gf (c := 0) (t := 23) (X := R 0 8) rfl rfl (fun _ => rfl) rfl r_R_0_8 ?_
  refine ev_gf (c := 23) (t := 37) (X := R 23 13) rfl rfl (fun _ => rfl) rfl (hG 23 13 37 rfl rfl) ?_
  refine ev_go 1 (pc1 := 15) (lv1 := [.ref 0, .int a, .int b]) (st1 := [.int (I 37 5), .int a]) (h1 := (124, I, J, R)) rfl ?_
  refine ev_br (b1 := true) rfl rfl (xcd_lt (x := a) (y := (I 37 5)) (by first | exact b2 | omega)) ?_
  refine ev_go 1 (pc1 := 22) (lv1 := [.ref 0, .int a, .int b]) (st1 := [.int b]) (h1 := (124, I, J, R)) rfl ?_
  refine ev_lkp (x := b) (t := 78) rfl rfl (fun p hp => by have hp' : p ∈ [((0 : Int), (26 : Int)), (1, 41)] := hp; simp only [List.mem_cons, List.not_mem_nil, or_false] at hp'; rcases hp' with rfl | rfl; exact b3.1; exact b3.2) rfl ?_
  refine ev_go 1 (pc1 := 80) (lv1 := [.ref 0, .int a, .int b]) (st1 := [.int (-2)]) (h1 := (124, I, J, R)) rfl ?_
  exact ev_ret rfl rfl
set_option maxRecDepth 20000 in
theorem cc0_23 {L : Nat} {xs : Nat → Int32} {d : Nat} {I : Nat → Nat → Int32} {J : Nat → Nat → Int64} {R : Nat → Nat → Nat} {a : Int32} (hG : aGd R) (b1 : a.toInt = 0) (r_R_0_8 : R 0 8 = 24) : xEv L xs d 139 0 [.ref 0, .int a] [] (124, I, J, R) (some (.int (I 23 17))) (124, I, J, R) := by
  refine ev_go 1 (pc1 := 1) (lv1 := [.ref 0, .int a]) (st1 := [.int a]) (h1 := (124, I, J, R)) rfl ?_
  refine ev_lk1 (x := a) (z := 0) (t := 28) rfl rfl b1 rfl rfl ?_
  refine ev_go 1 (pc1 := 29) (lv1 := [.ref 0, .int a]) (st1 := [.ref 0]) (h1 := (124, I, J, R)) rfl ?_
  refine ev_gf (c := 0) (t := 23) (X := R 0 8) rfl rfl (fun _ => rfl) rfl r_R_0_8 ?_
  refine ev_go 1 (pc1 := 35) (lv1 := [.ref 0, .int a]) (st1 := [.int (I 23 17)]) (h1 := (124, I, J, R)) rfl ?_
  exact ev_ret rfl rfl
set_option maxRecDepth 20000 in
theorem cc1_23 {L : Nat} {xs : Nat → Int32} {d : Nat} {I : Nat → Nat → Int32} {J : Nat → Nat → Int64} {R : Nat → Nat → Nat} {a : Int32} (hG : aGd R) (b1 : a.toInt = 1) : xEv L xs d 139 0 [.ref 0, .int a] [] (124, I, J, R) (some (.int (I 1 1))) (124, I, J, R) := by
  refine ev_go 1 (pc1 := 1) (lv1 := [.ref 0, .int a]) (st1 := [.int a]) (h1 := (124, I, J, R)) rfl ?_
  refine ev_lk1 (x := a) (z := 1) (t := 36) rfl rfl b1 rfl rfl ?_
  refine ev_go 1 (pc1 := 37) (lv1 := [.ref 0, .int a]) (st1 := [.ref 0]) (h1 := (124, I, J, R)) rfl ?_
  refine ev_gf (c := 0) (t := 1) (X := R 0 0) rfl rfl (fun _ => rfl) rfl (hG 0 0 1 rfl rfl) ?_
  refine ev_go 1 (pc1 := 43) (lv1 := [.ref 0, .int a]) (st1 := [.int (I 1 1)]) (h1 := (124, I, J, R)) rfl ?_
  exact ev_ret rfl rfl
set_option maxRecDepth 20000 in
theorem cc2_23 {L : Nat} {xs : Nat → Int32} {d : Nat} {I : Nat → Nat → Int32} {J : Nat → Nat → Int64} {R : Nat → Nat → Nat} {a : Int32} (hG : aGd R) (b1 : a.toInt ≠ 0 ∧ a.toInt ≠ 1) : xEv L xs d 139 0 [.ref 0, .int a] [] (124, I, J, R) (some (.int (-1))) (124, I, J, R) := by
  refine ev_go 1 (pc1 := 1) (lv1 := [.ref 0, .int a]) (st1 := [.int a]) (h1 := (124, I, J, R)) rfl ?_
  refine ev_lkp (x := a) (t := 44) rfl rfl (fun p hp => by have hp' : p ∈ [((0 : Int), (27 : Int)), (1, 35)] := hp; simp only [List.mem_cons, List.not_mem_nil, or_false] at hp'; rcases hp' with rfl | rfl; exact b1.1; exact b1.2) rfl ?_
  refine ev_go 1 (pc1 := 45) (lv1 := [.ref 0, .int a]) (st1 := [.int (-1)]) (h1 := (124, I, J, R)) rfl ?_
  exact ev_ret rfl rfl
theorem mee_23 {L : Nat} {xs : Nat → Int32} {d : Nat} {I : Nat → Nat → Int32} {J : Nat → Nat → Int64} {R : Nat → Nat → Nat} {d' : Nat} (hG : aGd R) (h8 : R 0 8 = 24) {np nm nn : Nat} {l : List (Nat × Nat)} (hV : VR_23 np nm nn l I I) (a b : Int32) : ∃ r : Int32, xEv L xs (d + 1) 51 0 [.ref 0, .int a, .int b] [] (124, I, J, R) (some (.int r)) (124, I, J, R) ∧ xEv L xs (d' + 1) 169 0 [.ref 86, .int a, .int b] [] (124, I, J, R) (some (.int r)) (124, I, J, R) := by
  obtain ⟨⟨p1, p2, p3⟩, p4, p5, p6, ⟨q1, q2⟩, ⟨q3, q4⟩, ⟨q5, q6⟩, q7, q8, -⟩ := hV
  have e0 : (0 : Int32).toInt = 0 := by decide
  have e3 : (3 : Int32).toInt = 3 := by decide
  have e1 : (I 88 1 - 1).toInt = (nm : Int) - 1 := by
    rw [i_sub (by rw [show (1 : Int32).toInt = 1 from by decide]; omega) (by rw [show (1 : Int32).toInt = 1 from by decide]; omega), show (1 : Int32).toInt = 1 from by decide]
    omega
  have i0 := in_ex (L := L) (xs := xs) (d := d') (I := I) (J := J) hG a 0 (I 88 1 - 1)
  have i1 := in_ex (L := L) (xs := xs) (d := d') (I := I) (J := J) hG b 0 3
  rw [e0, e1] at i0
  rw [e0, e3] at i1
  by_cases hneg : a.toInt < 0
  · exact ⟨-2, mc_n_23 hG hneg, mm_x hG (i0.resolve_left (fun z => by have := z.1; omega)).2⟩
  by_cases hbig : a.toInt ≥ nm
  · exact ⟨-2, mc_b_23 hG (by omega) h8 (by omega), mm_x hG (i0.resolve_left (fun z => by have := z.1; omega)).2⟩
  have j0 := (i0.resolve_right (fun z => by have := z.1; omega)).2
  obtain ⟨z, hz⟩ := Int.eq_ofNat_of_zero_le (show 0 ≤ a.toInt by omega)
  have ec := clamp_s (i := a) (by omega)
  have ekz : a.toNatClampNeg = z := by omega
  obtain ⟨w1, w2, w3, w4⟩ := q8 z (by omega)
  have at1 : ∀ c, (∀ g : FieldType → Nat → Option xR, xarr (124, I, J, R) c g = g .int 16) → xEv L xs d 39 0 [.ref c, .int a] [] (124, I, J, R) (some (.int (I c z))) (124, I, J, R) := by
    intro c ho
    have h4 := at_run (L := L) (xs := xs) (d := d) (h := (124, I, J, R)) ho (by decide) a
    rw [if_pos ⟨by omega, by omega⟩, ekz] at h4
    exact h4
  by_cases hb : 0 ≤ b.toInt ∧ b.toInt ≤ 3
  rotate_left
  · exact ⟨-2, mc_d_23 hG (by omega) h8 (by omega) (by omega), mm_y hG j0 (i1.resolve_left (fun z => hb z.1)).2⟩
  have j1 := (i1.resolve_right (fun z => z.1 hb)).2
  have hb4 : b.toInt = 0 ∨ b.toInt = 1 ∨ b.toInt = 2 ∨ b.toInt = 3 := by omega
  rcases hb4 with h | h | h | h
  · have t := mg_0 (L := L) (xs := xs) (d := d') (J := J) hG j0 j1 (by omega) (by omega) (by omega)
    rw [ekz, ← w1] at t
    exact ⟨_, mc_0_23 hG (by omega) h8 (by omega) h (at1 27 (fun _ => rfl)), t⟩
  · have t := mg_1 (L := L) (xs := xs) (d := d') (J := J) hG j0 j1 (by omega) (by omega) (by omega) (by omega)
    rw [ekz, ← w2] at t
    exact ⟨_, mc_1_23 hG (by omega) h8 (by omega) h (at1 28 (fun _ => rfl)), t⟩
  · have t := mg_2 (L := L) (xs := xs) (d := d') (J := J) hG j0 j1 (by omega) (by omega) (by omega) (by omega) (by omega)
    rw [ekz, ← w3] at t
    exact ⟨_, mc_2_23 hG (by omega) h8 (by omega) h (at1 29 (fun _ => rfl)), t⟩
  · have t := mg_3 (L := L) (xs := xs) (d := d') (J := J) hG j0 j1 (by omega) (by omega) (by omega) (by omega) (by omega)
    rw [ekz, ← w4] at t
    exact ⟨_, mc_3_23 hG (by omega) h8 (by omega) h (at1 30 (fun _ => rfl)), t⟩
theorem tim_23 {L : Nat} {xs : Nat → Int32} {d : Nat} {I : Nat → Nat → Int32} {J : Nat → Nat → Int64} {R : Nat → Nat → Nat} {d' : Nat} (hG : aGd R) (h8 : R 0 8 = 24) {np nm nn : Nat} {l : List (Nat × Nat)} (hV : VR_23 np nm nn l I I) (a b : Int32) : ∃ r : Int32, xEv L xs (d + 1) 52 0 [.ref 0, .int a, .int b] [] (124, I, J, R) (some (.int r)) (124, I, J, R) ∧ xEv L xs (d' + 2) 170 0 [.ref 86, .int a, .int b] [] (124, I, J, R) (some (.int r)) (124, I, J, R) := by
  obtain ⟨⟨p1, p2, p3⟩, p4, p5, p6, ⟨q1, q2⟩, ⟨q3, q4⟩, ⟨q5, q6⟩, q7, q8, q9, ⟨q10, q11⟩, q12, -⟩ := hV
  have e0 : (0 : Int32).toInt = 0 := by decide
  have e1 : (1 : Int32).toInt = 1 := by decide
  have i0 := it_run (L := L) (xs := xs) (d := d') (I := I) (J := J) hG q11 a
  have i1 := in_ex (L := L) (xs := xs) (d := d' + 1) (I := I) (J := J) hG b 0 1
  rw [e0, e1] at i1
  by_cases hneg : a.toInt < 0
  · exact ⟨-2, tc_n_23 hG hneg, tt_x hG (i0.resolve_left (fun z => by have := z.1; omega)).2⟩
  by_cases hbig : a.toInt ≥ l.length
  · exact ⟨-2, tc_b_23 hG (by omega) h8 (by omega), tt_x hG (i0.resolve_left (fun z => by have := z.1; omega)).2⟩
  have j0 := (i0.resolve_right (fun z => by have := z.1; omega)).2
  obtain ⟨z, hz⟩ := Int.eq_ofNat_of_zero_le (show 0 ≤ a.toInt by omega)
  have ec := clamp_s (i := a) (by omega)
  have ekz : a.toNatClampNeg = z := by omega
  have hzl : z < l.length := by omega
  obtain ⟨w1, w2, w3, w4, -⟩ := q12 z (l[z]).1 (l[z]).2 (List.getElem?_eq_getElem hzl)
  have at1 : ∀ c, (∀ g : FieldType → Nat → Option xR, xarr (124, I, J, R) c g = g .int 64) → xEv L xs d 39 0 [.ref c, .int a] [] (124, I, J, R) (some (.int (I c z))) (124, I, J, R) := by
    intro c ho
    have h4 := at_run (L := L) (xs := xs) (d := d) (h := (124, I, J, R)) ho (by decide) a
    rw [if_pos ⟨by omega, by omega⟩, ekz] at h4
    exact h4
  by_cases g0 : b.toInt = 0
  · have t := tq_0 (L := L) (xs := xs) (d := d' + 1) (J := J) hG j0 (i1.resolve_right (fun z => by have := z.1; omega)).2 g0 (by omega) (by omega)
    rw [ekz, show I 102 z = I 38 z from Int32.toInt_inj.mp (by omega)] at t
    exact ⟨_, tc_0_23 hG (by omega) h8 (by omega) g0 (at1 38 (fun _ => rfl)), t⟩
  by_cases g1 : b.toInt = 1
  · have t := tq_1 (L := L) (xs := xs) (d := d' + 1) (J := J) hG j0 (i1.resolve_right (fun z => by have := z.1; omega)).2 g0 (by omega) (by omega)
    rw [ekz, show I 101 z = I 39 z from Int32.toInt_inj.mp (by omega)] at t
    exact ⟨_, tc_1_23 hG (by omega) h8 (by omega) g1 (at1 39 (fun _ => rfl)), t⟩
  · exact ⟨-2, tc_d_23 hG (by omega) h8 (by omega) ⟨g0, g1⟩, tt_y hG j0 (i1.resolve_left (fun z => by have := z.1; omega)).2⟩
theorem cou_23 {L : Nat} {xs : Nat → Int32} {d : Nat} {I : Nat → Nat → Int32} {J : Nat → Nat → Int64} {R : Nat → Nat → Nat} {d' : Nat} (hG : aGd R) (h8 : R 0 8 = 24) {np nm nn : Nat} {l : List (Nat × Nat)} (hV : VR_23 np nm nn l I I) (hT : (I 1 1).toInt = (I 86 1).toInt) (a : Int32) : ∃ r : Int32, xEv L xs d 139 0 [.ref 0, .int a] [] (124, I, J, R) (some (.int r)) (124, I, J, R) ∧ xEv L xs d' 236 0 [.ref 86, .int a] [] (124, I, J, R) (some (.int r)) (124, I, J, R) := by
  obtain ⟨⟨p1, p2, p3⟩, p4, p5, p6, ⟨q1, q2⟩, ⟨q3, q4⟩, ⟨q5, q6⟩, q7, q8, q9, ⟨q10, q11⟩, q12, q13, -⟩ := hV
  by_cases g0 : a.toInt = 0
  · have t := ct_0 (L := L) (xs := xs) (d := d') (I := I) (J := J) hG g0
    rw [← q13] at t
    exact ⟨_, cc0_23 hG g0 h8, t⟩
  by_cases g1 : a.toInt = 1
  · have t := ct_1 (L := L) (xs := xs) (d := d') (I := I) (J := J) hG g0 g1
    rw [← Int32.toInt_inj.mp hT] at t
    exact ⟨_, cc1_23 hG g1, t⟩
  · exact ⟨_, cc2_23 hG ⟨g0, g1⟩, ct_2 hG g0 g1⟩
set_option maxRecDepth 20000 in
theorem rq_0 {L : Nat} {xs : Nat → Int32} {d : Nat} {I : Nat → Nat → Int32} {J : Nat → Nat → Int64} {R : Nat → Nat → Nat} {a b c : Int32} (hG : aGd R) (c1 : xEv L xs d 167 0 [.ref 86, .int a] [] (124, I, J, R) (some (.int 0)) (124, I, J, R)) : xEv L xs (d + 1) 221 0 [.ref 86, .int a, .int b, .int c, xmk] [] (124, I, J, R) (some (.int (-2))) (124, I, J, R) := by
  refine ev_go 2 (pc1 := 2) (lv1 := [.ref 86, .int a, .int b, .int c, xmk]) (st1 := [.int a, .ref 86]) (h1 := (124, I, J, R)) rfl ?_
  refine ev_call (v1 := (some (.int 0))) (h1 := (124, I, J, R)) rfl rfl c1 ?_
  refine ev_go 2 (pc1 := 32) (lv1 := [.ref 86, .int a, .int b, .int c, xmk]) (st1 := [.int (-2)]) (h1 := (124, I, J, R)) rfl ?_
  exact ev_ret rfl rfl
set_option maxRecDepth 20000 in
theorem rq_1 {L : Nat} {xs : Nat → Int32} {d : Nat} {I : Nat → Nat → Int32} {J : Nat → Nat → Int64} {R : Nat → Nat → Nat} {a b c : Int32} (hG : aGd R) (c1 : xEv L xs d 167 0 [.ref 86, .int a] [] (124, I, J, R) (some (.int 1)) (124, I, J, R)) (c2 : xEv L xs d 160 0 [.int b, .int 0, .int 5] [] (124, I, J, R) (some (.int 0)) (124, I, J, R)) : xEv L xs (d + 1) 221 0 [.ref 86, .int a, .int b, .int c, xmk] [] (124, I, J, R) (some (.int (-2))) (124, I, J, R) := by
  refine ev_go 2 (pc1 := 2) (lv1 := [.ref 86, .int a, .int b, .int c, xmk]) (st1 := [.int a, .ref 86]) (h1 := (124, I, J, R)) rfl ?_
  refine ev_call (v1 := (some (.int 1))) (h1 := (124, I, J, R)) rfl rfl c1 ?_
  refine ev_go 4 (pc1 := 11) (lv1 := [.ref 86, .int a, .int b, .int c, xmk]) (st1 := [.int 5, .int 0, .int b]) (h1 := (124, I, J, R)) rfl ?_
  refine ev_call (v1 := (some (.int 0))) (h1 := (124, I, J, R)) rfl rfl c2 ?_
  refine ev_go 2 (pc1 := 32) (lv1 := [.ref 86, .int a, .int b, .int c, xmk]) (st1 := [.int (-2)]) (h1 := (124, I, J, R)) rfl ?_
  exact ev_ret rfl rfl
set_option maxRecDepth 20000 in
theorem rq_2 {L : Nat} {xs : Nat → Int32} {d : Nat} {I : Nat → Nat → Int32} {J : Nat → Nat → Int64} {R : Nat → Nat → Nat} {a b c : Int32} (hG : aGd R) (c1 : xEv L xs d 167 0 [.ref 86, .int a] [] (124, I, J, R) (some (.int 1)) (124, I, J, R)) (c2 : xEv L xs d 160 0 [.int b, .int 0, .int 5] [] (124, I, J, R) (some (.int 1)) (124, I, J, R)) (b1 : b.toInt = 1) (c3 : xEv L xs d 167 0 [.ref 86, .int c] [] (124, I, J, R) (some (.int 0)) (124, I, J, R)) : xEv L xs (d + 1) 221 0 [.ref 86, .int a, .int b, .int c, xmk] [] (124, I, J, R) (some (.int (-2))) (124, I, J, R) := by
  refine ev_go 2 (pc1 := 2) (lv1 := [.ref 86, .int a, .int b, .int c, xmk]) (st1 := [.int a, .ref 86]) (h1 := (124, I, J, R)) rfl ?_
  refine ev_call (v1 := (some (.int 1))) (h1 := (124, I, J, R)) rfl rfl c1 ?_
  refine ev_go 4 (pc1 := 11) (lv1 := [.ref 86, .int a, .int b, .int c, xmk]) (st1 := [.int 5, .int 0, .int b]) (h1 := (124, I, J, R)) rfl ?_
  refine ev_call (v1 := (some (.int 1))) (h1 := (124, I, J, R)) rfl rfl c2 ?_
  refine ev_go 3 (pc1 := 19) (lv1 := [.ref 86, .int a, .int b, .int c, xmk]) (st1 := [.int 1, .int b]) (h1 := (124, I, J, R)) rfl ?_
  refine ev_br (b1 := false) rfl rfl (xcd_nne (x := b) (y := 1) (by rw [show ((1 : Int32)).toInt = 1 from by decide]; first | exact b1 | omega)) ?_
  refine ev_go 2 (pc1 := 24) (lv1 := [.ref 86, .int a, .int b, .int c, xmk]) (st1 := [.int c, .ref 86]) (h1 := (124, I, J, R)) rfl ?_
  refine ev_call (v1 := (some (.int 0))) (h1 := (124, I, J, R)) rfl rfl c3 ?_
  refine ev_go 2 (pc1 := 32) (lv1 := [.ref 86, .int a, .int b, .int c, xmk]) (st1 := [.int (-2)]) (h1 := (124, I, J, R)) rfl ?_
  exact ev_ret rfl rfl
set_option maxRecDepth 20000 in
theorem rq_3 {L : Nat} {xs : Nat → Int32} {d : Nat} {I : Nat → Nat → Int32} {J : Nat → Nat → Int64} {R : Nat → Nat → Nat} {a b c : Int32} (hG : aGd R) (c1 : xEv L xs d 167 0 [.ref 86, .int a] [] (124, I, J, R) (some (.int 1)) (124, I, J, R)) (c2 : xEv L xs d 160 0 [.int b, .int 0, .int 5] [] (124, I, J, R) (some (.int 1)) (124, I, J, R)) (b1 : b.toInt = 1) (c3 : xEv L xs d 167 0 [.ref 86, .int c] [] (124, I, J, R) (some (.int 1)) (124, I, J, R)) (n1 : 0 ≤ a.toInt) (m1 : a.toInt < 7) (n2 : 0 ≤ a.toInt) (m2 : a.toInt < 7) (n3 : 0 ≤ a.toInt) (m3 : a.toInt < 7) : xEv L xs (d + 1) 221 0 [.ref 86, .int a, .int b, .int c, xmk] [] (124, I, J, R) (some (.int (I 119 a.toNatClampNeg))) (124, (uI (uI I 119 a.toNatClampNeg b) 120 a.toNatClampNeg c), J, R) := by
  refine ev_go 2 (pc1 := 2) (lv1 := [.ref 86, .int a, .int b, .int c, xmk]) (st1 := [.int a, .ref 86]) (h1 := (124, I, J, R)) rfl ?_
  refine ev_call (v1 := (some (.int 1))) (h1 := (124, I, J, R)) rfl rfl c1 ?_
  refine ev_go 4 (pc1 := 11) (lv1 := [.ref 86, .int a, .int b, .int c, xmk]) (st1 := [.int 5, .int 0, .int b]) (h1 := (124, I, J, R)) rfl ?_
  refine ev_call (v1 := (some (.int 1))) (h1 := (124, I, J, R)) rfl rfl c2 ?_
  refine ev_go 3 (pc1 := 19) (lv1 := [.ref 86, .int a, .int b, .int c, xmk]) (st1 := [.int 1, .int b]) (h1 := (124, I, J, R)) rfl ?_
  refine ev_br (b1 := false) rfl rfl (xcd_nne (x := b) (y := 1) (by rw [show ((1 : Int32)).toInt = 1 from by decide]; first | exact b1 | omega)) ?_
  refine ev_go 2 (pc1 := 24) (lv1 := [.ref 86, .int a, .int b, .int c, xmk]) (st1 := [.int c, .ref 86]) (h1 := (124, I, J, R)) rfl ?_
  refine ev_call (v1 := (some (.int 1))) (h1 := (124, I, J, R)) rfl rfl c3 ?_
  refine ev_go 2 (pc1 := 34) (lv1 := [.ref 86, .int a, .int b, .int c, xmk]) (st1 := [.ref 86]) (h1 := (124, I, J, R)) rfl ?_
  refine ev_gf (c := 86) (t := 119) (X := R 86 54) rfl rfl (fun _ => rfl) rfl (hG 86 54 119 rfl rfl) ?_
  refine ev_go 1 (pc1 := 38) (lv1 := [.ref 86, .int a, .int b, .int c, xmk]) (st1 := [.int a, .ref 119]) (h1 := (124, I, J, R)) rfl ?_
  refine ev_ild (n := 7) rfl rfl (fun _ => rfl) n1 m1 ?_
  refine ev_go 2 (pc1 := 42) (lv1 := [.ref 86, .int a, .int b, .int c, .int (I 119 a.toNatClampNeg)]) (st1 := [.ref 86]) (h1 := (124, I, J, R)) rfl ?_
  refine ev_gf (c := 86) (t := 119) (X := R 86 54) rfl rfl (fun _ => rfl) rfl (hG 86 54 119 rfl rfl) ?_
  refine ev_go 2 (pc1 := 47) (lv1 := [.ref 86, .int a, .int b, .int c, .int (I 119 a.toNatClampNeg)]) (st1 := [.int b, .int a, .ref 119]) (h1 := (124, I, J, R)) rfl ?_
  refine ev_ist (n := 7) rfl rfl (fun _ => rfl) n2 m2 ?_
  refine ev_go 1 (pc1 := 49) (lv1 := [.ref 86, .int a, .int b, .int c, .int (I 119 a.toNatClampNeg)]) (st1 := [.ref 86]) (h1 := (124, (uI I 119 a.toNatClampNeg b), J, R)) rfl ?_
  refine ev_gf (c := 86) (t := 120) (X := R 86 55) rfl rfl (fun _ => rfl) rfl (hG 86 55 120 rfl rfl) ?_
  refine ev_go 2 (pc1 := 54) (lv1 := [.ref 86, .int a, .int b, .int c, .int (I 119 a.toNatClampNeg)]) (st1 := [.int c, .int a, .ref 120]) (h1 := (124, (uI I 119 a.toNatClampNeg b), J, R)) rfl ?_
  refine ev_ist (n := 7) rfl rfl (fun _ => rfl) n3 m3 ?_
  refine ev_go 1 (pc1 := 57) (lv1 := [.ref 86, .int a, .int b, .int c, .int (I 119 a.toNatClampNeg)]) (st1 := [.int (I 119 a.toNatClampNeg)]) (h1 := (124, (uI (uI I 119 a.toNatClampNeg b) 120 a.toNatClampNeg c), J, R)) rfl ?_
  exact ev_ret rfl rfl
set_option maxRecDepth 20000 in
theorem rq_4 {L : Nat} {xs : Nat → Int32} {d : Nat} {I : Nat → Nat → Int32} {J : Nat → Nat → Int64} {R : Nat → Nat → Nat} {a b c : Int32} (hG : aGd R) (c1 : xEv L xs d 167 0 [.ref 86, .int a] [] (124, I, J, R) (some (.int 1)) (124, I, J, R)) (c2 : xEv L xs d 160 0 [.int b, .int 0, .int 5] [] (124, I, J, R) (some (.int 1)) (124, I, J, R)) (b1 : b.toInt ≠ 1) (n1 : 0 ≤ a.toInt) (m1 : a.toInt < 7) (n2 : 0 ≤ a.toInt) (m2 : a.toInt < 7) (n3 : 0 ≤ a.toInt) (m3 : a.toInt < 7) : xEv L xs (d + 1) 221 0 [.ref 86, .int a, .int b, .int c, xmk] [] (124, I, J, R) (some (.int (I 119 a.toNatClampNeg))) (124, (uI (uI I 119 a.toNatClampNeg b) 120 a.toNatClampNeg c), J, R) := by
  refine ev_go 2 (pc1 := 2) (lv1 := [.ref 86, .int a, .int b, .int c, xmk]) (st1 := [.int a, .ref 86]) (h1 := (124, I, J, R)) rfl ?_
  refine ev_call (v1 := (some (.int 1))) (h1 := (124, I, J, R)) rfl rfl c1 ?_
  refine ev_go 4 (pc1 := 11) (lv1 := [.ref 86, .int a, .int b, .int c, xmk]) (st1 := [.int 5, .int 0, .int b]) (h1 := (124, I, J, R)) rfl ?_
  refine ev_call (v1 := (some (.int 1))) (h1 := (124, I, J, R)) rfl rfl c2 ?_
  refine ev_go 3 (pc1 := 19) (lv1 := [.ref 86, .int a, .int b, .int c, xmk]) (st1 := [.int 1, .int b]) (h1 := (124, I, J, R)) rfl ?_
  refine ev_br (b1 := true) rfl rfl (xcd_ne (x := b) (y := 1) (by rw [show ((1 : Int32)).toInt = 1 from by decide]; first | exact b1 | omega)) ?_
  refine ev_go 1 (pc1 := 34) (lv1 := [.ref 86, .int a, .int b, .int c, xmk]) (st1 := [.ref 86]) (h1 := (124, I, J, R)) rfl ?_
  refine ev_gf (c := 86) (t := 119) (X := R 86 54) rfl rfl (fun _ => rfl) rfl (hG 86 54 119 rfl rfl) ?_
  refine ev_go 1 (pc1 := 38) (lv1 := [.ref 86, .int a, .int b, .int c, xmk]) (st1 := [.int a, .ref 119]) (h1 := (124, I, J, R)) rfl ?_
  refine ev_ild (n := 7) rfl rfl (fun _ => rfl) n1 m1 ?_
  refine ev_go 2 (pc1 := 42) (lv1 := [.ref 86, .int a, .int b, .int c, .int (I 119 a.toNatClampNeg)]) (st1 := [.ref 86]) (h1 := (124, I, J, R)) rfl ?_
  refine ev_gf (c := 86) (t := 119) (X := R 86 54) rfl rfl (fun _ => rfl) rfl (hG 86 54 119 rfl rfl) ?_
  refine ev_go 2 (pc1 := 47) (lv1 := [.ref 86, .int a, .int b, .int c, .int (I 119 a.toNatClampNeg)]) (st1 := [.int b, .int a, .ref 119]) (h1 := (124, I, J, R)) rfl ?_
  refine ev_ist (n := 7) rfl rfl (fun _ => rfl) n2 m2 ?_
  refine ev_go 1 (pc1 := 49) (lv1 := [.ref 86, .int a, .int b, .int c, .int (I 119 a.toNatClampNeg)]) (st1 := [.ref 86]) (h1 := (124, (uI I 119 a.toNatClampNeg b), J, R)) rfl ?_
  refine ev_gf (c := 86) (t := 120) (X := R 86 55) rfl rfl (fun _ => rfl) rfl (hG 86 55 120 rfl rfl) ?_
  refine ev_go 2 (pc1 := 54) (lv1 := [.ref 86, .int a, .int b, .int c, .int (I 119 a.toNatClampNeg)]) (st1 := [.int c, .int a, .ref 120]) (h1 := (124, (uI I 119 a.toNatClampNeg b), J, R)) rfl ?_
  refine ev_ist (n := 7) rfl rfl (fun _ => rfl) n3 m3 ?_
  refine ev_go 1 (pc1 := 57) (lv1 := [.ref 86, .int a, .int b, .int c, .int (I 119 a.toNatClampNeg)]) (st1 := [.int (I 119 a.toNatClampNeg)]) (h1 := (124, (uI (uI I 119 a.toNatClampNeg b) 120 a.toNatClampNeg c), J, R)) rfl ?_
  exact ev_ret rfl rfl
set_option maxRecDepth 20000 in
theorem rc_x_3 {L : Nat} {xs : Nat → Int32} {d : Nat} {I : Nat → Nat → Int32} {J : Nat → Nat → Int64} {R : Nat → Nat → Nat} {a b c : Int32} (hG : aGd R) (r_R_0_8 : R 0 8 = 4) (c1 : xEv L xs d 64 0 [.ref 3, .int a] [] (124, I, J, R) (some (.int 0)) (124, I, J, R)) : xEv L xs (d + 1) 119 0 [.ref 0, .int a, .int b, .int c, xmk] [] (124, I, J, R) (some (.int (-2))) (124, I, J, R) := by
  refine ev_go 1 (pc1 := 1) (lv1 := [.ref 0, .int a, .int b, .int c, xmk]) (st1 := [.ref 0]) (h1 := (124, I, J, R)) rfl ?_
  refine ev_gf (c := 0) (t := 3) (X := R 0 8) rfl rfl (fun _ => rfl) rfl r_R_0_8 ?_
  refine ev_go 1 (pc1 := 5) (lv1 := [.ref 0, .int a, .int b, .int c, xmk]) (st1 := [.int a, .ref 3]) (h1 := (124, I, J, R)) rfl ?_
  refine ev_call (v1 := (some (.int 0))) (h1 := (124, I, J, R)) rfl rfl c1 ?_
  refine ev_go 2 (pc1 := 38) (lv1 := [.ref 0, .int a, .int b, .int c, xmk]) (st1 := [.int (-2)]) (h1 := (124, I, J, R)) rfl ?_
  exact ev_ret rfl rfl
set_option maxRecDepth 20000 in
theorem rc_a_3 {L : Nat} {xs : Nat → Int32} {d : Nat} {I : Nat → Nat → Int32} {J : Nat → Nat → Int64} {R : Nat → Nat → Nat} {a b c : Int32} (hG : aGd R) (r_R_0_8 : R 0 8 = 4) (c1 : xEv L xs d 64 0 [.ref 3, .int a] [] (124, I, J, R) (some (.int 1)) (124, I, J, R)) (b1 : b.toInt < 0) : xEv L xs (d + 1) 119 0 [.ref 0, .int a, .int b, .int c, xmk] [] (124, I, J, R) (some (.int (-2))) (124, I, J, R) := by
  refine ev_go 1 (pc1 := 1) (lv1 := [.ref 0, .int a, .int b, .int c, xmk]) (st1 := [.ref 0]) (h1 := (124, I, J, R)) rfl ?_
  refine ev_gf (c := 0) (t := 3) (X := R 0 8) rfl rfl (fun _ => rfl) rfl r_R_0_8 ?_
  refine ev_go 1 (pc1 := 5) (lv1 := [.ref 0, .int a, .int b, .int c, xmk]) (st1 := [.int a, .ref 3]) (h1 := (124, I, J, R)) rfl ?_
  refine ev_call (v1 := (some (.int 1))) (h1 := (124, I, J, R)) rfl rfl c1 ?_
  refine ev_go 2 (pc1 := 12) (lv1 := [.ref 0, .int a, .int b, .int c, xmk]) (st1 := [.int b]) (h1 := (124, I, J, R)) rfl ?_
  refine ev_br (b1 := true) rfl rfl (xcd_lt (x := b) (y := 0) (by rw [show ((0 : Int32)).toInt = 0 from by decide]; first | exact b1 | omega)) ?_
  refine ev_go 1 (pc1 := 38) (lv1 := [.ref 0, .int a, .int b, .int c, xmk]) (st1 := [.int (-2)]) (h1 := (124, I, J, R)) rfl ?_
  exact ev_ret rfl rfl
set_option maxRecDepth 20000 in
theorem rc_b_3 {L : Nat} {xs : Nat → Int32} {d : Nat} {I : Nat → Nat → Int32} {J : Nat → Nat → Int64} {R : Nat → Nat → Nat} {a b c : Int32} (hG : aGd R) (r_R_0_8 : R 0 8 = 4) (c1 : xEv L xs d 64 0 [.ref 3, .int a] [] (124, I, J, R) (some (.int 1)) (124, I, J, R)) (b1 : b.toInt ≥ 0) (b2 : b.toInt > 5) : xEv L xs (d + 1) 119 0 [.ref 0, .int a, .int b, .int c, xmk] [] (124, I, J, R) (some (.int (-2))) (124, I, J, R) := by
  refine ev_go 1 (pc1 := 1) (lv1 := [.ref 0, .int a, .int b, .int c, xmk]) (st1 := [.ref 0]) (h1 := (124, I, J, R)) rfl ?_
  refine ev_gf (c := 0) (t := 3) (X := R 0 8) rfl rfl (fun _ => rfl) rfl r_R_0_8 ?_
  refine ev_go 1 (pc1 := 5) (lv1 := [.ref 0, .int a, .int b, .int c, xmk]) (st1 := [.int a, .ref 3]) (h1 := (124, I, J, R)) rfl ?_
  refine ev_call (v1 := (some (.int 1))) (h1 := (124, I, J, R)) rfl rfl c1 ?_
  refine ev_go 2 (pc1 := 12) (lv1 := [.ref 0, .int a, .int b, .int c, xmk]) (st1 := [.int b]) (h1 := (124, I, J, R)) rfl ?_
  refine ev_br (b1 := false) rfl rfl (xcd_nlt (x := b) (y := 0) (by rw [show ((0 : Int32)).toInt = 0 from by decide]; first | exact b1 | omega)) ?_
  refine ev_go 2 (pc1 := 17) (lv1 := [.ref 0, .int a, .int b, .int c, xmk]) (st1 := [.int 5, .int b]) (h1 := (124, I, J, R)) rfl ?_
  refine ev_br (b1 := true) rfl rfl (xcd_gt (x := b) (y := 5) (by rw [show ((5 : Int32)).toInt = 5 from by decide]; first | exact b2 | omega)) ?_
  refine ev_go 1 (pc1 := 38) (lv1 := [.ref 0, .int a, .int b, .int c, xmk]) (st1 := [.int (-2)]) (h1 := (124, I, J, R)) rfl ?_
  exact ev_ret rfl rfl
set_option maxRecDepth 20000 in
theorem rc_c_3 {L : Nat} {xs : Nat → Int32} {d : Nat} {I : Nat → Nat → Int32} {J : Nat → Nat → Int64} {R : Nat → Nat → Nat} {a b c : Int32} (hG : aGd R) (r_R_0_8 : R 0 8 = 4) (c1 : xEv L xs d 64 0 [.ref 3, .int a] [] (124, I, J, R) (some (.int 1)) (124, I, J, R)) (b1 : b.toInt ≥ 0) (b2 : b.toInt ≤ 5) (b3 : b.toInt = 1) (c2 : xEv L xs d 64 0 [.ref 3, .int c] [] (124, I, J, R) (some (.int 0)) (124, I, J, R)) : xEv L xs (d + 1) 119 0 [.ref 0, .int a, .int b, .int c, xmk] [] (124, I, J, R) (some (.int (-2))) (124, I, J, R) := by
  refine ev_go 1 (pc1 := 1) (lv1 := [.ref 0, .int a, .int b, .int c, xmk]) (st1 := [.ref 0]) (h1 := (124, I, J, R)) rfl ?_
  refine ev_gf (c := 0) (t := 3) (X := R 0 8) rfl rfl (fun _ => rfl) rfl r_R_0_8 ?_
  refine ev_go 1 (pc1 := 5) (lv1 := [.ref 0, .int a, .int b, .int c, xmk]) (st1 := [.int a, .ref 3]) (h1 := (124, I, J, R)) rfl ?_
  refine ev_call (v1 := (some (.int 1))) (h1 := (124, I, J, R)) rfl rfl c1 ?_
  refine ev_go 2 (pc1 := 12) (lv1 := [.ref 0, .int a, .int b, .int c, xmk]) (st1 := [.int b]) (h1 := (124, I, J, R)) rfl ?_
  refine ev_br (b1 := false) rfl rfl (xcd_nlt (x := b) (y := 0) (by rw [show ((0 : Int32)).toInt = 0 from by decide]; first | exact b1 | omega)) ?_
  refine ev_go 2 (pc1 := 17) (lv1 := [.ref 0, .int a, .int b, .int c, xmk]) (st1 := [.int 5, .int b]) (h1 := (124, I, J, R)) rfl ?_
  refine ev_br (b1 := false) rfl rfl (xcd_ngt (x := b) (y := 5) (by rw [show ((5 : Int32)).toInt = 5 from by decide]; first | exact b2 | omega)) ?_
  refine ev_go 2 (pc1 := 22) (lv1 := [.ref 0, .int a, .int b, .int c, xmk]) (st1 := [.int 1, .int b]) (h1 := (124, I, J, R)) rfl ?_
  refine ev_br (b1 := false) rfl rfl (xcd_nne (x := b) (y := 1) (by rw [show ((1 : Int32)).toInt = 1 from by decide]; first | exact b3 | omega)) ?_
  refine ev_go 1 (pc1 := 26) (lv1 := [.ref 0, .int a, .int b, .int c, xmk]) (st1 := [.ref 0]) (h1 := (124, I, J, R)) rfl ?_
  refine ev_gf (c := 0) (t := 3) (X := R 0 8) rfl rfl (fun _ => rfl) rfl r_R_0_8 ?_
  refine ev_go 1 (pc1 := 30) (lv1 := [.ref 0, .int a, .int b, .int c, xmk]) (st1 := [.int c, .ref 3]) (h1 := (124, I, J, R)) rfl ?_
  refine ev_call (v1 := (some (.int 0))) (h1 := (124, I, J, R)) rfl rfl c2 ?_
  refine ev_go 2 (pc1 := 38) (lv1 := [.ref 0, .int a, .int b, .int c, xmk]) (st1 := [.int (-2)]) (h1 := (124, I, J, R)) rfl ?_
  exact ev_ret rfl rfl
set_option maxRecDepth 20000 in
theorem rc_d_3 {L : Nat} {xs : Nat → Int32} {d : Nat} {I : Nat → Nat → Int32} {J : Nat → Nat → Int64} {R : Nat → Nat → Nat} {a b c r : Int32} (hG : aGd R) (r_R_0_8 : R 0 8 = 4) (c1 : xEv L xs d 64 0 [.ref 3, .int a] [] (124, I, J, R) (some (.int 1)) (124, I, J, R)) (b1 : b.toInt ≥ 0) (b2 : b.toInt ≤ 5) (b3 : b.toInt = 1) (c2 : xEv L xs d 64 0 [.ref 3, .int c] [] (124, I, J, R) (some (.int 1)) (124, I, J, R)) (c3 : xEv L xs d 39 0 [.ref 64, .int a] [] (124, I, J, R) (some (.int r)) (124, I, J, R)) (c4 : xEv L xs d 33 0 [.ref 64, .int a, .int b] [] (124, I, J, R) none (124, (uI I 64 a.toNatClampNeg b), J, R)) (c5 : xEv L xs d 33 0 [.ref 65, .int a, .int c] [] (124, (uI I 64 a.toNatClampNeg b), J, R) none (124, (uI (uI I 64 a.toNatClampNeg b) 65 a.toNatClampNeg c), J, R)) : xEv L xs (d + 1) 119 0 [.ref 0, .int a, .int b, .int c, xmk] [] (124, I, J, R) (some (.int r)) (124, (uI (uI I 64 a.toNatClampNeg b) 65 a.toNatClampNeg c), J, R) := by
  refine ev_go 1 (pc1 := 1) (lv1 := [.ref 0, .int a, .int b, .int c, xmk]) (st1 := [.ref 0]) (h1 := (124, I, J, R)) rfl ?_
  refine ev_gf (c := 0) (t := 3) (X := R 0 8) rfl rfl (fun _ => rfl) rfl r_R_0_8 ?_
  refine ev_go 1 (pc1 := 5) (lv1 := [.ref 0, .int a, .int b, .int c, xmk]) (st1 := [.int a, .ref 3]) (h1 := (124, I, J, R)) rfl ?_
  refine ev_call (v1 := (some (.int 1))) (h1 := (124, I, J, R)) rfl rfl c1 ?_
  refine ev_go 2 (pc1 := 12) (lv1 := [.ref 0, .int a, .int b, .int c, xmk]) (st1 := [.int b]) (h1 := (124, I, J, R)) rfl ?_
  refine ev_br (b1 := false) rfl rfl (xcd_nlt (x := b) (y := 0) (by rw [show ((0 : Int32)).toInt = 0 from by decide]; first | exact b1 | omega)) ?_
  refine ev_go 2 (pc1 := 17) (lv1 := [.ref 0, .int a, .int b, .int c, xmk]) (st1 := [.int 5, .int b]) (h1 := (124, I, J, R)) rfl ?_
  refine ev_br (b1 := false) rfl rfl (xcd_ngt (x := b) (y := 5) (by rw [show ((5 : Int32)).toInt = 5 from by decide]; first | exact b2 | omega)) ?_
  refine ev_go 2 (pc1 := 22) (lv1 := [.ref 0, .int a, .int b, .int c, xmk]) (st1 := [.int 1, .int b]) (h1 := (124, I, J, R)) rfl ?_
  refine ev_br (b1 := false) rfl rfl (xcd_nne (x := b) (y := 1) (by rw [show ((1 : Int32)).toInt = 1 from by decide]; first | exact b3 | omega)) ?_
  refine ev_go 1 (pc1 := 26) (lv1 := [.ref 0, .int a, .int b, .int c, xmk]) (st1 := [.ref 0]) (h1 := (124, I, J, R)) rfl ?_
  refine ev_gf (c := 0) (t := 3) (X := R 0 8) rfl rfl (fun _ => rfl) rfl r_R_0_8 ?_
  refine ev_go 1 (pc1 := 30) (lv1 := [.ref 0, .int a, .int b, .int c, xmk]) (st1 := [.int c, .ref 3]) (h1 := (124, I, J, R)) rfl ?_
  refine ev_call (v1 := (some (.int 1))) (h1 := (124, I, J, R)) rfl rfl c2 ?_
  refine ev_go 2 (pc1 := 40) (lv1 := [.ref 0, .int a, .int b, .int c, xmk]) (st1 := [.ref 0]) (h1 := (124, I, J, R)) rfl ?_
  refine ev_gf (c := 0) (t := 63) (X := R 0 7) rfl rfl (fun _ => rfl) rfl (hG 0 7 63 rfl rfl) ?_
  refine ev_gf (c := 63) (t := 64) (X := R 63 0) rfl rfl (fun _ => rfl) rfl (hG 63 0 64 rfl rfl) ?_
  refine ev_go 1 (pc1 := 47) (lv1 := [.ref 0, .int a, .int b, .int c, xmk]) (st1 := [.int a, .ref 64]) (h1 := (124, I, J, R)) rfl ?_
  refine ev_call (v1 := (some (.int r))) (h1 := (124, I, J, R)) rfl rfl c3 ?_
  refine ev_go 2 (pc1 := 53) (lv1 := [.ref 0, .int a, .int b, .int c, .int r]) (st1 := [.ref 0]) (h1 := (124, I, J, R)) rfl ?_
  refine ev_gf (c := 0) (t := 63) (X := R 0 7) rfl rfl (fun _ => rfl) rfl (hG 0 7 63 rfl rfl) ?_
  refine ev_gf (c := 63) (t := 64) (X := R 63 0) rfl rfl (fun _ => rfl) rfl (hG 63 0 64 rfl rfl) ?_
  refine ev_go 2 (pc1 := 61) (lv1 := [.ref 0, .int a, .int b, .int c, .int r]) (st1 := [.int b, .int a, .ref 64]) (h1 := (124, I, J, R)) rfl ?_
  refine ev_call (v1 := none) (h1 := (124, (uI I 64 a.toNatClampNeg b), J, R)) rfl rfl c4 ?_
  refine ev_go 1 (pc1 := 65) (lv1 := [.ref 0, .int a, .int b, .int c, .int r]) (st1 := [.ref 0]) (h1 := (124, (uI I 64 a.toNatClampNeg b), J, R)) rfl ?_
  refine ev_gf (c := 0) (t := 63) (X := R 0 7) rfl rfl (fun _ => rfl) rfl (hG 0 7 63 rfl rfl) ?_
  refine ev_gf (c := 63) (t := 65) (X := R 63 1) rfl rfl (fun _ => rfl) rfl (hG 63 1 65 rfl rfl) ?_
  refine ev_go 2 (pc1 := 73) (lv1 := [.ref 0, .int a, .int b, .int c, .int r]) (st1 := [.int c, .int a, .ref 65]) (h1 := (124, (uI I 64 a.toNatClampNeg b), J, R)) rfl ?_
  refine ev_call (v1 := none) (h1 := (124, (uI (uI I 64 a.toNatClampNeg b) 65 a.toNatClampNeg c), J, R)) rfl rfl c5 ?_
  refine ev_go 1 (pc1 := 78) (lv1 := [.ref 0, .int a, .int b, .int c, .int r]) (st1 := [.int r]) (h1 := (124, (uI (uI I 64 a.toNatClampNeg b) 65 a.toNatClampNeg c), J, R)) rfl ?_
  exact ev_ret rfl rfl
set_option maxRecDepth 20000 in
theorem rc_e_3 {L : Nat} {xs : Nat → Int32} {d : Nat} {I : Nat → Nat → Int32} {J : Nat → Nat → Int64} {R : Nat → Nat → Nat} {a b c r : Int32} (hG : aGd R) (r_R_0_8 : R 0 8 = 4) (c1 : xEv L xs d 64 0 [.ref 3, .int a] [] (124, I, J, R) (some (.int 1)) (124, I, J, R)) (b1 : b.toInt ≥ 0) (b2 : b.toInt ≤ 5) (b3 : b.toInt ≠ 1) (c2 : xEv L xs d 39 0 [.ref 64, .int a] [] (124, I, J, R) (some (.int r)) (124, I, J, R)) (c3 : xEv L xs d 33 0 [.ref 64, .int a, .int b] [] (124, I, J, R) none (124, (uI I 64 a.toNatClampNeg b), J, R)) (c4 : xEv L xs d 33 0 [.ref 65, .int a, .int c] [] (124, (uI I 64 a.toNatClampNeg b), J, R) none (124, (uI (uI I 64 a.toNatClampNeg b) 65 a.toNatClampNeg c), J, R)) : xEv L xs (d + 1) 119 0 [.ref 0, .int a, .int b, .int c, xmk] [] (124, I, J, R) (some (.int r)) (124, (uI (uI I 64 a.toNatClampNeg b) 65 a.toNatClampNeg c), J, R) := by
  refine ev_go 1 (pc1 := 1) (lv1 := [.ref 0, .int a, .int b, .int c, xmk]) (st1 := [.ref 0]) (h1 := (124, I, J, R)) rfl ?_
  refine ev_gf (c := 0) (t := 3) (X := R 0 8) rfl rfl (fun _ => rfl) rfl r_R_0_8 ?_
  refine ev_go 1 (pc1 := 5) (lv1 := [.ref 0, .int a, .int b, .int c, xmk]) (st1 := [.int a, .ref 3]) (h1 := (124, I, J, R)) rfl ?_
  refine ev_call (v1 := (some (.int 1))) (h1 := (124, I, J, R)) rfl rfl c1 ?_
  refine ev_go 2 (pc1 := 12) (lv1 := [.ref 0, .int a, .int b, .int c, xmk]) (st1 := [.int b]) (h1 := (124, I, J, R)) rfl ?_
  refine ev_br (b1 := false) rfl rfl (xcd_nlt (x := b) (y := 0) (by rw [show ((0 : Int32)).toInt = 0 from by decide]; first | exact b1 | omega)) ?_
  refine ev_go 2 (pc1 := 17) (lv1 := [.ref 0, .int a, .int b, .int c, xmk]) (st1 := [.int 5, .int b]) (h1 := (124, I, J, R)) rfl ?_
  refine ev_br (b1 := false) rfl rfl (xcd_ngt (x := b) (y := 5) (by rw [show ((5 : Int32)).toInt = 5 from by decide]; first | exact b2 | omega)) ?_
  refine ev_go 2 (pc1 := 22) (lv1 := [.ref 0, .int a, .int b, .int c, xmk]) (st1 := [.int 1, .int b]) (h1 := (124, I, J, R)) rfl ?_
  refine ev_br (b1 := true) rfl rfl (xcd_ne (x := b) (y := 1) (by rw [show ((1 : Int32)).toInt = 1 from by decide]; first | exact b3 | omega)) ?_
  refine ev_go 1 (pc1 := 40) (lv1 := [.ref 0, .int a, .int b, .int c, xmk]) (st1 := [.ref 0]) (h1 := (124, I, J, R)) rfl ?_
  refine ev_gf (c := 0) (t := 63) (X := R 0 7) rfl rfl (fun _ => rfl) rfl (hG 0 7 63 rfl rfl) ?_
  refine ev_gf (c := 63) (t := 64) (X := R 63 0) rfl rfl (fun _ => rfl) rfl (hG 63 0 64 rfl rfl) ?_
  refine ev_go 1 (pc1 := 47) (lv1 := [.ref 0, .int a, .int b, .int c, xmk]) (st1 := [.int a, .ref 64]) (h1 := (124, I, J, R)) rfl ?_
  refine ev_call (v1 := (some (.int r))) (h1 := (124, I, J, R)) rfl rfl c2 ?_
  refine ev_go 2 (pc1 := 53) (lv1 := [.ref 0, .int a, .int b, .int c, .int r]) (st1 := [.ref 0]) (h1 := (124, I, J, R)) rfl ?_
  refine ev_gf (c := 0) (t := 63) (X := R 0 7) rfl rfl (fun _ => rfl) rfl (hG 0 7 63 rfl rfl) ?_
  refine ev_gf (c := 63) (t := 64) (X := R 63 0) rfl rfl (fun _ => rfl) rfl (hG 63 0 64 rfl rfl) ?_
  refine ev_go 2 (pc1 := 61) (lv1 := [.ref 0, .int a, .int b, .int c, .int r]) (st1 := [.int b, .int a, .ref 64]) (h1 := (124, I, J, R)) rfl ?_
  refine ev_call (v1 := none) (h1 := (124, (uI I 64 a.toNatClampNeg b), J, R)) rfl rfl c3 ?_
  refine ev_go 1 (pc1 := 65) (lv1 := [.ref 0, .int a, .int b, .int c, .int r]) (st1 := [.ref 0]) (h1 := (124, (uI I 64 a.toNatClampNeg b), J, R)) rfl ?_
  refine ev_gf (c := 0) (t := 63) (X := R 0 7) rfl rfl (fun _ => rfl) rfl (hG 0 7 63 rfl rfl) ?_
  refine ev_gf (c := 63) (t := 65) (X := R 63 1) rfl rfl (fun _ => rfl) rfl (hG 63 1 65 rfl rfl) ?_
  refine ev_go 2 (pc1 := 73) (lv1 := [.ref 0, .int a, .int b, .int c, .int r]) (st1 := [.int c, .int a, .ref 65]) (h1 := (124, (uI I 64 a.toNatClampNeg b), J, R)) rfl ?_
  refine ev_call (v1 := none) (h1 := (124, (uI (uI I 64 a.toNatClampNeg b) 65 a.toNatClampNeg c), J, R)) rfl rfl c4 ?_
  refine ev_go 1 (pc1 := 78) (lv1 := [.ref 0, .int a, .int b, .int c, .int r]) (st1 := [.int r]) (h1 := (124, (uI (uI I 64 a.toNatClampNeg b) 65 a.toNatClampNeg c), J, R)) rfl ?_
  exact ev_ret rfl rfl
/-- rule: refused by both, or done by both -/
theorem rul_3 {L : Nat} {xs : Nat → Int32} {d : Nat} {I : Nat → Nat → Int32} {J : Nat → Nat → Int64} {R : Nat → Nat → Nat} {d' : Nat} {I1 : Nat → Nat → Int32} {J1 : Nat → Nat → Int64} {R1 : Nat → Nat → Nat} (hG : aGd R) (hG1 : aGd R1) (h8 : R 0 8 = 4) {np : Nat} (p1 : np ≤ 7) (q1 : (I 3 14).toInt = np) (q2 : (I1 88 0).toInt = np) (a b c : Int32) :
    (xEv L xs (d + 1) 119 0 [.ref 0, .int a, .int b, .int c, xmk] [] (124, I, J, R) (some (.int (-2))) (124, I, J, R) ∧ xEv L xs (d' + 2) 221 0 [.ref 86, .int a, .int b, .int c, xmk] [] (124, I1, J1, R1) (some (.int (-2))) (124, I1, J1, R1)) ∨
    (0 ≤ a.toInt ∧ a.toInt < np ∧ 0 ≤ b.toInt ∧ b.toInt ≤ 5 ∧ (b.toInt = 1 → 0 ≤ c.toInt ∧ c.toInt < np) ∧ xEv L xs (d + 1) 119 0 [.ref 0, .int a, .int b, .int c, xmk] [] (124, I, J, R) (some (.int (I 64 a.toNatClampNeg))) (124, uI (uI I 64 a.toNatClampNeg b) 65 a.toNatClampNeg c, J, R) ∧ xEv L xs (d' + 2) 221 0 [.ref 86, .int a, .int b, .int c, xmk] [] (124, I1, J1, R1) (some (.int (I1 119 a.toNatClampNeg))) (124, uI (uI I1 119 a.toNatClampNeg b) 120 a.toNatClampNeg c, J1, R1)) := by
  have e0 : (0 : Int32).toInt = 0 := by decide
  have e5 : (5 : Int32).toInt = 5 := by decide
  have i1 := in_ex (L := L) (xs := xs) (d := d' + 1) (I := I1) (J := J1) hG1 b 0 5
  rw [e0, e5] at i1
  have x0 := hp_run_3 (L := L) (xs := xs) (d := d) (I := I) (J := J) hG q1 a
  have y0 := ip_run (L := L) (xs := xs) (d := d') (I := I1) (J := J1) hG1 q2 a
  have x1 := hp_run_3 (L := L) (xs := xs) (d := d) (I := I) (J := J) hG q1 c
  have y1 := ip_run (L := L) (xs := xs) (d := d') (I := I1) (J := J1) hG1 q2 c
  rcases x0 with ⟨ha, x0⟩ | ⟨ha, x0⟩
  rotate_left
  · exact Or.inl ⟨rc_x_3 hG h8 x0, rq_0 hG1 (y0.resolve_left (fun z => ha z.1)).2⟩
  have y0' := (y0.resolve_right (fun z => z.1 ha)).2
  by_cases hb0 : b.toInt < 0
  · exact Or.inl ⟨rc_a_3 hG h8 x0 hb0, rq_1 hG1 y0' (i1.resolve_left (fun z => by have := z.1; omega)).2⟩
  by_cases hb5 : b.toInt > 5
  · exact Or.inl ⟨rc_b_3 hG h8 x0 (by omega) hb5, rq_1 hG1 y0' (i1.resolve_left (fun z => by have := z.1; omega)).2⟩
  have i1' := (i1.resolve_right (fun z => by have := z.1; omega)).2
  have c1 := at_run (L := L) (xs := xs) (d := d) (h := (124, I, J, R)) (c := 64) (n := 7) (fun _ => rfl) (by decide) a
  rw [if_pos ⟨by omega, by omega⟩] at c1
  have c2 := put_in (L := L) (xs := xs) (d := d) (I := I) (J := J) (R := R) (c := 64) (n := 7) (fun _ => rfl) (by decide) (i := a) b (by omega) (by omega)
  have c3 := put_in (L := L) (xs := xs) (d := d) (I := uI I 64 a.toNatClampNeg b) (J := J) (R := R) (c := 65) (n := 7) (fun _ => rfl) (by decide) (i := a) c (by omega) (by omega)
  by_cases hb1 : b.toInt = 1
  · rcases x1 with ⟨hc, x1⟩ | ⟨hc, x1⟩
    · exact Or.inr ⟨ha.1, ha.2, by omega, by omega, fun _ => hc, rc_d_3 hG h8 x0 (by omega) (by omega) hb1 x1 c1 c2 c3, rq_3 hG1 y0' i1' hb1 (y1.resolve_right (fun z => z.1 hc)).2 (by omega) (by omega) (by omega) (by omega) (by omega) (by omega)⟩
    · exact Or.inl ⟨rc_c_3 hG h8 x0 (by omega) (by omega) hb1 x1, rq_2 hG1 y0' i1' hb1 (y1.resolve_left (fun z => hc z.1)).2⟩
  · exact Or.inr ⟨ha.1, ha.2, by omega, by omega, fun z => absurd z hb1, rc_e_3 hG h8 x0 (by omega) (by omega) hb1 c1 c2 c3, rq_4 hG1 y0' i1' hb1 (by omega) (by omega) (by omega) (by omega) (by omega) (by omega)⟩
set_option maxRecDepth 20000 in
theorem rc_x_23 {L : Nat} {xs : Nat → Int32} {d : Nat} {I : Nat → Nat → Int32} {J : Nat → Nat → Int64} {R : Nat → Nat → Nat} {a b c : Int32} (hG : aGd R) (r_R_0_8 : R 0 8 = 24) (c1 : xEv L xs d 64 0 [.ref 23, .int a] [] (124, I, J, R) (some (.int 0)) (124, I, J, R)) : xEv L xs (d + 1) 119 0 [.ref 0, .int a, .int b, .int c, xmk] [] (124, I, J, R) (some (.int (-2))) (124, I, J, R) := by
  refine ev_go 1 (pc1 := 1) (lv1 := [.ref 0, .int a, .int b, .int c, xmk]) (st1 := [.ref 0]) (h1 := (124, I, J, R)) rfl ?_
  refine ev_gf (c := 0) (t := 23) (X := R 0 8) rfl rfl (fun _ => rfl) rfl r_R_0_8 ?_
  refine ev_go 1 (pc1 := 5) (lv1 := [.ref 0, .int a, .int b, .int c, xmk]) (st1 := [.int a, .ref 23]) (h1 := (124, I, J, R)) rfl ?_
  refine ev_call (v1 := (some (.int 0))) (h1 := (124, I, J, R)) rfl rfl c1 ?_
  refine ev_go 2 (pc1 := 38) (lv1 := [.ref 0, .int a, .int b, .int c, xmk]) (st1 := [.int (-2)]) (h1 := (124, I, J, R)) rfl ?_
  exact ev_ret rfl rfl
set_option maxRecDepth 20000 in
theorem rc_a_23 {L : Nat} {xs : Nat → Int32} {d : Nat} {I : Nat → Nat → Int32} {J : Nat → Nat → Int64} {R : Nat → Nat → Nat} {a b c : Int32} (hG : aGd R) (r_R_0_8 : R 0 8 = 24) (c1 : xEv L xs d 64 0 [.ref 23, .int a] [] (124, I, J, R) (some (.int 1)) (124, I, J, R)) (b1 : b.toInt < 0) : xEv L xs (d + 1) 119 0 [.ref 0, .int a, .int b, .int c, xmk] [] (124, I, J, R) (some (.int (-2))) (124, I, J, R) := by
  refine ev_go 1 (pc1 := 1) (lv1 := [.ref 0, .int a, .int b, .int c, xmk]) (st1 := [.ref 0]) (h1 := (124, I, J, R)) rfl ?_
  refine ev_gf (c := 0) (t := 23) (X := R 0 8) rfl rfl (fun _ => rfl) rfl r_R_0_8 ?_
  refine ev_go 1 (pc1 := 5) (lv1 := [.ref 0, .int a, .int b, .int c, xmk]) (st1 := [.int a, .ref 23]) (h1 := (124, I, J, R)) rfl ?_
  refine ev_call (v1 := (some (.int 1))) (h1 := (124, I, J, R)) rfl rfl c1 ?_
  refine ev_go 2 (pc1 := 12) (lv1 := [.ref 0, .int a, .int b, .int c, xmk]) (st1 := [.int b]) (h1 := (124, I, J, R)) rfl ?_
  refine ev_br (b1 := true) rfl rfl (xcd_lt (x := b) (y := 0) (by rw [show ((0 : Int32)).toInt = 0 from by decide]; first | exact b1 | omega)) ?_
  refine ev_go 1 (pc1 := 38) (lv1 := [.ref 0, .int a, .int b, .int c, xmk]) (st1 := [.int (-2)]) (h1 := (124, I, J, R)) rfl ?_
  exact ev_ret rfl rfl
set_option maxRecDepth 20000 in
theorem rc_b_23 {L : Nat} {xs : Nat → Int32} {d : Nat} {I : Nat → Nat → Int32} {J : Nat → Nat → Int64} {R : Nat → Nat → Nat} {a b c : Int32} (hG : aGd R) (r_R_0_8 : R 0 8 = 24) (c1 : xEv L xs d 64 0 [.ref 23, .int a] [] (124, I, J, R) (some (.int 1)) (124, I, J, R)) (b1 : b.toInt ≥ 0) (b2 : b.toInt > 5) : xEv L xs (d + 1) 119 0 [.ref 0, .int a, .int b, .int c, xmk] [] (124, I, J, R) (some (.int (-2))) (124, I, J, R) := by
  refine ev_go 1 (pc1 := 1) (lv1 := [.ref 0, .int a, .int b, .int c, xmk]) (st1 := [.ref 0]) (h1 := (124, I, J, R)) rfl ?_
  refine ev_gf (c := 0) (t := 23) (X := R 0 8) rfl rfl (fun _ => rfl) rfl r_R_0_8 ?_
  refine ev_go 1 (pc1 := 5) (lv1 := [.ref 0, .int a, .int b, .int c, xmk]) (st1 := [.int a, .ref 23]) (h1 := (124, I, J, R)) rfl ?_
  refine ev_call (v1 := (some (.int 1))) (h1 := (124, I, J, R)) rfl rfl c1 ?_
  refine ev_go 2 (pc1 := 12) (lv1 := [.ref 0, .int a, .int b, .int c, xmk]) (st1 := [.int b]) (h1 := (124, I, J, R)) rfl ?_
  refine ev_br (b1 := false) rfl rfl (xcd_nlt (x := b) (y := 0) (by rw [show ((0 : Int32)).toInt = 0 from by decide]; first | exact b1 | omega)) ?_
  refine ev_go 2 (pc1 := 17) (lv1 := [.ref 0, .int a, .int b, .int c, xmk]) (st1 := [.int 5, .int b]) (h1 := (124, I, J, R)) rfl ?_
  refine ev_br (b1 := true) rfl rfl (xcd_gt (x := b) (y := 5) (by rw [show ((5 : Int32)).toInt = 5 from by decide]; first | exact b2 | omega)) ?_
  refine ev_go 1 (pc1 := 38) (lv1 := [.ref 0, .int a, .int b, .int c, xmk]) (st1 := [.int (-2)]) (h1 := (124, I, J, R)) rfl ?_
  exact ev_ret rfl rfl
set_option maxRecDepth 20000 in
theorem rc_c_23 {L : Nat} {xs : Nat → Int32} {d : Nat} {I : Nat → Nat → Int32} {J : Nat → Nat → Int64} {R : Nat → Nat → Nat} {a b c : Int32} (hG : aGd R) (r_R_0_8 : R 0 8 = 24) (c1 : xEv L xs d 64 0 [.ref 23, .int a] [] (124, I, J, R) (some (.int 1)) (124, I, J, R)) (b1 : b.toInt ≥ 0) (b2 : b.toInt ≤ 5) (b3 : b.toInt = 1) (c2 : xEv L xs d 64 0 [.ref 23, .int c] [] (124, I, J, R) (some (.int 0)) (124, I, J, R)) : xEv L xs (d + 1) 119 0 [.ref 0, .int a, .int b, .int c, xmk] [] (124, I, J, R) (some (.int (-2))) (124, I, J, R) := by
  refine ev_go 1 (pc1 := 1) (lv1 := [.ref 0, .int a, .int b, .int c, xmk]) (st1 := [.ref 0]) (h1 := (124, I, J, R)) rfl ?_
  refine ev_gf (c := 0) (t := 23) (X := R 0 8) rfl rfl (fun _ => rfl) rfl r_R_0_8 ?_
  refine ev_go 1 (pc1 := 5) (lv1 := [.ref 0, .int a, .int b, .int c, xmk]) (st1 := [.int a, .ref 23]) (h1 := (124, I, J, R)) rfl ?_
  refine ev_call (v1 := (some (.int 1))) (h1 := (124, I, J, R)) rfl rfl c1 ?_
  refine ev_go 2 (pc1 := 12) (lv1 := [.ref 0, .int a, .int b, .int c, xmk]) (st1 := [.int b]) (h1 := (124, I, J, R)) rfl ?_
  refine ev_br (b1 := false) rfl rfl (xcd_nlt (x := b) (y := 0) (by rw [show ((0 : Int32)).toInt = 0 from by decide]; first | exact b1 | omega)) ?_
  refine ev_go 2 (pc1 := 17) (lv1 := [.ref 0, .int a, .int b, .int c, xmk]) (st1 := [.int 5, .int b]) (h1 := (124, I, J, R)) rfl ?_
  refine ev_br (b1 := false) rfl rfl (xcd_ngt (x := b) (y := 5) (by rw [show ((5 : Int32)).toInt = 5 from by decide]; first | exact b2 | omega)) ?_
  refine ev_go 2 (pc1 := 22) (lv1 := [.ref 0, .int a, .int b, .int c, xmk]) (st1 := [.int 1, .int b]) (h1 := (124, I, J, R)) rfl ?_
  refine ev_br (b1 := false) rfl rfl (xcd_nne (x := b) (y := 1) (by rw [show ((1 : Int32)).toInt = 1 from by decide]; first | exact b3 | omega)) ?_
  refine ev_go 1 (pc1 := 26) (lv1 := [.ref 0, .int a, .int b, .int c, xmk]) (st1 := [.ref 0]) (h1 := (124, I, J, R)) rfl ?_
  refine ev_gf (c := 0) (t := 23) (X := R 0 8) rfl rfl (fun _ => rfl) rfl r_R_0_8 ?_
  refine ev_go 1 (pc1 := 30) (lv1 := [.ref 0, .int a, .int b, .int c, xmk]) (st1 := [.int c, .ref 23]) (h1 := (124, I, J, R)) rfl ?_
  refine ev_call (v1 := (some (.int 0))) (h1 := (124, I, J, R)) rfl rfl c2 ?_
  refine ev_go 2 (pc1 := 38) (lv1 := [.ref 0, .int a, .int b, .int c, xmk]) (st1 := [.int (-2)]) (h1 := (124, I, J, R)) rfl ?_
  exact ev_ret rfl rfl
set_option maxRecDepth 20000 in
theorem rc_d_23 {L : Nat} {xs : Nat → Int32} {d : Nat} {I : Nat → Nat → Int32} {J : Nat → Nat → Int64} {R : Nat → Nat → Nat} {a b c r : Int32} (hG : aGd R) (r_R_0_8 : R 0 8 = 24) (c1 : xEv L xs d 64 0 [.ref 23, .int a] [] (124, I, J, R) (some (.int 1)) (124, I, J, R)) (b1 : b.toInt ≥ 0) (b2 : b.toInt ≤ 5) (b3 : b.toInt = 1) (c2 : xEv L xs d 64 0 [.ref 23, .int c] [] (124, I, J, R) (some (.int 1)) (124, I, J, R)) (c3 : xEv L xs d 39 0 [.ref 64, .int a] [] (124, I, J, R) (some (.int r)) (124, I, J, R)) (c4 : xEv L xs d 33 0 [.ref 64, .int a, .int b] [] (124, I, J, R) none (124, (uI I 64 a.toNatClampNeg b), J, R)) (c5 : xEv L xs d 33 0 [.ref 65, .int a, .int c] [] (124, (uI I 64 a.toNatClampNeg b), J, R) none (124, (uI (uI I 64 a.toNatClampNeg b) 65 a.toNatClampNeg c), J, R)) : xEv L xs (d + 1) 119 0 [.ref 0, .int a, .int b, .int c, xmk] [] (124, I, J, R) (some (.int r)) (124, (uI (uI I 64 a.toNatClampNeg b) 65 a.toNatClampNeg c), J, R) := by
  refine ev_go 1 (pc1 := 1) (lv1 := [.ref 0, .int a, .int b, .int c, xmk]) (st1 := [.ref 0]) (h1 := (124, I, J, R)) rfl ?_
  refine ev_gf (c := 0) (t := 23) (X := R 0 8) rfl rfl (fun _ => rfl) rfl r_R_0_8 ?_
  refine ev_go 1 (pc1 := 5) (lv1 := [.ref 0, .int a, .int b, .int c, xmk]) (st1 := [.int a, .ref 23]) (h1 := (124, I, J, R)) rfl ?_
  refine ev_call (v1 := (some (.int 1))) (h1 := (124, I, J, R)) rfl rfl c1 ?_
  refine ev_go 2 (pc1 := 12) (lv1 := [.ref 0, .int a, .int b, .int c, xmk]) (st1 := [.int b]) (h1 := (124, I, J, R)) rfl ?_
  refine ev_br (b1 := false) rfl rfl (xcd_nlt (x := b) (y := 0) (by rw [show ((0 : Int32)).toInt = 0 from by decide]; first | exact b1 | omega)) ?_
  refine ev_go 2 (pc1 := 17) (lv1 := [.ref 0, .int a, .int b, .int c, xmk]) (st1 := [.int 5, .int b]) (h1 := (124, I, J, R)) rfl ?_
  refine ev_br (b1 := false) rfl rfl (xcd_ngt (x := b) (y := 5) (by rw [show ((5 : Int32)).toInt = 5 from by decide]; first | exact b2 | omega)) ?_
  refine ev_go 2 (pc1 := 22) (lv1 := [.ref 0, .int a, .int b, .int c, xmk]) (st1 := [.int 1, .int b]) (h1 := (124, I, J, R)) rfl ?_
  refine ev_br (b1 := false) rfl rfl (xcd_nne (x := b) (y := 1) (by rw [show ((1 : Int32)).toInt = 1 from by decide]; first | exact b3 | omega)) ?_
  refine ev_go 1 (pc1 := 26) (lv1 := [.ref 0, .int a, .int b, .int c, xmk]) (st1 := [.ref 0]) (h1 := (124, I, J, R)) rfl ?_
  refine ev_gf (c := 0) (t := 23) (X := R 0 8) rfl rfl (fun _ => rfl) rfl r_R_0_8 ?_
  refine ev_go 1 (pc1 := 30) (lv1 := [.ref 0, .int a, .int b, .int c, xmk]) (st1 := [.int c, .ref 23]) (h1 := (124, I, J, R)) rfl ?_
  refine ev_call (v1 := (some (.int 1))) (h1 := (124, I, J, R)) rfl rfl c2 ?_
  refine ev_go 2 (pc1 := 40) (lv1 := [.ref 0, .int a, .int b, .int c, xmk]) (st1 := [.ref 0]) (h1 := (124, I, J, R)) rfl ?_
  refine ev_gf (c := 0) (t := 63) (X := R 0 7) rfl rfl (fun _ => rfl) rfl (hG 0 7 63 rfl rfl) ?_
  refine ev_gf (c := 63) (t := 64) (X := R 63 0) rfl rfl (fun _ => rfl) rfl (hG 63 0 64 rfl rfl) ?_
  refine ev_go 1 (pc1 := 47) (lv1 := [.ref 0, .int a, .int b, .int c, xmk]) (st1 := [.int a, .ref 64]) (h1 := (124, I, J, R)) rfl ?_
  refine ev_call (v1 := (some (.int r))) (h1 := (124, I, J, R)) rfl rfl c3 ?_
  refine ev_go 2 (pc1 := 53) (lv1 := [.ref 0, .int a, .int b, .int c, .int r]) (st1 := [.ref 0]) (h1 := (124, I, J, R)) rfl ?_
  refine ev_gf (c := 0) (t := 63) (X := R 0 7) rfl rfl (fun _ => rfl) rfl (hG 0 7 63 rfl rfl) ?_
  refine ev_gf (c := 63) (t := 64) (X := R 63 0) rfl rfl (fun _ => rfl) rfl (hG 63 0 64 rfl rfl) ?_
  refine ev_go 2 (pc1 := 61) (lv1 := [.ref 0, .int a, .int b, .int c, .int r]) (st1 := [.int b, .int a, .ref 64]) (h1 := (124, I, J, R)) rfl ?_
  refine ev_call (v1 := none) (h1 := (124, (uI I 64 a.toNatClampNeg b), J, R)) rfl rfl c4 ?_
  refine ev_go 1 (pc1 := 65) (lv1 := [.ref 0, .int a, .int b, .int c, .int r]) (st1 := [.ref 0]) (h1 := (124, (uI I 64 a.toNatClampNeg b), J, R)) rfl ?_
  refine ev_gf (c := 0) (t := 63) (X := R 0 7) rfl rfl (fun _ => rfl) rfl (hG 0 7 63 rfl rfl) ?_
  refine ev_gf (c := 63) (t := 65) (X := R 63 1) rfl rfl (fun _ => rfl) rfl (hG 63 1 65 rfl rfl) ?_
  refine ev_go 2 (pc1 := 73) (lv1 := [.ref 0, .int a, .int b, .int c, .int r]) (st1 := [.int c, .int a, .ref 65]) (h1 := (124, (uI I 64 a.toNatClampNeg b), J, R)) rfl ?_
  refine ev_call (v1 := none) (h1 := (124, (uI (uI I 64 a.toNatClampNeg b) 65 a.toNatClampNeg c), J, R)) rfl rfl c5 ?_
  refine ev_go 1 (pc1 := 78) (lv1 := [.ref 0, .int a, .int b, .int c, .int r]) (st1 := [.int r]) (h1 := (124, (uI (uI I 64 a.toNatClampNeg b) 65 a.toNatClampNeg c), J, R)) rfl ?_
  exact ev_ret rfl rfl
set_option maxRecDepth 20000 in
theorem rc_e_23 {L : Nat} {xs : Nat → Int32} {d : Nat} {I : Nat → Nat → Int32} {J : Nat → Nat → Int64} {R : Nat → Nat → Nat} {a b c r : Int32} (hG : aGd R) (r_R_0_8 : R 0 8 = 24) (c1 : xEv L xs d 64 0 [.ref 23, .int a] [] (124, I, J, R) (some (.int 1)) (124, I, J, R)) (b1 : b.toInt ≥ 0) (b2 : b.toInt ≤ 5) (b3 : b.toInt ≠ 1) (c2 : xEv L xs d 39 0 [.ref 64, .int a] [] (124, I, J, R) (some (.int r)) (124, I, J, R)) (c3 : xEv L xs d 33 0 [.ref 64, .int a, .int b] [] (124, I, J, R) none (124, (uI I 64 a.toNatClampNeg b), J, R)) (c4 : xEv L xs d 33 0 [.ref 65, .int a, .int c] [] (124, (uI I 64 a.toNatClampNeg b), J, R) none (124, (uI (uI I 64 a.toNatClampNeg b) 65 a.toNatClampNeg c), J, R)) : xEv L xs (d + 1) 119 0 [.ref 0, .int a, .int b, .int c, xmk] [] (124, I, J, R) (some (.int r)) (124, (uI (uI I 64 a.toNatClampNeg b) 65 a.toNatClampNeg c), J, R) := by
  refine ev_go 1 (pc1 := 1) (lv1 := [.ref 0, .int a, .int b, .int c, xmk]) (st1 := [.ref 0]) (h1 := (124, I, J, R)) rfl ?_
  refine ev_gf (c := 0) (t := 23) (X := R 0 8) rfl rfl (fun _ => rfl) rfl r_R_0_8 ?_
  refine ev_go 1 (pc1 := 5) (lv1 := [.ref 0, .int a, .int b, .int c, xmk]) (st1 := [.int a, .ref 23]) (h1 := (124, I, J, R)) rfl ?_
  refine ev_call (v1 := (some (.int 1))) (h1 := (124, I, J, R)) rfl rfl c1 ?_
  refine ev_go 2 (pc1 := 12) (lv1 := [.ref 0, .int a, .int b, .int c, xmk]) (st1 := [.int b]) (h1 := (124, I, J, R)) rfl ?_
  refine ev_br (b1 := false) rfl rfl (xcd_nlt (x := b) (y := 0) (by rw [show ((0 : Int32)).toInt = 0 from by decide]; first | exact b1 | omega)) ?_
  refine ev_go 2 (pc1 := 17) (lv1 := [.ref 0, .int a, .int b, .int c, xmk]) (st1 := [.int 5, .int b]) (h1 := (124, I, J, R)) rfl ?_
  refine ev_br (b1 := false) rfl rfl (xcd_ngt (x := b) (y := 5) (by rw [show ((5 : Int32)).toInt = 5 from by decide]; first | exact b2 | omega)) ?_
  refine ev_go 2 (pc1 := 22) (lv1 := [.ref 0, .int a, .int b, .int c, xmk]) (st1 := [.int 1, .int b]) (h1 := (124, I, J, R)) rfl ?_
  refine ev_br (b1 := true) rfl rfl (xcd_ne (x := b) (y := 1) (by rw [show ((1 : Int32)).toInt = 1 from by decide]; first | exact b3 | omega)) ?_
  refine ev_go 1 (pc1 := 40) (lv1 := [.ref 0, .int a, .int b, .int c, xmk]) (st1 := [.ref 0]) (h1 := (124, I, J, R)) rfl ?_
  refine ev_gf (c := 0) (t := 63) (X := R 0 7) rfl rfl (fun _ => rfl) rfl (hG 0 7 63 rfl rfl) ?_
  refine ev_gf (c := 63) (t := 64) (X := R 63 0) rfl rfl (fun _ => rfl) rfl (hG 63 0 64 rfl rfl) ?_
  refine ev_go 1 (pc1 := 47) (lv1 := [.ref 0, .int a, .int b, .int c, xmk]) (st1 := [.int a, .ref 64]) (h1 := (124, I, J, R)) rfl ?_
  refine ev_call (v1 := (some (.int r))) (h1 := (124, I, J, R)) rfl rfl c2 ?_
  refine ev_go 2 (pc1 := 53) (lv1 := [.ref 0, .int a, .int b, .int c, .int r]) (st1 := [.ref 0]) (h1 := (124, I, J, R)) rfl ?_
  refine ev_gf (c := 0) (t := 63) (X := R 0 7) rfl rfl (fun _ => rfl) rfl (hG 0 7 63 rfl rfl) ?_
  refine ev_gf (c := 63) (t := 64) (X := R 63 0) rfl rfl (fun _ => rfl) rfl (hG 63 0 64 rfl rfl) ?_
  refine ev_go 2 (pc1 := 61) (lv1 := [.ref 0, .int a, .int b, .int c, .int r]) (st1 := [.int b, .int a, .ref 64]) (h1 := (124, I, J, R)) rfl ?_
  refine ev_call (v1 := none) (h1 := (124, (uI I 64 a.toNatClampNeg b), J, R)) rfl rfl c3 ?_
  refine ev_go 1 (pc1 := 65) (lv1 := [.ref 0, .int a, .int b, .int c, .int r]) (st1 := [.ref 0]) (h1 := (124, (uI I 64 a.toNatClampNeg b), J, R)) rfl ?_
  refine ev_gf (c := 0) (t := 63) (X := R 0 7) rfl rfl (fun _ => rfl) rfl (hG 0 7 63 rfl rfl) ?_
  refine ev_gf (c := 63) (t := 65) (X := R 63 1) rfl rfl (fun _ => rfl) rfl (hG 63 1 65 rfl rfl) ?_
  refine ev_go 2 (pc1 := 73) (lv1 := [.ref 0, .int a, .int b, .int c, .int r]) (st1 := [.int c, .int a, .ref 65]) (h1 := (124, (uI I 64 a.toNatClampNeg b), J, R)) rfl ?_
  refine ev_call (v1 := none) (h1 := (124, (uI (uI I 64 a.toNatClampNeg b) 65 a.toNatClampNeg c), J, R)) rfl rfl c4 ?_
  refine ev_go 1 (pc1 := 78) (lv1 := [.ref 0, .int a, .int b, .int c, .int r]) (st1 := [.int r]) (h1 := (124, (uI (uI I 64 a.toNatClampNeg b) 65 a.toNatClampNeg c), J, R)) rfl ?_
  exact ev_ret rfl rfl
/-- rule: refused by both, or done by both -/
theorem rul_23 {L : Nat} {xs : Nat → Int32} {d : Nat} {I : Nat → Nat → Int32} {J : Nat → Nat → Int64} {R : Nat → Nat → Nat} {d' : Nat} {I1 : Nat → Nat → Int32} {J1 : Nat → Nat → Int64} {R1 : Nat → Nat → Nat} (hG : aGd R) (hG1 : aGd R1) (h8 : R 0 8 = 24) {np : Nat} (p1 : np ≤ 7) (q1 : (I 23 14).toInt = np) (q2 : (I1 88 0).toInt = np) (a b c : Int32) :
    (xEv L xs (d + 1) 119 0 [.ref 0, .int a, .int b, .int c, xmk] [] (124, I, J, R) (some (.int (-2))) (124, I, J, R) ∧ xEv L xs (d' + 2) 221 0 [.ref 86, .int a, .int b, .int c, xmk] [] (124, I1, J1, R1) (some (.int (-2))) (124, I1, J1, R1)) ∨
    (0 ≤ a.toInt ∧ a.toInt < np ∧ 0 ≤ b.toInt ∧ b.toInt ≤ 5 ∧ (b.toInt = 1 → 0 ≤ c.toInt ∧ c.toInt < np) ∧ xEv L xs (d + 1) 119 0 [.ref 0, .int a, .int b, .int c, xmk] [] (124, I, J, R) (some (.int (I 64 a.toNatClampNeg))) (124, uI (uI I 64 a.toNatClampNeg b) 65 a.toNatClampNeg c, J, R) ∧ xEv L xs (d' + 2) 221 0 [.ref 86, .int a, .int b, .int c, xmk] [] (124, I1, J1, R1) (some (.int (I1 119 a.toNatClampNeg))) (124, uI (uI I1 119 a.toNatClampNeg b) 120 a.toNatClampNeg c, J1, R1)) := by
  have e0 : (0 : Int32).toInt = 0 := by decide
  have e5 : (5 : Int32).toInt = 5 := by decide
  have i1 := in_ex (L := L) (xs := xs) (d := d' + 1) (I := I1) (J := J1) hG1 b 0 5
  rw [e0, e5] at i1
  have x0 := hp_run_23 (L := L) (xs := xs) (d := d) (I := I) (J := J) hG q1 a
  have y0 := ip_run (L := L) (xs := xs) (d := d') (I := I1) (J := J1) hG1 q2 a
  have x1 := hp_run_23 (L := L) (xs := xs) (d := d) (I := I) (J := J) hG q1 c
  have y1 := ip_run (L := L) (xs := xs) (d := d') (I := I1) (J := J1) hG1 q2 c
  rcases x0 with ⟨ha, x0⟩ | ⟨ha, x0⟩
  rotate_left
  · exact Or.inl ⟨rc_x_23 hG h8 x0, rq_0 hG1 (y0.resolve_left (fun z => ha z.1)).2⟩
  have y0' := (y0.resolve_right (fun z => z.1 ha)).2
  by_cases hb0 : b.toInt < 0
  · exact Or.inl ⟨rc_a_23 hG h8 x0 hb0, rq_1 hG1 y0' (i1.resolve_left (fun z => by have := z.1; omega)).2⟩
  by_cases hb5 : b.toInt > 5
  · exact Or.inl ⟨rc_b_23 hG h8 x0 (by omega) hb5, rq_1 hG1 y0' (i1.resolve_left (fun z => by have := z.1; omega)).2⟩
  have i1' := (i1.resolve_right (fun z => by have := z.1; omega)).2
  have c1 := at_run (L := L) (xs := xs) (d := d) (h := (124, I, J, R)) (c := 64) (n := 7) (fun _ => rfl) (by decide) a
  rw [if_pos ⟨by omega, by omega⟩] at c1
  have c2 := put_in (L := L) (xs := xs) (d := d) (I := I) (J := J) (R := R) (c := 64) (n := 7) (fun _ => rfl) (by decide) (i := a) b (by omega) (by omega)
  have c3 := put_in (L := L) (xs := xs) (d := d) (I := uI I 64 a.toNatClampNeg b) (J := J) (R := R) (c := 65) (n := 7) (fun _ => rfl) (by decide) (i := a) c (by omega) (by omega)
  by_cases hb1 : b.toInt = 1
  · rcases x1 with ⟨hc, x1⟩ | ⟨hc, x1⟩
    · exact Or.inr ⟨ha.1, ha.2, by omega, by omega, fun _ => hc, rc_d_23 hG h8 x0 (by omega) (by omega) hb1 x1 c1 c2 c3, rq_3 hG1 y0' i1' hb1 (y1.resolve_right (fun z => z.1 hc)).2 (by omega) (by omega) (by omega) (by omega) (by omega) (by omega)⟩
    · exact Or.inl ⟨rc_c_23 hG h8 x0 (by omega) (by omega) hb1 x1, rq_2 hG1 y0' i1' hb1 (y1.resolve_left (fun z => hc z.1)).2⟩
  · exact Or.inr ⟨ha.1, ha.2, by omega, by omega, fun z => absurd z hb1, rc_e_23 hG h8 x0 (by omega) (by omega) hb1 c1 c2 c3, rq_4 hG1 y0' i1' hb1 (by omega) (by omega) (by omega) (by omega) (by omega) (by omega)⟩
