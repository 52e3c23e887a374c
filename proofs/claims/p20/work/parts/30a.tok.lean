/-! tokens, in pure words -/
def kd (c : Int) : Nat := if c = -1 then 0 else if 97 ≤ c ∧ c ≤ 122 then 1 else if 48 ≤ c ∧ c ≤ 57 then 2 else if c = 32 ∨ c = 10 then 4 else if c = 59 then 3 else 5
/-- the first place from p on whose kind isn't k -/
def isRn (b : Nat → Int32) (k p r : Nat) : Prop := p ≤ r ∧ (∀ q, p ≤ q → q < r → kd (b q).toInt = k) ∧ kd (b r).toInt ≠ k
theorem isRn_u {b : Nat → Int32} {k p r r' : Nat} (h : isRn b k p r) (h' : isRn b k p r') : r = r' := by
  obtain ⟨a1, a2, a3⟩ := h
  obtain ⟨b1, b2, b3⟩ := h'
  rcases Nat.lt_trichotomy r r' with h | h | h
  · exact absurd (b2 r a1 h) a3
  · exact h
  · exact absurd (a2 r' b1 h) b3
/-- the token that is read from p on: its place, its kind, where it ends -/
def isTok (b : Nat → Int32) (p st k e : Nat) : Prop := isRn b 4 p st ∧ k = kd (b st).toInt ∧ (k = 1 ∨ k = 2 → isRn b k st e) ∧ (k = 0 → e = st) ∧ (k = 3 ∨ k = 5 → e = st + 1)
theorem kd_le (c : Int) : kd c ≤ 5 := by
  unfold kd
  repeat' split
  all_goals omega
theorem isTok_u {b : Nat → Int32} {p st k e st' k' e' : Nat} (h : isTok b p st k e) (h' : isTok b p st' k' e') : st = st' ∧ k = k' ∧ e = e' := by
  obtain ⟨a1, a2, a3, a4, a5⟩ := h
  obtain ⟨b1, b2, b3, b4, b5⟩ := h'
  have e1 := isRn_u a1 b1
  subst e1
  have e2 : k = k' := a2.trans b2.symm
  subst e2
  refine ⟨rfl, rfl, ?_⟩
  have hk := kd_le (b st).toInt
  have hne : kd (b st).toInt ≠ 4 := a1.2.2
  rw [← a2] at hk hne
  have hc : k = 0 ∨ k = 1 ∨ k = 2 ∨ k = 3 ∨ k = 5 := by omega
  rcases hc with h | h | h | h | h
  · rw [a4 h, b4 h]
  · exact isRn_u (a3 (Or.inl h)) (b3 (Or.inl h))
  · exact isRn_u (a3 (Or.inr h)) (b3 (Or.inr h))
  · rw [a5 (Or.inl h), b5 (Or.inl h)]
  · rw [a5 (Or.inr h), b5 (Or.inr h)]
/-- the class's kind: a word of more than eight letters, a number of more than three figures is wrong -/
def cKd (k m : Nat) : Nat := if k = 1 ∧ 8 < m ∨ k = 2 ∧ 3 < m then 5 else k
def wsg (v : Int64) (c : Int32) : Int64 := if 97 ≤ c.toInt then v * 27 + c.toInt64 - 97 + 1 else v * 10 + c.toInt64 - 48
def vF (b : Nat → Int32) (st : Nat) : Nat → Int64
  | 0 => 0
  | m + 1 => wsg (vF b st m) (b (st + m))
theorem n_of {x : Int32} {n : Nat} (h : x.toInt = n) : x = Int32.ofNat n := Int32.toInt_inj.mp (by rw [h, Int32.toInt_ofNat_of_lt (by have := aw x; omega)])
set_option maxRecDepth 20000 in
theorem ko_0 {L : Nat} {xs : Nat → Int32} {d : Nat} {I : Nat → Nat → Int32} {J : Nat → Nat → Int64} {R : Nat → Nat → Nat} {c : Int32} (hG : aGd R) (b1 : c.toInt = -1) : xEv L xs d 23 0 [.int c] [] (124, I, J, R) (some (.int 0)) (124, I, J, R) := by
  refine ev_go 2 (pc1 := 2) (lv1 := [.int c]) (st1 := [.int (-1), .int c]) (h1 := (124, I, J, R)) rfl ?_
  refine ev_br (b1 := false) rfl rfl (xcd_nne (x := c) (y := (-1)) (by rw [show ((-1 : Int32)).toInt = -1 from by decide]; first | exact b1 | omega)) ?_
  refine ev_go 1 (pc1 := 6) (lv1 := [.int c]) (st1 := [.int 0]) (h1 := (124, I, J, R)) rfl ?_
  exact ev_ret rfl rfl
set_option maxRecDepth 20000 in
theorem ko_1 {L : Nat} {xs : Nat → Int32} {d : Nat} {I : Nat → Nat → Int32} {J : Nat → Nat → Int64} {R : Nat → Nat → Nat} {c : Int32} (hG : aGd R) (b1 : c.toInt ≠ -1) (b2 : c.toInt ≥ 97) (b3 : c.toInt ≤ 122) : xEv L xs d 23 0 [.int c] [] (124, I, J, R) (some (.int 1)) (124, I, J, R) := by
  refine ev_go 2 (pc1 := 2) (lv1 := [.int c]) (st1 := [.int (-1), .int c]) (h1 := (124, I, J, R)) rfl ?_
  refine ev_br (b1 := true) rfl rfl (xcd_ne (x := c) (y := (-1)) (by rw [show ((-1 : Int32)).toInt = -1 from by decide]; first | exact b1 | omega)) ?_
  refine ev_go 2 (pc1 := 10) (lv1 := [.int c]) (st1 := [.int 97, .int c]) (h1 := (124, I, J, R)) rfl ?_
  refine ev_br (b1 := false) rfl rfl (xcd_nlt (x := c) (y := 97) (by rw [show ((97 : Int32)).toInt = 97 from by decide]; first | exact b2 | omega)) ?_
  refine ev_go 2 (pc1 := 16) (lv1 := [.int c]) (st1 := [.int 122, .int c]) (h1 := (124, I, J, R)) rfl ?_
  refine ev_br (b1 := false) rfl rfl (xcd_ngt (x := c) (y := 122) (by rw [show ((122 : Int32)).toInt = 122 from by decide]; first | exact b3 | omega)) ?_
  refine ev_go 1 (pc1 := 20) (lv1 := [.int c]) (st1 := [.int 1]) (h1 := (124, I, J, R)) rfl ?_
  exact ev_ret rfl rfl
set_option maxRecDepth 20000 in
theorem ko_2a {L : Nat} {xs : Nat → Int32} {d : Nat} {I : Nat → Nat → Int32} {J : Nat → Nat → Int64} {R : Nat → Nat → Nat} {c : Int32} (hG : aGd R) (b1 : c.toInt ≠ -1) (b2 : c.toInt < 97) (b3 : c.toInt ≥ 48) (b4 : c.toInt ≤ 57) : xEv L xs d 23 0 [.int c] [] (124, I, J, R) (some (.int 2)) (124, I, J, R) := by
  refine ev_go 2 (pc1 := 2) (lv1 := [.int c]) (st1 := [.int (-1), .int c]) (h1 := (124, I, J, R)) rfl ?_
  refine ev_br (b1 := true) rfl rfl (xcd_ne (x := c) (y := (-1)) (by rw [show ((-1 : Int32)).toInt = -1 from by decide]; first | exact b1 | omega)) ?_
  refine ev_go 2 (pc1 := 10) (lv1 := [.int c]) (st1 := [.int 97, .int c]) (h1 := (124, I, J, R)) rfl ?_
  refine ev_br (b1 := true) rfl rfl (xcd_lt (x := c) (y := 97) (by rw [show ((97 : Int32)).toInt = 97 from by decide]; first | exact b2 | omega)) ?_
  refine ev_go 2 (pc1 := 24) (lv1 := [.int c]) (st1 := [.int 48, .int c]) (h1 := (124, I, J, R)) rfl ?_
  refine ev_br (b1 := false) rfl rfl (xcd_nlt (x := c) (y := 48) (by rw [show ((48 : Int32)).toInt = 48 from by decide]; first | exact b3 | omega)) ?_
  refine ev_go 2 (pc1 := 30) (lv1 := [.int c]) (st1 := [.int 57, .int c]) (h1 := (124, I, J, R)) rfl ?_
  refine ev_br (b1 := false) rfl rfl (xcd_ngt (x := c) (y := 57) (by rw [show ((57 : Int32)).toInt = 57 from by decide]; first | exact b4 | omega)) ?_
  refine ev_go 1 (pc1 := 34) (lv1 := [.int c]) (st1 := [.int 2]) (h1 := (124, I, J, R)) rfl ?_
  exact ev_ret rfl rfl
set_option maxRecDepth 20000 in
theorem ko_2b {L : Nat} {xs : Nat → Int32} {d : Nat} {I : Nat → Nat → Int32} {J : Nat → Nat → Int64} {R : Nat → Nat → Nat} {c : Int32} (hG : aGd R) (b1 : c.toInt ≠ -1) (b2 : c.toInt ≥ 97) (b3 : c.toInt > 122) (b4 : c.toInt ≥ 48) (b5 : c.toInt ≤ 57) : xEv L xs d 23 0 [.int c] [] (124, I, J, R) (some (.int 2)) (124, I, J, R) := by
  refine ev_go 2 (pc1 := 2) (lv1 := [.int c]) (st1 := [.int (-1), .int c]) (h1 := (124, I, J, R)) rfl ?_
  refine ev_br (b1 := true) rfl rfl (xcd_ne (x := c) (y := (-1)) (by rw [show ((-1 : Int32)).toInt = -1 from by decide]; first | exact b1 | omega)) ?_
  refine ev_go 2 (pc1 := 10) (lv1 := [.int c]) (st1 := [.int 97, .int c]) (h1 := (124, I, J, R)) rfl ?_
  refine ev_br (b1 := false) rfl rfl (xcd_nlt (x := c) (y := 97) (by rw [show ((97 : Int32)).toInt = 97 from by decide]; first | exact b2 | omega)) ?_
  refine ev_go 2 (pc1 := 16) (lv1 := [.int c]) (st1 := [.int 122, .int c]) (h1 := (124, I, J, R)) rfl ?_
  refine ev_br (b1 := true) rfl rfl (xcd_gt (x := c) (y := 122) (by rw [show ((122 : Int32)).toInt = 122 from by decide]; first | exact b3 | omega)) ?_
  refine ev_go 2 (pc1 := 24) (lv1 := [.int c]) (st1 := [.int 48, .int c]) (h1 := (124, I, J, R)) rfl ?_
  refine ev_br (b1 := false) rfl rfl (xcd_nlt (x := c) (y := 48) (by rw [show ((48 : Int32)).toInt = 48 from by decide]; first | exact b4 | omega)) ?_
  refine ev_go 2 (pc1 := 30) (lv1 := [.int c]) (st1 := [.int 57, .int c]) (h1 := (124, I, J, R)) rfl ?_
  refine ev_br (b1 := false) rfl rfl (xcd_ngt (x := c) (y := 57) (by rw [show ((57 : Int32)).toInt = 57 from by decide]; first | exact b5 | omega)) ?_
  refine ev_go 1 (pc1 := 34) (lv1 := [.int c]) (st1 := [.int 2]) (h1 := (124, I, J, R)) rfl ?_
  exact ev_ret rfl rfl
set_option maxRecDepth 20000 in
theorem ko_4a {L : Nat} {xs : Nat → Int32} {d : Nat} {I : Nat → Nat → Int32} {J : Nat → Nat → Int64} {R : Nat → Nat → Nat} {c : Int32} (hG : aGd R) (b1 : c.toInt ≠ -1) (b2 : c.toInt < 97) (b3 : c.toInt < 48) (b4 : c.toInt = 32) : xEv L xs d 23 0 [.int c] [] (124, I, J, R) (some (.int 4)) (124, I, J, R) := by
  refine ev_go 2 (pc1 := 2) (lv1 := [.int c]) (st1 := [.int (-1), .int c]) (h1 := (124, I, J, R)) rfl ?_
  refine ev_br (b1 := true) rfl rfl (xcd_ne (x := c) (y := (-1)) (by rw [show ((-1 : Int32)).toInt = -1 from by decide]; first | exact b1 | omega)) ?_
  refine ev_go 2 (pc1 := 10) (lv1 := [.int c]) (st1 := [.int 97, .int c]) (h1 := (124, I, J, R)) rfl ?_
  refine ev_br (b1 := true) rfl rfl (xcd_lt (x := c) (y := 97) (by rw [show ((97 : Int32)).toInt = 97 from by decide]; first | exact b2 | omega)) ?_
  refine ev_go 2 (pc1 := 24) (lv1 := [.int c]) (st1 := [.int 48, .int c]) (h1 := (124, I, J, R)) rfl ?_
  refine ev_br (b1 := true) rfl rfl (xcd_lt (x := c) (y := 48) (by rw [show ((48 : Int32)).toInt = 48 from by decide]; first | exact b3 | omega)) ?_
  refine ev_go 2 (pc1 := 38) (lv1 := [.int c]) (st1 := [.int 32, .int c]) (h1 := (124, I, J, R)) rfl ?_
  refine ev_br (b1 := true) rfl rfl (xcd_eq (x := c) (y := 32) (by rw [show ((32 : Int32)).toInt = 32 from by decide]; first | exact b4 | omega)) ?_
  refine ev_go 1 (pc1 := 48) (lv1 := [.int c]) (st1 := [.int 4]) (h1 := (124, I, J, R)) rfl ?_
  exact ev_ret rfl rfl
set_option maxRecDepth 20000 in
theorem ko_4b {L : Nat} {xs : Nat → Int32} {d : Nat} {I : Nat → Nat → Int32} {J : Nat → Nat → Int64} {R : Nat → Nat → Nat} {c : Int32} (hG : aGd R) (b1 : c.toInt ≠ -1) (b2 : c.toInt < 97) (b3 : c.toInt < 48) (b4 : c.toInt ≠ 32) (b5 : c.toInt = 10) : xEv L xs d 23 0 [.int c] [] (124, I, J, R) (some (.int 4)) (124, I, J, R) := by
  refine ev_go 2 (pc1 := 2) (lv1 := [.int c]) (st1 := [.int (-1), .int c]) (h1 := (124, I, J, R)) rfl ?_
  refine ev_br (b1 := true) rfl rfl (xcd_ne (x := c) (y := (-1)) (by rw [show ((-1 : Int32)).toInt = -1 from by decide]; first | exact b1 | omega)) ?_
  refine ev_go 2 (pc1 := 10) (lv1 := [.int c]) (st1 := [.int 97, .int c]) (h1 := (124, I, J, R)) rfl ?_
  refine ev_br (b1 := true) rfl rfl (xcd_lt (x := c) (y := 97) (by rw [show ((97 : Int32)).toInt = 97 from by decide]; first | exact b2 | omega)) ?_
  refine ev_go 2 (pc1 := 24) (lv1 := [.int c]) (st1 := [.int 48, .int c]) (h1 := (124, I, J, R)) rfl ?_
  refine ev_br (b1 := true) rfl rfl (xcd_lt (x := c) (y := 48) (by rw [show ((48 : Int32)).toInt = 48 from by decide]; first | exact b3 | omega)) ?_
  refine ev_go 2 (pc1 := 38) (lv1 := [.int c]) (st1 := [.int 32, .int c]) (h1 := (124, I, J, R)) rfl ?_
  refine ev_br (b1 := false) rfl rfl (xcd_neq (x := c) (y := 32) (by rw [show ((32 : Int32)).toInt = 32 from by decide]; first | exact b4 | omega)) ?_
  refine ev_go 2 (pc1 := 44) (lv1 := [.int c]) (st1 := [.int 10, .int c]) (h1 := (124, I, J, R)) rfl ?_
  refine ev_br (b1 := false) rfl rfl (xcd_nne (x := c) (y := 10) (by rw [show ((10 : Int32)).toInt = 10 from by decide]; first | exact b5 | omega)) ?_
  refine ev_go 1 (pc1 := 48) (lv1 := [.int c]) (st1 := [.int 4]) (h1 := (124, I, J, R)) rfl ?_
  exact ev_ret rfl rfl
set_option maxRecDepth 20000 in
theorem ko_3a {L : Nat} {xs : Nat → Int32} {d : Nat} {I : Nat → Nat → Int32} {J : Nat → Nat → Int64} {R : Nat → Nat → Nat} {c : Int32} (hG : aGd R) (b1 : c.toInt ≠ -1) (b2 : c.toInt < 97) (b3 : c.toInt < 48) (b4 : c.toInt ≠ 32) (b5 : c.toInt ≠ 10) (b6 : c.toInt = 59) : xEv L xs d 23 0 [.int c] [] (124, I, J, R) (some (.int 3)) (124, I, J, R) := by
  refine ev_go 2 (pc1 := 2) (lv1 := [.int c]) (st1 := [.int (-1), .int c]) (h1 := (124, I, J, R)) rfl ?_
  refine ev_br (b1 := true) rfl rfl (xcd_ne (x := c) (y := (-1)) (by rw [show ((-1 : Int32)).toInt = -1 from by decide]; first | exact b1 | omega)) ?_
  refine ev_go 2 (pc1 := 10) (lv1 := [.int c]) (st1 := [.int 97, .int c]) (h1 := (124, I, J, R)) rfl ?_
  refine ev_br (b1 := true) rfl rfl (xcd_lt (x := c) (y := 97) (by rw [show ((97 : Int32)).toInt = 97 from by decide]; first | exact b2 | omega)) ?_
  refine ev_go 2 (pc1 := 24) (lv1 := [.int c]) (st1 := [.int 48, .int c]) (h1 := (124, I, J, R)) rfl ?_
  refine ev_br (b1 := true) rfl rfl (xcd_lt (x := c) (y := 48) (by rw [show ((48 : Int32)).toInt = 48 from by decide]; first | exact b3 | omega)) ?_
  refine ev_go 2 (pc1 := 38) (lv1 := [.int c]) (st1 := [.int 32, .int c]) (h1 := (124, I, J, R)) rfl ?_
  refine ev_br (b1 := false) rfl rfl (xcd_neq (x := c) (y := 32) (by rw [show ((32 : Int32)).toInt = 32 from by decide]; first | exact b4 | omega)) ?_
  refine ev_go 2 (pc1 := 44) (lv1 := [.int c]) (st1 := [.int 10, .int c]) (h1 := (124, I, J, R)) rfl ?_
  refine ev_br (b1 := true) rfl rfl (xcd_ne (x := c) (y := 10) (by rw [show ((10 : Int32)).toInt = 10 from by decide]; first | exact b5 | omega)) ?_
  refine ev_go 2 (pc1 := 52) (lv1 := [.int c]) (st1 := [.int 59, .int c]) (h1 := (124, I, J, R)) rfl ?_
  refine ev_br (b1 := false) rfl rfl (xcd_nne (x := c) (y := 59) (by rw [show ((59 : Int32)).toInt = 59 from by decide]; first | exact b6 | omega)) ?_
  refine ev_go 2 (pc1 := 60) (lv1 := [.int c]) (st1 := [.int 3]) (h1 := (124, I, J, R)) rfl ?_
  exact ev_ret rfl rfl
set_option maxRecDepth 20000 in
theorem ko_5a {L : Nat} {xs : Nat → Int32} {d : Nat} {I : Nat → Nat → Int32} {J : Nat → Nat → Int64} {R : Nat → Nat → Nat} {c : Int32} (hG : aGd R) (b1 : c.toInt ≠ -1) (b2 : c.toInt < 97) (b3 : c.toInt < 48) (b4 : c.toInt ≠ 32) (b5 : c.toInt ≠ 10) (b6 : c.toInt ≠ 59) : xEv L xs d 23 0 [.int c] [] (124, I, J, R) (some (.int 5)) (124, I, J, R) := by
  refine ev_go 2 (pc1 := 2) (lv1 := [.int c]) (st1 := [.int (-1), .int c]) (h1 := (124, I, J, R)) rfl ?_
  refine ev_br (b1 := true) rfl rfl (xcd_ne (x := c) (y := (-1)) (by rw [show ((-1 : Int32)).toInt = -1 from by decide]; first | exact b1 | omega)) ?_
  refine ev_go 2 (pc1 := 10) (lv1 := [.int c]) (st1 := [.int 97, .int c]) (h1 := (124, I, J, R)) rfl ?_
  refine ev_br (b1 := true) rfl rfl (xcd_lt (x := c) (y := 97) (by rw [show ((97 : Int32)).toInt = 97 from by decide]; first | exact b2 | omega)) ?_
  refine ev_go 2 (pc1 := 24) (lv1 := [.int c]) (st1 := [.int 48, .int c]) (h1 := (124, I, J, R)) rfl ?_
  refine ev_br (b1 := true) rfl rfl (xcd_lt (x := c) (y := 48) (by rw [show ((48 : Int32)).toInt = 48 from by decide]; first | exact b3 | omega)) ?_
  refine ev_go 2 (pc1 := 38) (lv1 := [.int c]) (st1 := [.int 32, .int c]) (h1 := (124, I, J, R)) rfl ?_
  refine ev_br (b1 := false) rfl rfl (xcd_neq (x := c) (y := 32) (by rw [show ((32 : Int32)).toInt = 32 from by decide]; first | exact b4 | omega)) ?_
  refine ev_go 2 (pc1 := 44) (lv1 := [.int c]) (st1 := [.int 10, .int c]) (h1 := (124, I, J, R)) rfl ?_
  refine ev_br (b1 := true) rfl rfl (xcd_ne (x := c) (y := 10) (by rw [show ((10 : Int32)).toInt = 10 from by decide]; first | exact b5 | omega)) ?_
  refine ev_go 2 (pc1 := 52) (lv1 := [.int c]) (st1 := [.int 59, .int c]) (h1 := (124, I, J, R)) rfl ?_
  refine ev_br (b1 := true) rfl rfl (xcd_ne (x := c) (y := 59) (by rw [show ((59 : Int32)).toInt = 59 from by decide]; first | exact b6 | omega)) ?_
  refine ev_go 1 (pc1 := 60) (lv1 := [.int c]) (st1 := [.int 5]) (h1 := (124, I, J, R)) rfl ?_
  exact ev_ret rfl rfl
set_option maxRecDepth 20000 in
theorem ko_4c {L : Nat} {xs : Nat → Int32} {d : Nat} {I : Nat → Nat → Int32} {J : Nat → Nat → Int64} {R : Nat → Nat → Nat} {c : Int32} (hG : aGd R) (b1 : c.toInt ≠ -1) (b2 : c.toInt < 97) (b3 : c.toInt ≥ 48) (b4 : c.toInt > 57) (b5 : c.toInt = 32) : xEv L xs d 23 0 [.int c] [] (124, I, J, R) (some (.int 4)) (124, I, J, R) := by
  refine ev_go 2 (pc1 := 2) (lv1 := [.int c]) (st1 := [.int (-1), .int c]) (h1 := (124, I, J, R)) rfl ?_
  refine ev_br (b1 := true) rfl rfl (xcd_ne (x := c) (y := (-1)) (by rw [show ((-1 : Int32)).toInt = -1 from by decide]; first | exact b1 | omega)) ?_
  refine ev_go 2 (pc1 := 10) (lv1 := [.int c]) (st1 := [.int 97, .int c]) (h1 := (124, I, J, R)) rfl ?_
  refine ev_br (b1 := true) rfl rfl (xcd_lt (x := c) (y := 97) (by rw [show ((97 : Int32)).toInt = 97 from by decide]; first | exact b2 | omega)) ?_
  refine ev_go 2 (pc1 := 24) (lv1 := [.int c]) (st1 := [.int 48, .int c]) (h1 := (124, I, J, R)) rfl ?_
  refine ev_br (b1 := false) rfl rfl (xcd_nlt (x := c) (y := 48) (by rw [show ((48 : Int32)).toInt = 48 from by decide]; first | exact b3 | omega)) ?_
  refine ev_go 2 (pc1 := 30) (lv1 := [.int c]) (st1 := [.int 57, .int c]) (h1 := (124, I, J, R)) rfl ?_
  refine ev_br (b1 := true) rfl rfl (xcd_gt (x := c) (y := 57) (by rw [show ((57 : Int32)).toInt = 57 from by decide]; first | exact b4 | omega)) ?_
  refine ev_go 2 (pc1 := 38) (lv1 := [.int c]) (st1 := [.int 32, .int c]) (h1 := (124, I, J, R)) rfl ?_
  refine ev_br (b1 := true) rfl rfl (xcd_eq (x := c) (y := 32) (by rw [show ((32 : Int32)).toInt = 32 from by decide]; first | exact b5 | omega)) ?_
  refine ev_go 1 (pc1 := 48) (lv1 := [.int c]) (st1 := [.int 4]) (h1 := (124, I, J, R)) rfl ?_
  exact ev_ret rfl rfl
set_option maxRecDepth 20000 in
theorem ko_4d {L : Nat} {xs : Nat → Int32} {d : Nat} {I : Nat → Nat → Int32} {J : Nat → Nat → Int64} {R : Nat → Nat → Nat} {c : Int32} (hG : aGd R) (b1 : c.toInt ≠ -1) (b2 : c.toInt < 97) (b3 : c.toInt ≥ 48) (b4 : c.toInt > 57) (b5 : c.toInt ≠ 32) (b6 : c.toInt = 10) : xEv L xs d 23 0 [.int c] [] (124, I, J, R) (some (.int 4)) (124, I, J, R) := by
  refine ev_go 2 (pc1 := 2) (lv1 := [.int c]) (st1 := [.int (-1), .int c]) (h1 := (124, I, J, R)) rfl ?_
  refine ev_br (b1 := true) rfl rfl (xcd_ne (x := c) (y := (-1)) (by rw [show ((-1 : Int32)).toInt = -1 from by decide]; first | exact b1 | omega)) ?_
  refine ev_go 2 (pc1 := 10) (lv1 := [.int c]) (st1 := [.int 97, .int c]) (h1 := (124, I, J, R)) rfl ?_
  refine ev_br (b1 := true) rfl rfl (xcd_lt (x := c) (y := 97) (by rw [show ((97 : Int32)).toInt = 97 from by decide]; first | exact b2 | omega)) ?_
  refine ev_go 2 (pc1 := 24) (lv1 := [.int c]) (st1 := [.int 48, .int c]) (h1 := (124, I, J, R)) rfl ?_
  refine ev_br (b1 := false) rfl rfl (xcd_nlt (x := c) (y := 48) (by rw [show ((48 : Int32)).toInt = 48 from by decide]; first | exact b3 | omega)) ?_
  refine ev_go 2 (pc1 := 30) (lv1 := [.int c]) (st1 := [.int 57, .int c]) (h1 := (124, I, J, R)) rfl ?_
  refine ev_br (b1 := true) rfl rfl (xcd_gt (x := c) (y := 57) (by rw [show ((57 : Int32)).toInt = 57 from by decide]; first | exact b4 | omega)) ?_
  refine ev_go 2 (pc1 := 38) (lv1 := [.int c]) (st1 := [.int 32, .int c]) (h1 := (124, I, J, R)) rfl ?_
  refine ev_br (b1 := false) rfl rfl (xcd_neq (x := c) (y := 32) (by rw [show ((32 : Int32)).toInt = 32 from by decide]; first | exact b5 | omega)) ?_
  refine ev_go 2 (pc1 := 44) (lv1 := [.int c]) (st1 := [.int 10, .int c]) (h1 := (124, I, J, R)) rfl ?_
  refine ev_br (b1 := false) rfl rfl (xcd_nne (x := c) (y := 10) (by rw [show ((10 : Int32)).toInt = 10 from by decide]; first | exact b6 | omega)) ?_
  refine ev_go 1 (pc1 := 48) (lv1 := [.int c]) (st1 := [.int 4]) (h1 := (124, I, J, R)) rfl ?_
  exact ev_ret rfl rfl
set_option maxRecDepth 20000 in
theorem ko_3b {L : Nat} {xs : Nat → Int32} {d : Nat} {I : Nat → Nat → Int32} {J : Nat → Nat → Int64} {R : Nat → Nat → Nat} {c : Int32} (hG : aGd R) (b1 : c.toInt ≠ -1) (b2 : c.toInt < 97) (b3 : c.toInt ≥ 48) (b4 : c.toInt > 57) (b5 : c.toInt ≠ 32) (b6 : c.toInt ≠ 10) (b7 : c.toInt = 59) : xEv L xs d 23 0 [.int c] [] (124, I, J, R) (some (.int 3)) (124, I, J, R) := by
  refine ev_go 2 (pc1 := 2) (lv1 := [.int c]) (st1 := [.int (-1), .int c]) (h1 := (124, I, J, R)) rfl ?_
  refine ev_br (b1 := true) rfl rfl (xcd_ne (x := c) (y := (-1)) (by rw [show ((-1 : Int32)).toInt = -1 from by decide]; first | exact b1 | omega)) ?_
  refine ev_go 2 (pc1 := 10) (lv1 := [.int c]) (st1 := [.int 97, .int c]) (h1 := (124, I, J, R)) rfl ?_
  refine ev_br (b1 := true) rfl rfl (xcd_lt (x := c) (y := 97) (by rw [show ((97 : Int32)).toInt = 97 from by decide]; first | exact b2 | omega)) ?_
  refine ev_go 2 (pc1 := 24) (lv1 := [.int c]) (st1 := [.int 48, .int c]) (h1 := (124, I, J, R)) rfl ?_
  refine ev_br (b1 := false) rfl rfl (xcd_nlt (x := c) (y := 48) (by rw [show ((48 : Int32)).toInt = 48 from by decide]; first | exact b3 | omega)) ?_
  refine ev_go 2 (pc1 := 30) (lv1 := [.int c]) (st1 := [.int 57, .int c]) (h1 := (124, I, J, R)) rfl ?_
  refine ev_br (b1 := true) rfl rfl (xcd_gt (x := c) (y := 57) (by rw [show ((57 : Int32)).toInt = 57 from by decide]; first | exact b4 | omega)) ?_
  refine ev_go 2 (pc1 := 38) (lv1 := [.int c]) (st1 := [.int 32, .int c]) (h1 := (124, I, J, R)) rfl ?_
  refine ev_br (b1 := false) rfl rfl (xcd_neq (x := c) (y := 32) (by rw [show ((32 : Int32)).toInt = 32 from by decide]; first | exact b5 | omega)) ?_
  refine ev_go 2 (pc1 := 44) (lv1 := [.int c]) (st1 := [.int 10, .int c]) (h1 := (124, I, J, R)) rfl ?_
  refine ev_br (b1 := true) rfl rfl (xcd_ne (x := c) (y := 10) (by rw [show ((10 : Int32)).toInt = 10 from by decide]; first | exact b6 | omega)) ?_
  refine ev_go 2 (pc1 := 52) (lv1 := [.int c]) (st1 := [.int 59, .int c]) (h1 := (124, I, J, R)) rfl ?_
  refine ev_br (b1 := false) rfl rfl (xcd_nne (x := c) (y := 59) (by rw [show ((59 : Int32)).toInt = 59 from by decide]; first | exact b7 | omega)) ?_
  refine ev_go 2 (pc1 := 60) (lv1 := [.int c]) (st1 := [.int 3]) (h1 := (124, I, J, R)) rfl ?_
  exact ev_ret rfl rfl
set_option maxRecDepth 20000 in
theorem ko_5b {L : Nat} {xs : Nat → Int32} {d : Nat} {I : Nat → Nat → Int32} {J : Nat → Nat → Int64} {R : Nat → Nat → Nat} {c : Int32} (hG : aGd R) (b1 : c.toInt ≠ -1) (b2 : c.toInt < 97) (b3 : c.toInt ≥ 48) (b4 : c.toInt > 57) (b5 : c.toInt ≠ 32) (b6 : c.toInt ≠ 10) (b7 : c.toInt ≠ 59) : xEv L xs d 23 0 [.int c] [] (124, I, J, R) (some (.int 5)) (124, I, J, R) := by
  refine ev_go 2 (pc1 := 2) (lv1 := [.int c]) (st1 := [.int (-1), .int c]) (h1 := (124, I, J, R)) rfl ?_
  refine ev_br (b1 := true) rfl rfl (xcd_ne (x := c) (y := (-1)) (by rw [show ((-1 : Int32)).toInt = -1 from by decide]; first | exact b1 | omega)) ?_
  refine ev_go 2 (pc1 := 10) (lv1 := [.int c]) (st1 := [.int 97, .int c]) (h1 := (124, I, J, R)) rfl ?_
  refine ev_br (b1 := true) rfl rfl (xcd_lt (x := c) (y := 97) (by rw [show ((97 : Int32)).toInt = 97 from by decide]; first | exact b2 | omega)) ?_
  refine ev_go 2 (pc1 := 24) (lv1 := [.int c]) (st1 := [.int 48, .int c]) (h1 := (124, I, J, R)) rfl ?_
  refine ev_br (b1 := false) rfl rfl (xcd_nlt (x := c) (y := 48) (by rw [show ((48 : Int32)).toInt = 48 from by decide]; first | exact b3 | omega)) ?_
  refine ev_go 2 (pc1 := 30) (lv1 := [.int c]) (st1 := [.int 57, .int c]) (h1 := (124, I, J, R)) rfl ?_
  refine ev_br (b1 := true) rfl rfl (xcd_gt (x := c) (y := 57) (by rw [show ((57 : Int32)).toInt = 57 from by decide]; first | exact b4 | omega)) ?_
  refine ev_go 2 (pc1 := 38) (lv1 := [.int c]) (st1 := [.int 32, .int c]) (h1 := (124, I, J, R)) rfl ?_
  refine ev_br (b1 := false) rfl rfl (xcd_neq (x := c) (y := 32) (by rw [show ((32 : Int32)).toInt = 32 from by decide]; first | exact b5 | omega)) ?_
  refine ev_go 2 (pc1 := 44) (lv1 := [.int c]) (st1 := [.int 10, .int c]) (h1 := (124, I, J, R)) rfl ?_
  refine ev_br (b1 := true) rfl rfl (xcd_ne (x := c) (y := 10) (by rw [show ((10 : Int32)).toInt = 10 from by decide]; first | exact b6 | omega)) ?_
  refine ev_go 2 (pc1 := 52) (lv1 := [.int c]) (st1 := [.int 59, .int c]) (h1 := (124, I, J, R)) rfl ?_
  refine ev_br (b1 := true) rfl rfl (xcd_ne (x := c) (y := 59) (by rw [show ((59 : Int32)).toInt = 59 from by decide]; first | exact b7 | omega)) ?_
  refine ev_go 1 (pc1 := 60) (lv1 := [.int c]) (st1 := [.int 5]) (h1 := (124, I, J, R)) rfl ?_
  exact ev_ret rfl rfl
set_option maxRecDepth 20000 in
theorem ko_5c {L : Nat} {xs : Nat → Int32} {d : Nat} {I : Nat → Nat → Int32} {J : Nat → Nat → Int64} {R : Nat → Nat → Nat} {c : Int32} (hG : aGd R) (b1 : c.toInt ≠ -1) (b2 : c.toInt ≥ 97) (b3 : c.toInt > 122) (b4 : c.toInt ≥ 48) (b5 : c.toInt > 57) (b6 : c.toInt ≠ 32) (b7 : c.toInt ≠ 10) (b8 : c.toInt ≠ 59) : xEv L xs d 23 0 [.int c] [] (124, I, J, R) (some (.int 5)) (124, I, J, R) := by
  refine ev_go 2 (pc1 := 2) (lv1 := [.int c]) (st1 := [.int (-1), .int c]) (h1 := (124, I, J, R)) rfl ?_
  refine ev_br (b1 := true) rfl rfl (xcd_ne (x := c) (y := (-1)) (by rw [show ((-1 : Int32)).toInt = -1 from by decide]; first | exact b1 | omega)) ?_
  refine ev_go 2 (pc1 := 10) (lv1 := [.int c]) (st1 := [.int 97, .int c]) (h1 := (124, I, J, R)) rfl ?_
  refine ev_br (b1 := false) rfl rfl (xcd_nlt (x := c) (y := 97) (by rw [show ((97 : Int32)).toInt = 97 from by decide]; first | exact b2 | omega)) ?_
  refine ev_go 2 (pc1 := 16) (lv1 := [.int c]) (st1 := [.int 122, .int c]) (h1 := (124, I, J, R)) rfl ?_
  refine ev_br (b1 := true) rfl rfl (xcd_gt (x := c) (y := 122) (by rw [show ((122 : Int32)).toInt = 122 from by decide]; first | exact b3 | omega)) ?_
  refine ev_go 2 (pc1 := 24) (lv1 := [.int c]) (st1 := [.int 48, .int c]) (h1 := (124, I, J, R)) rfl ?_
  refine ev_br (b1 := false) rfl rfl (xcd_nlt (x := c) (y := 48) (by rw [show ((48 : Int32)).toInt = 48 from by decide]; first | exact b4 | omega)) ?_
  refine ev_go 2 (pc1 := 30) (lv1 := [.int c]) (st1 := [.int 57, .int c]) (h1 := (124, I, J, R)) rfl ?_
  refine ev_br (b1 := true) rfl rfl (xcd_gt (x := c) (y := 57) (by rw [show ((57 : Int32)).toInt = 57 from by decide]; first | exact b5 | omega)) ?_
  refine ev_go 2 (pc1 := 38) (lv1 := [.int c]) (st1 := [.int 32, .int c]) (h1 := (124, I, J, R)) rfl ?_
  refine ev_br (b1 := false) rfl rfl (xcd_neq (x := c) (y := 32) (by rw [show ((32 : Int32)).toInt = 32 from by decide]; first | exact b6 | omega)) ?_
  refine ev_go 2 (pc1 := 44) (lv1 := [.int c]) (st1 := [.int 10, .int c]) (h1 := (124, I, J, R)) rfl ?_
  refine ev_br (b1 := true) rfl rfl (xcd_ne (x := c) (y := 10) (by rw [show ((10 : Int32)).toInt = 10 from by decide]; first | exact b7 | omega)) ?_
  refine ev_go 2 (pc1 := 52) (lv1 := [.int c]) (st1 := [.int 59, .int c]) (h1 := (124, I, J, R)) rfl ?_
  refine ev_br (b1 := true) rfl rfl (xcd_ne (x := c) (y := 59) (by rw [show ((59 : Int32)).toInt = 59 from by decide]; first | exact b8 | omega)) ?_
  refine ev_go 1 (pc1 := 60) (lv1 := [.int c]) (st1 := [.int 5]) (h1 := (124, I, J, R)) rfl ?_
  exact ev_ret rfl rfl
set_option maxRecDepth 20000 in
theorem bx_0 {L : Nat} {xs : Nat → Int32} {d : Nat} {I : Nat → Nat → Int32} {J : Nat → Nat → Int64} {R : Nat → Nat → Nat} {i : Int32} (hG : aGd R) (b1 : i.toInt < 0) : xEv L xs d 22 0 [.ref 1, .int i] [] (124, I, J, R) (some (.int (-1))) (124, I, J, R) := by
  refine ev_go 1 (pc1 := 1) (lv1 := [.ref 1, .int i]) (st1 := [.int i]) (h1 := (124, I, J, R)) rfl ?_
  refine ev_br (b1 := true) rfl rfl (xcd_lt (x := i) (y := 0) (by rw [show ((0 : Int32)).toInt = 0 from by decide]; first | exact b1 | omega)) ?_
  refine ev_go 1 (pc1 := 31) (lv1 := [.ref 1, .int i]) (st1 := [.int (-1)]) (h1 := (124, I, J, R)) rfl ?_
  exact ev_ret rfl rfl
set_option maxRecDepth 20000 in
theorem bx_1 {L : Nat} {xs : Nat → Int32} {d : Nat} {I : Nat → Nat → Int32} {J : Nat → Nat → Int64} {R : Nat → Nat → Nat} {i : Int32} (hG : aGd R) (b1 : i.toInt ≥ 0) (b2 : i.toInt ≥ (I 1 1).toInt) : xEv L xs d 22 0 [.ref 1, .int i] [] (124, I, J, R) (some (.int (-1))) (124, I, J, R) := by
  refine ev_go 1 (pc1 := 1) (lv1 := [.ref 1, .int i]) (st1 := [.int i]) (h1 := (124, I, J, R)) rfl ?_
  refine ev_br (b1 := false) rfl rfl (xcd_nlt (x := i) (y := 0) (by rw [show ((0 : Int32)).toInt = 0 from by decide]; first | exact b1 | omega)) ?_
  refine ev_go 3 (pc1 := 9) (lv1 := [.ref 1, .int i]) (st1 := [.int (I 1 1), .int i]) (h1 := (124, I, J, R)) rfl ?_
  refine ev_br (b1 := true) rfl rfl (xcd_ge (x := i) (y := (I 1 1)) (by first | exact b2 | omega)) ?_
  refine ev_go 1 (pc1 := 31) (lv1 := [.ref 1, .int i]) (st1 := [.int (-1)]) (h1 := (124, I, J, R)) rfl ?_
  exact ev_ret rfl rfl
set_option maxRecDepth 20000 in
theorem bx_2 {L : Nat} {xs : Nat → Int32} {d : Nat} {I : Nat → Nat → Int32} {J : Nat → Nat → Int64} {R : Nat → Nat → Nat} {i : Int32} (hG : aGd R) (b1 : i.toInt ≥ 0) (b2 : i.toInt < (I 1 1).toInt) (b3 : i.toInt < 900) (n1 : 0 ≤ i.toInt) (m1 : i.toInt < 900) : xEv L xs d 22 0 [.ref 1, .int i] [] (124, I, J, R) (some (.int (I 2 i.toNatClampNeg))) (124, I, J, R) := by
  refine ev_go 1 (pc1 := 1) (lv1 := [.ref 1, .int i]) (st1 := [.int i]) (h1 := (124, I, J, R)) rfl ?_
  refine ev_br (b1 := false) rfl rfl (xcd_nlt (x := i) (y := 0) (by rw [show ((0 : Int32)).toInt = 0 from by decide]; first | exact b1 | omega)) ?_
  refine ev_go 3 (pc1 := 9) (lv1 := [.ref 1, .int i]) (st1 := [.int (I 1 1), .int i]) (h1 := (124, I, J, R)) rfl ?_
  refine ev_br (b1 := false) rfl rfl (xcd_nge (x := i) (y := (I 1 1)) (by first | exact b2 | omega)) ?_
  refine ev_go 2 (pc1 := 14) (lv1 := [.ref 1, .int i]) (st1 := [.ref 1, .int i]) (h1 := (124, I, J, R)) rfl ?_
  refine ev_gf (c := 1) (t := 2) (X := R 1 0) rfl rfl (fun _ => rfl) rfl (hG 1 0 2 rfl rfl) ?_
  refine ev_go 1 (pc1 := 18) (lv1 := [.ref 1, .int i]) (st1 := [.int 900, .int i]) (h1 := (124, I, J, R)) rfl ?_
  refine ev_br (b1 := false) rfl rfl (xcd_nge (x := i) (y := 900) (by rw [show ((900 : Int32)).toInt = 900 from by decide]; first | exact b3 | omega)) ?_
  refine ev_go 1 (pc1 := 22) (lv1 := [.ref 1, .int i]) (st1 := [.ref 1]) (h1 := (124, I, J, R)) rfl ?_
  refine ev_gf (c := 1) (t := 2) (X := R 1 0) rfl rfl (fun _ => rfl) rfl (hG 1 0 2 rfl rfl) ?_
  refine ev_go 1 (pc1 := 26) (lv1 := [.ref 1, .int i]) (st1 := [.int i, .ref 2]) (h1 := (124, I, J, R)) rfl ?_
  refine ev_ild (n := 900) rfl rfl (fun _ => rfl) n1 m1 ?_
  refine ev_go 1 (pc1 := 31) (lv1 := [.ref 1, .int i]) (st1 := [.int (I 2 i.toNatClampNeg)]) (h1 := (124, I, J, R)) rfl ?_
  exact ev_ret rfl rfl
set_option maxRecDepth 20000 in
theorem wx_0 {L : Nat} {xs : Nat → Int32} {d : Nat} {I : Nat → Nat → Int32} {J : Nat → Nat → Int64} {R : Nat → Nat → Nat} {c : Int32} {vv : Int64} (hG : aGd R) (b1 : c.toInt < 97) : xEv L xs d 24 0 [.long vv, xmk, .int c] [] (124, I, J, R) (some (.long (((vv * 10) + c.toInt64) - 48))) (124, I, J, R) := by
  refine ev_go 2 (pc1 := 3) (lv1 := [.long vv, xmk, .int c]) (st1 := [.int 97, .int c]) (h1 := (124, I, J, R)) rfl ?_
  refine ev_br (b1 := true) rfl rfl (xcd_lt (x := c) (y := 97) (by rw [show ((97 : Int32)).toInt = 97 from by decide]; first | exact b1 | omega)) ?_
  refine ev_go 8 (pc1 := 35) (lv1 := [.long vv, xmk, .int c]) (st1 := [.long (((vv * 10) + c.toInt64) - 48)]) (h1 := (124, I, J, R)) rfl ?_
  exact ev_ret rfl rfl
set_option maxRecDepth 20000 in
theorem wx_1 {L : Nat} {xs : Nat → Int32} {d : Nat} {I : Nat → Nat → Int32} {J : Nat → Nat → Int64} {R : Nat → Nat → Nat} {c : Int32} {vv : Int64} (hG : aGd R) (b1 : c.toInt ≥ 97) : xEv L xs d 24 0 [.long vv, xmk, .int c] [] (124, I, J, R) (some (.long ((((vv * 27) + c.toInt64) - 97) + 1))) (124, I, J, R) := by
  refine ev_go 2 (pc1 := 3) (lv1 := [.long vv, xmk, .int c]) (st1 := [.int 97, .int c]) (h1 := (124, I, J, R)) rfl ?_
  refine ev_br (b1 := false) rfl rfl (xcd_nlt (x := c) (y := 97) (by rw [show ((97 : Int32)).toInt = 97 from by decide]; first | exact b1 | omega)) ?_
  refine ev_go 11 (pc1 := 35) (lv1 := [.long vv, xmk, .int c]) (st1 := [.long ((((vv * 27) + c.toInt64) - 97) + 1)]) (h1 := (124, I, J, R)) rfl ?_
  exact ev_ret rfl rfl
section TK
variable {L : Nat} {xs : Nat → Int32} {d : Nat} {I : Nat → Nat → Int32} {J : Nat → Nat → Int64} {R : Nat → Nat → Nat}
theorem ko_run (hG : aGd R) (c : Int32) : xEv L xs d 23 0 [.int c] [] (124, I, J, R) (some (.int (Int32.ofNat (kd c.toInt)))) (124, I, J, R) := by
  by_cases h0 : c.toInt = -1
  · have e : kd c.toInt = 0 := by unfold kd; rw [if_pos h0]
    rw [e]; exact ko_0 hG h0
  by_cases h1 : 97 ≤ c.toInt ∧ c.toInt ≤ 122
  · have e : kd c.toInt = 1 := by unfold kd; rw [if_neg h0, if_pos h1]
    rw [e]; exact ko_1 hG h0 (by omega) (by omega)
  by_cases h2 : 48 ≤ c.toInt ∧ c.toInt ≤ 57
  · have e : kd c.toInt = 2 := by unfold kd; rw [if_neg h0, if_neg h1, if_pos h2]
    rw [e]; exact ko_2a hG h0 (by omega) (by omega) (by omega)
  by_cases h4 : c.toInt = 32 ∨ c.toInt = 10
  · have e : kd c.toInt = 4 := by unfold kd; rw [if_neg h0, if_neg h1, if_neg h2, if_pos h4]
    rw [e]
    rcases h4 with h4 | h4
    · exact ko_4a hG h0 (by omega) (by omega) h4
    · exact ko_4b hG h0 (by omega) (by omega) (by omega) h4
  by_cases h3 : c.toInt = 59
  · have e : kd c.toInt = 3 := by unfold kd; rw [if_neg h0, if_neg h1, if_neg h2, if_neg h4, if_pos h3]
    rw [e]; exact ko_3b hG h0 (by omega) (by omega) (by omega) (by omega) (by omega) h3
  have e : kd c.toInt = 5 := by unfold kd; rw [if_neg h0, if_neg h1, if_neg h2, if_neg h4, if_neg h3]
  rw [e]
  by_cases h5 : c.toInt < 48
  · exact ko_5a hG h0 (by omega) h5 (by omega) (by omega) h3
  · by_cases h6 : c.toInt < 97
    · exact ko_5b hG h0 h6 (by omega) (by omega) (by omega) (by omega) h3
    · exact ko_5c hG h0 (by omega) (by omega) (by omega) (by omega) (by omega) (by omega) h3
/-- the tape's bytes, -1 behind its end -/
def bX (I : Nat → Nat → Int32) (n : Nat) : Nat → Int32 := fun q => if q < n then I 2 q else -1
theorem bx_run (hG : aGd R) {n p : Nat} (hn : (I 1 1).toInt = n) (hn9 : n ≤ 900) {i : Int32} (hi : i.toInt = p) : xEv L xs d 22 0 [.ref 1, .int i] [] (124, I, J, R) (some (.int (bX I n p))) (124, I, J, R) := by
  unfold bX
  by_cases h : p < n
  · rw [if_pos h]
    have ec := clamp_s (i := i) (by omega)
    have e : i.toNatClampNeg = p := by omega
    have h1 := bx_2 (L := L) (xs := xs) (d := d) (I := I) (J := J) (i := i) hG (by omega) (by omega) (by omega) (by omega) (by omega)
    rw [e] at h1
    exact h1
  · rw [if_neg h]
    exact bx_1 hG (by omega) (by omega)
theorem wx_run (hG : aGd R) (v : Int64) (c : Int32) : xEv L xs d 24 0 [.long v, xmk, .int c] [] (124, I, J, R) (some (.long (wsg v c))) (124, I, J, R) := by
  unfold wsg
  by_cases h : 97 ≤ c.toInt
  · rw [if_pos h]; exact wx_1 hG (by omega)
  · rw [if_neg h]; exact wx_0 hG (by omega)
end TK
set_option maxRecDepth 20000 in
theorem ax_1 {L : Nat} {xs : Nat → Int32} {d : Nat} {I : Nat → Nat → Int32} {J : Nat → Nat → Int64} {R : Nat → Nat → Nat} {x y : Int32} (hG : aGd R) (b1 : (I 1 2).toInt < (I 1 1).toInt) (c1 : xEv L xs d 22 0 [.ref 1, .int (I 1 2)] [] (124, I, J, R) (some (.int x)) (124, I, J, R)) (c2 : xEv L xs d 23 0 [.int x] [] (124, I, J, R) (some (.int y)) (124, I, J, R)) (b2 : y.toInt = 4) {v : Option Value} {h' : xH} (hk : xEv L xs (d + 1) 21 0 [.ref 1] [] (124, (uI I 1 2 ((I 1 2) + 1)), J, R) v h') : xEv L xs (d + 1) 21 0 [.ref 1] [] (124, I, J, R) v h' := by
  refine ev_go 4 (pc1 := 8) (lv1 := [.ref 1]) (st1 := [.int (I 1 1), .int (I 1 2)]) (h1 := (124, I, J, R)) rfl ?_
  refine ev_br (b1 := false) rfl rfl (xcd_nge (x := (I 1 2)) (y := (I 1 1)) (by first | exact b1 | omega)) ?_
  refine ev_go 3 (pc1 := 16) (lv1 := [.ref 1]) (st1 := [.int (I 1 2), .ref 1]) (h1 := (124, I, J, R)) rfl ?_
  refine ev_call (v1 := (some (.int x))) (h1 := (124, I, J, R)) rfl rfl c1 ?_
  refine ev_call (v1 := (some (.int y))) (h1 := (124, I, J, R)) rfl rfl c2 ?_
  refine ev_go 1 (pc1 := 23) (lv1 := [.ref 1]) (st1 := [.int 4, .int y]) (h1 := (124, I, J, R)) rfl ?_
  refine ev_br (b1 := false) rfl rfl (xcd_nne (x := y) (y := 4) (by rw [show ((4 : Int32)).toInt = 4 from by decide]; first | exact b2 | omega)) ?_
  refine ev_go 7 (pc1 := 0) (lv1 := [.ref 1]) (st1 := []) (h1 := (124, (uI I 1 2 ((I 1 2) + 1)), J, R)) rfl ?_
  exact hk
set_option maxRecDepth 20000 in
theorem ax_2 {L : Nat} {xs : Nat → Int32} {d : Nat} {I : Nat → Nat → Int32} {J : Nat → Nat → Int64} {R : Nat → Nat → Nat} (hG : aGd R) (b1 : (I 1 2).toInt ≥ (I 1 1).toInt) {v : Option Value} {h' : xH} (hk : xEv L xs d 21 39 [.ref 1] [] (124, I, J, R) v h') : xEv L xs d 21 0 [.ref 1] [] (124, I, J, R) v h' := by
  refine ev_go 4 (pc1 := 8) (lv1 := [.ref 1]) (st1 := [.int (I 1 1), .int (I 1 2)]) (h1 := (124, I, J, R)) rfl ?_
  refine ev_br (b1 := true) rfl rfl (xcd_ge (x := (I 1 2)) (y := (I 1 1)) (by first | exact b1 | omega)) ?_
  exact hk
set_option maxRecDepth 20000 in
theorem ax_3 {L : Nat} {xs : Nat → Int32} {d : Nat} {I : Nat → Nat → Int32} {J : Nat → Nat → Int64} {R : Nat → Nat → Nat} {x y : Int32} (hG : aGd R) (b1 : (I 1 2).toInt < (I 1 1).toInt) (c1 : xEv L xs d 22 0 [.ref 1, .int (I 1 2)] [] (124, I, J, R) (some (.int x)) (124, I, J, R)) (c2 : xEv L xs d 23 0 [.int x] [] (124, I, J, R) (some (.int y)) (124, I, J, R)) (b2 : y.toInt ≠ 4) {v : Option Value} {h' : xH} (hk : xEv L xs (d + 1) 21 39 [.ref 1] [] (124, I, J, R) v h') : xEv L xs (d + 1) 21 0 [.ref 1] [] (124, I, J, R) v h' := by
  refine ev_go 4 (pc1 := 8) (lv1 := [.ref 1]) (st1 := [.int (I 1 1), .int (I 1 2)]) (h1 := (124, I, J, R)) rfl ?_
  refine ev_br (b1 := false) rfl rfl (xcd_nge (x := (I 1 2)) (y := (I 1 1)) (by first | exact b1 | omega)) ?_
  refine ev_go 3 (pc1 := 16) (lv1 := [.ref 1]) (st1 := [.int (I 1 2), .ref 1]) (h1 := (124, I, J, R)) rfl ?_
  refine ev_call (v1 := (some (.int x))) (h1 := (124, I, J, R)) rfl rfl c1 ?_
  refine ev_call (v1 := (some (.int y))) (h1 := (124, I, J, R)) rfl rfl c2 ?_
  refine ev_go 1 (pc1 := 23) (lv1 := [.ref 1]) (st1 := [.int 4, .int y]) (h1 := (124, I, J, R)) rfl ?_
  refine ev_br (b1 := true) rfl rfl (xcd_ne (x := y) (y := 4) (by rw [show ((4 : Int32)).toInt = 4 from by decide]; first | exact b2 | omega)) ?_
  exact hk
set_option maxRecDepth 20000 in
theorem ax_4 {L : Nat} {xs : Nat → Int32} {d : Nat} {I : Nat → Nat → Int32} {J : Nat → Nat → Int64} {R : Nat → Nat → Nat} {x y : Int32} (hG : aGd R) (c1 : xEv L xs d 22 0 [.ref 1, .int (I 1 2)] [] (124, (uI I 1 4 (I 1 2)), (uL J 1 5 0), R) (some (.int x)) (124, (uI I 1 4 (I 1 2)), (uL J 1 5 0), R)) (c2 : xEv L xs d 23 0 [.int x] [] (124, (uI I 1 4 (I 1 2)), (uL J 1 5 0), R) (some (.int y)) (124, (uI I 1 4 (I 1 2)), (uL J 1 5 0), R)) (b1 : y.toInt ≠ 1) (b2 : y.toInt ≠ 2) (b3 : y.toInt = 0) : xEv L xs (d + 1) 21 39 [.ref 1] [] (124, I, J, R) none (124, (uI (uI (uI I 1 4 (I 1 2)) 1 3 y) 1 2 (I 1 2)), (uL J 1 5 0), R) := by
  refine ev_go 11 (pc1 := 58) (lv1 := [.ref 1]) (st1 := [.int (I 1 2), .ref 1, .ref 1]) (h1 := (124, (uI I 1 4 (I 1 2)), (uL J 1 5 0), R)) rfl ?_
  refine ev_call (v1 := (some (.int x))) (h1 := (124, (uI I 1 4 (I 1 2)), (uL J 1 5 0), R)) rfl rfl c1 ?_
  refine ev_call (v1 := (some (.int y))) (h1 := (124, (uI I 1 4 (I 1 2)), (uL J 1 5 0), R)) rfl rfl c2 ?_
  refine ev_go 4 (pc1 := 72) (lv1 := [.ref 1]) (st1 := [.int 1, .int y]) (h1 := (124, (uI (uI I 1 4 (I 1 2)) 1 3 y), (uL J 1 5 0), R)) rfl ?_
  refine ev_br (b1 := false) rfl rfl (xcd_neq (x := y) (y := 1) (by rw [show ((1 : Int32)).toInt = 1 from by decide]; first | exact b1 | omega)) ?_
  refine ev_go 3 (pc1 := 80) (lv1 := [.ref 1]) (st1 := [.int 2, .int y]) (h1 := (124, (uI (uI I 1 4 (I 1 2)) 1 3 y), (uL J 1 5 0), R)) rfl ?_
  refine ev_br (b1 := false) rfl rfl (xcd_neq (x := y) (y := 2) (by rw [show ((2 : Int32)).toInt = 2 from by decide]; first | exact b2 | omega)) ?_
  refine ev_go 3 (pc1 := 88) (lv1 := [.ref 1]) (st1 := [.int y, .ref 1]) (h1 := (124, (uI (uI I 1 4 (I 1 2)) 1 3 y), (uL J 1 5 0), R)) rfl ?_
  refine ev_br (b1 := false) rfl rfl (xcd_nne (x := y) (y := 0) (by rw [show ((0 : Int32)).toInt = 0 from by decide]; first | exact b3 | omega)) ?_
  refine ev_go 4 (pc1 := 107) (lv1 := [.ref 1]) (st1 := []) (h1 := (124, (uI (uI (uI I 1 4 (I 1 2)) 1 3 y) 1 2 (I 1 2)), (uL J 1 5 0), R)) rfl ?_
  exact ev_ret rfl rfl
set_option maxRecDepth 20000 in
theorem ax_5 {L : Nat} {xs : Nat → Int32} {d : Nat} {I : Nat → Nat → Int32} {J : Nat → Nat → Int64} {R : Nat → Nat → Nat} {x y : Int32} (hG : aGd R) (c1 : xEv L xs d 22 0 [.ref 1, .int (I 1 2)] [] (124, (uI I 1 4 (I 1 2)), (uL J 1 5 0), R) (some (.int x)) (124, (uI I 1 4 (I 1 2)), (uL J 1 5 0), R)) (c2 : xEv L xs d 23 0 [.int x] [] (124, (uI I 1 4 (I 1 2)), (uL J 1 5 0), R) (some (.int y)) (124, (uI I 1 4 (I 1 2)), (uL J 1 5 0), R)) (b1 : y.toInt ≠ 1) (b2 : y.toInt ≠ 2) (b3 : y.toInt ≠ 0) : xEv L xs (d + 1) 21 39 [.ref 1] [] (124, I, J, R) none (124, (uI (uI (uI I 1 4 (I 1 2)) 1 3 y) 1 2 ((I 1 2) + 1)), (uL J 1 5 0), R) := by
  refine ev_go 11 (pc1 := 58) (lv1 := [.ref 1]) (st1 := [.int (I 1 2), .ref 1, .ref 1]) (h1 := (124, (uI I 1 4 (I 1 2)), (uL J 1 5 0), R)) rfl ?_
  refine ev_call (v1 := (some (.int x))) (h1 := (124, (uI I 1 4 (I 1 2)), (uL J 1 5 0), R)) rfl rfl c1 ?_
  refine ev_call (v1 := (some (.int y))) (h1 := (124, (uI I 1 4 (I 1 2)), (uL J 1 5 0), R)) rfl rfl c2 ?_
  refine ev_go 4 (pc1 := 72) (lv1 := [.ref 1]) (st1 := [.int 1, .int y]) (h1 := (124, (uI (uI I 1 4 (I 1 2)) 1 3 y), (uL J 1 5 0), R)) rfl ?_
  refine ev_br (b1 := false) rfl rfl (xcd_neq (x := y) (y := 1) (by rw [show ((1 : Int32)).toInt = 1 from by decide]; first | exact b1 | omega)) ?_
  refine ev_go 3 (pc1 := 80) (lv1 := [.ref 1]) (st1 := [.int 2, .int y]) (h1 := (124, (uI (uI I 1 4 (I 1 2)) 1 3 y), (uL J 1 5 0), R)) rfl ?_
  refine ev_br (b1 := false) rfl rfl (xcd_neq (x := y) (y := 2) (by rw [show ((2 : Int32)).toInt = 2 from by decide]; first | exact b2 | omega)) ?_
  refine ev_go 3 (pc1 := 88) (lv1 := [.ref 1]) (st1 := [.int y, .ref 1]) (h1 := (124, (uI (uI I 1 4 (I 1 2)) 1 3 y), (uL J 1 5 0), R)) rfl ?_
  refine ev_br (b1 := true) rfl rfl (xcd_ne (x := y) (y := 0) (by rw [show ((0 : Int32)).toInt = 0 from by decide]; first | exact b3 | omega)) ?_
  refine ev_go 5 (pc1 := 107) (lv1 := [.ref 1]) (st1 := []) (h1 := (124, (uI (uI (uI I 1 4 (I 1 2)) 1 3 y) 1 2 ((I 1 2) + 1)), (uL J 1 5 0), R)) rfl ?_
  exact ev_ret rfl rfl
set_option maxRecDepth 20000 in
theorem ax_6 {L : Nat} {xs : Nat → Int32} {d : Nat} {I : Nat → Nat → Int32} {J : Nat → Nat → Int64} {R : Nat → Nat → Nat} {x y : Int32} (hG : aGd R) (c1 : xEv L xs d 22 0 [.ref 1, .int (I 1 2)] [] (124, (uI I 1 4 (I 1 2)), (uL J 1 5 0), R) (some (.int x)) (124, (uI I 1 4 (I 1 2)), (uL J 1 5 0), R)) (c2 : xEv L xs d 23 0 [.int x] [] (124, (uI I 1 4 (I 1 2)), (uL J 1 5 0), R) (some (.int y)) (124, (uI I 1 4 (I 1 2)), (uL J 1 5 0), R)) (b1 : y.toInt = 1) {v : Option Value} {h' : xH} (hk : xEv L xs (d + 1) 21 108 [.ref 1] [] (124, (uI (uI I 1 4 (I 1 2)) 1 3 y), (uL J 1 5 0), R) v h') : xEv L xs (d + 1) 21 39 [.ref 1] [] (124, I, J, R) v h' := by
  refine ev_go 11 (pc1 := 58) (lv1 := [.ref 1]) (st1 := [.int (I 1 2), .ref 1, .ref 1]) (h1 := (124, (uI I 1 4 (I 1 2)), (uL J 1 5 0), R)) rfl ?_
  refine ev_call (v1 := (some (.int x))) (h1 := (124, (uI I 1 4 (I 1 2)), (uL J 1 5 0), R)) rfl rfl c1 ?_
  refine ev_call (v1 := (some (.int y))) (h1 := (124, (uI I 1 4 (I 1 2)), (uL J 1 5 0), R)) rfl rfl c2 ?_
  refine ev_go 4 (pc1 := 72) (lv1 := [.ref 1]) (st1 := [.int 1, .int y]) (h1 := (124, (uI (uI I 1 4 (I 1 2)) 1 3 y), (uL J 1 5 0), R)) rfl ?_
  refine ev_br (b1 := true) rfl rfl (xcd_eq (x := y) (y := 1) (by rw [show ((1 : Int32)).toInt = 1 from by decide]; first | exact b1 | omega)) ?_
  exact hk
set_option maxRecDepth 20000 in
theorem ax_7 {L : Nat} {xs : Nat → Int32} {d : Nat} {I : Nat → Nat → Int32} {J : Nat → Nat → Int64} {R : Nat → Nat → Nat} {x y : Int32} (hG : aGd R) (c1 : xEv L xs d 22 0 [.ref 1, .int (I 1 2)] [] (124, (uI I 1 4 (I 1 2)), (uL J 1 5 0), R) (some (.int x)) (124, (uI I 1 4 (I 1 2)), (uL J 1 5 0), R)) (c2 : xEv L xs d 23 0 [.int x] [] (124, (uI I 1 4 (I 1 2)), (uL J 1 5 0), R) (some (.int y)) (124, (uI I 1 4 (I 1 2)), (uL J 1 5 0), R)) (b1 : y.toInt ≠ 1) (b2 : y.toInt = 2) {v : Option Value} {h' : xH} (hk : xEv L xs (d + 1) 21 108 [.ref 1] [] (124, (uI (uI I 1 4 (I 1 2)) 1 3 y), (uL J 1 5 0), R) v h') : xEv L xs (d + 1) 21 39 [.ref 1] [] (124, I, J, R) v h' := by
  refine ev_go 11 (pc1 := 58) (lv1 := [.ref 1]) (st1 := [.int (I 1 2), .ref 1, .ref 1]) (h1 := (124, (uI I 1 4 (I 1 2)), (uL J 1 5 0), R)) rfl ?_
  refine ev_call (v1 := (some (.int x))) (h1 := (124, (uI I 1 4 (I 1 2)), (uL J 1 5 0), R)) rfl rfl c1 ?_
  refine ev_call (v1 := (some (.int y))) (h1 := (124, (uI I 1 4 (I 1 2)), (uL J 1 5 0), R)) rfl rfl c2 ?_
  refine ev_go 4 (pc1 := 72) (lv1 := [.ref 1]) (st1 := [.int 1, .int y]) (h1 := (124, (uI (uI I 1 4 (I 1 2)) 1 3 y), (uL J 1 5 0), R)) rfl ?_
  refine ev_br (b1 := false) rfl rfl (xcd_neq (x := y) (y := 1) (by rw [show ((1 : Int32)).toInt = 1 from by decide]; first | exact b1 | omega)) ?_
  refine ev_go 3 (pc1 := 80) (lv1 := [.ref 1]) (st1 := [.int 2, .int y]) (h1 := (124, (uI (uI I 1 4 (I 1 2)) 1 3 y), (uL J 1 5 0), R)) rfl ?_
  refine ev_br (b1 := true) rfl rfl (xcd_eq (x := y) (y := 2) (by rw [show ((2 : Int32)).toInt = 2 from by decide]; first | exact b2 | omega)) ?_
  exact hk
set_option maxRecDepth 20000 in
theorem ax_8 {L : Nat} {xs : Nat → Int32} {d : Nat} {I : Nat → Nat → Int32} {J : Nat → Nat → Int64} {R : Nat → Nat → Nat} {x y z : Int32} {vv : Int64} (hG : aGd R) (b1 : (I 1 2).toInt < (I 1 1).toInt) (c1 : xEv L xs d 22 0 [.ref 1, .int (I 1 2)] [] (124, I, J, R) (some (.int x)) (124, I, J, R)) (c2 : xEv L xs d 23 0 [.int x] [] (124, I, J, R) (some (.int y)) (124, I, J, R)) (b2 : y.toInt = (I 1 3).toInt) (c3 : xEv L xs d 22 0 [.ref 1, .int (I 1 2)] [] (124, I, J, R) (some (.int z)) (124, I, J, R)) (c4 : xEv L xs d 24 0 [.long (J 1 5), xmk, .int z] [] (124, I, J, R) (some (.long vv)) (124, I, J, R)) {v : Option Value} {h' : xH} (hk : xEv L xs (d + 1) 21 108 [.ref 1] [] (124, (uI I 1 2 ((I 1 2) + 1)), (uL J 1 5 vv), R) v h') : xEv L xs (d + 1) 21 108 [.ref 1] [] (124, I, J, R) v h' := by
  refine ev_go 4 (pc1 := 116) (lv1 := [.ref 1]) (st1 := [.int (I 1 1), .int (I 1 2)]) (h1 := (124, I, J, R)) rfl ?_
  refine ev_br (b1 := false) rfl rfl (xcd_nge (x := (I 1 2)) (y := (I 1 1)) (by first | exact b1 | omega)) ?_
  refine ev_go 3 (pc1 := 124) (lv1 := [.ref 1]) (st1 := [.int (I 1 2), .ref 1]) (h1 := (124, I, J, R)) rfl ?_
  refine ev_call (v1 := (some (.int x))) (h1 := (124, I, J, R)) rfl rfl c1 ?_
  refine ev_call (v1 := (some (.int y))) (h1 := (124, I, J, R)) rfl rfl c2 ?_
  refine ev_go 2 (pc1 := 134) (lv1 := [.ref 1]) (st1 := [.int (I 1 3), .int y]) (h1 := (124, I, J, R)) rfl ?_
  refine ev_br (b1 := false) rfl rfl (xcd_nne (x := y) (y := (I 1 3)) (by first | exact b2 | omega)) ?_
  refine ev_go 6 (pc1 := 147) (lv1 := [.ref 1]) (st1 := [.int (I 1 2), .ref 1, .long (J 1 5), .ref 1]) (h1 := (124, I, J, R)) rfl ?_
  refine ev_call (v1 := (some (.int z))) (h1 := (124, I, J, R)) rfl rfl c3 ?_
  refine ev_call (v1 := (some (.long vv))) (h1 := (124, I, J, R)) rfl rfl c4 ?_
  refine ev_go 8 (pc1 := 108) (lv1 := [.ref 1]) (st1 := []) (h1 := (124, (uI I 1 2 ((I 1 2) + 1)), (uL J 1 5 vv), R)) rfl ?_
  exact hk
set_option maxRecDepth 20000 in
theorem ax_9 {L : Nat} {xs : Nat → Int32} {d : Nat} {I : Nat → Nat → Int32} {J : Nat → Nat → Int64} {R : Nat → Nat → Nat} (hG : aGd R) (b1 : (I 1 2).toInt ≥ (I 1 1).toInt) {v : Option Value} {h' : xH} (hk : xEv L xs d 21 169 [.ref 1] [] (124, I, J, R) v h') : xEv L xs d 21 108 [.ref 1] [] (124, I, J, R) v h' := by
  refine ev_go 4 (pc1 := 116) (lv1 := [.ref 1]) (st1 := [.int (I 1 1), .int (I 1 2)]) (h1 := (124, I, J, R)) rfl ?_
  refine ev_br (b1 := true) rfl rfl (xcd_ge (x := (I 1 2)) (y := (I 1 1)) (by first | exact b1 | omega)) ?_
  exact hk
set_option maxRecDepth 20000 in
theorem ax_10 {L : Nat} {xs : Nat → Int32} {d : Nat} {I : Nat → Nat → Int32} {J : Nat → Nat → Int64} {R : Nat → Nat → Nat} {x y : Int32} (hG : aGd R) (b1 : (I 1 2).toInt < (I 1 1).toInt) (c1 : xEv L xs d 22 0 [.ref 1, .int (I 1 2)] [] (124, I, J, R) (some (.int x)) (124, I, J, R)) (c2 : xEv L xs d 23 0 [.int x] [] (124, I, J, R) (some (.int y)) (124, I, J, R)) (b2 : y.toInt ≠ (I 1 3).toInt) {v : Option Value} {h' : xH} (hk : xEv L xs (d + 1) 21 169 [.ref 1] [] (124, I, J, R) v h') : xEv L xs (d + 1) 21 108 [.ref 1] [] (124, I, J, R) v h' := by
  refine ev_go 4 (pc1 := 116) (lv1 := [.ref 1]) (st1 := [.int (I 1 1), .int (I 1 2)]) (h1 := (124, I, J, R)) rfl ?_
  refine ev_br (b1 := false) rfl rfl (xcd_nge (x := (I 1 2)) (y := (I 1 1)) (by first | exact b1 | omega)) ?_
  refine ev_go 3 (pc1 := 124) (lv1 := [.ref 1]) (st1 := [.int (I 1 2), .ref 1]) (h1 := (124, I, J, R)) rfl ?_
  refine ev_call (v1 := (some (.int x))) (h1 := (124, I, J, R)) rfl rfl c1 ?_
  refine ev_call (v1 := (some (.int y))) (h1 := (124, I, J, R)) rfl rfl c2 ?_
  refine ev_go 2 (pc1 := 134) (lv1 := [.ref 1]) (st1 := [.int (I 1 3), .int y]) (h1 := (124, I, J, R)) rfl ?_
  refine ev_br (b1 := true) rfl rfl (xcd_ne (x := y) (y := (I 1 3)) (by first | exact b2 | omega)) ?_
  exact hk
set_option maxRecDepth 20000 in
theorem ax_11 {L : Nat} {xs : Nat → Int32} {d : Nat} {I : Nat → Nat → Int32} {J : Nat → Nat → Int64} {R : Nat → Nat → Nat} (hG : aGd R) (b1 : (I 1 3).toInt ≠ 1) (b2 : ((I 1 2) - (I 1 4)).toInt ≤ 3) : xEv L xs d 21 169 [.ref 1] [] (124, I, J, R) none (124, I, J, R) := by
  refine ev_go 8 (pc1 := 183) (lv1 := [.ref 1]) (st1 := [.int 1, .int (I 1 3), .int ((I 1 2) - (I 1 4))]) (h1 := (124, I, J, R)) rfl ?_
  refine ev_br (b1 := true) rfl rfl (xcd_ne (x := (I 1 3)) (y := 1) (by rw [show ((1 : Int32)).toInt = 1 from by decide]; first | exact b1 | omega)) ?_
  refine ev_go 1 (pc1 := 192) (lv1 := [.ref 1]) (st1 := [.int 3, .int ((I 1 2) - (I 1 4))]) (h1 := (124, I, J, R)) rfl ?_
  refine ev_br (b1 := true) rfl rfl (xcd_le (x := ((I 1 2) - (I 1 4))) (y := 3) (by rw [show ((3 : Int32)).toInt = 3 from by decide]; first | exact b2 | omega)) ?_
  exact ev_ret rfl rfl
set_option maxRecDepth 20000 in
theorem ax_12 {L : Nat} {xs : Nat → Int32} {d : Nat} {I : Nat → Nat → Int32} {J : Nat → Nat → Int64} {R : Nat → Nat → Nat} (hG : aGd R) (b1 : (I 1 3).toInt ≠ 1) (b2 : ((I 1 2) - (I 1 4)).toInt > 3) : xEv L xs d 21 169 [.ref 1] [] (124, I, J, R) none (124, (uI I 1 3 5), J, R) := by
  refine ev_go 8 (pc1 := 183) (lv1 := [.ref 1]) (st1 := [.int 1, .int (I 1 3), .int ((I 1 2) - (I 1 4))]) (h1 := (124, I, J, R)) rfl ?_
  refine ev_br (b1 := true) rfl rfl (xcd_ne (x := (I 1 3)) (y := 1) (by rw [show ((1 : Int32)).toInt = 1 from by decide]; first | exact b1 | omega)) ?_
  refine ev_go 1 (pc1 := 192) (lv1 := [.ref 1]) (st1 := [.int 3, .int ((I 1 2) - (I 1 4))]) (h1 := (124, I, J, R)) rfl ?_
  refine ev_br (b1 := false) rfl rfl (xcd_nle (x := ((I 1 2) - (I 1 4))) (y := 3) (by rw [show ((3 : Int32)).toInt = 3 from by decide]; first | exact b2 | omega)) ?_
  refine ev_go 3 (pc1 := 200) (lv1 := [.ref 1]) (st1 := []) (h1 := (124, (uI I 1 3 5), J, R)) rfl ?_
  exact ev_ret rfl rfl
set_option maxRecDepth 20000 in
theorem ax_13 {L : Nat} {xs : Nat → Int32} {d : Nat} {I : Nat → Nat → Int32} {J : Nat → Nat → Int64} {R : Nat → Nat → Nat} (hG : aGd R) (b1 : (I 1 3).toInt = 1) (b2 : ((I 1 2) - (I 1 4)).toInt ≤ 8) : xEv L xs d 21 169 [.ref 1] [] (124, I, J, R) none (124, I, J, R) := by
  refine ev_go 8 (pc1 := 183) (lv1 := [.ref 1]) (st1 := [.int 1, .int (I 1 3), .int ((I 1 2) - (I 1 4))]) (h1 := (124, I, J, R)) rfl ?_
  refine ev_br (b1 := false) rfl rfl (xcd_nne (x := (I 1 3)) (y := 1) (by rw [show ((1 : Int32)).toInt = 1 from by decide]; first | exact b1 | omega)) ?_
  refine ev_go 2 (pc1 := 192) (lv1 := [.ref 1]) (st1 := [.int 8, .int ((I 1 2) - (I 1 4))]) (h1 := (124, I, J, R)) rfl ?_
  refine ev_br (b1 := true) rfl rfl (xcd_le (x := ((I 1 2) - (I 1 4))) (y := 8) (by rw [show ((8 : Int32)).toInt = 8 from by decide]; first | exact b2 | omega)) ?_
  exact ev_ret rfl rfl
set_option maxRecDepth 20000 in
theorem ax_14 {L : Nat} {xs : Nat → Int32} {d : Nat} {I : Nat → Nat → Int32} {J : Nat → Nat → Int64} {R : Nat → Nat → Nat} (hG : aGd R) (b1 : (I 1 3).toInt = 1) (b2 : ((I 1 2) - (I 1 4)).toInt > 8) : xEv L xs d 21 169 [.ref 1] [] (124, I, J, R) none (124, (uI I 1 3 5), J, R) := by
  refine ev_go 8 (pc1 := 183) (lv1 := [.ref 1]) (st1 := [.int 1, .int (I 1 3), .int ((I 1 2) - (I 1 4))]) (h1 := (124, I, J, R)) rfl ?_
  refine ev_br (b1 := false) rfl rfl (xcd_nne (x := (I 1 3)) (y := 1) (by rw [show ((1 : Int32)).toInt = 1 from by decide]; first | exact b1 | omega)) ?_
  refine ev_go 2 (pc1 := 192) (lv1 := [.ref 1]) (st1 := [.int 8, .int ((I 1 2) - (I 1 4))]) (h1 := (124, I, J, R)) rfl ?_
  refine ev_br (b1 := false) rfl rfl (xcd_nle (x := ((I 1 2) - (I 1 4))) (y := 8) (by rw [show ((8 : Int32)).toInt = 8 from by decide]; first | exact b2 | omega)) ?_
  refine ev_go 3 (pc1 := 200) (lv1 := [.ref 1]) (st1 := []) (h1 := (124, (uI I 1 3 5), J, R)) rfl ?_
  exact ev_ret rfl rfl
section AD
variable {L : Nat} {xs : Nat → Int32} {d : Nat} {R : Nat → Nat → Nat}
theorem ofN {k : Nat} (h : k < 2147483648) : (Int32.ofNat k).toInt = k := Int32.toInt_ofNat_of_lt h
/-- heaps alike but for next, kind, place, value of the tape -/
def alT (I I' : Nat → Nat → Int32) (J J' : Nat → Nat → Int64) : Prop := (∀ c q, ¬ (c = 1 ∧ (q = 2 ∨ q = 3 ∨ q = 4)) → I' c q = I c q) ∧ (∀ c q, ¬ (c = 1 ∧ q = 5) → J' c q = J c q)
theorem alT_r (I : Nat → Nat → Int32) (J : Nat → Nat → Int64) : alT I I J J := ⟨fun _ _ _ => rfl, fun _ _ _ => rfl⟩
theorem alT_t {I I' I2 : Nat → Nat → Int32} {J J' J2 : Nat → Nat → Int64} (h : alT I I' J J') (h' : alT I' I2 J' J2) : alT I I2 J J2 := ⟨fun c q hq => (h'.1 c q hq).trans (h.1 c q hq), fun c q hq => (h'.2 c q hq).trans (h.2 c q hq)⟩
theorem alT_I {I : Nat → Nat → Int32} {J : Nat → Nat → Int64} {k : Nat} (v : Int32) (h : k = 2 ∨ k = 3 ∨ k = 4) : alT I (uI I 1 k v) J J := ⟨fun c q hq => uI_n I v (fun z => hq ⟨z.1, by rw [z.2]; exact h⟩), fun _ _ _ => rfl⟩
theorem uL_s (J : Nat → Nat → Int64) (c k : Nat) (v : Int64) : uL J c k v c k = v := by
  show va_up J c (vp_updL (J c) k v) c k = v
  rw [va_up_self]
  simp [vp_updL]
theorem uL_n (J : Nat → Nat → Int64) {c k c' k' : Nat} (v : Int64) (h : ¬ (c' = c ∧ k' = k)) : uL J c k v c' k' = J c' k' := hL_ne (h := (124, fun _ _ => 0, J, fun _ _ => 0)) v h
theorem alT_L {I : Nat → Nat → Int32} {J : Nat → Nat → Int64} (v : Int64) : alT I I J (uL J 1 5 v) := ⟨fun _ _ _ => rfl, fun c q hq => uL_n J v (fun z => hq z)⟩
theorem alT_b {I I' : Nat → Nat → Int32} {J J' : Nat → Nat → Int64} (h : alT I I' J J') (n : Nat) : bX I' n = bX I n := by
  funext q
  unfold bX
  by_cases e : q < n
  · rw [if_pos e, if_pos e, h.1 2 q (fun z => absurd z.1 (by decide))]
  · rw [if_neg e, if_neg e]
theorem bX_end (I : Nat → Nat → Int32) {n q : Nat} (h : n ≤ q) : kd (bX I n q).toInt = 0 := by
  unfold bX
  rw [if_neg (by omega)]
  rfl
/-- blanks are passed -/
theorem ad_1 (hG : aGd R) {n : Nat} (hn9 : n ≤ 900) : ∀ (f : Nat) (I : Nat → Nat → Int32) (J : Nat → Nat → Int64) (p : Nat), n - p = f → (I 1 1).toInt = n → (I 1 2).toInt = p → p ≤ n → ∃ (st : Nat) (I' : Nat → Nat → Int32), isRn (bX I n) 4 p st ∧ st ≤ n ∧ (I' 1 2).toInt = st ∧ alT I I' J J ∧ ∀ v h', xEv L xs (d + 1) 21 39 [.ref 1] [] (124, I', J, R) v h' → xEv L xs (d + 1) 21 0 [.ref 1] [] (124, I, J, R) v h' := by
  intro f
  induction f with
  | zero =>
    intro I J p hf hn hp hpn
    have e : p = n := by omega
    subst e
    refine ⟨p, I, ⟨Nat.le_refl _, fun q h1 h2 => by omega, by rw [bX_end I (Nat.le_refl _)]; decide⟩, Nat.le_refl _, hp, alT_r I J, fun v h' hk => ax_2 hG (by omega) hk⟩
  | succ f ih =>
    intro I J p hf hn hp hpn
    have c1 := bx_run (L := L) (xs := xs) (d := d) (J := J) hG hn hn9 hp
    have c2 := ko_run (L := L) (xs := xs) (d := d) (I := I) (J := J) hG (bX I n p)
    have hkl := kd_le (bX I n p).toInt
    have ek := ofN (k := kd (bX I n p).toInt) (by omega)
    by_cases h4 : kd (bX I n p).toInt = 4
    · have ei := i_add1 (x := I 1 2) (by omega)
      have al : alT I (uI I 1 2 (I 1 2 + 1)) J J := alT_I _ (Or.inl rfl)
      obtain ⟨st, I', a1, a2, a3, a4, a5⟩ := ih (uI I 1 2 (I 1 2 + 1)) J (p + 1) (by omega) hn (by show (I 1 2 + 1).toInt = _; omega) (by omega)
      rw [alT_b al] at a1
      refine ⟨st, I', ⟨by have := a1.1; omega, fun q h1 h2 => ?_, a1.2.2⟩, a2, a3, alT_t al a4, fun v h' hk => ax_1 hG (by omega) c1 c2 (by omega) (a5 v h' hk)⟩
      by_cases e : q = p
      · rw [e]; exact h4
      · exact a1.2.1 q (by omega) h2
    · exact ⟨p, I, ⟨Nat.le_refl _, fun q h1 h2 => by omega, h4⟩, hpn, hp, alT_r I J, fun v h' hk => ax_3 hG (by omega) c1 c2 (by omega) hk⟩
/-- letters or figures are passed -/
theorem ad_2 (hG : aGd R) {n st k : Nat} (hn9 : n ≤ 900) (hk12 : k = 1 ∨ k = 2) : ∀ (f : Nat) (I : Nat → Nat → Int32) (J : Nat → Nat → Int64) (m : Nat), n - (st + m) = f → (I 1 1).toInt = n → (I 1 2).toInt = ((st + m : Nat) : Int) → (I 1 3).toInt = k → st + m ≤ n → (∀ q, st ≤ q → q < st + m → kd (bX I n q).toInt = k) → J 1 5 = vF (bX I n) st m → ∃ (e : Nat) (I' : Nat → Nat → Int32) (J' : Nat → Nat → Int64), st + m ≤ e ∧ isRn (bX I n) k st e ∧ e ≤ n ∧ (I' 1 2).toInt = e ∧ I' 1 3 = I 1 3 ∧ I' 1 4 = I 1 4 ∧ J' 1 5 = vF (bX I n) st (e - st) ∧ alT I I' J J' ∧ ∀ v h', xEv L xs (d + 1) 21 169 [.ref 1] [] (124, I', J', R) v h' → xEv L xs (d + 1) 21 108 [.ref 1] [] (124, I, J, R) v h' := by
  intro f
  induction f with
  | zero =>
    intro I J m hf hn hp hK hpn hq hJ
    refine ⟨st + m, I, J, Nat.le_refl _, ⟨by omega, hq, ?_⟩, hpn, hp, rfl, rfl, by rw [hJ]; congr 1; omega, alT_r I J, fun v h' hk => ax_9 hG (by omega) hk⟩
    rw [bX_end I (by omega)]
    omega
  | succ f ih =>
    intro I J m hf hn hp hK hpn hq hJ
    have c1 := bx_run (L := L) (xs := xs) (d := d) (J := J) hG hn hn9 hp
    have c2 := ko_run (L := L) (xs := xs) (d := d) (I := I) (J := J) hG (bX I n (st + m))
    have hkl := kd_le (bX I n (st + m)).toInt
    have ek := ofN (k := kd (bX I n (st + m)).toInt) (by omega)
    by_cases h4 : kd (bX I n (st + m)).toInt = k
    · have ei := i_add1 (x := I 1 2) (by omega)
      have c4 := wx_run (L := L) (xs := xs) (d := d) (I := I) (J := J) hG (J 1 5) (bX I n (st + m))
      have al : alT I (uI I 1 2 (I 1 2 + 1)) J (uL J 1 5 (wsg (J 1 5) (bX I n (st + m)))) := alT_t (alT_L (I := I) (J := J) (wsg (J 1 5) (bX I n (st + m)))) (alT_I _ (Or.inl rfl))
      obtain ⟨e, I', J', a1, a2, a3, a4, a5, a6, a7, a8, a9⟩ := ih (uI I 1 2 (I 1 2 + 1)) (uL J 1 5 (wsg (J 1 5) (bX I n (st + m)))) (m + 1) (by omega) hn (by show (I 1 2 + 1).toInt = _; omega) hK (by omega) (by
        intro q h1 h2
        rw [alT_b al]
        by_cases e : q = st + m
        · rw [e]; exact h4
        · exact hq q h1 (by omega)) (by
        rw [uL_s, alT_b al, hJ]
        rfl)
      rw [alT_b al] at a2 a7
      exact ⟨e, I', J', by omega, a2, a3, a4, a5, a6, a7, alT_t al a8, fun v h' hk => ax_8 hG (by omega) c1 c2 (by omega) c1 c4 (a9 v h' hk)⟩
    · exact ⟨st + m, I, J, Nat.le_refl _, ⟨by omega, hq, h4⟩, hpn, hp, rfl, rfl, by rw [hJ]; congr 1; omega, alT_r I J, fun v h' hk => ax_10 hG (by omega) c1 c2 (by omega) hk⟩
/-- advance -/
theorem ad_run (hG : aGd R) {n p : Nat} (hn9 : n ≤ 900) {I : Nat → Nat → Int32} {J : Nat → Nat → Int64} (hn : (I 1 1).toInt = n) (hp : (I 1 2).toInt = p) (hpn : p ≤ n) : ∃ (st k e : Nat) (I' : Nat → Nat → Int32) (J' : Nat → Nat → Int64), xEv L xs (d + 1) 21 0 [.ref 1] [] (124, I, J, R) none (124, I', J', R) ∧ isTok (bX I n) p st k e ∧ st ≤ n ∧ e ≤ n ∧ st ≤ e ∧ (I' 1 2).toInt = e ∧ (I' 1 3).toInt = cKd k (e - st) ∧ (I' 1 4).toInt = st ∧ (k = 1 ∨ k = 2 → J' 1 5 = vF (bX I n) st (e - st)) ∧ alT I I' J J' := by
  obtain ⟨st, I1, a1, a2, a3, a4, a5⟩ := ad_1 (L := L) (xs := xs) (d := d) (R := R) hG hn9 _ I J p rfl hn hp hpn
  have hn1 : (I1 1 1).toInt = n := by rw [a4.1 1 1 (by omega)]; exact hn
  have hb1 := alT_b a4 n
  have c1 := bx_run (L := L) (xs := xs) (d := d) (I := uI I1 1 4 (I1 1 2)) (J := uL J 1 5 0) hG (n := n) (p := st) hn1 hn9 (i := I1 1 2) a3
  have hbx : bX (uI I1 1 4 (I1 1 2)) n = bX I n := (alT_b (J := J) (J' := J) (alT_I (I := I1) (I1 1 2) (Or.inr (Or.inr rfl))) n).trans hb1
  rw [hbx] at c1
  have c2 := ko_run (L := L) (xs := xs) (d := d) (I := uI I1 1 4 (I1 1 2)) (J := uL J 1 5 0) hG (bX I n st)
  have hkl := kd_le (bX I n st).toInt
  have ek := ofN (k := kd (bX I n st).toInt) (by omega)
  have hne : kd (bX I n st).toInt ≠ 4 := a1.2.2
  have al2 : ∀ K : Int32, alT I (uI (uI I1 1 4 (I1 1 2)) 1 3 K) J (uL J 1 5 0) := fun K => alT_t a4 (alT_t (alT_L (I := I1) (J := J) 0) (alT_t (alT_I _ (Or.inr (Or.inr rfl))) (alT_I _ (Or.inr (Or.inl rfl)))))
  have hlt : kd (bX I n st).toInt ≠ 0 → st < n := fun h => Nat.not_le.mp fun hle => h (bX_end I hle)
  have hc : kd (bX I n st).toInt = 0 ∨ (kd (bX I n st).toInt = 1 ∨ kd (bX I n st).toInt = 2) ∨ (kd (bX I n st).toInt = 3 ∨ kd (bX I n st).toInt = 5) := by omega
  rcases hc with h0 | h12 | h35
  · refine ⟨st, _, st, _, _, a5 _ _ (ax_4 hG c1 c2 (by omega) (by omega) (by omega)), ⟨a1, rfl, fun h => by omega, fun _ => rfl, fun h => by omega⟩, a2, a2, Nat.le_refl _, a3, ?_, a3, fun h => by omega, alT_t (al2 _) (alT_I _ (Or.inl rfl))⟩
    show (Int32.ofNat (kd (bX I n st).toInt)).toInt = _
    rw [ek, h0]
    unfold cKd
    rw [if_neg (by omega)]
  · have hst := hlt (by omega)
    obtain ⟨e, I', J', b1, b2, b3, b4, b5, b6, b7, b8, b9⟩ := ad_2 (L := L) (xs := xs) (d := d) (R := R) (n := n) (st := st) (k := kd (bX I n st).toInt) hG hn9 h12 _ (uI (uI I1 1 4 (I1 1 2)) 1 3 (Int32.ofNat (kd (bX I n st).toInt))) (uL J 1 5 0) 0 rfl hn1 a3 ek (by omega) (fun q h1 h2 => by omega) (uL_s J 1 5 0)
    rw [alT_b (al2 _)] at b2 b7
    have hse : st < e := by
      refine Nat.lt_of_le_of_ne b2.1 (fun z => ?_)
      rw [← z] at b2
      exact b2.2.2 rfl
    have e4 : (I' 1 4).toInt = st := by rw [b6]; exact a3
    have e3 : (I' 1 3).toInt = kd (bX I n st).toInt := by rw [b5]; exact ek
    have es : (I' 1 2 - I' 1 4).toInt = (e : Int) - st := by rw [i_sub (by omega) (by omega)]; omega
    have tk : isTok (bX I n) p st (kd (bX I n st).toInt) e := ⟨a1, rfl, fun _ => b2, fun h => by omega, fun h => by omega⟩
    have up : ∀ v h', xEv L xs (d + 1) 21 169 [.ref 1] [] (124, I', J', R) v h' → xEv L xs (d + 1) 21 0 [.ref 1] [] (124, I, J, R) v h' := by
      intro v h' hk
      refine a5 _ _ ?_
      rcases h12 with h | h
      · exact ax_6 hG c1 c2 (by omega) (b9 _ _ hk)
      · exact ax_7 hG c1 c2 (by omega) (by omega) (b9 _ _ hk)
    by_cases hw : kd (bX I n st).toInt = 1 ∧ 8 < e - st ∨ kd (bX I n st).toInt = 2 ∧ 3 < e - st
    · refine ⟨st, _, e, uI I' 1 3 5, J', up _ _ ?_, tk, a2, b3, by omega, b4, ?_, e4, fun _ => b7, alT_t (alT_t (al2 _) b8) (alT_I _ (Or.inr (Or.inl rfl)))⟩
      · rcases hw with h | h
        · exact ax_14 hG (by omega) (by omega)
        · exact ax_12 hG (by omega) (by omega)
      · unfold cKd
        rw [if_pos hw]
        rfl
    · refine ⟨st, _, e, I', J', up _ _ ?_, tk, a2, b3, by omega, b4, ?_, e4, fun _ => b7, alT_t (al2 _) b8⟩
      · rcases h12 with h | h
        · exact ax_13 hG (by omega) (by omega)
        · exact ax_11 hG (by omega) (by omega)
      · unfold cKd
        rw [if_neg hw]
        exact e3
  · have hst := hlt (by omega)
    have ei := i_add1 (x := I1 1 2) (by omega)
    refine ⟨st, _, st + 1, _, _, a5 _ _ (ax_5 hG c1 c2 (by omega) (by omega) (by omega)), ⟨a1, rfl, fun h => by omega, fun h => by omega, fun _ => rfl⟩, a2, hst, by omega, ?_, ?_, a3, fun h => by omega, alT_t (al2 _) (alT_I _ (Or.inl rfl))⟩
    · show (I1 1 2 + 1).toInt = _
      omega
    · show (Int32.ofNat (kd (bX I n st).toInt)).toInt = _
      rw [ek]
      unfold cKd
      rw [if_neg (by omega)]
end AD
