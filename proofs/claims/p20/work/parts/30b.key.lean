theorem ev_902 {L : Nat} {xs : Nat → Int32} {d j pc : Nat} {lv st r : List Value} {h h' : xH} {v : Option Value} {i0 b w k : Nat} {x : Int32} (hd : 4 ≤ d) (hq : xins j pc = some (.invokevirtual i0, 3, 902, b, w)) (hst : st = .retAddr (k + 2) :: r) (hk : k < 7) (hs : (r.map fun v => v.category).sum ≤ 8) (he : Int32.ofNat (xslen k) = x) (kk : xEv L xs d j (pc + 3) lv (.int x :: r) h v h') : xEv L xs d j pc lv st h v h' := by
  subst hst
  subst he
  refine ev_step hq ?_ kk
  show x1 3 3 (if d < 4 then none else (if k < 7 then (if (r.map fun v => v.category).sum ≤ 8 then xgo (pc + 3) lv (.int (Int32.ofNat (xslen k)) :: r) h else none) else none)) = _
  rw [if_neg (by omega), if_pos hk, if_pos hs]
  rfl
theorem ev_903 {L : Nat} {xs : Nat → Int32} {d j pc : Nat} {lv st r : List Value} {h h' : xH} {v : Option Value} {i0 b w k : Nat} {i x : Int32} (hd : 4 ≤ d) (hq : xins j pc = some (.invokevirtual i0, 3, 903, b, w)) (hst : st = .int i :: .retAddr (k + 2) :: r) (hk : k < 7) (hs : (r.map fun v => v.category).sum ≤ 8) (h0 : 0 ≤ i.toInt) (h1 : i.toInt < xslen k) (he : xsch k i.toNatClampNeg = x) (kk : xEv L xs d j (pc + 3) lv (.int x :: r) h v h') : xEv L xs d j pc lv st h v h' := by
  subst hst
  subst he
  refine ev_step hq ?_ kk
  show x1 3 3 (if d < 4 then none else (if k < 7 then (if (r.map fun v => v.category).sum ≤ 8 then xin i (xslen k) (xgo (pc + 3) lv (.int (xsch k i.toNatClampNeg) :: r) h) else none) else none)) = _
  rw [if_neg (by omega), if_pos hk, if_pos hs, xin_ok h0 h1]
  rfl
set_option maxRecDepth 20000 in
theorem rb_0 {L : Nat} {xs : Nat → Int32} {d : Nat} {I : Nat → Nat → Int32} {J : Nat → Nat → Int64} {R : Nat → Nat → Nat} {i : Int32} (hG : aGd R) (b1 : i.toInt ≥ (I 86 2).toInt) : xEv L xs d 151 0 [.ref 86, .int i] [] (124, I, J, R) (some (.int (-1))) (124, I, J, R) := by
  refine ev_go 3 (pc1 := 5) (lv1 := [.ref 86, .int i]) (st1 := [.int (I 86 2), .int i]) (h1 := (124, I, J, R)) rfl ?_
  refine ev_br (b1 := true) rfl rfl (xcd_ge (x := i) (y := (I 86 2)) (by first | exact b1 | omega)) ?_
  refine ev_go 1 (pc1 := 22) (lv1 := [.ref 86, .int i]) (st1 := [.int (-1)]) (h1 := (124, I, J, R)) rfl ?_
  exact ev_ret rfl rfl
set_option maxRecDepth 20000 in
theorem rb_1 {L : Nat} {xs : Nat → Int32} {d : Nat} {I : Nat → Nat → Int32} {J : Nat → Nat → Int64} {R : Nat → Nat → Nat} {i : Int32} (hG : aGd R) (b1 : i.toInt < (I 86 2).toInt) (n1 : 0 ≤ i.toInt) (m1 : i.toInt < 900) : xEv L xs d 151 0 [.ref 86, .int i] [] (124, I, J, R) (some (.int ((I 87 i.toNatClampNeg) &&& 255))) (124, I, J, R) := by
  refine ev_go 3 (pc1 := 5) (lv1 := [.ref 86, .int i]) (st1 := [.int (I 86 2), .int i]) (h1 := (124, I, J, R)) rfl ?_
  refine ev_br (b1 := false) rfl rfl (xcd_nge (x := i) (y := (I 86 2)) (by first | exact b1 | omega)) ?_
  refine ev_go 1 (pc1 := 9) (lv1 := [.ref 86, .int i]) (st1 := [.ref 86]) (h1 := (124, I, J, R)) rfl ?_
  refine ev_gf (c := 86) (t := 87) (X := R 86 0) rfl rfl (fun _ => rfl) rfl (hG 86 0 87 rfl rfl) ?_
  refine ev_go 1 (pc1 := 13) (lv1 := [.ref 86, .int i]) (st1 := [.int i, .ref 87]) (h1 := (124, I, J, R)) rfl ?_
  refine ev_bld (n := 900) (t := .byte) rfl rfl (fun _ => rfl) rfl n1 m1 ?_
  refine ev_go 3 (pc1 := 22) (lv1 := [.ref 86, .int i]) (st1 := [.int ((I 87 i.toNatClampNeg) &&& 255)]) (h1 := (124, I, J, R)) rfl ?_
  exact ev_ret rfl rfl
set_option maxRecDepth 20000 in
theorem sa_0 {L : Nat} {xs : Nat → Int32} {d : Nat} {I : Nat → Nat → Int32} {J : Nat → Nat → Int64} {R : Nat → Nat → Nat} {c : Int32} (hG : aGd R) (b1 : c.toInt < 97) : xEv L xs d 152 0 [.int c] [] (124, I, J, R) (some (.int 0)) (124, I, J, R) := by
  refine ev_go 2 (pc1 := 3) (lv1 := [.int c]) (st1 := [.int 97, .int c]) (h1 := (124, I, J, R)) rfl ?_
  refine ev_br (b1 := true) rfl rfl (xcd_lt (x := c) (y := 97) (by rw [show ((97 : Int32)).toInt = 97 from by decide]; first | exact b1 | omega)) ?_
  refine ev_go 1 (pc1 := 17) (lv1 := [.int c]) (st1 := [.int 0]) (h1 := (124, I, J, R)) rfl ?_
  exact ev_ret rfl rfl
set_option maxRecDepth 20000 in
theorem sa_1 {L : Nat} {xs : Nat → Int32} {d : Nat} {I : Nat → Nat → Int32} {J : Nat → Nat → Int64} {R : Nat → Nat → Nat} {c : Int32} (hG : aGd R) (b1 : c.toInt ≥ 97) (b2 : c.toInt > 122) : xEv L xs d 152 0 [.int c] [] (124, I, J, R) (some (.int 0)) (124, I, J, R) := by
  refine ev_go 2 (pc1 := 3) (lv1 := [.int c]) (st1 := [.int 97, .int c]) (h1 := (124, I, J, R)) rfl ?_
  refine ev_br (b1 := false) rfl rfl (xcd_nlt (x := c) (y := 97) (by rw [show ((97 : Int32)).toInt = 97 from by decide]; first | exact b1 | omega)) ?_
  refine ev_go 2 (pc1 := 9) (lv1 := [.int c]) (st1 := [.int 122, .int c]) (h1 := (124, I, J, R)) rfl ?_
  refine ev_br (b1 := true) rfl rfl (xcd_gt (x := c) (y := 122) (by rw [show ((122 : Int32)).toInt = 122 from by decide]; first | exact b2 | omega)) ?_
  refine ev_go 1 (pc1 := 17) (lv1 := [.int c]) (st1 := [.int 0]) (h1 := (124, I, J, R)) rfl ?_
  exact ev_ret rfl rfl
set_option maxRecDepth 20000 in
theorem sa_2 {L : Nat} {xs : Nat → Int32} {d : Nat} {I : Nat → Nat → Int32} {J : Nat → Nat → Int64} {R : Nat → Nat → Nat} {c : Int32} (hG : aGd R) (b1 : c.toInt ≥ 97) (b2 : c.toInt ≤ 122) : xEv L xs d 152 0 [.int c] [] (124, I, J, R) (some (.int 1)) (124, I, J, R) := by
  refine ev_go 2 (pc1 := 3) (lv1 := [.int c]) (st1 := [.int 97, .int c]) (h1 := (124, I, J, R)) rfl ?_
  refine ev_br (b1 := false) rfl rfl (xcd_nlt (x := c) (y := 97) (by rw [show ((97 : Int32)).toInt = 97 from by decide]; first | exact b1 | omega)) ?_
  refine ev_go 2 (pc1 := 9) (lv1 := [.int c]) (st1 := [.int 122, .int c]) (h1 := (124, I, J, R)) rfl ?_
  refine ev_br (b1 := false) rfl rfl (xcd_ngt (x := c) (y := 122) (by rw [show ((122 : Int32)).toInt = 122 from by decide]; first | exact b2 | omega)) ?_
  refine ev_go 2 (pc1 := 17) (lv1 := [.int c]) (st1 := [.int 1]) (h1 := (124, I, J, R)) rfl ?_
  exact ev_ret rfl rfl
set_option maxRecDepth 20000 in
theorem di_0 {L : Nat} {xs : Nat → Int32} {d : Nat} {I : Nat → Nat → Int32} {J : Nat → Nat → Int64} {R : Nat → Nat → Nat} {c : Int32} (hG : aGd R) (b1 : c.toInt < 48) : xEv L xs d 154 0 [.int c] [] (124, I, J, R) (some (.int 0)) (124, I, J, R) := by
  refine ev_go 2 (pc1 := 3) (lv1 := [.int c]) (st1 := [.int 48, .int c]) (h1 := (124, I, J, R)) rfl ?_
  refine ev_br (b1 := true) rfl rfl (xcd_lt (x := c) (y := 48) (by rw [show ((48 : Int32)).toInt = 48 from by decide]; first | exact b1 | omega)) ?_
  refine ev_go 1 (pc1 := 17) (lv1 := [.int c]) (st1 := [.int 0]) (h1 := (124, I, J, R)) rfl ?_
  exact ev_ret rfl rfl
set_option maxRecDepth 20000 in
theorem di_1 {L : Nat} {xs : Nat → Int32} {d : Nat} {I : Nat → Nat → Int32} {J : Nat → Nat → Int64} {R : Nat → Nat → Nat} {c : Int32} (hG : aGd R) (b1 : c.toInt ≥ 48) (b2 : c.toInt > 57) : xEv L xs d 154 0 [.int c] [] (124, I, J, R) (some (.int 0)) (124, I, J, R) := by
  refine ev_go 2 (pc1 := 3) (lv1 := [.int c]) (st1 := [.int 48, .int c]) (h1 := (124, I, J, R)) rfl ?_
  refine ev_br (b1 := false) rfl rfl (xcd_nlt (x := c) (y := 48) (by rw [show ((48 : Int32)).toInt = 48 from by decide]; first | exact b1 | omega)) ?_
  refine ev_go 2 (pc1 := 9) (lv1 := [.int c]) (st1 := [.int 57, .int c]) (h1 := (124, I, J, R)) rfl ?_
  refine ev_br (b1 := true) rfl rfl (xcd_gt (x := c) (y := 57) (by rw [show ((57 : Int32)).toInt = 57 from by decide]; first | exact b2 | omega)) ?_
  refine ev_go 1 (pc1 := 17) (lv1 := [.int c]) (st1 := [.int 0]) (h1 := (124, I, J, R)) rfl ?_
  exact ev_ret rfl rfl
set_option maxRecDepth 20000 in
theorem di_2 {L : Nat} {xs : Nat → Int32} {d : Nat} {I : Nat → Nat → Int32} {J : Nat → Nat → Int64} {R : Nat → Nat → Nat} {c : Int32} (hG : aGd R) (b1 : c.toInt ≥ 48) (b2 : c.toInt ≤ 57) : xEv L xs d 154 0 [.int c] [] (124, I, J, R) (some (.int 1)) (124, I, J, R) := by
  refine ev_go 2 (pc1 := 3) (lv1 := [.int c]) (st1 := [.int 48, .int c]) (h1 := (124, I, J, R)) rfl ?_
  refine ev_br (b1 := false) rfl rfl (xcd_nlt (x := c) (y := 48) (by rw [show ((48 : Int32)).toInt = 48 from by decide]; first | exact b1 | omega)) ?_
  refine ev_go 2 (pc1 := 9) (lv1 := [.int c]) (st1 := [.int 57, .int c]) (h1 := (124, I, J, R)) rfl ?_
  refine ev_br (b1 := false) rfl rfl (xcd_ngt (x := c) (y := 57) (by rw [show ((57 : Int32)).toInt = 57 from by decide]; first | exact b2 | omega)) ?_
  refine ev_go 2 (pc1 := 17) (lv1 := [.int c]) (st1 := [.int 1]) (h1 := (124, I, J, R)) rfl ?_
  exact ev_ret rfl rfl
/-- the tape's bytes as the reference has them -/
def bM (I : Nat → Nat → Int32) (n : Nat) : Nat → Int32 := fun q => if q < n then I 87 q &&& 255 else -1
section RB
variable {L : Nat} {xs : Nat → Int32} {d : Nat} {I : Nat → Nat → Int32} {J : Nat → Nat → Int64} {R : Nat → Nat → Nat}
theorem rb_run (hG : aGd R) {n p : Nat} (hn : (I 86 2).toInt = n) (hn9 : n ≤ 900) {i : Int32} (hi : i.toInt = p) : xEv L xs d 151 0 [.ref 86, .int i] [] (124, I, J, R) (some (.int (bM I n p))) (124, I, J, R) := by
  unfold bM
  by_cases h : p < n
  · rw [if_pos h]
    have ec := clamp_s (i := i) (by omega)
    have e : i.toNatClampNeg = p := by omega
    have h1 := rb_1 (L := L) (xs := xs) (d := d) (I := I) (J := J) (i := i) hG (by omega) (by omega) (by omega)
    rw [e] at h1
    exact h1
  · rw [if_neg h]
    exact rb_0 hG (by omega)
theorem sa_run (hG : aGd R) (c : Int32) : (97 ≤ c.toInt ∧ c.toInt ≤ 122 ∧ xEv L xs d 152 0 [.int c] [] (124, I, J, R) (some (.int 1)) (124, I, J, R)) ∨ (¬ (97 ≤ c.toInt ∧ c.toInt ≤ 122) ∧ xEv L xs d 152 0 [.int c] [] (124, I, J, R) (some (.int 0)) (124, I, J, R)) := by
  by_cases h1 : c.toInt < 97
  · exact Or.inr ⟨by omega, sa_0 hG h1⟩
  by_cases h2 : c.toInt > 122
  · exact Or.inr ⟨by omega, sa_1 hG (by omega) h2⟩
  · exact Or.inl ⟨by omega, by omega, sa_2 hG (by omega) (by omega)⟩
theorem di_run (hG : aGd R) (c : Int32) : (48 ≤ c.toInt ∧ c.toInt ≤ 57 ∧ xEv L xs d 154 0 [.int c] [] (124, I, J, R) (some (.int 1)) (124, I, J, R)) ∨ (¬ (48 ≤ c.toInt ∧ c.toInt ≤ 57) ∧ xEv L xs d 154 0 [.int c] [] (124, I, J, R) (some (.int 0)) (124, I, J, R)) := by
  by_cases h1 : c.toInt < 48
  · exact Or.inr ⟨by omega, di_0 hG h1⟩
  by_cases h2 : c.toInt > 57
  · exact Or.inr ⟨by omega, di_1 hG (by omega) h2⟩
  · exact Or.inl ⟨by omega, by omega, di_2 hG (by omega) (by omega)⟩
end RB
/-! words that are known -/
def kwd : List (List Int) := [[112, 101, 114, 115, 111, 110], [109, 101, 101, 116], [110, 101, 119, 115], [98, 97, 114], [100, 105, 101, 115], [99, 104, 97, 110, 99, 101]]
def kwl (j : Nat) : Nat := (kwd.getD j []).length
def kwc (j i : Nat) : Int := (kwd.getD j []).getD i 0
/-- the token's letters are the word j -/
def isKw (b : Nat → Int32) (st m j : Nat) : Prop := m = kwl j ∧ ∀ i, i < kwl j → (b (st + i)).toInt = kwc j i
set_option maxRecDepth 20000 in
theorem kyA0 {L : Nat} {xs : Nat → Int32} {d : Nat} {I : Nat → Nat → Int32} {J : Nat → Nat → Int64} {R : Nat → Nat → Nat} {p m : Int32} {w6 w7 : Value} (hG : aGd R) (h4 : 4 ≤ d)  {v : Option Value} {h' : xH} (hk : xEv L xs d 153 33 [.ref 86, .int p, .int m, .int 0, .int 0, .int 6, w6, w7] [] (124, I, J, R) v h') : xEv L xs d 153 8 [.ref 86, .int p, .int m, .int 0, .int 0, .int 0, w6, w7] [] (124, I, J, R) v h' := by
  refine ev_go 2 (pc1 := 12) (lv1 := [.ref 86, .int p, .int m, .int 0, .int 0, .int 0, w6, w7]) (st1 := [.retAddr 8, .int 0]) (h1 := (124, I, J, R)) rfl ?_
  refine ev_902 (k := 6) h4 rfl rfl (by decide) (by decide) (x := 33) rfl ?_
  refine ev_go 3 (pc1 := 22) (lv1 := [.ref 86, .int p, .int m, .int 0, .int 0, .int 0, w6, w7]) (st1 := [.int 0, .retAddr 8]) (h1 := (124, I, J, R)) rfl ?_
  refine ev_903 (k := 6) h4 rfl rfl (by decide) (by decide) (by decide) (by decide) (x := 112) rfl ?_
  refine ev_go 7 (pc1 := 12) (lv1 := [.ref 86, .int p, .int m, .int 0, .int 0, .int 1, w6, w7]) (st1 := [.retAddr 8, .int 1]) (h1 := (124, I, J, R)) rfl ?_
  refine ev_902 (k := 6) h4 rfl rfl (by decide) (by decide) (x := 33) rfl ?_
  refine ev_go 3 (pc1 := 22) (lv1 := [.ref 86, .int p, .int m, .int 0, .int 0, .int 1, w6, w7]) (st1 := [.int 1, .retAddr 8]) (h1 := (124, I, J, R)) rfl ?_
  refine ev_903 (k := 6) h4 rfl rfl (by decide) (by decide) (by decide) (by decide) (x := 101) rfl ?_
  refine ev_go 7 (pc1 := 12) (lv1 := [.ref 86, .int p, .int m, .int 0, .int 0, .int 2, w6, w7]) (st1 := [.retAddr 8, .int 2]) (h1 := (124, I, J, R)) rfl ?_
  refine ev_902 (k := 6) h4 rfl rfl (by decide) (by decide) (x := 33) rfl ?_
  refine ev_go 3 (pc1 := 22) (lv1 := [.ref 86, .int p, .int m, .int 0, .int 0, .int 2, w6, w7]) (st1 := [.int 2, .retAddr 8]) (h1 := (124, I, J, R)) rfl ?_
  refine ev_903 (k := 6) h4 rfl rfl (by decide) (by decide) (by decide) (by decide) (x := 114) rfl ?_
  refine ev_go 7 (pc1 := 12) (lv1 := [.ref 86, .int p, .int m, .int 0, .int 0, .int 3, w6, w7]) (st1 := [.retAddr 8, .int 3]) (h1 := (124, I, J, R)) rfl ?_
  refine ev_902 (k := 6) h4 rfl rfl (by decide) (by decide) (x := 33) rfl ?_
  refine ev_go 3 (pc1 := 22) (lv1 := [.ref 86, .int p, .int m, .int 0, .int 0, .int 3, w6, w7]) (st1 := [.int 3, .retAddr 8]) (h1 := (124, I, J, R)) rfl ?_
  refine ev_903 (k := 6) h4 rfl rfl (by decide) (by decide) (by decide) (by decide) (x := 115) rfl ?_
  refine ev_go 7 (pc1 := 12) (lv1 := [.ref 86, .int p, .int m, .int 0, .int 0, .int 4, w6, w7]) (st1 := [.retAddr 8, .int 4]) (h1 := (124, I, J, R)) rfl ?_
  refine ev_902 (k := 6) h4 rfl rfl (by decide) (by decide) (x := 33) rfl ?_
  refine ev_go 3 (pc1 := 22) (lv1 := [.ref 86, .int p, .int m, .int 0, .int 0, .int 4, w6, w7]) (st1 := [.int 4, .retAddr 8]) (h1 := (124, I, J, R)) rfl ?_
  refine ev_903 (k := 6) h4 rfl rfl (by decide) (by decide) (by decide) (by decide) (x := 111) rfl ?_
  refine ev_go 7 (pc1 := 12) (lv1 := [.ref 86, .int p, .int m, .int 0, .int 0, .int 5, w6, w7]) (st1 := [.retAddr 8, .int 5]) (h1 := (124, I, J, R)) rfl ?_
  refine ev_902 (k := 6) h4 rfl rfl (by decide) (by decide) (x := 33) rfl ?_
  refine ev_go 3 (pc1 := 22) (lv1 := [.ref 86, .int p, .int m, .int 0, .int 0, .int 5, w6, w7]) (st1 := [.int 5, .retAddr 8]) (h1 := (124, I, J, R)) rfl ?_
  refine ev_903 (k := 6) h4 rfl rfl (by decide) (by decide) (by decide) (by decide) (x := 110) rfl ?_
  refine ev_go 7 (pc1 := 12) (lv1 := [.ref 86, .int p, .int m, .int 0, .int 0, .int 6, w6, w7]) (st1 := [.retAddr 8, .int 6]) (h1 := (124, I, J, R)) rfl ?_
  refine ev_902 (k := 6) h4 rfl rfl (by decide) (by decide) (x := 33) rfl ?_
  refine ev_go 3 (pc1 := 22) (lv1 := [.ref 86, .int p, .int m, .int 0, .int 0, .int 6, w6, w7]) (st1 := [.int 6, .retAddr 8]) (h1 := (124, I, J, R)) rfl ?_
  refine ev_903 (k := 6) h4 rfl rfl (by decide) (by decide) (by decide) (by decide) (x := 32) rfl ?_
  refine ev_go 2 (pc1 := 33) (lv1 := [.ref 86, .int p, .int m, .int 0, .int 0, .int 6, w6, w7]) (st1 := []) (h1 := (124, I, J, R)) rfl ?_
  exact hk
set_option maxRecDepth 20000 in
theorem kyB0 {L : Nat} {xs : Nat → Int32} {d : Nat} {I : Nat → Nat → Int32} {J : Nat → Nat → Int64} {R : Nat → Nat → Nat} {p m : Int32} {w6 w7 : Value} (hG : aGd R) (h4 : 4 ≤ d) (b1 : 6 ≠ m.toInt) (b2 : 0 < m.toInt) {v : Option Value} {h' : xH} (hk : xEv L xs d 153 8 [.ref 86, .int p, .int m, .int 1, .int 7, .int 7, .int 0, .int 0] [] (124, I, J, R) v h') : xEv L xs d 153 33 [.ref 86, .int p, .int m, .int 0, .int 0, .int 6, w6, w7] [] (124, I, J, R) v h' := by
  refine ev_go 4 (pc1 := 39) (lv1 := [.ref 86, .int p, .int m, .int 0, .int 0, .int 6, w6, w7]) (st1 := [.int m, .int 6]) (h1 := (124, I, J, R)) rfl ?_
  refine ev_br (b1 := true) rfl rfl (xcd_ne (x := 6) (y := m) (by rw [show ((6 : Int32)).toInt = 6 from by decide]; first | exact b1 | omega)) ?_
  refine ev_go 6 (pc1 := 55) (lv1 := [.ref 86, .int p, .int m, .int 0, .int 0, .int 6, .int 0, .int 0]) (st1 := [.int m, .int 0]) (h1 := (124, I, J, R)) rfl ?_
  refine ev_br (b1 := false) rfl rfl (xcd_nge (x := 0) (y := m) (by rw [show ((0 : Int32)).toInt = 0 from by decide]; first | exact b2 | omega)) ?_
  refine ev_go 11 (pc1 := 8) (lv1 := [.ref 86, .int p, .int m, .int 1, .int 7, .int 7, .int 0, .int 0]) (st1 := []) (h1 := (124, I, J, R)) rfl ?_
  exact hk
set_option maxRecDepth 20000 in
theorem kyC0 {L : Nat} {xs : Nat → Int32} {d : Nat} {I : Nat → Nat → Int32} {J : Nat → Nat → Int64} {R : Nat → Nat → Nat} {p m : Int32} {w6 w7 : Value} (hG : aGd R) (h4 : 4 ≤ d) (b1 : 6 = m.toInt) {v : Option Value} {h' : xH} (hk : xEv L xs d 153 52 [.ref 86, .int p, .int m, .int 0, .int 0, .int 6, .int 1, .int 0] [] (124, I, J, R) v h') : xEv L xs d 153 33 [.ref 86, .int p, .int m, .int 0, .int 0, .int 6, w6, w7] [] (124, I, J, R) v h' := by
  refine ev_go 4 (pc1 := 39) (lv1 := [.ref 86, .int p, .int m, .int 0, .int 0, .int 6, w6, w7]) (st1 := [.int m, .int 6]) (h1 := (124, I, J, R)) rfl ?_
  refine ev_br (b1 := false) rfl rfl (xcd_nne (x := 6) (y := m) (by rw [show ((6 : Int32)).toInt = 6 from by decide]; first | exact b1 | omega)) ?_
  refine ev_go 5 (pc1 := 52) (lv1 := [.ref 86, .int p, .int m, .int 0, .int 0, .int 6, .int 1, .int 0]) (st1 := []) (h1 := (124, I, J, R)) rfl ?_
  exact hk
set_option maxRecDepth 20000 in
theorem kyD0_0 {L : Nat} {xs : Nat → Int32} {d : Nat} {I : Nat → Nat → Int32} {J : Nat → Nat → Int64} {R : Nat → Nat → Nat} {p m x : Int32} (hG : aGd R) (h4 : 4 ≤ d + 1) (b1 : 0 < m.toInt) (c1 : xEv L xs d 151 0 [.ref 86, .int (p + 0)] [] (124, I, J, R) (some (.int x)) (124, I, J, R)) (b2 : 112 = x.toInt) {v : Option Value} {h' : xH} (hk : xEv L xs (d + 1) 153 52 [.ref 86, .int p, .int m, .int 0, .int 0, .int 6, .int 1, .int 1] [] (124, I, J, R) v h') : xEv L xs (d + 1) 153 52 [.ref 86, .int p, .int m, .int 0, .int 0, .int 6, .int 1, .int 0] [] (124, I, J, R) v h' := by
  refine ev_go 2 (pc1 := 55) (lv1 := [.ref 86, .int p, .int m, .int 0, .int 0, .int 6, .int 1, .int 0]) (st1 := [.int m, .int 0]) (h1 := (124, I, J, R)) rfl ?_
  refine ev_br (b1 := false) rfl rfl (xcd_nge (x := 0) (y := m) (by rw [show ((0 : Int32)).toInt = 0 from by decide]; first | exact b1 | omega)) ?_
  refine ev_go 6 (pc1 := 70) (lv1 := [.ref 86, .int p, .int m, .int 0, .int 0, .int 6, .int 1, .int 0]) (st1 := [.int 0, .retAddr 8]) (h1 := (124, I, J, R)) rfl ?_
  refine ev_903 (k := 6) h4 rfl rfl (by decide) (by decide) (by decide) (by decide) (x := 112) rfl ?_
  refine ev_go 4 (pc1 := 78) (lv1 := [.ref 86, .int p, .int m, .int 0, .int 0, .int 6, .int 1, .int 0]) (st1 := [.int (p + 0), .ref 86, .int 112]) (h1 := (124, I, J, R)) rfl ?_
  refine ev_call (v1 := (some (.int x))) (h1 := (124, I, J, R)) rfl rfl c1 ?_
  refine ev_br (b1 := false) rfl rfl (xcd_nne (x := 112) (y := x) (by rw [show ((112 : Int32)).toInt = 112 from by decide]; first | exact b2 | omega)) ?_
  refine ev_go 5 (pc1 := 52) (lv1 := [.ref 86, .int p, .int m, .int 0, .int 0, .int 6, .int 1, .int 1]) (st1 := []) (h1 := (124, I, J, R)) rfl ?_
  exact hk
set_option maxRecDepth 20000 in
theorem kyE0_0 {L : Nat} {xs : Nat → Int32} {d : Nat} {I : Nat → Nat → Int32} {J : Nat → Nat → Int64} {R : Nat → Nat → Nat} {p m x : Int32} (hG : aGd R) (h4 : 4 ≤ d + 1) (b1 : 0 < m.toInt) (c1 : xEv L xs d 151 0 [.ref 86, .int (p + 0)] [] (124, I, J, R) (some (.int x)) (124, I, J, R)) (b2 : 112 ≠ x.toInt) {v : Option Value} {h' : xH} (hk : xEv L xs (d + 1) 153 52 [.ref 86, .int p, .int m, .int 0, .int 0, .int 6, .int 0, .int 1] [] (124, I, J, R) v h') : xEv L xs (d + 1) 153 52 [.ref 86, .int p, .int m, .int 0, .int 0, .int 6, .int 1, .int 0] [] (124, I, J, R) v h' := by
  refine ev_go 2 (pc1 := 55) (lv1 := [.ref 86, .int p, .int m, .int 0, .int 0, .int 6, .int 1, .int 0]) (st1 := [.int m, .int 0]) (h1 := (124, I, J, R)) rfl ?_
  refine ev_br (b1 := false) rfl rfl (xcd_nge (x := 0) (y := m) (by rw [show ((0 : Int32)).toInt = 0 from by decide]; first | exact b1 | omega)) ?_
  refine ev_go 6 (pc1 := 70) (lv1 := [.ref 86, .int p, .int m, .int 0, .int 0, .int 6, .int 1, .int 0]) (st1 := [.int 0, .retAddr 8]) (h1 := (124, I, J, R)) rfl ?_
  refine ev_903 (k := 6) h4 rfl rfl (by decide) (by decide) (by decide) (by decide) (x := 112) rfl ?_
  refine ev_go 4 (pc1 := 78) (lv1 := [.ref 86, .int p, .int m, .int 0, .int 0, .int 6, .int 1, .int 0]) (st1 := [.int (p + 0), .ref 86, .int 112]) (h1 := (124, I, J, R)) rfl ?_
  refine ev_call (v1 := (some (.int x))) (h1 := (124, I, J, R)) rfl rfl c1 ?_
  refine ev_br (b1 := true) rfl rfl (xcd_ne (x := 112) (y := x) (by rw [show ((112 : Int32)).toInt = 112 from by decide]; first | exact b2 | omega)) ?_
  refine ev_go 4 (pc1 := 52) (lv1 := [.ref 86, .int p, .int m, .int 0, .int 0, .int 6, .int 0, .int 1]) (st1 := []) (h1 := (124, I, J, R)) rfl ?_
  exact hk
set_option maxRecDepth 20000 in
theorem kyG0_1 {L : Nat} {xs : Nat → Int32} {d : Nat} {I : Nat → Nat → Int32} {J : Nat → Nat → Int64} {R : Nat → Nat → Nat} {p m : Int32} (hG : aGd R) (h4 : 4 ≤ d) (b1 : 1 < m.toInt) {v : Option Value} {h' : xH} (hk : xEv L xs d 153 8 [.ref 86, .int p, .int m, .int 1, .int 7, .int 7, .int 0, .int 1] [] (124, I, J, R) v h') : xEv L xs d 153 52 [.ref 86, .int p, .int m, .int 0, .int 0, .int 6, .int 0, .int 1] [] (124, I, J, R) v h' := by
  refine ev_go 2 (pc1 := 55) (lv1 := [.ref 86, .int p, .int m, .int 0, .int 0, .int 6, .int 0, .int 1]) (st1 := [.int m, .int 1]) (h1 := (124, I, J, R)) rfl ?_
  refine ev_br (b1 := false) rfl rfl (xcd_nge (x := 1) (y := m) (by rw [show ((1 : Int32)).toInt = 1 from by decide]; first | exact b1 | omega)) ?_
  refine ev_go 11 (pc1 := 8) (lv1 := [.ref 86, .int p, .int m, .int 1, .int 7, .int 7, .int 0, .int 1]) (st1 := []) (h1 := (124, I, J, R)) rfl ?_
  exact hk
set_option maxRecDepth 20000 in
theorem kyD0_1 {L : Nat} {xs : Nat → Int32} {d : Nat} {I : Nat → Nat → Int32} {J : Nat → Nat → Int64} {R : Nat → Nat → Nat} {p m x : Int32} (hG : aGd R) (h4 : 4 ≤ d + 1) (b1 : 1 < m.toInt) (c1 : xEv L xs d 151 0 [.ref 86, .int (p + 1)] [] (124, I, J, R) (some (.int x)) (124, I, J, R)) (b2 : 101 = x.toInt) {v : Option Value} {h' : xH} (hk : xEv L xs (d + 1) 153 52 [.ref 86, .int p, .int m, .int 0, .int 0, .int 6, .int 1, .int 2] [] (124, I, J, R) v h') : xEv L xs (d + 1) 153 52 [.ref 86, .int p, .int m, .int 0, .int 0, .int 6, .int 1, .int 1] [] (124, I, J, R) v h' := by
  refine ev_go 2 (pc1 := 55) (lv1 := [.ref 86, .int p, .int m, .int 0, .int 0, .int 6, .int 1, .int 1]) (st1 := [.int m, .int 1]) (h1 := (124, I, J, R)) rfl ?_
  refine ev_br (b1 := false) rfl rfl (xcd_nge (x := 1) (y := m) (by rw [show ((1 : Int32)).toInt = 1 from by decide]; first | exact b1 | omega)) ?_
  refine ev_go 6 (pc1 := 70) (lv1 := [.ref 86, .int p, .int m, .int 0, .int 0, .int 6, .int 1, .int 1]) (st1 := [.int 1, .retAddr 8]) (h1 := (124, I, J, R)) rfl ?_
  refine ev_903 (k := 6) h4 rfl rfl (by decide) (by decide) (by decide) (by decide) (x := 101) rfl ?_
  refine ev_go 4 (pc1 := 78) (lv1 := [.ref 86, .int p, .int m, .int 0, .int 0, .int 6, .int 1, .int 1]) (st1 := [.int (p + 1), .ref 86, .int 101]) (h1 := (124, I, J, R)) rfl ?_
  refine ev_call (v1 := (some (.int x))) (h1 := (124, I, J, R)) rfl rfl c1 ?_
  refine ev_br (b1 := false) rfl rfl (xcd_nne (x := 101) (y := x) (by rw [show ((101 : Int32)).toInt = 101 from by decide]; first | exact b2 | omega)) ?_
  refine ev_go 5 (pc1 := 52) (lv1 := [.ref 86, .int p, .int m, .int 0, .int 0, .int 6, .int 1, .int 2]) (st1 := []) (h1 := (124, I, J, R)) rfl ?_
  exact hk
set_option maxRecDepth 20000 in
theorem kyE0_1 {L : Nat} {xs : Nat → Int32} {d : Nat} {I : Nat → Nat → Int32} {J : Nat → Nat → Int64} {R : Nat → Nat → Nat} {p m x : Int32} (hG : aGd R) (h4 : 4 ≤ d + 1) (b1 : 1 < m.toInt) (c1 : xEv L xs d 151 0 [.ref 86, .int (p + 1)] [] (124, I, J, R) (some (.int x)) (124, I, J, R)) (b2 : 101 ≠ x.toInt) {v : Option Value} {h' : xH} (hk : xEv L xs (d + 1) 153 52 [.ref 86, .int p, .int m, .int 0, .int 0, .int 6, .int 0, .int 2] [] (124, I, J, R) v h') : xEv L xs (d + 1) 153 52 [.ref 86, .int p, .int m, .int 0, .int 0, .int 6, .int 1, .int 1] [] (124, I, J, R) v h' := by
  refine ev_go 2 (pc1 := 55) (lv1 := [.ref 86, .int p, .int m, .int 0, .int 0, .int 6, .int 1, .int 1]) (st1 := [.int m, .int 1]) (h1 := (124, I, J, R)) rfl ?_
  refine ev_br (b1 := false) rfl rfl (xcd_nge (x := 1) (y := m) (by rw [show ((1 : Int32)).toInt = 1 from by decide]; first | exact b1 | omega)) ?_
  refine ev_go 6 (pc1 := 70) (lv1 := [.ref 86, .int p, .int m, .int 0, .int 0, .int 6, .int 1, .int 1]) (st1 := [.int 1, .retAddr 8]) (h1 := (124, I, J, R)) rfl ?_
  refine ev_903 (k := 6) h4 rfl rfl (by decide) (by decide) (by decide) (by decide) (x := 101) rfl ?_
  refine ev_go 4 (pc1 := 78) (lv1 := [.ref 86, .int p, .int m, .int 0, .int 0, .int 6, .int 1, .int 1]) (st1 := [.int (p + 1), .ref 86, .int 101]) (h1 := (124, I, J, R)) rfl ?_
  refine ev_call (v1 := (some (.int x))) (h1 := (124, I, J, R)) rfl rfl c1 ?_
  refine ev_br (b1 := true) rfl rfl (xcd_ne (x := 101) (y := x) (by rw [show ((101 : Int32)).toInt = 101 from by decide]; first | exact b2 | omega)) ?_
  refine ev_go 4 (pc1 := 52) (lv1 := [.ref 86, .int p, .int m, .int 0, .int 0, .int 6, .int 0, .int 2]) (st1 := []) (h1 := (124, I, J, R)) rfl ?_
  exact hk
set_option maxRecDepth 20000 in
theorem kyG0_2 {L : Nat} {xs : Nat → Int32} {d : Nat} {I : Nat → Nat → Int32} {J : Nat → Nat → Int64} {R : Nat → Nat → Nat} {p m : Int32} (hG : aGd R) (h4 : 4 ≤ d) (b1 : 2 < m.toInt) {v : Option Value} {h' : xH} (hk : xEv L xs d 153 8 [.ref 86, .int p, .int m, .int 1, .int 7, .int 7, .int 0, .int 2] [] (124, I, J, R) v h') : xEv L xs d 153 52 [.ref 86, .int p, .int m, .int 0, .int 0, .int 6, .int 0, .int 2] [] (124, I, J, R) v h' := by
  refine ev_go 2 (pc1 := 55) (lv1 := [.ref 86, .int p, .int m, .int 0, .int 0, .int 6, .int 0, .int 2]) (st1 := [.int m, .int 2]) (h1 := (124, I, J, R)) rfl ?_
  refine ev_br (b1 := false) rfl rfl (xcd_nge (x := 2) (y := m) (by rw [show ((2 : Int32)).toInt = 2 from by decide]; first | exact b1 | omega)) ?_
  refine ev_go 11 (pc1 := 8) (lv1 := [.ref 86, .int p, .int m, .int 1, .int 7, .int 7, .int 0, .int 2]) (st1 := []) (h1 := (124, I, J, R)) rfl ?_
  exact hk
set_option maxRecDepth 20000 in
theorem kyD0_2 {L : Nat} {xs : Nat → Int32} {d : Nat} {I : Nat → Nat → Int32} {J : Nat → Nat → Int64} {R : Nat → Nat → Nat} {p m x : Int32} (hG : aGd R) (h4 : 4 ≤ d + 1) (b1 : 2 < m.toInt) (c1 : xEv L xs d 151 0 [.ref 86, .int (p + 2)] [] (124, I, J, R) (some (.int x)) (124, I, J, R)) (b2 : 114 = x.toInt) {v : Option Value} {h' : xH} (hk : xEv L xs (d + 1) 153 52 [.ref 86, .int p, .int m, .int 0, .int 0, .int 6, .int 1, .int 3] [] (124, I, J, R) v h') : xEv L xs (d + 1) 153 52 [.ref 86, .int p, .int m, .int 0, .int 0, .int 6, .int 1, .int 2] [] (124, I, J, R) v h' := by
  refine ev_go 2 (pc1 := 55) (lv1 := [.ref 86, .int p, .int m, .int 0, .int 0, .int 6, .int 1, .int 2]) (st1 := [.int m, .int 2]) (h1 := (124, I, J, R)) rfl ?_
  refine ev_br (b1 := false) rfl rfl (xcd_nge (x := 2) (y := m) (by rw [show ((2 : Int32)).toInt = 2 from by decide]; first | exact b1 | omega)) ?_
  refine ev_go 6 (pc1 := 70) (lv1 := [.ref 86, .int p, .int m, .int 0, .int 0, .int 6, .int 1, .int 2]) (st1 := [.int 2, .retAddr 8]) (h1 := (124, I, J, R)) rfl ?_
  refine ev_903 (k := 6) h4 rfl rfl (by decide) (by decide) (by decide) (by decide) (x := 114) rfl ?_
  refine ev_go 4 (pc1 := 78) (lv1 := [.ref 86, .int p, .int m, .int 0, .int 0, .int 6, .int 1, .int 2]) (st1 := [.int (p + 2), .ref 86, .int 114]) (h1 := (124, I, J, R)) rfl ?_
  refine ev_call (v1 := (some (.int x))) (h1 := (124, I, J, R)) rfl rfl c1 ?_
  refine ev_br (b1 := false) rfl rfl (xcd_nne (x := 114) (y := x) (by rw [show ((114 : Int32)).toInt = 114 from by decide]; first | exact b2 | omega)) ?_
  refine ev_go 5 (pc1 := 52) (lv1 := [.ref 86, .int p, .int m, .int 0, .int 0, .int 6, .int 1, .int 3]) (st1 := []) (h1 := (124, I, J, R)) rfl ?_
  exact hk
set_option maxRecDepth 20000 in
theorem kyE0_2 {L : Nat} {xs : Nat → Int32} {d : Nat} {I : Nat → Nat → Int32} {J : Nat → Nat → Int64} {R : Nat → Nat → Nat} {p m x : Int32} (hG : aGd R) (h4 : 4 ≤ d + 1) (b1 : 2 < m.toInt) (c1 : xEv L xs d 151 0 [.ref 86, .int (p + 2)] [] (124, I, J, R) (some (.int x)) (124, I, J, R)) (b2 : 114 ≠ x.toInt) {v : Option Value} {h' : xH} (hk : xEv L xs (d + 1) 153 52 [.ref 86, .int p, .int m, .int 0, .int 0, .int 6, .int 0, .int 3] [] (124, I, J, R) v h') : xEv L xs (d + 1) 153 52 [.ref 86, .int p, .int m, .int 0, .int 0, .int 6, .int 1, .int 2] [] (124, I, J, R) v h' := by
  refine ev_go 2 (pc1 := 55) (lv1 := [.ref 86, .int p, .int m, .int 0, .int 0, .int 6, .int 1, .int 2]) (st1 := [.int m, .int 2]) (h1 := (124, I, J, R)) rfl ?_
  refine ev_br (b1 := false) rfl rfl (xcd_nge (x := 2) (y := m) (by rw [show ((2 : Int32)).toInt = 2 from by decide]; first | exact b1 | omega)) ?_
  refine ev_go 6 (pc1 := 70) (lv1 := [.ref 86, .int p, .int m, .int 0, .int 0, .int 6, .int 1, .int 2]) (st1 := [.int 2, .retAddr 8]) (h1 := (124, I, J, R)) rfl ?_
  refine ev_903 (k := 6) h4 rfl rfl (by decide) (by decide) (by decide) (by decide) (x := 114) rfl ?_
  refine ev_go 4 (pc1 := 78) (lv1 := [.ref 86, .int p, .int m, .int 0, .int 0, .int 6, .int 1, .int 2]) (st1 := [.int (p + 2), .ref 86, .int 114]) (h1 := (124, I, J, R)) rfl ?_
  refine ev_call (v1 := (some (.int x))) (h1 := (124, I, J, R)) rfl rfl c1 ?_
  refine ev_br (b1 := true) rfl rfl (xcd_ne (x := 114) (y := x) (by rw [show ((114 : Int32)).toInt = 114 from by decide]; first | exact b2 | omega)) ?_
  refine ev_go 4 (pc1 := 52) (lv1 := [.ref 86, .int p, .int m, .int 0, .int 0, .int 6, .int 0, .int 3]) (st1 := []) (h1 := (124, I, J, R)) rfl ?_
  exact hk
set_option maxRecDepth 20000 in
theorem kyG0_3 {L : Nat} {xs : Nat → Int32} {d : Nat} {I : Nat → Nat → Int32} {J : Nat → Nat → Int64} {R : Nat → Nat → Nat} {p m : Int32} (hG : aGd R) (h4 : 4 ≤ d) (b1 : 3 < m.toInt) {v : Option Value} {h' : xH} (hk : xEv L xs d 153 8 [.ref 86, .int p, .int m, .int 1, .int 7, .int 7, .int 0, .int 3] [] (124, I, J, R) v h') : xEv L xs d 153 52 [.ref 86, .int p, .int m, .int 0, .int 0, .int 6, .int 0, .int 3] [] (124, I, J, R) v h' := by
  refine ev_go 2 (pc1 := 55) (lv1 := [.ref 86, .int p, .int m, .int 0, .int 0, .int 6, .int 0, .int 3]) (st1 := [.int m, .int 3]) (h1 := (124, I, J, R)) rfl ?_
  refine ev_br (b1 := false) rfl rfl (xcd_nge (x := 3) (y := m) (by rw [show ((3 : Int32)).toInt = 3 from by decide]; first | exact b1 | omega)) ?_
  refine ev_go 11 (pc1 := 8) (lv1 := [.ref 86, .int p, .int m, .int 1, .int 7, .int 7, .int 0, .int 3]) (st1 := []) (h1 := (124, I, J, R)) rfl ?_
  exact hk
set_option maxRecDepth 20000 in
theorem kyD0_3 {L : Nat} {xs : Nat → Int32} {d : Nat} {I : Nat → Nat → Int32} {J : Nat → Nat → Int64} {R : Nat → Nat → Nat} {p m x : Int32} (hG : aGd R) (h4 : 4 ≤ d + 1) (b1 : 3 < m.toInt) (c1 : xEv L xs d 151 0 [.ref 86, .int (p + 3)] [] (124, I, J, R) (some (.int x)) (124, I, J, R)) (b2 : 115 = x.toInt) {v : Option Value} {h' : xH} (hk : xEv L xs (d + 1) 153 52 [.ref 86, .int p, .int m, .int 0, .int 0, .int 6, .int 1, .int 4] [] (124, I, J, R) v h') : xEv L xs (d + 1) 153 52 [.ref 86, .int p, .int m, .int 0, .int 0, .int 6, .int 1, .int 3] [] (124, I, J, R) v h' := by
  refine ev_go 2 (pc1 := 55) (lv1 := [.ref 86, .int p, .int m, .int 0, .int 0, .int 6, .int 1, .int 3]) (st1 := [.int m, .int 3]) (h1 := (124, I, J, R)) rfl ?_
  refine ev_br (b1 := false) rfl rfl (xcd_nge (x := 3) (y := m) (by rw [show ((3 : Int32)).toInt = 3 from by decide]; first | exact b1 | omega)) ?_
  refine ev_go 6 (pc1 := 70) (lv1 := [.ref 86, .int p, .int m, .int 0, .int 0, .int 6, .int 1, .int 3]) (st1 := [.int 3, .retAddr 8]) (h1 := (124, I, J, R)) rfl ?_
  refine ev_903 (k := 6) h4 rfl rfl (by decide) (by decide) (by decide) (by decide) (x := 115) rfl ?_
  refine ev_go 4 (pc1 := 78) (lv1 := [.ref 86, .int p, .int m, .int 0, .int 0, .int 6, .int 1, .int 3]) (st1 := [.int (p + 3), .ref 86, .int 115]) (h1 := (124, I, J, R)) rfl ?_
  refine ev_call (v1 := (some (.int x))) (h1 := (124, I, J, R)) rfl rfl c1 ?_
  refine ev_br (b1 := false) rfl rfl (xcd_nne (x := 115) (y := x) (by rw [show ((115 : Int32)).toInt = 115 from by decide]; first | exact b2 | omega)) ?_
  refine ev_go 5 (pc1 := 52) (lv1 := [.ref 86, .int p, .int m, .int 0, .int 0, .int 6, .int 1, .int 4]) (st1 := []) (h1 := (124, I, J, R)) rfl ?_
  exact hk
set_option maxRecDepth 20000 in
theorem kyE0_3 {L : Nat} {xs : Nat → Int32} {d : Nat} {I : Nat → Nat → Int32} {J : Nat → Nat → Int64} {R : Nat → Nat → Nat} {p m x : Int32} (hG : aGd R) (h4 : 4 ≤ d + 1) (b1 : 3 < m.toInt) (c1 : xEv L xs d 151 0 [.ref 86, .int (p + 3)] [] (124, I, J, R) (some (.int x)) (124, I, J, R)) (b2 : 115 ≠ x.toInt) {v : Option Value} {h' : xH} (hk : xEv L xs (d + 1) 153 52 [.ref 86, .int p, .int m, .int 0, .int 0, .int 6, .int 0, .int 4] [] (124, I, J, R) v h') : xEv L xs (d + 1) 153 52 [.ref 86, .int p, .int m, .int 0, .int 0, .int 6, .int 1, .int 3] [] (124, I, J, R) v h' := by
  refine ev_go 2 (pc1 := 55) (lv1 := [.ref 86, .int p, .int m, .int 0, .int 0, .int 6, .int 1, .int 3]) (st1 := [.int m, .int 3]) (h1 := (124, I, J, R)) rfl ?_
  refine ev_br (b1 := false) rfl rfl (xcd_nge (x := 3) (y := m) (by rw [show ((3 : Int32)).toInt = 3 from by decide]; first | exact b1 | omega)) ?_
  refine ev_go 6 (pc1 := 70) (lv1 := [.ref 86, .int p, .int m, .int 0, .int 0, .int 6, .int 1, .int 3]) (st1 := [.int 3, .retAddr 8]) (h1 := (124, I, J, R)) rfl ?_
  refine ev_903 (k := 6) h4 rfl rfl (by decide) (by decide) (by decide) (by decide) (x := 115) rfl ?_
  refine ev_go 4 (pc1 := 78) (lv1 := [.ref 86, .int p, .int m, .int 0, .int 0, .int 6, .int 1, .int 3]) (st1 := [.int (p + 3), .ref 86, .int 115]) (h1 := (124, I, J, R)) rfl ?_
  refine ev_call (v1 := (some (.int x))) (h1 := (124, I, J, R)) rfl rfl c1 ?_
  refine ev_br (b1 := true) rfl rfl (xcd_ne (x := 115) (y := x) (by rw [show ((115 : Int32)).toInt = 115 from by decide]; first | exact b2 | omega)) ?_
  refine ev_go 4 (pc1 := 52) (lv1 := [.ref 86, .int p, .int m, .int 0, .int 0, .int 6, .int 0, .int 4]) (st1 := []) (h1 := (124, I, J, R)) rfl ?_
  exact hk
set_option maxRecDepth 20000 in
theorem kyG0_4 {L : Nat} {xs : Nat → Int32} {d : Nat} {I : Nat → Nat → Int32} {J : Nat → Nat → Int64} {R : Nat → Nat → Nat} {p m : Int32} (hG : aGd R) (h4 : 4 ≤ d) (b1 : 4 < m.toInt) {v : Option Value} {h' : xH} (hk : xEv L xs d 153 8 [.ref 86, .int p, .int m, .int 1, .int 7, .int 7, .int 0, .int 4] [] (124, I, J, R) v h') : xEv L xs d 153 52 [.ref 86, .int p, .int m, .int 0, .int 0, .int 6, .int 0, .int 4] [] (124, I, J, R) v h' := by
  refine ev_go 2 (pc1 := 55) (lv1 := [.ref 86, .int p, .int m, .int 0, .int 0, .int 6, .int 0, .int 4]) (st1 := [.int m, .int 4]) (h1 := (124, I, J, R)) rfl ?_
  refine ev_br (b1 := false) rfl rfl (xcd_nge (x := 4) (y := m) (by rw [show ((4 : Int32)).toInt = 4 from by decide]; first | exact b1 | omega)) ?_
  refine ev_go 11 (pc1 := 8) (lv1 := [.ref 86, .int p, .int m, .int 1, .int 7, .int 7, .int 0, .int 4]) (st1 := []) (h1 := (124, I, J, R)) rfl ?_
  exact hk
set_option maxRecDepth 20000 in
theorem kyD0_4 {L : Nat} {xs : Nat → Int32} {d : Nat} {I : Nat → Nat → Int32} {J : Nat → Nat → Int64} {R : Nat → Nat → Nat} {p m x : Int32} (hG : aGd R) (h4 : 4 ≤ d + 1) (b1 : 4 < m.toInt) (c1 : xEv L xs d 151 0 [.ref 86, .int (p + 4)] [] (124, I, J, R) (some (.int x)) (124, I, J, R)) (b2 : 111 = x.toInt) {v : Option Value} {h' : xH} (hk : xEv L xs (d + 1) 153 52 [.ref 86, .int p, .int m, .int 0, .int 0, .int 6, .int 1, .int 5] [] (124, I, J, R) v h') : xEv L xs (d + 1) 153 52 [.ref 86, .int p, .int m, .int 0, .int 0, .int 6, .int 1, .int 4] [] (124, I, J, R) v h' := by
  refine ev_go 2 (pc1 := 55) (lv1 := [.ref 86, .int p, .int m, .int 0, .int 0, .int 6, .int 1, .int 4]) (st1 := [.int m, .int 4]) (h1 := (124, I, J, R)) rfl ?_
  refine ev_br (b1 := false) rfl rfl (xcd_nge (x := 4) (y := m) (by rw [show ((4 : Int32)).toInt = 4 from by decide]; first | exact b1 | omega)) ?_
  refine ev_go 6 (pc1 := 70) (lv1 := [.ref 86, .int p, .int m, .int 0, .int 0, .int 6, .int 1, .int 4]) (st1 := [.int 4, .retAddr 8]) (h1 := (124, I, J, R)) rfl ?_
  refine ev_903 (k := 6) h4 rfl rfl (by decide) (by decide) (by decide) (by decide) (x := 111) rfl ?_
  refine ev_go 4 (pc1 := 78) (lv1 := [.ref 86, .int p, .int m, .int 0, .int 0, .int 6, .int 1, .int 4]) (st1 := [.int (p + 4), .ref 86, .int 111]) (h1 := (124, I, J, R)) rfl ?_
  refine ev_call (v1 := (some (.int x))) (h1 := (124, I, J, R)) rfl rfl c1 ?_
  refine ev_br (b1 := false) rfl rfl (xcd_nne (x := 111) (y := x) (by rw [show ((111 : Int32)).toInt = 111 from by decide]; first | exact b2 | omega)) ?_
  refine ev_go 5 (pc1 := 52) (lv1 := [.ref 86, .int p, .int m, .int 0, .int 0, .int 6, .int 1, .int 5]) (st1 := []) (h1 := (124, I, J, R)) rfl ?_
  exact hk
set_option maxRecDepth 20000 in
theorem kyE0_4 {L : Nat} {xs : Nat → Int32} {d : Nat} {I : Nat → Nat → Int32} {J : Nat → Nat → Int64} {R : Nat → Nat → Nat} {p m x : Int32} (hG : aGd R) (h4 : 4 ≤ d + 1) (b1 : 4 < m.toInt) (c1 : xEv L xs d 151 0 [.ref 86, .int (p + 4)] [] (124, I, J, R) (some (.int x)) (124, I, J, R)) (b2 : 111 ≠ x.toInt) {v : Option Value} {h' : xH} (hk : xEv L xs (d + 1) 153 52 [.ref 86, .int p, .int m, .int 0, .int 0, .int 6, .int 0, .int 5] [] (124, I, J, R) v h') : xEv L xs (d + 1) 153 52 [.ref 86, .int p, .int m, .int 0, .int 0, .int 6, .int 1, .int 4] [] (124, I, J, R) v h' := by
  refine ev_go 2 (pc1 := 55) (lv1 := [.ref 86, .int p, .int m, .int 0, .int 0, .int 6, .int 1, .int 4]) (st1 := [.int m, .int 4]) (h1 := (124, I, J, R)) rfl ?_
  refine ev_br (b1 := false) rfl rfl (xcd_nge (x := 4) (y := m) (by rw [show ((4 : Int32)).toInt = 4 from by decide]; first | exact b1 | omega)) ?_
  refine ev_go 6 (pc1 := 70) (lv1 := [.ref 86, .int p, .int m, .int 0, .int 0, .int 6, .int 1, .int 4]) (st1 := [.int 4, .retAddr 8]) (h1 := (124, I, J, R)) rfl ?_
  refine ev_903 (k := 6) h4 rfl rfl (by decide) (by decide) (by decide) (by decide) (x := 111) rfl ?_
  refine ev_go 4 (pc1 := 78) (lv1 := [.ref 86, .int p, .int m, .int 0, .int 0, .int 6, .int 1, .int 4]) (st1 := [.int (p + 4), .ref 86, .int 111]) (h1 := (124, I, J, R)) rfl ?_
  refine ev_call (v1 := (some (.int x))) (h1 := (124, I, J, R)) rfl rfl c1 ?_
  refine ev_br (b1 := true) rfl rfl (xcd_ne (x := 111) (y := x) (by rw [show ((111 : Int32)).toInt = 111 from by decide]; first | exact b2 | omega)) ?_
  refine ev_go 4 (pc1 := 52) (lv1 := [.ref 86, .int p, .int m, .int 0, .int 0, .int 6, .int 0, .int 5]) (st1 := []) (h1 := (124, I, J, R)) rfl ?_
  exact hk
set_option maxRecDepth 20000 in
theorem kyG0_5 {L : Nat} {xs : Nat → Int32} {d : Nat} {I : Nat → Nat → Int32} {J : Nat → Nat → Int64} {R : Nat → Nat → Nat} {p m : Int32} (hG : aGd R) (h4 : 4 ≤ d) (b1 : 5 < m.toInt) {v : Option Value} {h' : xH} (hk : xEv L xs d 153 8 [.ref 86, .int p, .int m, .int 1, .int 7, .int 7, .int 0, .int 5] [] (124, I, J, R) v h') : xEv L xs d 153 52 [.ref 86, .int p, .int m, .int 0, .int 0, .int 6, .int 0, .int 5] [] (124, I, J, R) v h' := by
  refine ev_go 2 (pc1 := 55) (lv1 := [.ref 86, .int p, .int m, .int 0, .int 0, .int 6, .int 0, .int 5]) (st1 := [.int m, .int 5]) (h1 := (124, I, J, R)) rfl ?_
  refine ev_br (b1 := false) rfl rfl (xcd_nge (x := 5) (y := m) (by rw [show ((5 : Int32)).toInt = 5 from by decide]; first | exact b1 | omega)) ?_
  refine ev_go 11 (pc1 := 8) (lv1 := [.ref 86, .int p, .int m, .int 1, .int 7, .int 7, .int 0, .int 5]) (st1 := []) (h1 := (124, I, J, R)) rfl ?_
  exact hk
set_option maxRecDepth 20000 in
theorem kyD0_5 {L : Nat} {xs : Nat → Int32} {d : Nat} {I : Nat → Nat → Int32} {J : Nat → Nat → Int64} {R : Nat → Nat → Nat} {p m x : Int32} (hG : aGd R) (h4 : 4 ≤ d + 1) (b1 : 5 < m.toInt) (c1 : xEv L xs d 151 0 [.ref 86, .int (p + 5)] [] (124, I, J, R) (some (.int x)) (124, I, J, R)) (b2 : 110 = x.toInt) {v : Option Value} {h' : xH} (hk : xEv L xs (d + 1) 153 52 [.ref 86, .int p, .int m, .int 0, .int 0, .int 6, .int 1, .int 6] [] (124, I, J, R) v h') : xEv L xs (d + 1) 153 52 [.ref 86, .int p, .int m, .int 0, .int 0, .int 6, .int 1, .int 5] [] (124, I, J, R) v h' := by
  refine ev_go 2 (pc1 := 55) (lv1 := [.ref 86, .int p, .int m, .int 0, .int 0, .int 6, .int 1, .int 5]) (st1 := [.int m, .int 5]) (h1 := (124, I, J, R)) rfl ?_
  refine ev_br (b1 := false) rfl rfl (xcd_nge (x := 5) (y := m) (by rw [show ((5 : Int32)).toInt = 5 from by decide]; first | exact b1 | omega)) ?_
  refine ev_go 6 (pc1 := 70) (lv1 := [.ref 86, .int p, .int m, .int 0, .int 0, .int 6, .int 1, .int 5]) (st1 := [.int 5, .retAddr 8]) (h1 := (124, I, J, R)) rfl ?_
  refine ev_903 (k := 6) h4 rfl rfl (by decide) (by decide) (by decide) (by decide) (x := 110) rfl ?_
  refine ev_go 4 (pc1 := 78) (lv1 := [.ref 86, .int p, .int m, .int 0, .int 0, .int 6, .int 1, .int 5]) (st1 := [.int (p + 5), .ref 86, .int 110]) (h1 := (124, I, J, R)) rfl ?_
  refine ev_call (v1 := (some (.int x))) (h1 := (124, I, J, R)) rfl rfl c1 ?_
  refine ev_br (b1 := false) rfl rfl (xcd_nne (x := 110) (y := x) (by rw [show ((110 : Int32)).toInt = 110 from by decide]; first | exact b2 | omega)) ?_
  refine ev_go 5 (pc1 := 52) (lv1 := [.ref 86, .int p, .int m, .int 0, .int 0, .int 6, .int 1, .int 6]) (st1 := []) (h1 := (124, I, J, R)) rfl ?_
  exact hk
set_option maxRecDepth 20000 in
theorem kyE0_5 {L : Nat} {xs : Nat → Int32} {d : Nat} {I : Nat → Nat → Int32} {J : Nat → Nat → Int64} {R : Nat → Nat → Nat} {p m x : Int32} (hG : aGd R) (h4 : 4 ≤ d + 1) (b1 : 5 < m.toInt) (c1 : xEv L xs d 151 0 [.ref 86, .int (p + 5)] [] (124, I, J, R) (some (.int x)) (124, I, J, R)) (b2 : 110 ≠ x.toInt) {v : Option Value} {h' : xH} (hk : xEv L xs (d + 1) 153 52 [.ref 86, .int p, .int m, .int 0, .int 0, .int 6, .int 0, .int 6] [] (124, I, J, R) v h') : xEv L xs (d + 1) 153 52 [.ref 86, .int p, .int m, .int 0, .int 0, .int 6, .int 1, .int 5] [] (124, I, J, R) v h' := by
  refine ev_go 2 (pc1 := 55) (lv1 := [.ref 86, .int p, .int m, .int 0, .int 0, .int 6, .int 1, .int 5]) (st1 := [.int m, .int 5]) (h1 := (124, I, J, R)) rfl ?_
  refine ev_br (b1 := false) rfl rfl (xcd_nge (x := 5) (y := m) (by rw [show ((5 : Int32)).toInt = 5 from by decide]; first | exact b1 | omega)) ?_
  refine ev_go 6 (pc1 := 70) (lv1 := [.ref 86, .int p, .int m, .int 0, .int 0, .int 6, .int 1, .int 5]) (st1 := [.int 5, .retAddr 8]) (h1 := (124, I, J, R)) rfl ?_
  refine ev_903 (k := 6) h4 rfl rfl (by decide) (by decide) (by decide) (by decide) (x := 110) rfl ?_
  refine ev_go 4 (pc1 := 78) (lv1 := [.ref 86, .int p, .int m, .int 0, .int 0, .int 6, .int 1, .int 5]) (st1 := [.int (p + 5), .ref 86, .int 110]) (h1 := (124, I, J, R)) rfl ?_
  refine ev_call (v1 := (some (.int x))) (h1 := (124, I, J, R)) rfl rfl c1 ?_
  refine ev_br (b1 := true) rfl rfl (xcd_ne (x := 110) (y := x) (by rw [show ((110 : Int32)).toInt = 110 from by decide]; first | exact b2 | omega)) ?_
  refine ev_go 4 (pc1 := 52) (lv1 := [.ref 86, .int p, .int m, .int 0, .int 0, .int 6, .int 0, .int 6]) (st1 := []) (h1 := (124, I, J, R)) rfl ?_
  exact hk
set_option maxRecDepth 20000 in
theorem kyG0_6 {L : Nat} {xs : Nat → Int32} {d : Nat} {I : Nat → Nat → Int32} {J : Nat → Nat → Int64} {R : Nat → Nat → Nat} {p m : Int32} (hG : aGd R) (h4 : 4 ≤ d) (b1 : 6 ≥ m.toInt) {v : Option Value} {h' : xH} (hk : xEv L xs d 153 8 [.ref 86, .int p, .int m, .int 1, .int 7, .int 7, .int 0, .int 6] [] (124, I, J, R) v h') : xEv L xs d 153 52 [.ref 86, .int p, .int m, .int 0, .int 0, .int 6, .int 0, .int 6] [] (124, I, J, R) v h' := by
  refine ev_go 2 (pc1 := 55) (lv1 := [.ref 86, .int p, .int m, .int 0, .int 0, .int 6, .int 0, .int 6]) (st1 := [.int m, .int 6]) (h1 := (124, I, J, R)) rfl ?_
  refine ev_br (b1 := true) rfl rfl (xcd_ge (x := 6) (y := m) (by rw [show ((6 : Int32)).toInt = 6 from by decide]; first | exact b1 | omega)) ?_
  refine ev_go 9 (pc1 := 8) (lv1 := [.ref 86, .int p, .int m, .int 1, .int 7, .int 7, .int 0, .int 6]) (st1 := []) (h1 := (124, I, J, R)) rfl ?_
  exact hk
set_option maxRecDepth 20000 in
theorem kyF0 {L : Nat} {xs : Nat → Int32} {d : Nat} {I : Nat → Nat → Int32} {J : Nat → Nat → Int64} {R : Nat → Nat → Nat} {p m : Int32} (hG : aGd R) (h4 : 4 ≤ d) (b1 : 6 ≥ m.toInt) : xEv L xs d 153 52 [.ref 86, .int p, .int m, .int 0, .int 0, .int 6, .int 1, .int 6] [] (124, I, J, R) (some (.int 0)) (124, I, J, R) := by
  refine ev_go 2 (pc1 := 55) (lv1 := [.ref 86, .int p, .int m, .int 0, .int 0, .int 6, .int 1, .int 6]) (st1 := [.int m, .int 6]) (h1 := (124, I, J, R)) rfl ?_
  refine ev_br (b1 := true) rfl rfl (xcd_ge (x := 6) (y := m) (by rw [show ((6 : Int32)).toInt = 6 from by decide]; first | exact b1 | omega)) ?_
  refine ev_go 3 (pc1 := 103) (lv1 := [.ref 86, .int p, .int m, .int 0, .int 0, .int 6, .int 1, .int 6]) (st1 := [.int 0]) (h1 := (124, I, J, R)) rfl ?_
  exact ev_ret rfl rfl
set_option maxRecDepth 20000 in
theorem kyA1 {L : Nat} {xs : Nat → Int32} {d : Nat} {I : Nat → Nat → Int32} {J : Nat → Nat → Int64} {R : Nat → Nat → Nat} {p m : Int32} {w6 w7 : Value} (hG : aGd R) (h4 : 4 ≤ d)  {v : Option Value} {h' : xH} (hk : xEv L xs d 153 33 [.ref 86, .int p, .int m, .int 1, .int 7, .int 11, w6, w7] [] (124, I, J, R) v h') : xEv L xs d 153 8 [.ref 86, .int p, .int m, .int 1, .int 7, .int 7, w6, w7] [] (124, I, J, R) v h' := by
  refine ev_go 2 (pc1 := 12) (lv1 := [.ref 86, .int p, .int m, .int 1, .int 7, .int 7, w6, w7]) (st1 := [.retAddr 8, .int 7]) (h1 := (124, I, J, R)) rfl ?_
  refine ev_902 (k := 6) h4 rfl rfl (by decide) (by decide) (x := 33) rfl ?_
  refine ev_go 3 (pc1 := 22) (lv1 := [.ref 86, .int p, .int m, .int 1, .int 7, .int 7, w6, w7]) (st1 := [.int 7, .retAddr 8]) (h1 := (124, I, J, R)) rfl ?_
  refine ev_903 (k := 6) h4 rfl rfl (by decide) (by decide) (by decide) (by decide) (x := 109) rfl ?_
  refine ev_go 7 (pc1 := 12) (lv1 := [.ref 86, .int p, .int m, .int 1, .int 7, .int 8, w6, w7]) (st1 := [.retAddr 8, .int 8]) (h1 := (124, I, J, R)) rfl ?_
  refine ev_902 (k := 6) h4 rfl rfl (by decide) (by decide) (x := 33) rfl ?_
  refine ev_go 3 (pc1 := 22) (lv1 := [.ref 86, .int p, .int m, .int 1, .int 7, .int 8, w6, w7]) (st1 := [.int 8, .retAddr 8]) (h1 := (124, I, J, R)) rfl ?_
  refine ev_903 (k := 6) h4 rfl rfl (by decide) (by decide) (by decide) (by decide) (x := 101) rfl ?_
  refine ev_go 7 (pc1 := 12) (lv1 := [.ref 86, .int p, .int m, .int 1, .int 7, .int 9, w6, w7]) (st1 := [.retAddr 8, .int 9]) (h1 := (124, I, J, R)) rfl ?_
  refine ev_902 (k := 6) h4 rfl rfl (by decide) (by decide) (x := 33) rfl ?_
  refine ev_go 3 (pc1 := 22) (lv1 := [.ref 86, .int p, .int m, .int 1, .int 7, .int 9, w6, w7]) (st1 := [.int 9, .retAddr 8]) (h1 := (124, I, J, R)) rfl ?_
  refine ev_903 (k := 6) h4 rfl rfl (by decide) (by decide) (by decide) (by decide) (x := 101) rfl ?_
  refine ev_go 7 (pc1 := 12) (lv1 := [.ref 86, .int p, .int m, .int 1, .int 7, .int 10, w6, w7]) (st1 := [.retAddr 8, .int 10]) (h1 := (124, I, J, R)) rfl ?_
  refine ev_902 (k := 6) h4 rfl rfl (by decide) (by decide) (x := 33) rfl ?_
  refine ev_go 3 (pc1 := 22) (lv1 := [.ref 86, .int p, .int m, .int 1, .int 7, .int 10, w6, w7]) (st1 := [.int 10, .retAddr 8]) (h1 := (124, I, J, R)) rfl ?_
  refine ev_903 (k := 6) h4 rfl rfl (by decide) (by decide) (by decide) (by decide) (x := 116) rfl ?_
  refine ev_go 7 (pc1 := 12) (lv1 := [.ref 86, .int p, .int m, .int 1, .int 7, .int 11, w6, w7]) (st1 := [.retAddr 8, .int 11]) (h1 := (124, I, J, R)) rfl ?_
  refine ev_902 (k := 6) h4 rfl rfl (by decide) (by decide) (x := 33) rfl ?_
  refine ev_go 3 (pc1 := 22) (lv1 := [.ref 86, .int p, .int m, .int 1, .int 7, .int 11, w6, w7]) (st1 := [.int 11, .retAddr 8]) (h1 := (124, I, J, R)) rfl ?_
  refine ev_903 (k := 6) h4 rfl rfl (by decide) (by decide) (by decide) (by decide) (x := 32) rfl ?_
  refine ev_go 2 (pc1 := 33) (lv1 := [.ref 86, .int p, .int m, .int 1, .int 7, .int 11, w6, w7]) (st1 := []) (h1 := (124, I, J, R)) rfl ?_
  exact hk
set_option maxRecDepth 20000 in
theorem kyB1 {L : Nat} {xs : Nat → Int32} {d : Nat} {I : Nat → Nat → Int32} {J : Nat → Nat → Int64} {R : Nat → Nat → Nat} {p m : Int32} {w6 w7 : Value} (hG : aGd R) (h4 : 4 ≤ d) (b1 : 4 ≠ m.toInt) (b2 : 0 < m.toInt) {v : Option Value} {h' : xH} (hk : xEv L xs d 153 8 [.ref 86, .int p, .int m, .int 2, .int 12, .int 12, .int 0, .int 0] [] (124, I, J, R) v h') : xEv L xs d 153 33 [.ref 86, .int p, .int m, .int 1, .int 7, .int 11, w6, w7] [] (124, I, J, R) v h' := by
  refine ev_go 4 (pc1 := 39) (lv1 := [.ref 86, .int p, .int m, .int 1, .int 7, .int 11, w6, w7]) (st1 := [.int m, .int 4]) (h1 := (124, I, J, R)) rfl ?_
  refine ev_br (b1 := true) rfl rfl (xcd_ne (x := 4) (y := m) (by rw [show ((4 : Int32)).toInt = 4 from by decide]; first | exact b1 | omega)) ?_
  refine ev_go 6 (pc1 := 55) (lv1 := [.ref 86, .int p, .int m, .int 1, .int 7, .int 11, .int 0, .int 0]) (st1 := [.int m, .int 0]) (h1 := (124, I, J, R)) rfl ?_
  refine ev_br (b1 := false) rfl rfl (xcd_nge (x := 0) (y := m) (by rw [show ((0 : Int32)).toInt = 0 from by decide]; first | exact b2 | omega)) ?_
  refine ev_go 11 (pc1 := 8) (lv1 := [.ref 86, .int p, .int m, .int 2, .int 12, .int 12, .int 0, .int 0]) (st1 := []) (h1 := (124, I, J, R)) rfl ?_
  exact hk
set_option maxRecDepth 20000 in
theorem kyC1 {L : Nat} {xs : Nat → Int32} {d : Nat} {I : Nat → Nat → Int32} {J : Nat → Nat → Int64} {R : Nat → Nat → Nat} {p m : Int32} {w6 w7 : Value} (hG : aGd R) (h4 : 4 ≤ d) (b1 : 4 = m.toInt) {v : Option Value} {h' : xH} (hk : xEv L xs d 153 52 [.ref 86, .int p, .int m, .int 1, .int 7, .int 11, .int 1, .int 0] [] (124, I, J, R) v h') : xEv L xs d 153 33 [.ref 86, .int p, .int m, .int 1, .int 7, .int 11, w6, w7] [] (124, I, J, R) v h' := by
  refine ev_go 4 (pc1 := 39) (lv1 := [.ref 86, .int p, .int m, .int 1, .int 7, .int 11, w6, w7]) (st1 := [.int m, .int 4]) (h1 := (124, I, J, R)) rfl ?_
  refine ev_br (b1 := false) rfl rfl (xcd_nne (x := 4) (y := m) (by rw [show ((4 : Int32)).toInt = 4 from by decide]; first | exact b1 | omega)) ?_
  refine ev_go 5 (pc1 := 52) (lv1 := [.ref 86, .int p, .int m, .int 1, .int 7, .int 11, .int 1, .int 0]) (st1 := []) (h1 := (124, I, J, R)) rfl ?_
  exact hk
set_option maxRecDepth 20000 in
theorem kyD1_0 {L : Nat} {xs : Nat → Int32} {d : Nat} {I : Nat → Nat → Int32} {J : Nat → Nat → Int64} {R : Nat → Nat → Nat} {p m x : Int32} (hG : aGd R) (h4 : 4 ≤ d + 1) (b1 : 0 < m.toInt) (c1 : xEv L xs d 151 0 [.ref 86, .int (p + 0)] [] (124, I, J, R) (some (.int x)) (124, I, J, R)) (b2 : 109 = x.toInt) {v : Option Value} {h' : xH} (hk : xEv L xs (d + 1) 153 52 [.ref 86, .int p, .int m, .int 1, .int 7, .int 11, .int 1, .int 1] [] (124, I, J, R) v h') : xEv L xs (d + 1) 153 52 [.ref 86, .int p, .int m, .int 1, .int 7, .int 11, .int 1, .int 0] [] (124, I, J, R) v h' := by
  refine ev_go 2 (pc1 := 55) (lv1 := [.ref 86, .int p, .int m, .int 1, .int 7, .int 11, .int 1, .int 0]) (st1 := [.int m, .int 0]) (h1 := (124, I, J, R)) rfl ?_
  refine ev_br (b1 := false) rfl rfl (xcd_nge (x := 0) (y := m) (by rw [show ((0 : Int32)).toInt = 0 from by decide]; first | exact b1 | omega)) ?_
  refine ev_go 6 (pc1 := 70) (lv1 := [.ref 86, .int p, .int m, .int 1, .int 7, .int 11, .int 1, .int 0]) (st1 := [.int 7, .retAddr 8]) (h1 := (124, I, J, R)) rfl ?_
  refine ev_903 (k := 6) h4 rfl rfl (by decide) (by decide) (by decide) (by decide) (x := 109) rfl ?_
  refine ev_go 4 (pc1 := 78) (lv1 := [.ref 86, .int p, .int m, .int 1, .int 7, .int 11, .int 1, .int 0]) (st1 := [.int (p + 0), .ref 86, .int 109]) (h1 := (124, I, J, R)) rfl ?_
  refine ev_call (v1 := (some (.int x))) (h1 := (124, I, J, R)) rfl rfl c1 ?_
  refine ev_br (b1 := false) rfl rfl (xcd_nne (x := 109) (y := x) (by rw [show ((109 : Int32)).toInt = 109 from by decide]; first | exact b2 | omega)) ?_
  refine ev_go 5 (pc1 := 52) (lv1 := [.ref 86, .int p, .int m, .int 1, .int 7, .int 11, .int 1, .int 1]) (st1 := []) (h1 := (124, I, J, R)) rfl ?_
  exact hk
set_option maxRecDepth 20000 in
theorem kyE1_0 {L : Nat} {xs : Nat → Int32} {d : Nat} {I : Nat → Nat → Int32} {J : Nat → Nat → Int64} {R : Nat → Nat → Nat} {p m x : Int32} (hG : aGd R) (h4 : 4 ≤ d + 1) (b1 : 0 < m.toInt) (c1 : xEv L xs d 151 0 [.ref 86, .int (p + 0)] [] (124, I, J, R) (some (.int x)) (124, I, J, R)) (b2 : 109 ≠ x.toInt) {v : Option Value} {h' : xH} (hk : xEv L xs (d + 1) 153 52 [.ref 86, .int p, .int m, .int 1, .int 7, .int 11, .int 0, .int 1] [] (124, I, J, R) v h') : xEv L xs (d + 1) 153 52 [.ref 86, .int p, .int m, .int 1, .int 7, .int 11, .int 1, .int 0] [] (124, I, J, R) v h' := by
  refine ev_go 2 (pc1 := 55) (lv1 := [.ref 86, .int p, .int m, .int 1, .int 7, .int 11, .int 1, .int 0]) (st1 := [.int m, .int 0]) (h1 := (124, I, J, R)) rfl ?_
  refine ev_br (b1 := false) rfl rfl (xcd_nge (x := 0) (y := m) (by rw [show ((0 : Int32)).toInt = 0 from by decide]; first | exact b1 | omega)) ?_
  refine ev_go 6 (pc1 := 70) (lv1 := [.ref 86, .int p, .int m, .int 1, .int 7, .int 11, .int 1, .int 0]) (st1 := [.int 7, .retAddr 8]) (h1 := (124, I, J, R)) rfl ?_
  refine ev_903 (k := 6) h4 rfl rfl (by decide) (by decide) (by decide) (by decide) (x := 109) rfl ?_
  refine ev_go 4 (pc1 := 78) (lv1 := [.ref 86, .int p, .int m, .int 1, .int 7, .int 11, .int 1, .int 0]) (st1 := [.int (p + 0), .ref 86, .int 109]) (h1 := (124, I, J, R)) rfl ?_
  refine ev_call (v1 := (some (.int x))) (h1 := (124, I, J, R)) rfl rfl c1 ?_
  refine ev_br (b1 := true) rfl rfl (xcd_ne (x := 109) (y := x) (by rw [show ((109 : Int32)).toInt = 109 from by decide]; first | exact b2 | omega)) ?_
  refine ev_go 4 (pc1 := 52) (lv1 := [.ref 86, .int p, .int m, .int 1, .int 7, .int 11, .int 0, .int 1]) (st1 := []) (h1 := (124, I, J, R)) rfl ?_
  exact hk
set_option maxRecDepth 20000 in
theorem kyG1_1 {L : Nat} {xs : Nat → Int32} {d : Nat} {I : Nat → Nat → Int32} {J : Nat → Nat → Int64} {R : Nat → Nat → Nat} {p m : Int32} (hG : aGd R) (h4 : 4 ≤ d) (b1 : 1 < m.toInt) {v : Option Value} {h' : xH} (hk : xEv L xs d 153 8 [.ref 86, .int p, .int m, .int 2, .int 12, .int 12, .int 0, .int 1] [] (124, I, J, R) v h') : xEv L xs d 153 52 [.ref 86, .int p, .int m, .int 1, .int 7, .int 11, .int 0, .int 1] [] (124, I, J, R) v h' := by
  refine ev_go 2 (pc1 := 55) (lv1 := [.ref 86, .int p, .int m, .int 1, .int 7, .int 11, .int 0, .int 1]) (st1 := [.int m, .int 1]) (h1 := (124, I, J, R)) rfl ?_
  refine ev_br (b1 := false) rfl rfl (xcd_nge (x := 1) (y := m) (by rw [show ((1 : Int32)).toInt = 1 from by decide]; first | exact b1 | omega)) ?_
  refine ev_go 11 (pc1 := 8) (lv1 := [.ref 86, .int p, .int m, .int 2, .int 12, .int 12, .int 0, .int 1]) (st1 := []) (h1 := (124, I, J, R)) rfl ?_
  exact hk
set_option maxRecDepth 20000 in
theorem kyD1_1 {L : Nat} {xs : Nat → Int32} {d : Nat} {I : Nat → Nat → Int32} {J : Nat → Nat → Int64} {R : Nat → Nat → Nat} {p m x : Int32} (hG : aGd R) (h4 : 4 ≤ d + 1) (b1 : 1 < m.toInt) (c1 : xEv L xs d 151 0 [.ref 86, .int (p + 1)] [] (124, I, J, R) (some (.int x)) (124, I, J, R)) (b2 : 101 = x.toInt) {v : Option Value} {h' : xH} (hk : xEv L xs (d + 1) 153 52 [.ref 86, .int p, .int m, .int 1, .int 7, .int 11, .int 1, .int 2] [] (124, I, J, R) v h') : xEv L xs (d + 1) 153 52 [.ref 86, .int p, .int m, .int 1, .int 7, .int 11, .int 1, .int 1] [] (124, I, J, R) v h' := by
  refine ev_go 2 (pc1 := 55) (lv1 := [.ref 86, .int p, .int m, .int 1, .int 7, .int 11, .int 1, .int 1]) (st1 := [.int m, .int 1]) (h1 := (124, I, J, R)) rfl ?_
  refine ev_br (b1 := false) rfl rfl (xcd_nge (x := 1) (y := m) (by rw [show ((1 : Int32)).toInt = 1 from by decide]; first | exact b1 | omega)) ?_
  refine ev_go 6 (pc1 := 70) (lv1 := [.ref 86, .int p, .int m, .int 1, .int 7, .int 11, .int 1, .int 1]) (st1 := [.int 8, .retAddr 8]) (h1 := (124, I, J, R)) rfl ?_
  refine ev_903 (k := 6) h4 rfl rfl (by decide) (by decide) (by decide) (by decide) (x := 101) rfl ?_
  refine ev_go 4 (pc1 := 78) (lv1 := [.ref 86, .int p, .int m, .int 1, .int 7, .int 11, .int 1, .int 1]) (st1 := [.int (p + 1), .ref 86, .int 101]) (h1 := (124, I, J, R)) rfl ?_
  refine ev_call (v1 := (some (.int x))) (h1 := (124, I, J, R)) rfl rfl c1 ?_
  refine ev_br (b1 := false) rfl rfl (xcd_nne (x := 101) (y := x) (by rw [show ((101 : Int32)).toInt = 101 from by decide]; first | exact b2 | omega)) ?_
  refine ev_go 5 (pc1 := 52) (lv1 := [.ref 86, .int p, .int m, .int 1, .int 7, .int 11, .int 1, .int 2]) (st1 := []) (h1 := (124, I, J, R)) rfl ?_
  exact hk
set_option maxRecDepth 20000 in
theorem kyE1_1 {L : Nat} {xs : Nat → Int32} {d : Nat} {I : Nat → Nat → Int32} {J : Nat → Nat → Int64} {R : Nat → Nat → Nat} {p m x : Int32} (hG : aGd R) (h4 : 4 ≤ d + 1) (b1 : 1 < m.toInt) (c1 : xEv L xs d 151 0 [.ref 86, .int (p + 1)] [] (124, I, J, R) (some (.int x)) (124, I, J, R)) (b2 : 101 ≠ x.toInt) {v : Option Value} {h' : xH} (hk : xEv L xs (d + 1) 153 52 [.ref 86, .int p, .int m, .int 1, .int 7, .int 11, .int 0, .int 2] [] (124, I, J, R) v h') : xEv L xs (d + 1) 153 52 [.ref 86, .int p, .int m, .int 1, .int 7, .int 11, .int 1, .int 1] [] (124, I, J, R) v h' := by
  refine ev_go 2 (pc1 := 55) (lv1 := [.ref 86, .int p, .int m, .int 1, .int 7, .int 11, .int 1, .int 1]) (st1 := [.int m, .int 1]) (h1 := (124, I, J, R)) rfl ?_
  refine ev_br (b1 := false) rfl rfl (xcd_nge (x := 1) (y := m) (by rw [show ((1 : Int32)).toInt = 1 from by decide]; first | exact b1 | omega)) ?_
  refine ev_go 6 (pc1 := 70) (lv1 := [.ref 86, .int p, .int m, .int 1, .int 7, .int 11, .int 1, .int 1]) (st1 := [.int 8, .retAddr 8]) (h1 := (124, I, J, R)) rfl ?_
  refine ev_903 (k := 6) h4 rfl rfl (by decide) (by decide) (by decide) (by decide) (x := 101) rfl ?_
  refine ev_go 4 (pc1 := 78) (lv1 := [.ref 86, .int p, .int m, .int 1, .int 7, .int 11, .int 1, .int 1]) (st1 := [.int (p + 1), .ref 86, .int 101]) (h1 := (124, I, J, R)) rfl ?_
  refine ev_call (v1 := (some (.int x))) (h1 := (124, I, J, R)) rfl rfl c1 ?_
  refine ev_br (b1 := true) rfl rfl (xcd_ne (x := 101) (y := x) (by rw [show ((101 : Int32)).toInt = 101 from by decide]; first | exact b2 | omega)) ?_
  refine ev_go 4 (pc1 := 52) (lv1 := [.ref 86, .int p, .int m, .int 1, .int 7, .int 11, .int 0, .int 2]) (st1 := []) (h1 := (124, I, J, R)) rfl ?_
  exact hk
set_option maxRecDepth 20000 in
theorem kyG1_2 {L : Nat} {xs : Nat → Int32} {d : Nat} {I : Nat → Nat → Int32} {J : Nat → Nat → Int64} {R : Nat → Nat → Nat} {p m : Int32} (hG : aGd R) (h4 : 4 ≤ d) (b1 : 2 < m.toInt) {v : Option Value} {h' : xH} (hk : xEv L xs d 153 8 [.ref 86, .int p, .int m, .int 2, .int 12, .int 12, .int 0, .int 2] [] (124, I, J, R) v h') : xEv L xs d 153 52 [.ref 86, .int p, .int m, .int 1, .int 7, .int 11, .int 0, .int 2] [] (124, I, J, R) v h' := by
  refine ev_go 2 (pc1 := 55) (lv1 := [.ref 86, .int p, .int m, .int 1, .int 7, .int 11, .int 0, .int 2]) (st1 := [.int m, .int 2]) (h1 := (124, I, J, R)) rfl ?_
  refine ev_br (b1 := false) rfl rfl (xcd_nge (x := 2) (y := m) (by rw [show ((2 : Int32)).toInt = 2 from by decide]; first | exact b1 | omega)) ?_
  refine ev_go 11 (pc1 := 8) (lv1 := [.ref 86, .int p, .int m, .int 2, .int 12, .int 12, .int 0, .int 2]) (st1 := []) (h1 := (124, I, J, R)) rfl ?_
  exact hk
set_option maxRecDepth 20000 in
theorem kyD1_2 {L : Nat} {xs : Nat → Int32} {d : Nat} {I : Nat → Nat → Int32} {J : Nat → Nat → Int64} {R : Nat → Nat → Nat} {p m x : Int32} (hG : aGd R) (h4 : 4 ≤ d + 1) (b1 : 2 < m.toInt) (c1 : xEv L xs d 151 0 [.ref 86, .int (p + 2)] [] (124, I, J, R) (some (.int x)) (124, I, J, R)) (b2 : 101 = x.toInt) {v : Option Value} {h' : xH} (hk : xEv L xs (d + 1) 153 52 [.ref 86, .int p, .int m, .int 1, .int 7, .int 11, .int 1, .int 3] [] (124, I, J, R) v h') : xEv L xs (d + 1) 153 52 [.ref 86, .int p, .int m, .int 1, .int 7, .int 11, .int 1, .int 2] [] (124, I, J, R) v h' := by
  refine ev_go 2 (pc1 := 55) (lv1 := [.ref 86, .int p, .int m, .int 1, .int 7, .int 11, .int 1, .int 2]) (st1 := [.int m, .int 2]) (h1 := (124, I, J, R)) rfl ?_
  refine ev_br (b1 := false) rfl rfl (xcd_nge (x := 2) (y := m) (by rw [show ((2 : Int32)).toInt = 2 from by decide]; first | exact b1 | omega)) ?_
  refine ev_go 6 (pc1 := 70) (lv1 := [.ref 86, .int p, .int m, .int 1, .int 7, .int 11, .int 1, .int 2]) (st1 := [.int 9, .retAddr 8]) (h1 := (124, I, J, R)) rfl ?_
  refine ev_903 (k := 6) h4 rfl rfl (by decide) (by decide) (by decide) (by decide) (x := 101) rfl ?_
  refine ev_go 4 (pc1 := 78) (lv1 := [.ref 86, .int p, .int m, .int 1, .int 7, .int 11, .int 1, .int 2]) (st1 := [.int (p + 2), .ref 86, .int 101]) (h1 := (124, I, J, R)) rfl ?_
  refine ev_call (v1 := (some (.int x))) (h1 := (124, I, J, R)) rfl rfl c1 ?_
  refine ev_br (b1 := false) rfl rfl (xcd_nne (x := 101) (y := x) (by rw [show ((101 : Int32)).toInt = 101 from by decide]; first | exact b2 | omega)) ?_
  refine ev_go 5 (pc1 := 52) (lv1 := [.ref 86, .int p, .int m, .int 1, .int 7, .int 11, .int 1, .int 3]) (st1 := []) (h1 := (124, I, J, R)) rfl ?_
  exact hk
set_option maxRecDepth 20000 in
theorem kyE1_2 {L : Nat} {xs : Nat → Int32} {d : Nat} {I : Nat → Nat → Int32} {J : Nat → Nat → Int64} {R : Nat → Nat → Nat} {p m x : Int32} (hG : aGd R) (h4 : 4 ≤ d + 1) (b1 : 2 < m.toInt) (c1 : xEv L xs d 151 0 [.ref 86, .int (p + 2)] [] (124, I, J, R) (some (.int x)) (124, I, J, R)) (b2 : 101 ≠ x.toInt) {v : Option Value} {h' : xH} (hk : xEv L xs (d + 1) 153 52 [.ref 86, .int p, .int m, .int 1, .int 7, .int 11, .int 0, .int 3] [] (124, I, J, R) v h') : xEv L xs (d + 1) 153 52 [.ref 86, .int p, .int m, .int 1, .int 7, .int 11, .int 1, .int 2] [] (124, I, J, R) v h' := by
  refine ev_go 2 (pc1 := 55) (lv1 := [.ref 86, .int p, .int m, .int 1, .int 7, .int 11, .int 1, .int 2]) (st1 := [.int m, .int 2]) (h1 := (124, I, J, R)) rfl ?_
  refine ev_br (b1 := false) rfl rfl (xcd_nge (x := 2) (y := m) (by rw [show ((2 : Int32)).toInt = 2 from by decide]; first | exact b1 | omega)) ?_
  refine ev_go 6 (pc1 := 70) (lv1 := [.ref 86, .int p, .int m, .int 1, .int 7, .int 11, .int 1, .int 2]) (st1 := [.int 9, .retAddr 8]) (h1 := (124, I, J, R)) rfl ?_
  refine ev_903 (k := 6) h4 rfl rfl (by decide) (by decide) (by decide) (by decide) (x := 101) rfl ?_
  refine ev_go 4 (pc1 := 78) (lv1 := [.ref 86, .int p, .int m, .int 1, .int 7, .int 11, .int 1, .int 2]) (st1 := [.int (p + 2), .ref 86, .int 101]) (h1 := (124, I, J, R)) rfl ?_
  refine ev_call (v1 := (some (.int x))) (h1 := (124, I, J, R)) rfl rfl c1 ?_
  refine ev_br (b1 := true) rfl rfl (xcd_ne (x := 101) (y := x) (by rw [show ((101 : Int32)).toInt = 101 from by decide]; first | exact b2 | omega)) ?_
  refine ev_go 4 (pc1 := 52) (lv1 := [.ref 86, .int p, .int m, .int 1, .int 7, .int 11, .int 0, .int 3]) (st1 := []) (h1 := (124, I, J, R)) rfl ?_
  exact hk
set_option maxRecDepth 20000 in
theorem kyG1_3 {L : Nat} {xs : Nat → Int32} {d : Nat} {I : Nat → Nat → Int32} {J : Nat → Nat → Int64} {R : Nat → Nat → Nat} {p m : Int32} (hG : aGd R) (h4 : 4 ≤ d) (b1 : 3 < m.toInt) {v : Option Value} {h' : xH} (hk : xEv L xs d 153 8 [.ref 86, .int p, .int m, .int 2, .int 12, .int 12, .int 0, .int 3] [] (124, I, J, R) v h') : xEv L xs d 153 52 [.ref 86, .int p, .int m, .int 1, .int 7, .int 11, .int 0, .int 3] [] (124, I, J, R) v h' := by
  refine ev_go 2 (pc1 := 55) (lv1 := [.ref 86, .int p, .int m, .int 1, .int 7, .int 11, .int 0, .int 3]) (st1 := [.int m, .int 3]) (h1 := (124, I, J, R)) rfl ?_
  refine ev_br (b1 := false) rfl rfl (xcd_nge (x := 3) (y := m) (by rw [show ((3 : Int32)).toInt = 3 from by decide]; first | exact b1 | omega)) ?_
  refine ev_go 11 (pc1 := 8) (lv1 := [.ref 86, .int p, .int m, .int 2, .int 12, .int 12, .int 0, .int 3]) (st1 := []) (h1 := (124, I, J, R)) rfl ?_
  exact hk
set_option maxRecDepth 20000 in
theorem kyD1_3 {L : Nat} {xs : Nat → Int32} {d : Nat} {I : Nat → Nat → Int32} {J : Nat → Nat → Int64} {R : Nat → Nat → Nat} {p m x : Int32} (hG : aGd R) (h4 : 4 ≤ d + 1) (b1 : 3 < m.toInt) (c1 : xEv L xs d 151 0 [.ref 86, .int (p + 3)] [] (124, I, J, R) (some (.int x)) (124, I, J, R)) (b2 : 116 = x.toInt) {v : Option Value} {h' : xH} (hk : xEv L xs (d + 1) 153 52 [.ref 86, .int p, .int m, .int 1, .int 7, .int 11, .int 1, .int 4] [] (124, I, J, R) v h') : xEv L xs (d + 1) 153 52 [.ref 86, .int p, .int m, .int 1, .int 7, .int 11, .int 1, .int 3] [] (124, I, J, R) v h' := by
  refine ev_go 2 (pc1 := 55) (lv1 := [.ref 86, .int p, .int m, .int 1, .int 7, .int 11, .int 1, .int 3]) (st1 := [.int m, .int 3]) (h1 := (124, I, J, R)) rfl ?_
  refine ev_br (b1 := false) rfl rfl (xcd_nge (x := 3) (y := m) (by rw [show ((3 : Int32)).toInt = 3 from by decide]; first | exact b1 | omega)) ?_
  refine ev_go 6 (pc1 := 70) (lv1 := [.ref 86, .int p, .int m, .int 1, .int 7, .int 11, .int 1, .int 3]) (st1 := [.int 10, .retAddr 8]) (h1 := (124, I, J, R)) rfl ?_
  refine ev_903 (k := 6) h4 rfl rfl (by decide) (by decide) (by decide) (by decide) (x := 116) rfl ?_
  refine ev_go 4 (pc1 := 78) (lv1 := [.ref 86, .int p, .int m, .int 1, .int 7, .int 11, .int 1, .int 3]) (st1 := [.int (p + 3), .ref 86, .int 116]) (h1 := (124, I, J, R)) rfl ?_
  refine ev_call (v1 := (some (.int x))) (h1 := (124, I, J, R)) rfl rfl c1 ?_
  refine ev_br (b1 := false) rfl rfl (xcd_nne (x := 116) (y := x) (by rw [show ((116 : Int32)).toInt = 116 from by decide]; first | exact b2 | omega)) ?_
  refine ev_go 5 (pc1 := 52) (lv1 := [.ref 86, .int p, .int m, .int 1, .int 7, .int 11, .int 1, .int 4]) (st1 := []) (h1 := (124, I, J, R)) rfl ?_
  exact hk
set_option maxRecDepth 20000 in
theorem kyE1_3 {L : Nat} {xs : Nat → Int32} {d : Nat} {I : Nat → Nat → Int32} {J : Nat → Nat → Int64} {R : Nat → Nat → Nat} {p m x : Int32} (hG : aGd R) (h4 : 4 ≤ d + 1) (b1 : 3 < m.toInt) (c1 : xEv L xs d 151 0 [.ref 86, .int (p + 3)] [] (124, I, J, R) (some (.int x)) (124, I, J, R)) (b2 : 116 ≠ x.toInt) {v : Option Value} {h' : xH} (hk : xEv L xs (d + 1) 153 52 [.ref 86, .int p, .int m, .int 1, .int 7, .int 11, .int 0, .int 4] [] (124, I, J, R) v h') : xEv L xs (d + 1) 153 52 [.ref 86, .int p, .int m, .int 1, .int 7, .int 11, .int 1, .int 3] [] (124, I, J, R) v h' := by
  refine ev_go 2 (pc1 := 55) (lv1 := [.ref 86, .int p, .int m, .int 1, .int 7, .int 11, .int 1, .int 3]) (st1 := [.int m, .int 3]) (h1 := (124, I, J, R)) rfl ?_
  refine ev_br (b1 := false) rfl rfl (xcd_nge (x := 3) (y := m) (by rw [show ((3 : Int32)).toInt = 3 from by decide]; first | exact b1 | omega)) ?_
  refine ev_go 6 (pc1 := 70) (lv1 := [.ref 86, .int p, .int m, .int 1, .int 7, .int 11, .int 1, .int 3]) (st1 := [.int 10, .retAddr 8]) (h1 := (124, I, J, R)) rfl ?_
  refine ev_903 (k := 6) h4 rfl rfl (by decide) (by decide) (by decide) (by decide) (x := 116) rfl ?_
  refine ev_go 4 (pc1 := 78) (lv1 := [.ref 86, .int p, .int m, .int 1, .int 7, .int 11, .int 1, .int 3]) (st1 := [.int (p + 3), .ref 86, .int 116]) (h1 := (124, I, J, R)) rfl ?_
  refine ev_call (v1 := (some (.int x))) (h1 := (124, I, J, R)) rfl rfl c1 ?_
  refine ev_br (b1 := true) rfl rfl (xcd_ne (x := 116) (y := x) (by rw [show ((116 : Int32)).toInt = 116 from by decide]; first | exact b2 | omega)) ?_
  refine ev_go 4 (pc1 := 52) (lv1 := [.ref 86, .int p, .int m, .int 1, .int 7, .int 11, .int 0, .int 4]) (st1 := []) (h1 := (124, I, J, R)) rfl ?_
  exact hk
set_option maxRecDepth 20000 in
theorem kyG1_4 {L : Nat} {xs : Nat → Int32} {d : Nat} {I : Nat → Nat → Int32} {J : Nat → Nat → Int64} {R : Nat → Nat → Nat} {p m : Int32} (hG : aGd R) (h4 : 4 ≤ d) (b1 : 4 ≥ m.toInt) {v : Option Value} {h' : xH} (hk : xEv L xs d 153 8 [.ref 86, .int p, .int m, .int 2, .int 12, .int 12, .int 0, .int 4] [] (124, I, J, R) v h') : xEv L xs d 153 52 [.ref 86, .int p, .int m, .int 1, .int 7, .int 11, .int 0, .int 4] [] (124, I, J, R) v h' := by
  refine ev_go 2 (pc1 := 55) (lv1 := [.ref 86, .int p, .int m, .int 1, .int 7, .int 11, .int 0, .int 4]) (st1 := [.int m, .int 4]) (h1 := (124, I, J, R)) rfl ?_
  refine ev_br (b1 := true) rfl rfl (xcd_ge (x := 4) (y := m) (by rw [show ((4 : Int32)).toInt = 4 from by decide]; first | exact b1 | omega)) ?_
  refine ev_go 9 (pc1 := 8) (lv1 := [.ref 86, .int p, .int m, .int 2, .int 12, .int 12, .int 0, .int 4]) (st1 := []) (h1 := (124, I, J, R)) rfl ?_
  exact hk
set_option maxRecDepth 20000 in
theorem kyF1 {L : Nat} {xs : Nat → Int32} {d : Nat} {I : Nat → Nat → Int32} {J : Nat → Nat → Int64} {R : Nat → Nat → Nat} {p m : Int32} (hG : aGd R) (h4 : 4 ≤ d) (b1 : 4 ≥ m.toInt) : xEv L xs d 153 52 [.ref 86, .int p, .int m, .int 1, .int 7, .int 11, .int 1, .int 4] [] (124, I, J, R) (some (.int 1)) (124, I, J, R) := by
  refine ev_go 2 (pc1 := 55) (lv1 := [.ref 86, .int p, .int m, .int 1, .int 7, .int 11, .int 1, .int 4]) (st1 := [.int m, .int 4]) (h1 := (124, I, J, R)) rfl ?_
  refine ev_br (b1 := true) rfl rfl (xcd_ge (x := 4) (y := m) (by rw [show ((4 : Int32)).toInt = 4 from by decide]; first | exact b1 | omega)) ?_
  refine ev_go 3 (pc1 := 103) (lv1 := [.ref 86, .int p, .int m, .int 1, .int 7, .int 11, .int 1, .int 4]) (st1 := [.int 1]) (h1 := (124, I, J, R)) rfl ?_
  exact ev_ret rfl rfl
set_option maxRecDepth 20000 in
theorem kyA2 {L : Nat} {xs : Nat → Int32} {d : Nat} {I : Nat → Nat → Int32} {J : Nat → Nat → Int64} {R : Nat → Nat → Nat} {p m : Int32} {w6 w7 : Value} (hG : aGd R) (h4 : 4 ≤ d)  {v : Option Value} {h' : xH} (hk : xEv L xs d 153 33 [.ref 86, .int p, .int m, .int 2, .int 12, .int 16, w6, w7] [] (124, I, J, R) v h') : xEv L xs d 153 8 [.ref 86, .int p, .int m, .int 2, .int 12, .int 12, w6, w7] [] (124, I, J, R) v h' := by
  refine ev_go 2 (pc1 := 12) (lv1 := [.ref 86, .int p, .int m, .int 2, .int 12, .int 12, w6, w7]) (st1 := [.retAddr 8, .int 12]) (h1 := (124, I, J, R)) rfl ?_
  refine ev_902 (k := 6) h4 rfl rfl (by decide) (by decide) (x := 33) rfl ?_
  refine ev_go 3 (pc1 := 22) (lv1 := [.ref 86, .int p, .int m, .int 2, .int 12, .int 12, w6, w7]) (st1 := [.int 12, .retAddr 8]) (h1 := (124, I, J, R)) rfl ?_
  refine ev_903 (k := 6) h4 rfl rfl (by decide) (by decide) (by decide) (by decide) (x := 110) rfl ?_
  refine ev_go 7 (pc1 := 12) (lv1 := [.ref 86, .int p, .int m, .int 2, .int 12, .int 13, w6, w7]) (st1 := [.retAddr 8, .int 13]) (h1 := (124, I, J, R)) rfl ?_
  refine ev_902 (k := 6) h4 rfl rfl (by decide) (by decide) (x := 33) rfl ?_
  refine ev_go 3 (pc1 := 22) (lv1 := [.ref 86, .int p, .int m, .int 2, .int 12, .int 13, w6, w7]) (st1 := [.int 13, .retAddr 8]) (h1 := (124, I, J, R)) rfl ?_
  refine ev_903 (k := 6) h4 rfl rfl (by decide) (by decide) (by decide) (by decide) (x := 101) rfl ?_
  refine ev_go 7 (pc1 := 12) (lv1 := [.ref 86, .int p, .int m, .int 2, .int 12, .int 14, w6, w7]) (st1 := [.retAddr 8, .int 14]) (h1 := (124, I, J, R)) rfl ?_
  refine ev_902 (k := 6) h4 rfl rfl (by decide) (by decide) (x := 33) rfl ?_
  refine ev_go 3 (pc1 := 22) (lv1 := [.ref 86, .int p, .int m, .int 2, .int 12, .int 14, w6, w7]) (st1 := [.int 14, .retAddr 8]) (h1 := (124, I, J, R)) rfl ?_
  refine ev_903 (k := 6) h4 rfl rfl (by decide) (by decide) (by decide) (by decide) (x := 119) rfl ?_
  refine ev_go 7 (pc1 := 12) (lv1 := [.ref 86, .int p, .int m, .int 2, .int 12, .int 15, w6, w7]) (st1 := [.retAddr 8, .int 15]) (h1 := (124, I, J, R)) rfl ?_
  refine ev_902 (k := 6) h4 rfl rfl (by decide) (by decide) (x := 33) rfl ?_
  refine ev_go 3 (pc1 := 22) (lv1 := [.ref 86, .int p, .int m, .int 2, .int 12, .int 15, w6, w7]) (st1 := [.int 15, .retAddr 8]) (h1 := (124, I, J, R)) rfl ?_
  refine ev_903 (k := 6) h4 rfl rfl (by decide) (by decide) (by decide) (by decide) (x := 115) rfl ?_
  refine ev_go 7 (pc1 := 12) (lv1 := [.ref 86, .int p, .int m, .int 2, .int 12, .int 16, w6, w7]) (st1 := [.retAddr 8, .int 16]) (h1 := (124, I, J, R)) rfl ?_
  refine ev_902 (k := 6) h4 rfl rfl (by decide) (by decide) (x := 33) rfl ?_
  refine ev_go 3 (pc1 := 22) (lv1 := [.ref 86, .int p, .int m, .int 2, .int 12, .int 16, w6, w7]) (st1 := [.int 16, .retAddr 8]) (h1 := (124, I, J, R)) rfl ?_
  refine ev_903 (k := 6) h4 rfl rfl (by decide) (by decide) (by decide) (by decide) (x := 32) rfl ?_
  refine ev_go 2 (pc1 := 33) (lv1 := [.ref 86, .int p, .int m, .int 2, .int 12, .int 16, w6, w7]) (st1 := []) (h1 := (124, I, J, R)) rfl ?_
  exact hk
set_option maxRecDepth 20000 in
theorem kyB2 {L : Nat} {xs : Nat → Int32} {d : Nat} {I : Nat → Nat → Int32} {J : Nat → Nat → Int64} {R : Nat → Nat → Nat} {p m : Int32} {w6 w7 : Value} (hG : aGd R) (h4 : 4 ≤ d) (b1 : 4 ≠ m.toInt) (b2 : 0 < m.toInt) {v : Option Value} {h' : xH} (hk : xEv L xs d 153 8 [.ref 86, .int p, .int m, .int 3, .int 17, .int 17, .int 0, .int 0] [] (124, I, J, R) v h') : xEv L xs d 153 33 [.ref 86, .int p, .int m, .int 2, .int 12, .int 16, w6, w7] [] (124, I, J, R) v h' := by
  refine ev_go 4 (pc1 := 39) (lv1 := [.ref 86, .int p, .int m, .int 2, .int 12, .int 16, w6, w7]) (st1 := [.int m, .int 4]) (h1 := (124, I, J, R)) rfl ?_
  refine ev_br (b1 := true) rfl rfl (xcd_ne (x := 4) (y := m) (by rw [show ((4 : Int32)).toInt = 4 from by decide]; first | exact b1 | omega)) ?_
  refine ev_go 6 (pc1 := 55) (lv1 := [.ref 86, .int p, .int m, .int 2, .int 12, .int 16, .int 0, .int 0]) (st1 := [.int m, .int 0]) (h1 := (124, I, J, R)) rfl ?_
  refine ev_br (b1 := false) rfl rfl (xcd_nge (x := 0) (y := m) (by rw [show ((0 : Int32)).toInt = 0 from by decide]; first | exact b2 | omega)) ?_
  refine ev_go 11 (pc1 := 8) (lv1 := [.ref 86, .int p, .int m, .int 3, .int 17, .int 17, .int 0, .int 0]) (st1 := []) (h1 := (124, I, J, R)) rfl ?_
  exact hk
set_option maxRecDepth 20000 in
theorem kyC2 {L : Nat} {xs : Nat → Int32} {d : Nat} {I : Nat → Nat → Int32} {J : Nat → Nat → Int64} {R : Nat → Nat → Nat} {p m : Int32} {w6 w7 : Value} (hG : aGd R) (h4 : 4 ≤ d) (b1 : 4 = m.toInt) {v : Option Value} {h' : xH} (hk : xEv L xs d 153 52 [.ref 86, .int p, .int m, .int 2, .int 12, .int 16, .int 1, .int 0] [] (124, I, J, R) v h') : xEv L xs d 153 33 [.ref 86, .int p, .int m, .int 2, .int 12, .int 16, w6, w7] [] (124, I, J, R) v h' := by
  refine ev_go 4 (pc1 := 39) (lv1 := [.ref 86, .int p, .int m, .int 2, .int 12, .int 16, w6, w7]) (st1 := [.int m, .int 4]) (h1 := (124, I, J, R)) rfl ?_
  refine ev_br (b1 := false) rfl rfl (xcd_nne (x := 4) (y := m) (by rw [show ((4 : Int32)).toInt = 4 from by decide]; first | exact b1 | omega)) ?_
  refine ev_go 5 (pc1 := 52) (lv1 := [.ref 86, .int p, .int m, .int 2, .int 12, .int 16, .int 1, .int 0]) (st1 := []) (h1 := (124, I, J, R)) rfl ?_
  exact hk
set_option maxRecDepth 20000 in
theorem kyD2_0 {L : Nat} {xs : Nat → Int32} {d : Nat} {I : Nat → Nat → Int32} {J : Nat → Nat → Int64} {R : Nat → Nat → Nat} {p m x : Int32} (hG : aGd R) (h4 : 4 ≤ d + 1) (b1 : 0 < m.toInt) (c1 : xEv L xs d 151 0 [.ref 86, .int (p + 0)] [] (124, I, J, R) (some (.int x)) (124, I, J, R)) (b2 : 110 = x.toInt) {v : Option Value} {h' : xH} (hk : xEv L xs (d + 1) 153 52 [.ref 86, .int p, .int m, .int 2, .int 12, .int 16, .int 1, .int 1] [] (124, I, J, R) v h') : xEv L xs (d + 1) 153 52 [.ref 86, .int p, .int m, .int 2, .int 12, .int 16, .int 1, .int 0] [] (124, I, J, R) v h' := by
  refine ev_go 2 (pc1 := 55) (lv1 := [.ref 86, .int p, .int m, .int 2, .int 12, .int 16, .int 1, .int 0]) (st1 := [.int m, .int 0]) (h1 := (124, I, J, R)) rfl ?_
  refine ev_br (b1 := false) rfl rfl (xcd_nge (x := 0) (y := m) (by rw [show ((0 : Int32)).toInt = 0 from by decide]; first | exact b1 | omega)) ?_
  refine ev_go 6 (pc1 := 70) (lv1 := [.ref 86, .int p, .int m, .int 2, .int 12, .int 16, .int 1, .int 0]) (st1 := [.int 12, .retAddr 8]) (h1 := (124, I, J, R)) rfl ?_
  refine ev_903 (k := 6) h4 rfl rfl (by decide) (by decide) (by decide) (by decide) (x := 110) rfl ?_
  refine ev_go 4 (pc1 := 78) (lv1 := [.ref 86, .int p, .int m, .int 2, .int 12, .int 16, .int 1, .int 0]) (st1 := [.int (p + 0), .ref 86, .int 110]) (h1 := (124, I, J, R)) rfl ?_
  refine ev_call (v1 := (some (.int x))) (h1 := (124, I, J, R)) rfl rfl c1 ?_
  refine ev_br (b1 := false) rfl rfl (xcd_nne (x := 110) (y := x) (by rw [show ((110 : Int32)).toInt = 110 from by decide]; first | exact b2 | omega)) ?_
  refine ev_go 5 (pc1 := 52) (lv1 := [.ref 86, .int p, .int m, .int 2, .int 12, .int 16, .int 1, .int 1]) (st1 := []) (h1 := (124, I, J, R)) rfl ?_
  exact hk
set_option maxRecDepth 20000 in
theorem kyE2_0 {L : Nat} {xs : Nat → Int32} {d : Nat} {I : Nat → Nat → Int32} {J : Nat → Nat → Int64} {R : Nat → Nat → Nat} {p m x : Int32} (hG : aGd R) (h4 : 4 ≤ d + 1) (b1 : 0 < m.toInt) (c1 : xEv L xs d 151 0 [.ref 86, .int (p + 0)] [] (124, I, J, R) (some (.int x)) (124, I, J, R)) (b2 : 110 ≠ x.toInt) {v : Option Value} {h' : xH} (hk : xEv L xs (d + 1) 153 52 [.ref 86, .int p, .int m, .int 2, .int 12, .int 16, .int 0, .int 1] [] (124, I, J, R) v h') : xEv L xs (d + 1) 153 52 [.ref 86, .int p, .int m, .int 2, .int 12, .int 16, .int 1, .int 0] [] (124, I, J, R) v h' := by
  refine ev_go 2 (pc1 := 55) (lv1 := [.ref 86, .int p, .int m, .int 2, .int 12, .int 16, .int 1, .int 0]) (st1 := [.int m, .int 0]) (h1 := (124, I, J, R)) rfl ?_
  refine ev_br (b1 := false) rfl rfl (xcd_nge (x := 0) (y := m) (by rw [show ((0 : Int32)).toInt = 0 from by decide]; first | exact b1 | omega)) ?_
  refine ev_go 6 (pc1 := 70) (lv1 := [.ref 86, .int p, .int m, .int 2, .int 12, .int 16, .int 1, .int 0]) (st1 := [.int 12, .retAddr 8]) (h1 := (124, I, J, R)) rfl ?_
  refine ev_903 (k := 6) h4 rfl rfl (by decide) (by decide) (by decide) (by decide) (x := 110) rfl ?_
  refine ev_go 4 (pc1 := 78) (lv1 := [.ref 86, .int p, .int m, .int 2, .int 12, .int 16, .int 1, .int 0]) (st1 := [.int (p + 0), .ref 86, .int 110]) (h1 := (124, I, J, R)) rfl ?_
  refine ev_call (v1 := (some (.int x))) (h1 := (124, I, J, R)) rfl rfl c1 ?_
  refine ev_br (b1 := true) rfl rfl (xcd_ne (x := 110) (y := x) (by rw [show ((110 : Int32)).toInt = 110 from by decide]; first | exact b2 | omega)) ?_
  refine ev_go 4 (pc1 := 52) (lv1 := [.ref 86, .int p, .int m, .int 2, .int 12, .int 16, .int 0, .int 1]) (st1 := []) (h1 := (124, I, J, R)) rfl ?_
  exact hk
set_option maxRecDepth 20000 in
theorem kyG2_1 {L : Nat} {xs : Nat → Int32} {d : Nat} {I : Nat → Nat → Int32} {J : Nat → Nat → Int64} {R : Nat → Nat → Nat} {p m : Int32} (hG : aGd R) (h4 : 4 ≤ d) (b1 : 1 < m.toInt) {v : Option Value} {h' : xH} (hk : xEv L xs d 153 8 [.ref 86, .int p, .int m, .int 3, .int 17, .int 17, .int 0, .int 1] [] (124, I, J, R) v h') : xEv L xs d 153 52 [.ref 86, .int p, .int m, .int 2, .int 12, .int 16, .int 0, .int 1] [] (124, I, J, R) v h' := by
  refine ev_go 2 (pc1 := 55) (lv1 := [.ref 86, .int p, .int m, .int 2, .int 12, .int 16, .int 0, .int 1]) (st1 := [.int m, .int 1]) (h1 := (124, I, J, R)) rfl ?_
  refine ev_br (b1 := false) rfl rfl (xcd_nge (x := 1) (y := m) (by rw [show ((1 : Int32)).toInt = 1 from by decide]; first | exact b1 | omega)) ?_
  refine ev_go 11 (pc1 := 8) (lv1 := [.ref 86, .int p, .int m, .int 3, .int 17, .int 17, .int 0, .int 1]) (st1 := []) (h1 := (124, I, J, R)) rfl ?_
  exact hk
set_option maxRecDepth 20000 in
theorem kyD2_1 {L : Nat} {xs : Nat → Int32} {d : Nat} {I : Nat → Nat → Int32} {J : Nat → Nat → Int64} {R : Nat → Nat → Nat} {p m x : Int32} (hG : aGd R) (h4 : 4 ≤ d + 1) (b1 : 1 < m.toInt) (c1 : xEv L xs d 151 0 [.ref 86, .int (p + 1)] [] (124, I, J, R) (some (.int x)) (124, I, J, R)) (b2 : 101 = x.toInt) {v : Option Value} {h' : xH} (hk : xEv L xs (d + 1) 153 52 [.ref 86, .int p, .int m, .int 2, .int 12, .int 16, .int 1, .int 2] [] (124, I, J, R) v h') : xEv L xs (d + 1) 153 52 [.ref 86, .int p, .int m, .int 2, .int 12, .int 16, .int 1, .int 1] [] (124, I, J, R) v h' := by
  refine ev_go 2 (pc1 := 55) (lv1 := [.ref 86, .int p, .int m, .int 2, .int 12, .int 16, .int 1, .int 1]) (st1 := [.int m, .int 1]) (h1 := (124, I, J, R)) rfl ?_
  refine ev_br (b1 := false) rfl rfl (xcd_nge (x := 1) (y := m) (by rw [show ((1 : Int32)).toInt = 1 from by decide]; first | exact b1 | omega)) ?_
  refine ev_go 6 (pc1 := 70) (lv1 := [.ref 86, .int p, .int m, .int 2, .int 12, .int 16, .int 1, .int 1]) (st1 := [.int 13, .retAddr 8]) (h1 := (124, I, J, R)) rfl ?_
  refine ev_903 (k := 6) h4 rfl rfl (by decide) (by decide) (by decide) (by decide) (x := 101) rfl ?_
  refine ev_go 4 (pc1 := 78) (lv1 := [.ref 86, .int p, .int m, .int 2, .int 12, .int 16, .int 1, .int 1]) (st1 := [.int (p + 1), .ref 86, .int 101]) (h1 := (124, I, J, R)) rfl ?_
  refine ev_call (v1 := (some (.int x))) (h1 := (124, I, J, R)) rfl rfl c1 ?_
  refine ev_br (b1 := false) rfl rfl (xcd_nne (x := 101) (y := x) (by rw [show ((101 : Int32)).toInt = 101 from by decide]; first | exact b2 | omega)) ?_
  refine ev_go 5 (pc1 := 52) (lv1 := [.ref 86, .int p, .int m, .int 2, .int 12, .int 16, .int 1, .int 2]) (st1 := []) (h1 := (124, I, J, R)) rfl ?_
  exact hk
set_option maxRecDepth 20000 in
theorem kyE2_1 {L : Nat} {xs : Nat → Int32} {d : Nat} {I : Nat → Nat → Int32} {J : Nat → Nat → Int64} {R : Nat → Nat → Nat} {p m x : Int32} (hG : aGd R) (h4 : 4 ≤ d + 1) (b1 : 1 < m.toInt) (c1 : xEv L xs d 151 0 [.ref 86, .int (p + 1)] [] (124, I, J, R) (some (.int x)) (124, I, J, R)) (b2 : 101 ≠ x.toInt) {v : Option Value} {h' : xH} (hk : xEv L xs (d + 1) 153 52 [.ref 86, .int p, .int m, .int 2, .int 12, .int 16, .int 0, .int 2] [] (124, I, J, R) v h') : xEv L xs (d + 1) 153 52 [.ref 86, .int p, .int m, .int 2, .int 12, .int 16, .int 1, .int 1] [] (124, I, J, R) v h' := by
  refine ev_go 2 (pc1 := 55) (lv1 := [.ref 86, .int p, .int m, .int 2, .int 12, .int 16, .int 1, .int 1]) (st1 := [.int m, .int 1]) (h1 := (124, I, J, R)) rfl ?_
  refine ev_br (b1 := false) rfl rfl (xcd_nge (x := 1) (y := m) (by rw [show ((1 : Int32)).toInt = 1 from by decide]; first | exact b1 | omega)) ?_
  refine ev_go 6 (pc1 := 70) (lv1 := [.ref 86, .int p, .int m, .int 2, .int 12, .int 16, .int 1, .int 1]) (st1 := [.int 13, .retAddr 8]) (h1 := (124, I, J, R)) rfl ?_
  refine ev_903 (k := 6) h4 rfl rfl (by decide) (by decide) (by decide) (by decide) (x := 101) rfl ?_
  refine ev_go 4 (pc1 := 78) (lv1 := [.ref 86, .int p, .int m, .int 2, .int 12, .int 16, .int 1, .int 1]) (st1 := [.int (p + 1), .ref 86, .int 101]) (h1 := (124, I, J, R)) rfl ?_
  refine ev_call (v1 := (some (.int x))) (h1 := (124, I, J, R)) rfl rfl c1 ?_
  refine ev_br (b1 := true) rfl rfl (xcd_ne (x := 101) (y := x) (by rw [show ((101 : Int32)).toInt = 101 from by decide]; first | exact b2 | omega)) ?_
  refine ev_go 4 (pc1 := 52) (lv1 := [.ref 86, .int p, .int m, .int 2, .int 12, .int 16, .int 0, .int 2]) (st1 := []) (h1 := (124, I, J, R)) rfl ?_
  exact hk
set_option maxRecDepth 20000 in
theorem kyG2_2 {L : Nat} {xs : Nat → Int32} {d : Nat} {I : Nat → Nat → Int32} {J : Nat → Nat → Int64} {R : Nat → Nat → Nat} {p m : Int32} (hG : aGd R) (h4 : 4 ≤ d) (b1 : 2 < m.toInt) {v : Option Value} {h' : xH} (hk : xEv L xs d 153 8 [.ref 86, .int p, .int m, .int 3, .int 17, .int 17, .int 0, .int 2] [] (124, I, J, R) v h') : xEv L xs d 153 52 [.ref 86, .int p, .int m, .int 2, .int 12, .int 16, .int 0, .int 2] [] (124, I, J, R) v h' := by
  refine ev_go 2 (pc1 := 55) (lv1 := [.ref 86, .int p, .int m, .int 2, .int 12, .int 16, .int 0, .int 2]) (st1 := [.int m, .int 2]) (h1 := (124, I, J, R)) rfl ?_
  refine ev_br (b1 := false) rfl rfl (xcd_nge (x := 2) (y := m) (by rw [show ((2 : Int32)).toInt = 2 from by decide]; first | exact b1 | omega)) ?_
  refine ev_go 11 (pc1 := 8) (lv1 := [.ref 86, .int p, .int m, .int 3, .int 17, .int 17, .int 0, .int 2]) (st1 := []) (h1 := (124, I, J, R)) rfl ?_
  exact hk
set_option maxRecDepth 20000 in
theorem kyD2_2 {L : Nat} {xs : Nat → Int32} {d : Nat} {I : Nat → Nat → Int32} {J : Nat → Nat → Int64} {R : Nat → Nat → Nat} {p m x : Int32} (hG : aGd R) (h4 : 4 ≤ d + 1) (b1 : 2 < m.toInt) (c1 : xEv L xs d 151 0 [.ref 86, .int (p + 2)] [] (124, I, J, R) (some (.int x)) (124, I, J, R)) (b2 : 119 = x.toInt) {v : Option Value} {h' : xH} (hk : xEv L xs (d + 1) 153 52 [.ref 86, .int p, .int m, .int 2, .int 12, .int 16, .int 1, .int 3] [] (124, I, J, R) v h') : xEv L xs (d + 1) 153 52 [.ref 86, .int p, .int m, .int 2, .int 12, .int 16, .int 1, .int 2] [] (124, I, J, R) v h' := by
  refine ev_go 2 (pc1 := 55) (lv1 := [.ref 86, .int p, .int m, .int 2, .int 12, .int 16, .int 1, .int 2]) (st1 := [.int m, .int 2]) (h1 := (124, I, J, R)) rfl ?_
  refine ev_br (b1 := false) rfl rfl (xcd_nge (x := 2) (y := m) (by rw [show ((2 : Int32)).toInt = 2 from by decide]; first | exact b1 | omega)) ?_
  refine ev_go 6 (pc1 := 70) (lv1 := [.ref 86, .int p, .int m, .int 2, .int 12, .int 16, .int 1, .int 2]) (st1 := [.int 14, .retAddr 8]) (h1 := (124, I, J, R)) rfl ?_
  refine ev_903 (k := 6) h4 rfl rfl (by decide) (by decide) (by decide) (by decide) (x := 119) rfl ?_
  refine ev_go 4 (pc1 := 78) (lv1 := [.ref 86, .int p, .int m, .int 2, .int 12, .int 16, .int 1, .int 2]) (st1 := [.int (p + 2), .ref 86, .int 119]) (h1 := (124, I, J, R)) rfl ?_
  refine ev_call (v1 := (some (.int x))) (h1 := (124, I, J, R)) rfl rfl c1 ?_
  refine ev_br (b1 := false) rfl rfl (xcd_nne (x := 119) (y := x) (by rw [show ((119 : Int32)).toInt = 119 from by decide]; first | exact b2 | omega)) ?_
  refine ev_go 5 (pc1 := 52) (lv1 := [.ref 86, .int p, .int m, .int 2, .int 12, .int 16, .int 1, .int 3]) (st1 := []) (h1 := (124, I, J, R)) rfl ?_
  exact hk
set_option maxRecDepth 20000 in
theorem kyE2_2 {L : Nat} {xs : Nat → Int32} {d : Nat} {I : Nat → Nat → Int32} {J : Nat → Nat → Int64} {R : Nat → Nat → Nat} {p m x : Int32} (hG : aGd R) (h4 : 4 ≤ d + 1) (b1 : 2 < m.toInt) (c1 : xEv L xs d 151 0 [.ref 86, .int (p + 2)] [] (124, I, J, R) (some (.int x)) (124, I, J, R)) (b2 : 119 ≠ x.toInt) {v : Option Value} {h' : xH} (hk : xEv L xs (d + 1) 153 52 [.ref 86, .int p, .int m, .int 2, .int 12, .int 16, .int 0, .int 3] [] (124, I, J, R) v h') : xEv L xs (d + 1) 153 52 [.ref 86, .int p, .int m, .int 2, .int 12, .int 16, .int 1, .int 2] [] (124, I, J, R) v h' := by
  refine ev_go 2 (pc1 := 55) (lv1 := [.ref 86, .int p, .int m, .int 2, .int 12, .int 16, .int 1, .int 2]) (st1 := [.int m, .int 2]) (h1 := (124, I, J, R)) rfl ?_
  refine ev_br (b1 := false) rfl rfl (xcd_nge (x := 2) (y := m) (by rw [show ((2 : Int32)).toInt = 2 from by decide]; first | exact b1 | omega)) ?_
  refine ev_go 6 (pc1 := 70) (lv1 := [.ref 86, .int p, .int m, .int 2, .int 12, .int 16, .int 1, .int 2]) (st1 := [.int 14, .retAddr 8]) (h1 := (124, I, J, R)) rfl ?_
  refine ev_903 (k := 6) h4 rfl rfl (by decide) (by decide) (by decide) (by decide) (x := 119) rfl ?_
  refine ev_go 4 (pc1 := 78) (lv1 := [.ref 86, .int p, .int m, .int 2, .int 12, .int 16, .int 1, .int 2]) (st1 := [.int (p + 2), .ref 86, .int 119]) (h1 := (124, I, J, R)) rfl ?_
  refine ev_call (v1 := (some (.int x))) (h1 := (124, I, J, R)) rfl rfl c1 ?_
  refine ev_br (b1 := true) rfl rfl (xcd_ne (x := 119) (y := x) (by rw [show ((119 : Int32)).toInt = 119 from by decide]; first | exact b2 | omega)) ?_
  refine ev_go 4 (pc1 := 52) (lv1 := [.ref 86, .int p, .int m, .int 2, .int 12, .int 16, .int 0, .int 3]) (st1 := []) (h1 := (124, I, J, R)) rfl ?_
  exact hk
set_option maxRecDepth 20000 in
theorem kyG2_3 {L : Nat} {xs : Nat → Int32} {d : Nat} {I : Nat → Nat → Int32} {J : Nat → Nat → Int64} {R : Nat → Nat → Nat} {p m : Int32} (hG : aGd R) (h4 : 4 ≤ d) (b1 : 3 < m.toInt) {v : Option Value} {h' : xH} (hk : xEv L xs d 153 8 [.ref 86, .int p, .int m, .int 3, .int 17, .int 17, .int 0, .int 3] [] (124, I, J, R) v h') : xEv L xs d 153 52 [.ref 86, .int p, .int m, .int 2, .int 12, .int 16, .int 0, .int 3] [] (124, I, J, R) v h' := by
  refine ev_go 2 (pc1 := 55) (lv1 := [.ref 86, .int p, .int m, .int 2, .int 12, .int 16, .int 0, .int 3]) (st1 := [.int m, .int 3]) (h1 := (124, I, J, R)) rfl ?_
  refine ev_br (b1 := false) rfl rfl (xcd_nge (x := 3) (y := m) (by rw [show ((3 : Int32)).toInt = 3 from by decide]; first | exact b1 | omega)) ?_
  refine ev_go 11 (pc1 := 8) (lv1 := [.ref 86, .int p, .int m, .int 3, .int 17, .int 17, .int 0, .int 3]) (st1 := []) (h1 := (124, I, J, R)) rfl ?_
  exact hk
set_option maxRecDepth 20000 in
theorem kyD2_3 {L : Nat} {xs : Nat → Int32} {d : Nat} {I : Nat → Nat → Int32} {J : Nat → Nat → Int64} {R : Nat → Nat → Nat} {p m x : Int32} (hG : aGd R) (h4 : 4 ≤ d + 1) (b1 : 3 < m.toInt) (c1 : xEv L xs d 151 0 [.ref 86, .int (p + 3)] [] (124, I, J, R) (some (.int x)) (124, I, J, R)) (b2 : 115 = x.toInt) {v : Option Value} {h' : xH} (hk : xEv L xs (d + 1) 153 52 [.ref 86, .int p, .int m, .int 2, .int 12, .int 16, .int 1, .int 4] [] (124, I, J, R) v h') : xEv L xs (d + 1) 153 52 [.ref 86, .int p, .int m, .int 2, .int 12, .int 16, .int 1, .int 3] [] (124, I, J, R) v h' := by
  refine ev_go 2 (pc1 := 55) (lv1 := [.ref 86, .int p, .int m, .int 2, .int 12, .int 16, .int 1, .int 3]) (st1 := [.int m, .int 3]) (h1 := (124, I, J, R)) rfl ?_
  refine ev_br (b1 := false) rfl rfl (xcd_nge (x := 3) (y := m) (by rw [show ((3 : Int32)).toInt = 3 from by decide]; first | exact b1 | omega)) ?_
  refine ev_go 6 (pc1 := 70) (lv1 := [.ref 86, .int p, .int m, .int 2, .int 12, .int 16, .int 1, .int 3]) (st1 := [.int 15, .retAddr 8]) (h1 := (124, I, J, R)) rfl ?_
  refine ev_903 (k := 6) h4 rfl rfl (by decide) (by decide) (by decide) (by decide) (x := 115) rfl ?_
  refine ev_go 4 (pc1 := 78) (lv1 := [.ref 86, .int p, .int m, .int 2, .int 12, .int 16, .int 1, .int 3]) (st1 := [.int (p + 3), .ref 86, .int 115]) (h1 := (124, I, J, R)) rfl ?_
  refine ev_call (v1 := (some (.int x))) (h1 := (124, I, J, R)) rfl rfl c1 ?_
  refine ev_br (b1 := false) rfl rfl (xcd_nne (x := 115) (y := x) (by rw [show ((115 : Int32)).toInt = 115 from by decide]; first | exact b2 | omega)) ?_
  refine ev_go 5 (pc1 := 52) (lv1 := [.ref 86, .int p, .int m, .int 2, .int 12, .int 16, .int 1, .int 4]) (st1 := []) (h1 := (124, I, J, R)) rfl ?_
  exact hk
set_option maxRecDepth 20000 in
theorem kyE2_3 {L : Nat} {xs : Nat → Int32} {d : Nat} {I : Nat → Nat → Int32} {J : Nat → Nat → Int64} {R : Nat → Nat → Nat} {p m x : Int32} (hG : aGd R) (h4 : 4 ≤ d + 1) (b1 : 3 < m.toInt) (c1 : xEv L xs d 151 0 [.ref 86, .int (p + 3)] [] (124, I, J, R) (some (.int x)) (124, I, J, R)) (b2 : 115 ≠ x.toInt) {v : Option Value} {h' : xH} (hk : xEv L xs (d + 1) 153 52 [.ref 86, .int p, .int m, .int 2, .int 12, .int 16, .int 0, .int 4] [] (124, I, J, R) v h') : xEv L xs (d + 1) 153 52 [.ref 86, .int p, .int m, .int 2, .int 12, .int 16, .int 1, .int 3] [] (124, I, J, R) v h' := by
  refine ev_go 2 (pc1 := 55) (lv1 := [.ref 86, .int p, .int m, .int 2, .int 12, .int 16, .int 1, .int 3]) (st1 := [.int m, .int 3]) (h1 := (124, I, J, R)) rfl ?_
  refine ev_br (b1 := false) rfl rfl (xcd_nge (x := 3) (y := m) (by rw [show ((3 : Int32)).toInt = 3 from by decide]; first | exact b1 | omega)) ?_
  refine ev_go 6 (pc1 := 70) (lv1 := [.ref 86, .int p, .int m, .int 2, .int 12, .int 16, .int 1, .int 3]) (st1 := [.int 15, .retAddr 8]) (h1 := (124, I, J, R)) rfl ?_
  refine ev_903 (k := 6) h4 rfl rfl (by decide) (by decide) (by decide) (by decide) (x := 115) rfl ?_
  refine ev_go 4 (pc1 := 78) (lv1 := [.ref 86, .int p, .int m, .int 2, .int 12, .int 16, .int 1, .int 3]) (st1 := [.int (p + 3), .ref 86, .int 115]) (h1 := (124, I, J, R)) rfl ?_
  refine ev_call (v1 := (some (.int x))) (h1 := (124, I, J, R)) rfl rfl c1 ?_
  refine ev_br (b1 := true) rfl rfl (xcd_ne (x := 115) (y := x) (by rw [show ((115 : Int32)).toInt = 115 from by decide]; first | exact b2 | omega)) ?_
  refine ev_go 4 (pc1 := 52) (lv1 := [.ref 86, .int p, .int m, .int 2, .int 12, .int 16, .int 0, .int 4]) (st1 := []) (h1 := (124, I, J, R)) rfl ?_
  exact hk
set_option maxRecDepth 20000 in
theorem kyG2_4 {L : Nat} {xs : Nat → Int32} {d : Nat} {I : Nat → Nat → Int32} {J : Nat → Nat → Int64} {R : Nat → Nat → Nat} {p m : Int32} (hG : aGd R) (h4 : 4 ≤ d) (b1 : 4 ≥ m.toInt) {v : Option Value} {h' : xH} (hk : xEv L xs d 153 8 [.ref 86, .int p, .int m, .int 3, .int 17, .int 17, .int 0, .int 4] [] (124, I, J, R) v h') : xEv L xs d 153 52 [.ref 86, .int p, .int m, .int 2, .int 12, .int 16, .int 0, .int 4] [] (124, I, J, R) v h' := by
  refine ev_go 2 (pc1 := 55) (lv1 := [.ref 86, .int p, .int m, .int 2, .int 12, .int 16, .int 0, .int 4]) (st1 := [.int m, .int 4]) (h1 := (124, I, J, R)) rfl ?_
  refine ev_br (b1 := true) rfl rfl (xcd_ge (x := 4) (y := m) (by rw [show ((4 : Int32)).toInt = 4 from by decide]; first | exact b1 | omega)) ?_
  refine ev_go 9 (pc1 := 8) (lv1 := [.ref 86, .int p, .int m, .int 3, .int 17, .int 17, .int 0, .int 4]) (st1 := []) (h1 := (124, I, J, R)) rfl ?_
  exact hk
set_option maxRecDepth 20000 in
theorem kyF2 {L : Nat} {xs : Nat → Int32} {d : Nat} {I : Nat → Nat → Int32} {J : Nat → Nat → Int64} {R : Nat → Nat → Nat} {p m : Int32} (hG : aGd R) (h4 : 4 ≤ d) (b1 : 4 ≥ m.toInt) : xEv L xs d 153 52 [.ref 86, .int p, .int m, .int 2, .int 12, .int 16, .int 1, .int 4] [] (124, I, J, R) (some (.int 2)) (124, I, J, R) := by
  refine ev_go 2 (pc1 := 55) (lv1 := [.ref 86, .int p, .int m, .int 2, .int 12, .int 16, .int 1, .int 4]) (st1 := [.int m, .int 4]) (h1 := (124, I, J, R)) rfl ?_
  refine ev_br (b1 := true) rfl rfl (xcd_ge (x := 4) (y := m) (by rw [show ((4 : Int32)).toInt = 4 from by decide]; first | exact b1 | omega)) ?_
  refine ev_go 3 (pc1 := 103) (lv1 := [.ref 86, .int p, .int m, .int 2, .int 12, .int 16, .int 1, .int 4]) (st1 := [.int 2]) (h1 := (124, I, J, R)) rfl ?_
  exact ev_ret rfl rfl
set_option maxRecDepth 20000 in
theorem kyA3 {L : Nat} {xs : Nat → Int32} {d : Nat} {I : Nat → Nat → Int32} {J : Nat → Nat → Int64} {R : Nat → Nat → Nat} {p m : Int32} {w6 w7 : Value} (hG : aGd R) (h4 : 4 ≤ d)  {v : Option Value} {h' : xH} (hk : xEv L xs d 153 33 [.ref 86, .int p, .int m, .int 3, .int 17, .int 20, w6, w7] [] (124, I, J, R) v h') : xEv L xs d 153 8 [.ref 86, .int p, .int m, .int 3, .int 17, .int 17, w6, w7] [] (124, I, J, R) v h' := by
  refine ev_go 2 (pc1 := 12) (lv1 := [.ref 86, .int p, .int m, .int 3, .int 17, .int 17, w6, w7]) (st1 := [.retAddr 8, .int 17]) (h1 := (124, I, J, R)) rfl ?_
  refine ev_902 (k := 6) h4 rfl rfl (by decide) (by decide) (x := 33) rfl ?_
  refine ev_go 3 (pc1 := 22) (lv1 := [.ref 86, .int p, .int m, .int 3, .int 17, .int 17, w6, w7]) (st1 := [.int 17, .retAddr 8]) (h1 := (124, I, J, R)) rfl ?_
  refine ev_903 (k := 6) h4 rfl rfl (by decide) (by decide) (by decide) (by decide) (x := 98) rfl ?_
  refine ev_go 7 (pc1 := 12) (lv1 := [.ref 86, .int p, .int m, .int 3, .int 17, .int 18, w6, w7]) (st1 := [.retAddr 8, .int 18]) (h1 := (124, I, J, R)) rfl ?_
  refine ev_902 (k := 6) h4 rfl rfl (by decide) (by decide) (x := 33) rfl ?_
  refine ev_go 3 (pc1 := 22) (lv1 := [.ref 86, .int p, .int m, .int 3, .int 17, .int 18, w6, w7]) (st1 := [.int 18, .retAddr 8]) (h1 := (124, I, J, R)) rfl ?_
  refine ev_903 (k := 6) h4 rfl rfl (by decide) (by decide) (by decide) (by decide) (x := 97) rfl ?_
  refine ev_go 7 (pc1 := 12) (lv1 := [.ref 86, .int p, .int m, .int 3, .int 17, .int 19, w6, w7]) (st1 := [.retAddr 8, .int 19]) (h1 := (124, I, J, R)) rfl ?_
  refine ev_902 (k := 6) h4 rfl rfl (by decide) (by decide) (x := 33) rfl ?_
  refine ev_go 3 (pc1 := 22) (lv1 := [.ref 86, .int p, .int m, .int 3, .int 17, .int 19, w6, w7]) (st1 := [.int 19, .retAddr 8]) (h1 := (124, I, J, R)) rfl ?_
  refine ev_903 (k := 6) h4 rfl rfl (by decide) (by decide) (by decide) (by decide) (x := 114) rfl ?_
  refine ev_go 7 (pc1 := 12) (lv1 := [.ref 86, .int p, .int m, .int 3, .int 17, .int 20, w6, w7]) (st1 := [.retAddr 8, .int 20]) (h1 := (124, I, J, R)) rfl ?_
  refine ev_902 (k := 6) h4 rfl rfl (by decide) (by decide) (x := 33) rfl ?_
  refine ev_go 3 (pc1 := 22) (lv1 := [.ref 86, .int p, .int m, .int 3, .int 17, .int 20, w6, w7]) (st1 := [.int 20, .retAddr 8]) (h1 := (124, I, J, R)) rfl ?_
  refine ev_903 (k := 6) h4 rfl rfl (by decide) (by decide) (by decide) (by decide) (x := 32) rfl ?_
  refine ev_go 2 (pc1 := 33) (lv1 := [.ref 86, .int p, .int m, .int 3, .int 17, .int 20, w6, w7]) (st1 := []) (h1 := (124, I, J, R)) rfl ?_
  exact hk
set_option maxRecDepth 20000 in
theorem kyB3 {L : Nat} {xs : Nat → Int32} {d : Nat} {I : Nat → Nat → Int32} {J : Nat → Nat → Int64} {R : Nat → Nat → Nat} {p m : Int32} {w6 w7 : Value} (hG : aGd R) (h4 : 4 ≤ d) (b1 : 3 ≠ m.toInt) (b2 : 0 < m.toInt) {v : Option Value} {h' : xH} (hk : xEv L xs d 153 8 [.ref 86, .int p, .int m, .int 4, .int 21, .int 21, .int 0, .int 0] [] (124, I, J, R) v h') : xEv L xs d 153 33 [.ref 86, .int p, .int m, .int 3, .int 17, .int 20, w6, w7] [] (124, I, J, R) v h' := by
  refine ev_go 4 (pc1 := 39) (lv1 := [.ref 86, .int p, .int m, .int 3, .int 17, .int 20, w6, w7]) (st1 := [.int m, .int 3]) (h1 := (124, I, J, R)) rfl ?_
  refine ev_br (b1 := true) rfl rfl (xcd_ne (x := 3) (y := m) (by rw [show ((3 : Int32)).toInt = 3 from by decide]; first | exact b1 | omega)) ?_
  refine ev_go 6 (pc1 := 55) (lv1 := [.ref 86, .int p, .int m, .int 3, .int 17, .int 20, .int 0, .int 0]) (st1 := [.int m, .int 0]) (h1 := (124, I, J, R)) rfl ?_
  refine ev_br (b1 := false) rfl rfl (xcd_nge (x := 0) (y := m) (by rw [show ((0 : Int32)).toInt = 0 from by decide]; first | exact b2 | omega)) ?_
  refine ev_go 11 (pc1 := 8) (lv1 := [.ref 86, .int p, .int m, .int 4, .int 21, .int 21, .int 0, .int 0]) (st1 := []) (h1 := (124, I, J, R)) rfl ?_
  exact hk
set_option maxRecDepth 20000 in
theorem kyC3 {L : Nat} {xs : Nat → Int32} {d : Nat} {I : Nat → Nat → Int32} {J : Nat → Nat → Int64} {R : Nat → Nat → Nat} {p m : Int32} {w6 w7 : Value} (hG : aGd R) (h4 : 4 ≤ d) (b1 : 3 = m.toInt) {v : Option Value} {h' : xH} (hk : xEv L xs d 153 52 [.ref 86, .int p, .int m, .int 3, .int 17, .int 20, .int 1, .int 0] [] (124, I, J, R) v h') : xEv L xs d 153 33 [.ref 86, .int p, .int m, .int 3, .int 17, .int 20, w6, w7] [] (124, I, J, R) v h' := by
  refine ev_go 4 (pc1 := 39) (lv1 := [.ref 86, .int p, .int m, .int 3, .int 17, .int 20, w6, w7]) (st1 := [.int m, .int 3]) (h1 := (124, I, J, R)) rfl ?_
  refine ev_br (b1 := false) rfl rfl (xcd_nne (x := 3) (y := m) (by rw [show ((3 : Int32)).toInt = 3 from by decide]; first | exact b1 | omega)) ?_
  refine ev_go 5 (pc1 := 52) (lv1 := [.ref 86, .int p, .int m, .int 3, .int 17, .int 20, .int 1, .int 0]) (st1 := []) (h1 := (124, I, J, R)) rfl ?_
  exact hk
set_option maxRecDepth 20000 in
theorem kyD3_0 {L : Nat} {xs : Nat → Int32} {d : Nat} {I : Nat → Nat → Int32} {J : Nat → Nat → Int64} {R : Nat → Nat → Nat} {p m x : Int32} (hG : aGd R) (h4 : 4 ≤ d + 1) (b1 : 0 < m.toInt) (c1 : xEv L xs d 151 0 [.ref 86, .int (p + 0)] [] (124, I, J, R) (some (.int x)) (124, I, J, R)) (b2 : 98 = x.toInt) {v : Option Value} {h' : xH} (hk : xEv L xs (d + 1) 153 52 [.ref 86, .int p, .int m, .int 3, .int 17, .int 20, .int 1, .int 1] [] (124, I, J, R) v h') : xEv L xs (d + 1) 153 52 [.ref 86, .int p, .int m, .int 3, .int 17, .int 20, .int 1, .int 0] [] (124, I, J, R) v h' := by
  refine ev_go 2 (pc1 := 55) (lv1 := [.ref 86, .int p, .int m, .int 3, .int 17, .int 20, .int 1, .int 0]) (st1 := [.int m, .int 0]) (h1 := (124, I, J, R)) rfl ?_
  refine ev_br (b1 := false) rfl rfl (xcd_nge (x := 0) (y := m) (by rw [show ((0 : Int32)).toInt = 0 from by decide]; first | exact b1 | omega)) ?_
  refine ev_go 6 (pc1 := 70) (lv1 := [.ref 86, .int p, .int m, .int 3, .int 17, .int 20, .int 1, .int 0]) (st1 := [.int 17, .retAddr 8]) (h1 := (124, I, J, R)) rfl ?_
  refine ev_903 (k := 6) h4 rfl rfl (by decide) (by decide) (by decide) (by decide) (x := 98) rfl ?_
  refine ev_go 4 (pc1 := 78) (lv1 := [.ref 86, .int p, .int m, .int 3, .int 17, .int 20, .int 1, .int 0]) (st1 := [.int (p + 0), .ref 86, .int 98]) (h1 := (124, I, J, R)) rfl ?_
  refine ev_call (v1 := (some (.int x))) (h1 := (124, I, J, R)) rfl rfl c1 ?_
  refine ev_br (b1 := false) rfl rfl (xcd_nne (x := 98) (y := x) (by rw [show ((98 : Int32)).toInt = 98 from by decide]; first | exact b2 | omega)) ?_
  refine ev_go 5 (pc1 := 52) (lv1 := [.ref 86, .int p, .int m, .int 3, .int 17, .int 20, .int 1, .int 1]) (st1 := []) (h1 := (124, I, J, R)) rfl ?_
  exact hk
set_option maxRecDepth 20000 in
theorem kyE3_0 {L : Nat} {xs : Nat → Int32} {d : Nat} {I : Nat → Nat → Int32} {J : Nat → Nat → Int64} {R : Nat → Nat → Nat} {p m x : Int32} (hG : aGd R) (h4 : 4 ≤ d + 1) (b1 : 0 < m.toInt) (c1 : xEv L xs d 151 0 [.ref 86, .int (p + 0)] [] (124, I, J, R) (some (.int x)) (124, I, J, R)) (b2 : 98 ≠ x.toInt) {v : Option Value} {h' : xH} (hk : xEv L xs (d + 1) 153 52 [.ref 86, .int p, .int m, .int 3, .int 17, .int 20, .int 0, .int 1] [] (124, I, J, R) v h') : xEv L xs (d + 1) 153 52 [.ref 86, .int p, .int m, .int 3, .int 17, .int 20, .int 1, .int 0] [] (124, I, J, R) v h' := by
  refine ev_go 2 (pc1 := 55) (lv1 := [.ref 86, .int p, .int m, .int 3, .int 17, .int 20, .int 1, .int 0]) (st1 := [.int m, .int 0]) (h1 := (124, I, J, R)) rfl ?_
  refine ev_br (b1 := false) rfl rfl (xcd_nge (x := 0) (y := m) (by rw [show ((0 : Int32)).toInt = 0 from by decide]; first | exact b1 | omega)) ?_
  refine ev_go 6 (pc1 := 70) (lv1 := [.ref 86, .int p, .int m, .int 3, .int 17, .int 20, .int 1, .int 0]) (st1 := [.int 17, .retAddr 8]) (h1 := (124, I, J, R)) rfl ?_
  refine ev_903 (k := 6) h4 rfl rfl (by decide) (by decide) (by decide) (by decide) (x := 98) rfl ?_
  refine ev_go 4 (pc1 := 78) (lv1 := [.ref 86, .int p, .int m, .int 3, .int 17, .int 20, .int 1, .int 0]) (st1 := [.int (p + 0), .ref 86, .int 98]) (h1 := (124, I, J, R)) rfl ?_
  refine ev_call (v1 := (some (.int x))) (h1 := (124, I, J, R)) rfl rfl c1 ?_
  refine ev_br (b1 := true) rfl rfl (xcd_ne (x := 98) (y := x) (by rw [show ((98 : Int32)).toInt = 98 from by decide]; first | exact b2 | omega)) ?_
  refine ev_go 4 (pc1 := 52) (lv1 := [.ref 86, .int p, .int m, .int 3, .int 17, .int 20, .int 0, .int 1]) (st1 := []) (h1 := (124, I, J, R)) rfl ?_
  exact hk
set_option maxRecDepth 20000 in
theorem kyG3_1 {L : Nat} {xs : Nat → Int32} {d : Nat} {I : Nat → Nat → Int32} {J : Nat → Nat → Int64} {R : Nat → Nat → Nat} {p m : Int32} (hG : aGd R) (h4 : 4 ≤ d) (b1 : 1 < m.toInt) {v : Option Value} {h' : xH} (hk : xEv L xs d 153 8 [.ref 86, .int p, .int m, .int 4, .int 21, .int 21, .int 0, .int 1] [] (124, I, J, R) v h') : xEv L xs d 153 52 [.ref 86, .int p, .int m, .int 3, .int 17, .int 20, .int 0, .int 1] [] (124, I, J, R) v h' := by
  refine ev_go 2 (pc1 := 55) (lv1 := [.ref 86, .int p, .int m, .int 3, .int 17, .int 20, .int 0, .int 1]) (st1 := [.int m, .int 1]) (h1 := (124, I, J, R)) rfl ?_
  refine ev_br (b1 := false) rfl rfl (xcd_nge (x := 1) (y := m) (by rw [show ((1 : Int32)).toInt = 1 from by decide]; first | exact b1 | omega)) ?_
  refine ev_go 11 (pc1 := 8) (lv1 := [.ref 86, .int p, .int m, .int 4, .int 21, .int 21, .int 0, .int 1]) (st1 := []) (h1 := (124, I, J, R)) rfl ?_
  exact hk
set_option maxRecDepth 20000 in
theorem kyD3_1 {L : Nat} {xs : Nat → Int32} {d : Nat} {I : Nat → Nat → Int32} {J : Nat → Nat → Int64} {R : Nat → Nat → Nat} {p m x : Int32} (hG : aGd R) (h4 : 4 ≤ d + 1) (b1 : 1 < m.toInt) (c1 : xEv L xs d 151 0 [.ref 86, .int (p + 1)] [] (124, I, J, R) (some (.int x)) (124, I, J, R)) (b2 : 97 = x.toInt) {v : Option Value} {h' : xH} (hk : xEv L xs (d + 1) 153 52 [.ref 86, .int p, .int m, .int 3, .int 17, .int 20, .int 1, .int 2] [] (124, I, J, R) v h') : xEv L xs (d + 1) 153 52 [.ref 86, .int p, .int m, .int 3, .int 17, .int 20, .int 1, .int 1] [] (124, I, J, R) v h' := by
  refine ev_go 2 (pc1 := 55) (lv1 := [.ref 86, .int p, .int m, .int 3, .int 17, .int 20, .int 1, .int 1]) (st1 := [.int m, .int 1]) (h1 := (124, I, J, R)) rfl ?_
  refine ev_br (b1 := false) rfl rfl (xcd_nge (x := 1) (y := m) (by rw [show ((1 : Int32)).toInt = 1 from by decide]; first | exact b1 | omega)) ?_
  refine ev_go 6 (pc1 := 70) (lv1 := [.ref 86, .int p, .int m, .int 3, .int 17, .int 20, .int 1, .int 1]) (st1 := [.int 18, .retAddr 8]) (h1 := (124, I, J, R)) rfl ?_
  refine ev_903 (k := 6) h4 rfl rfl (by decide) (by decide) (by decide) (by decide) (x := 97) rfl ?_
  refine ev_go 4 (pc1 := 78) (lv1 := [.ref 86, .int p, .int m, .int 3, .int 17, .int 20, .int 1, .int 1]) (st1 := [.int (p + 1), .ref 86, .int 97]) (h1 := (124, I, J, R)) rfl ?_
  refine ev_call (v1 := (some (.int x))) (h1 := (124, I, J, R)) rfl rfl c1 ?_
  refine ev_br (b1 := false) rfl rfl (xcd_nne (x := 97) (y := x) (by rw [show ((97 : Int32)).toInt = 97 from by decide]; first | exact b2 | omega)) ?_
  refine ev_go 5 (pc1 := 52) (lv1 := [.ref 86, .int p, .int m, .int 3, .int 17, .int 20, .int 1, .int 2]) (st1 := []) (h1 := (124, I, J, R)) rfl ?_
  exact hk
set_option maxRecDepth 20000 in
theorem kyE3_1 {L : Nat} {xs : Nat → Int32} {d : Nat} {I : Nat → Nat → Int32} {J : Nat → Nat → Int64} {R : Nat → Nat → Nat} {p m x : Int32} (hG : aGd R) (h4 : 4 ≤ d + 1) (b1 : 1 < m.toInt) (c1 : xEv L xs d 151 0 [.ref 86, .int (p + 1)] [] (124, I, J, R) (some (.int x)) (124, I, J, R)) (b2 : 97 ≠ x.toInt) {v : Option Value} {h' : xH} (hk : xEv L xs (d + 1) 153 52 [.ref 86, .int p, .int m, .int 3, .int 17, .int 20, .int 0, .int 2] [] (124, I, J, R) v h') : xEv L xs (d + 1) 153 52 [.ref 86, .int p, .int m, .int 3, .int 17, .int 20, .int 1, .int 1] [] (124, I, J, R) v h' := by
  refine ev_go 2 (pc1 := 55) (lv1 := [.ref 86, .int p, .int m, .int 3, .int 17, .int 20, .int 1, .int 1]) (st1 := [.int m, .int 1]) (h1 := (124, I, J, R)) rfl ?_
  refine ev_br (b1 := false) rfl rfl (xcd_nge (x := 1) (y := m) (by rw [show ((1 : Int32)).toInt = 1 from by decide]; first | exact b1 | omega)) ?_
  refine ev_go 6 (pc1 := 70) (lv1 := [.ref 86, .int p, .int m, .int 3, .int 17, .int 20, .int 1, .int 1]) (st1 := [.int 18, .retAddr 8]) (h1 := (124, I, J, R)) rfl ?_
  refine ev_903 (k := 6) h4 rfl rfl (by decide) (by decide) (by decide) (by decide) (x := 97) rfl ?_
  refine ev_go 4 (pc1 := 78) (lv1 := [.ref 86, .int p, .int m, .int 3, .int 17, .int 20, .int 1, .int 1]) (st1 := [.int (p + 1), .ref 86, .int 97]) (h1 := (124, I, J, R)) rfl ?_
  refine ev_call (v1 := (some (.int x))) (h1 := (124, I, J, R)) rfl rfl c1 ?_
  refine ev_br (b1 := true) rfl rfl (xcd_ne (x := 97) (y := x) (by rw [show ((97 : Int32)).toInt = 97 from by decide]; first | exact b2 | omega)) ?_
  refine ev_go 4 (pc1 := 52) (lv1 := [.ref 86, .int p, .int m, .int 3, .int 17, .int 20, .int 0, .int 2]) (st1 := []) (h1 := (124, I, J, R)) rfl ?_
  exact hk
set_option maxRecDepth 20000 in
theorem kyG3_2 {L : Nat} {xs : Nat → Int32} {d : Nat} {I : Nat → Nat → Int32} {J : Nat → Nat → Int64} {R : Nat → Nat → Nat} {p m : Int32} (hG : aGd R) (h4 : 4 ≤ d) (b1 : 2 < m.toInt) {v : Option Value} {h' : xH} (hk : xEv L xs d 153 8 [.ref 86, .int p, .int m, .int 4, .int 21, .int 21, .int 0, .int 2] [] (124, I, J, R) v h') : xEv L xs d 153 52 [.ref 86, .int p, .int m, .int 3, .int 17, .int 20, .int 0, .int 2] [] (124, I, J, R) v h' := by
  refine ev_go 2 (pc1 := 55) (lv1 := [.ref 86, .int p, .int m, .int 3, .int 17, .int 20, .int 0, .int 2]) (st1 := [.int m, .int 2]) (h1 := (124, I, J, R)) rfl ?_
  refine ev_br (b1 := false) rfl rfl (xcd_nge (x := 2) (y := m) (by rw [show ((2 : Int32)).toInt = 2 from by decide]; first | exact b1 | omega)) ?_
  refine ev_go 11 (pc1 := 8) (lv1 := [.ref 86, .int p, .int m, .int 4, .int 21, .int 21, .int 0, .int 2]) (st1 := []) (h1 := (124, I, J, R)) rfl ?_
  exact hk
set_option maxRecDepth 20000 in
theorem kyD3_2 {L : Nat} {xs : Nat → Int32} {d : Nat} {I : Nat → Nat → Int32} {J : Nat → Nat → Int64} {R : Nat → Nat → Nat} {p m x : Int32} (hG : aGd R) (h4 : 4 ≤ d + 1) (b1 : 2 < m.toInt) (c1 : xEv L xs d 151 0 [.ref 86, .int (p + 2)] [] (124, I, J, R) (some (.int x)) (124, I, J, R)) (b2 : 114 = x.toInt) {v : Option Value} {h' : xH} (hk : xEv L xs (d + 1) 153 52 [.ref 86, .int p, .int m, .int 3, .int 17, .int 20, .int 1, .int 3] [] (124, I, J, R) v h') : xEv L xs (d + 1) 153 52 [.ref 86, .int p, .int m, .int 3, .int 17, .int 20, .int 1, .int 2] [] (124, I, J, R) v h' := by
  refine ev_go 2 (pc1 := 55) (lv1 := [.ref 86, .int p, .int m, .int 3, .int 17, .int 20, .int 1, .int 2]) (st1 := [.int m, .int 2]) (h1 := (124, I, J, R)) rfl ?_
  refine ev_br (b1 := false) rfl rfl (xcd_nge (x := 2) (y := m) (by rw [show ((2 : Int32)).toInt = 2 from by decide]; first | exact b1 | omega)) ?_
  refine ev_go 6 (pc1 := 70) (lv1 := [.ref 86, .int p, .int m, .int 3, .int 17, .int 20, .int 1, .int 2]) (st1 := [.int 19, .retAddr 8]) (h1 := (124, I, J, R)) rfl ?_
  refine ev_903 (k := 6) h4 rfl rfl (by decide) (by decide) (by decide) (by decide) (x := 114) rfl ?_
  refine ev_go 4 (pc1 := 78) (lv1 := [.ref 86, .int p, .int m, .int 3, .int 17, .int 20, .int 1, .int 2]) (st1 := [.int (p + 2), .ref 86, .int 114]) (h1 := (124, I, J, R)) rfl ?_
  refine ev_call (v1 := (some (.int x))) (h1 := (124, I, J, R)) rfl rfl c1 ?_
  refine ev_br (b1 := false) rfl rfl (xcd_nne (x := 114) (y := x) (by rw [show ((114 : Int32)).toInt = 114 from by decide]; first | exact b2 | omega)) ?_
  refine ev_go 5 (pc1 := 52) (lv1 := [.ref 86, .int p, .int m, .int 3, .int 17, .int 20, .int 1, .int 3]) (st1 := []) (h1 := (124, I, J, R)) rfl ?_
  exact hk
set_option maxRecDepth 20000 in
theorem kyE3_2 {L : Nat} {xs : Nat → Int32} {d : Nat} {I : Nat → Nat → Int32} {J : Nat → Nat → Int64} {R : Nat → Nat → Nat} {p m x : Int32} (hG : aGd R) (h4 : 4 ≤ d + 1) (b1 : 2 < m.toInt) (c1 : xEv L xs d 151 0 [.ref 86, .int (p + 2)] [] (124, I, J, R) (some (.int x)) (124, I, J, R)) (b2 : 114 ≠ x.toInt) {v : Option Value} {h' : xH} (hk : xEv L xs (d + 1) 153 52 [.ref 86, .int p, .int m, .int 3, .int 17, .int 20, .int 0, .int 3] [] (124, I, J, R) v h') : xEv L xs (d + 1) 153 52 [.ref 86, .int p, .int m, .int 3, .int 17, .int 20, .int 1, .int 2] [] (124, I, J, R) v h' := by
  refine ev_go 2 (pc1 := 55) (lv1 := [.ref 86, .int p, .int m, .int 3, .int 17, .int 20, .int 1, .int 2]) (st1 := [.int m, .int 2]) (h1 := (124, I, J, R)) rfl ?_
  refine ev_br (b1 := false) rfl rfl (xcd_nge (x := 2) (y := m) (by rw [show ((2 : Int32)).toInt = 2 from by decide]; first | exact b1 | omega)) ?_
  refine ev_go 6 (pc1 := 70) (lv1 := [.ref 86, .int p, .int m, .int 3, .int 17, .int 20, .int 1, .int 2]) (st1 := [.int 19, .retAddr 8]) (h1 := (124, I, J, R)) rfl ?_
  refine ev_903 (k := 6) h4 rfl rfl (by decide) (by decide) (by decide) (by decide) (x := 114) rfl ?_
  refine ev_go 4 (pc1 := 78) (lv1 := [.ref 86, .int p, .int m, .int 3, .int 17, .int 20, .int 1, .int 2]) (st1 := [.int (p + 2), .ref 86, .int 114]) (h1 := (124, I, J, R)) rfl ?_
  refine ev_call (v1 := (some (.int x))) (h1 := (124, I, J, R)) rfl rfl c1 ?_
  refine ev_br (b1 := true) rfl rfl (xcd_ne (x := 114) (y := x) (by rw [show ((114 : Int32)).toInt = 114 from by decide]; first | exact b2 | omega)) ?_
  refine ev_go 4 (pc1 := 52) (lv1 := [.ref 86, .int p, .int m, .int 3, .int 17, .int 20, .int 0, .int 3]) (st1 := []) (h1 := (124, I, J, R)) rfl ?_
  exact hk
set_option maxRecDepth 20000 in
theorem kyG3_3 {L : Nat} {xs : Nat → Int32} {d : Nat} {I : Nat → Nat → Int32} {J : Nat → Nat → Int64} {R : Nat → Nat → Nat} {p m : Int32} (hG : aGd R) (h4 : 4 ≤ d) (b1 : 3 ≥ m.toInt) {v : Option Value} {h' : xH} (hk : xEv L xs d 153 8 [.ref 86, .int p, .int m, .int 4, .int 21, .int 21, .int 0, .int 3] [] (124, I, J, R) v h') : xEv L xs d 153 52 [.ref 86, .int p, .int m, .int 3, .int 17, .int 20, .int 0, .int 3] [] (124, I, J, R) v h' := by
  refine ev_go 2 (pc1 := 55) (lv1 := [.ref 86, .int p, .int m, .int 3, .int 17, .int 20, .int 0, .int 3]) (st1 := [.int m, .int 3]) (h1 := (124, I, J, R)) rfl ?_
  refine ev_br (b1 := true) rfl rfl (xcd_ge (x := 3) (y := m) (by rw [show ((3 : Int32)).toInt = 3 from by decide]; first | exact b1 | omega)) ?_
  refine ev_go 9 (pc1 := 8) (lv1 := [.ref 86, .int p, .int m, .int 4, .int 21, .int 21, .int 0, .int 3]) (st1 := []) (h1 := (124, I, J, R)) rfl ?_
  exact hk
set_option maxRecDepth 20000 in
theorem kyF3 {L : Nat} {xs : Nat → Int32} {d : Nat} {I : Nat → Nat → Int32} {J : Nat → Nat → Int64} {R : Nat → Nat → Nat} {p m : Int32} (hG : aGd R) (h4 : 4 ≤ d) (b1 : 3 ≥ m.toInt) : xEv L xs d 153 52 [.ref 86, .int p, .int m, .int 3, .int 17, .int 20, .int 1, .int 3] [] (124, I, J, R) (some (.int 3)) (124, I, J, R) := by
  refine ev_go 2 (pc1 := 55) (lv1 := [.ref 86, .int p, .int m, .int 3, .int 17, .int 20, .int 1, .int 3]) (st1 := [.int m, .int 3]) (h1 := (124, I, J, R)) rfl ?_
  refine ev_br (b1 := true) rfl rfl (xcd_ge (x := 3) (y := m) (by rw [show ((3 : Int32)).toInt = 3 from by decide]; first | exact b1 | omega)) ?_
  refine ev_go 3 (pc1 := 103) (lv1 := [.ref 86, .int p, .int m, .int 3, .int 17, .int 20, .int 1, .int 3]) (st1 := [.int 3]) (h1 := (124, I, J, R)) rfl ?_
  exact ev_ret rfl rfl
set_option maxRecDepth 20000 in
theorem kyA4 {L : Nat} {xs : Nat → Int32} {d : Nat} {I : Nat → Nat → Int32} {J : Nat → Nat → Int64} {R : Nat → Nat → Nat} {p m : Int32} {w6 w7 : Value} (hG : aGd R) (h4 : 4 ≤ d)  {v : Option Value} {h' : xH} (hk : xEv L xs d 153 33 [.ref 86, .int p, .int m, .int 4, .int 21, .int 25, w6, w7] [] (124, I, J, R) v h') : xEv L xs d 153 8 [.ref 86, .int p, .int m, .int 4, .int 21, .int 21, w6, w7] [] (124, I, J, R) v h' := by
  refine ev_go 2 (pc1 := 12) (lv1 := [.ref 86, .int p, .int m, .int 4, .int 21, .int 21, w6, w7]) (st1 := [.retAddr 8, .int 21]) (h1 := (124, I, J, R)) rfl ?_
  refine ev_902 (k := 6) h4 rfl rfl (by decide) (by decide) (x := 33) rfl ?_
  refine ev_go 3 (pc1 := 22) (lv1 := [.ref 86, .int p, .int m, .int 4, .int 21, .int 21, w6, w7]) (st1 := [.int 21, .retAddr 8]) (h1 := (124, I, J, R)) rfl ?_
  refine ev_903 (k := 6) h4 rfl rfl (by decide) (by decide) (by decide) (by decide) (x := 100) rfl ?_
  refine ev_go 7 (pc1 := 12) (lv1 := [.ref 86, .int p, .int m, .int 4, .int 21, .int 22, w6, w7]) (st1 := [.retAddr 8, .int 22]) (h1 := (124, I, J, R)) rfl ?_
  refine ev_902 (k := 6) h4 rfl rfl (by decide) (by decide) (x := 33) rfl ?_
  refine ev_go 3 (pc1 := 22) (lv1 := [.ref 86, .int p, .int m, .int 4, .int 21, .int 22, w6, w7]) (st1 := [.int 22, .retAddr 8]) (h1 := (124, I, J, R)) rfl ?_
  refine ev_903 (k := 6) h4 rfl rfl (by decide) (by decide) (by decide) (by decide) (x := 105) rfl ?_
  refine ev_go 7 (pc1 := 12) (lv1 := [.ref 86, .int p, .int m, .int 4, .int 21, .int 23, w6, w7]) (st1 := [.retAddr 8, .int 23]) (h1 := (124, I, J, R)) rfl ?_
  refine ev_902 (k := 6) h4 rfl rfl (by decide) (by decide) (x := 33) rfl ?_
  refine ev_go 3 (pc1 := 22) (lv1 := [.ref 86, .int p, .int m, .int 4, .int 21, .int 23, w6, w7]) (st1 := [.int 23, .retAddr 8]) (h1 := (124, I, J, R)) rfl ?_
  refine ev_903 (k := 6) h4 rfl rfl (by decide) (by decide) (by decide) (by decide) (x := 101) rfl ?_
  refine ev_go 7 (pc1 := 12) (lv1 := [.ref 86, .int p, .int m, .int 4, .int 21, .int 24, w6, w7]) (st1 := [.retAddr 8, .int 24]) (h1 := (124, I, J, R)) rfl ?_
  refine ev_902 (k := 6) h4 rfl rfl (by decide) (by decide) (x := 33) rfl ?_
  refine ev_go 3 (pc1 := 22) (lv1 := [.ref 86, .int p, .int m, .int 4, .int 21, .int 24, w6, w7]) (st1 := [.int 24, .retAddr 8]) (h1 := (124, I, J, R)) rfl ?_
  refine ev_903 (k := 6) h4 rfl rfl (by decide) (by decide) (by decide) (by decide) (x := 115) rfl ?_
  refine ev_go 7 (pc1 := 12) (lv1 := [.ref 86, .int p, .int m, .int 4, .int 21, .int 25, w6, w7]) (st1 := [.retAddr 8, .int 25]) (h1 := (124, I, J, R)) rfl ?_
  refine ev_902 (k := 6) h4 rfl rfl (by decide) (by decide) (x := 33) rfl ?_
  refine ev_go 3 (pc1 := 22) (lv1 := [.ref 86, .int p, .int m, .int 4, .int 21, .int 25, w6, w7]) (st1 := [.int 25, .retAddr 8]) (h1 := (124, I, J, R)) rfl ?_
  refine ev_903 (k := 6) h4 rfl rfl (by decide) (by decide) (by decide) (by decide) (x := 32) rfl ?_
  refine ev_go 2 (pc1 := 33) (lv1 := [.ref 86, .int p, .int m, .int 4, .int 21, .int 25, w6, w7]) (st1 := []) (h1 := (124, I, J, R)) rfl ?_
  exact hk
set_option maxRecDepth 20000 in
theorem kyB4 {L : Nat} {xs : Nat → Int32} {d : Nat} {I : Nat → Nat → Int32} {J : Nat → Nat → Int64} {R : Nat → Nat → Nat} {p m : Int32} {w6 w7 : Value} (hG : aGd R) (h4 : 4 ≤ d) (b1 : 4 ≠ m.toInt) (b2 : 0 < m.toInt) {v : Option Value} {h' : xH} (hk : xEv L xs d 153 8 [.ref 86, .int p, .int m, .int 5, .int 26, .int 26, .int 0, .int 0] [] (124, I, J, R) v h') : xEv L xs d 153 33 [.ref 86, .int p, .int m, .int 4, .int 21, .int 25, w6, w7] [] (124, I, J, R) v h' := by
  refine ev_go 4 (pc1 := 39) (lv1 := [.ref 86, .int p, .int m, .int 4, .int 21, .int 25, w6, w7]) (st1 := [.int m, .int 4]) (h1 := (124, I, J, R)) rfl ?_
  refine ev_br (b1 := true) rfl rfl (xcd_ne (x := 4) (y := m) (by rw [show ((4 : Int32)).toInt = 4 from by decide]; first | exact b1 | omega)) ?_
  refine ev_go 6 (pc1 := 55) (lv1 := [.ref 86, .int p, .int m, .int 4, .int 21, .int 25, .int 0, .int 0]) (st1 := [.int m, .int 0]) (h1 := (124, I, J, R)) rfl ?_
  refine ev_br (b1 := false) rfl rfl (xcd_nge (x := 0) (y := m) (by rw [show ((0 : Int32)).toInt = 0 from by decide]; first | exact b2 | omega)) ?_
  refine ev_go 11 (pc1 := 8) (lv1 := [.ref 86, .int p, .int m, .int 5, .int 26, .int 26, .int 0, .int 0]) (st1 := []) (h1 := (124, I, J, R)) rfl ?_
  exact hk
set_option maxRecDepth 20000 in
theorem kyC4 {L : Nat} {xs : Nat → Int32} {d : Nat} {I : Nat → Nat → Int32} {J : Nat → Nat → Int64} {R : Nat → Nat → Nat} {p m : Int32} {w6 w7 : Value} (hG : aGd R) (h4 : 4 ≤ d) (b1 : 4 = m.toInt) {v : Option Value} {h' : xH} (hk : xEv L xs d 153 52 [.ref 86, .int p, .int m, .int 4, .int 21, .int 25, .int 1, .int 0] [] (124, I, J, R) v h') : xEv L xs d 153 33 [.ref 86, .int p, .int m, .int 4, .int 21, .int 25, w6, w7] [] (124, I, J, R) v h' := by
  refine ev_go 4 (pc1 := 39) (lv1 := [.ref 86, .int p, .int m, .int 4, .int 21, .int 25, w6, w7]) (st1 := [.int m, .int 4]) (h1 := (124, I, J, R)) rfl ?_
  refine ev_br (b1 := false) rfl rfl (xcd_nne (x := 4) (y := m) (by rw [show ((4 : Int32)).toInt = 4 from by decide]; first | exact b1 | omega)) ?_
  refine ev_go 5 (pc1 := 52) (lv1 := [.ref 86, .int p, .int m, .int 4, .int 21, .int 25, .int 1, .int 0]) (st1 := []) (h1 := (124, I, J, R)) rfl ?_
  exact hk
set_option maxRecDepth 20000 in
theorem kyD4_0 {L : Nat} {xs : Nat → Int32} {d : Nat} {I : Nat → Nat → Int32} {J : Nat → Nat → Int64} {R : Nat → Nat → Nat} {p m x : Int32} (hG : aGd R) (h4 : 4 ≤ d + 1) (b1 : 0 < m.toInt) (c1 : xEv L xs d 151 0 [.ref 86, .int (p + 0)] [] (124, I, J, R) (some (.int x)) (124, I, J, R)) (b2 : 100 = x.toInt) {v : Option Value} {h' : xH} (hk : xEv L xs (d + 1) 153 52 [.ref 86, .int p, .int m, .int 4, .int 21, .int 25, .int 1, .int 1] [] (124, I, J, R) v h') : xEv L xs (d + 1) 153 52 [.ref 86, .int p, .int m, .int 4, .int 21, .int 25, .int 1, .int 0] [] (124, I, J, R) v h' := by
  refine ev_go 2 (pc1 := 55) (lv1 := [.ref 86, .int p, .int m, .int 4, .int 21, .int 25, .int 1, .int 0]) (st1 := [.int m, .int 0]) (h1 := (124, I, J, R)) rfl ?_
  refine ev_br (b1 := false) rfl rfl (xcd_nge (x := 0) (y := m) (by rw [show ((0 : Int32)).toInt = 0 from by decide]; first | exact b1 | omega)) ?_
  refine ev_go 6 (pc1 := 70) (lv1 := [.ref 86, .int p, .int m, .int 4, .int 21, .int 25, .int 1, .int 0]) (st1 := [.int 21, .retAddr 8]) (h1 := (124, I, J, R)) rfl ?_
  refine ev_903 (k := 6) h4 rfl rfl (by decide) (by decide) (by decide) (by decide) (x := 100) rfl ?_
  refine ev_go 4 (pc1 := 78) (lv1 := [.ref 86, .int p, .int m, .int 4, .int 21, .int 25, .int 1, .int 0]) (st1 := [.int (p + 0), .ref 86, .int 100]) (h1 := (124, I, J, R)) rfl ?_
  refine ev_call (v1 := (some (.int x))) (h1 := (124, I, J, R)) rfl rfl c1 ?_
  refine ev_br (b1 := false) rfl rfl (xcd_nne (x := 100) (y := x) (by rw [show ((100 : Int32)).toInt = 100 from by decide]; first | exact b2 | omega)) ?_
  refine ev_go 5 (pc1 := 52) (lv1 := [.ref 86, .int p, .int m, .int 4, .int 21, .int 25, .int 1, .int 1]) (st1 := []) (h1 := (124, I, J, R)) rfl ?_
  exact hk
set_option maxRecDepth 20000 in
theorem kyE4_0 {L : Nat} {xs : Nat → Int32} {d : Nat} {I : Nat → Nat → Int32} {J : Nat → Nat → Int64} {R : Nat → Nat → Nat} {p m x : Int32} (hG : aGd R) (h4 : 4 ≤ d + 1) (b1 : 0 < m.toInt) (c1 : xEv L xs d 151 0 [.ref 86, .int (p + 0)] [] (124, I, J, R) (some (.int x)) (124, I, J, R)) (b2 : 100 ≠ x.toInt) {v : Option Value} {h' : xH} (hk : xEv L xs (d + 1) 153 52 [.ref 86, .int p, .int m, .int 4, .int 21, .int 25, .int 0, .int 1] [] (124, I, J, R) v h') : xEv L xs (d + 1) 153 52 [.ref 86, .int p, .int m, .int 4, .int 21, .int 25, .int 1, .int 0] [] (124, I, J, R) v h' := by
  refine ev_go 2 (pc1 := 55) (lv1 := [.ref 86, .int p, .int m, .int 4, .int 21, .int 25, .int 1, .int 0]) (st1 := [.int m, .int 0]) (h1 := (124, I, J, R)) rfl ?_
  refine ev_br (b1 := false) rfl rfl (xcd_nge (x := 0) (y := m) (by rw [show ((0 : Int32)).toInt = 0 from by decide]; first | exact b1 | omega)) ?_
  refine ev_go 6 (pc1 := 70) (lv1 := [.ref 86, .int p, .int m, .int 4, .int 21, .int 25, .int 1, .int 0]) (st1 := [.int 21, .retAddr 8]) (h1 := (124, I, J, R)) rfl ?_
  refine ev_903 (k := 6) h4 rfl rfl (by decide) (by decide) (by decide) (by decide) (x := 100) rfl ?_
  refine ev_go 4 (pc1 := 78) (lv1 := [.ref 86, .int p, .int m, .int 4, .int 21, .int 25, .int 1, .int 0]) (st1 := [.int (p + 0), .ref 86, .int 100]) (h1 := (124, I, J, R)) rfl ?_
  refine ev_call (v1 := (some (.int x))) (h1 := (124, I, J, R)) rfl rfl c1 ?_
  refine ev_br (b1 := true) rfl rfl (xcd_ne (x := 100) (y := x) (by rw [show ((100 : Int32)).toInt = 100 from by decide]; first | exact b2 | omega)) ?_
  refine ev_go 4 (pc1 := 52) (lv1 := [.ref 86, .int p, .int m, .int 4, .int 21, .int 25, .int 0, .int 1]) (st1 := []) (h1 := (124, I, J, R)) rfl ?_
  exact hk
set_option maxRecDepth 20000 in
theorem kyG4_1 {L : Nat} {xs : Nat → Int32} {d : Nat} {I : Nat → Nat → Int32} {J : Nat → Nat → Int64} {R : Nat → Nat → Nat} {p m : Int32} (hG : aGd R) (h4 : 4 ≤ d) (b1 : 1 < m.toInt) {v : Option Value} {h' : xH} (hk : xEv L xs d 153 8 [.ref 86, .int p, .int m, .int 5, .int 26, .int 26, .int 0, .int 1] [] (124, I, J, R) v h') : xEv L xs d 153 52 [.ref 86, .int p, .int m, .int 4, .int 21, .int 25, .int 0, .int 1] [] (124, I, J, R) v h' := by
  refine ev_go 2 (pc1 := 55) (lv1 := [.ref 86, .int p, .int m, .int 4, .int 21, .int 25, .int 0, .int 1]) (st1 := [.int m, .int 1]) (h1 := (124, I, J, R)) rfl ?_
  refine ev_br (b1 := false) rfl rfl (xcd_nge (x := 1) (y := m) (by rw [show ((1 : Int32)).toInt = 1 from by decide]; first | exact b1 | omega)) ?_
  refine ev_go 11 (pc1 := 8) (lv1 := [.ref 86, .int p, .int m, .int 5, .int 26, .int 26, .int 0, .int 1]) (st1 := []) (h1 := (124, I, J, R)) rfl ?_
  exact hk
set_option maxRecDepth 20000 in
theorem kyD4_1 {L : Nat} {xs : Nat → Int32} {d : Nat} {I : Nat → Nat → Int32} {J : Nat → Nat → Int64} {R : Nat → Nat → Nat} {p m x : Int32} (hG : aGd R) (h4 : 4 ≤ d + 1) (b1 : 1 < m.toInt) (c1 : xEv L xs d 151 0 [.ref 86, .int (p + 1)] [] (124, I, J, R) (some (.int x)) (124, I, J, R)) (b2 : 105 = x.toInt) {v : Option Value} {h' : xH} (hk : xEv L xs (d + 1) 153 52 [.ref 86, .int p, .int m, .int 4, .int 21, .int 25, .int 1, .int 2] [] (124, I, J, R) v h') : xEv L xs (d + 1) 153 52 [.ref 86, .int p, .int m, .int 4, .int 21, .int 25, .int 1, .int 1] [] (124, I, J, R) v h' := by
  refine ev_go 2 (pc1 := 55) (lv1 := [.ref 86, .int p, .int m, .int 4, .int 21, .int 25, .int 1, .int 1]) (st1 := [.int m, .int 1]) (h1 := (124, I, J, R)) rfl ?_
  refine ev_br (b1 := false) rfl rfl (xcd_nge (x := 1) (y := m) (by rw [show ((1 : Int32)).toInt = 1 from by decide]; first | exact b1 | omega)) ?_
  refine ev_go 6 (pc1 := 70) (lv1 := [.ref 86, .int p, .int m, .int 4, .int 21, .int 25, .int 1, .int 1]) (st1 := [.int 22, .retAddr 8]) (h1 := (124, I, J, R)) rfl ?_
  refine ev_903 (k := 6) h4 rfl rfl (by decide) (by decide) (by decide) (by decide) (x := 105) rfl ?_
  refine ev_go 4 (pc1 := 78) (lv1 := [.ref 86, .int p, .int m, .int 4, .int 21, .int 25, .int 1, .int 1]) (st1 := [.int (p + 1), .ref 86, .int 105]) (h1 := (124, I, J, R)) rfl ?_
  refine ev_call (v1 := (some (.int x))) (h1 := (124, I, J, R)) rfl rfl c1 ?_
  refine ev_br (b1 := false) rfl rfl (xcd_nne (x := 105) (y := x) (by rw [show ((105 : Int32)).toInt = 105 from by decide]; first | exact b2 | omega)) ?_
  refine ev_go 5 (pc1 := 52) (lv1 := [.ref 86, .int p, .int m, .int 4, .int 21, .int 25, .int 1, .int 2]) (st1 := []) (h1 := (124, I, J, R)) rfl ?_
  exact hk
set_option maxRecDepth 20000 in
theorem kyE4_1 {L : Nat} {xs : Nat → Int32} {d : Nat} {I : Nat → Nat → Int32} {J : Nat → Nat → Int64} {R : Nat → Nat → Nat} {p m x : Int32} (hG : aGd R) (h4 : 4 ≤ d + 1) (b1 : 1 < m.toInt) (c1 : xEv L xs d 151 0 [.ref 86, .int (p + 1)] [] (124, I, J, R) (some (.int x)) (124, I, J, R)) (b2 : 105 ≠ x.toInt) {v : Option Value} {h' : xH} (hk : xEv L xs (d + 1) 153 52 [.ref 86, .int p, .int m, .int 4, .int 21, .int 25, .int 0, .int 2] [] (124, I, J, R) v h') : xEv L xs (d + 1) 153 52 [.ref 86, .int p, .int m, .int 4, .int 21, .int 25, .int 1, .int 1] [] (124, I, J, R) v h' := by
  refine ev_go 2 (pc1 := 55) (lv1 := [.ref 86, .int p, .int m, .int 4, .int 21, .int 25, .int 1, .int 1]) (st1 := [.int m, .int 1]) (h1 := (124, I, J, R)) rfl ?_
  refine ev_br (b1 := false) rfl rfl (xcd_nge (x := 1) (y := m) (by rw [show ((1 : Int32)).toInt = 1 from by decide]; first | exact b1 | omega)) ?_
  refine ev_go 6 (pc1 := 70) (lv1 := [.ref 86, .int p, .int m, .int 4, .int 21, .int 25, .int 1, .int 1]) (st1 := [.int 22, .retAddr 8]) (h1 := (124, I, J, R)) rfl ?_
  refine ev_903 (k := 6) h4 rfl rfl (by decide) (by decide) (by decide) (by decide) (x := 105) rfl ?_
  refine ev_go 4 (pc1 := 78) (lv1 := [.ref 86, .int p, .int m, .int 4, .int 21, .int 25, .int 1, .int 1]) (st1 := [.int (p + 1), .ref 86, .int 105]) (h1 := (124, I, J, R)) rfl ?_
  refine ev_call (v1 := (some (.int x))) (h1 := (124, I, J, R)) rfl rfl c1 ?_
  refine ev_br (b1 := true) rfl rfl (xcd_ne (x := 105) (y := x) (by rw [show ((105 : Int32)).toInt = 105 from by decide]; first | exact b2 | omega)) ?_
  refine ev_go 4 (pc1 := 52) (lv1 := [.ref 86, .int p, .int m, .int 4, .int 21, .int 25, .int 0, .int 2]) (st1 := []) (h1 := (124, I, J, R)) rfl ?_
  exact hk
set_option maxRecDepth 20000 in
theorem kyG4_2 {L : Nat} {xs : Nat → Int32} {d : Nat} {I : Nat → Nat → Int32} {J : Nat → Nat → Int64} {R : Nat → Nat → Nat} {p m : Int32} (hG : aGd R) (h4 : 4 ≤ d) (b1 : 2 < m.toInt) {v : Option Value} {h' : xH} (hk : xEv L xs d 153 8 [.ref 86, .int p, .int m, .int 5, .int 26, .int 26, .int 0, .int 2] [] (124, I, J, R) v h') : xEv L xs d 153 52 [.ref 86, .int p, .int m, .int 4, .int 21, .int 25, .int 0, .int 2] [] (124, I, J, R) v h' := by
  refine ev_go 2 (pc1 := 55) (lv1 := [.ref 86, .int p, .int m, .int 4, .int 21, .int 25, .int 0, .int 2]) (st1 := [.int m, .int 2]) (h1 := (124, I, J, R)) rfl ?_
  refine ev_br (b1 := false) rfl rfl (xcd_nge (x := 2) (y := m) (by rw [show ((2 : Int32)).toInt = 2 from by decide]; first | exact b1 | omega)) ?_
  refine ev_go 11 (pc1 := 8) (lv1 := [.ref 86, .int p, .int m, .int 5, .int 26, .int 26, .int 0, .int 2]) (st1 := []) (h1 := (124, I, J, R)) rfl ?_
  exact hk
set_option maxRecDepth 20000 in
theorem kyD4_2 {L : Nat} {xs : Nat → Int32} {d : Nat} {I : Nat → Nat → Int32} {J : Nat → Nat → Int64} {R : Nat → Nat → Nat} {p m x : Int32} (hG : aGd R) (h4 : 4 ≤ d + 1) (b1 : 2 < m.toInt) (c1 : xEv L xs d 151 0 [.ref 86, .int (p + 2)] [] (124, I, J, R) (some (.int x)) (124, I, J, R)) (b2 : 101 = x.toInt) {v : Option Value} {h' : xH} (hk : xEv L xs (d + 1) 153 52 [.ref 86, .int p, .int m, .int 4, .int 21, .int 25, .int 1, .int 3] [] (124, I, J, R) v h') : xEv L xs (d + 1) 153 52 [.ref 86, .int p, .int m, .int 4, .int 21, .int 25, .int 1, .int 2] [] (124, I, J, R) v h' := by
  refine ev_go 2 (pc1 := 55) (lv1 := [.ref 86, .int p, .int m, .int 4, .int 21, .int 25, .int 1, .int 2]) (st1 := [.int m, .int 2]) (h1 := (124, I, J, R)) rfl ?_
  refine ev_br (b1 := false) rfl rfl (xcd_nge (x := 2) (y := m) (by rw [show ((2 : Int32)).toInt = 2 from by decide]; first | exact b1 | omega)) ?_
  refine ev_go 6 (pc1 := 70) (lv1 := [.ref 86, .int p, .int m, .int 4, .int 21, .int 25, .int 1, .int 2]) (st1 := [.int 23, .retAddr 8]) (h1 := (124, I, J, R)) rfl ?_
  refine ev_903 (k := 6) h4 rfl rfl (by decide) (by decide) (by decide) (by decide) (x := 101) rfl ?_
  refine ev_go 4 (pc1 := 78) (lv1 := [.ref 86, .int p, .int m, .int 4, .int 21, .int 25, .int 1, .int 2]) (st1 := [.int (p + 2), .ref 86, .int 101]) (h1 := (124, I, J, R)) rfl ?_
  refine ev_call (v1 := (some (.int x))) (h1 := (124, I, J, R)) rfl rfl c1 ?_
  refine ev_br (b1 := false) rfl rfl (xcd_nne (x := 101) (y := x) (by rw [show ((101 : Int32)).toInt = 101 from by decide]; first | exact b2 | omega)) ?_
  refine ev_go 5 (pc1 := 52) (lv1 := [.ref 86, .int p, .int m, .int 4, .int 21, .int 25, .int 1, .int 3]) (st1 := []) (h1 := (124, I, J, R)) rfl ?_
  exact hk
set_option maxRecDepth 20000 in
theorem kyE4_2 {L : Nat} {xs : Nat → Int32} {d : Nat} {I : Nat → Nat → Int32} {J : Nat → Nat → Int64} {R : Nat → Nat → Nat} {p m x : Int32} (hG : aGd R) (h4 : 4 ≤ d + 1) (b1 : 2 < m.toInt) (c1 : xEv L xs d 151 0 [.ref 86, .int (p + 2)] [] (124, I, J, R) (some (.int x)) (124, I, J, R)) (b2 : 101 ≠ x.toInt) {v : Option Value} {h' : xH} (hk : xEv L xs (d + 1) 153 52 [.ref 86, .int p, .int m, .int 4, .int 21, .int 25, .int 0, .int 3] [] (124, I, J, R) v h') : xEv L xs (d + 1) 153 52 [.ref 86, .int p, .int m, .int 4, .int 21, .int 25, .int 1, .int 2] [] (124, I, J, R) v h' := by
  refine ev_go 2 (pc1 := 55) (lv1 := [.ref 86, .int p, .int m, .int 4, .int 21, .int 25, .int 1, .int 2]) (st1 := [.int m, .int 2]) (h1 := (124, I, J, R)) rfl ?_
  refine ev_br (b1 := false) rfl rfl (xcd_nge (x := 2) (y := m) (by rw [show ((2 : Int32)).toInt = 2 from by decide]; first | exact b1 | omega)) ?_
  refine ev_go 6 (pc1 := 70) (lv1 := [.ref 86, .int p, .int m, .int 4, .int 21, .int 25, .int 1, .int 2]) (st1 := [.int 23, .retAddr 8]) (h1 := (124, I, J, R)) rfl ?_
  refine ev_903 (k := 6) h4 rfl rfl (by decide) (by decide) (by decide) (by decide) (x := 101) rfl ?_
  refine ev_go 4 (pc1 := 78) (lv1 := [.ref 86, .int p, .int m, .int 4, .int 21, .int 25, .int 1, .int 2]) (st1 := [.int (p + 2), .ref 86, .int 101]) (h1 := (124, I, J, R)) rfl ?_
  refine ev_call (v1 := (some (.int x))) (h1 := (124, I, J, R)) rfl rfl c1 ?_
  refine ev_br (b1 := true) rfl rfl (xcd_ne (x := 101) (y := x) (by rw [show ((101 : Int32)).toInt = 101 from by decide]; first | exact b2 | omega)) ?_
  refine ev_go 4 (pc1 := 52) (lv1 := [.ref 86, .int p, .int m, .int 4, .int 21, .int 25, .int 0, .int 3]) (st1 := []) (h1 := (124, I, J, R)) rfl ?_
  exact hk
set_option maxRecDepth 20000 in
theorem kyG4_3 {L : Nat} {xs : Nat → Int32} {d : Nat} {I : Nat → Nat → Int32} {J : Nat → Nat → Int64} {R : Nat → Nat → Nat} {p m : Int32} (hG : aGd R) (h4 : 4 ≤ d) (b1 : 3 < m.toInt) {v : Option Value} {h' : xH} (hk : xEv L xs d 153 8 [.ref 86, .int p, .int m, .int 5, .int 26, .int 26, .int 0, .int 3] [] (124, I, J, R) v h') : xEv L xs d 153 52 [.ref 86, .int p, .int m, .int 4, .int 21, .int 25, .int 0, .int 3] [] (124, I, J, R) v h' := by
  refine ev_go 2 (pc1 := 55) (lv1 := [.ref 86, .int p, .int m, .int 4, .int 21, .int 25, .int 0, .int 3]) (st1 := [.int m, .int 3]) (h1 := (124, I, J, R)) rfl ?_
  refine ev_br (b1 := false) rfl rfl (xcd_nge (x := 3) (y := m) (by rw [show ((3 : Int32)).toInt = 3 from by decide]; first | exact b1 | omega)) ?_
  refine ev_go 11 (pc1 := 8) (lv1 := [.ref 86, .int p, .int m, .int 5, .int 26, .int 26, .int 0, .int 3]) (st1 := []) (h1 := (124, I, J, R)) rfl ?_
  exact hk
set_option maxRecDepth 20000 in
theorem kyD4_3 {L : Nat} {xs : Nat → Int32} {d : Nat} {I : Nat → Nat → Int32} {J : Nat → Nat → Int64} {R : Nat → Nat → Nat} {p m x : Int32} (hG : aGd R) (h4 : 4 ≤ d + 1) (b1 : 3 < m.toInt) (c1 : xEv L xs d 151 0 [.ref 86, .int (p + 3)] [] (124, I, J, R) (some (.int x)) (124, I, J, R)) (b2 : 115 = x.toInt) {v : Option Value} {h' : xH} (hk : xEv L xs (d + 1) 153 52 [.ref 86, .int p, .int m, .int 4, .int 21, .int 25, .int 1, .int 4] [] (124, I, J, R) v h') : xEv L xs (d + 1) 153 52 [.ref 86, .int p, .int m, .int 4, .int 21, .int 25, .int 1, .int 3] [] (124, I, J, R) v h' := by
  refine ev_go 2 (pc1 := 55) (lv1 := [.ref 86, .int p, .int m, .int 4, .int 21, .int 25, .int 1, .int 3]) (st1 := [.int m, .int 3]) (h1 := (124, I, J, R)) rfl ?_
  refine ev_br (b1 := false) rfl rfl (xcd_nge (x := 3) (y := m) (by rw [show ((3 : Int32)).toInt = 3 from by decide]; first | exact b1 | omega)) ?_
  refine ev_go 6 (pc1 := 70) (lv1 := [.ref 86, .int p, .int m, .int 4, .int 21, .int 25, .int 1, .int 3]) (st1 := [.int 24, .retAddr 8]) (h1 := (124, I, J, R)) rfl ?_
  refine ev_903 (k := 6) h4 rfl rfl (by decide) (by decide) (by decide) (by decide) (x := 115) rfl ?_
  refine ev_go 4 (pc1 := 78) (lv1 := [.ref 86, .int p, .int m, .int 4, .int 21, .int 25, .int 1, .int 3]) (st1 := [.int (p + 3), .ref 86, .int 115]) (h1 := (124, I, J, R)) rfl ?_
  refine ev_call (v1 := (some (.int x))) (h1 := (124, I, J, R)) rfl rfl c1 ?_
  refine ev_br (b1 := false) rfl rfl (xcd_nne (x := 115) (y := x) (by rw [show ((115 : Int32)).toInt = 115 from by decide]; first | exact b2 | omega)) ?_
  refine ev_go 5 (pc1 := 52) (lv1 := [.ref 86, .int p, .int m, .int 4, .int 21, .int 25, .int 1, .int 4]) (st1 := []) (h1 := (124, I, J, R)) rfl ?_
  exact hk
set_option maxRecDepth 20000 in
theorem kyE4_3 {L : Nat} {xs : Nat → Int32} {d : Nat} {I : Nat → Nat → Int32} {J : Nat → Nat → Int64} {R : Nat → Nat → Nat} {p m x : Int32} (hG : aGd R) (h4 : 4 ≤ d + 1) (b1 : 3 < m.toInt) (c1 : xEv L xs d 151 0 [.ref 86, .int (p + 3)] [] (124, I, J, R) (some (.int x)) (124, I, J, R)) (b2 : 115 ≠ x.toInt) {v : Option Value} {h' : xH} (hk : xEv L xs (d + 1) 153 52 [.ref 86, .int p, .int m, .int 4, .int 21, .int 25, .int 0, .int 4] [] (124, I, J, R) v h') : xEv L xs (d + 1) 153 52 [.ref 86, .int p, .int m, .int 4, .int 21, .int 25, .int 1, .int 3] [] (124, I, J, R) v h' := by
  refine ev_go 2 (pc1 := 55) (lv1 := [.ref 86, .int p, .int m, .int 4, .int 21, .int 25, .int 1, .int 3]) (st1 := [.int m, .int 3]) (h1 := (124, I, J, R)) rfl ?_
  refine ev_br (b1 := false) rfl rfl (xcd_nge (x := 3) (y := m) (by rw [show ((3 : Int32)).toInt = 3 from by decide]; first | exact b1 | omega)) ?_
  refine ev_go 6 (pc1 := 70) (lv1 := [.ref 86, .int p, .int m, .int 4, .int 21, .int 25, .int 1, .int 3]) (st1 := [.int 24, .retAddr 8]) (h1 := (124, I, J, R)) rfl ?_
  refine ev_903 (k := 6) h4 rfl rfl (by decide) (by decide) (by decide) (by decide) (x := 115) rfl ?_
  refine ev_go 4 (pc1 := 78) (lv1 := [.ref 86, .int p, .int m, .int 4, .int 21, .int 25, .int 1, .int 3]) (st1 := [.int (p + 3), .ref 86, .int 115]) (h1 := (124, I, J, R)) rfl ?_
  refine ev_call (v1 := (some (.int x))) (h1 := (124, I, J, R)) rfl rfl c1 ?_
  refine ev_br (b1 := true) rfl rfl (xcd_ne (x := 115) (y := x) (by rw [show ((115 : Int32)).toInt = 115 from by decide]; first | exact b2 | omega)) ?_
  refine ev_go 4 (pc1 := 52) (lv1 := [.ref 86, .int p, .int m, .int 4, .int 21, .int 25, .int 0, .int 4]) (st1 := []) (h1 := (124, I, J, R)) rfl ?_
  exact hk
set_option maxRecDepth 20000 in
theorem kyG4_4 {L : Nat} {xs : Nat → Int32} {d : Nat} {I : Nat → Nat → Int32} {J : Nat → Nat → Int64} {R : Nat → Nat → Nat} {p m : Int32} (hG : aGd R) (h4 : 4 ≤ d) (b1 : 4 ≥ m.toInt) {v : Option Value} {h' : xH} (hk : xEv L xs d 153 8 [.ref 86, .int p, .int m, .int 5, .int 26, .int 26, .int 0, .int 4] [] (124, I, J, R) v h') : xEv L xs d 153 52 [.ref 86, .int p, .int m, .int 4, .int 21, .int 25, .int 0, .int 4] [] (124, I, J, R) v h' := by
  refine ev_go 2 (pc1 := 55) (lv1 := [.ref 86, .int p, .int m, .int 4, .int 21, .int 25, .int 0, .int 4]) (st1 := [.int m, .int 4]) (h1 := (124, I, J, R)) rfl ?_
  refine ev_br (b1 := true) rfl rfl (xcd_ge (x := 4) (y := m) (by rw [show ((4 : Int32)).toInt = 4 from by decide]; first | exact b1 | omega)) ?_
  refine ev_go 9 (pc1 := 8) (lv1 := [.ref 86, .int p, .int m, .int 5, .int 26, .int 26, .int 0, .int 4]) (st1 := []) (h1 := (124, I, J, R)) rfl ?_
  exact hk
set_option maxRecDepth 20000 in
theorem kyF4 {L : Nat} {xs : Nat → Int32} {d : Nat} {I : Nat → Nat → Int32} {J : Nat → Nat → Int64} {R : Nat → Nat → Nat} {p m : Int32} (hG : aGd R) (h4 : 4 ≤ d) (b1 : 4 ≥ m.toInt) : xEv L xs d 153 52 [.ref 86, .int p, .int m, .int 4, .int 21, .int 25, .int 1, .int 4] [] (124, I, J, R) (some (.int 4)) (124, I, J, R) := by
  refine ev_go 2 (pc1 := 55) (lv1 := [.ref 86, .int p, .int m, .int 4, .int 21, .int 25, .int 1, .int 4]) (st1 := [.int m, .int 4]) (h1 := (124, I, J, R)) rfl ?_
  refine ev_br (b1 := true) rfl rfl (xcd_ge (x := 4) (y := m) (by rw [show ((4 : Int32)).toInt = 4 from by decide]; first | exact b1 | omega)) ?_
  refine ev_go 3 (pc1 := 103) (lv1 := [.ref 86, .int p, .int m, .int 4, .int 21, .int 25, .int 1, .int 4]) (st1 := [.int 4]) (h1 := (124, I, J, R)) rfl ?_
  exact ev_ret rfl rfl
set_option maxRecDepth 20000 in
theorem kyA5 {L : Nat} {xs : Nat → Int32} {d : Nat} {I : Nat → Nat → Int32} {J : Nat → Nat → Int64} {R : Nat → Nat → Nat} {p m : Int32} {w6 w7 : Value} (hG : aGd R) (h4 : 4 ≤ d)  {v : Option Value} {h' : xH} (hk : xEv L xs d 153 33 [.ref 86, .int p, .int m, .int 5, .int 26, .int 32, w6, w7] [] (124, I, J, R) v h') : xEv L xs d 153 8 [.ref 86, .int p, .int m, .int 5, .int 26, .int 26, w6, w7] [] (124, I, J, R) v h' := by
  refine ev_go 2 (pc1 := 12) (lv1 := [.ref 86, .int p, .int m, .int 5, .int 26, .int 26, w6, w7]) (st1 := [.retAddr 8, .int 26]) (h1 := (124, I, J, R)) rfl ?_
  refine ev_902 (k := 6) h4 rfl rfl (by decide) (by decide) (x := 33) rfl ?_
  refine ev_go 3 (pc1 := 22) (lv1 := [.ref 86, .int p, .int m, .int 5, .int 26, .int 26, w6, w7]) (st1 := [.int 26, .retAddr 8]) (h1 := (124, I, J, R)) rfl ?_
  refine ev_903 (k := 6) h4 rfl rfl (by decide) (by decide) (by decide) (by decide) (x := 99) rfl ?_
  refine ev_go 7 (pc1 := 12) (lv1 := [.ref 86, .int p, .int m, .int 5, .int 26, .int 27, w6, w7]) (st1 := [.retAddr 8, .int 27]) (h1 := (124, I, J, R)) rfl ?_
  refine ev_902 (k := 6) h4 rfl rfl (by decide) (by decide) (x := 33) rfl ?_
  refine ev_go 3 (pc1 := 22) (lv1 := [.ref 86, .int p, .int m, .int 5, .int 26, .int 27, w6, w7]) (st1 := [.int 27, .retAddr 8]) (h1 := (124, I, J, R)) rfl ?_
  refine ev_903 (k := 6) h4 rfl rfl (by decide) (by decide) (by decide) (by decide) (x := 104) rfl ?_
  refine ev_go 7 (pc1 := 12) (lv1 := [.ref 86, .int p, .int m, .int 5, .int 26, .int 28, w6, w7]) (st1 := [.retAddr 8, .int 28]) (h1 := (124, I, J, R)) rfl ?_
  refine ev_902 (k := 6) h4 rfl rfl (by decide) (by decide) (x := 33) rfl ?_
  refine ev_go 3 (pc1 := 22) (lv1 := [.ref 86, .int p, .int m, .int 5, .int 26, .int 28, w6, w7]) (st1 := [.int 28, .retAddr 8]) (h1 := (124, I, J, R)) rfl ?_
  refine ev_903 (k := 6) h4 rfl rfl (by decide) (by decide) (by decide) (by decide) (x := 97) rfl ?_
  refine ev_go 7 (pc1 := 12) (lv1 := [.ref 86, .int p, .int m, .int 5, .int 26, .int 29, w6, w7]) (st1 := [.retAddr 8, .int 29]) (h1 := (124, I, J, R)) rfl ?_
  refine ev_902 (k := 6) h4 rfl rfl (by decide) (by decide) (x := 33) rfl ?_
  refine ev_go 3 (pc1 := 22) (lv1 := [.ref 86, .int p, .int m, .int 5, .int 26, .int 29, w6, w7]) (st1 := [.int 29, .retAddr 8]) (h1 := (124, I, J, R)) rfl ?_
  refine ev_903 (k := 6) h4 rfl rfl (by decide) (by decide) (by decide) (by decide) (x := 110) rfl ?_
  refine ev_go 7 (pc1 := 12) (lv1 := [.ref 86, .int p, .int m, .int 5, .int 26, .int 30, w6, w7]) (st1 := [.retAddr 8, .int 30]) (h1 := (124, I, J, R)) rfl ?_
  refine ev_902 (k := 6) h4 rfl rfl (by decide) (by decide) (x := 33) rfl ?_
  refine ev_go 3 (pc1 := 22) (lv1 := [.ref 86, .int p, .int m, .int 5, .int 26, .int 30, w6, w7]) (st1 := [.int 30, .retAddr 8]) (h1 := (124, I, J, R)) rfl ?_
  refine ev_903 (k := 6) h4 rfl rfl (by decide) (by decide) (by decide) (by decide) (x := 99) rfl ?_
  refine ev_go 7 (pc1 := 12) (lv1 := [.ref 86, .int p, .int m, .int 5, .int 26, .int 31, w6, w7]) (st1 := [.retAddr 8, .int 31]) (h1 := (124, I, J, R)) rfl ?_
  refine ev_902 (k := 6) h4 rfl rfl (by decide) (by decide) (x := 33) rfl ?_
  refine ev_go 3 (pc1 := 22) (lv1 := [.ref 86, .int p, .int m, .int 5, .int 26, .int 31, w6, w7]) (st1 := [.int 31, .retAddr 8]) (h1 := (124, I, J, R)) rfl ?_
  refine ev_903 (k := 6) h4 rfl rfl (by decide) (by decide) (by decide) (by decide) (x := 101) rfl ?_
  refine ev_go 7 (pc1 := 12) (lv1 := [.ref 86, .int p, .int m, .int 5, .int 26, .int 32, w6, w7]) (st1 := [.retAddr 8, .int 32]) (h1 := (124, I, J, R)) rfl ?_
  refine ev_902 (k := 6) h4 rfl rfl (by decide) (by decide) (x := 33) rfl ?_
  refine ev_go 3 (pc1 := 22) (lv1 := [.ref 86, .int p, .int m, .int 5, .int 26, .int 32, w6, w7]) (st1 := [.int 32, .retAddr 8]) (h1 := (124, I, J, R)) rfl ?_
  refine ev_903 (k := 6) h4 rfl rfl (by decide) (by decide) (by decide) (by decide) (x := 32) rfl ?_
  refine ev_go 2 (pc1 := 33) (lv1 := [.ref 86, .int p, .int m, .int 5, .int 26, .int 32, w6, w7]) (st1 := []) (h1 := (124, I, J, R)) rfl ?_
  exact hk
set_option maxRecDepth 20000 in
theorem kyB5 {L : Nat} {xs : Nat → Int32} {d : Nat} {I : Nat → Nat → Int32} {J : Nat → Nat → Int64} {R : Nat → Nat → Nat} {p m : Int32} {w6 w7 : Value} (hG : aGd R) (h4 : 4 ≤ d) (b1 : 6 ≠ m.toInt) (b2 : 0 < m.toInt) {v : Option Value} {h' : xH} (hk : xEv L xs d 153 8 [.ref 86, .int p, .int m, .int 6, .int 33, .int 33, .int 0, .int 0] [] (124, I, J, R) v h') : xEv L xs d 153 33 [.ref 86, .int p, .int m, .int 5, .int 26, .int 32, w6, w7] [] (124, I, J, R) v h' := by
  refine ev_go 4 (pc1 := 39) (lv1 := [.ref 86, .int p, .int m, .int 5, .int 26, .int 32, w6, w7]) (st1 := [.int m, .int 6]) (h1 := (124, I, J, R)) rfl ?_
  refine ev_br (b1 := true) rfl rfl (xcd_ne (x := 6) (y := m) (by rw [show ((6 : Int32)).toInt = 6 from by decide]; first | exact b1 | omega)) ?_
  refine ev_go 6 (pc1 := 55) (lv1 := [.ref 86, .int p, .int m, .int 5, .int 26, .int 32, .int 0, .int 0]) (st1 := [.int m, .int 0]) (h1 := (124, I, J, R)) rfl ?_
  refine ev_br (b1 := false) rfl rfl (xcd_nge (x := 0) (y := m) (by rw [show ((0 : Int32)).toInt = 0 from by decide]; first | exact b2 | omega)) ?_
  refine ev_go 11 (pc1 := 8) (lv1 := [.ref 86, .int p, .int m, .int 6, .int 33, .int 33, .int 0, .int 0]) (st1 := []) (h1 := (124, I, J, R)) rfl ?_
  exact hk
set_option maxRecDepth 20000 in
theorem kyC5 {L : Nat} {xs : Nat → Int32} {d : Nat} {I : Nat → Nat → Int32} {J : Nat → Nat → Int64} {R : Nat → Nat → Nat} {p m : Int32} {w6 w7 : Value} (hG : aGd R) (h4 : 4 ≤ d) (b1 : 6 = m.toInt) {v : Option Value} {h' : xH} (hk : xEv L xs d 153 52 [.ref 86, .int p, .int m, .int 5, .int 26, .int 32, .int 1, .int 0] [] (124, I, J, R) v h') : xEv L xs d 153 33 [.ref 86, .int p, .int m, .int 5, .int 26, .int 32, w6, w7] [] (124, I, J, R) v h' := by
  refine ev_go 4 (pc1 := 39) (lv1 := [.ref 86, .int p, .int m, .int 5, .int 26, .int 32, w6, w7]) (st1 := [.int m, .int 6]) (h1 := (124, I, J, R)) rfl ?_
  refine ev_br (b1 := false) rfl rfl (xcd_nne (x := 6) (y := m) (by rw [show ((6 : Int32)).toInt = 6 from by decide]; first | exact b1 | omega)) ?_
  refine ev_go 5 (pc1 := 52) (lv1 := [.ref 86, .int p, .int m, .int 5, .int 26, .int 32, .int 1, .int 0]) (st1 := []) (h1 := (124, I, J, R)) rfl ?_
  exact hk
set_option maxRecDepth 20000 in
theorem kyD5_0 {L : Nat} {xs : Nat → Int32} {d : Nat} {I : Nat → Nat → Int32} {J : Nat → Nat → Int64} {R : Nat → Nat → Nat} {p m x : Int32} (hG : aGd R) (h4 : 4 ≤ d + 1) (b1 : 0 < m.toInt) (c1 : xEv L xs d 151 0 [.ref 86, .int (p + 0)] [] (124, I, J, R) (some (.int x)) (124, I, J, R)) (b2 : 99 = x.toInt) {v : Option Value} {h' : xH} (hk : xEv L xs (d + 1) 153 52 [.ref 86, .int p, .int m, .int 5, .int 26, .int 32, .int 1, .int 1] [] (124, I, J, R) v h') : xEv L xs (d + 1) 153 52 [.ref 86, .int p, .int m, .int 5, .int 26, .int 32, .int 1, .int 0] [] (124, I, J, R) v h' := by
  refine ev_go 2 (pc1 := 55) (lv1 := [.ref 86, .int p, .int m, .int 5, .int 26, .int 32, .int 1, .int 0]) (st1 := [.int m, .int 0]) (h1 := (124, I, J, R)) rfl ?_
  refine ev_br (b1 := false) rfl rfl (xcd_nge (x := 0) (y := m) (by rw [show ((0 : Int32)).toInt = 0 from by decide]; first | exact b1 | omega)) ?_
  refine ev_go 6 (pc1 := 70) (lv1 := [.ref 86, .int p, .int m, .int 5, .int 26, .int 32, .int 1, .int 0]) (st1 := [.int 26, .retAddr 8]) (h1 := (124, I, J, R)) rfl ?_
  refine ev_903 (k := 6) h4 rfl rfl (by decide) (by decide) (by decide) (by decide) (x := 99) rfl ?_
  refine ev_go 4 (pc1 := 78) (lv1 := [.ref 86, .int p, .int m, .int 5, .int 26, .int 32, .int 1, .int 0]) (st1 := [.int (p + 0), .ref 86, .int 99]) (h1 := (124, I, J, R)) rfl ?_
  refine ev_call (v1 := (some (.int x))) (h1 := (124, I, J, R)) rfl rfl c1 ?_
  refine ev_br (b1 := false) rfl rfl (xcd_nne (x := 99) (y := x) (by rw [show ((99 : Int32)).toInt = 99 from by decide]; first | exact b2 | omega)) ?_
  refine ev_go 5 (pc1 := 52) (lv1 := [.ref 86, .int p, .int m, .int 5, .int 26, .int 32, .int 1, .int 1]) (st1 := []) (h1 := (124, I, J, R)) rfl ?_
  exact hk
set_option maxRecDepth 20000 in
theorem kyE5_0 {L : Nat} {xs : Nat → Int32} {d : Nat} {I : Nat → Nat → Int32} {J : Nat → Nat → Int64} {R : Nat → Nat → Nat} {p m x : Int32} (hG : aGd R) (h4 : 4 ≤ d + 1) (b1 : 0 < m.toInt) (c1 : xEv L xs d 151 0 [.ref 86, .int (p + 0)] [] (124, I, J, R) (some (.int x)) (124, I, J, R)) (b2 : 99 ≠ x.toInt) {v : Option Value} {h' : xH} (hk : xEv L xs (d + 1) 153 52 [.ref 86, .int p, .int m, .int 5, .int 26, .int 32, .int 0, .int 1] [] (124, I, J, R) v h') : xEv L xs (d + 1) 153 52 [.ref 86, .int p, .int m, .int 5, .int 26, .int 32, .int 1, .int 0] [] (124, I, J, R) v h' := by
  refine ev_go 2 (pc1 := 55) (lv1 := [.ref 86, .int p, .int m, .int 5, .int 26, .int 32, .int 1, .int 0]) (st1 := [.int m, .int 0]) (h1 := (124, I, J, R)) rfl ?_
  refine ev_br (b1 := false) rfl rfl (xcd_nge (x := 0) (y := m) (by rw [show ((0 : Int32)).toInt = 0 from by decide]; first | exact b1 | omega)) ?_
  refine ev_go 6 (pc1 := 70) (lv1 := [.ref 86, .int p, .int m, .int 5, .int 26, .int 32, .int 1, .int 0]) (st1 := [.int 26, .retAddr 8]) (h1 := (124, I, J, R)) rfl ?_
  refine ev_903 (k := 6) h4 rfl rfl (by decide) (by decide) (by decide) (by decide) (x := 99) rfl ?_
  refine ev_go 4 (pc1 := 78) (lv1 := [.ref 86, .int p, .int m, .int 5, .int 26, .int 32, .int 1, .int 0]) (st1 := [.int (p + 0), .ref 86, .int 99]) (h1 := (124, I, J, R)) rfl ?_
  refine ev_call (v1 := (some (.int x))) (h1 := (124, I, J, R)) rfl rfl c1 ?_
  refine ev_br (b1 := true) rfl rfl (xcd_ne (x := 99) (y := x) (by rw [show ((99 : Int32)).toInt = 99 from by decide]; first | exact b2 | omega)) ?_
  refine ev_go 4 (pc1 := 52) (lv1 := [.ref 86, .int p, .int m, .int 5, .int 26, .int 32, .int 0, .int 1]) (st1 := []) (h1 := (124, I, J, R)) rfl ?_
  exact hk
set_option maxRecDepth 20000 in
theorem kyG5_1 {L : Nat} {xs : Nat → Int32} {d : Nat} {I : Nat → Nat → Int32} {J : Nat → Nat → Int64} {R : Nat → Nat → Nat} {p m : Int32} (hG : aGd R) (h4 : 4 ≤ d) (b1 : 1 < m.toInt) {v : Option Value} {h' : xH} (hk : xEv L xs d 153 8 [.ref 86, .int p, .int m, .int 6, .int 33, .int 33, .int 0, .int 1] [] (124, I, J, R) v h') : xEv L xs d 153 52 [.ref 86, .int p, .int m, .int 5, .int 26, .int 32, .int 0, .int 1] [] (124, I, J, R) v h' := by
  refine ev_go 2 (pc1 := 55) (lv1 := [.ref 86, .int p, .int m, .int 5, .int 26, .int 32, .int 0, .int 1]) (st1 := [.int m, .int 1]) (h1 := (124, I, J, R)) rfl ?_
  refine ev_br (b1 := false) rfl rfl (xcd_nge (x := 1) (y := m) (by rw [show ((1 : Int32)).toInt = 1 from by decide]; first | exact b1 | omega)) ?_
  refine ev_go 11 (pc1 := 8) (lv1 := [.ref 86, .int p, .int m, .int 6, .int 33, .int 33, .int 0, .int 1]) (st1 := []) (h1 := (124, I, J, R)) rfl ?_
  exact hk
set_option maxRecDepth 20000 in
theorem kyD5_1 {L : Nat} {xs : Nat → Int32} {d : Nat} {I : Nat → Nat → Int32} {J : Nat → Nat → Int64} {R : Nat → Nat → Nat} {p m x : Int32} (hG : aGd R) (h4 : 4 ≤ d + 1) (b1 : 1 < m.toInt) (c1 : xEv L xs d 151 0 [.ref 86, .int (p + 1)] [] (124, I, J, R) (some (.int x)) (124, I, J, R)) (b2 : 104 = x.toInt) {v : Option Value} {h' : xH} (hk : xEv L xs (d + 1) 153 52 [.ref 86, .int p, .int m, .int 5, .int 26, .int 32, .int 1, .int 2] [] (124, I, J, R) v h') : xEv L xs (d + 1) 153 52 [.ref 86, .int p, .int m, .int 5, .int 26, .int 32, .int 1, .int 1] [] (124, I, J, R) v h' := by
  refine ev_go 2 (pc1 := 55) (lv1 := [.ref 86, .int p, .int m, .int 5, .int 26, .int 32, .int 1, .int 1]) (st1 := [.int m, .int 1]) (h1 := (124, I, J, R)) rfl ?_
  refine ev_br (b1 := false) rfl rfl (xcd_nge (x := 1) (y := m) (by rw [show ((1 : Int32)).toInt = 1 from by decide]; first | exact b1 | omega)) ?_
  refine ev_go 6 (pc1 := 70) (lv1 := [.ref 86, .int p, .int m, .int 5, .int 26, .int 32, .int 1, .int 1]) (st1 := [.int 27, .retAddr 8]) (h1 := (124, I, J, R)) rfl ?_
  refine ev_903 (k := 6) h4 rfl rfl (by decide) (by decide) (by decide) (by decide) (x := 104) rfl ?_
  refine ev_go 4 (pc1 := 78) (lv1 := [.ref 86, .int p, .int m, .int 5, .int 26, .int 32, .int 1, .int 1]) (st1 := [.int (p + 1), .ref 86, .int 104]) (h1 := (124, I, J, R)) rfl ?_
  refine ev_call (v1 := (some (.int x))) (h1 := (124, I, J, R)) rfl rfl c1 ?_
  refine ev_br (b1 := false) rfl rfl (xcd_nne (x := 104) (y := x) (by rw [show ((104 : Int32)).toInt = 104 from by decide]; first | exact b2 | omega)) ?_
  refine ev_go 5 (pc1 := 52) (lv1 := [.ref 86, .int p, .int m, .int 5, .int 26, .int 32, .int 1, .int 2]) (st1 := []) (h1 := (124, I, J, R)) rfl ?_
  exact hk
set_option maxRecDepth 20000 in
theorem kyE5_1 {L : Nat} {xs : Nat → Int32} {d : Nat} {I : Nat → Nat → Int32} {J : Nat → Nat → Int64} {R : Nat → Nat → Nat} {p m x : Int32} (hG : aGd R) (h4 : 4 ≤ d + 1) (b1 : 1 < m.toInt) (c1 : xEv L xs d 151 0 [.ref 86, .int (p + 1)] [] (124, I, J, R) (some (.int x)) (124, I, J, R)) (b2 : 104 ≠ x.toInt) {v : Option Value} {h' : xH} (hk : xEv L xs (d + 1) 153 52 [.ref 86, .int p, .int m, .int 5, .int 26, .int 32, .int 0, .int 2] [] (124, I, J, R) v h') : xEv L xs (d + 1) 153 52 [.ref 86, .int p, .int m, .int 5, .int 26, .int 32, .int 1, .int 1] [] (124, I, J, R) v h' := by
  refine ev_go 2 (pc1 := 55) (lv1 := [.ref 86, .int p, .int m, .int 5, .int 26, .int 32, .int 1, .int 1]) (st1 := [.int m, .int 1]) (h1 := (124, I, J, R)) rfl ?_
  refine ev_br (b1 := false) rfl rfl (xcd_nge (x := 1) (y := m) (by rw [show ((1 : Int32)).toInt = 1 from by decide]; first | exact b1 | omega)) ?_
  refine ev_go 6 (pc1 := 70) (lv1 := [.ref 86, .int p, .int m, .int 5, .int 26, .int 32, .int 1, .int 1]) (st1 := [.int 27, .retAddr 8]) (h1 := (124, I, J, R)) rfl ?_
  refine ev_903 (k := 6) h4 rfl rfl (by decide) (by decide) (by decide) (by decide) (x := 104) rfl ?_
  refine ev_go 4 (pc1 := 78) (lv1 := [.ref 86, .int p, .int m, .int 5, .int 26, .int 32, .int 1, .int 1]) (st1 := [.int (p + 1), .ref 86, .int 104]) (h1 := (124, I, J, R)) rfl ?_
  refine ev_call (v1 := (some (.int x))) (h1 := (124, I, J, R)) rfl rfl c1 ?_
  refine ev_br (b1 := true) rfl rfl (xcd_ne (x := 104) (y := x) (by rw [show ((104 : Int32)).toInt = 104 from by decide]; first | exact b2 | omega)) ?_
  refine ev_go 4 (pc1 := 52) (lv1 := [.ref 86, .int p, .int m, .int 5, .int 26, .int 32, .int 0, .int 2]) (st1 := []) (h1 := (124, I, J, R)) rfl ?_
  exact hk
set_option maxRecDepth 20000 in
theorem kyG5_2 {L : Nat} {xs : Nat → Int32} {d : Nat} {I : Nat → Nat → Int32} {J : Nat → Nat → Int64} {R : Nat → Nat → Nat} {p m : Int32} (hG : aGd R) (h4 : 4 ≤ d) (b1 : 2 < m.toInt) {v : Option Value} {h' : xH} (hk : xEv L xs d 153 8 [.ref 86, .int p, .int m, .int 6, .int 33, .int 33, .int 0, .int 2] [] (124, I, J, R) v h') : xEv L xs d 153 52 [.ref 86, .int p, .int m, .int 5, .int 26, .int 32, .int 0, .int 2] [] (124, I, J, R) v h' := by
  refine ev_go 2 (pc1 := 55) (lv1 := [.ref 86, .int p, .int m, .int 5, .int 26, .int 32, .int 0, .int 2]) (st1 := [.int m, .int 2]) (h1 := (124, I, J, R)) rfl ?_
  refine ev_br (b1 := false) rfl rfl (xcd_nge (x := 2) (y := m) (by rw [show ((2 : Int32)).toInt = 2 from by decide]; first | exact b1 | omega)) ?_
  refine ev_go 11 (pc1 := 8) (lv1 := [.ref 86, .int p, .int m, .int 6, .int 33, .int 33, .int 0, .int 2]) (st1 := []) (h1 := (124, I, J, R)) rfl ?_
  exact hk
set_option maxRecDepth 20000 in
theorem kyD5_2 {L : Nat} {xs : Nat → Int32} {d : Nat} {I : Nat → Nat → Int32} {J : Nat → Nat → Int64} {R : Nat → Nat → Nat} {p m x : Int32} (hG : aGd R) (h4 : 4 ≤ d + 1) (b1 : 2 < m.toInt) (c1 : xEv L xs d 151 0 [.ref 86, .int (p + 2)] [] (124, I, J, R) (some (.int x)) (124, I, J, R)) (b2 : 97 = x.toInt) {v : Option Value} {h' : xH} (hk : xEv L xs (d + 1) 153 52 [.ref 86, .int p, .int m, .int 5, .int 26, .int 32, .int 1, .int 3] [] (124, I, J, R) v h') : xEv L xs (d + 1) 153 52 [.ref 86, .int p, .int m, .int 5, .int 26, .int 32, .int 1, .int 2] [] (124, I, J, R) v h' := by
  refine ev_go 2 (pc1 := 55) (lv1 := [.ref 86, .int p, .int m, .int 5, .int 26, .int 32, .int 1, .int 2]) (st1 := [.int m, .int 2]) (h1 := (124, I, J, R)) rfl ?_
  refine ev_br (b1 := false) rfl rfl (xcd_nge (x := 2) (y := m) (by rw [show ((2 : Int32)).toInt = 2 from by decide]; first | exact b1 | omega)) ?_
  refine ev_go 6 (pc1 := 70) (lv1 := [.ref 86, .int p, .int m, .int 5, .int 26, .int 32, .int 1, .int 2]) (st1 := [.int 28, .retAddr 8]) (h1 := (124, I, J, R)) rfl ?_
  refine ev_903 (k := 6) h4 rfl rfl (by decide) (by decide) (by decide) (by decide) (x := 97) rfl ?_
  refine ev_go 4 (pc1 := 78) (lv1 := [.ref 86, .int p, .int m, .int 5, .int 26, .int 32, .int 1, .int 2]) (st1 := [.int (p + 2), .ref 86, .int 97]) (h1 := (124, I, J, R)) rfl ?_
  refine ev_call (v1 := (some (.int x))) (h1 := (124, I, J, R)) rfl rfl c1 ?_
  refine ev_br (b1 := false) rfl rfl (xcd_nne (x := 97) (y := x) (by rw [show ((97 : Int32)).toInt = 97 from by decide]; first | exact b2 | omega)) ?_
  refine ev_go 5 (pc1 := 52) (lv1 := [.ref 86, .int p, .int m, .int 5, .int 26, .int 32, .int 1, .int 3]) (st1 := []) (h1 := (124, I, J, R)) rfl ?_
  exact hk
set_option maxRecDepth 20000 in
theorem kyE5_2 {L : Nat} {xs : Nat → Int32} {d : Nat} {I : Nat → Nat → Int32} {J : Nat → Nat → Int64} {R : Nat → Nat → Nat} {p m x : Int32} (hG : aGd R) (h4 : 4 ≤ d + 1) (b1 : 2 < m.toInt) (c1 : xEv L xs d 151 0 [.ref 86, .int (p + 2)] [] (124, I, J, R) (some (.int x)) (124, I, J, R)) (b2 : 97 ≠ x.toInt) {v : Option Value} {h' : xH} (hk : xEv L xs (d + 1) 153 52 [.ref 86, .int p, .int m, .int 5, .int 26, .int 32, .int 0, .int 3] [] (124, I, J, R) v h') : xEv L xs (d + 1) 153 52 [.ref 86, .int p, .int m, .int 5, .int 26, .int 32, .int 1, .int 2] [] (124, I, J, R) v h' := by
  refine ev_go 2 (pc1 := 55) (lv1 := [.ref 86, .int p, .int m, .int 5, .int 26, .int 32, .int 1, .int 2]) (st1 := [.int m, .int 2]) (h1 := (124, I, J, R)) rfl ?_
  refine ev_br (b1 := false) rfl rfl (xcd_nge (x := 2) (y := m) (by rw [show ((2 : Int32)).toInt = 2 from by decide]; first | exact b1 | omega)) ?_
  refine ev_go 6 (pc1 := 70) (lv1 := [.ref 86, .int p, .int m, .int 5, .int 26, .int 32, .int 1, .int 2]) (st1 := [.int 28, .retAddr 8]) (h1 := (124, I, J, R)) rfl ?_
  refine ev_903 (k := 6) h4 rfl rfl (by decide) (by decide) (by decide) (by decide) (x := 97) rfl ?_
  refine ev_go 4 (pc1 := 78) (lv1 := [.ref 86, .int p, .int m, .int 5, .int 26, .int 32, .int 1, .int 2]) (st1 := [.int (p + 2), .ref 86, .int 97]) (h1 := (124, I, J, R)) rfl ?_
  refine ev_call (v1 := (some (.int x))) (h1 := (124, I, J, R)) rfl rfl c1 ?_
  refine ev_br (b1 := true) rfl rfl (xcd_ne (x := 97) (y := x) (by rw [show ((97 : Int32)).toInt = 97 from by decide]; first | exact b2 | omega)) ?_
  refine ev_go 4 (pc1 := 52) (lv1 := [.ref 86, .int p, .int m, .int 5, .int 26, .int 32, .int 0, .int 3]) (st1 := []) (h1 := (124, I, J, R)) rfl ?_
  exact hk
set_option maxRecDepth 20000 in
theorem kyG5_3 {L : Nat} {xs : Nat → Int32} {d : Nat} {I : Nat → Nat → Int32} {J : Nat → Nat → Int64} {R : Nat → Nat → Nat} {p m : Int32} (hG : aGd R) (h4 : 4 ≤ d) (b1 : 3 < m.toInt) {v : Option Value} {h' : xH} (hk : xEv L xs d 153 8 [.ref 86, .int p, .int m, .int 6, .int 33, .int 33, .int 0, .int 3] [] (124, I, J, R) v h') : xEv L xs d 153 52 [.ref 86, .int p, .int m, .int 5, .int 26, .int 32, .int 0, .int 3] [] (124, I, J, R) v h' := by
  refine ev_go 2 (pc1 := 55) (lv1 := [.ref 86, .int p, .int m, .int 5, .int 26, .int 32, .int 0, .int 3]) (st1 := [.int m, .int 3]) (h1 := (124, I, J, R)) rfl ?_
  refine ev_br (b1 := false) rfl rfl (xcd_nge (x := 3) (y := m) (by rw [show ((3 : Int32)).toInt = 3 from by decide]; first | exact b1 | omega)) ?_
  refine ev_go 11 (pc1 := 8) (lv1 := [.ref 86, .int p, .int m, .int 6, .int 33, .int 33, .int 0, .int 3]) (st1 := []) (h1 := (124, I, J, R)) rfl ?_
  exact hk
set_option maxRecDepth 20000 in
theorem kyD5_3 {L : Nat} {xs : Nat → Int32} {d : Nat} {I : Nat → Nat → Int32} {J : Nat → Nat → Int64} {R : Nat → Nat → Nat} {p m x : Int32} (hG : aGd R) (h4 : 4 ≤ d + 1) (b1 : 3 < m.toInt) (c1 : xEv L xs d 151 0 [.ref 86, .int (p + 3)] [] (124, I, J, R) (some (.int x)) (124, I, J, R)) (b2 : 110 = x.toInt) {v : Option Value} {h' : xH} (hk : xEv L xs (d + 1) 153 52 [.ref 86, .int p, .int m, .int 5, .int 26, .int 32, .int 1, .int 4] [] (124, I, J, R) v h') : xEv L xs (d + 1) 153 52 [.ref 86, .int p, .int m, .int 5, .int 26, .int 32, .int 1, .int 3] [] (124, I, J, R) v h' := by
  refine ev_go 2 (pc1 := 55) (lv1 := [.ref 86, .int p, .int m, .int 5, .int 26, .int 32, .int 1, .int 3]) (st1 := [.int m, .int 3]) (h1 := (124, I, J, R)) rfl ?_
  refine ev_br (b1 := false) rfl rfl (xcd_nge (x := 3) (y := m) (by rw [show ((3 : Int32)).toInt = 3 from by decide]; first | exact b1 | omega)) ?_
  refine ev_go 6 (pc1 := 70) (lv1 := [.ref 86, .int p, .int m, .int 5, .int 26, .int 32, .int 1, .int 3]) (st1 := [.int 29, .retAddr 8]) (h1 := (124, I, J, R)) rfl ?_
  refine ev_903 (k := 6) h4 rfl rfl (by decide) (by decide) (by decide) (by decide) (x := 110) rfl ?_
  refine ev_go 4 (pc1 := 78) (lv1 := [.ref 86, .int p, .int m, .int 5, .int 26, .int 32, .int 1, .int 3]) (st1 := [.int (p + 3), .ref 86, .int 110]) (h1 := (124, I, J, R)) rfl ?_
  refine ev_call (v1 := (some (.int x))) (h1 := (124, I, J, R)) rfl rfl c1 ?_
  refine ev_br (b1 := false) rfl rfl (xcd_nne (x := 110) (y := x) (by rw [show ((110 : Int32)).toInt = 110 from by decide]; first | exact b2 | omega)) ?_
  refine ev_go 5 (pc1 := 52) (lv1 := [.ref 86, .int p, .int m, .int 5, .int 26, .int 32, .int 1, .int 4]) (st1 := []) (h1 := (124, I, J, R)) rfl ?_
  exact hk
set_option maxRecDepth 20000 in
theorem kyE5_3 {L : Nat} {xs : Nat → Int32} {d : Nat} {I : Nat → Nat → Int32} {J : Nat → Nat → Int64} {R : Nat → Nat → Nat} {p m x : Int32} (hG : aGd R) (h4 : 4 ≤ d + 1) (b1 : 3 < m.toInt) (c1 : xEv L xs d 151 0 [.ref 86, .int (p + 3)] [] (124, I, J, R) (some (.int x)) (124, I, J, R)) (b2 : 110 ≠ x.toInt) {v : Option Value} {h' : xH} (hk : xEv L xs (d + 1) 153 52 [.ref 86, .int p, .int m, .int 5, .int 26, .int 32, .int 0, .int 4] [] (124, I, J, R) v h') : xEv L xs (d + 1) 153 52 [.ref 86, .int p, .int m, .int 5, .int 26, .int 32, .int 1, .int 3] [] (124, I, J, R) v h' := by
  refine ev_go 2 (pc1 := 55) (lv1 := [.ref 86, .int p, .int m, .int 5, .int 26, .int 32, .int 1, .int 3]) (st1 := [.int m, .int 3]) (h1 := (124, I, J, R)) rfl ?_
  refine ev_br (b1 := false) rfl rfl (xcd_nge (x := 3) (y := m) (by rw [show ((3 : Int32)).toInt = 3 from by decide]; first | exact b1 | omega)) ?_
  refine ev_go 6 (pc1 := 70) (lv1 := [.ref 86, .int p, .int m, .int 5, .int 26, .int 32, .int 1, .int 3]) (st1 := [.int 29, .retAddr 8]) (h1 := (124, I, J, R)) rfl ?_
  refine ev_903 (k := 6) h4 rfl rfl (by decide) (by decide) (by decide) (by decide) (x := 110) rfl ?_
  refine ev_go 4 (pc1 := 78) (lv1 := [.ref 86, .int p, .int m, .int 5, .int 26, .int 32, .int 1, .int 3]) (st1 := [.int (p + 3), .ref 86, .int 110]) (h1 := (124, I, J, R)) rfl ?_
  refine ev_call (v1 := (some (.int x))) (h1 := (124, I, J, R)) rfl rfl c1 ?_
  refine ev_br (b1 := true) rfl rfl (xcd_ne (x := 110) (y := x) (by rw [show ((110 : Int32)).toInt = 110 from by decide]; first | exact b2 | omega)) ?_
  refine ev_go 4 (pc1 := 52) (lv1 := [.ref 86, .int p, .int m, .int 5, .int 26, .int 32, .int 0, .int 4]) (st1 := []) (h1 := (124, I, J, R)) rfl ?_
  exact hk
set_option maxRecDepth 20000 in
theorem kyG5_4 {L : Nat} {xs : Nat → Int32} {d : Nat} {I : Nat → Nat → Int32} {J : Nat → Nat → Int64} {R : Nat → Nat → Nat} {p m : Int32} (hG : aGd R) (h4 : 4 ≤ d) (b1 : 4 < m.toInt) {v : Option Value} {h' : xH} (hk : xEv L xs d 153 8 [.ref 86, .int p, .int m, .int 6, .int 33, .int 33, .int 0, .int 4] [] (124, I, J, R) v h') : xEv L xs d 153 52 [.ref 86, .int p, .int m, .int 5, .int 26, .int 32, .int 0, .int 4] [] (124, I, J, R) v h' := by
  refine ev_go 2 (pc1 := 55) (lv1 := [.ref 86, .int p, .int m, .int 5, .int 26, .int 32, .int 0, .int 4]) (st1 := [.int m, .int 4]) (h1 := (124, I, J, R)) rfl ?_
  refine ev_br (b1 := false) rfl rfl (xcd_nge (x := 4) (y := m) (by rw [show ((4 : Int32)).toInt = 4 from by decide]; first | exact b1 | omega)) ?_
  refine ev_go 11 (pc1 := 8) (lv1 := [.ref 86, .int p, .int m, .int 6, .int 33, .int 33, .int 0, .int 4]) (st1 := []) (h1 := (124, I, J, R)) rfl ?_
  exact hk
set_option maxRecDepth 20000 in
theorem kyD5_4 {L : Nat} {xs : Nat → Int32} {d : Nat} {I : Nat → Nat → Int32} {J : Nat → Nat → Int64} {R : Nat → Nat → Nat} {p m x : Int32} (hG : aGd R) (h4 : 4 ≤ d + 1) (b1 : 4 < m.toInt) (c1 : xEv L xs d 151 0 [.ref 86, .int (p + 4)] [] (124, I, J, R) (some (.int x)) (124, I, J, R)) (b2 : 99 = x.toInt) {v : Option Value} {h' : xH} (hk : xEv L xs (d + 1) 153 52 [.ref 86, .int p, .int m, .int 5, .int 26, .int 32, .int 1, .int 5] [] (124, I, J, R) v h') : xEv L xs (d + 1) 153 52 [.ref 86, .int p, .int m, .int 5, .int 26, .int 32, .int 1, .int 4] [] (124, I, J, R) v h' := by
  refine ev_go 2 (pc1 := 55) (lv1 := [.ref 86, .int p, .int m, .int 5, .int 26, .int 32, .int 1, .int 4]) (st1 := [.int m, .int 4]) (h1 := (124, I, J, R)) rfl ?_
  refine ev_br (b1 := false) rfl rfl (xcd_nge (x := 4) (y := m) (by rw [show ((4 : Int32)).toInt = 4 from by decide]; first | exact b1 | omega)) ?_
  refine ev_go 6 (pc1 := 70) (lv1 := [.ref 86, .int p, .int m, .int 5, .int 26, .int 32, .int 1, .int 4]) (st1 := [.int 30, .retAddr 8]) (h1 := (124, I, J, R)) rfl ?_
  refine ev_903 (k := 6) h4 rfl rfl (by decide) (by decide) (by decide) (by decide) (x := 99) rfl ?_
  refine ev_go 4 (pc1 := 78) (lv1 := [.ref 86, .int p, .int m, .int 5, .int 26, .int 32, .int 1, .int 4]) (st1 := [.int (p + 4), .ref 86, .int 99]) (h1 := (124, I, J, R)) rfl ?_
  refine ev_call (v1 := (some (.int x))) (h1 := (124, I, J, R)) rfl rfl c1 ?_
  refine ev_br (b1 := false) rfl rfl (xcd_nne (x := 99) (y := x) (by rw [show ((99 : Int32)).toInt = 99 from by decide]; first | exact b2 | omega)) ?_
  refine ev_go 5 (pc1 := 52) (lv1 := [.ref 86, .int p, .int m, .int 5, .int 26, .int 32, .int 1, .int 5]) (st1 := []) (h1 := (124, I, J, R)) rfl ?_
  exact hk
set_option maxRecDepth 20000 in
theorem kyE5_4 {L : Nat} {xs : Nat → Int32} {d : Nat} {I : Nat → Nat → Int32} {J : Nat → Nat → Int64} {R : Nat → Nat → Nat} {p m x : Int32} (hG : aGd R) (h4 : 4 ≤ d + 1) (b1 : 4 < m.toInt) (c1 : xEv L xs d 151 0 [.ref 86, .int (p + 4)] [] (124, I, J, R) (some (.int x)) (124, I, J, R)) (b2 : 99 ≠ x.toInt) {v : Option Value} {h' : xH} (hk : xEv L xs (d + 1) 153 52 [.ref 86, .int p, .int m, .int 5, .int 26, .int 32, .int 0, .int 5] [] (124, I, J, R) v h') : xEv L xs (d + 1) 153 52 [.ref 86, .int p, .int m, .int 5, .int 26, .int 32, .int 1, .int 4] [] (124, I, J, R) v h' := by
  refine ev_go 2 (pc1 := 55) (lv1 := [.ref 86, .int p, .int m, .int 5, .int 26, .int 32, .int 1, .int 4]) (st1 := [.int m, .int 4]) (h1 := (124, I, J, R)) rfl ?_
  refine ev_br (b1 := false) rfl rfl (xcd_nge (x := 4) (y := m) (by rw [show ((4 : Int32)).toInt = 4 from by decide]; first | exact b1 | omega)) ?_
  refine ev_go 6 (pc1 := 70) (lv1 := [.ref 86, .int p, .int m, .int 5, .int 26, .int 32, .int 1, .int 4]) (st1 := [.int 30, .retAddr 8]) (h1 := (124, I, J, R)) rfl ?_
  refine ev_903 (k := 6) h4 rfl rfl (by decide) (by decide) (by decide) (by decide) (x := 99) rfl ?_
  refine ev_go 4 (pc1 := 78) (lv1 := [.ref 86, .int p, .int m, .int 5, .int 26, .int 32, .int 1, .int 4]) (st1 := [.int (p + 4), .ref 86, .int 99]) (h1 := (124, I, J, R)) rfl ?_
  refine ev_call (v1 := (some (.int x))) (h1 := (124, I, J, R)) rfl rfl c1 ?_
  refine ev_br (b1 := true) rfl rfl (xcd_ne (x := 99) (y := x) (by rw [show ((99 : Int32)).toInt = 99 from by decide]; first | exact b2 | omega)) ?_
  refine ev_go 4 (pc1 := 52) (lv1 := [.ref 86, .int p, .int m, .int 5, .int 26, .int 32, .int 0, .int 5]) (st1 := []) (h1 := (124, I, J, R)) rfl ?_
  exact hk
set_option maxRecDepth 20000 in
theorem kyG5_5 {L : Nat} {xs : Nat → Int32} {d : Nat} {I : Nat → Nat → Int32} {J : Nat → Nat → Int64} {R : Nat → Nat → Nat} {p m : Int32} (hG : aGd R) (h4 : 4 ≤ d) (b1 : 5 < m.toInt) {v : Option Value} {h' : xH} (hk : xEv L xs d 153 8 [.ref 86, .int p, .int m, .int 6, .int 33, .int 33, .int 0, .int 5] [] (124, I, J, R) v h') : xEv L xs d 153 52 [.ref 86, .int p, .int m, .int 5, .int 26, .int 32, .int 0, .int 5] [] (124, I, J, R) v h' := by
  refine ev_go 2 (pc1 := 55) (lv1 := [.ref 86, .int p, .int m, .int 5, .int 26, .int 32, .int 0, .int 5]) (st1 := [.int m, .int 5]) (h1 := (124, I, J, R)) rfl ?_
  refine ev_br (b1 := false) rfl rfl (xcd_nge (x := 5) (y := m) (by rw [show ((5 : Int32)).toInt = 5 from by decide]; first | exact b1 | omega)) ?_
  refine ev_go 11 (pc1 := 8) (lv1 := [.ref 86, .int p, .int m, .int 6, .int 33, .int 33, .int 0, .int 5]) (st1 := []) (h1 := (124, I, J, R)) rfl ?_
  exact hk
set_option maxRecDepth 20000 in
theorem kyD5_5 {L : Nat} {xs : Nat → Int32} {d : Nat} {I : Nat → Nat → Int32} {J : Nat → Nat → Int64} {R : Nat → Nat → Nat} {p m x : Int32} (hG : aGd R) (h4 : 4 ≤ d + 1) (b1 : 5 < m.toInt) (c1 : xEv L xs d 151 0 [.ref 86, .int (p + 5)] [] (124, I, J, R) (some (.int x)) (124, I, J, R)) (b2 : 101 = x.toInt) {v : Option Value} {h' : xH} (hk : xEv L xs (d + 1) 153 52 [.ref 86, .int p, .int m, .int 5, .int 26, .int 32, .int 1, .int 6] [] (124, I, J, R) v h') : xEv L xs (d + 1) 153 52 [.ref 86, .int p, .int m, .int 5, .int 26, .int 32, .int 1, .int 5] [] (124, I, J, R) v h' := by
  refine ev_go 2 (pc1 := 55) (lv1 := [.ref 86, .int p, .int m, .int 5, .int 26, .int 32, .int 1, .int 5]) (st1 := [.int m, .int 5]) (h1 := (124, I, J, R)) rfl ?_
  refine ev_br (b1 := false) rfl rfl (xcd_nge (x := 5) (y := m) (by rw [show ((5 : Int32)).toInt = 5 from by decide]; first | exact b1 | omega)) ?_
  refine ev_go 6 (pc1 := 70) (lv1 := [.ref 86, .int p, .int m, .int 5, .int 26, .int 32, .int 1, .int 5]) (st1 := [.int 31, .retAddr 8]) (h1 := (124, I, J, R)) rfl ?_
  refine ev_903 (k := 6) h4 rfl rfl (by decide) (by decide) (by decide) (by decide) (x := 101) rfl ?_
  refine ev_go 4 (pc1 := 78) (lv1 := [.ref 86, .int p, .int m, .int 5, .int 26, .int 32, .int 1, .int 5]) (st1 := [.int (p + 5), .ref 86, .int 101]) (h1 := (124, I, J, R)) rfl ?_
  refine ev_call (v1 := (some (.int x))) (h1 := (124, I, J, R)) rfl rfl c1 ?_
  refine ev_br (b1 := false) rfl rfl (xcd_nne (x := 101) (y := x) (by rw [show ((101 : Int32)).toInt = 101 from by decide]; first | exact b2 | omega)) ?_
  refine ev_go 5 (pc1 := 52) (lv1 := [.ref 86, .int p, .int m, .int 5, .int 26, .int 32, .int 1, .int 6]) (st1 := []) (h1 := (124, I, J, R)) rfl ?_
  exact hk
set_option maxRecDepth 20000 in
theorem kyE5_5 {L : Nat} {xs : Nat → Int32} {d : Nat} {I : Nat → Nat → Int32} {J : Nat → Nat → Int64} {R : Nat → Nat → Nat} {p m x : Int32} (hG : aGd R) (h4 : 4 ≤ d + 1) (b1 : 5 < m.toInt) (c1 : xEv L xs d 151 0 [.ref 86, .int (p + 5)] [] (124, I, J, R) (some (.int x)) (124, I, J, R)) (b2 : 101 ≠ x.toInt) {v : Option Value} {h' : xH} (hk : xEv L xs (d + 1) 153 52 [.ref 86, .int p, .int m, .int 5, .int 26, .int 32, .int 0, .int 6] [] (124, I, J, R) v h') : xEv L xs (d + 1) 153 52 [.ref 86, .int p, .int m, .int 5, .int 26, .int 32, .int 1, .int 5] [] (124, I, J, R) v h' := by
  refine ev_go 2 (pc1 := 55) (lv1 := [.ref 86, .int p, .int m, .int 5, .int 26, .int 32, .int 1, .int 5]) (st1 := [.int m, .int 5]) (h1 := (124, I, J, R)) rfl ?_
  refine ev_br (b1 := false) rfl rfl (xcd_nge (x := 5) (y := m) (by rw [show ((5 : Int32)).toInt = 5 from by decide]; first | exact b1 | omega)) ?_
  refine ev_go 6 (pc1 := 70) (lv1 := [.ref 86, .int p, .int m, .int 5, .int 26, .int 32, .int 1, .int 5]) (st1 := [.int 31, .retAddr 8]) (h1 := (124, I, J, R)) rfl ?_
  refine ev_903 (k := 6) h4 rfl rfl (by decide) (by decide) (by decide) (by decide) (x := 101) rfl ?_
  refine ev_go 4 (pc1 := 78) (lv1 := [.ref 86, .int p, .int m, .int 5, .int 26, .int 32, .int 1, .int 5]) (st1 := [.int (p + 5), .ref 86, .int 101]) (h1 := (124, I, J, R)) rfl ?_
  refine ev_call (v1 := (some (.int x))) (h1 := (124, I, J, R)) rfl rfl c1 ?_
  refine ev_br (b1 := true) rfl rfl (xcd_ne (x := 101) (y := x) (by rw [show ((101 : Int32)).toInt = 101 from by decide]; first | exact b2 | omega)) ?_
  refine ev_go 4 (pc1 := 52) (lv1 := [.ref 86, .int p, .int m, .int 5, .int 26, .int 32, .int 0, .int 6]) (st1 := []) (h1 := (124, I, J, R)) rfl ?_
  exact hk
set_option maxRecDepth 20000 in
theorem kyG5_6 {L : Nat} {xs : Nat → Int32} {d : Nat} {I : Nat → Nat → Int32} {J : Nat → Nat → Int64} {R : Nat → Nat → Nat} {p m : Int32} (hG : aGd R) (h4 : 4 ≤ d) (b1 : 6 ≥ m.toInt) {v : Option Value} {h' : xH} (hk : xEv L xs d 153 8 [.ref 86, .int p, .int m, .int 6, .int 33, .int 33, .int 0, .int 6] [] (124, I, J, R) v h') : xEv L xs d 153 52 [.ref 86, .int p, .int m, .int 5, .int 26, .int 32, .int 0, .int 6] [] (124, I, J, R) v h' := by
  refine ev_go 2 (pc1 := 55) (lv1 := [.ref 86, .int p, .int m, .int 5, .int 26, .int 32, .int 0, .int 6]) (st1 := [.int m, .int 6]) (h1 := (124, I, J, R)) rfl ?_
  refine ev_br (b1 := true) rfl rfl (xcd_ge (x := 6) (y := m) (by rw [show ((6 : Int32)).toInt = 6 from by decide]; first | exact b1 | omega)) ?_
  refine ev_go 9 (pc1 := 8) (lv1 := [.ref 86, .int p, .int m, .int 6, .int 33, .int 33, .int 0, .int 6]) (st1 := []) (h1 := (124, I, J, R)) rfl ?_
  exact hk
set_option maxRecDepth 20000 in
theorem kyF5 {L : Nat} {xs : Nat → Int32} {d : Nat} {I : Nat → Nat → Int32} {J : Nat → Nat → Int64} {R : Nat → Nat → Nat} {p m : Int32} (hG : aGd R) (h4 : 4 ≤ d) (b1 : 6 ≥ m.toInt) : xEv L xs d 153 52 [.ref 86, .int p, .int m, .int 5, .int 26, .int 32, .int 1, .int 6] [] (124, I, J, R) (some (.int 5)) (124, I, J, R) := by
  refine ev_go 2 (pc1 := 55) (lv1 := [.ref 86, .int p, .int m, .int 5, .int 26, .int 32, .int 1, .int 6]) (st1 := [.int m, .int 6]) (h1 := (124, I, J, R)) rfl ?_
  refine ev_br (b1 := true) rfl rfl (xcd_ge (x := 6) (y := m) (by rw [show ((6 : Int32)).toInt = 6 from by decide]; first | exact b1 | omega)) ?_
  refine ev_go 3 (pc1 := 103) (lv1 := [.ref 86, .int p, .int m, .int 5, .int 26, .int 32, .int 1, .int 6]) (st1 := [.int 5]) (h1 := (124, I, J, R)) rfl ?_
  exact ev_ret rfl rfl
set_option maxRecDepth 20000 in
theorem kyH {L : Nat} {xs : Nat → Int32} {d : Nat} {I : Nat → Nat → Int32} {J : Nat → Nat → Int64} {R : Nat → Nat → Nat} {p m : Int32} {w6 w7 : Value} (hG : aGd R) (h4 : 4 ≤ d)  : xEv L xs d 153 8 [.ref 86, .int p, .int m, .int 6, .int 33, .int 33, w6, w7] [] (124, I, J, R) (some (.int (-1))) (124, I, J, R) := by
  refine ev_go 2 (pc1 := 12) (lv1 := [.ref 86, .int p, .int m, .int 6, .int 33, .int 33, w6, w7]) (st1 := [.retAddr 8, .int 33]) (h1 := (124, I, J, R)) rfl ?_
  refine ev_902 (k := 6) h4 rfl rfl (by decide) (by decide) (x := 33) rfl ?_
  refine ev_go 2 (pc1 := 120) (lv1 := [.ref 86, .int p, .int m, .int 6, .int 33, .int 33, w6, w7]) (st1 := [.int (-1)]) (h1 := (124, I, J, R)) rfl ?_
  exact ev_ret rfl rfl
set_option maxRecDepth 20000 in
theorem ky0 {L : Nat} {xs : Nat → Int32} {d : Nat} {I : Nat → Nat → Int32} {J : Nat → Nat → Int64} {R : Nat → Nat → Nat} {p m : Int32} (hG : aGd R) (h4 : 4 ≤ d)  {v : Option Value} {h' : xH} (hk : xEv L xs d 153 8 [.ref 86, .int p, .int m, .int 0, .int 0, .int 0, xmk, xmk] [] (124, I, J, R) v h') : xEv L xs d 153 0 [.ref 86, .int p, .int m, xmk, xmk, xmk, xmk, xmk] [] (124, I, J, R) v h' := by
  refine ev_go 6 (pc1 := 8) (lv1 := [.ref 86, .int p, .int m, .int 0, .int 0, .int 0, xmk, xmk]) (st1 := []) (h1 := (124, I, J, R)) rfl ?_
  exact hk
section KY
variable {L : Nat} {xs : Nat → Int32} {d : Nat} {I : Nat → Nat → Int32} {J : Nat → Nat → Int64} {R : Nat → Nat → Nat} {p m : Int32} {P M n : Nat}
theorem kw_0 (hG : aGd R) (h4 : 4 ≤ d + 1) (hn : (I 86 2).toInt = n) (hn9 : n ≤ 900) (hp : p.toInt = P) (hP : P ≤ 900) (hm : m.toInt = M) (hM : 1 ≤ M) (w6 w7 : Value) : (isKw (bM I n) P M 0 ∧ xEv L xs (d + 1) 153 8 [.ref 86, .int p, .int m, .int 0, .int 0, .int 0, w6, w7] [] (124, I, J, R) (some (.int 0)) (124, I, J, R)) ∨ (¬ isKw (bM I n) P M 0 ∧ ∃ w6' w7' : Value, ∀ v h', xEv L xs (d + 1) 153 8 [.ref 86, .int p, .int m, .int 1, .int 7, .int 7, w6', w7'] [] (124, I, J, R) v h' → xEv L xs (d + 1) 153 8 [.ref 86, .int p, .int m, .int 0, .int 0, .int 0, w6, w7] [] (124, I, J, R) v h') := by
  by_cases hl : M = 6
  · have ad : ∀ (k : Int32) (z : Nat), k.toInt = z → z ≤ 8 → (p + k).toInt = ((P + z : Nat) : Int) := fun k z hk hz => by rw [i_add (by omega) (by omega)]; omega
    have c0 := rb_run (L := L) (xs := xs) (d := d) (I := I) (J := J) hG hn hn9 (ad 0 0 (by decide) (by decide))
    have c1 := rb_run (L := L) (xs := xs) (d := d) (I := I) (J := J) hG hn hn9 (ad 1 1 (by decide) (by decide))
    have c2 := rb_run (L := L) (xs := xs) (d := d) (I := I) (J := J) hG hn hn9 (ad 2 2 (by decide) (by decide))
    have c3 := rb_run (L := L) (xs := xs) (d := d) (I := I) (J := J) hG hn hn9 (ad 3 3 (by decide) (by decide))
    have c4 := rb_run (L := L) (xs := xs) (d := d) (I := I) (J := J) hG hn hn9 (ad 4 4 (by decide) (by decide))
    have c5 := rb_run (L := L) (xs := xs) (d := d) (I := I) (J := J) hG hn hn9 (ad 5 5 (by decide) (by decide))
    by_cases e0 : (bM I n (P + 0)).toInt = 112
    · by_cases e1 : (bM I n (P + 1)).toInt = 101
      · by_cases e2 : (bM I n (P + 2)).toInt = 114
        · by_cases e3 : (bM I n (P + 3)).toInt = 115
          · by_cases e4 : (bM I n (P + 4)).toInt = 111
            · by_cases e5 : (bM I n (P + 5)).toInt = 110
              · refine Or.inl ⟨⟨hl, fun i hi => ?_⟩, kyA0 hG h4 (kyC0 hG h4 (by omega) (kyD0_0 hG h4 (by omega) c0 e0.symm (kyD0_1 hG h4 (by omega) c1 e1.symm (kyD0_2 hG h4 (by omega) c2 e2.symm (kyD0_3 hG h4 (by omega) c3 e3.symm (kyD0_4 hG h4 (by omega) c4 e4.symm (kyD0_5 hG h4 (by omega) c5 e5.symm (kyF0 hG h4 (by omega)))))))))⟩
                have hi' : i < 6 := hi
                match i, hi' with
                | 0, _ => exact e0
                | 1, _ => exact e1
                | 2, _ => exact e2
                | 3, _ => exact e3
                | 4, _ => exact e4
                | 5, _ => exact e5
                | q + 6, h => omega
              · refine Or.inr ⟨fun hh => e5 (hh.2 5 (by decide)), _, _, fun v h' hk => kyA0 hG h4 (kyC0 hG h4 (by omega) (kyD0_0 hG h4 (by omega) c0 e0.symm (kyD0_1 hG h4 (by omega) c1 e1.symm (kyD0_2 hG h4 (by omega) c2 e2.symm (kyD0_3 hG h4 (by omega) c3 e3.symm (kyD0_4 hG h4 (by omega) c4 e4.symm (kyE0_5 hG h4 (by omega) c5 (Ne.symm e5) (kyG0_6 hG h4 (by omega) hk))))))))⟩
            · refine Or.inr ⟨fun hh => e4 (hh.2 4 (by decide)), _, _, fun v h' hk => kyA0 hG h4 (kyC0 hG h4 (by omega) (kyD0_0 hG h4 (by omega) c0 e0.symm (kyD0_1 hG h4 (by omega) c1 e1.symm (kyD0_2 hG h4 (by omega) c2 e2.symm (kyD0_3 hG h4 (by omega) c3 e3.symm (kyE0_4 hG h4 (by omega) c4 (Ne.symm e4) (kyG0_5 hG h4 (by omega) hk)))))))⟩
          · refine Or.inr ⟨fun hh => e3 (hh.2 3 (by decide)), _, _, fun v h' hk => kyA0 hG h4 (kyC0 hG h4 (by omega) (kyD0_0 hG h4 (by omega) c0 e0.symm (kyD0_1 hG h4 (by omega) c1 e1.symm (kyD0_2 hG h4 (by omega) c2 e2.symm (kyE0_3 hG h4 (by omega) c3 (Ne.symm e3) (kyG0_4 hG h4 (by omega) hk))))))⟩
        · refine Or.inr ⟨fun hh => e2 (hh.2 2 (by decide)), _, _, fun v h' hk => kyA0 hG h4 (kyC0 hG h4 (by omega) (kyD0_0 hG h4 (by omega) c0 e0.symm (kyD0_1 hG h4 (by omega) c1 e1.symm (kyE0_2 hG h4 (by omega) c2 (Ne.symm e2) (kyG0_3 hG h4 (by omega) hk)))))⟩
      · refine Or.inr ⟨fun hh => e1 (hh.2 1 (by decide)), _, _, fun v h' hk => kyA0 hG h4 (kyC0 hG h4 (by omega) (kyD0_0 hG h4 (by omega) c0 e0.symm (kyE0_1 hG h4 (by omega) c1 (Ne.symm e1) (kyG0_2 hG h4 (by omega) hk))))⟩
    · refine Or.inr ⟨fun hh => e0 (hh.2 0 (by decide)), _, _, fun v h' hk => kyA0 hG h4 (kyC0 hG h4 (by omega) (kyE0_0 hG h4 (by omega) c0 (Ne.symm e0) (kyG0_1 hG h4 (by omega) hk)))⟩
  · exact Or.inr ⟨fun hh => hl hh.1, _, _, fun v h' hk => kyA0 hG h4 (kyB0 hG h4 (by omega) (by omega) hk)⟩
theorem kw_1 (hG : aGd R) (h4 : 4 ≤ d + 1) (hn : (I 86 2).toInt = n) (hn9 : n ≤ 900) (hp : p.toInt = P) (hP : P ≤ 900) (hm : m.toInt = M) (hM : 1 ≤ M) (w6 w7 : Value) : (isKw (bM I n) P M 1 ∧ xEv L xs (d + 1) 153 8 [.ref 86, .int p, .int m, .int 1, .int 7, .int 7, w6, w7] [] (124, I, J, R) (some (.int 1)) (124, I, J, R)) ∨ (¬ isKw (bM I n) P M 1 ∧ ∃ w6' w7' : Value, ∀ v h', xEv L xs (d + 1) 153 8 [.ref 86, .int p, .int m, .int 2, .int 12, .int 12, w6', w7'] [] (124, I, J, R) v h' → xEv L xs (d + 1) 153 8 [.ref 86, .int p, .int m, .int 1, .int 7, .int 7, w6, w7] [] (124, I, J, R) v h') := by
  by_cases hl : M = 4
  · have ad : ∀ (k : Int32) (z : Nat), k.toInt = z → z ≤ 8 → (p + k).toInt = ((P + z : Nat) : Int) := fun k z hk hz => by rw [i_add (by omega) (by omega)]; omega
    have c0 := rb_run (L := L) (xs := xs) (d := d) (I := I) (J := J) hG hn hn9 (ad 0 0 (by decide) (by decide))
    have c1 := rb_run (L := L) (xs := xs) (d := d) (I := I) (J := J) hG hn hn9 (ad 1 1 (by decide) (by decide))
    have c2 := rb_run (L := L) (xs := xs) (d := d) (I := I) (J := J) hG hn hn9 (ad 2 2 (by decide) (by decide))
    have c3 := rb_run (L := L) (xs := xs) (d := d) (I := I) (J := J) hG hn hn9 (ad 3 3 (by decide) (by decide))
    by_cases e0 : (bM I n (P + 0)).toInt = 109
    · by_cases e1 : (bM I n (P + 1)).toInt = 101
      · by_cases e2 : (bM I n (P + 2)).toInt = 101
        · by_cases e3 : (bM I n (P + 3)).toInt = 116
          · refine Or.inl ⟨⟨hl, fun i hi => ?_⟩, kyA1 hG h4 (kyC1 hG h4 (by omega) (kyD1_0 hG h4 (by omega) c0 e0.symm (kyD1_1 hG h4 (by omega) c1 e1.symm (kyD1_2 hG h4 (by omega) c2 e2.symm (kyD1_3 hG h4 (by omega) c3 e3.symm (kyF1 hG h4 (by omega)))))))⟩
            have hi' : i < 4 := hi
            match i, hi' with
            | 0, _ => exact e0
            | 1, _ => exact e1
            | 2, _ => exact e2
            | 3, _ => exact e3
            | q + 4, h => omega
          · refine Or.inr ⟨fun hh => e3 (hh.2 3 (by decide)), _, _, fun v h' hk => kyA1 hG h4 (kyC1 hG h4 (by omega) (kyD1_0 hG h4 (by omega) c0 e0.symm (kyD1_1 hG h4 (by omega) c1 e1.symm (kyD1_2 hG h4 (by omega) c2 e2.symm (kyE1_3 hG h4 (by omega) c3 (Ne.symm e3) (kyG1_4 hG h4 (by omega) hk))))))⟩
        · refine Or.inr ⟨fun hh => e2 (hh.2 2 (by decide)), _, _, fun v h' hk => kyA1 hG h4 (kyC1 hG h4 (by omega) (kyD1_0 hG h4 (by omega) c0 e0.symm (kyD1_1 hG h4 (by omega) c1 e1.symm (kyE1_2 hG h4 (by omega) c2 (Ne.symm e2) (kyG1_3 hG h4 (by omega) hk)))))⟩
      · refine Or.inr ⟨fun hh => e1 (hh.2 1 (by decide)), _, _, fun v h' hk => kyA1 hG h4 (kyC1 hG h4 (by omega) (kyD1_0 hG h4 (by omega) c0 e0.symm (kyE1_1 hG h4 (by omega) c1 (Ne.symm e1) (kyG1_2 hG h4 (by omega) hk))))⟩
    · refine Or.inr ⟨fun hh => e0 (hh.2 0 (by decide)), _, _, fun v h' hk => kyA1 hG h4 (kyC1 hG h4 (by omega) (kyE1_0 hG h4 (by omega) c0 (Ne.symm e0) (kyG1_1 hG h4 (by omega) hk)))⟩
  · exact Or.inr ⟨fun hh => hl hh.1, _, _, fun v h' hk => kyA1 hG h4 (kyB1 hG h4 (by omega) (by omega) hk)⟩
theorem kw_2 (hG : aGd R) (h4 : 4 ≤ d + 1) (hn : (I 86 2).toInt = n) (hn9 : n ≤ 900) (hp : p.toInt = P) (hP : P ≤ 900) (hm : m.toInt = M) (hM : 1 ≤ M) (w6 w7 : Value) : (isKw (bM I n) P M 2 ∧ xEv L xs (d + 1) 153 8 [.ref 86, .int p, .int m, .int 2, .int 12, .int 12, w6, w7] [] (124, I, J, R) (some (.int 2)) (124, I, J, R)) ∨ (¬ isKw (bM I n) P M 2 ∧ ∃ w6' w7' : Value, ∀ v h', xEv L xs (d + 1) 153 8 [.ref 86, .int p, .int m, .int 3, .int 17, .int 17, w6', w7'] [] (124, I, J, R) v h' → xEv L xs (d + 1) 153 8 [.ref 86, .int p, .int m, .int 2, .int 12, .int 12, w6, w7] [] (124, I, J, R) v h') := by
  by_cases hl : M = 4
  · have ad : ∀ (k : Int32) (z : Nat), k.toInt = z → z ≤ 8 → (p + k).toInt = ((P + z : Nat) : Int) := fun k z hk hz => by rw [i_add (by omega) (by omega)]; omega
    have c0 := rb_run (L := L) (xs := xs) (d := d) (I := I) (J := J) hG hn hn9 (ad 0 0 (by decide) (by decide))
    have c1 := rb_run (L := L) (xs := xs) (d := d) (I := I) (J := J) hG hn hn9 (ad 1 1 (by decide) (by decide))
    have c2 := rb_run (L := L) (xs := xs) (d := d) (I := I) (J := J) hG hn hn9 (ad 2 2 (by decide) (by decide))
    have c3 := rb_run (L := L) (xs := xs) (d := d) (I := I) (J := J) hG hn hn9 (ad 3 3 (by decide) (by decide))
    by_cases e0 : (bM I n (P + 0)).toInt = 110
    · by_cases e1 : (bM I n (P + 1)).toInt = 101
      · by_cases e2 : (bM I n (P + 2)).toInt = 119
        · by_cases e3 : (bM I n (P + 3)).toInt = 115
          · refine Or.inl ⟨⟨hl, fun i hi => ?_⟩, kyA2 hG h4 (kyC2 hG h4 (by omega) (kyD2_0 hG h4 (by omega) c0 e0.symm (kyD2_1 hG h4 (by omega) c1 e1.symm (kyD2_2 hG h4 (by omega) c2 e2.symm (kyD2_3 hG h4 (by omega) c3 e3.symm (kyF2 hG h4 (by omega)))))))⟩
            have hi' : i < 4 := hi
            match i, hi' with
            | 0, _ => exact e0
            | 1, _ => exact e1
            | 2, _ => exact e2
            | 3, _ => exact e3
            | q + 4, h => omega
          · refine Or.inr ⟨fun hh => e3 (hh.2 3 (by decide)), _, _, fun v h' hk => kyA2 hG h4 (kyC2 hG h4 (by omega) (kyD2_0 hG h4 (by omega) c0 e0.symm (kyD2_1 hG h4 (by omega) c1 e1.symm (kyD2_2 hG h4 (by omega) c2 e2.symm (kyE2_3 hG h4 (by omega) c3 (Ne.symm e3) (kyG2_4 hG h4 (by omega) hk))))))⟩
        · refine Or.inr ⟨fun hh => e2 (hh.2 2 (by decide)), _, _, fun v h' hk => kyA2 hG h4 (kyC2 hG h4 (by omega) (kyD2_0 hG h4 (by omega) c0 e0.symm (kyD2_1 hG h4 (by omega) c1 e1.symm (kyE2_2 hG h4 (by omega) c2 (Ne.symm e2) (kyG2_3 hG h4 (by omega) hk)))))⟩
      · refine Or.inr ⟨fun hh => e1 (hh.2 1 (by decide)), _, _, fun v h' hk => kyA2 hG h4 (kyC2 hG h4 (by omega) (kyD2_0 hG h4 (by omega) c0 e0.symm (kyE2_1 hG h4 (by omega) c1 (Ne.symm e1) (kyG2_2 hG h4 (by omega) hk))))⟩
    · refine Or.inr ⟨fun hh => e0 (hh.2 0 (by decide)), _, _, fun v h' hk => kyA2 hG h4 (kyC2 hG h4 (by omega) (kyE2_0 hG h4 (by omega) c0 (Ne.symm e0) (kyG2_1 hG h4 (by omega) hk)))⟩
  · exact Or.inr ⟨fun hh => hl hh.1, _, _, fun v h' hk => kyA2 hG h4 (kyB2 hG h4 (by omega) (by omega) hk)⟩
theorem kw_3 (hG : aGd R) (h4 : 4 ≤ d + 1) (hn : (I 86 2).toInt = n) (hn9 : n ≤ 900) (hp : p.toInt = P) (hP : P ≤ 900) (hm : m.toInt = M) (hM : 1 ≤ M) (w6 w7 : Value) : (isKw (bM I n) P M 3 ∧ xEv L xs (d + 1) 153 8 [.ref 86, .int p, .int m, .int 3, .int 17, .int 17, w6, w7] [] (124, I, J, R) (some (.int 3)) (124, I, J, R)) ∨ (¬ isKw (bM I n) P M 3 ∧ ∃ w6' w7' : Value, ∀ v h', xEv L xs (d + 1) 153 8 [.ref 86, .int p, .int m, .int 4, .int 21, .int 21, w6', w7'] [] (124, I, J, R) v h' → xEv L xs (d + 1) 153 8 [.ref 86, .int p, .int m, .int 3, .int 17, .int 17, w6, w7] [] (124, I, J, R) v h') := by
  by_cases hl : M = 3
  · have ad : ∀ (k : Int32) (z : Nat), k.toInt = z → z ≤ 8 → (p + k).toInt = ((P + z : Nat) : Int) := fun k z hk hz => by rw [i_add (by omega) (by omega)]; omega
    have c0 := rb_run (L := L) (xs := xs) (d := d) (I := I) (J := J) hG hn hn9 (ad 0 0 (by decide) (by decide))
    have c1 := rb_run (L := L) (xs := xs) (d := d) (I := I) (J := J) hG hn hn9 (ad 1 1 (by decide) (by decide))
    have c2 := rb_run (L := L) (xs := xs) (d := d) (I := I) (J := J) hG hn hn9 (ad 2 2 (by decide) (by decide))
    by_cases e0 : (bM I n (P + 0)).toInt = 98
    · by_cases e1 : (bM I n (P + 1)).toInt = 97
      · by_cases e2 : (bM I n (P + 2)).toInt = 114
        · refine Or.inl ⟨⟨hl, fun i hi => ?_⟩, kyA3 hG h4 (kyC3 hG h4 (by omega) (kyD3_0 hG h4 (by omega) c0 e0.symm (kyD3_1 hG h4 (by omega) c1 e1.symm (kyD3_2 hG h4 (by omega) c2 e2.symm (kyF3 hG h4 (by omega))))))⟩
          have hi' : i < 3 := hi
          match i, hi' with
          | 0, _ => exact e0
          | 1, _ => exact e1
          | 2, _ => exact e2
          | q + 3, h => omega
        · refine Or.inr ⟨fun hh => e2 (hh.2 2 (by decide)), _, _, fun v h' hk => kyA3 hG h4 (kyC3 hG h4 (by omega) (kyD3_0 hG h4 (by omega) c0 e0.symm (kyD3_1 hG h4 (by omega) c1 e1.symm (kyE3_2 hG h4 (by omega) c2 (Ne.symm e2) (kyG3_3 hG h4 (by omega) hk)))))⟩
      · refine Or.inr ⟨fun hh => e1 (hh.2 1 (by decide)), _, _, fun v h' hk => kyA3 hG h4 (kyC3 hG h4 (by omega) (kyD3_0 hG h4 (by omega) c0 e0.symm (kyE3_1 hG h4 (by omega) c1 (Ne.symm e1) (kyG3_2 hG h4 (by omega) hk))))⟩
    · refine Or.inr ⟨fun hh => e0 (hh.2 0 (by decide)), _, _, fun v h' hk => kyA3 hG h4 (kyC3 hG h4 (by omega) (kyE3_0 hG h4 (by omega) c0 (Ne.symm e0) (kyG3_1 hG h4 (by omega) hk)))⟩
  · exact Or.inr ⟨fun hh => hl hh.1, _, _, fun v h' hk => kyA3 hG h4 (kyB3 hG h4 (by omega) (by omega) hk)⟩
theorem kw_4 (hG : aGd R) (h4 : 4 ≤ d + 1) (hn : (I 86 2).toInt = n) (hn9 : n ≤ 900) (hp : p.toInt = P) (hP : P ≤ 900) (hm : m.toInt = M) (hM : 1 ≤ M) (w6 w7 : Value) : (isKw (bM I n) P M 4 ∧ xEv L xs (d + 1) 153 8 [.ref 86, .int p, .int m, .int 4, .int 21, .int 21, w6, w7] [] (124, I, J, R) (some (.int 4)) (124, I, J, R)) ∨ (¬ isKw (bM I n) P M 4 ∧ ∃ w6' w7' : Value, ∀ v h', xEv L xs (d + 1) 153 8 [.ref 86, .int p, .int m, .int 5, .int 26, .int 26, w6', w7'] [] (124, I, J, R) v h' → xEv L xs (d + 1) 153 8 [.ref 86, .int p, .int m, .int 4, .int 21, .int 21, w6, w7] [] (124, I, J, R) v h') := by
  by_cases hl : M = 4
  · have ad : ∀ (k : Int32) (z : Nat), k.toInt = z → z ≤ 8 → (p + k).toInt = ((P + z : Nat) : Int) := fun k z hk hz => by rw [i_add (by omega) (by omega)]; omega
    have c0 := rb_run (L := L) (xs := xs) (d := d) (I := I) (J := J) hG hn hn9 (ad 0 0 (by decide) (by decide))
    have c1 := rb_run (L := L) (xs := xs) (d := d) (I := I) (J := J) hG hn hn9 (ad 1 1 (by decide) (by decide))
    have c2 := rb_run (L := L) (xs := xs) (d := d) (I := I) (J := J) hG hn hn9 (ad 2 2 (by decide) (by decide))
    have c3 := rb_run (L := L) (xs := xs) (d := d) (I := I) (J := J) hG hn hn9 (ad 3 3 (by decide) (by decide))
    by_cases e0 : (bM I n (P + 0)).toInt = 100
    · by_cases e1 : (bM I n (P + 1)).toInt = 105
      · by_cases e2 : (bM I n (P + 2)).toInt = 101
        · by_cases e3 : (bM I n (P + 3)).toInt = 115
          · refine Or.inl ⟨⟨hl, fun i hi => ?_⟩, kyA4 hG h4 (kyC4 hG h4 (by omega) (kyD4_0 hG h4 (by omega) c0 e0.symm (kyD4_1 hG h4 (by omega) c1 e1.symm (kyD4_2 hG h4 (by omega) c2 e2.symm (kyD4_3 hG h4 (by omega) c3 e3.symm (kyF4 hG h4 (by omega)))))))⟩
            have hi' : i < 4 := hi
            match i, hi' with
            | 0, _ => exact e0
            | 1, _ => exact e1
            | 2, _ => exact e2
            | 3, _ => exact e3
            | q + 4, h => omega
          · refine Or.inr ⟨fun hh => e3 (hh.2 3 (by decide)), _, _, fun v h' hk => kyA4 hG h4 (kyC4 hG h4 (by omega) (kyD4_0 hG h4 (by omega) c0 e0.symm (kyD4_1 hG h4 (by omega) c1 e1.symm (kyD4_2 hG h4 (by omega) c2 e2.symm (kyE4_3 hG h4 (by omega) c3 (Ne.symm e3) (kyG4_4 hG h4 (by omega) hk))))))⟩
        · refine Or.inr ⟨fun hh => e2 (hh.2 2 (by decide)), _, _, fun v h' hk => kyA4 hG h4 (kyC4 hG h4 (by omega) (kyD4_0 hG h4 (by omega) c0 e0.symm (kyD4_1 hG h4 (by omega) c1 e1.symm (kyE4_2 hG h4 (by omega) c2 (Ne.symm e2) (kyG4_3 hG h4 (by omega) hk)))))⟩
      · refine Or.inr ⟨fun hh => e1 (hh.2 1 (by decide)), _, _, fun v h' hk => kyA4 hG h4 (kyC4 hG h4 (by omega) (kyD4_0 hG h4 (by omega) c0 e0.symm (kyE4_1 hG h4 (by omega) c1 (Ne.symm e1) (kyG4_2 hG h4 (by omega) hk))))⟩
    · refine Or.inr ⟨fun hh => e0 (hh.2 0 (by decide)), _, _, fun v h' hk => kyA4 hG h4 (kyC4 hG h4 (by omega) (kyE4_0 hG h4 (by omega) c0 (Ne.symm e0) (kyG4_1 hG h4 (by omega) hk)))⟩
  · exact Or.inr ⟨fun hh => hl hh.1, _, _, fun v h' hk => kyA4 hG h4 (kyB4 hG h4 (by omega) (by omega) hk)⟩
theorem kw_5 (hG : aGd R) (h4 : 4 ≤ d + 1) (hn : (I 86 2).toInt = n) (hn9 : n ≤ 900) (hp : p.toInt = P) (hP : P ≤ 900) (hm : m.toInt = M) (hM : 1 ≤ M) (w6 w7 : Value) : (isKw (bM I n) P M 5 ∧ xEv L xs (d + 1) 153 8 [.ref 86, .int p, .int m, .int 5, .int 26, .int 26, w6, w7] [] (124, I, J, R) (some (.int 5)) (124, I, J, R)) ∨ (¬ isKw (bM I n) P M 5 ∧ ∃ w6' w7' : Value, ∀ v h', xEv L xs (d + 1) 153 8 [.ref 86, .int p, .int m, .int 6, .int 33, .int 33, w6', w7'] [] (124, I, J, R) v h' → xEv L xs (d + 1) 153 8 [.ref 86, .int p, .int m, .int 5, .int 26, .int 26, w6, w7] [] (124, I, J, R) v h') := by
  by_cases hl : M = 6
  · have ad : ∀ (k : Int32) (z : Nat), k.toInt = z → z ≤ 8 → (p + k).toInt = ((P + z : Nat) : Int) := fun k z hk hz => by rw [i_add (by omega) (by omega)]; omega
    have c0 := rb_run (L := L) (xs := xs) (d := d) (I := I) (J := J) hG hn hn9 (ad 0 0 (by decide) (by decide))
    have c1 := rb_run (L := L) (xs := xs) (d := d) (I := I) (J := J) hG hn hn9 (ad 1 1 (by decide) (by decide))
    have c2 := rb_run (L := L) (xs := xs) (d := d) (I := I) (J := J) hG hn hn9 (ad 2 2 (by decide) (by decide))
    have c3 := rb_run (L := L) (xs := xs) (d := d) (I := I) (J := J) hG hn hn9 (ad 3 3 (by decide) (by decide))
    have c4 := rb_run (L := L) (xs := xs) (d := d) (I := I) (J := J) hG hn hn9 (ad 4 4 (by decide) (by decide))
    have c5 := rb_run (L := L) (xs := xs) (d := d) (I := I) (J := J) hG hn hn9 (ad 5 5 (by decide) (by decide))
    by_cases e0 : (bM I n (P + 0)).toInt = 99
    · by_cases e1 : (bM I n (P + 1)).toInt = 104
      · by_cases e2 : (bM I n (P + 2)).toInt = 97
        · by_cases e3 : (bM I n (P + 3)).toInt = 110
          · by_cases e4 : (bM I n (P + 4)).toInt = 99
            · by_cases e5 : (bM I n (P + 5)).toInt = 101
              · refine Or.inl ⟨⟨hl, fun i hi => ?_⟩, kyA5 hG h4 (kyC5 hG h4 (by omega) (kyD5_0 hG h4 (by omega) c0 e0.symm (kyD5_1 hG h4 (by omega) c1 e1.symm (kyD5_2 hG h4 (by omega) c2 e2.symm (kyD5_3 hG h4 (by omega) c3 e3.symm (kyD5_4 hG h4 (by omega) c4 e4.symm (kyD5_5 hG h4 (by omega) c5 e5.symm (kyF5 hG h4 (by omega)))))))))⟩
                have hi' : i < 6 := hi
                match i, hi' with
                | 0, _ => exact e0
                | 1, _ => exact e1
                | 2, _ => exact e2
                | 3, _ => exact e3
                | 4, _ => exact e4
                | 5, _ => exact e5
                | q + 6, h => omega
              · refine Or.inr ⟨fun hh => e5 (hh.2 5 (by decide)), _, _, fun v h' hk => kyA5 hG h4 (kyC5 hG h4 (by omega) (kyD5_0 hG h4 (by omega) c0 e0.symm (kyD5_1 hG h4 (by omega) c1 e1.symm (kyD5_2 hG h4 (by omega) c2 e2.symm (kyD5_3 hG h4 (by omega) c3 e3.symm (kyD5_4 hG h4 (by omega) c4 e4.symm (kyE5_5 hG h4 (by omega) c5 (Ne.symm e5) (kyG5_6 hG h4 (by omega) hk))))))))⟩
            · refine Or.inr ⟨fun hh => e4 (hh.2 4 (by decide)), _, _, fun v h' hk => kyA5 hG h4 (kyC5 hG h4 (by omega) (kyD5_0 hG h4 (by omega) c0 e0.symm (kyD5_1 hG h4 (by omega) c1 e1.symm (kyD5_2 hG h4 (by omega) c2 e2.symm (kyD5_3 hG h4 (by omega) c3 e3.symm (kyE5_4 hG h4 (by omega) c4 (Ne.symm e4) (kyG5_5 hG h4 (by omega) hk)))))))⟩
          · refine Or.inr ⟨fun hh => e3 (hh.2 3 (by decide)), _, _, fun v h' hk => kyA5 hG h4 (kyC5 hG h4 (by omega) (kyD5_0 hG h4 (by omega) c0 e0.symm (kyD5_1 hG h4 (by omega) c1 e1.symm (kyD5_2 hG h4 (by omega) c2 e2.symm (kyE5_3 hG h4 (by omega) c3 (Ne.symm e3) (kyG5_4 hG h4 (by omega) hk))))))⟩
        · refine Or.inr ⟨fun hh => e2 (hh.2 2 (by decide)), _, _, fun v h' hk => kyA5 hG h4 (kyC5 hG h4 (by omega) (kyD5_0 hG h4 (by omega) c0 e0.symm (kyD5_1 hG h4 (by omega) c1 e1.symm (kyE5_2 hG h4 (by omega) c2 (Ne.symm e2) (kyG5_3 hG h4 (by omega) hk)))))⟩
      · refine Or.inr ⟨fun hh => e1 (hh.2 1 (by decide)), _, _, fun v h' hk => kyA5 hG h4 (kyC5 hG h4 (by omega) (kyD5_0 hG h4 (by omega) c0 e0.symm (kyE5_1 hG h4 (by omega) c1 (Ne.symm e1) (kyG5_2 hG h4 (by omega) hk))))⟩
    · refine Or.inr ⟨fun hh => e0 (hh.2 0 (by decide)), _, _, fun v h' hk => kyA5 hG h4 (kyC5 hG h4 (by omega) (kyE5_0 hG h4 (by omega) c0 (Ne.symm e0) (kyG5_1 hG h4 (by omega) hk)))⟩
  · exact Or.inr ⟨fun hh => hl hh.1, _, _, fun v h' hk => kyA5 hG h4 (kyB5 hG h4 (by omega) (by omega) hk)⟩
/-- keyAt: the number of the word, or -1 -/
theorem key_run (hG : aGd R) (h4 : 4 ≤ d + 1) (hn : (I 86 2).toInt = n) (hn9 : n ≤ 900) (hp : p.toInt = P) (hP : P ≤ 900) (hm : m.toInt = M) (hM : 1 ≤ M) : ∃ z : Int32, xEv L xs (d + 1) 153 0 [.ref 86, .int p, .int m, xmk, xmk, xmk, xmk, xmk] [] (124, I, J, R) (some (.int z)) (124, I, J, R) ∧ ((∃ j : Nat, j < 6 ∧ z.toInt = j ∧ isKw (bM I n) P M j) ∨ (z.toInt = -1 ∧ ∀ j : Nat, j < 6 → ¬ isKw (bM I n) P M j)) := by
  rcases kw_0 (L := L) (xs := xs) (d := d) (I := I) (J := J) hG h4 hn hn9 hp hP hm hM xmk xmk with ⟨k0, x0⟩ | ⟨k0, w6_0, w7_0, x0⟩
  · exact ⟨_, ky0 hG (by omega) x0, Or.inl ⟨0, by decide, by decide, k0⟩⟩
  rcases kw_1 (L := L) (xs := xs) (d := d) (I := I) (J := J) hG h4 hn hn9 hp hP hm hM w6_0 w7_0 with ⟨k1, x1⟩ | ⟨k1, w6_1, w7_1, x1⟩
  · exact ⟨_, ky0 hG (by omega) (x0 _ _ x1), Or.inl ⟨1, by decide, by decide, k1⟩⟩
  rcases kw_2 (L := L) (xs := xs) (d := d) (I := I) (J := J) hG h4 hn hn9 hp hP hm hM w6_1 w7_1 with ⟨k2, x2⟩ | ⟨k2, w6_2, w7_2, x2⟩
  · exact ⟨_, ky0 hG (by omega) (x0 _ _ (x1 _ _ x2)), Or.inl ⟨2, by decide, by decide, k2⟩⟩
  rcases kw_3 (L := L) (xs := xs) (d := d) (I := I) (J := J) hG h4 hn hn9 hp hP hm hM w6_2 w7_2 with ⟨k3, x3⟩ | ⟨k3, w6_3, w7_3, x3⟩
  · exact ⟨_, ky0 hG (by omega) (x0 _ _ (x1 _ _ (x2 _ _ x3))), Or.inl ⟨3, by decide, by decide, k3⟩⟩
  rcases kw_4 (L := L) (xs := xs) (d := d) (I := I) (J := J) hG h4 hn hn9 hp hP hm hM w6_3 w7_3 with ⟨k4, x4⟩ | ⟨k4, w6_4, w7_4, x4⟩
  · exact ⟨_, ky0 hG (by omega) (x0 _ _ (x1 _ _ (x2 _ _ (x3 _ _ x4)))), Or.inl ⟨4, by decide, by decide, k4⟩⟩
  rcases kw_5 (L := L) (xs := xs) (d := d) (I := I) (J := J) hG h4 hn hn9 hp hP hm hM w6_4 w7_4 with ⟨k5, x5⟩ | ⟨k5, w6_5, w7_5, x5⟩
  · exact ⟨_, ky0 hG (by omega) (x0 _ _ (x1 _ _ (x2 _ _ (x3 _ _ (x4 _ _ x5))))), Or.inl ⟨5, by decide, by decide, k5⟩⟩
  refine ⟨_, ky0 hG (by omega) (x0 _ _ (x1 _ _ (x2 _ _ (x3 _ _ (x4 _ _ (x5 _ _ (kyH hG h4))))))), Or.inr ⟨by decide, fun j hj => ?_⟩⟩
  match j, hj with
  | 0, _ => exact k0
  | 1, _ => exact k1
  | 2, _ => exact k2
  | 3, _ => exact k3
  | 4, _ => exact k4
  | 5, _ => exact k5
  | q + 6, h => omega
end KY
