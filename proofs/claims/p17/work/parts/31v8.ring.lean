set_option maxRecDepth 20000 in
theorem zn_a {L : Nat} {xs : Nat → Int32} {d : Nat} {I : Nat → Nat → Int32} {J : Nat → Nat → Int64} {R : Nat → Nat → Nat} {a : Int32} (hG : aGd R) (b1 : a.toInt < 0) : xEv L xs d 100 0 [.ref 0, .int a, xmk] [] (124, I, J, R) (some (.int (-2))) (124, (uI I 1 1 0), J, R) := by
  refine ev_go 3 (pc1 := 4) (lv1 := [.ref 0, .int a, .int (-2)]) (st1 := [.int a]) (h1 := (124, I, J, R)) rfl ?_
  refine ev_br (b1 := true) rfl rfl (xcd_lt (x := a) (y := 0) (by rw [show ((0 : Int32)).toInt = 0 from by decide]; first | exact b1 | omega)) ?_
  refine ev_go 1 (pc1 := 32) (lv1 := [.ref 0, .int a, .int (-2)]) (st1 := [.ref 0]) (h1 := (124, I, J, R)) rfl ?_
  refine ev_gf (c := 0) (t := 1) (X := R 0 0) rfl rfl (fun _ => rfl) rfl (hG 0 0 1 rfl rfl) ?_
  refine ev_go 3 (pc1 := 40) (lv1 := [.ref 0, .int a, .int (-2)]) (st1 := [.int (-2)]) (h1 := (124, (uI I 1 1 0), J, R)) rfl ?_
  exact ev_ret rfl rfl
set_option maxRecDepth 20000 in
theorem zn_b {L : Nat} {xs : Nat → Int32} {d : Nat} {I : Nat → Nat → Int32} {J : Nat → Nat → Int64} {R : Nat → Nat → Nat} {a : Int32} (hG : aGd R) (b1 : a.toInt ≥ 0) (b2 : a.toInt > 400) : xEv L xs d 100 0 [.ref 0, .int a, xmk] [] (124, I, J, R) (some (.int (-2))) (124, (uI I 1 1 0), J, R) := by
  refine ev_go 3 (pc1 := 4) (lv1 := [.ref 0, .int a, .int (-2)]) (st1 := [.int a]) (h1 := (124, I, J, R)) rfl ?_
  refine ev_br (b1 := false) rfl rfl (xcd_nlt (x := a) (y := 0) (by rw [show ((0 : Int32)).toInt = 0 from by decide]; first | exact b1 | omega)) ?_
  refine ev_go 2 (pc1 := 11) (lv1 := [.ref 0, .int a, .int (-2)]) (st1 := [.int 400, .int a]) (h1 := (124, I, J, R)) rfl ?_
  refine ev_br (b1 := true) rfl rfl (xcd_gt (x := a) (y := 400) (by rw [show ((400 : Int32)).toInt = 400 from by decide]; first | exact b2 | omega)) ?_
  refine ev_go 1 (pc1 := 32) (lv1 := [.ref 0, .int a, .int (-2)]) (st1 := [.ref 0]) (h1 := (124, I, J, R)) rfl ?_
  refine ev_gf (c := 0) (t := 1) (X := R 0 0) rfl rfl (fun _ => rfl) rfl (hG 0 0 1 rfl rfl) ?_
  refine ev_go 3 (pc1 := 40) (lv1 := [.ref 0, .int a, .int (-2)]) (st1 := [.int (-2)]) (h1 := (124, (uI I 1 1 0), J, R)) rfl ?_
  exact ev_ret rfl rfl
set_option maxRecDepth 20000 in
theorem zn_n {L : Nat} {xs : Nat → Int32} {d : Nat} {I : Nat → Nat → Int32} {J : Nat → Nat → Int64} {R : Nat → Nat → Nat} {a : Int32} (hG : aGd R) (b1 : a.toInt ≥ 0) (b2 : a.toInt ≤ 400) (c1 : xEv L xs d 101 0 [.ref 0, xmk, xmk, xmk] [] (124, I, J, R) (some (.int 0)) (124, I, J, R)) : xEv L xs (d + 1) 100 0 [.ref 0, .int a, xmk] [] (124, I, J, R) (some (.int (-1))) (124, (uI I 1 1 0), J, R) := by
  refine ev_go 3 (pc1 := 4) (lv1 := [.ref 0, .int a, .int (-2)]) (st1 := [.int a]) (h1 := (124, I, J, R)) rfl ?_
  refine ev_br (b1 := false) rfl rfl (xcd_nlt (x := a) (y := 0) (by rw [show ((0 : Int32)).toInt = 0 from by decide]; first | exact b1 | omega)) ?_
  refine ev_go 2 (pc1 := 11) (lv1 := [.ref 0, .int a, .int (-2)]) (st1 := [.int 400, .int a]) (h1 := (124, I, J, R)) rfl ?_
  refine ev_br (b1 := false) rfl rfl (xcd_ngt (x := a) (y := 400) (by rw [show ((400 : Int32)).toInt = 400 from by decide]; first | exact b2 | omega)) ?_
  refine ev_go 1 (pc1 := 15) (lv1 := [.ref 0, .int a, .int (-2)]) (st1 := [.ref 0]) (h1 := (124, I, J, R)) rfl ?_
  refine ev_call (v1 := (some (.int 0))) (h1 := (124, I, J, R)) rfl rfl c1 ?_
  refine ev_go 4 (pc1 := 32) (lv1 := [.ref 0, .int a, .int (-1)]) (st1 := [.ref 0]) (h1 := (124, I, J, R)) rfl ?_
  refine ev_gf (c := 0) (t := 1) (X := R 0 0) rfl rfl (fun _ => rfl) rfl (hG 0 0 1 rfl rfl) ?_
  refine ev_go 3 (pc1 := 40) (lv1 := [.ref 0, .int a, .int (-1)]) (st1 := [.int (-1)]) (h1 := (124, (uI I 1 1 0), J, R)) rfl ?_
  exact ev_ret rfl rfl
set_option maxRecDepth 20000 in
theorem zn_y {L : Nat} {xs : Nat → Int32} {d : Nat} {I : Nat → Nat → Int32} {J : Nat → Nat → Int64} {R : Nat → Nat → Nat} {I1 : Nat → Nat → Int32} {J1 : Nat → Nat → Int64} {a r1 : Int32} (hG : aGd R) (b1 : a.toInt ≥ 0) (b2 : a.toInt ≤ 400) (c1 : xEv L xs d 101 0 [.ref 0, xmk, xmk, xmk] [] (124, I, J, R) (some (.int 1)) (124, I, J, R)) (c2 : xEv L xs d 102 0 [.ref 0, .int a, xmk, xmk] [] (124, I, J, R) (some (.int r1)) (124, I1, J1, R)) : xEv L xs (d + 1) 100 0 [.ref 0, .int a, xmk] [] (124, I, J, R) (some (.int r1)) (124, (uI I1 1 1 0), J1, R) := by
  refine ev_go 3 (pc1 := 4) (lv1 := [.ref 0, .int a, .int (-2)]) (st1 := [.int a]) (h1 := (124, I, J, R)) rfl ?_
  refine ev_br (b1 := false) rfl rfl (xcd_nlt (x := a) (y := 0) (by rw [show ((0 : Int32)).toInt = 0 from by decide]; first | exact b1 | omega)) ?_
  refine ev_go 2 (pc1 := 11) (lv1 := [.ref 0, .int a, .int (-2)]) (st1 := [.int 400, .int a]) (h1 := (124, I, J, R)) rfl ?_
  refine ev_br (b1 := false) rfl rfl (xcd_ngt (x := a) (y := 400) (by rw [show ((400 : Int32)).toInt = 400 from by decide]; first | exact b2 | omega)) ?_
  refine ev_go 1 (pc1 := 15) (lv1 := [.ref 0, .int a, .int (-2)]) (st1 := [.ref 0]) (h1 := (124, I, J, R)) rfl ?_
  refine ev_call (v1 := (some (.int 1))) (h1 := (124, I, J, R)) rfl rfl c1 ?_
  refine ev_go 3 (pc1 := 23) (lv1 := [.ref 0, .int a, .int (-2)]) (st1 := [.int a, .ref 0]) (h1 := (124, I, J, R)) rfl ?_
  refine ev_call (v1 := (some (.int r1))) (h1 := (124, I1, J1, R)) rfl rfl c2 ?_
  refine ev_go 3 (pc1 := 32) (lv1 := [.ref 0, .int a, .int r1]) (st1 := [.ref 0]) (h1 := (124, I1, J1, R)) rfl ?_
  refine ev_gf (c := 0) (t := 1) (X := R 0 0) rfl rfl (fun _ => rfl) rfl (hG 0 0 1 rfl rfl) ?_
  refine ev_go 3 (pc1 := 40) (lv1 := [.ref 0, .int a, .int r1]) (st1 := [.int r1]) (h1 := (124, (uI I1 1 1 0), J1, R)) rfl ?_
  exact ev_ret rfl rfl
set_option maxRecDepth 20000 in
theorem zc_s {L : Nat} {xs : Nat → Int32} {d : Nat} {I : Nat → Nat → Int32} {J : Nat → Nat → Int64} {R : Nat → Nat → Nat} {I1 : Nat → Nat → Int32} {J1 : Nat → Nat → Int64} {a : Int32} (hG : aGd R) (c1 : xEv L xs d 103 0 [.ref 55] [] (124, I, J, R) none (124, I1, J1, R)) {v : Option Value} {h' : xH} (hk : xEv L xs (d + 1) 102 11 [.ref 0, .int a, .int 0, .int 0] [] (124, I1, J1, R) v h') : xEv L xs (d + 1) 102 0 [.ref 0, .int a, xmk, xmk] [] (124, I, J, R) v h' := by
  refine ev_go 1 (pc1 := 1) (lv1 := [.ref 0, .int a, xmk, xmk]) (st1 := [.ref 0]) (h1 := (124, I, J, R)) rfl ?_
  refine ev_gf (c := 0) (t := 55) (X := R 0 5) rfl rfl (fun _ => rfl) rfl (hG 0 5 55 rfl rfl) ?_
  refine ev_call (v1 := none) (h1 := (124, I1, J1, R)) rfl rfl c1 ?_
  refine ev_go 4 (pc1 := 11) (lv1 := [.ref 0, .int a, .int 0, .int 0]) (st1 := []) (h1 := (124, I1, J1, R)) rfl ?_
  exact hk
set_option maxRecDepth 20000 in
theorem zc_e {L : Nat} {xs : Nat → Int32} {d : Nat} {I : Nat → Nat → Int32} {J : Nat → Nat → Int64} {R : Nat → Nat → Nat} {a nx dy r1 : Int32} (hG : aGd R) (b1 : dy.toInt ≥ a.toInt) (c1 : xEv L xs d 105 0 [.ref 55, xmk, xmk, xmk] [] (124, I, J, R) (some (.int r1)) (124, I, J, R)) : xEv L xs (d + 1) 102 11 [.ref 0, .int a, .int nx, .int dy] [] (124, I, J, R) (some (.int r1)) (124, I, J, R) := by
  refine ev_go 2 (pc1 := 13) (lv1 := [.ref 0, .int a, .int nx, .int dy]) (st1 := [.int a, .int dy]) (h1 := (124, I, J, R)) rfl ?_
  refine ev_br (b1 := true) rfl rfl (xcd_ge (x := dy) (y := a) (by first | exact b1 | omega)) ?_
  refine ev_go 1 (pc1 := 70) (lv1 := [.ref 0, .int a, .int nx, .int dy]) (st1 := [.ref 0]) (h1 := (124, I, J, R)) rfl ?_
  refine ev_gf (c := 0) (t := 55) (X := R 0 5) rfl rfl (fun _ => rfl) rfl (hG 0 5 55 rfl rfl) ?_
  refine ev_call (v1 := (some (.int r1))) (h1 := (124, I, J, R)) rfl rfl c1 ?_
  exact ev_ret rfl rfl
set_option maxRecDepth 20000 in
theorem zc_y_3 {L : Nat} {xs : Nat → Int32} {d : Nat} {I : Nat → Nat → Int32} {J : Nat → Nat → Int64} {R : Nat → Nat → Nat} {I1 : Nat → Nat → Int32} {J1 : Nat → Nat → Int64} {a nx dy p q : Int32} (hG : aGd R) (b1 : dy.toInt < a.toInt) (r_R_0_8 : R 0 8 = 4) (c1 : xEv L xs d 97 0 [.ref 0, .int nx, xmk] [] (124, I, J, R) (some (.int p)) (124, I, J, R)) (c2 : xEv L xs d 39 0 [.ref 6, .int p] [] (124, I, J, R) (some (.int q)) (124, I, J, R)) (c3 : xEv L xs d 104 0 [.ref 55, .int (1000 - q), xmk, xmk, xmk, xmk, xmk] [] (124, I, J, R) none (124, I1, J1, R)) (b2 : (nx + 1).toInt < (I1 1 1).toInt) {v : Option Value} {h' : xH} (hk : xEv L xs (d + 1) 102 11 [.ref 0, .int a, .int (nx + 1), .int (dy + 1)] [] (124, I1, J1, R) v h') : xEv L xs (d + 1) 102 11 [.ref 0, .int a, .int nx, .int dy] [] (124, I, J, R) v h' := by
  refine ev_go 2 (pc1 := 13) (lv1 := [.ref 0, .int a, .int nx, .int dy]) (st1 := [.int a, .int dy]) (h1 := (124, I, J, R)) rfl ?_
  refine ev_br (b1 := false) rfl rfl (xcd_nge (x := dy) (y := a) (by first | exact b1 | omega)) ?_
  refine ev_go 1 (pc1 := 17) (lv1 := [.ref 0, .int a, .int nx, .int dy]) (st1 := [.ref 0]) (h1 := (124, I, J, R)) rfl ?_
  refine ev_gf (c := 0) (t := 55) (X := R 0 5) rfl rfl (fun _ => rfl) rfl (hG 0 5 55 rfl rfl) ?_
  refine ev_go 2 (pc1 := 24) (lv1 := [.ref 0, .int a, .int nx, .int dy]) (st1 := [.ref 0, .int 1000, .ref 55]) (h1 := (124, I, J, R)) rfl ?_
  refine ev_gf (c := 0) (t := 3) (X := R 0 8) rfl rfl (fun _ => rfl) rfl r_R_0_8 ?_
  refine ev_gf (c := 3) (t := 6) (X := R 3 2) rfl rfl (fun _ => rfl) rfl (hG 3 2 6 rfl rfl) ?_
  refine ev_go 2 (pc1 := 32) (lv1 := [.ref 0, .int a, .int nx, .int dy]) (st1 := [.int nx, .ref 0, .ref 6, .int 1000, .ref 55]) (h1 := (124, I, J, R)) rfl ?_
  refine ev_call (v1 := (some (.int p))) (h1 := (124, I, J, R)) rfl rfl c1 ?_
  refine ev_call (v1 := (some (.int q))) (h1 := (124, I, J, R)) rfl rfl c2 ?_
  refine ev_go 1 (pc1 := 39) (lv1 := [.ref 0, .int a, .int nx, .int dy]) (st1 := [.int (1000 - q), .ref 55]) (h1 := (124, I, J, R)) rfl ?_
  refine ev_call (v1 := none) (h1 := (124, I1, J1, R)) rfl rfl c3 ?_
  refine ev_go 4 (pc1 := 46) (lv1 := [.ref 0, .int a, .int nx, .int dy]) (st1 := [.ref 0, .int (nx + 1)]) (h1 := (124, I1, J1, R)) rfl ?_
  refine ev_gf (c := 0) (t := 1) (X := R 0 0) rfl rfl (fun _ => rfl) rfl (hG 0 0 1 rfl rfl) ?_
  refine ev_go 1 (pc1 := 52) (lv1 := [.ref 0, .int a, .int nx, .int dy]) (st1 := [.int (I1 1 1), .int (nx + 1)]) (h1 := (124, I1, J1, R)) rfl ?_
  refine ev_br (b1 := false) rfl rfl (xcd_nge (x := (nx + 1)) (y := (I1 1 1)) (by first | exact b2 | omega)) ?_
  refine ev_go 7 (pc1 := 11) (lv1 := [.ref 0, .int a, .int (nx + 1), .int (dy + 1)]) (st1 := []) (h1 := (124, I1, J1, R)) rfl ?_
  exact hk
set_option maxRecDepth 20000 in
theorem zc_z_3 {L : Nat} {xs : Nat → Int32} {d : Nat} {I : Nat → Nat → Int32} {J : Nat → Nat → Int64} {R : Nat → Nat → Nat} {I1 : Nat → Nat → Int32} {J1 : Nat → Nat → Int64} {a nx dy p q : Int32} (hG : aGd R) (b1 : dy.toInt < a.toInt) (r_R_0_8 : R 0 8 = 4) (c1 : xEv L xs d 97 0 [.ref 0, .int nx, xmk] [] (124, I, J, R) (some (.int p)) (124, I, J, R)) (c2 : xEv L xs d 39 0 [.ref 6, .int p] [] (124, I, J, R) (some (.int q)) (124, I, J, R)) (c3 : xEv L xs d 104 0 [.ref 55, .int (1000 - q), xmk, xmk, xmk, xmk, xmk] [] (124, I, J, R) none (124, I1, J1, R)) (b2 : (nx + 1).toInt ≥ (I1 1 1).toInt) {v : Option Value} {h' : xH} (hk : xEv L xs (d + 1) 102 11 [.ref 0, .int a, .int 0, .int (dy + 1)] [] (124, I1, J1, R) v h') : xEv L xs (d + 1) 102 11 [.ref 0, .int a, .int nx, .int dy] [] (124, I, J, R) v h' := by
  refine ev_go 2 (pc1 := 13) (lv1 := [.ref 0, .int a, .int nx, .int dy]) (st1 := [.int a, .int dy]) (h1 := (124, I, J, R)) rfl ?_
  refine ev_br (b1 := false) rfl rfl (xcd_nge (x := dy) (y := a) (by first | exact b1 | omega)) ?_
  refine ev_go 1 (pc1 := 17) (lv1 := [.ref 0, .int a, .int nx, .int dy]) (st1 := [.ref 0]) (h1 := (124, I, J, R)) rfl ?_
  refine ev_gf (c := 0) (t := 55) (X := R 0 5) rfl rfl (fun _ => rfl) rfl (hG 0 5 55 rfl rfl) ?_
  refine ev_go 2 (pc1 := 24) (lv1 := [.ref 0, .int a, .int nx, .int dy]) (st1 := [.ref 0, .int 1000, .ref 55]) (h1 := (124, I, J, R)) rfl ?_
  refine ev_gf (c := 0) (t := 3) (X := R 0 8) rfl rfl (fun _ => rfl) rfl r_R_0_8 ?_
  refine ev_gf (c := 3) (t := 6) (X := R 3 2) rfl rfl (fun _ => rfl) rfl (hG 3 2 6 rfl rfl) ?_
  refine ev_go 2 (pc1 := 32) (lv1 := [.ref 0, .int a, .int nx, .int dy]) (st1 := [.int nx, .ref 0, .ref 6, .int 1000, .ref 55]) (h1 := (124, I, J, R)) rfl ?_
  refine ev_call (v1 := (some (.int p))) (h1 := (124, I, J, R)) rfl rfl c1 ?_
  refine ev_call (v1 := (some (.int q))) (h1 := (124, I, J, R)) rfl rfl c2 ?_
  refine ev_go 1 (pc1 := 39) (lv1 := [.ref 0, .int a, .int nx, .int dy]) (st1 := [.int (1000 - q), .ref 55]) (h1 := (124, I, J, R)) rfl ?_
  refine ev_call (v1 := none) (h1 := (124, I1, J1, R)) rfl rfl c3 ?_
  refine ev_go 4 (pc1 := 46) (lv1 := [.ref 0, .int a, .int nx, .int dy]) (st1 := [.ref 0, .int (nx + 1)]) (h1 := (124, I1, J1, R)) rfl ?_
  refine ev_gf (c := 0) (t := 1) (X := R 0 0) rfl rfl (fun _ => rfl) rfl (hG 0 0 1 rfl rfl) ?_
  refine ev_go 1 (pc1 := 52) (lv1 := [.ref 0, .int a, .int nx, .int dy]) (st1 := [.int (I1 1 1), .int (nx + 1)]) (h1 := (124, I1, J1, R)) rfl ?_
  refine ev_br (b1 := true) rfl rfl (xcd_ge (x := (nx + 1)) (y := (I1 1 1)) (by first | exact b2 | omega)) ?_
  refine ev_go 4 (pc1 := 11) (lv1 := [.ref 0, .int a, .int 0, .int (dy + 1)]) (st1 := []) (h1 := (124, I1, J1, R)) rfl ?_
  exact hk
theorem rdb_3 {L : Nat} {xs : Nat → Int32} {d d' : Nat} {I : Nat → Nat → Int32} {J Jr : Nat → Nat → Int64} {R Rr : Nat → Nat → Nat} (hG : aGd R) (hGr : aGd Rr) (h8 : R 0 8 = 4) {np n : Nat} (hp7 : np ≤ 7) (q1 : (I 3 14).toInt = np) (hn : (I 1 1).toInt = n) (hn9 : n ≤ 900) : ∀ (f k : Nat) (i hd : Int32) (w3 : Value) (Ir : Nat → Nat → Int32), k + f = n → i.toInt = k → (Ir 86 48).toInt = n → (Ir 88 0).toInt = np → (∀ q, q < n → Ir 87 q &&& 255 = I 2 q ∧ -128 ≤ (Ir 87 q).toInt ∧ (Ir 87 q).toInt ≤ 127) → rdE_3 np k I Ir →
    ∃ (r : Int32) (Ir' : Nat → Nat → Int32), xEv L xs (d + 2) 101 4 [.ref 0, .int hd, .int i, w3] [] (124, I, J, R) (some (.int r)) (124, I, J, R) ∧ xEv L xs (d' + 2) 211 18 [.ref 86, .int 1, .int 1, .int hd, .int i] [] (124, Ir, Jr, Rr) (some (.int r)) (124, Ir', Jr, Rr) ∧ (∀ c q, c ≠ 115 → Ir' c q = Ir c q) ∧ (r = 0 ∨ (r = 1 ∧ 1 ≤ n ∧ rdE_3 np n I Ir')) := by
  intro f
  induction f with
  | zero =>
    intro k i hd w3 Ir hk hi m1 q2 hB hE
    have e : k = n := by omega
    by_cases h2 : n < 1
    · exact ⟨0, Ir, rg_z hG (by omega) (by omega), rp_z1 hGr (by omega) (by omega), fun _ _ _ => rfl, Or.inl rfl⟩
    · exact ⟨1, Ir, rg_y hG (by omega) (by omega), rp_y1 hGr (by omega) (by omega), fun _ _ _ => rfl, Or.inr ⟨rfl, by omega, by rw [← e]; exact hE⟩⟩
  | succ f ih =>
    intro k i hd w3 Ir hk hi m1 q2 hB hE
    have eci := clamp_s (i := i) (by omega)
    have eki : i.toNatClampNeg = k := by omega
    have hi' : (i + 1).toInt = (k + 1 : Nat) := by rw [i_add1 (by omega)]; omega
    obtain ⟨b1, b2, b3⟩ := hB k (by omega)
    have xp := po_run_3 (L := L) (xs := xs) (d := d) (I := I) (J := J) hG h8 q1 hn hn9 (q := k) (by omega) hi
    have xr := ip_run (L := L) (xs := xs) (d := d') (I := uI Ir 115 i.toNatClampNeg (Ir 87 i.toNatClampNeg - 48)) (J := Jr) (R := Rr) hGr (m := np) (by rw [uI_c _ _ _ (by decide)]; exact q2) ((uI Ir 115 i.toNatClampNeg (Ir 87 i.toNatClampNeg - 48)) 115 i.toNatClampNeg)
    rw [uI_s, eki] at xr
    by_cases hp : 0 ≤ (I 2 k - 48).toInt ∧ (I 2 k - 48).toInt < np
    rotate_left
    · rw [show pX np I k = -1 from if_neg hp] at xp
      rcases xr with ⟨z, -⟩ | ⟨-, z⟩
      · have ye := pq_eq b1 b2 b3 (Or.inl ⟨z.1, by omega⟩)
        rw [ye] at z
        exact absurd z hp
      · refine ⟨0, _, rg_x hG (by omega) xp (by decide), rp_x1 hGr (by omega) (by omega) (by omega) (by omega) (by omega) (by omega) (by omega) (by rw [uI_s, eki]; exact z), fun c q hc => uI_c _ _ _ hc, Or.inl rfl⟩
    have ye := pq_eq b1 b2 b3 (Or.inr ⟨hp.1, by omega⟩)
    rw [ye] at xr
    rw [show pX np I k = I 2 k - 48 from if_pos hp] at xp
    have xz : xEv L xs (d' + 1) 167 0 [.ref 86, .int (I 2 k - 48)] [] (124, uI Ir 115 k (I 2 k - 48), Jr, Rr) (some (.int 1)) (124, uI Ir 115 k (I 2 k - 48), Jr, Rr) := by
      rcases xr with ⟨-, z⟩ | ⟨z, -⟩
      · exact z
      · exact absurd hp z
    have hx : uI Ir 115 i.toNatClampNeg (Ir 87 i.toNatClampNeg - 48) = uI Ir 115 k (I 2 k - 48) := by rw [eki, ye]
    have xz' : xEv L xs (d' + 1) 167 0 [.ref 86, .int ((uI Ir 115 i.toNatClampNeg (Ir 87 i.toNatClampNeg - 48)) 115 i.toNatClampNeg)] [] (124, uI Ir 115 i.toNatClampNeg (Ir 87 i.toNatClampNeg - 48), Jr, Rr) (some (.int 1)) (124, uI Ir 115 i.toNatClampNeg (Ir 87 i.toNatClampNeg - 48), Jr, Rr) := by
      rw [hx, eki, uI_s]
      exact xz
    have pne : (I 2 k - 48).toInt ≠ -1 := by omega
    have o2 : (uI Ir 115 i.toNatClampNeg (Ir 87 i.toNatClampNeg - 48)) 115 i.toNatClampNeg = I 2 k - 48 := by rw [uI_s, eki, ye]
    by_cases he : ((hd >>> ((I 2 k - 48) &&& 31)) &&& 1).toInt = 1
    · exact ⟨0, _, rg_h hG (by omega) xp pne he, rp_h1 hGr (by omega) (by omega) (by omega) (by omega) (by omega) (by omega) (by omega) xz' (by omega) (by omega) (by rw [o2]; exact he), fun c q hc => uI_c _ _ _ hc, Or.inl rfl⟩
    · obtain ⟨r, Ir', y1, y2, y3, y4⟩ := ih (k + 1) (i + 1) (hd ||| (1 <<< ((I 2 k - 48) &&& 31))) (.int (I 2 k - 48)) (uI Ir 115 k (I 2 k - 48)) (by omega) hi' (by rw [uI_c _ _ _ (by decide)]; exact m1) (by rw [uI_c _ _ _ (by decide)]; exact q2) (fun q hq => by rw [uI_c _ _ _ (by decide)]; exact hB q hq) (rdE_s_3 hE rfl hp)
      refine ⟨r, Ir', rg_f hG (by omega) xp pne he y1, rp_f1 hGr (by omega) (by omega) (by omega) (by omega) (by omega) (by omega) (by omega) xz' (by omega) (by omega) (by rw [o2]; exact he) (by omega) (by omega) ?_, fun c q hc => by rw [y3 c q hc, uI_c _ _ _ hc], y4⟩
      rw [o2, hx]
      exact y2
theorem zc_loop_3 {L : Nat} {xs : Nat → Int32} {d : Nat} {R : Nat → Nat → Nat} (hG : aGd R) (h8 : R 0 8 = 4) {a : Int32} {np n dN : Nat} {I0 Ir : Nat → Nat → Int32} (hp7 : np ≤ 7) (q1 : (I0 3 14).toInt = np) (ha : a.toInt = dN) (hd : dN ≤ 400) (hn1 : 1 ≤ n) (hn : (I0 1 1).toInt = n) (hn9 : n ≤ 900) (hE : rdE_3 np n I0 Ir) {f : Nat → Int} (hf : ∀ j, j < dN → f j = 1000 - (I0 6 (I0 2 (j % n) - 48).toNatClampNeg).toInt) (hf2 : ∀ j, j < dN → 500 ≤ f j ∧ f j ≤ 1000) : ∀ (g kN : Nat) (nx dy : Int32) (I : Nat → Nat → Int32) (J : Nat → Nat → Int64), kN + g = dN → dy.toInt = kN → nx.toInt = ((kN % n : Nat) : Int) → (∀ c q, c ≠ 55 → I c q = I0 c q) → zrC (rgV f kN) (rgC f kN) I J →
    ∃ (r : Int32) (I' : Nat → Nat → Int32) (J' : Nat → Nat → Int64), xEv L xs (d + 2) 102 11 [.ref 0, .int a, .int nx, .int dy] [] (124, I, J, R) (some (.int r)) (124, I', J', R) ∧ r.toInt = rgV f dN * 1000000 / tn (3 * rgC f dN) := by
  intro g
  induction g with
  | zero =>
    intro kN nx dy I J hk edy enx hI hV
    have e : kN = dN := by omega
    subst e
    have hcle := (rg_all (f := f) kN).1
    obtain ⟨r, x1, x2⟩ := zm_run (L := L) (xs := xs) (d := d) hG (by omega) hV
    exact ⟨r, I, J, zc_e hG (by omega) x1, x2⟩
  | succ g ih =>
    intro kN nx dy I J hk edy enx hI hV
    have hdy' : (dy + 1).toInt = (kN + 1 : Nat) := by rw [i_add1 (by omega)]; omega
    have hmod : kN % n < n := Nat.mod_lt _ (by omega)
    have hnx1 : (nx + 1).toInt = ((kN % n : Nat) : Int) + 1 := by rw [i_add1 (by omega)]; omega
    obtain ⟨-, r2, r3, r4⟩ := hE (kN % n) hmod
    have xp := po_run_3 (L := L) (xs := xs) (d := d) (I := I) (J := J) hG h8 (np := np) (by rw [hI _ _ (by decide)]; exact q1) (by rw [hI _ _ (by decide)]; exact hn) hn9 (q := kN % n) hmod enx
    have epx : pX np I (kN % n) = I0 2 (kN % n) - 48 := by
      rw [← r2]
      unfold pX
      rw [hI 2 _ (by decide)]
    rw [epx] at xp
    have xa := at_run (L := L) (xs := xs) (d := d + 1) (h := (124, I, J, R)) (c := 6) (n := 7) (fun _ => rfl) (by decide) (I0 2 (kN % n) - 48)
    rw [if_pos ⟨r3, by omega⟩] at xa
    have xa' : xEv L xs (d + 1) 39 0 [.ref 6, .int (I0 2 (kN % n) - 48)] [] (124, I, J, R) (some (.int (I0 6 (I0 2 (kN % n) - 48).toNatClampNeg))) (124, I, J, R) := by
      rw [← hI 6 _ (by decide)]
      exact xa
    have hfk := hf kN (by omega)
    obtain ⟨g1, g2⟩ := hf2 kN (by omega)
    obtain ⟨q, hq⟩ : ∃ q, I0 6 (I0 2 (kN % n) - 48).toNatClampNeg = q := ⟨_, rfl⟩
    rw [hq] at xa' hfk
    have e1000 : (1000 : Int32).toInt = 1000 := by decide
    have eb : (1000 - q).toInt = f kN := by rw [i_sub (by rw [e1000]; omega) (by rw [e1000]; omega), e1000, hfk]
    have hcle := (rg_all (f := f) kN).1
    have tt : ∃ I1 J1, xEv L xs (d + 1) 104 0 [.ref 55, .int (1000 - q), xmk, xmk, xmk, xmk, xmk] [] (124, I, J, R) none (124, I1, J1, R) ∧ (∀ c q, c ≠ 55 → I1 c q = I c q) ∧ zrC (rgV f (kN + 1)) (rgC f (kN + 1)) I1 J1 := by
      by_cases h : f kN = 1000
      · have eV : rgV f (kN + 1) = rgV f kN := if_pos h
        have eC : rgC f (kN + 1) = rgC f kN := if_pos h
        rw [eV, eC]
        exact ⟨I, J, zt_0 hG (by omega), fun _ _ _ => rfl, hV⟩
      · have eV : rgV f (kN + 1) = f kN * rgV f kN := if_neg h
        have eC : rgC f (kN + 1) = rgC f kN + 1 := if_neg h
        rw [eV, eC, ← eb]
        exact zt_one (L := L) (xs := xs) (d := d + 1) hG (by omega) (by omega) (by omega) hV
    obtain ⟨I1, J1, x1, x2, x3⟩ := tt
    have hI1 : ∀ c q, c ≠ 55 → I1 c q = I0 c q := fun c q hc => by rw [x2 c q hc, hI c q hc]
    have e11 : (I1 1 1).toInt = n := by rw [hI1 _ _ (by decide)]; exact hn
    have ms := md_s hn1 kN
    by_cases hlt : kN % n + 1 < n
    · rw [if_pos hlt] at ms
      obtain ⟨r, I', J', y1, y2⟩ := ih (kN + 1) (nx + 1) (dy + 1) I1 J1 (by omega) hdy' (by rw [ms, hnx1]; omega) hI1 x3
      exact ⟨r, I', J', zc_y_3 hG (by omega) h8 xp xa' x1 (by omega) y1, y2⟩
    · rw [if_neg hlt] at ms
      obtain ⟨r, I', J', y1, y2⟩ := ih (kN + 1) 0 (dy + 1) I1 J1 (by omega) hdy' (by rw [ms]; decide) hI1 x3
      exact ⟨r, I', J', zc_z_3 hG (by omega) h8 xp xa' x1 (by omega) y1, y2⟩
theorem rig_3 {L : Nat} {xs : Nat → Int32} {d d' : Nat} {I Ir : Nat → Nat → Int32} {J Jr : Nat → Nat → Int64} {R Rr : Nat → Nat → Nat} (hG : aGd R) (hGr : aGd Rr) (h8 : R 0 8 = 4) {np nm nn n : Nat} {l : List (Nat × Nat)} (hV : VR_3 np nm nn l I Ir) (hn : (I 1 1).toInt = n) (hm : (Ir 86 1).toInt = n) (hn9 : n ≤ 900) (hB : ∀ q, q < n → Ir 87 q &&& 255 = I 2 q ∧ -128 ≤ (Ir 87 q).toInt ∧ (Ir 87 q).toInt ≤ 127) (hdie : ∀ q, q < 7 → 0 ≤ (Ir 91 q).toInt ∧ (Ir 91 q).toInt ≤ 500) (a : Int32) : ∃ (r : Int32) (I' Ir' : Nat → Nat → Int32) (J' : Nat → Nat → Int64), xEv L xs (d + 3) 100 0 [.ref 0, .int a, xmk] [] (124, I, J, R) (some (.int r)) (124, I', J', R) ∧ xEv L xs (d' + 3) 212 0 [.ref 86, .int a, xmk, xmk] [] (124, Ir, Jr, Rr) (some (.int r)) (124, Ir', Jr, Rr) := by
  obtain ⟨⟨p1, p2, p3⟩, p4, p5, p6, ⟨q1, q2⟩, ⟨q3, q4⟩, ⟨q5, q6⟩, q7, -⟩ := hV
  obtain ⟨g, Ir1, x1, x2, x3, x4⟩ := rdb_3 (L := L) (xs := xs) (d := d) (d' := d') (J := J) (Jr := Jr) hG hGr h8 p1 q1 hn hn9 n 0 0 0 xmk (uI (uI Ir 86 48 (Ir 86 1)) 86 1 0) (by omega) (by decide) (by rw [uI_n _ _ (by omega), uI_s]; exact hm) (by rw [uI_n _ _ (by omega), uI_n _ _ (by omega)]; exact q2) (fun q hq => by rw [uI_n _ _ (by omega), uI_n _ _ (by omega)]; exact hB q hq) (fun q hq => absurd hq (by omega))
  have xr := rp_s1 hGr x2
  have fr : ∀ c q, c ≠ 115 → ¬ (c = 86 ∧ (q = 1 ∨ q = 48)) → Ir1 c q = Ir c q := fun c q h1 h2 => by rw [x3 c q h1, uI_n _ _ (by omega), uI_n _ _ (by omega)]
  have i0 := in_ex (L := L) (xs := xs) (d := d' + 2) (I := Ir1) (J := Jr) hGr a 0 400
  rw [show (0 : Int32).toInt = 0 from by decide, show (400 : Int32).toInt = 400 from by decide] at i0
  by_cases ha0 : a.toInt < 0
  · rcases i0 with ⟨h, -⟩ | ⟨-, x⟩
    · exact absurd h (by omega)
    · exact ⟨-2, _, _, _, zn_a hG ha0, zr_r hGr xr x⟩
  by_cases ha4 : a.toInt > 400
  · rcases i0 with ⟨h, -⟩ | ⟨-, x⟩
    · exact absurd h (by omega)
    · exact ⟨-2, _, _, _, zn_b hG (by omega) ha4, zr_r hGr xr x⟩
  have xin : xEv L xs (d' + 2) 160 0 [.int a, .int 0, .int 400] [] (124, Ir1, Jr, Rr) (some (.int 1)) (124, Ir1, Jr, Rr) := by
    rcases i0 with ⟨-, x⟩ | ⟨h, -⟩
    · exact x
    · exact absurd ⟨by omega, by omega⟩ h
  rcases x4 with rfl | ⟨rfl, n1, hE⟩
  · exact ⟨-1, _, _, _, zn_n hG (by omega) (by omega) (rg_s hG x1), zr_n hGr xr xin⟩
  obtain ⟨dN, hdN⟩ := Int.eq_ofNat_of_zero_le (show 0 ≤ a.toInt by omega)
  have rr : ∀ q, q < n → 0 ≤ (I 2 q - 48).toInt ∧ (I 2 q - 48).toInt < 7 := fun q hq => by
    obtain ⟨-, -, h1, h2⟩ := hE q hq
    exact ⟨h1, by omega⟩
  obtain ⟨Ir2, y1, y2, y3⟩ := zf_run (L := L) (xs := xs) (d := d' + 2) (J := Jr) hGr (a := a) 402 0 0 Ir1 (by omega) (by decide) (fun q hq => absurd hq (by omega))
  have v0 : zrR (rgS (fun j => 1000 - (Ir 91 (I 2 (j % n) - 48).toNatClampNeg).toInt) 0) 0 Ir2 := by
    have e0 : (0 : Int32).toInt = 0 := by decide
    have e1 : (1 : Int32).toInt = 1 := by decide
    refine ⟨fun q hq => ?_, fun q h1 h2 => ?_, ?_, by rw [Nat.mul_zero, tn_0]; exact Int.le_refl _⟩
    · rw [y3 q hq]
      by_cases h : q = 0
      · rw [if_pos h, e1]
        omega
      · rw [if_neg h, e0]
        omega
    · rw [y3 q h2, if_neg (by omega), e0]
    · rw [show 0 + 1 = 1 from rfl, sT_1, y3 0 (by omega), if_pos rfl, e1]
      rfl
  obtain ⟨r, Ir3, z1, z2⟩ := zr_loop (L := L) (xs := xs) (d := d' + 2) (J := Jr) hGr (a := a) (n := n) (dN := dN) hdN (by omega) n1 hn9 (row := fun q => I 2 q - 48) (die := Ir 91) (f := fun j => 1000 - (Ir 91 (I 2 (j % n) - 48).toNatClampNeg).toInt) rr hdie (fun _ _ => rfl) dN 0 0 Ir2 (by omega) (by decide) (by rw [y2 _ _ (by decide), x3 _ _ (by decide), uI_n _ _ (by omega), uI_s]; exact hm) (fun q hq => by rw [y2 _ _ (by decide)]; exact (hE q hq).1) (fun q hq => by rw [y2 _ _ (by decide)]; exact fr 91 q (by omega) (by omega)) v0
  obtain ⟨I2, J2, w1, w2, w3⟩ := zs_run (L := L) (xs := xs) (d := d) (I := I) (J := J) hG
  obtain ⟨r', I3, J3, u1, u2⟩ := zc_loop_3 (L := L) (xs := xs) (d := d) hG h8 (a := a) (I0 := I) (Ir := Ir1) p1 q1 hdN (by omega) n1 hn hn9 hE (f := fun j => 1000 - (Ir 91 (I 2 (j % n) - 48).toNatClampNeg).toInt) (fun j _ => by
    have hm' : j % n < n := Nat.mod_lt _ (by omega)
    obtain ⟨-, -, h1, h2⟩ := hE (j % n) hm'
    have ec := clamp_s (i := I 2 (j % n) - 48) h1
    rw [(q7 (I 2 (j % n) - 48).toNatClampNeg (by omega)).2]) (fun j _ => by
    have hm' : j % n < n := Nat.mod_lt _ (by omega)
    obtain ⟨-, -, h1, h2⟩ := hE (j % n) hm'
    have ec := clamp_s (i := I 2 (j % n) - 48) h1
    have := hdie (I 2 (j % n) - 48).toNatClampNeg (by omega)
    constructor <;> omega) dN 0 0 0 I2 J2 (by omega) (by decide) (by rw [Nat.zero_mod]; decide) w2 w3
  have er : r' = r := Int32.toInt_inj.mp (by rw [u2, z2, rg_eq])
  subst er
  exact ⟨r', _, _, _, zn_y hG (by omega) (by omega) (rg_s hG x1) (zc_s hG w1 u1), zr_s hGr xr xin (y1 _ _ z1)⟩
