theorem ev_iinc {L : Nat} {xs : Nat → Int32} {d j pc : Nat} {lv lv1 st : List Value} {h h' : xH} {v : Option Value} {k a b w : Nat} {n : Int} {x y : Int32} (hq : xins j pc = some (.iinc k n, 3, a, b, w)) (hl : lv[k]? = some (.int x)) (hy : x + Int32.ofInt n = y) (h1 : xst1 lv k (.int y) = lv1) (hk : xEv L xs d j (pc + 3) lv1 st h v h') : xEv L xs d j pc lv st h v h' := by
  refine ev_step hq ?_ hk
  show (match x1 3 3 (xldI lv k fun x => some (xst1 lv k (.int (x + Int32.ofInt n)), st)) with
    | some r => xgo (pc + 3) r.1 r.2 h
    | none => none) = _
  unfold xldI
  rw [hl]
  dsimp only
  rw [hy, h1]
  rfl
set_option maxRecDepth 20000 in
theorem ry_x {L : Nat} {xs : Nat → Int32} {d : Nat} {I : Nat → Nat → Int32} {J : Nat → Nat → Int64} {R : Nat → Nat → Nat} {I1 : Nat → Nat → Int32} {J1 : Nat → Nat → Int64} {a g : Int32} (hG : aGd R) (c1 : xEv L xs d 211 0 [.ref 86, .int 2, .int 0, xmk, xmk] [] (124, I, J, R) (some (.int g)) (124, I1, J1, R)) (c2 : xEv L xs d 184 0 [.ref 86, .int a] [] (124, I1, J1, R) (some (.int 0)) (124, I1, J1, R)) : xEv L xs (d + 1) 210 0 [.ref 86, .int a, xmk, xmk, xmk] [] (124, I, J, R) (some (.int (-2))) (124, I1, J1, R) := by
  refine ev_go 3 (pc1 := 3) (lv1 := [.ref 86, .int a, xmk, xmk, xmk]) (st1 := [.int 0, .int 2, .ref 86]) (h1 := (124, I, J, R)) rfl ?_
  refine ev_call (v1 := (some (.int g))) (h1 := (124, I1, J1, R)) rfl rfl c1 ?_
  refine ev_go 3 (pc1 := 9) (lv1 := [.ref 86, .int a, .int g, xmk, xmk]) (st1 := [.int a, .ref 86]) (h1 := (124, I1, J1, R)) rfl ?_
  refine ev_call (v1 := (some (.int 0))) (h1 := (124, I1, J1, R)) rfl rfl c2 ?_
  refine ev_go 2 (pc1 := 17) (lv1 := [.ref 86, .int a, .int g, xmk, xmk]) (st1 := [.int (-2)]) (h1 := (124, I1, J1, R)) rfl ?_
  exact ev_ret rfl rfl
set_option maxRecDepth 20000 in
theorem ry_n {L : Nat} {xs : Nat → Int32} {d : Nat} {I : Nat → Nat → Int32} {J : Nat → Nat → Int64} {R : Nat → Nat → Nat} {I1 : Nat → Nat → Int32} {J1 : Nat → Nat → Int64} {a : Int32} (hG : aGd R) (c1 : xEv L xs d 211 0 [.ref 86, .int 2, .int 0, xmk, xmk] [] (124, I, J, R) (some (.int 0)) (124, I1, J1, R)) (c2 : xEv L xs d 184 0 [.ref 86, .int a] [] (124, I1, J1, R) (some (.int 1)) (124, I1, J1, R)) : xEv L xs (d + 1) 210 0 [.ref 86, .int a, xmk, xmk, xmk] [] (124, I, J, R) (some (.int (-1))) (124, I1, J1, R) := by
  refine ev_go 3 (pc1 := 3) (lv1 := [.ref 86, .int a, xmk, xmk, xmk]) (st1 := [.int 0, .int 2, .ref 86]) (h1 := (124, I, J, R)) rfl ?_
  refine ev_call (v1 := (some (.int 0))) (h1 := (124, I1, J1, R)) rfl rfl c1 ?_
  refine ev_go 3 (pc1 := 9) (lv1 := [.ref 86, .int a, .int 0, xmk, xmk]) (st1 := [.int a, .ref 86]) (h1 := (124, I1, J1, R)) rfl ?_
  refine ev_call (v1 := (some (.int 1))) (h1 := (124, I1, J1, R)) rfl rfl c2 ?_
  refine ev_go 4 (pc1 := 23) (lv1 := [.ref 86, .int a, .int 0, xmk, xmk]) (st1 := [.int (-1)]) (h1 := (124, I1, J1, R)) rfl ?_
  exact ev_ret rfl rfl
set_option maxRecDepth 20000 in
theorem ry_s {L : Nat} {xs : Nat → Int32} {d : Nat} {I : Nat → Nat → Int32} {J : Nat → Nat → Int64} {R : Nat → Nat → Nat} {I1 : Nat → Nat → Int32} {J1 : Nat → Nat → Int64} {a : Int32} (hG : aGd R) (c1 : xEv L xs d 211 0 [.ref 86, .int 2, .int 0, xmk, xmk] [] (124, I, J, R) (some (.int 1)) (124, I1, J1, R)) (c2 : xEv L xs d 184 0 [.ref 86, .int a] [] (124, I1, J1, R) (some (.int 1)) (124, I1, J1, R)) {v : Option Value} {h' : xH} (hk : xEv L xs (d + 1) 210 34 [.ref 86, .int a, .int 1, .int ((I1 86 48) - 1), .int a] [] (124, I1, J1, R) v h') : xEv L xs (d + 1) 210 0 [.ref 86, .int a, xmk, xmk, xmk] [] (124, I, J, R) v h' := by
  refine ev_go 3 (pc1 := 3) (lv1 := [.ref 86, .int a, xmk, xmk, xmk]) (st1 := [.int 0, .int 2, .ref 86]) (h1 := (124, I, J, R)) rfl ?_
  refine ev_call (v1 := (some (.int 1))) (h1 := (124, I1, J1, R)) rfl rfl c1 ?_
  refine ev_go 3 (pc1 := 9) (lv1 := [.ref 86, .int a, .int 1, xmk, xmk]) (st1 := [.int a, .ref 86]) (h1 := (124, I1, J1, R)) rfl ?_
  refine ev_call (v1 := (some (.int 1))) (h1 := (124, I1, J1, R)) rfl rfl c2 ?_
  refine ev_go 10 (pc1 := 34) (lv1 := [.ref 86, .int a, .int 1, .int ((I1 86 48) - 1), .int a]) (st1 := []) (h1 := (124, I1, J1, R)) rfl ?_
  exact hk
set_option maxRecDepth 20000 in
theorem ry_e {L : Nat} {xs : Nat → Int32} {d : Nat} {I : Nat → Nat → Int32} {J : Nat → Nat → Int64} {R : Nat → Nat → Nat} {a k t : Int32} (hG : aGd R) (b1 : t.toInt ≥ (I 86 26).toInt) : xEv L xs d 210 34 [.ref 86, .int a, .int 1, .int k, .int t] [] (124, I, J, R) (some (.int (-1))) (124, I, J, R) := by
  refine ev_go 3 (pc1 := 40) (lv1 := [.ref 86, .int a, .int 1, .int k, .int t]) (st1 := [.int (I 86 26), .int t]) (h1 := (124, I, J, R)) rfl ?_
  refine ev_br (b1 := true) rfl rfl (xcd_ge (x := t) (y := (I 86 26)) (by first | exact b1 | omega)) ?_
  refine ev_go 1 (pc1 := 95) (lv1 := [.ref 86, .int a, .int 1, .int k, .int t]) (st1 := [.int (-1)]) (h1 := (124, I, J, R)) rfl ?_
  exact ev_ret rfl rfl
set_option maxRecDepth 20000 in
theorem ry_u {L : Nat} {xs : Nat → Int32} {d : Nat} {I : Nat → Nat → Int32} {J : Nat → Nat → Int64} {R : Nat → Nat → Nat} {a k t : Int32} (hG : aGd R) (b1 : t.toInt < (I 86 26).toInt) (c1 : xEv L xs d 186 0 [.ref 86, .int t] [] (124, I, J, R) (some (.int 0)) (124, I, J, R)) {v : Option Value} {h' : xH} (hk : xEv L xs (d + 1) 210 34 [.ref 86, .int a, .int 1, .int k, .int (t + 1)] [] (124, I, J, R) v h') : xEv L xs (d + 1) 210 34 [.ref 86, .int a, .int 1, .int k, .int t] [] (124, I, J, R) v h' := by
  refine ev_go 3 (pc1 := 40) (lv1 := [.ref 86, .int a, .int 1, .int k, .int t]) (st1 := [.int (I 86 26), .int t]) (h1 := (124, I, J, R)) rfl ?_
  refine ev_br (b1 := false) rfl rfl (xcd_nge (x := t) (y := (I 86 26)) (by first | exact b1 | omega)) ?_
  refine ev_go 2 (pc1 := 46) (lv1 := [.ref 86, .int a, .int 1, .int k, .int t]) (st1 := [.int t, .ref 86]) (h1 := (124, I, J, R)) rfl ?_
  refine ev_call (v1 := (some (.int 0))) (h1 := (124, I, J, R)) rfl rfl c1 ?_
  refine ev_go 3 (pc1 := 34) (lv1 := [.ref 86, .int a, .int 1, .int k, .int (t + 1)]) (st1 := []) (h1 := (124, I, J, R)) rfl ?_
  exact hk
set_option maxRecDepth 20000 in
theorem ry_m {L : Nat} {xs : Nat → Int32} {d : Nat} {I : Nat → Nat → Int32} {J : Nat → Nat → Int64} {R : Nat → Nat → Nat} {a k t w : Int32} (hG : aGd R) (b1 : t.toInt < (I 86 26).toInt) (c1 : xEv L xs d 186 0 [.ref 86, .int t] [] (124, I, J, R) (some (.int 1)) (124, I, J, R)) (n1 : 0 ≤ k.toInt) (m1 : k.toInt < 900) (c2 : xEv L xs d 176 0 [.ref 86, .int (I 115 k.toNatClampNeg), .int t] [] (124, I, J, R) (some (.int w)) (124, I, J, R)) (n2 : 0 ≤ (k - 1).toInt) (m2 : (k - 1).toInt < 900) (b2 : w.toInt ≠ (I 115 (k - 1).toNatClampNeg).toInt) {v : Option Value} {h' : xH} (hk : xEv L xs (d + 1) 210 34 [.ref 86, .int a, .int 1, .int k, .int (t + 1)] [] (124, I, J, R) v h') : xEv L xs (d + 1) 210 34 [.ref 86, .int a, .int 1, .int k, .int t] [] (124, I, J, R) v h' := by
  refine ev_go 3 (pc1 := 40) (lv1 := [.ref 86, .int a, .int 1, .int k, .int t]) (st1 := [.int (I 86 26), .int t]) (h1 := (124, I, J, R)) rfl ?_
  refine ev_br (b1 := false) rfl rfl (xcd_nge (x := t) (y := (I 86 26)) (by first | exact b1 | omega)) ?_
  refine ev_go 2 (pc1 := 46) (lv1 := [.ref 86, .int a, .int 1, .int k, .int t]) (st1 := [.int t, .ref 86]) (h1 := (124, I, J, R)) rfl ?_
  refine ev_call (v1 := (some (.int 1))) (h1 := (124, I, J, R)) rfl rfl c1 ?_
  refine ev_go 3 (pc1 := 54) (lv1 := [.ref 86, .int a, .int 1, .int k, .int t]) (st1 := [.ref 86, .ref 86]) (h1 := (124, I, J, R)) rfl ?_
  refine ev_gf (c := 86) (t := 115) (X := R 86 49) rfl rfl (fun _ => rfl) rfl (hG 86 49 115 rfl rfl) ?_
  refine ev_go 1 (pc1 := 58) (lv1 := [.ref 86, .int a, .int 1, .int k, .int t]) (st1 := [.int k, .ref 115, .ref 86]) (h1 := (124, I, J, R)) rfl ?_
  refine ev_ild (n := 900) rfl rfl (fun _ => rfl) n1 m1 ?_
  refine ev_go 1 (pc1 := 61) (lv1 := [.ref 86, .int a, .int 1, .int k, .int t]) (st1 := [.int t, .int (I 115 k.toNatClampNeg), .ref 86]) (h1 := (124, I, J, R)) rfl ?_
  refine ev_call (v1 := (some (.int w))) (h1 := (124, I, J, R)) rfl rfl c2 ?_
  refine ev_go 1 (pc1 := 65) (lv1 := [.ref 86, .int a, .int 1, .int k, .int t]) (st1 := [.ref 86, .int w]) (h1 := (124, I, J, R)) rfl ?_
  refine ev_gf (c := 86) (t := 115) (X := R 86 49) rfl rfl (fun _ => rfl) rfl (hG 86 49 115 rfl rfl) ?_
  refine ev_go 3 (pc1 := 71) (lv1 := [.ref 86, .int a, .int 1, .int k, .int t]) (st1 := [.int (k - 1), .ref 115, .int w]) (h1 := (124, I, J, R)) rfl ?_
  refine ev_ild (n := 900) rfl rfl (fun _ => rfl) n2 m2 ?_
  refine ev_br (b1 := false) rfl rfl (xcd_neq (x := w) (y := (I 115 (k - 1).toNatClampNeg)) (by first | exact b2 | omega)) ?_
  refine ev_go 3 (pc1 := 34) (lv1 := [.ref 86, .int a, .int 1, .int k, .int (t + 1)]) (st1 := []) (h1 := (124, I, J, R)) rfl ?_
  exact hk
set_option maxRecDepth 20000 in
theorem ry_k {L : Nat} {xs : Nat → Int32} {d : Nat} {I : Nat → Nat → Int32} {J : Nat → Nat → Int64} {R : Nat → Nat → Nat} {a k t w dx1 : Int32} (hG : aGd R) (b1 : t.toInt < (I 86 26).toInt) (c1 : xEv L xs d 186 0 [.ref 86, .int t] [] (124, I, J, R) (some (.int 1)) (124, I, J, R)) (n1 : 0 ≤ k.toInt) (m1 : k.toInt < 900) (c2 : xEv L xs d 176 0 [.ref 86, .int (I 115 k.toNatClampNeg), .int t] [] (124, I, J, R) (some (.int w)) (124, I, J, R)) (n2 : 0 ≤ (k - 1).toInt) (m2 : (k - 1).toInt < 900) (b2 : w.toInt = (I 115 (k - 1).toNatClampNeg).toInt) (i1 : k + (-1) = dx1) (b3 : dx1.toInt ≠ 0) {v : Option Value} {h' : xH} (hk : xEv L xs (d + 1) 210 34 [.ref 86, .int a, .int 1, .int dx1, .int (t + 1)] [] (124, I, J, R) v h') : xEv L xs (d + 1) 210 34 [.ref 86, .int a, .int 1, .int k, .int t] [] (124, I, J, R) v h' := by
  refine ev_go 3 (pc1 := 40) (lv1 := [.ref 86, .int a, .int 1, .int k, .int t]) (st1 := [.int (I 86 26), .int t]) (h1 := (124, I, J, R)) rfl ?_
  refine ev_br (b1 := false) rfl rfl (xcd_nge (x := t) (y := (I 86 26)) (by first | exact b1 | omega)) ?_
  refine ev_go 2 (pc1 := 46) (lv1 := [.ref 86, .int a, .int 1, .int k, .int t]) (st1 := [.int t, .ref 86]) (h1 := (124, I, J, R)) rfl ?_
  refine ev_call (v1 := (some (.int 1))) (h1 := (124, I, J, R)) rfl rfl c1 ?_
  refine ev_go 3 (pc1 := 54) (lv1 := [.ref 86, .int a, .int 1, .int k, .int t]) (st1 := [.ref 86, .ref 86]) (h1 := (124, I, J, R)) rfl ?_
  refine ev_gf (c := 86) (t := 115) (X := R 86 49) rfl rfl (fun _ => rfl) rfl (hG 86 49 115 rfl rfl) ?_
  refine ev_go 1 (pc1 := 58) (lv1 := [.ref 86, .int a, .int 1, .int k, .int t]) (st1 := [.int k, .ref 115, .ref 86]) (h1 := (124, I, J, R)) rfl ?_
  refine ev_ild (n := 900) rfl rfl (fun _ => rfl) n1 m1 ?_
  refine ev_go 1 (pc1 := 61) (lv1 := [.ref 86, .int a, .int 1, .int k, .int t]) (st1 := [.int t, .int (I 115 k.toNatClampNeg), .ref 86]) (h1 := (124, I, J, R)) rfl ?_
  refine ev_call (v1 := (some (.int w))) (h1 := (124, I, J, R)) rfl rfl c2 ?_
  refine ev_go 1 (pc1 := 65) (lv1 := [.ref 86, .int a, .int 1, .int k, .int t]) (st1 := [.ref 86, .int w]) (h1 := (124, I, J, R)) rfl ?_
  refine ev_gf (c := 86) (t := 115) (X := R 86 49) rfl rfl (fun _ => rfl) rfl (hG 86 49 115 rfl rfl) ?_
  refine ev_go 3 (pc1 := 71) (lv1 := [.ref 86, .int a, .int 1, .int k, .int t]) (st1 := [.int (k - 1), .ref 115, .int w]) (h1 := (124, I, J, R)) rfl ?_
  refine ev_ild (n := 900) rfl rfl (fun _ => rfl) n2 m2 ?_
  refine ev_br (b1 := true) rfl rfl (xcd_eq (x := w) (y := (I 115 (k - 1).toNatClampNeg)) (by first | exact b2 | omega)) ?_
  refine ev_iinc (x := k) (y := dx1) (lv1 := [.ref 86, .int a, .int 1, .int dx1, .int t]) rfl rfl (by rw [show Int32.ofInt (-1) = (-1) from by decide]; exact i1) rfl ?_
  refine ev_go 1 (pc1 := 82) (lv1 := [.ref 86, .int a, .int 1, .int dx1, .int t]) (st1 := [.int dx1]) (h1 := (124, I, J, R)) rfl ?_
  refine ev_br (b1 := true) rfl rfl (xcd_ne (x := dx1) (y := 0) (by rw [show ((0 : Int32)).toInt = 0 from by decide]; first | exact b3 | omega)) ?_
  refine ev_go 2 (pc1 := 34) (lv1 := [.ref 86, .int a, .int 1, .int dx1, .int (t + 1)]) (st1 := []) (h1 := (124, I, J, R)) rfl ?_
  exact hk
set_option maxRecDepth 20000 in
theorem ry_z {L : Nat} {xs : Nat → Int32} {d : Nat} {I : Nat → Nat → Int32} {J : Nat → Nat → Int64} {R : Nat → Nat → Nat} {a k t w dx1 : Int32} (hG : aGd R) (b1 : t.toInt < (I 86 26).toInt) (c1 : xEv L xs d 186 0 [.ref 86, .int t] [] (124, I, J, R) (some (.int 1)) (124, I, J, R)) (n1 : 0 ≤ k.toInt) (m1 : k.toInt < 900) (c2 : xEv L xs d 176 0 [.ref 86, .int (I 115 k.toNatClampNeg), .int t] [] (124, I, J, R) (some (.int w)) (124, I, J, R)) (n2 : 0 ≤ (k - 1).toInt) (m2 : (k - 1).toInt < 900) (b2 : w.toInt = (I 115 (k - 1).toNatClampNeg).toInt) (i1 : k + (-1) = dx1) (b3 : dx1.toInt = 0) : xEv L xs (d + 1) 210 34 [.ref 86, .int a, .int 1, .int k, .int t] [] (124, I, J, R) (some (.int t)) (124, I, J, R) := by
  refine ev_go 3 (pc1 := 40) (lv1 := [.ref 86, .int a, .int 1, .int k, .int t]) (st1 := [.int (I 86 26), .int t]) (h1 := (124, I, J, R)) rfl ?_
  refine ev_br (b1 := false) rfl rfl (xcd_nge (x := t) (y := (I 86 26)) (by first | exact b1 | omega)) ?_
  refine ev_go 2 (pc1 := 46) (lv1 := [.ref 86, .int a, .int 1, .int k, .int t]) (st1 := [.int t, .ref 86]) (h1 := (124, I, J, R)) rfl ?_
  refine ev_call (v1 := (some (.int 1))) (h1 := (124, I, J, R)) rfl rfl c1 ?_
  refine ev_go 3 (pc1 := 54) (lv1 := [.ref 86, .int a, .int 1, .int k, .int t]) (st1 := [.ref 86, .ref 86]) (h1 := (124, I, J, R)) rfl ?_
  refine ev_gf (c := 86) (t := 115) (X := R 86 49) rfl rfl (fun _ => rfl) rfl (hG 86 49 115 rfl rfl) ?_
  refine ev_go 1 (pc1 := 58) (lv1 := [.ref 86, .int a, .int 1, .int k, .int t]) (st1 := [.int k, .ref 115, .ref 86]) (h1 := (124, I, J, R)) rfl ?_
  refine ev_ild (n := 900) rfl rfl (fun _ => rfl) n1 m1 ?_
  refine ev_go 1 (pc1 := 61) (lv1 := [.ref 86, .int a, .int 1, .int k, .int t]) (st1 := [.int t, .int (I 115 k.toNatClampNeg), .ref 86]) (h1 := (124, I, J, R)) rfl ?_
  refine ev_call (v1 := (some (.int w))) (h1 := (124, I, J, R)) rfl rfl c2 ?_
  refine ev_go 1 (pc1 := 65) (lv1 := [.ref 86, .int a, .int 1, .int k, .int t]) (st1 := [.ref 86, .int w]) (h1 := (124, I, J, R)) rfl ?_
  refine ev_gf (c := 86) (t := 115) (X := R 86 49) rfl rfl (fun _ => rfl) rfl (hG 86 49 115 rfl rfl) ?_
  refine ev_go 3 (pc1 := 71) (lv1 := [.ref 86, .int a, .int 1, .int k, .int t]) (st1 := [.int (k - 1), .ref 115, .int w]) (h1 := (124, I, J, R)) rfl ?_
  refine ev_ild (n := 900) rfl rfl (fun _ => rfl) n2 m2 ?_
  refine ev_br (b1 := true) rfl rfl (xcd_eq (x := w) (y := (I 115 (k - 1).toNatClampNeg)) (by first | exact b2 | omega)) ?_
  refine ev_iinc (x := k) (y := dx1) (lv1 := [.ref 86, .int a, .int 1, .int dx1, .int t]) rfl rfl (by rw [show Int32.ofInt (-1) = (-1) from by decide]; exact i1) rfl ?_
  refine ev_go 1 (pc1 := 82) (lv1 := [.ref 86, .int a, .int 1, .int dx1, .int t]) (st1 := [.int dx1]) (h1 := (124, I, J, R)) rfl ?_
  refine ev_br (b1 := false) rfl rfl (xcd_nne (x := dx1) (y := 0) (by rw [show ((0 : Int32)).toInt = 0 from by decide]; first | exact b3 | omega)) ?_
  refine ev_go 1 (pc1 := 87) (lv1 := [.ref 86, .int a, .int 1, .int dx1, .int t]) (st1 := [.int t]) (h1 := (124, I, J, R)) rfl ?_
  exact ev_ret rfl rfl
theorem i48 {a b : Int32} (h : a - 48 = b - 48) : a = b := by
  have h2 : a - 48 + 48 = b - 48 + 48 := by rw [h]
  rw [Int32.sub_add_cancel, Int32.sub_add_cancel] at h2
  exact h2
theorem pr_eq {a b p q : Nat} {ra rb rp rq : Int32} (ha : ra.toInt = a) (hb : rb.toInt = b) (hp : rp.toInt = p) (hq : rq.toInt = q) (a1 : a < 31) (b1 : b < 31) (p1 : p < 31) (q1 : q < 31) (hab : a ≠ b) (hpq : p ≠ q) : ((1 <<< (ra &&& 31)) ||| (1 <<< (rb &&& 31)) : Int32) = (1 <<< (rp &&& 31)) ||| (1 <<< (rq &&& 31)) ↔ (p = a ∧ q = b) ∨ (p = b ∧ q = a) := by
  have e1 : ∀ n, tb ((1 <<< (ra &&& 31)) ||| (1 <<< (rb &&& 31))) n = (decide (n = a) || decide (n = b)) := fun n => by rw [tb_or, tb_shl ha a1, tb_shl hb b1]
  have e2 : ∀ n, tb ((1 <<< (rp &&& 31)) ||| (1 <<< (rq &&& 31))) n = (decide (n = p) || decide (n = q)) := fun n => by rw [tb_or, tb_shl hp p1, tb_shl hq q1]
  constructor
  · intro h
    have hp' := e1 p
    rw [h, e2 p] at hp'
    have hq' := e1 q
    rw [h, e2 q] at hq'
    simp at hp' hq'
    omega
  · intro h
    apply tb_ext
    intro n _
    rw [e1, e2]
    rcases h with ⟨rfl, rfl⟩ | ⟨rfl, rfl⟩
    · rfl
    · exact Bool.or_comm _ _
set_option maxRecDepth 20000 in
theorem gb_s_3 {L : Nat} {xs : Nat → Int32} {d : Nat} {I : Nat → Nat → Int32} {J : Nat → Nat → Int64} {R : Nat → Nat → Nat} {a : Int32} (hG : aGd R)  {v : Option Value} {h' : xH} (hk : xEv L xs d 98 15 [.ref 0, .int a, .int (-1), .int a, .int ((I 1 1) - 1)] [] (124, I, J, R) v h') : xEv L xs d 98 0 [.ref 0, .int a, xmk, xmk, xmk] [] (124, I, J, R) v h' := by
  refine ev_go 5 (pc1 := 5) (lv1 := [.ref 0, .int a, .int (-1), .int a, xmk]) (st1 := [.ref 0]) (h1 := (124, I, J, R)) rfl ?_
  refine ev_gf (c := 0) (t := 1) (X := R 0 0) rfl rfl (fun _ => rfl) rfl (hG 0 0 1 rfl rfl) ?_
  refine ev_go 4 (pc1 := 15) (lv1 := [.ref 0, .int a, .int (-1), .int a, .int ((I 1 1) - 1)]) (st1 := []) (h1 := (124, I, J, R)) rfl ?_
  exact hk
set_option maxRecDepth 20000 in
theorem gb_e_3 {L : Nat} {xs : Nat → Int32} {d : Nat} {I : Nat → Nat → Int32} {J : Nat → Nat → Int64} {R : Nat → Nat → Nat} {a cm nx i : Int32} (hG : aGd R) (b1 : i.toInt ≤ 0) : xEv L xs d 98 15 [.ref 0, .int a, .int cm, .int nx, .int i] [] (124, I, J, R) (some (.int cm)) (124, I, J, R) := by
  refine ev_go 1 (pc1 := 17) (lv1 := [.ref 0, .int a, .int cm, .int nx, .int i]) (st1 := [.int i]) (h1 := (124, I, J, R)) rfl ?_
  refine ev_br (b1 := true) rfl rfl (xcd_le (x := i) (y := 0) (by rw [show ((0 : Int32)).toInt = 0 from by decide]; first | exact b1 | omega)) ?_
  refine ev_go 1 (pc1 := 64) (lv1 := [.ref 0, .int a, .int cm, .int nx, .int i]) (st1 := [.int cm]) (h1 := (124, I, J, R)) rfl ?_
  exact ev_ret rfl rfl
set_option maxRecDepth 20000 in
theorem gb_n_3 {L : Nat} {xs : Nat → Int32} {d : Nat} {I : Nat → Nat → Int32} {J : Nat → Nat → Int64} {R : Nat → Nat → Nat} {a cm nx i p q c : Int32} (hG : aGd R) (b1 : i.toInt > 0) (r_R_0_8 : R 0 8 = 4) (c1 : xEv L xs d 97 0 [.ref 0, .int i, xmk] [] (124, I, J, R) (some (.int p)) (124, I, J, R)) (c2 : xEv L xs d 97 0 [.ref 0, .int (i - 1), xmk] [] (124, I, J, R) (some (.int q)) (124, I, J, R)) (c3 : xEv L xs d 99 0 [.ref 17, .int p, .int q, .int nx, xmk, xmk] [] (124, I, J, R) (some (.int c)) (124, I, J, R)) (b2 : c.toInt = -1) : xEv L xs (d + 1) 98 15 [.ref 0, .int a, .int cm, .int nx, .int i] [] (124, I, J, R) (some (.int (-1))) (124, I, J, R) := by
  refine ev_go 1 (pc1 := 17) (lv1 := [.ref 0, .int a, .int cm, .int nx, .int i]) (st1 := [.int i]) (h1 := (124, I, J, R)) rfl ?_
  refine ev_br (b1 := false) rfl rfl (xcd_nle (x := i) (y := 0) (by rw [show ((0 : Int32)).toInt = 0 from by decide]; first | exact b1 | omega)) ?_
  refine ev_go 1 (pc1 := 21) (lv1 := [.ref 0, .int a, .int cm, .int nx, .int i]) (st1 := [.ref 0]) (h1 := (124, I, J, R)) rfl ?_
  refine ev_gf (c := 0) (t := 3) (X := R 0 8) rfl rfl (fun _ => rfl) rfl r_R_0_8 ?_
  refine ev_gf (c := 3) (t := 17) (X := R 3 13) rfl rfl (fun _ => rfl) rfl (hG 3 13 17 rfl rfl) ?_
  refine ev_go 2 (pc1 := 30) (lv1 := [.ref 0, .int a, .int cm, .int nx, .int i]) (st1 := [.int i, .ref 0, .ref 17]) (h1 := (124, I, J, R)) rfl ?_
  refine ev_call (v1 := (some (.int p))) (h1 := (124, I, J, R)) rfl rfl c1 ?_
  refine ev_go 4 (pc1 := 38) (lv1 := [.ref 0, .int a, .int cm, .int nx, .int i]) (st1 := [.int (i - 1), .ref 0, .int p, .ref 17]) (h1 := (124, I, J, R)) rfl ?_
  refine ev_call (v1 := (some (.int q))) (h1 := (124, I, J, R)) rfl rfl c2 ?_
  refine ev_go 1 (pc1 := 42) (lv1 := [.ref 0, .int a, .int cm, .int nx, .int i]) (st1 := [.int nx, .int q, .int p, .ref 17]) (h1 := (124, I, J, R)) rfl ?_
  refine ev_call (v1 := (some (.int c))) (h1 := (124, I, J, R)) rfl rfl c3 ?_
  refine ev_go 3 (pc1 := 48) (lv1 := [.ref 0, .int a, .int c, .int nx, .int i]) (st1 := [.int (-1), .int c]) (h1 := (124, I, J, R)) rfl ?_
  refine ev_br (b1 := false) rfl rfl (xcd_nne (x := c) (y := (-1)) (by rw [show ((-1 : Int32)).toInt = -1 from by decide]; first | exact b2 | omega)) ?_
  refine ev_go 1 (pc1 := 52) (lv1 := [.ref 0, .int a, .int c, .int nx, .int i]) (st1 := [.int (-1)]) (h1 := (124, I, J, R)) rfl ?_
  exact ev_ret rfl rfl
set_option maxRecDepth 20000 in
theorem gb_y_3 {L : Nat} {xs : Nat → Int32} {d : Nat} {I : Nat → Nat → Int32} {J : Nat → Nat → Int64} {R : Nat → Nat → Nat} {a cm nx i p q c dx1 : Int32} (hG : aGd R) (b1 : i.toInt > 0) (r_R_0_8 : R 0 8 = 4) (c1 : xEv L xs d 97 0 [.ref 0, .int i, xmk] [] (124, I, J, R) (some (.int p)) (124, I, J, R)) (c2 : xEv L xs d 97 0 [.ref 0, .int (i - 1), xmk] [] (124, I, J, R) (some (.int q)) (124, I, J, R)) (c3 : xEv L xs d 99 0 [.ref 17, .int p, .int q, .int nx, xmk, xmk] [] (124, I, J, R) (some (.int c)) (124, I, J, R)) (b2 : c.toInt ≠ -1) (i1 : i + (-1) = dx1) {v : Option Value} {h' : xH} (hk : xEv L xs (d + 1) 98 15 [.ref 0, .int a, .int c, .int (c + 1), .int dx1] [] (124, I, J, R) v h') : xEv L xs (d + 1) 98 15 [.ref 0, .int a, .int cm, .int nx, .int i] [] (124, I, J, R) v h' := by
  refine ev_go 1 (pc1 := 17) (lv1 := [.ref 0, .int a, .int cm, .int nx, .int i]) (st1 := [.int i]) (h1 := (124, I, J, R)) rfl ?_
  refine ev_br (b1 := false) rfl rfl (xcd_nle (x := i) (y := 0) (by rw [show ((0 : Int32)).toInt = 0 from by decide]; first | exact b1 | omega)) ?_
  refine ev_go 1 (pc1 := 21) (lv1 := [.ref 0, .int a, .int cm, .int nx, .int i]) (st1 := [.ref 0]) (h1 := (124, I, J, R)) rfl ?_
  refine ev_gf (c := 0) (t := 3) (X := R 0 8) rfl rfl (fun _ => rfl) rfl r_R_0_8 ?_
  refine ev_gf (c := 3) (t := 17) (X := R 3 13) rfl rfl (fun _ => rfl) rfl (hG 3 13 17 rfl rfl) ?_
  refine ev_go 2 (pc1 := 30) (lv1 := [.ref 0, .int a, .int cm, .int nx, .int i]) (st1 := [.int i, .ref 0, .ref 17]) (h1 := (124, I, J, R)) rfl ?_
  refine ev_call (v1 := (some (.int p))) (h1 := (124, I, J, R)) rfl rfl c1 ?_
  refine ev_go 4 (pc1 := 38) (lv1 := [.ref 0, .int a, .int cm, .int nx, .int i]) (st1 := [.int (i - 1), .ref 0, .int p, .ref 17]) (h1 := (124, I, J, R)) rfl ?_
  refine ev_call (v1 := (some (.int q))) (h1 := (124, I, J, R)) rfl rfl c2 ?_
  refine ev_go 1 (pc1 := 42) (lv1 := [.ref 0, .int a, .int cm, .int nx, .int i]) (st1 := [.int nx, .int q, .int p, .ref 17]) (h1 := (124, I, J, R)) rfl ?_
  refine ev_call (v1 := (some (.int c))) (h1 := (124, I, J, R)) rfl rfl c3 ?_
  refine ev_go 3 (pc1 := 48) (lv1 := [.ref 0, .int a, .int c, .int nx, .int i]) (st1 := [.int (-1), .int c]) (h1 := (124, I, J, R)) rfl ?_
  refine ev_br (b1 := true) rfl rfl (xcd_ne (x := c) (y := (-1)) (by rw [show ((-1 : Int32)).toInt = -1 from by decide]; first | exact b2 | omega)) ?_
  refine ev_go 4 (pc1 := 57) (lv1 := [.ref 0, .int a, .int c, .int (c + 1), .int i]) (st1 := []) (h1 := (124, I, J, R)) rfl ?_
  refine ev_iinc (x := i) (y := dx1) (lv1 := [.ref 0, .int a, .int c, .int (c + 1), .int dx1]) rfl rfl (by rw [show Int32.ofInt (-1) = (-1) from by decide]; exact i1) rfl ?_
  refine ev_go 1 (pc1 := 15) (lv1 := [.ref 0, .int a, .int c, .int (c + 1), .int dx1]) (st1 := []) (h1 := (124, I, J, R)) rfl ?_
  exact hk
set_option maxRecDepth 20000 in
theorem ns_s_3 {L : Nat} {xs : Nat → Int32} {d : Nat} {I : Nat → Nat → Int32} {J : Nat → Nat → Int64} {R : Nat → Nat → Nat} {p q t0 : Int32} (hG : aGd R)  {v : Option Value} {h' : xH} (hk : xEv L xs d 99 12 [.ref 17, .int p, .int q, .int t0, .int ((1 <<< (p &&& 31)) ||| (1 <<< (q &&& 31))), .int t0] [] (124, I, J, R) v h') : xEv L xs d 99 0 [.ref 17, .int p, .int q, .int t0, xmk, xmk] [] (124, I, J, R) v h' := by
  refine ev_go 2 (pc1 := 2) (lv1 := [.ref 17, .int p, .int q, .int t0, xmk, xmk]) (st1 := [.int p, .int 1]) (h1 := (124, I, J, R)) rfl ?_
  refine ev_go 3 (pc1 := 5) (lv1 := [.ref 17, .int p, .int q, .int t0, xmk, xmk]) (st1 := [.int q, .int 1, .int (1 <<< (p &&& 31))]) (h1 := (124, I, J, R)) rfl ?_
  refine ev_go 5 (pc1 := 12) (lv1 := [.ref 17, .int p, .int q, .int t0, .int ((1 <<< (p &&& 31)) ||| (1 <<< (q &&& 31))), .int t0]) (st1 := []) (h1 := (124, I, J, R)) rfl ?_
  exact hk
set_option maxRecDepth 20000 in
theorem ns_e_3 {L : Nat} {xs : Nat → Int32} {d : Nat} {I : Nat → Nat → Int32} {J : Nat → Nat → Int64} {R : Nat → Nat → Nat} {p q t0 w t : Int32} (hG : aGd R) (b1 : t.toInt ≥ (I 17 5).toInt) : xEv L xs d 99 12 [.ref 17, .int p, .int q, .int t0, .int w, .int t] [] (124, I, J, R) (some (.int (-1))) (124, I, J, R) := by
  refine ev_go 3 (pc1 := 18) (lv1 := [.ref 17, .int p, .int q, .int t0, .int w, .int t]) (st1 := [.int (I 17 5), .int t]) (h1 := (124, I, J, R)) rfl ?_
  refine ev_br (b1 := true) rfl rfl (xcd_ge (x := t) (y := (I 17 5)) (by first | exact b1 | omega)) ?_
  refine ev_go 1 (pc1 := 68) (lv1 := [.ref 17, .int p, .int q, .int t0, .int w, .int t]) (st1 := [.int (-1)]) (h1 := (124, I, J, R)) rfl ?_
  exact ev_ret rfl rfl
set_option maxRecDepth 20000 in
theorem ns_n_3 {L : Nat} {xs : Nat → Int32} {d : Nat} {I : Nat → Nat → Int32} {J : Nat → Nat → Int64} {R : Nat → Nat → Nat} {p q t0 w t : Int32} (hG : aGd R) (b1 : t.toInt < (I 17 5).toInt) (c1 : xEv L xs d 67 0 [.ref 17, .int t] [] (124, I, J, R) (some (.int 0)) (124, I, J, R)) {v : Option Value} {h' : xH} (hk : xEv L xs (d + 1) 99 12 [.ref 17, .int p, .int q, .int t0, .int w, .int (t + 1)] [] (124, I, J, R) v h') : xEv L xs (d + 1) 99 12 [.ref 17, .int p, .int q, .int t0, .int w, .int t] [] (124, I, J, R) v h' := by
  refine ev_go 3 (pc1 := 18) (lv1 := [.ref 17, .int p, .int q, .int t0, .int w, .int t]) (st1 := [.int (I 17 5), .int t]) (h1 := (124, I, J, R)) rfl ?_
  refine ev_br (b1 := false) rfl rfl (xcd_nge (x := t) (y := (I 17 5)) (by first | exact b1 | omega)) ?_
  refine ev_go 2 (pc1 := 24) (lv1 := [.ref 17, .int p, .int q, .int t0, .int w, .int t]) (st1 := [.int t, .ref 17]) (h1 := (124, I, J, R)) rfl ?_
  refine ev_call (v1 := (some (.int 0))) (h1 := (124, I, J, R)) rfl rfl c1 ?_
  refine ev_go 3 (pc1 := 12) (lv1 := [.ref 17, .int p, .int q, .int t0, .int w, .int (t + 1)]) (st1 := []) (h1 := (124, I, J, R)) rfl ?_
  exact hk
set_option maxRecDepth 20000 in
theorem ns_m_3 {L : Nat} {xs : Nat → Int32} {d : Nat} {I : Nat → Nat → Int32} {J : Nat → Nat → Int64} {R : Nat → Nat → Nat} {p q t0 w t r1 r2 : Int32} (hG : aGd R) (b1 : t.toInt < (I 17 5).toInt) (c1 : xEv L xs d 67 0 [.ref 17, .int t] [] (124, I, J, R) (some (.int 1)) (124, I, J, R)) (c2 : xEv L xs d 39 0 [.ref 20, .int t] [] (124, I, J, R) (some (.int r1)) (124, I, J, R)) (c3 : xEv L xs d 39 0 [.ref 21, .int t] [] (124, I, J, R) (some (.int r2)) (124, I, J, R)) (b2 : ((1 <<< (r1 &&& 31)) ||| (1 <<< (r2 &&& 31))).toInt ≠ w.toInt) {v : Option Value} {h' : xH} (hk : xEv L xs (d + 1) 99 12 [.ref 17, .int p, .int q, .int t0, .int w, .int (t + 1)] [] (124, I, J, R) v h') : xEv L xs (d + 1) 99 12 [.ref 17, .int p, .int q, .int t0, .int w, .int t] [] (124, I, J, R) v h' := by
  refine ev_go 3 (pc1 := 18) (lv1 := [.ref 17, .int p, .int q, .int t0, .int w, .int t]) (st1 := [.int (I 17 5), .int t]) (h1 := (124, I, J, R)) rfl ?_
  refine ev_br (b1 := false) rfl rfl (xcd_nge (x := t) (y := (I 17 5)) (by first | exact b1 | omega)) ?_
  refine ev_go 2 (pc1 := 24) (lv1 := [.ref 17, .int p, .int q, .int t0, .int w, .int t]) (st1 := [.int t, .ref 17]) (h1 := (124, I, J, R)) rfl ?_
  refine ev_call (v1 := (some (.int 1))) (h1 := (124, I, J, R)) rfl rfl c1 ?_
  refine ev_go 3 (pc1 := 32) (lv1 := [.ref 17, .int p, .int q, .int t0, .int w, .int t]) (st1 := [.ref 17, .int 1]) (h1 := (124, I, J, R)) rfl ?_
  refine ev_gf (c := 17) (t := 20) (X := R 17 2) rfl rfl (fun _ => rfl) rfl (hG 17 2 20 rfl rfl) ?_
  refine ev_go 1 (pc1 := 37) (lv1 := [.ref 17, .int p, .int q, .int t0, .int w, .int t]) (st1 := [.int t, .ref 20, .int 1]) (h1 := (124, I, J, R)) rfl ?_
  refine ev_call (v1 := (some (.int r1))) (h1 := (124, I, J, R)) rfl rfl c2 ?_
  refine ev_go 3 (pc1 := 43) (lv1 := [.ref 17, .int p, .int q, .int t0, .int w, .int t]) (st1 := [.ref 17, .int 1, .int (1 <<< (r1 &&& 31))]) (h1 := (124, I, J, R)) rfl ?_
  refine ev_gf (c := 17) (t := 21) (X := R 17 3) rfl rfl (fun _ => rfl) rfl (hG 17 3 21 rfl rfl) ?_
  refine ev_go 1 (pc1 := 48) (lv1 := [.ref 17, .int p, .int q, .int t0, .int w, .int t]) (st1 := [.int t, .ref 21, .int 1, .int (1 <<< (r1 &&& 31))]) (h1 := (124, I, J, R)) rfl ?_
  refine ev_call (v1 := (some (.int r2))) (h1 := (124, I, J, R)) rfl rfl c3 ?_
  refine ev_go 3 (pc1 := 55) (lv1 := [.ref 17, .int p, .int q, .int t0, .int w, .int t]) (st1 := [.int w, .int ((1 <<< (r1 &&& 31)) ||| (1 <<< (r2 &&& 31)))]) (h1 := (124, I, J, R)) rfl ?_
  refine ev_br (b1 := true) rfl rfl (xcd_ne (x := ((1 <<< (r1 &&& 31)) ||| (1 <<< (r2 &&& 31)))) (y := w) (by first | exact b2 | omega)) ?_
  refine ev_go 2 (pc1 := 12) (lv1 := [.ref 17, .int p, .int q, .int t0, .int w, .int (t + 1)]) (st1 := []) (h1 := (124, I, J, R)) rfl ?_
  exact hk
set_option maxRecDepth 20000 in
theorem ns_y_3 {L : Nat} {xs : Nat → Int32} {d : Nat} {I : Nat → Nat → Int32} {J : Nat → Nat → Int64} {R : Nat → Nat → Nat} {p q t0 w t r1 r2 : Int32} (hG : aGd R) (b1 : t.toInt < (I 17 5).toInt) (c1 : xEv L xs d 67 0 [.ref 17, .int t] [] (124, I, J, R) (some (.int 1)) (124, I, J, R)) (c2 : xEv L xs d 39 0 [.ref 20, .int t] [] (124, I, J, R) (some (.int r1)) (124, I, J, R)) (c3 : xEv L xs d 39 0 [.ref 21, .int t] [] (124, I, J, R) (some (.int r2)) (124, I, J, R)) (b2 : ((1 <<< (r1 &&& 31)) ||| (1 <<< (r2 &&& 31))).toInt = w.toInt) : xEv L xs (d + 1) 99 12 [.ref 17, .int p, .int q, .int t0, .int w, .int t] [] (124, I, J, R) (some (.int t)) (124, I, J, R) := by
  refine ev_go 3 (pc1 := 18) (lv1 := [.ref 17, .int p, .int q, .int t0, .int w, .int t]) (st1 := [.int (I 17 5), .int t]) (h1 := (124, I, J, R)) rfl ?_
  refine ev_br (b1 := false) rfl rfl (xcd_nge (x := t) (y := (I 17 5)) (by first | exact b1 | omega)) ?_
  refine ev_go 2 (pc1 := 24) (lv1 := [.ref 17, .int p, .int q, .int t0, .int w, .int t]) (st1 := [.int t, .ref 17]) (h1 := (124, I, J, R)) rfl ?_
  refine ev_call (v1 := (some (.int 1))) (h1 := (124, I, J, R)) rfl rfl c1 ?_
  refine ev_go 3 (pc1 := 32) (lv1 := [.ref 17, .int p, .int q, .int t0, .int w, .int t]) (st1 := [.ref 17, .int 1]) (h1 := (124, I, J, R)) rfl ?_
  refine ev_gf (c := 17) (t := 20) (X := R 17 2) rfl rfl (fun _ => rfl) rfl (hG 17 2 20 rfl rfl) ?_
  refine ev_go 1 (pc1 := 37) (lv1 := [.ref 17, .int p, .int q, .int t0, .int w, .int t]) (st1 := [.int t, .ref 20, .int 1]) (h1 := (124, I, J, R)) rfl ?_
  refine ev_call (v1 := (some (.int r1))) (h1 := (124, I, J, R)) rfl rfl c2 ?_
  refine ev_go 3 (pc1 := 43) (lv1 := [.ref 17, .int p, .int q, .int t0, .int w, .int t]) (st1 := [.ref 17, .int 1, .int (1 <<< (r1 &&& 31))]) (h1 := (124, I, J, R)) rfl ?_
  refine ev_gf (c := 17) (t := 21) (X := R 17 3) rfl rfl (fun _ => rfl) rfl (hG 17 3 21 rfl rfl) ?_
  refine ev_go 1 (pc1 := 48) (lv1 := [.ref 17, .int p, .int q, .int t0, .int w, .int t]) (st1 := [.int t, .ref 21, .int 1, .int (1 <<< (r1 &&& 31))]) (h1 := (124, I, J, R)) rfl ?_
  refine ev_call (v1 := (some (.int r2))) (h1 := (124, I, J, R)) rfl rfl c3 ?_
  refine ev_go 3 (pc1 := 55) (lv1 := [.ref 17, .int p, .int q, .int t0, .int w, .int t]) (st1 := [.int w, .int ((1 <<< (r1 &&& 31)) ||| (1 <<< (r2 &&& 31)))]) (h1 := (124, I, J, R)) rfl ?_
  refine ev_br (b1 := false) rfl rfl (xcd_nne (x := ((1 <<< (r1 &&& 31)) ||| (1 <<< (r2 &&& 31)))) (y := w) (by first | exact b2 | omega)) ?_
  refine ev_go 1 (pc1 := 60) (lv1 := [.ref 17, .int p, .int q, .int t0, .int w, .int t]) (st1 := [.int t]) (h1 := (124, I, J, R)) rfl ?_
  exact ev_ret rfl rfl
set_option maxRecDepth 20000 in
theorem rl_x_3 {L : Nat} {xs : Nat → Int32} {d : Nat} {I : Nat → Nat → Int32} {J : Nat → Nat → Int64} {R : Nat → Nat → Nat} {a : Int32} (hG : aGd R) (r_R_0_8 : R 0 8 = 4) (c1 : xEv L xs d 65 0 [.ref 17, .int a] [] (124, I, J, R) (some (.int 0)) (124, I, J, R)) : xEv L xs (d + 1) 95 0 [.ref 0, .int a, xmk] [] (124, I, J, R) (some (.int (-2))) (124, (uI I 1 1 0), J, R) := by
  refine ev_go 3 (pc1 := 4) (lv1 := [.ref 0, .int a, .int (-2)]) (st1 := [.ref 0]) (h1 := (124, I, J, R)) rfl ?_
  refine ev_gf (c := 0) (t := 3) (X := R 0 8) rfl rfl (fun _ => rfl) rfl r_R_0_8 ?_
  refine ev_gf (c := 3) (t := 17) (X := R 3 13) rfl rfl (fun _ => rfl) rfl (hG 3 13 17 rfl rfl) ?_
  refine ev_go 1 (pc1 := 11) (lv1 := [.ref 0, .int a, .int (-2)]) (st1 := [.int a, .ref 17]) (h1 := (124, I, J, R)) rfl ?_
  refine ev_call (v1 := (some (.int 0))) (h1 := (124, I, J, R)) rfl rfl c1 ?_
  refine ev_go 2 (pc1 := 35) (lv1 := [.ref 0, .int a, .int (-2)]) (st1 := [.ref 0]) (h1 := (124, I, J, R)) rfl ?_
  refine ev_gf (c := 0) (t := 1) (X := R 0 0) rfl rfl (fun _ => rfl) rfl (hG 0 0 1 rfl rfl) ?_
  refine ev_go 3 (pc1 := 43) (lv1 := [.ref 0, .int a, .int (-2)]) (st1 := [.int (-2)]) (h1 := (124, (uI I 1 1 0), J, R)) rfl ?_
  exact ev_ret rfl rfl
set_option maxRecDepth 20000 in
theorem rl_n_3 {L : Nat} {xs : Nat → Int32} {d : Nat} {I : Nat → Nat → Int32} {J : Nat → Nat → Int64} {R : Nat → Nat → Nat} {a : Int32} (hG : aGd R) (r_R_0_8 : R 0 8 = 4) (c1 : xEv L xs d 65 0 [.ref 17, .int a] [] (124, I, J, R) (some (.int 1)) (124, I, J, R)) (c2 : xEv L xs d 96 0 [.ref 0, xmk, xmk] [] (124, I, J, R) (some (.int 0)) (124, I, J, R)) : xEv L xs (d + 1) 95 0 [.ref 0, .int a, xmk] [] (124, I, J, R) (some (.int (-1))) (124, (uI I 1 1 0), J, R) := by
  refine ev_go 3 (pc1 := 4) (lv1 := [.ref 0, .int a, .int (-2)]) (st1 := [.ref 0]) (h1 := (124, I, J, R)) rfl ?_
  refine ev_gf (c := 0) (t := 3) (X := R 0 8) rfl rfl (fun _ => rfl) rfl r_R_0_8 ?_
  refine ev_gf (c := 3) (t := 17) (X := R 3 13) rfl rfl (fun _ => rfl) rfl (hG 3 13 17 rfl rfl) ?_
  refine ev_go 1 (pc1 := 11) (lv1 := [.ref 0, .int a, .int (-2)]) (st1 := [.int a, .ref 17]) (h1 := (124, I, J, R)) rfl ?_
  refine ev_call (v1 := (some (.int 1))) (h1 := (124, I, J, R)) rfl rfl c1 ?_
  refine ev_go 2 (pc1 := 18) (lv1 := [.ref 0, .int a, .int (-2)]) (st1 := [.ref 0]) (h1 := (124, I, J, R)) rfl ?_
  refine ev_call (v1 := (some (.int 0))) (h1 := (124, I, J, R)) rfl rfl c2 ?_
  refine ev_go 4 (pc1 := 35) (lv1 := [.ref 0, .int a, .int (-1)]) (st1 := [.ref 0]) (h1 := (124, I, J, R)) rfl ?_
  refine ev_gf (c := 0) (t := 1) (X := R 0 0) rfl rfl (fun _ => rfl) rfl (hG 0 0 1 rfl rfl) ?_
  refine ev_go 3 (pc1 := 43) (lv1 := [.ref 0, .int a, .int (-1)]) (st1 := [.int (-1)]) (h1 := (124, (uI I 1 1 0), J, R)) rfl ?_
  exact ev_ret rfl rfl
set_option maxRecDepth 20000 in
theorem rl_y_3 {L : Nat} {xs : Nat → Int32} {d : Nat} {I : Nat → Nat → Int32} {J : Nat → Nat → Int64} {R : Nat → Nat → Nat} {a r1 : Int32} (hG : aGd R) (r_R_0_8 : R 0 8 = 4) (c1 : xEv L xs d 65 0 [.ref 17, .int a] [] (124, I, J, R) (some (.int 1)) (124, I, J, R)) (c2 : xEv L xs d 96 0 [.ref 0, xmk, xmk] [] (124, I, J, R) (some (.int 1)) (124, I, J, R)) (c3 : xEv L xs d 98 0 [.ref 0, .int a, xmk, xmk, xmk] [] (124, I, J, R) (some (.int r1)) (124, I, J, R)) : xEv L xs (d + 1) 95 0 [.ref 0, .int a, xmk] [] (124, I, J, R) (some (.int r1)) (124, (uI I 1 1 0), J, R) := by
  refine ev_go 3 (pc1 := 4) (lv1 := [.ref 0, .int a, .int (-2)]) (st1 := [.ref 0]) (h1 := (124, I, J, R)) rfl ?_
  refine ev_gf (c := 0) (t := 3) (X := R 0 8) rfl rfl (fun _ => rfl) rfl r_R_0_8 ?_
  refine ev_gf (c := 3) (t := 17) (X := R 3 13) rfl rfl (fun _ => rfl) rfl (hG 3 13 17 rfl rfl) ?_
  refine ev_go 1 (pc1 := 11) (lv1 := [.ref 0, .int a, .int (-2)]) (st1 := [.int a, .ref 17]) (h1 := (124, I, J, R)) rfl ?_
  refine ev_call (v1 := (some (.int 1))) (h1 := (124, I, J, R)) rfl rfl c1 ?_
  refine ev_go 2 (pc1 := 18) (lv1 := [.ref 0, .int a, .int (-2)]) (st1 := [.ref 0]) (h1 := (124, I, J, R)) rfl ?_
  refine ev_call (v1 := (some (.int 1))) (h1 := (124, I, J, R)) rfl rfl c2 ?_
  refine ev_go 3 (pc1 := 26) (lv1 := [.ref 0, .int a, .int (-2)]) (st1 := [.int a, .ref 0]) (h1 := (124, I, J, R)) rfl ?_
  refine ev_call (v1 := (some (.int r1))) (h1 := (124, I, J, R)) rfl rfl c3 ?_
  refine ev_go 3 (pc1 := 35) (lv1 := [.ref 0, .int a, .int r1]) (st1 := [.ref 0]) (h1 := (124, I, J, R)) rfl ?_
  refine ev_gf (c := 0) (t := 1) (X := R 0 0) rfl rfl (fun _ => rfl) rfl (hG 0 0 1 rfl rfl) ?_
  refine ev_go 3 (pc1 := 43) (lv1 := [.ref 0, .int a, .int r1]) (st1 := [.int r1]) (h1 := (124, (uI I 1 1 0), J, R)) rfl ?_
  exact ev_ret rfl rfl
theorem rpl_3 {L : Nat} {xs : Nat → Int32} {d d' : Nat} {I Ir : Nat → Nat → Int32} {J Jr : Nat → Nat → Int64} {R Rr : Nat → Nat → Nat} (hG : aGd R) (hGr : aGd Rr) (h8 : R 0 8 = 4) {np nm nn n : Nat} {l : List (Nat × Nat)} (hV : VR_3 np nm nn l I Ir) (hn : (I 1 1).toInt = n) (hn9 : n ≤ 900) (hE : rdE_3 np n I Ir) (hU : ∀ q, q + 1 < n → I 2 (q + 1) ≠ I 2 q) {a : Int32} : ∀ (f tN kN : Nat) (t k : Int32), tN + f = l.length → t.toInt = tN → k.toInt = kN → 1 ≤ kN → kN < n →
    ∃ c r : Int32, (∀ t0, xEv L xs (d + 2) 99 12 [.ref 17, .int (I 2 kN - 48), .int (I 2 (kN - 1) - 48), .int t0, .int ((1 <<< ((I 2 kN - 48) &&& 31)) ||| (1 <<< ((I 2 (kN - 1) - 48) &&& 31))), .int t] [] (124, I, J, R) (some (.int c)) (124, I, J, R)) ∧ ((c = -1 ∧ r = -1) ∨ (c.toInt ≠ -1 ∧ xEv L xs (d + 3) 98 15 [.ref 0, .int a, .int c, .int (c + 1), .int (k + (-1))] [] (124, I, J, R) (some (.int r)) (124, I, J, R))) ∧ xEv L xs (d' + 3) 210 34 [.ref 86, .int a, .int 1, .int k, .int t] [] (124, Ir, Jr, Rr) (some (.int r)) (124, Ir, Jr, Rr) := by
  have hV0 := hV
  obtain ⟨⟨p1, p2, p3⟩, p4, p5, p6, ⟨q1, q2⟩, ⟨q3, q4⟩, ⟨q5, q6⟩, q7, q8, q9, ⟨q10, q11⟩, q12, q13, q14, q15, -⟩ := hV
  intro f
  induction f with
  | zero =>
    intro tN kN t k ht0 ht hk k1 kn
    exact ⟨-1, -1, fun t0 => ns_e_3 hG (by omega), Or.inl ⟨rfl, rfl⟩, ry_e hGr (by omega)⟩
  | succ f ih =>
    intro tN kN t k ht0 ht hk k1 kn
    obtain ⟨m, hm, e1, e2, e3, e4, g1, g2, g3, g4, g5⟩ := tmr2_3 hV0 (t := tN) (by omega)
    have ec := clamp_s (i := t) (by omega)
    have ekt : t.toNatClampNeg = tN := by omega
    have ecm := clamp_s (i := Ir 101 tN) (by omega)
    have ekm : (Ir 101 tN).toNatClampNeg = m := by omega
    have eck := clamp_s (i := k) (by omega)
    have ekk : k.toNatClampNeg = kN := by omega
    have em1 : (-1 : Int32).toInt = -1 := by decide
    have ek0 : (k + (-1)).toInt = (kN - 1 : Nat) := by rw [i_add (by rw [em1]; omega) (by rw [em1]; omega), em1]; omega
    obtain ⟨kd, ekd⟩ : ∃ kd, k + (-1) = kd := ⟨_, rfl⟩
    rw [ekd] at ek0 ⊢
    have ek1 := ek0
    have es1 : (k - 1).toInt = (kN - 1 : Nat) := by rw [i_sub (by rw [show (1 : Int32).toInt = 1 from by decide]; omega) (by rw [show (1 : Int32).toInt = 1 from by decide]; omega), show (1 : Int32).toInt = 1 from by decide]; omega
    have ecs := clamp_s (i := k - 1) (by omega)
    have eks : (k - 1).toNatClampNeg = kN - 1 := by omega
    have ht' : (t + 1).toInt = (tN + 1 : Nat) := by rw [i_add1 (by omega)]; omega
    have at1 : ∀ c, (∀ g : FieldType → Nat → Option xR, xarr (124, I, J, R) c g = g .int 64) → ∀ d, xEv L xs d 39 0 [.ref c, .int t] [] (124, I, J, R) (some (.int (I c tN))) (124, I, J, R) := by
      intro c ho d
      have h4 := at_run (L := L) (xs := xs) (d := d) (h := (124, I, J, R)) ho (by decide) t
      rw [if_pos ⟨by omega, by omega⟩, ekt] at h4
      exact h4
    have c1 := at1 20 (fun _ => rfl) (d + 1)
    have c2 := at1 21 (fun _ => rfl) (d + 1)
    have c3 := at1 22 (fun _ => rfl) d
    rw [e2] at c1
    rw [e3] at c2
    rw [e4] at c3
    have m1 := oA (L := L) (xs := xs) (d := d' + 1) (I := Ir) (J := Jr) (t := t) hGr (by omega) (by omega) (by rw [ekt]; omega) (by rw [ekt]; omega)
    have m2 := tA (L := L) (xs := xs) (d := d' + 1) (I := Ir) (J := Jr) (t := t) hGr (by omega) (by omega) (by rw [ekt]; omega) (by rw [ekt]; omega)
    rw [ekt, ekm] at m1 m2
    obtain ⟨x1, -, x3, x4⟩ := hE kN kn
    obtain ⟨y1, -, y3, y4⟩ := hE (kN - 1) (by omega)
    by_cases hs : (Ir 95 m).toInt = 10
    rotate_left
    · have k1' := cS_0_3 (L := L) (xs := xs) (I := I) (J := J) hG c3 hs
      have k2 := iS_0 (L := L) (xs := xs) (d := d' + 2) (I := Ir) (J := Jr) (t := t) hGr (by omega) (by omega) (by rw [ekt]; omega) (by rw [ekt]; omega) (by rw [ekt, ekm]; exact hs)
      obtain ⟨c, r, z1, z2, z3⟩ := ih (tN + 1) kN (t + 1) k (by omega) ht' hk k1 kn
      rw [ekd] at z2
      exact ⟨c, r, fun t0 => ns_n_3 hG (by omega) k1' (z1 t0), z2, ry_u hGr (by omega) k2 z3⟩
    have k1' := cS_1_3 (L := L) (xs := xs) (I := I) (J := J) hG c3 hs
    have k2 := iS_1 (L := L) (xs := xs) (d := d' + 2) (I := Ir) (J := Jr) (t := t) hGr (by omega) (by omega) (by rw [ekt]; omega) (by rw [ekt]; omega) (by rw [ekt, ekm]; exact hs)
    obtain ⟨an, ha⟩ := Int.eq_ofNat_of_zero_le g1
    obtain ⟨bn, hb⟩ := Int.eq_ofNat_of_zero_le g3
    obtain ⟨pn, hpn⟩ := Int.eq_ofNat_of_zero_le x3
    obtain ⟨qn, hqn⟩ := Int.eq_ofNat_of_zero_le y3
    have hpq : pn ≠ qn := by
      intro z
      apply hU (kN - 1) (by omega)
      have hh : I 2 kN - 48 = I 2 (kN - 1) - 48 := Int32.toInt_inj.mp (by omega)
      rw [show kN - 1 + 1 = kN from by omega]
      exact i48 hh
    have key := pr_eq (ra := Ir 92 m) (rb := Ir 93 m) (rp := I 2 kN - 48) (rq := I 2 (kN - 1) - 48) ha hb hpn hqn (by omega) (by omega) (by omega) (by omega) (by omega) hpq
    have mm : ∃ w : Int32, xEv L xs (d' + 2) 176 0 [.ref 86, .int (Ir 115 k.toNatClampNeg), .int t] [] (124, Ir, Jr, Rr) (some (.int w)) (124, Ir, Jr, Rr) ∧ (w.toInt = (Ir 115 (k - 1).toNatClampNeg).toInt ↔ ((pn = an ∧ qn = bn) ∨ (pn = bn ∧ qn = an))) := by
      rw [ekk, eks, x1, y1]
      by_cases f1 : (I 2 kN - 48).toInt = (Ir 92 m).toInt
      · exact ⟨_, mtb_0 hGr m1 f1 m2, by constructor <;> intro z <;> omega⟩
      · by_cases f2 : (I 2 kN - 48).toInt = (Ir 93 m).toInt
        · exact ⟨_, mtb_1 hGr m1 f1 m2 f2 m1, by constructor <;> intro z <;> omega⟩
        · exact ⟨_, mtb_2 hGr m1 f1 m2 f2, by constructor <;> intro z <;> omega⟩
    obtain ⟨w, w1, w2⟩ := mm
    generalize ((pn = an ∧ qn = bn) ∨ (pn = bn ∧ qn = an)) = PP at key w2
    clear hpq g5
    by_cases hmt : PP
    rotate_left
    · obtain ⟨c, r, z1, z2, z3⟩ := ih (tN + 1) kN (t + 1) k (by omega) ht' hk k1 kn
      rw [ekd] at z2
      exact ⟨c, r, fun t0 => ns_m_3 hG (by omega) k1' c1 c2 (fun z => hmt (key.mp (Int32.toInt_inj.mp z))) (z1 t0), z2, ry_m hGr (by omega) k2 (by omega) (by omega) w1 (by omega) (by omega) (fun z => hmt (w2.mp z)) z3⟩
    · have cl : ∀ t0, xEv L xs (d + 2) 99 12 [.ref 17, .int (I 2 kN - 48), .int (I 2 (kN - 1) - 48), .int t0, .int ((1 <<< ((I 2 kN - 48) &&& 31)) ||| (1 <<< ((I 2 (kN - 1) - 48) &&& 31))), .int t] [] (124, I, J, R) (some (.int t)) (124, I, J, R) := fun t0 => ns_y_3 hG (by omega) k1' c1 c2 (by rw [key.mpr hmt])
      have tne : t.toInt ≠ -1 := by omega
      by_cases kz : kN = 1
      · exact ⟨t, t, cl, Or.inr ⟨tne, gb_e_3 hG (by omega)⟩, ry_z hGr (by omega) k2 (by omega) (by omega) w1 (by omega) (by omega) (w2.mpr hmt) ekd (by omega)⟩
      · obtain ⟨c, r, z1, z2, z3⟩ := ih (tN + 1) (kN - 1) (t + 1) kd (by omega) ht' ek1 (by omega) (by omega)
        have es2 : (kd - 1).toInt = (kN - 1 - 1 : Nat) := by rw [i_sub (by rw [show (1 : Int32).toInt = 1 from by decide]; omega) (by rw [show (1 : Int32).toInt = 1 from by decide]; omega), show (1 : Int32).toInt = 1 from by decide]; omega
        have xa := po_run_3 (L := L) (xs := xs) (d := d + 1) (I := I) (J := J) hG h8 q1 hn hn9 (q := kN - 1) (by omega) ek1
        have xb := po_run_3 (L := L) (xs := xs) (d := d + 1) (I := I) (J := J) hG h8 q1 hn hn9 (q := kN - 1 - 1) (by omega) es2
        rw [(hE (kN - 1) (by omega)).2.1] at xa
        rw [(hE (kN - 1 - 1) (by omega)).2.1] at xb
        refine ⟨t, r, cl, Or.inr ⟨tne, ?_⟩, ry_k hGr (by omega) k2 (by omega) (by omega) w1 (by omega) (by omega) (w2.mpr hmt) ekd (by omega) z3⟩
        rcases z2 with ⟨zc, zr⟩ | ⟨zc, zo⟩
        · rw [zr]
          exact gb_n_3 hG (by omega) h8 xa xb (ns_s_3 hG (z1 (t + 1))) (by rw [zc]; decide)
        · exact gb_y_3 hG (by omega) h8 xa xb (ns_s_3 hG (z1 (t + 1))) zc rfl zo
theorem rep_3 {L : Nat} {xs : Nat → Int32} {d d' : Nat} {I Ir : Nat → Nat → Int32} {J Jr : Nat → Nat → Int64} {R Rr : Nat → Nat → Nat} (hG : aGd R) (hGr : aGd Rr) (h8 : R 0 8 = 4) {np nm nn n : Nat} {l : List (Nat × Nat)} (hV : VR_3 np nm nn l I Ir) (hn : (I 1 1).toInt = n) (hm : (Ir 86 1).toInt = n) (hn9 : n ≤ 900) (hB : ∀ q, q < n → Ir 87 q &&& 255 = I 2 q ∧ -128 ≤ (Ir 87 q).toInt ∧ (Ir 87 q).toInt ≤ 127) (a : Int32) : ∃ (r : Int32) (I' Ir' : Nat → Nat → Int32), xEv L xs (d + 4) 95 0 [.ref 0, .int a, xmk] [] (124, I, J, R) (some (.int r)) (124, I', J, R) ∧ xEv L xs (d' + 3) 210 0 [.ref 86, .int a, xmk, xmk, xmk] [] (124, Ir, Jr, Rr) (some (.int r)) (124, Ir', Jr, Rr) := by
  have hV0 := hV
  obtain ⟨⟨p1, p2, p3⟩, p4, p5, p6, ⟨q1, q2⟩, ⟨q3, q4⟩, ⟨q5, q6⟩, q7, q8, q9, ⟨q10, q11⟩, -⟩ := hV
  obtain ⟨g, Ir1, x1, x2, x3, x4⟩ := rdw_3 (L := L) (xs := xs) (d := d + 1) (d' := d') (J := J) (Jr := Jr) hG hGr h8 p1 q1 hn hn9 n 0 0 0 xmk (uI (uI Ir 86 48 (Ir 86 1)) 86 1 0) (by omega) (by decide) (by rw [uI_n _ _ (by omega), uI_s]; exact hm) (by rw [uI_n _ _ (by omega), uI_n _ _ (by omega)]; exact q2) (fun q hq => by rw [uI_n _ _ (by omega), uI_n _ _ (by omega)]; exact hB q hq) (fun q hq => absurd hq (by omega)) (fun q hq => absurd hq (by omega))
  have xr := rp_s0 hGr x2
  have fr : ∀ c q, c ≠ 115 → ¬ (c = 86 ∧ (q = 1 ∨ q = 48)) → Ir1 c q = Ir c q := fun c q h1 h2 => by rw [x3 c q h1, uI_n _ _ (by omega), uI_n _ _ (by omega)]
  have i0 := in_ex (L := L) (xs := xs) (d := d' + 1) (I := Ir1) (J := Jr) hGr a 0 (Ir1 86 26)
  rw [show (0 : Int32).toInt = 0 from by decide, fr 86 26 (by omega) (by omega), q11] at i0
  have i1 : (Ir1 86 26).toInt = l.length := by rw [fr 86 26 (by omega) (by omega)]; exact q11
  rcases hm_run_3 (L := L) (xs := xs) (d := d + 3) (I := I) (J := J) hG q10 a with ⟨ha, xa⟩ | ⟨ha, xa⟩
  rotate_left
  · rcases i0 with ⟨h, -⟩ | ⟨-, x⟩
    · exact absurd h ha
    · exact ⟨-2, _, _, rl_x_3 hG h8 xa, ry_x hGr xr (ah_0 hGr (by rw [fr 86 26 (by omega) (by omega)]; exact x))⟩
  have xah : xEv L xs (d' + 2) 184 0 [.ref 86, .int a] [] (124, Ir1, Jr, Rr) (some (.int 1)) (124, Ir1, Jr, Rr) := by
    rcases i0 with ⟨-, x⟩ | ⟨h, -⟩
    · exact ah_1 hGr (by rw [fr 86 26 (by omega) (by omega)]; exact x)
    · exact absurd ha h
  rcases x4 with rfl | ⟨rfl, n2, hE, hU⟩
  · exact ⟨-1, _, _, rl_n_3 hG h8 xa (wa_s hG x1), ry_n hGr xr xah⟩
  obtain ⟨tN, htN⟩ := Int.eq_ofNat_of_zero_le ha.1
  have e48 : (Ir1 86 48).toInt = n := by rw [x3 86 48 (by omega), uI_n _ _ (by omega), uI_s]; exact hm
  have es : (I 1 1 - 1).toInt = (n - 1 : Nat) := by rw [i_sub (by rw [show (1 : Int32).toInt = 1 from by decide]; omega) (by rw [show (1 : Int32).toInt = 1 from by decide]; omega), show (1 : Int32).toInt = 1 from by decide]; omega
  have er : Ir1 86 48 - 1 = I 1 1 - 1 := by rw [Int32.toInt_inj.mp (e48.trans hn.symm)]
  have es2 : ((I 1 1 - 1) - 1).toInt = (n - 1 - 1 : Nat) := by rw [i_sub (by rw [show (1 : Int32).toInt = 1 from by decide]; omega) (by rw [show (1 : Int32).toInt = 1 from by decide]; omega), show (1 : Int32).toInt = 1 from by decide]; omega
  have hV1 : VR_3 np nm nn l I Ir1 := VR_t_3 hV0 (fun _ _ _ _ => rfl) (fun c q hc => fr c q (by omega) (by omega))
  obtain ⟨c, r, z1, z2, z3⟩ := rpl_3 (L := L) (xs := xs) (d := d) (d' := d') (J := J) (Jr := Jr) hG hGr h8 hV1 hn hn9 hE hU (a := a) (l.length - tN) tN (n - 1) a (I 1 1 - 1) (by omega) htN es (by omega) (by omega)
  have xb := po_run_3 (L := L) (xs := xs) (d := d + 1) (I := I) (J := J) hG h8 q1 hn hn9 (q := n - 1) (by omega) es
  have xc := po_run_3 (L := L) (xs := xs) (d := d + 1) (I := I) (J := J) hG h8 q1 hn hn9 (q := n - 1 - 1) (by omega) es2
  rw [(hE (n - 1) (by omega)).2.1] at xb
  rw [(hE (n - 1 - 1) (by omega)).2.1] at xc
  have xg : xEv L xs (d + 3) 98 0 [.ref 0, .int a, xmk, xmk, xmk] [] (124, I, J, R) (some (.int r)) (124, I, J, R) := by
    refine gb_s_3 hG ?_
    rcases z2 with ⟨zc, zr⟩ | ⟨zc, zo⟩
    · rw [zr]
      exact gb_n_3 hG (by omega) h8 xb xc (ns_s_3 hG (z1 a)) (by rw [zc]; decide)
    · exact gb_y_3 hG (by omega) h8 xb xc (ns_s_3 hG (z1 a)) zc rfl zo
  exact ⟨r, _, _, rl_y_3 hG h8 xa (wa_s hG x1) xg, ry_s hGr xr xah (by rw [er]; exact z3)⟩
set_option maxRecDepth 20000 in
theorem gb_s_23 {L : Nat} {xs : Nat → Int32} {d : Nat} {I : Nat → Nat → Int32} {J : Nat → Nat → Int64} {R : Nat → Nat → Nat} {a : Int32} (hG : aGd R)  {v : Option Value} {h' : xH} (hk : xEv L xs d 98 15 [.ref 0, .int a, .int (-1), .int a, .int ((I 1 1) - 1)] [] (124, I, J, R) v h') : xEv L xs d 98 0 [.ref 0, .int a, xmk, xmk, xmk] [] (124, I, J, R) v h' := by
  refine ev_go 5 (pc1 := 5) (lv1 := [.ref 0, .int a, .int (-1), .int a, xmk]) (st1 := [.ref 0]) (h1 := (124, I, J, R)) rfl ?_
  refine ev_gf (c := 0) (t := 1) (X := R 0 0) rfl rfl (fun _ => rfl) rfl (hG 0 0 1 rfl rfl) ?_
  refine ev_go 4 (pc1 := 15) (lv1 := [.ref 0, .int a, .int (-1), .int a, .int ((I 1 1) - 1)]) (st1 := []) (h1 := (124, I, J, R)) rfl ?_
  exact hk
set_option maxRecDepth 20000 in
theorem gb_e_23 {L : Nat} {xs : Nat → Int32} {d : Nat} {I : Nat → Nat → Int32} {J : Nat → Nat → Int64} {R : Nat → Nat → Nat} {a cm nx i : Int32} (hG : aGd R) (b1 : i.toInt ≤ 0) : xEv L xs d 98 15 [.ref 0, .int a, .int cm, .int nx, .int i] [] (124, I, J, R) (some (.int cm)) (124, I, J, R) := by
  refine ev_go 1 (pc1 := 17) (lv1 := [.ref 0, .int a, .int cm, .int nx, .int i]) (st1 := [.int i]) (h1 := (124, I, J, R)) rfl ?_
  refine ev_br (b1 := true) rfl rfl (xcd_le (x := i) (y := 0) (by rw [show ((0 : Int32)).toInt = 0 from by decide]; first | exact b1 | omega)) ?_
  refine ev_go 1 (pc1 := 64) (lv1 := [.ref 0, .int a, .int cm, .int nx, .int i]) (st1 := [.int cm]) (h1 := (124, I, J, R)) rfl ?_
  exact ev_ret rfl rfl
set_option maxRecDepth 20000 in
theorem gb_n_23 {L : Nat} {xs : Nat → Int32} {d : Nat} {I : Nat → Nat → Int32} {J : Nat → Nat → Int64} {R : Nat → Nat → Nat} {a cm nx i p q c : Int32} (hG : aGd R) (b1 : i.toInt > 0) (r_R_0_8 : R 0 8 = 24) (c1 : xEv L xs d 97 0 [.ref 0, .int i, xmk] [] (124, I, J, R) (some (.int p)) (124, I, J, R)) (c2 : xEv L xs d 97 0 [.ref 0, .int (i - 1), xmk] [] (124, I, J, R) (some (.int q)) (124, I, J, R)) (c3 : xEv L xs d 99 0 [.ref 37, .int p, .int q, .int nx, xmk, xmk] [] (124, I, J, R) (some (.int c)) (124, I, J, R)) (b2 : c.toInt = -1) : xEv L xs (d + 1) 98 15 [.ref 0, .int a, .int cm, .int nx, .int i] [] (124, I, J, R) (some (.int (-1))) (124, I, J, R) := by
  refine ev_go 1 (pc1 := 17) (lv1 := [.ref 0, .int a, .int cm, .int nx, .int i]) (st1 := [.int i]) (h1 := (124, I, J, R)) rfl ?_
  refine ev_br (b1 := false) rfl rfl (xcd_nle (x := i) (y := 0) (by rw [show ((0 : Int32)).toInt = 0 from by decide]; first | exact b1 | omega)) ?_
  refine ev_go 1 (pc1 := 21) (lv1 := [.ref 0, .int a, .int cm, .int nx, .int i]) (st1 := [.ref 0]) (h1 := (124, I, J, R)) rfl ?_
  refine ev_gf (c := 0) (t := 23) (X := R 0 8) rfl rfl (fun _ => rfl) rfl r_R_0_8 ?_
  refine ev_gf (c := 23) (t := 37) (X := R 23 13) rfl rfl (fun _ => rfl) rfl (hG 23 13 37 rfl rfl) ?_
  refine ev_go 2 (pc1 := 30) (lv1 := [.ref 0, .int a, .int cm, .int nx, .int i]) (st1 := [.int i, .ref 0, .ref 37]) (h1 := (124, I, J, R)) rfl ?_
  refine ev_call (v1 := (some (.int p))) (h1 := (124, I, J, R)) rfl rfl c1 ?_
  refine ev_go 4 (pc1 := 38) (lv1 := [.ref 0, .int a, .int cm, .int nx, .int i]) (st1 := [.int (i - 1), .ref 0, .int p, .ref 37]) (h1 := (124, I, J, R)) rfl ?_
  refine ev_call (v1 := (some (.int q))) (h1 := (124, I, J, R)) rfl rfl c2 ?_
  refine ev_go 1 (pc1 := 42) (lv1 := [.ref 0, .int a, .int cm, .int nx, .int i]) (st1 := [.int nx, .int q, .int p, .ref 37]) (h1 := (124, I, J, R)) rfl ?_
  refine ev_call (v1 := (some (.int c))) (h1 := (124, I, J, R)) rfl rfl c3 ?_
  refine ev_go 3 (pc1 := 48) (lv1 := [.ref 0, .int a, .int c, .int nx, .int i]) (st1 := [.int (-1), .int c]) (h1 := (124, I, J, R)) rfl ?_
  refine ev_br (b1 := false) rfl rfl (xcd_nne (x := c) (y := (-1)) (by rw [show ((-1 : Int32)).toInt = -1 from by decide]; first | exact b2 | omega)) ?_
  refine ev_go 1 (pc1 := 52) (lv1 := [.ref 0, .int a, .int c, .int nx, .int i]) (st1 := [.int (-1)]) (h1 := (124, I, J, R)) rfl ?_
  exact ev_ret rfl rfl
set_option maxRecDepth 20000 in
theorem gb_y_23 {L : Nat} {xs : Nat → Int32} {d : Nat} {I : Nat → Nat → Int32} {J : Nat → Nat → Int64} {R : Nat → Nat → Nat} {a cm nx i p q c dx1 : Int32} (hG : aGd R) (b1 : i.toInt > 0) (r_R_0_8 : R 0 8 = 24) (c1 : xEv L xs d 97 0 [.ref 0, .int i, xmk] [] (124, I, J, R) (some (.int p)) (124, I, J, R)) (c2 : xEv L xs d 97 0 [.ref 0, .int (i - 1), xmk] [] (124, I, J, R) (some (.int q)) (124, I, J, R)) (c3 : xEv L xs d 99 0 [.ref 37, .int p, .int q, .int nx, xmk, xmk] [] (124, I, J, R) (some (.int c)) (124, I, J, R)) (b2 : c.toInt ≠ -1) (i1 : i + (-1) = dx1) {v : Option Value} {h' : xH} (hk : xEv L xs (d + 1) 98 15 [.ref 0, .int a, .int c, .int (c + 1), .int dx1] [] (124, I, J, R) v h') : xEv L xs (d + 1) 98 15 [.ref 0, .int a, .int cm, .int nx, .int i] [] (124, I, J, R) v h' := by
  refine ev_go 1 (pc1 := 17) (lv1 := [.ref 0, .int a, .int cm, .int nx, .int i]) (st1 := [.int i]) (h1 := (124, I, J, R)) rfl ?_
  refine ev_br (b1 := false) rfl rfl (xcd_nle (x := i) (y := 0) (by rw [show ((0 : Int32)).toInt = 0 from by decide]; first | exact b1 | omega)) ?_
  refine ev_go 1 (pc1 := 21) (lv1 := [.ref 0, .int a, .int cm, .int nx, .int i]) (st1 := [.ref 0]) (h1 := (124, I, J, R)) rfl ?_
  refine ev_gf (c := 0) (t := 23) (X := R 0 8) rfl rfl (fun _ => rfl) rfl r_R_0_8 ?_
  refine ev_gf (c := 23) (t := 37) (X := R 23 13) rfl rfl (fun _ => rfl) rfl (hG 23 13 37 rfl rfl) ?_
  refine ev_go 2 (pc1 := 30) (lv1 := [.ref 0, .int a, .int cm, .int nx, .int i]) (st1 := [.int i, .ref 0, .ref 37]) (h1 := (124, I, J, R)) rfl ?_
  refine ev_call (v1 := (some (.int p))) (h1 := (124, I, J, R)) rfl rfl c1 ?_
  refine ev_go 4 (pc1 := 38) (lv1 := [.ref 0, .int a, .int cm, .int nx, .int i]) (st1 := [.int (i - 1), .ref 0, .int p, .ref 37]) (h1 := (124, I, J, R)) rfl ?_
  refine ev_call (v1 := (some (.int q))) (h1 := (124, I, J, R)) rfl rfl c2 ?_
  refine ev_go 1 (pc1 := 42) (lv1 := [.ref 0, .int a, .int cm, .int nx, .int i]) (st1 := [.int nx, .int q, .int p, .ref 37]) (h1 := (124, I, J, R)) rfl ?_
  refine ev_call (v1 := (some (.int c))) (h1 := (124, I, J, R)) rfl rfl c3 ?_
  refine ev_go 3 (pc1 := 48) (lv1 := [.ref 0, .int a, .int c, .int nx, .int i]) (st1 := [.int (-1), .int c]) (h1 := (124, I, J, R)) rfl ?_
  refine ev_br (b1 := true) rfl rfl (xcd_ne (x := c) (y := (-1)) (by rw [show ((-1 : Int32)).toInt = -1 from by decide]; first | exact b2 | omega)) ?_
  refine ev_go 4 (pc1 := 57) (lv1 := [.ref 0, .int a, .int c, .int (c + 1), .int i]) (st1 := []) (h1 := (124, I, J, R)) rfl ?_
  refine ev_iinc (x := i) (y := dx1) (lv1 := [.ref 0, .int a, .int c, .int (c + 1), .int dx1]) rfl rfl (by rw [show Int32.ofInt (-1) = (-1) from by decide]; exact i1) rfl ?_
  refine ev_go 1 (pc1 := 15) (lv1 := [.ref 0, .int a, .int c, .int (c + 1), .int dx1]) (st1 := []) (h1 := (124, I, J, R)) rfl ?_
  exact hk
set_option maxRecDepth 20000 in
theorem ns_s_23 {L : Nat} {xs : Nat → Int32} {d : Nat} {I : Nat → Nat → Int32} {J : Nat → Nat → Int64} {R : Nat → Nat → Nat} {p q t0 : Int32} (hG : aGd R)  {v : Option Value} {h' : xH} (hk : xEv L xs d 99 12 [.ref 37, .int p, .int q, .int t0, .int ((1 <<< (p &&& 31)) ||| (1 <<< (q &&& 31))), .int t0] [] (124, I, J, R) v h') : xEv L xs d 99 0 [.ref 37, .int p, .int q, .int t0, xmk, xmk] [] (124, I, J, R) v h' := by
  refine ev_go 2 (pc1 := 2) (lv1 := [.ref 37, .int p, .int q, .int t0, xmk, xmk]) (st1 := [.int p, .int 1]) (h1 := (124, I, J, R)) rfl ?_
  refine ev_go 3 (pc1 := 5) (lv1 := [.ref 37, .int p, .int q, .int t0, xmk, xmk]) (st1 := [.int q, .int 1, .int (1 <<< (p &&& 31))]) (h1 := (124, I, J, R)) rfl ?_
  refine ev_go 5 (pc1 := 12) (lv1 := [.ref 37, .int p, .int q, .int t0, .int ((1 <<< (p &&& 31)) ||| (1 <<< (q &&& 31))), .int t0]) (st1 := []) (h1 := (124, I, J, R)) rfl ?_
  exact hk
set_option maxRecDepth 20000 in
theorem ns_e_23 {L : Nat} {xs : Nat → Int32} {d : Nat} {I : Nat → Nat → Int32} {J : Nat → Nat → Int64} {R : Nat → Nat → Nat} {p q t0 w t : Int32} (hG : aGd R) (b1 : t.toInt ≥ (I 37 5).toInt) : xEv L xs d 99 12 [.ref 37, .int p, .int q, .int t0, .int w, .int t] [] (124, I, J, R) (some (.int (-1))) (124, I, J, R) := by
  refine ev_go 3 (pc1 := 18) (lv1 := [.ref 37, .int p, .int q, .int t0, .int w, .int t]) (st1 := [.int (I 37 5), .int t]) (h1 := (124, I, J, R)) rfl ?_
  refine ev_br (b1 := true) rfl rfl (xcd_ge (x := t) (y := (I 37 5)) (by first | exact b1 | omega)) ?_
  refine ev_go 1 (pc1 := 68) (lv1 := [.ref 37, .int p, .int q, .int t0, .int w, .int t]) (st1 := [.int (-1)]) (h1 := (124, I, J, R)) rfl ?_
  exact ev_ret rfl rfl
set_option maxRecDepth 20000 in
theorem ns_n_23 {L : Nat} {xs : Nat → Int32} {d : Nat} {I : Nat → Nat → Int32} {J : Nat → Nat → Int64} {R : Nat → Nat → Nat} {p q t0 w t : Int32} (hG : aGd R) (b1 : t.toInt < (I 37 5).toInt) (c1 : xEv L xs d 67 0 [.ref 37, .int t] [] (124, I, J, R) (some (.int 0)) (124, I, J, R)) {v : Option Value} {h' : xH} (hk : xEv L xs (d + 1) 99 12 [.ref 37, .int p, .int q, .int t0, .int w, .int (t + 1)] [] (124, I, J, R) v h') : xEv L xs (d + 1) 99 12 [.ref 37, .int p, .int q, .int t0, .int w, .int t] [] (124, I, J, R) v h' := by
  refine ev_go 3 (pc1 := 18) (lv1 := [.ref 37, .int p, .int q, .int t0, .int w, .int t]) (st1 := [.int (I 37 5), .int t]) (h1 := (124, I, J, R)) rfl ?_
  refine ev_br (b1 := false) rfl rfl (xcd_nge (x := t) (y := (I 37 5)) (by first | exact b1 | omega)) ?_
  refine ev_go 2 (pc1 := 24) (lv1 := [.ref 37, .int p, .int q, .int t0, .int w, .int t]) (st1 := [.int t, .ref 37]) (h1 := (124, I, J, R)) rfl ?_
  refine ev_call (v1 := (some (.int 0))) (h1 := (124, I, J, R)) rfl rfl c1 ?_
  refine ev_go 3 (pc1 := 12) (lv1 := [.ref 37, .int p, .int q, .int t0, .int w, .int (t + 1)]) (st1 := []) (h1 := (124, I, J, R)) rfl ?_
  exact hk
set_option maxRecDepth 20000 in
theorem ns_m_23 {L : Nat} {xs : Nat → Int32} {d : Nat} {I : Nat → Nat → Int32} {J : Nat → Nat → Int64} {R : Nat → Nat → Nat} {p q t0 w t r1 r2 : Int32} (hG : aGd R) (b1 : t.toInt < (I 37 5).toInt) (c1 : xEv L xs d 67 0 [.ref 37, .int t] [] (124, I, J, R) (some (.int 1)) (124, I, J, R)) (c2 : xEv L xs d 39 0 [.ref 40, .int t] [] (124, I, J, R) (some (.int r1)) (124, I, J, R)) (c3 : xEv L xs d 39 0 [.ref 41, .int t] [] (124, I, J, R) (some (.int r2)) (124, I, J, R)) (b2 : ((1 <<< (r1 &&& 31)) ||| (1 <<< (r2 &&& 31))).toInt ≠ w.toInt) {v : Option Value} {h' : xH} (hk : xEv L xs (d + 1) 99 12 [.ref 37, .int p, .int q, .int t0, .int w, .int (t + 1)] [] (124, I, J, R) v h') : xEv L xs (d + 1) 99 12 [.ref 37, .int p, .int q, .int t0, .int w, .int t] [] (124, I, J, R) v h' := by
  refine ev_go 3 (pc1 := 18) (lv1 := [.ref 37, .int p, .int q, .int t0, .int w, .int t]) (st1 := [.int (I 37 5), .int t]) (h1 := (124, I, J, R)) rfl ?_
  refine ev_br (b1 := false) rfl rfl (xcd_nge (x := t) (y := (I 37 5)) (by first | exact b1 | omega)) ?_
  refine ev_go 2 (pc1 := 24) (lv1 := [.ref 37, .int p, .int q, .int t0, .int w, .int t]) (st1 := [.int t, .ref 37]) (h1 := (124, I, J, R)) rfl ?_
  refine ev_call (v1 := (some (.int 1))) (h1 := (124, I, J, R)) rfl rfl c1 ?_
  refine ev_go 3 (pc1 := 32) (lv1 := [.ref 37, .int p, .int q, .int t0, .int w, .int t]) (st1 := [.ref 37, .int 1]) (h1 := (124, I, J, R)) rfl ?_
  refine ev_gf (c := 37) (t := 40) (X := R 37 2) rfl rfl (fun _ => rfl) rfl (hG 37 2 40 rfl rfl) ?_
  refine ev_go 1 (pc1 := 37) (lv1 := [.ref 37, .int p, .int q, .int t0, .int w, .int t]) (st1 := [.int t, .ref 40, .int 1]) (h1 := (124, I, J, R)) rfl ?_
  refine ev_call (v1 := (some (.int r1))) (h1 := (124, I, J, R)) rfl rfl c2 ?_
  refine ev_go 3 (pc1 := 43) (lv1 := [.ref 37, .int p, .int q, .int t0, .int w, .int t]) (st1 := [.ref 37, .int 1, .int (1 <<< (r1 &&& 31))]) (h1 := (124, I, J, R)) rfl ?_
  refine ev_gf (c := 37) (t := 41) (X := R 37 3) rfl rfl (fun _ => rfl) rfl (hG 37 3 41 rfl rfl) ?_
  refine ev_go 1 (pc1 := 48) (lv1 := [.ref 37, .int p, .int q, .int t0, .int w, .int t]) (st1 := [.int t, .ref 41, .int 1, .int (1 <<< (r1 &&& 31))]) (h1 := (124, I, J, R)) rfl ?_
  refine ev_call (v1 := (some (.int r2))) (h1 := (124, I, J, R)) rfl rfl c3 ?_
  refine ev_go 3 (pc1 := 55) (lv1 := [.ref 37, .int p, .int q, .int t0, .int w, .int t]) (st1 := [.int w, .int ((1 <<< (r1 &&& 31)) ||| (1 <<< (r2 &&& 31)))]) (h1 := (124, I, J, R)) rfl ?_
  refine ev_br (b1 := true) rfl rfl (xcd_ne (x := ((1 <<< (r1 &&& 31)) ||| (1 <<< (r2 &&& 31)))) (y := w) (by first | exact b2 | omega)) ?_
  refine ev_go 2 (pc1 := 12) (lv1 := [.ref 37, .int p, .int q, .int t0, .int w, .int (t + 1)]) (st1 := []) (h1 := (124, I, J, R)) rfl ?_
  exact hk
set_option maxRecDepth 20000 in
theorem ns_y_23 {L : Nat} {xs : Nat → Int32} {d : Nat} {I : Nat → Nat → Int32} {J : Nat → Nat → Int64} {R : Nat → Nat → Nat} {p q t0 w t r1 r2 : Int32} (hG : aGd R) (b1 : t.toInt < (I 37 5).toInt) (c1 : xEv L xs d 67 0 [.ref 37, .int t] [] (124, I, J, R) (some (.int 1)) (124, I, J, R)) (c2 : xEv L xs d 39 0 [.ref 40, .int t] [] (124, I, J, R) (some (.int r1)) (124, I, J, R)) (c3 : xEv L xs d 39 0 [.ref 41, .int t] [] (124, I, J, R) (some (.int r2)) (124, I, J, R)) (b2 : ((1 <<< (r1 &&& 31)) ||| (1 <<< (r2 &&& 31))).toInt = w.toInt) : xEv L xs (d + 1) 99 12 [.ref 37, .int p, .int q, .int t0, .int w, .int t] [] (124, I, J, R) (some (.int t)) (124, I, J, R) := by
  refine ev_go 3 (pc1 := 18) (lv1 := [.ref 37, .int p, .int q, .int t0, .int w, .int t]) (st1 := [.int (I 37 5), .int t]) (h1 := (124, I, J, R)) rfl ?_
  refine ev_br (b1 := false) rfl rfl (xcd_nge (x := t) (y := (I 37 5)) (by first | exact b1 | omega)) ?_
  refine ev_go 2 (pc1 := 24) (lv1 := [.ref 37, .int p, .int q, .int t0, .int w, .int t]) (st1 := [.int t, .ref 37]) (h1 := (124, I, J, R)) rfl ?_
  refine ev_call (v1 := (some (.int 1))) (h1 := (124, I, J, R)) rfl rfl c1 ?_
  refine ev_go 3 (pc1 := 32) (lv1 := [.ref 37, .int p, .int q, .int t0, .int w, .int t]) (st1 := [.ref 37, .int 1]) (h1 := (124, I, J, R)) rfl ?_
  refine ev_gf (c := 37) (t := 40) (X := R 37 2) rfl rfl (fun _ => rfl) rfl (hG 37 2 40 rfl rfl) ?_
  refine ev_go 1 (pc1 := 37) (lv1 := [.ref 37, .int p, .int q, .int t0, .int w, .int t]) (st1 := [.int t, .ref 40, .int 1]) (h1 := (124, I, J, R)) rfl ?_
  refine ev_call (v1 := (some (.int r1))) (h1 := (124, I, J, R)) rfl rfl c2 ?_
  refine ev_go 3 (pc1 := 43) (lv1 := [.ref 37, .int p, .int q, .int t0, .int w, .int t]) (st1 := [.ref 37, .int 1, .int (1 <<< (r1 &&& 31))]) (h1 := (124, I, J, R)) rfl ?_
  refine ev_gf (c := 37) (t := 41) (X := R 37 3) rfl rfl (fun _ => rfl) rfl (hG 37 3 41 rfl rfl) ?_
  refine ev_go 1 (pc1 := 48) (lv1 := [.ref 37, .int p, .int q, .int t0, .int w, .int t]) (st1 := [.int t, .ref 41, .int 1, .int (1 <<< (r1 &&& 31))]) (h1 := (124, I, J, R)) rfl ?_
  refine ev_call (v1 := (some (.int r2))) (h1 := (124, I, J, R)) rfl rfl c3 ?_
  refine ev_go 3 (pc1 := 55) (lv1 := [.ref 37, .int p, .int q, .int t0, .int w, .int t]) (st1 := [.int w, .int ((1 <<< (r1 &&& 31)) ||| (1 <<< (r2 &&& 31)))]) (h1 := (124, I, J, R)) rfl ?_
  refine ev_br (b1 := false) rfl rfl (xcd_nne (x := ((1 <<< (r1 &&& 31)) ||| (1 <<< (r2 &&& 31)))) (y := w) (by first | exact b2 | omega)) ?_
  refine ev_go 1 (pc1 := 60) (lv1 := [.ref 37, .int p, .int q, .int t0, .int w, .int t]) (st1 := [.int t]) (h1 := (124, I, J, R)) rfl ?_
  exact ev_ret rfl rfl
set_option maxRecDepth 20000 in
theorem rl_x_23 {L : Nat} {xs : Nat → Int32} {d : Nat} {I : Nat → Nat → Int32} {J : Nat → Nat → Int64} {R : Nat → Nat → Nat} {a : Int32} (hG : aGd R) (r_R_0_8 : R 0 8 = 24) (c1 : xEv L xs d 65 0 [.ref 37, .int a] [] (124, I, J, R) (some (.int 0)) (124, I, J, R)) : xEv L xs (d + 1) 95 0 [.ref 0, .int a, xmk] [] (124, I, J, R) (some (.int (-2))) (124, (uI I 1 1 0), J, R) := by
  refine ev_go 3 (pc1 := 4) (lv1 := [.ref 0, .int a, .int (-2)]) (st1 := [.ref 0]) (h1 := (124, I, J, R)) rfl ?_
  refine ev_gf (c := 0) (t := 23) (X := R 0 8) rfl rfl (fun _ => rfl) rfl r_R_0_8 ?_
  refine ev_gf (c := 23) (t := 37) (X := R 23 13) rfl rfl (fun _ => rfl) rfl (hG 23 13 37 rfl rfl) ?_
  refine ev_go 1 (pc1 := 11) (lv1 := [.ref 0, .int a, .int (-2)]) (st1 := [.int a, .ref 37]) (h1 := (124, I, J, R)) rfl ?_
  refine ev_call (v1 := (some (.int 0))) (h1 := (124, I, J, R)) rfl rfl c1 ?_
  refine ev_go 2 (pc1 := 35) (lv1 := [.ref 0, .int a, .int (-2)]) (st1 := [.ref 0]) (h1 := (124, I, J, R)) rfl ?_
  refine ev_gf (c := 0) (t := 1) (X := R 0 0) rfl rfl (fun _ => rfl) rfl (hG 0 0 1 rfl rfl) ?_
  refine ev_go 3 (pc1 := 43) (lv1 := [.ref 0, .int a, .int (-2)]) (st1 := [.int (-2)]) (h1 := (124, (uI I 1 1 0), J, R)) rfl ?_
  exact ev_ret rfl rfl
set_option maxRecDepth 20000 in
theorem rl_n_23 {L : Nat} {xs : Nat → Int32} {d : Nat} {I : Nat → Nat → Int32} {J : Nat → Nat → Int64} {R : Nat → Nat → Nat} {a : Int32} (hG : aGd R) (r_R_0_8 : R 0 8 = 24) (c1 : xEv L xs d 65 0 [.ref 37, .int a] [] (124, I, J, R) (some (.int 1)) (124, I, J, R)) (c2 : xEv L xs d 96 0 [.ref 0, xmk, xmk] [] (124, I, J, R) (some (.int 0)) (124, I, J, R)) : xEv L xs (d + 1) 95 0 [.ref 0, .int a, xmk] [] (124, I, J, R) (some (.int (-1))) (124, (uI I 1 1 0), J, R) := by
  refine ev_go 3 (pc1 := 4) (lv1 := [.ref 0, .int a, .int (-2)]) (st1 := [.ref 0]) (h1 := (124, I, J, R)) rfl ?_
  refine ev_gf (c := 0) (t := 23) (X := R 0 8) rfl rfl (fun _ => rfl) rfl r_R_0_8 ?_
  refine ev_gf (c := 23) (t := 37) (X := R 23 13) rfl rfl (fun _ => rfl) rfl (hG 23 13 37 rfl rfl) ?_
  refine ev_go 1 (pc1 := 11) (lv1 := [.ref 0, .int a, .int (-2)]) (st1 := [.int a, .ref 37]) (h1 := (124, I, J, R)) rfl ?_
  refine ev_call (v1 := (some (.int 1))) (h1 := (124, I, J, R)) rfl rfl c1 ?_
  refine ev_go 2 (pc1 := 18) (lv1 := [.ref 0, .int a, .int (-2)]) (st1 := [.ref 0]) (h1 := (124, I, J, R)) rfl ?_
  refine ev_call (v1 := (some (.int 0))) (h1 := (124, I, J, R)) rfl rfl c2 ?_
  refine ev_go 4 (pc1 := 35) (lv1 := [.ref 0, .int a, .int (-1)]) (st1 := [.ref 0]) (h1 := (124, I, J, R)) rfl ?_
  refine ev_gf (c := 0) (t := 1) (X := R 0 0) rfl rfl (fun _ => rfl) rfl (hG 0 0 1 rfl rfl) ?_
  refine ev_go 3 (pc1 := 43) (lv1 := [.ref 0, .int a, .int (-1)]) (st1 := [.int (-1)]) (h1 := (124, (uI I 1 1 0), J, R)) rfl ?_
  exact ev_ret rfl rfl
set_option maxRecDepth 20000 in
theorem rl_y_23 {L : Nat} {xs : Nat → Int32} {d : Nat} {I : Nat → Nat → Int32} {J : Nat → Nat → Int64} {R : Nat → Nat → Nat} {a r1 : Int32} (hG : aGd R) (r_R_0_8 : R 0 8 = 24) (c1 : xEv L xs d 65 0 [.ref 37, .int a] [] (124, I, J, R) (some (.int 1)) (124, I, J, R)) (c2 : xEv L xs d 96 0 [.ref 0, xmk, xmk] [] (124, I, J, R) (some (.int 1)) (124, I, J, R)) (c3 : xEv L xs d 98 0 [.ref 0, .int a, xmk, xmk, xmk] [] (124, I, J, R) (some (.int r1)) (124, I, J, R)) : xEv L xs (d + 1) 95 0 [.ref 0, .int a, xmk] [] (124, I, J, R) (some (.int r1)) (124, (uI I 1 1 0), J, R) := by
  refine ev_go 3 (pc1 := 4) (lv1 := [.ref 0, .int a, .int (-2)]) (st1 := [.ref 0]) (h1 := (124, I, J, R)) rfl ?_
  refine ev_gf (c := 0) (t := 23) (X := R 0 8) rfl rfl (fun _ => rfl) rfl r_R_0_8 ?_
  refine ev_gf (c := 23) (t := 37) (X := R 23 13) rfl rfl (fun _ => rfl) rfl (hG 23 13 37 rfl rfl) ?_
  refine ev_go 1 (pc1 := 11) (lv1 := [.ref 0, .int a, .int (-2)]) (st1 := [.int a, .ref 37]) (h1 := (124, I, J, R)) rfl ?_
  refine ev_call (v1 := (some (.int 1))) (h1 := (124, I, J, R)) rfl rfl c1 ?_
  refine ev_go 2 (pc1 := 18) (lv1 := [.ref 0, .int a, .int (-2)]) (st1 := [.ref 0]) (h1 := (124, I, J, R)) rfl ?_
  refine ev_call (v1 := (some (.int 1))) (h1 := (124, I, J, R)) rfl rfl c2 ?_
  refine ev_go 3 (pc1 := 26) (lv1 := [.ref 0, .int a, .int (-2)]) (st1 := [.int a, .ref 0]) (h1 := (124, I, J, R)) rfl ?_
  refine ev_call (v1 := (some (.int r1))) (h1 := (124, I, J, R)) rfl rfl c3 ?_
  refine ev_go 3 (pc1 := 35) (lv1 := [.ref 0, .int a, .int r1]) (st1 := [.ref 0]) (h1 := (124, I, J, R)) rfl ?_
  refine ev_gf (c := 0) (t := 1) (X := R 0 0) rfl rfl (fun _ => rfl) rfl (hG 0 0 1 rfl rfl) ?_
  refine ev_go 3 (pc1 := 43) (lv1 := [.ref 0, .int a, .int r1]) (st1 := [.int r1]) (h1 := (124, (uI I 1 1 0), J, R)) rfl ?_
  exact ev_ret rfl rfl
theorem rpl_23 {L : Nat} {xs : Nat → Int32} {d d' : Nat} {I Ir : Nat → Nat → Int32} {J Jr : Nat → Nat → Int64} {R Rr : Nat → Nat → Nat} (hG : aGd R) (hGr : aGd Rr) (h8 : R 0 8 = 24) {np nm nn n : Nat} {l : List (Nat × Nat)} (hV : VR_23 np nm nn l I Ir) (hn : (I 1 1).toInt = n) (hn9 : n ≤ 900) (hE : rdE_23 np n I Ir) (hU : ∀ q, q + 1 < n → I 2 (q + 1) ≠ I 2 q) {a : Int32} : ∀ (f tN kN : Nat) (t k : Int32), tN + f = l.length → t.toInt = tN → k.toInt = kN → 1 ≤ kN → kN < n →
    ∃ c r : Int32, (∀ t0, xEv L xs (d + 2) 99 12 [.ref 37, .int (I 2 kN - 48), .int (I 2 (kN - 1) - 48), .int t0, .int ((1 <<< ((I 2 kN - 48) &&& 31)) ||| (1 <<< ((I 2 (kN - 1) - 48) &&& 31))), .int t] [] (124, I, J, R) (some (.int c)) (124, I, J, R)) ∧ ((c = -1 ∧ r = -1) ∨ (c.toInt ≠ -1 ∧ xEv L xs (d + 3) 98 15 [.ref 0, .int a, .int c, .int (c + 1), .int (k + (-1))] [] (124, I, J, R) (some (.int r)) (124, I, J, R))) ∧ xEv L xs (d' + 3) 210 34 [.ref 86, .int a, .int 1, .int k, .int t] [] (124, Ir, Jr, Rr) (some (.int r)) (124, Ir, Jr, Rr) := by
  have hV0 := hV
  obtain ⟨⟨p1, p2, p3⟩, p4, p5, p6, ⟨q1, q2⟩, ⟨q3, q4⟩, ⟨q5, q6⟩, q7, q8, q9, ⟨q10, q11⟩, q12, q13, q14, q15, -⟩ := hV
  intro f
  induction f with
  | zero =>
    intro tN kN t k ht0 ht hk k1 kn
    exact ⟨-1, -1, fun t0 => ns_e_23 hG (by omega), Or.inl ⟨rfl, rfl⟩, ry_e hGr (by omega)⟩
  | succ f ih =>
    intro tN kN t k ht0 ht hk k1 kn
    obtain ⟨m, hm, e1, e2, e3, e4, g1, g2, g3, g4, g5⟩ := tmr2_23 hV0 (t := tN) (by omega)
    have ec := clamp_s (i := t) (by omega)
    have ekt : t.toNatClampNeg = tN := by omega
    have ecm := clamp_s (i := Ir 101 tN) (by omega)
    have ekm : (Ir 101 tN).toNatClampNeg = m := by omega
    have eck := clamp_s (i := k) (by omega)
    have ekk : k.toNatClampNeg = kN := by omega
    have em1 : (-1 : Int32).toInt = -1 := by decide
    have ek0 : (k + (-1)).toInt = (kN - 1 : Nat) := by rw [i_add (by rw [em1]; omega) (by rw [em1]; omega), em1]; omega
    obtain ⟨kd, ekd⟩ : ∃ kd, k + (-1) = kd := ⟨_, rfl⟩
    rw [ekd] at ek0 ⊢
    have ek1 := ek0
    have es1 : (k - 1).toInt = (kN - 1 : Nat) := by rw [i_sub (by rw [show (1 : Int32).toInt = 1 from by decide]; omega) (by rw [show (1 : Int32).toInt = 1 from by decide]; omega), show (1 : Int32).toInt = 1 from by decide]; omega
    have ecs := clamp_s (i := k - 1) (by omega)
    have eks : (k - 1).toNatClampNeg = kN - 1 := by omega
    have ht' : (t + 1).toInt = (tN + 1 : Nat) := by rw [i_add1 (by omega)]; omega
    have at1 : ∀ c, (∀ g : FieldType → Nat → Option xR, xarr (124, I, J, R) c g = g .int 64) → ∀ d, xEv L xs d 39 0 [.ref c, .int t] [] (124, I, J, R) (some (.int (I c tN))) (124, I, J, R) := by
      intro c ho d
      have h4 := at_run (L := L) (xs := xs) (d := d) (h := (124, I, J, R)) ho (by decide) t
      rw [if_pos ⟨by omega, by omega⟩, ekt] at h4
      exact h4
    have c1 := at1 40 (fun _ => rfl) (d + 1)
    have c2 := at1 41 (fun _ => rfl) (d + 1)
    have c3 := at1 42 (fun _ => rfl) d
    rw [e2] at c1
    rw [e3] at c2
    rw [e4] at c3
    have m1 := oA (L := L) (xs := xs) (d := d' + 1) (I := Ir) (J := Jr) (t := t) hGr (by omega) (by omega) (by rw [ekt]; omega) (by rw [ekt]; omega)
    have m2 := tA (L := L) (xs := xs) (d := d' + 1) (I := Ir) (J := Jr) (t := t) hGr (by omega) (by omega) (by rw [ekt]; omega) (by rw [ekt]; omega)
    rw [ekt, ekm] at m1 m2
    obtain ⟨x1, -, x3, x4⟩ := hE kN kn
    obtain ⟨y1, -, y3, y4⟩ := hE (kN - 1) (by omega)
    by_cases hs : (Ir 95 m).toInt = 10
    rotate_left
    · have k1' := cS_0_23 (L := L) (xs := xs) (I := I) (J := J) hG c3 hs
      have k2 := iS_0 (L := L) (xs := xs) (d := d' + 2) (I := Ir) (J := Jr) (t := t) hGr (by omega) (by omega) (by rw [ekt]; omega) (by rw [ekt]; omega) (by rw [ekt, ekm]; exact hs)
      obtain ⟨c, r, z1, z2, z3⟩ := ih (tN + 1) kN (t + 1) k (by omega) ht' hk k1 kn
      rw [ekd] at z2
      exact ⟨c, r, fun t0 => ns_n_23 hG (by omega) k1' (z1 t0), z2, ry_u hGr (by omega) k2 z3⟩
    have k1' := cS_1_23 (L := L) (xs := xs) (I := I) (J := J) hG c3 hs
    have k2 := iS_1 (L := L) (xs := xs) (d := d' + 2) (I := Ir) (J := Jr) (t := t) hGr (by omega) (by omega) (by rw [ekt]; omega) (by rw [ekt]; omega) (by rw [ekt, ekm]; exact hs)
    obtain ⟨an, ha⟩ := Int.eq_ofNat_of_zero_le g1
    obtain ⟨bn, hb⟩ := Int.eq_ofNat_of_zero_le g3
    obtain ⟨pn, hpn⟩ := Int.eq_ofNat_of_zero_le x3
    obtain ⟨qn, hqn⟩ := Int.eq_ofNat_of_zero_le y3
    have hpq : pn ≠ qn := by
      intro z
      apply hU (kN - 1) (by omega)
      have hh : I 2 kN - 48 = I 2 (kN - 1) - 48 := Int32.toInt_inj.mp (by omega)
      rw [show kN - 1 + 1 = kN from by omega]
      exact i48 hh
    have key := pr_eq (ra := Ir 92 m) (rb := Ir 93 m) (rp := I 2 kN - 48) (rq := I 2 (kN - 1) - 48) ha hb hpn hqn (by omega) (by omega) (by omega) (by omega) (by omega) hpq
    have mm : ∃ w : Int32, xEv L xs (d' + 2) 176 0 [.ref 86, .int (Ir 115 k.toNatClampNeg), .int t] [] (124, Ir, Jr, Rr) (some (.int w)) (124, Ir, Jr, Rr) ∧ (w.toInt = (Ir 115 (k - 1).toNatClampNeg).toInt ↔ ((pn = an ∧ qn = bn) ∨ (pn = bn ∧ qn = an))) := by
      rw [ekk, eks, x1, y1]
      by_cases f1 : (I 2 kN - 48).toInt = (Ir 92 m).toInt
      · exact ⟨_, mtb_0 hGr m1 f1 m2, by constructor <;> intro z <;> omega⟩
      · by_cases f2 : (I 2 kN - 48).toInt = (Ir 93 m).toInt
        · exact ⟨_, mtb_1 hGr m1 f1 m2 f2 m1, by constructor <;> intro z <;> omega⟩
        · exact ⟨_, mtb_2 hGr m1 f1 m2 f2, by constructor <;> intro z <;> omega⟩
    obtain ⟨w, w1, w2⟩ := mm
    generalize ((pn = an ∧ qn = bn) ∨ (pn = bn ∧ qn = an)) = PP at key w2
    clear hpq g5
    by_cases hmt : PP
    rotate_left
    · obtain ⟨c, r, z1, z2, z3⟩ := ih (tN + 1) kN (t + 1) k (by omega) ht' hk k1 kn
      rw [ekd] at z2
      exact ⟨c, r, fun t0 => ns_m_23 hG (by omega) k1' c1 c2 (fun z => hmt (key.mp (Int32.toInt_inj.mp z))) (z1 t0), z2, ry_m hGr (by omega) k2 (by omega) (by omega) w1 (by omega) (by omega) (fun z => hmt (w2.mp z)) z3⟩
    · have cl : ∀ t0, xEv L xs (d + 2) 99 12 [.ref 37, .int (I 2 kN - 48), .int (I 2 (kN - 1) - 48), .int t0, .int ((1 <<< ((I 2 kN - 48) &&& 31)) ||| (1 <<< ((I 2 (kN - 1) - 48) &&& 31))), .int t] [] (124, I, J, R) (some (.int t)) (124, I, J, R) := fun t0 => ns_y_23 hG (by omega) k1' c1 c2 (by rw [key.mpr hmt])
      have tne : t.toInt ≠ -1 := by omega
      by_cases kz : kN = 1
      · exact ⟨t, t, cl, Or.inr ⟨tne, gb_e_23 hG (by omega)⟩, ry_z hGr (by omega) k2 (by omega) (by omega) w1 (by omega) (by omega) (w2.mpr hmt) ekd (by omega)⟩
      · obtain ⟨c, r, z1, z2, z3⟩ := ih (tN + 1) (kN - 1) (t + 1) kd (by omega) ht' ek1 (by omega) (by omega)
        have es2 : (kd - 1).toInt = (kN - 1 - 1 : Nat) := by rw [i_sub (by rw [show (1 : Int32).toInt = 1 from by decide]; omega) (by rw [show (1 : Int32).toInt = 1 from by decide]; omega), show (1 : Int32).toInt = 1 from by decide]; omega
        have xa := po_run_23 (L := L) (xs := xs) (d := d + 1) (I := I) (J := J) hG h8 q1 hn hn9 (q := kN - 1) (by omega) ek1
        have xb := po_run_23 (L := L) (xs := xs) (d := d + 1) (I := I) (J := J) hG h8 q1 hn hn9 (q := kN - 1 - 1) (by omega) es2
        rw [(hE (kN - 1) (by omega)).2.1] at xa
        rw [(hE (kN - 1 - 1) (by omega)).2.1] at xb
        refine ⟨t, r, cl, Or.inr ⟨tne, ?_⟩, ry_k hGr (by omega) k2 (by omega) (by omega) w1 (by omega) (by omega) (w2.mpr hmt) ekd (by omega) z3⟩
        rcases z2 with ⟨zc, zr⟩ | ⟨zc, zo⟩
        · rw [zr]
          exact gb_n_23 hG (by omega) h8 xa xb (ns_s_23 hG (z1 (t + 1))) (by rw [zc]; decide)
        · exact gb_y_23 hG (by omega) h8 xa xb (ns_s_23 hG (z1 (t + 1))) zc rfl zo
theorem rep_23 {L : Nat} {xs : Nat → Int32} {d d' : Nat} {I Ir : Nat → Nat → Int32} {J Jr : Nat → Nat → Int64} {R Rr : Nat → Nat → Nat} (hG : aGd R) (hGr : aGd Rr) (h8 : R 0 8 = 24) {np nm nn n : Nat} {l : List (Nat × Nat)} (hV : VR_23 np nm nn l I Ir) (hn : (I 1 1).toInt = n) (hm : (Ir 86 1).toInt = n) (hn9 : n ≤ 900) (hB : ∀ q, q < n → Ir 87 q &&& 255 = I 2 q ∧ -128 ≤ (Ir 87 q).toInt ∧ (Ir 87 q).toInt ≤ 127) (a : Int32) : ∃ (r : Int32) (I' Ir' : Nat → Nat → Int32), xEv L xs (d + 4) 95 0 [.ref 0, .int a, xmk] [] (124, I, J, R) (some (.int r)) (124, I', J, R) ∧ xEv L xs (d' + 3) 210 0 [.ref 86, .int a, xmk, xmk, xmk] [] (124, Ir, Jr, Rr) (some (.int r)) (124, Ir', Jr, Rr) := by
  have hV0 := hV
  obtain ⟨⟨p1, p2, p3⟩, p4, p5, p6, ⟨q1, q2⟩, ⟨q3, q4⟩, ⟨q5, q6⟩, q7, q8, q9, ⟨q10, q11⟩, -⟩ := hV
  obtain ⟨g, Ir1, x1, x2, x3, x4⟩ := rdw_23 (L := L) (xs := xs) (d := d + 1) (d' := d') (J := J) (Jr := Jr) hG hGr h8 p1 q1 hn hn9 n 0 0 0 xmk (uI (uI Ir 86 48 (Ir 86 1)) 86 1 0) (by omega) (by decide) (by rw [uI_n _ _ (by omega), uI_s]; exact hm) (by rw [uI_n _ _ (by omega), uI_n _ _ (by omega)]; exact q2) (fun q hq => by rw [uI_n _ _ (by omega), uI_n _ _ (by omega)]; exact hB q hq) (fun q hq => absurd hq (by omega)) (fun q hq => absurd hq (by omega))
  have xr := rp_s0 hGr x2
  have fr : ∀ c q, c ≠ 115 → ¬ (c = 86 ∧ (q = 1 ∨ q = 48)) → Ir1 c q = Ir c q := fun c q h1 h2 => by rw [x3 c q h1, uI_n _ _ (by omega), uI_n _ _ (by omega)]
  have i0 := in_ex (L := L) (xs := xs) (d := d' + 1) (I := Ir1) (J := Jr) hGr a 0 (Ir1 86 26)
  rw [show (0 : Int32).toInt = 0 from by decide, fr 86 26 (by omega) (by omega), q11] at i0
  have i1 : (Ir1 86 26).toInt = l.length := by rw [fr 86 26 (by omega) (by omega)]; exact q11
  rcases hm_run_23 (L := L) (xs := xs) (d := d + 3) (I := I) (J := J) hG q10 a with ⟨ha, xa⟩ | ⟨ha, xa⟩
  rotate_left
  · rcases i0 with ⟨h, -⟩ | ⟨-, x⟩
    · exact absurd h ha
    · exact ⟨-2, _, _, rl_x_23 hG h8 xa, ry_x hGr xr (ah_0 hGr (by rw [fr 86 26 (by omega) (by omega)]; exact x))⟩
  have xah : xEv L xs (d' + 2) 184 0 [.ref 86, .int a] [] (124, Ir1, Jr, Rr) (some (.int 1)) (124, Ir1, Jr, Rr) := by
    rcases i0 with ⟨-, x⟩ | ⟨h, -⟩
    · exact ah_1 hGr (by rw [fr 86 26 (by omega) (by omega)]; exact x)
    · exact absurd ha h
  rcases x4 with rfl | ⟨rfl, n2, hE, hU⟩
  · exact ⟨-1, _, _, rl_n_23 hG h8 xa (wa_s hG x1), ry_n hGr xr xah⟩
  obtain ⟨tN, htN⟩ := Int.eq_ofNat_of_zero_le ha.1
  have e48 : (Ir1 86 48).toInt = n := by rw [x3 86 48 (by omega), uI_n _ _ (by omega), uI_s]; exact hm
  have es : (I 1 1 - 1).toInt = (n - 1 : Nat) := by rw [i_sub (by rw [show (1 : Int32).toInt = 1 from by decide]; omega) (by rw [show (1 : Int32).toInt = 1 from by decide]; omega), show (1 : Int32).toInt = 1 from by decide]; omega
  have er : Ir1 86 48 - 1 = I 1 1 - 1 := by rw [Int32.toInt_inj.mp (e48.trans hn.symm)]
  have es2 : ((I 1 1 - 1) - 1).toInt = (n - 1 - 1 : Nat) := by rw [i_sub (by rw [show (1 : Int32).toInt = 1 from by decide]; omega) (by rw [show (1 : Int32).toInt = 1 from by decide]; omega), show (1 : Int32).toInt = 1 from by decide]; omega
  have hV1 : VR_23 np nm nn l I Ir1 := VR_t_23 hV0 (fun _ _ _ _ => rfl) (fun c q hc => fr c q (by omega) (by omega))
  obtain ⟨c, r, z1, z2, z3⟩ := rpl_23 (L := L) (xs := xs) (d := d) (d' := d') (J := J) (Jr := Jr) hG hGr h8 hV1 hn hn9 hE hU (a := a) (l.length - tN) tN (n - 1) a (I 1 1 - 1) (by omega) htN es (by omega) (by omega)
  have xb := po_run_23 (L := L) (xs := xs) (d := d + 1) (I := I) (J := J) hG h8 q1 hn hn9 (q := n - 1) (by omega) es
  have xc := po_run_23 (L := L) (xs := xs) (d := d + 1) (I := I) (J := J) hG h8 q1 hn hn9 (q := n - 1 - 1) (by omega) es2
  rw [(hE (n - 1) (by omega)).2.1] at xb
  rw [(hE (n - 1 - 1) (by omega)).2.1] at xc
  have xg : xEv L xs (d + 3) 98 0 [.ref 0, .int a, xmk, xmk, xmk] [] (124, I, J, R) (some (.int r)) (124, I, J, R) := by
    refine gb_s_23 hG ?_
    rcases z2 with ⟨zc, zr⟩ | ⟨zc, zo⟩
    · rw [zr]
      exact gb_n_23 hG (by omega) h8 xb xc (ns_s_23 hG (z1 a)) (by rw [zc]; decide)
    · exact gb_y_23 hG (by omega) h8 xb xc (ns_s_23 hG (z1 a)) zc rfl zo
  exact ⟨r, _, _, rl_y_23 hG h8 xa (wa_s hG x1) xg, ry_s hGr xr xah (by rw [er]; exact z3)⟩
