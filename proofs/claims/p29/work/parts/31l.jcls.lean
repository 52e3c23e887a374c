set_option maxRecDepth 20000 in
theorem hb_s_3 {L : Nat} {xs : Nat → Int32} {d : Nat} {I : Nat → Nat → Int32} {J : Nat → Nat → Int64} {R : Nat → Nat → Nat} {q : Int32} (hG : aGd R)  {v : Option Value} {h' : xH} (hk : xEv L xs d 60 5 [.ref 44, .ref 3, .int q, .int 0, .int 0] [] (124, I, J, R) v h') : xEv L xs d 60 0 [.ref 44, .ref 3, .int q, xmk, xmk] [] (124, I, J, R) v h' := by
  refine ev_go 4 (pc1 := 5) (lv1 := [.ref 44, .ref 3, .int q, .int 0, .int 0]) (st1 := []) (h1 := (124, I, J, R)) rfl ?_
  exact hk
set_option maxRecDepth 20000 in
theorem hb_0_3 {L : Nat} {xs : Nat → Int32} {d : Nat} {I : Nat → Nat → Int32} {J : Nat → Nat → Int64} {R : Nat → Nat → Nat} {q k n r1 : Int32} (hG : aGd R) (b1 : n.toInt < (I 3 16).toInt) (c1 : xEv L xs d 39 0 [.ref 47, .int n] [] (124, I, J, R) (some (.int r1)) (124, I, J, R)) (b2 : r1.toInt ≠ q.toInt) {v : Option Value} {h' : xH} (hk : xEv L xs (d + 1) 60 5 [.ref 44, .ref 3, .int q, .int k, .int (n + 1)] [] (124, I, J, R) v h') : xEv L xs (d + 1) 60 5 [.ref 44, .ref 3, .int q, .int k, .int n] [] (124, I, J, R) v h' := by
  refine ev_go 3 (pc1 := 11) (lv1 := [.ref 44, .ref 3, .int q, .int k, .int n]) (st1 := [.int (I 3 16), .int n]) (h1 := (124, I, J, R)) rfl ?_
  refine ev_br (b1 := false) rfl rfl (xcd_nge (x := n) (y := (I 3 16)) (by first | exact b1 | omega)) ?_
  refine ev_go 1 (pc1 := 15) (lv1 := [.ref 44, .ref 3, .int q, .int k, .int n]) (st1 := [.ref 44]) (h1 := (124, I, J, R)) rfl ?_
  refine ev_gf (c := 44) (t := 47) (X := R 44 2) rfl rfl (fun _ => rfl) rfl (hG 44 2 47 rfl rfl) ?_
  refine ev_go 1 (pc1 := 20) (lv1 := [.ref 44, .ref 3, .int q, .int k, .int n]) (st1 := [.int n, .ref 47]) (h1 := (124, I, J, R)) rfl ?_
  refine ev_call (v1 := (some (.int r1))) (h1 := (124, I, J, R)) rfl rfl c1 ?_
  refine ev_go 1 (pc1 := 24) (lv1 := [.ref 44, .ref 3, .int q, .int k, .int n]) (st1 := [.int q, .int r1]) (h1 := (124, I, J, R)) rfl ?_
  refine ev_br (b1 := true) rfl rfl (xcd_ne (x := r1) (y := q) (by first | exact b2 | omega)) ?_
  refine ev_go 2 (pc1 := 5) (lv1 := [.ref 44, .ref 3, .int q, .int k, .int (n + 1)]) (st1 := []) (h1 := (124, I, J, R)) rfl ?_
  exact hk
set_option maxRecDepth 20000 in
theorem hb_1_3 {L : Nat} {xs : Nat → Int32} {d : Nat} {I : Nat → Nat → Int32} {J : Nat → Nat → Int64} {R : Nat → Nat → Nat} {q k n r1 : Int32} (hG : aGd R) (b1 : n.toInt < (I 3 16).toInt) (c1 : xEv L xs d 39 0 [.ref 47, .int n] [] (124, I, J, R) (some (.int r1)) (124, I, J, R)) (b2 : r1.toInt = q.toInt) {v : Option Value} {h' : xH} (hk : xEv L xs (d + 1) 60 5 [.ref 44, .ref 3, .int q, .int (k + 1), .int (n + 1)] [] (124, I, J, R) v h') : xEv L xs (d + 1) 60 5 [.ref 44, .ref 3, .int q, .int k, .int n] [] (124, I, J, R) v h' := by
  refine ev_go 3 (pc1 := 11) (lv1 := [.ref 44, .ref 3, .int q, .int k, .int n]) (st1 := [.int (I 3 16), .int n]) (h1 := (124, I, J, R)) rfl ?_
  refine ev_br (b1 := false) rfl rfl (xcd_nge (x := n) (y := (I 3 16)) (by first | exact b1 | omega)) ?_
  refine ev_go 1 (pc1 := 15) (lv1 := [.ref 44, .ref 3, .int q, .int k, .int n]) (st1 := [.ref 44]) (h1 := (124, I, J, R)) rfl ?_
  refine ev_gf (c := 44) (t := 47) (X := R 44 2) rfl rfl (fun _ => rfl) rfl (hG 44 2 47 rfl rfl) ?_
  refine ev_go 1 (pc1 := 20) (lv1 := [.ref 44, .ref 3, .int q, .int k, .int n]) (st1 := [.int n, .ref 47]) (h1 := (124, I, J, R)) rfl ?_
  refine ev_call (v1 := (some (.int r1))) (h1 := (124, I, J, R)) rfl rfl c1 ?_
  refine ev_go 1 (pc1 := 24) (lv1 := [.ref 44, .ref 3, .int q, .int k, .int n]) (st1 := [.int q, .int r1]) (h1 := (124, I, J, R)) rfl ?_
  refine ev_br (b1 := false) rfl rfl (xcd_nne (x := r1) (y := q) (by first | exact b2 | omega)) ?_
  refine ev_go 3 (pc1 := 5) (lv1 := [.ref 44, .ref 3, .int q, .int (k + 1), .int (n + 1)]) (st1 := []) (h1 := (124, I, J, R)) rfl ?_
  exact hk
set_option maxRecDepth 20000 in
theorem hb_e_3 {L : Nat} {xs : Nat → Int32} {d : Nat} {I : Nat → Nat → Int32} {J : Nat → Nat → Int64} {R : Nat → Nat → Nat} {q k n : Int32} (hG : aGd R) (b1 : n.toInt ≥ (I 3 16).toInt) : xEv L xs d 60 5 [.ref 44, .ref 3, .int q, .int k, .int n] [] (124, I, J, R) (some (.int k)) (124, I, J, R) := by
  refine ev_go 3 (pc1 := 11) (lv1 := [.ref 44, .ref 3, .int q, .int k, .int n]) (st1 := [.int (I 3 16), .int n]) (h1 := (124, I, J, R)) rfl ?_
  refine ev_br (b1 := true) rfl rfl (xcd_ge (x := n) (y := (I 3 16)) (by first | exact b1 | omega)) ?_
  refine ev_go 1 (pc1 := 37) (lv1 := [.ref 44, .ref 3, .int q, .int k, .int n]) (st1 := [.int k]) (h1 := (124, I, J, R)) rfl ?_
  exact ev_ret rfl rfl
theorem hb_l_3 {L : Nat} {xs : Nat → Int32} {d : Nat} {I : Nat → Nat → Int32} {J : Nat → Nat → Int64} {R : Nat → Nat → Nat} (hG : aGd R) {nn : Nat} (q5 : (I 3 16).toInt = nn) (h4 : nn ≤ 4) {q : Int32} : ∀ (f m : Nat) (k n : Int32), m + f = nn → n.toInt = m → k.toInt = cIn (fun i => (I 47 i).toInt) q.toInt m → ∃ z : Int32, xEv L xs (d + 1) 60 5 [.ref 44, .ref 3, .int q, .int k, .int n] [] (124, I, J, R) (some (.int z)) (124, I, J, R) ∧ z.toInt = cIn (fun i => (I 47 i).toInt) q.toInt nn := by
  intro f
  induction f with
  | zero =>
    intro m k n hm hn hk
    exact ⟨k, hb_e_3 hG (by omega), by rw [hk, show m = nn from by omega]⟩
  | succ f ih =>
    intro m k n hm hn hk
    have hn' : (n + 1).toInt = (m + 1 : Nat) := by rw [i_add1 (by omega)]; omega
    have hl := cIn_le (f := fun i => (I 47 i).toInt) (z := q.toInt) m
    have ec := clamp_s (i := n) (by omega)
    have ek : n.toNatClampNeg = m := by omega
    have c := at_run (L := L) (xs := xs) (d := d) (h := (124, I, J, R)) (c := 47) (n := 4) (fun _ => rfl) (by decide) n
    rw [if_pos ⟨by omega, by omega⟩, ek] at c
    have c' : xEv L xs d 39 0 [.ref 47, .int n] [] (124, I, J, R) (some (.int (I 47 m))) (124, I, J, R) := c
    by_cases h : (I 47 m).toInt = q.toInt
    · obtain ⟨z, x1, x2⟩ := ih (m + 1) (k + 1) (n + 1) (by omega) hn' (by rw [i_add1 (by omega), cIn_s, if_pos h]; omega)
      exact ⟨z, hb_1_3 hG (by omega) c' h x1, x2⟩
    · obtain ⟨z, x1, x2⟩ := ih (m + 1) k (n + 1) (by omega) hn' (by rw [cIn_s, if_neg h]; omega)
      exact ⟨z, hb_0_3 hG (by omega) c' h x1, x2⟩
theorem hb_run_3 {L : Nat} {xs : Nat → Int32} {d : Nat} {I : Nat → Nat → Int32} {J : Nat → Nat → Int64} {R : Nat → Nat → Nat} (hG : aGd R) {nn : Nat} (q5 : (I 3 16).toInt = nn) (h4 : nn ≤ 4) (q : Int32) : ∃ z : Int32, xEv L xs (d + 1) 60 0 [.ref 44, .ref 3, .int q, xmk, xmk] [] (124, I, J, R) (some (.int z)) (124, I, J, R) ∧ z.toInt = cIn (fun i => (I 47 i).toInt) q.toInt nn := by
  obtain ⟨z, x1, x2⟩ := hb_l_3 (L := L) (xs := xs) (d := d) (J := J) hG q5 h4 (q := q) nn 0 0 0 (by omega) (by decide) rfl
  exact ⟨z, hb_s_3 hG x1, x2⟩
set_option maxRecDepth 20000 in
theorem te_x_3 {L : Nat} {xs : Nat → Int32} {d : Nat} {I : Nat → Nat → Int32} {J : Nat → Nat → Int64} {R : Nat → Nat → Nat} {t n : Int32} (hG : aGd R) (c1 : xEv L xs d 59 0 [.ref 3, .int n] [] (124, I, J, R) (some (.int 0)) (124, I, J, R)) : xEv L xs (d + 1) 58 0 [.ref 44, .ref 3, .int t, .int n, xmk, xmk, xmk, xmk] [] (124, I, J, R) (some (.int 0)) (124, I, J, R) := by
  refine ev_go 2 (pc1 := 2) (lv1 := [.ref 44, .ref 3, .int t, .int n, xmk, xmk, xmk, xmk]) (st1 := [.int n, .ref 3]) (h1 := (124, I, J, R)) rfl ?_
  refine ev_call (v1 := (some (.int 0))) (h1 := (124, I, J, R)) rfl rfl c1 ?_
  refine ev_go 2 (pc1 := 9) (lv1 := [.ref 44, .ref 3, .int t, .int n, xmk, xmk, xmk, xmk]) (st1 := [.int 0]) (h1 := (124, I, J, R)) rfl ?_
  exact ev_ret rfl rfl
set_option maxRecDepth 20000 in
theorem te_y_3 {L : Nat} {xs : Nat → Int32} {d : Nat} {I : Nat → Nat → Int32} {J : Nat → Nat → Int64} {R : Nat → Nat → Nat} {t n r1 r2 r3 : Int32} (hG : aGd R) (c1 : xEv L xs d 59 0 [.ref 3, .int n] [] (124, I, J, R) (some (.int 1)) (124, I, J, R)) (c2 : xEv L xs d 39 0 [.ref 20, .int t] [] (124, I, J, R) (some (.int r1)) (124, I, J, R)) (c3 : xEv L xs d 39 0 [.ref 21, .int t] [] (124, I, J, R) (some (.int r2)) (124, I, J, R)) (c4 : xEv L xs d 39 0 [.ref 47, .int n] [] (124, I, J, R) (some (.int r3)) (124, I, J, R)) (b1 : r3.toInt ≠ r1.toInt) (b2 : r3.toInt ≠ r2.toInt) : xEv L xs (d + 1) 58 0 [.ref 44, .ref 3, .int t, .int n, xmk, xmk, xmk, xmk] [] (124, I, J, R) (some (.int 0)) (124, I, J, R) := by
  refine ev_go 2 (pc1 := 2) (lv1 := [.ref 44, .ref 3, .int t, .int n, xmk, xmk, xmk, xmk]) (st1 := [.int n, .ref 3]) (h1 := (124, I, J, R)) rfl ?_
  refine ev_call (v1 := (some (.int 1))) (h1 := (124, I, J, R)) rfl rfl c1 ?_
  refine ev_go 2 (pc1 := 11) (lv1 := [.ref 44, .ref 3, .int t, .int n, xmk, xmk, xmk, xmk]) (st1 := [.ref 3]) (h1 := (124, I, J, R)) rfl ?_
  refine ev_gf (c := 3) (t := 17) (X := R 3 13) rfl rfl (fun _ => rfl) rfl (hG 3 13 17 rfl rfl) ?_
  refine ev_gf (c := 17) (t := 20) (X := R 17 2) rfl rfl (fun _ => rfl) rfl (hG 17 2 20 rfl rfl) ?_
  refine ev_go 1 (pc1 := 18) (lv1 := [.ref 44, .ref 3, .int t, .int n, xmk, xmk, xmk, xmk]) (st1 := [.int t, .ref 20]) (h1 := (124, I, J, R)) rfl ?_
  refine ev_call (v1 := (some (.int r1))) (h1 := (124, I, J, R)) rfl rfl c2 ?_
  refine ev_go 2 (pc1 := 24) (lv1 := [.ref 44, .ref 3, .int t, .int n, .int r1, xmk, xmk, xmk]) (st1 := [.ref 3]) (h1 := (124, I, J, R)) rfl ?_
  refine ev_gf (c := 3) (t := 17) (X := R 3 13) rfl rfl (fun _ => rfl) rfl (hG 3 13 17 rfl rfl) ?_
  refine ev_gf (c := 17) (t := 21) (X := R 17 3) rfl rfl (fun _ => rfl) rfl (hG 17 3 21 rfl rfl) ?_
  refine ev_go 1 (pc1 := 31) (lv1 := [.ref 44, .ref 3, .int t, .int n, .int r1, xmk, xmk, xmk]) (st1 := [.int t, .ref 21]) (h1 := (124, I, J, R)) rfl ?_
  refine ev_call (v1 := (some (.int r2))) (h1 := (124, I, J, R)) rfl rfl c3 ?_
  refine ev_go 2 (pc1 := 37) (lv1 := [.ref 44, .ref 3, .int t, .int n, .int r1, .int r2, xmk, xmk]) (st1 := [.ref 44]) (h1 := (124, I, J, R)) rfl ?_
  refine ev_gf (c := 44) (t := 47) (X := R 44 2) rfl rfl (fun _ => rfl) rfl (hG 44 2 47 rfl rfl) ?_
  refine ev_go 1 (pc1 := 41) (lv1 := [.ref 44, .ref 3, .int t, .int n, .int r1, .int r2, xmk, xmk]) (st1 := [.int n, .ref 47]) (h1 := (124, I, J, R)) rfl ?_
  refine ev_call (v1 := (some (.int r3))) (h1 := (124, I, J, R)) rfl rfl c4 ?_
  refine ev_go 3 (pc1 := 50) (lv1 := [.ref 44, .ref 3, .int t, .int n, .int r1, .int r2, .int r3, xmk]) (st1 := [.int r1, .int r3]) (h1 := (124, I, J, R)) rfl ?_
  refine ev_br (b1 := false) rfl rfl (xcd_neq (x := r3) (y := r1) (by first | exact b1 | omega)) ?_
  refine ev_go 2 (pc1 := 57) (lv1 := [.ref 44, .ref 3, .int t, .int n, .int r1, .int r2, .int r3, xmk]) (st1 := [.int r2, .int r3]) (h1 := (124, I, J, R)) rfl ?_
  refine ev_br (b1 := false) rfl rfl (xcd_neq (x := r3) (y := r2) (by first | exact b2 | omega)) ?_
  refine ev_go 1 (pc1 := 61) (lv1 := [.ref 44, .ref 3, .int t, .int n, .int r1, .int r2, .int r3, xmk]) (st1 := [.int 0]) (h1 := (124, I, J, R)) rfl ?_
  exact ev_ret rfl rfl
set_option maxRecDepth 20000 in
theorem te_a0_3 {L : Nat} {xs : Nat → Int32} {d : Nat} {I : Nat → Nat → Int32} {J : Nat → Nat → Int64} {R : Nat → Nat → Nat} {t n r1 r2 r3 r4 : Int32} (hG : aGd R) (c1 : xEv L xs d 59 0 [.ref 3, .int n] [] (124, I, J, R) (some (.int 1)) (124, I, J, R)) (c2 : xEv L xs d 39 0 [.ref 20, .int t] [] (124, I, J, R) (some (.int r1)) (124, I, J, R)) (c3 : xEv L xs d 39 0 [.ref 21, .int t] [] (124, I, J, R) (some (.int r2)) (124, I, J, R)) (c4 : xEv L xs d 39 0 [.ref 47, .int n] [] (124, I, J, R) (some (.int r3)) (124, I, J, R)) (b1 : r3.toInt = r1.toInt) (b2 : r3.toInt = r1.toInt) (c5 : xEv L xs d 39 0 [.ref 15, .int n] [] (124, I, J, R) (some (.int r4)) (124, I, J, R)) (b3 : ((r4 >>> (r2 &&& 31)) &&& 1).toInt = 1) : xEv L xs (d + 1) 58 0 [.ref 44, .ref 3, .int t, .int n, xmk, xmk, xmk, xmk] [] (124, I, J, R) (some (.int 0)) (124, I, J, R) := by
  refine ev_go 2 (pc1 := 2) (lv1 := [.ref 44, .ref 3, .int t, .int n, xmk, xmk, xmk, xmk]) (st1 := [.int n, .ref 3]) (h1 := (124, I, J, R)) rfl ?_
  refine ev_call (v1 := (some (.int 1))) (h1 := (124, I, J, R)) rfl rfl c1 ?_
  refine ev_go 2 (pc1 := 11) (lv1 := [.ref 44, .ref 3, .int t, .int n, xmk, xmk, xmk, xmk]) (st1 := [.ref 3]) (h1 := (124, I, J, R)) rfl ?_
  refine ev_gf (c := 3) (t := 17) (X := R 3 13) rfl rfl (fun _ => rfl) rfl (hG 3 13 17 rfl rfl) ?_
  refine ev_gf (c := 17) (t := 20) (X := R 17 2) rfl rfl (fun _ => rfl) rfl (hG 17 2 20 rfl rfl) ?_
  refine ev_go 1 (pc1 := 18) (lv1 := [.ref 44, .ref 3, .int t, .int n, xmk, xmk, xmk, xmk]) (st1 := [.int t, .ref 20]) (h1 := (124, I, J, R)) rfl ?_
  refine ev_call (v1 := (some (.int r1))) (h1 := (124, I, J, R)) rfl rfl c2 ?_
  refine ev_go 2 (pc1 := 24) (lv1 := [.ref 44, .ref 3, .int t, .int n, .int r1, xmk, xmk, xmk]) (st1 := [.ref 3]) (h1 := (124, I, J, R)) rfl ?_
  refine ev_gf (c := 3) (t := 17) (X := R 3 13) rfl rfl (fun _ => rfl) rfl (hG 3 13 17 rfl rfl) ?_
  refine ev_gf (c := 17) (t := 21) (X := R 17 3) rfl rfl (fun _ => rfl) rfl (hG 17 3 21 rfl rfl) ?_
  refine ev_go 1 (pc1 := 31) (lv1 := [.ref 44, .ref 3, .int t, .int n, .int r1, xmk, xmk, xmk]) (st1 := [.int t, .ref 21]) (h1 := (124, I, J, R)) rfl ?_
  refine ev_call (v1 := (some (.int r2))) (h1 := (124, I, J, R)) rfl rfl c3 ?_
  refine ev_go 2 (pc1 := 37) (lv1 := [.ref 44, .ref 3, .int t, .int n, .int r1, .int r2, xmk, xmk]) (st1 := [.ref 44]) (h1 := (124, I, J, R)) rfl ?_
  refine ev_gf (c := 44) (t := 47) (X := R 44 2) rfl rfl (fun _ => rfl) rfl (hG 44 2 47 rfl rfl) ?_
  refine ev_go 1 (pc1 := 41) (lv1 := [.ref 44, .ref 3, .int t, .int n, .int r1, .int r2, xmk, xmk]) (st1 := [.int n, .ref 47]) (h1 := (124, I, J, R)) rfl ?_
  refine ev_call (v1 := (some (.int r3))) (h1 := (124, I, J, R)) rfl rfl c4 ?_
  refine ev_go 3 (pc1 := 50) (lv1 := [.ref 44, .ref 3, .int t, .int n, .int r1, .int r2, .int r3, xmk]) (st1 := [.int r1, .int r3]) (h1 := (124, I, J, R)) rfl ?_
  refine ev_br (b1 := true) rfl rfl (xcd_eq (x := r3) (y := r1) (by first | exact b1 | omega)) ?_
  refine ev_go 2 (pc1 := 66) (lv1 := [.ref 44, .ref 3, .int t, .int n, .int r1, .int r2, .int r3, xmk]) (st1 := [.int r1, .int r3]) (h1 := (124, I, J, R)) rfl ?_
  refine ev_br (b1 := false) rfl rfl (xcd_nne (x := r3) (y := r1) (by first | exact b2 | omega)) ?_
  refine ev_go 4 (pc1 := 79) (lv1 := [.ref 44, .ref 3, .int t, .int n, .int r1, .int r2, .int r3, .int r2]) (st1 := [.ref 3]) (h1 := (124, I, J, R)) rfl ?_
  refine ev_gf (c := 3) (t := 15) (X := R 3 11) rfl rfl (fun _ => rfl) rfl (hG 3 11 15 rfl rfl) ?_
  refine ev_go 1 (pc1 := 83) (lv1 := [.ref 44, .ref 3, .int t, .int n, .int r1, .int r2, .int r3, .int r2]) (st1 := [.int n, .ref 15]) (h1 := (124, I, J, R)) rfl ?_
  refine ev_call (v1 := (some (.int r4))) (h1 := (124, I, J, R)) rfl rfl c5 ?_
  refine ev_go 1 (pc1 := 88) (lv1 := [.ref 44, .ref 3, .int t, .int n, .int r1, .int r2, .int r3, .int r2]) (st1 := [.int r2, .int r4]) (h1 := (124, I, J, R)) rfl ?_
  refine ev_go 4 (pc1 := 92) (lv1 := [.ref 44, .ref 3, .int t, .int n, .int r1, .int r2, .int r3, .int r2]) (st1 := [.int 1, .int ((r4 >>> (r2 &&& 31)) &&& 1)]) (h1 := (124, I, J, R)) rfl ?_
  refine ev_br (b1 := true) rfl rfl (xcd_eq (x := ((r4 >>> (r2 &&& 31)) &&& 1)) (y := 1) (by rw [show ((1 : Int32)).toInt = 1 from by decide]; first | exact b3 | omega)) ?_
  refine ev_go 1 (pc1 := 115) (lv1 := [.ref 44, .ref 3, .int t, .int n, .int r1, .int r2, .int r3, .int r2]) (st1 := [.int 0]) (h1 := (124, I, J, R)) rfl ?_
  exact ev_ret rfl rfl
set_option maxRecDepth 20000 in
theorem te_a1_3 {L : Nat} {xs : Nat → Int32} {d : Nat} {I : Nat → Nat → Int32} {J : Nat → Nat → Int64} {R : Nat → Nat → Nat} {t n r1 r2 r3 r4 r5 r6 : Int32} (hG : aGd R) (c1 : xEv L xs d 59 0 [.ref 3, .int n] [] (124, I, J, R) (some (.int 1)) (124, I, J, R)) (c2 : xEv L xs d 39 0 [.ref 20, .int t] [] (124, I, J, R) (some (.int r1)) (124, I, J, R)) (c3 : xEv L xs d 39 0 [.ref 21, .int t] [] (124, I, J, R) (some (.int r2)) (124, I, J, R)) (c4 : xEv L xs d 39 0 [.ref 47, .int n] [] (124, I, J, R) (some (.int r3)) (124, I, J, R)) (b1 : r3.toInt = r1.toInt) (b2 : r3.toInt = r1.toInt) (c5 : xEv L xs d 39 0 [.ref 15, .int n] [] (124, I, J, R) (some (.int r4)) (124, I, J, R)) (b3 : ((r4 >>> (r2 &&& 31)) &&& 1).toInt ≠ 1) (c6 : xEv L xs d 60 0 [.ref 44, .ref 3, .int r2, xmk, xmk] [] (124, I, J, R) (some (.int r5)) (124, I, J, R)) (c7 : xEv L xs d 39 0 [.ref 5, .int r2] [] (124, I, J, R) (some (.int r6)) (124, I, J, R)) (b4 : r5.toInt ≥ r6.toInt) : xEv L xs (d + 1) 58 0 [.ref 44, .ref 3, .int t, .int n, xmk, xmk, xmk, xmk] [] (124, I, J, R) (some (.int 0)) (124, I, J, R) := by
  refine ev_go 2 (pc1 := 2) (lv1 := [.ref 44, .ref 3, .int t, .int n, xmk, xmk, xmk, xmk]) (st1 := [.int n, .ref 3]) (h1 := (124, I, J, R)) rfl ?_
  refine ev_call (v1 := (some (.int 1))) (h1 := (124, I, J, R)) rfl rfl c1 ?_
  refine ev_go 2 (pc1 := 11) (lv1 := [.ref 44, .ref 3, .int t, .int n, xmk, xmk, xmk, xmk]) (st1 := [.ref 3]) (h1 := (124, I, J, R)) rfl ?_
  refine ev_gf (c := 3) (t := 17) (X := R 3 13) rfl rfl (fun _ => rfl) rfl (hG 3 13 17 rfl rfl) ?_
  refine ev_gf (c := 17) (t := 20) (X := R 17 2) rfl rfl (fun _ => rfl) rfl (hG 17 2 20 rfl rfl) ?_
  refine ev_go 1 (pc1 := 18) (lv1 := [.ref 44, .ref 3, .int t, .int n, xmk, xmk, xmk, xmk]) (st1 := [.int t, .ref 20]) (h1 := (124, I, J, R)) rfl ?_
  refine ev_call (v1 := (some (.int r1))) (h1 := (124, I, J, R)) rfl rfl c2 ?_
  refine ev_go 2 (pc1 := 24) (lv1 := [.ref 44, .ref 3, .int t, .int n, .int r1, xmk, xmk, xmk]) (st1 := [.ref 3]) (h1 := (124, I, J, R)) rfl ?_
  refine ev_gf (c := 3) (t := 17) (X := R 3 13) rfl rfl (fun _ => rfl) rfl (hG 3 13 17 rfl rfl) ?_
  refine ev_gf (c := 17) (t := 21) (X := R 17 3) rfl rfl (fun _ => rfl) rfl (hG 17 3 21 rfl rfl) ?_
  refine ev_go 1 (pc1 := 31) (lv1 := [.ref 44, .ref 3, .int t, .int n, .int r1, xmk, xmk, xmk]) (st1 := [.int t, .ref 21]) (h1 := (124, I, J, R)) rfl ?_
  refine ev_call (v1 := (some (.int r2))) (h1 := (124, I, J, R)) rfl rfl c3 ?_
  refine ev_go 2 (pc1 := 37) (lv1 := [.ref 44, .ref 3, .int t, .int n, .int r1, .int r2, xmk, xmk]) (st1 := [.ref 44]) (h1 := (124, I, J, R)) rfl ?_
  refine ev_gf (c := 44) (t := 47) (X := R 44 2) rfl rfl (fun _ => rfl) rfl (hG 44 2 47 rfl rfl) ?_
  refine ev_go 1 (pc1 := 41) (lv1 := [.ref 44, .ref 3, .int t, .int n, .int r1, .int r2, xmk, xmk]) (st1 := [.int n, .ref 47]) (h1 := (124, I, J, R)) rfl ?_
  refine ev_call (v1 := (some (.int r3))) (h1 := (124, I, J, R)) rfl rfl c4 ?_
  refine ev_go 3 (pc1 := 50) (lv1 := [.ref 44, .ref 3, .int t, .int n, .int r1, .int r2, .int r3, xmk]) (st1 := [.int r1, .int r3]) (h1 := (124, I, J, R)) rfl ?_
  refine ev_br (b1 := true) rfl rfl (xcd_eq (x := r3) (y := r1) (by first | exact b1 | omega)) ?_
  refine ev_go 2 (pc1 := 66) (lv1 := [.ref 44, .ref 3, .int t, .int n, .int r1, .int r2, .int r3, xmk]) (st1 := [.int r1, .int r3]) (h1 := (124, I, J, R)) rfl ?_
  refine ev_br (b1 := false) rfl rfl (xcd_nne (x := r3) (y := r1) (by first | exact b2 | omega)) ?_
  refine ev_go 4 (pc1 := 79) (lv1 := [.ref 44, .ref 3, .int t, .int n, .int r1, .int r2, .int r3, .int r2]) (st1 := [.ref 3]) (h1 := (124, I, J, R)) rfl ?_
  refine ev_gf (c := 3) (t := 15) (X := R 3 11) rfl rfl (fun _ => rfl) rfl (hG 3 11 15 rfl rfl) ?_
  refine ev_go 1 (pc1 := 83) (lv1 := [.ref 44, .ref 3, .int t, .int n, .int r1, .int r2, .int r3, .int r2]) (st1 := [.int n, .ref 15]) (h1 := (124, I, J, R)) rfl ?_
  refine ev_call (v1 := (some (.int r4))) (h1 := (124, I, J, R)) rfl rfl c5 ?_
  refine ev_go 1 (pc1 := 88) (lv1 := [.ref 44, .ref 3, .int t, .int n, .int r1, .int r2, .int r3, .int r2]) (st1 := [.int r2, .int r4]) (h1 := (124, I, J, R)) rfl ?_
  refine ev_go 4 (pc1 := 92) (lv1 := [.ref 44, .ref 3, .int t, .int n, .int r1, .int r2, .int r3, .int r2]) (st1 := [.int 1, .int ((r4 >>> (r2 &&& 31)) &&& 1)]) (h1 := (124, I, J, R)) rfl ?_
  refine ev_br (b1 := false) rfl rfl (xcd_neq (x := ((r4 >>> (r2 &&& 31)) &&& 1)) (y := 1) (by rw [show ((1 : Int32)).toInt = 1 from by decide]; first | exact b3 | omega)) ?_
  refine ev_go 3 (pc1 := 99) (lv1 := [.ref 44, .ref 3, .int t, .int n, .int r1, .int r2, .int r3, .int r2]) (st1 := [.int r2, .ref 3, .ref 44]) (h1 := (124, I, J, R)) rfl ?_
  refine ev_call (v1 := (some (.int r5))) (h1 := (124, I, J, R)) rfl rfl c6 ?_
  refine ev_go 1 (pc1 := 103) (lv1 := [.ref 44, .ref 3, .int t, .int n, .int r1, .int r2, .int r3, .int r2]) (st1 := [.ref 3, .int r5]) (h1 := (124, I, J, R)) rfl ?_
  refine ev_gf (c := 3) (t := 5) (X := R 3 1) rfl rfl (fun _ => rfl) rfl (hG 3 1 5 rfl rfl) ?_
  refine ev_go 1 (pc1 := 108) (lv1 := [.ref 44, .ref 3, .int t, .int n, .int r1, .int r2, .int r3, .int r2]) (st1 := [.int r2, .ref 5, .int r5]) (h1 := (124, I, J, R)) rfl ?_
  refine ev_call (v1 := (some (.int r6))) (h1 := (124, I, J, R)) rfl rfl c7 ?_
  refine ev_br (b1 := false) rfl rfl (xcd_nlt (x := r5) (y := r6) (by first | exact b4 | omega)) ?_
  refine ev_go 1 (pc1 := 115) (lv1 := [.ref 44, .ref 3, .int t, .int n, .int r1, .int r2, .int r3, .int r2]) (st1 := [.int 0]) (h1 := (124, I, J, R)) rfl ?_
  exact ev_ret rfl rfl
set_option maxRecDepth 20000 in
theorem te_a2_3 {L : Nat} {xs : Nat → Int32} {d : Nat} {I : Nat → Nat → Int32} {J : Nat → Nat → Int64} {R : Nat → Nat → Nat} {t n r1 r2 r3 r4 r5 r6 r7 : Int32} (hG : aGd R) (c1 : xEv L xs d 59 0 [.ref 3, .int n] [] (124, I, J, R) (some (.int 1)) (124, I, J, R)) (c2 : xEv L xs d 39 0 [.ref 20, .int t] [] (124, I, J, R) (some (.int r1)) (124, I, J, R)) (c3 : xEv L xs d 39 0 [.ref 21, .int t] [] (124, I, J, R) (some (.int r2)) (124, I, J, R)) (c4 : xEv L xs d 39 0 [.ref 47, .int n] [] (124, I, J, R) (some (.int r3)) (124, I, J, R)) (b1 : r3.toInt = r1.toInt) (b2 : r3.toInt = r1.toInt) (c5 : xEv L xs d 39 0 [.ref 15, .int n] [] (124, I, J, R) (some (.int r4)) (124, I, J, R)) (b3 : ((r4 >>> (r2 &&& 31)) &&& 1).toInt ≠ 1) (c6 : xEv L xs d 60 0 [.ref 44, .ref 3, .int r2, xmk, xmk] [] (124, I, J, R) (some (.int r5)) (124, I, J, R)) (c7 : xEv L xs d 39 0 [.ref 5, .int r2] [] (124, I, J, R) (some (.int r6)) (124, I, J, R)) (b4 : r5.toInt < r6.toInt) (c8 : xEv L xs d 33 0 [.ref 47, .int n, .int r2] [] (124, I, J, R) none (124, (uI I 47 n.toNatClampNeg r2), J, R)) (c9 : xEv L xs d 39 0 [.ref 16, .int n] [] (124, (uI I 47 n.toNatClampNeg r2), J, R) (some (.int r7)) (124, (uI I 47 n.toNatClampNeg r2), J, R)) (b5 : t.toInt ≥ r7.toInt) : xEv L xs (d + 1) 58 0 [.ref 44, .ref 3, .int t, .int n, xmk, xmk, xmk, xmk] [] (124, I, J, R) (some (.int 1)) (124, (uI I 47 n.toNatClampNeg r2), J, R) := by
  refine ev_go 2 (pc1 := 2) (lv1 := [.ref 44, .ref 3, .int t, .int n, xmk, xmk, xmk, xmk]) (st1 := [.int n, .ref 3]) (h1 := (124, I, J, R)) rfl ?_
  refine ev_call (v1 := (some (.int 1))) (h1 := (124, I, J, R)) rfl rfl c1 ?_
  refine ev_go 2 (pc1 := 11) (lv1 := [.ref 44, .ref 3, .int t, .int n, xmk, xmk, xmk, xmk]) (st1 := [.ref 3]) (h1 := (124, I, J, R)) rfl ?_
  refine ev_gf (c := 3) (t := 17) (X := R 3 13) rfl rfl (fun _ => rfl) rfl (hG 3 13 17 rfl rfl) ?_
  refine ev_gf (c := 17) (t := 20) (X := R 17 2) rfl rfl (fun _ => rfl) rfl (hG 17 2 20 rfl rfl) ?_
  refine ev_go 1 (pc1 := 18) (lv1 := [.ref 44, .ref 3, .int t, .int n, xmk, xmk, xmk, xmk]) (st1 := [.int t, .ref 20]) (h1 := (124, I, J, R)) rfl ?_
  refine ev_call (v1 := (some (.int r1))) (h1 := (124, I, J, R)) rfl rfl c2 ?_
  refine ev_go 2 (pc1 := 24) (lv1 := [.ref 44, .ref 3, .int t, .int n, .int r1, xmk, xmk, xmk]) (st1 := [.ref 3]) (h1 := (124, I, J, R)) rfl ?_
  refine ev_gf (c := 3) (t := 17) (X := R 3 13) rfl rfl (fun _ => rfl) rfl (hG 3 13 17 rfl rfl) ?_
  refine ev_gf (c := 17) (t := 21) (X := R 17 3) rfl rfl (fun _ => rfl) rfl (hG 17 3 21 rfl rfl) ?_
  refine ev_go 1 (pc1 := 31) (lv1 := [.ref 44, .ref 3, .int t, .int n, .int r1, xmk, xmk, xmk]) (st1 := [.int t, .ref 21]) (h1 := (124, I, J, R)) rfl ?_
  refine ev_call (v1 := (some (.int r2))) (h1 := (124, I, J, R)) rfl rfl c3 ?_
  refine ev_go 2 (pc1 := 37) (lv1 := [.ref 44, .ref 3, .int t, .int n, .int r1, .int r2, xmk, xmk]) (st1 := [.ref 44]) (h1 := (124, I, J, R)) rfl ?_
  refine ev_gf (c := 44) (t := 47) (X := R 44 2) rfl rfl (fun _ => rfl) rfl (hG 44 2 47 rfl rfl) ?_
  refine ev_go 1 (pc1 := 41) (lv1 := [.ref 44, .ref 3, .int t, .int n, .int r1, .int r2, xmk, xmk]) (st1 := [.int n, .ref 47]) (h1 := (124, I, J, R)) rfl ?_
  refine ev_call (v1 := (some (.int r3))) (h1 := (124, I, J, R)) rfl rfl c4 ?_
  refine ev_go 3 (pc1 := 50) (lv1 := [.ref 44, .ref 3, .int t, .int n, .int r1, .int r2, .int r3, xmk]) (st1 := [.int r1, .int r3]) (h1 := (124, I, J, R)) rfl ?_
  refine ev_br (b1 := true) rfl rfl (xcd_eq (x := r3) (y := r1) (by first | exact b1 | omega)) ?_
  refine ev_go 2 (pc1 := 66) (lv1 := [.ref 44, .ref 3, .int t, .int n, .int r1, .int r2, .int r3, xmk]) (st1 := [.int r1, .int r3]) (h1 := (124, I, J, R)) rfl ?_
  refine ev_br (b1 := false) rfl rfl (xcd_nne (x := r3) (y := r1) (by first | exact b2 | omega)) ?_
  refine ev_go 4 (pc1 := 79) (lv1 := [.ref 44, .ref 3, .int t, .int n, .int r1, .int r2, .int r3, .int r2]) (st1 := [.ref 3]) (h1 := (124, I, J, R)) rfl ?_
  refine ev_gf (c := 3) (t := 15) (X := R 3 11) rfl rfl (fun _ => rfl) rfl (hG 3 11 15 rfl rfl) ?_
  refine ev_go 1 (pc1 := 83) (lv1 := [.ref 44, .ref 3, .int t, .int n, .int r1, .int r2, .int r3, .int r2]) (st1 := [.int n, .ref 15]) (h1 := (124, I, J, R)) rfl ?_
  refine ev_call (v1 := (some (.int r4))) (h1 := (124, I, J, R)) rfl rfl c5 ?_
  refine ev_go 1 (pc1 := 88) (lv1 := [.ref 44, .ref 3, .int t, .int n, .int r1, .int r2, .int r3, .int r2]) (st1 := [.int r2, .int r4]) (h1 := (124, I, J, R)) rfl ?_
  refine ev_go 4 (pc1 := 92) (lv1 := [.ref 44, .ref 3, .int t, .int n, .int r1, .int r2, .int r3, .int r2]) (st1 := [.int 1, .int ((r4 >>> (r2 &&& 31)) &&& 1)]) (h1 := (124, I, J, R)) rfl ?_
  refine ev_br (b1 := false) rfl rfl (xcd_neq (x := ((r4 >>> (r2 &&& 31)) &&& 1)) (y := 1) (by rw [show ((1 : Int32)).toInt = 1 from by decide]; first | exact b3 | omega)) ?_
  refine ev_go 3 (pc1 := 99) (lv1 := [.ref 44, .ref 3, .int t, .int n, .int r1, .int r2, .int r3, .int r2]) (st1 := [.int r2, .ref 3, .ref 44]) (h1 := (124, I, J, R)) rfl ?_
  refine ev_call (v1 := (some (.int r5))) (h1 := (124, I, J, R)) rfl rfl c6 ?_
  refine ev_go 1 (pc1 := 103) (lv1 := [.ref 44, .ref 3, .int t, .int n, .int r1, .int r2, .int r3, .int r2]) (st1 := [.ref 3, .int r5]) (h1 := (124, I, J, R)) rfl ?_
  refine ev_gf (c := 3) (t := 5) (X := R 3 1) rfl rfl (fun _ => rfl) rfl (hG 3 1 5 rfl rfl) ?_
  refine ev_go 1 (pc1 := 108) (lv1 := [.ref 44, .ref 3, .int t, .int n, .int r1, .int r2, .int r3, .int r2]) (st1 := [.int r2, .ref 5, .int r5]) (h1 := (124, I, J, R)) rfl ?_
  refine ev_call (v1 := (some (.int r6))) (h1 := (124, I, J, R)) rfl rfl c7 ?_
  refine ev_br (b1 := true) rfl rfl (xcd_lt (x := r5) (y := r6) (by first | exact b4 | omega)) ?_
  refine ev_go 1 (pc1 := 117) (lv1 := [.ref 44, .ref 3, .int t, .int n, .int r1, .int r2, .int r3, .int r2]) (st1 := [.ref 44]) (h1 := (124, I, J, R)) rfl ?_
  refine ev_gf (c := 44) (t := 47) (X := R 44 2) rfl rfl (fun _ => rfl) rfl (hG 44 2 47 rfl rfl) ?_
  refine ev_go 2 (pc1 := 123) (lv1 := [.ref 44, .ref 3, .int t, .int n, .int r1, .int r2, .int r3, .int r2]) (st1 := [.int r2, .int n, .ref 47]) (h1 := (124, I, J, R)) rfl ?_
  refine ev_call (v1 := none) (h1 := (124, (uI I 47 n.toNatClampNeg r2), J, R)) rfl rfl c8 ?_
  refine ev_go 2 (pc1 := 128) (lv1 := [.ref 44, .ref 3, .int t, .int n, .int r1, .int r2, .int r3, .int r2]) (st1 := [.ref 3, .int t]) (h1 := (124, (uI I 47 n.toNatClampNeg r2), J, R)) rfl ?_
  refine ev_gf (c := 3) (t := 16) (X := R 3 12) rfl rfl (fun _ => rfl) rfl (hG 3 12 16 rfl rfl) ?_
  refine ev_go 1 (pc1 := 132) (lv1 := [.ref 44, .ref 3, .int t, .int n, .int r1, .int r2, .int r3, .int r2]) (st1 := [.int n, .ref 16, .int t]) (h1 := (124, (uI I 47 n.toNatClampNeg r2), J, R)) rfl ?_
  refine ev_call (v1 := (some (.int r7))) (h1 := (124, (uI I 47 n.toNatClampNeg r2), J, R)) rfl rfl c9 ?_
  refine ev_br (b1 := true) rfl rfl (xcd_ge (x := t) (y := r7) (by first | exact b5 | omega)) ?_
  refine ev_go 1 (pc1 := 149) (lv1 := [.ref 44, .ref 3, .int t, .int n, .int r1, .int r2, .int r3, .int r2]) (st1 := [.int 1]) (h1 := (124, (uI I 47 n.toNatClampNeg r2), J, R)) rfl ?_
  exact ev_ret rfl rfl
set_option maxRecDepth 20000 in
theorem te_a3_3 {L : Nat} {xs : Nat → Int32} {d : Nat} {I : Nat → Nat → Int32} {J : Nat → Nat → Int64} {R : Nat → Nat → Nat} {t n r1 r2 r3 r4 r5 r6 r7 : Int32} (hG : aGd R) (c1 : xEv L xs d 59 0 [.ref 3, .int n] [] (124, I, J, R) (some (.int 1)) (124, I, J, R)) (c2 : xEv L xs d 39 0 [.ref 20, .int t] [] (124, I, J, R) (some (.int r1)) (124, I, J, R)) (c3 : xEv L xs d 39 0 [.ref 21, .int t] [] (124, I, J, R) (some (.int r2)) (124, I, J, R)) (c4 : xEv L xs d 39 0 [.ref 47, .int n] [] (124, I, J, R) (some (.int r3)) (124, I, J, R)) (b1 : r3.toInt = r1.toInt) (b2 : r3.toInt = r1.toInt) (c5 : xEv L xs d 39 0 [.ref 15, .int n] [] (124, I, J, R) (some (.int r4)) (124, I, J, R)) (b3 : ((r4 >>> (r2 &&& 31)) &&& 1).toInt ≠ 1) (c6 : xEv L xs d 60 0 [.ref 44, .ref 3, .int r2, xmk, xmk] [] (124, I, J, R) (some (.int r5)) (124, I, J, R)) (c7 : xEv L xs d 39 0 [.ref 5, .int r2] [] (124, I, J, R) (some (.int r6)) (124, I, J, R)) (b4 : r5.toInt < r6.toInt) (c8 : xEv L xs d 33 0 [.ref 47, .int n, .int r2] [] (124, I, J, R) none (124, (uI I 47 n.toNatClampNeg r2), J, R)) (c9 : xEv L xs d 39 0 [.ref 16, .int n] [] (124, (uI I 47 n.toNatClampNeg r2), J, R) (some (.int r7)) (124, (uI I 47 n.toNatClampNeg r2), J, R)) (b5 : t.toInt < r7.toInt) (c10 : xEv L xs d 33 0 [.ref 48, .int n, .int r2] [] (124, (uI I 47 n.toNatClampNeg r2), J, R) none (124, (uI (uI I 47 n.toNatClampNeg r2) 48 n.toNatClampNeg r2), J, R)) : xEv L xs (d + 1) 58 0 [.ref 44, .ref 3, .int t, .int n, xmk, xmk, xmk, xmk] [] (124, I, J, R) (some (.int 1)) (124, (uI (uI I 47 n.toNatClampNeg r2) 48 n.toNatClampNeg r2), J, R) := by
  refine ev_go 2 (pc1 := 2) (lv1 := [.ref 44, .ref 3, .int t, .int n, xmk, xmk, xmk, xmk]) (st1 := [.int n, .ref 3]) (h1 := (124, I, J, R)) rfl ?_
  refine ev_call (v1 := (some (.int 1))) (h1 := (124, I, J, R)) rfl rfl c1 ?_
  refine ev_go 2 (pc1 := 11) (lv1 := [.ref 44, .ref 3, .int t, .int n, xmk, xmk, xmk, xmk]) (st1 := [.ref 3]) (h1 := (124, I, J, R)) rfl ?_
  refine ev_gf (c := 3) (t := 17) (X := R 3 13) rfl rfl (fun _ => rfl) rfl (hG 3 13 17 rfl rfl) ?_
  refine ev_gf (c := 17) (t := 20) (X := R 17 2) rfl rfl (fun _ => rfl) rfl (hG 17 2 20 rfl rfl) ?_
  refine ev_go 1 (pc1 := 18) (lv1 := [.ref 44, .ref 3, .int t, .int n, xmk, xmk, xmk, xmk]) (st1 := [.int t, .ref 20]) (h1 := (124, I, J, R)) rfl ?_
  refine ev_call (v1 := (some (.int r1))) (h1 := (124, I, J, R)) rfl rfl c2 ?_
  refine ev_go 2 (pc1 := 24) (lv1 := [.ref 44, .ref 3, .int t, .int n, .int r1, xmk, xmk, xmk]) (st1 := [.ref 3]) (h1 := (124, I, J, R)) rfl ?_
  refine ev_gf (c := 3) (t := 17) (X := R 3 13) rfl rfl (fun _ => rfl) rfl (hG 3 13 17 rfl rfl) ?_
  refine ev_gf (c := 17) (t := 21) (X := R 17 3) rfl rfl (fun _ => rfl) rfl (hG 17 3 21 rfl rfl) ?_
  refine ev_go 1 (pc1 := 31) (lv1 := [.ref 44, .ref 3, .int t, .int n, .int r1, xmk, xmk, xmk]) (st1 := [.int t, .ref 21]) (h1 := (124, I, J, R)) rfl ?_
  refine ev_call (v1 := (some (.int r2))) (h1 := (124, I, J, R)) rfl rfl c3 ?_
  refine ev_go 2 (pc1 := 37) (lv1 := [.ref 44, .ref 3, .int t, .int n, .int r1, .int r2, xmk, xmk]) (st1 := [.ref 44]) (h1 := (124, I, J, R)) rfl ?_
  refine ev_gf (c := 44) (t := 47) (X := R 44 2) rfl rfl (fun _ => rfl) rfl (hG 44 2 47 rfl rfl) ?_
  refine ev_go 1 (pc1 := 41) (lv1 := [.ref 44, .ref 3, .int t, .int n, .int r1, .int r2, xmk, xmk]) (st1 := [.int n, .ref 47]) (h1 := (124, I, J, R)) rfl ?_
  refine ev_call (v1 := (some (.int r3))) (h1 := (124, I, J, R)) rfl rfl c4 ?_
  refine ev_go 3 (pc1 := 50) (lv1 := [.ref 44, .ref 3, .int t, .int n, .int r1, .int r2, .int r3, xmk]) (st1 := [.int r1, .int r3]) (h1 := (124, I, J, R)) rfl ?_
  refine ev_br (b1 := true) rfl rfl (xcd_eq (x := r3) (y := r1) (by first | exact b1 | omega)) ?_
  refine ev_go 2 (pc1 := 66) (lv1 := [.ref 44, .ref 3, .int t, .int n, .int r1, .int r2, .int r3, xmk]) (st1 := [.int r1, .int r3]) (h1 := (124, I, J, R)) rfl ?_
  refine ev_br (b1 := false) rfl rfl (xcd_nne (x := r3) (y := r1) (by first | exact b2 | omega)) ?_
  refine ev_go 4 (pc1 := 79) (lv1 := [.ref 44, .ref 3, .int t, .int n, .int r1, .int r2, .int r3, .int r2]) (st1 := [.ref 3]) (h1 := (124, I, J, R)) rfl ?_
  refine ev_gf (c := 3) (t := 15) (X := R 3 11) rfl rfl (fun _ => rfl) rfl (hG 3 11 15 rfl rfl) ?_
  refine ev_go 1 (pc1 := 83) (lv1 := [.ref 44, .ref 3, .int t, .int n, .int r1, .int r2, .int r3, .int r2]) (st1 := [.int n, .ref 15]) (h1 := (124, I, J, R)) rfl ?_
  refine ev_call (v1 := (some (.int r4))) (h1 := (124, I, J, R)) rfl rfl c5 ?_
  refine ev_go 1 (pc1 := 88) (lv1 := [.ref 44, .ref 3, .int t, .int n, .int r1, .int r2, .int r3, .int r2]) (st1 := [.int r2, .int r4]) (h1 := (124, I, J, R)) rfl ?_
  refine ev_go 4 (pc1 := 92) (lv1 := [.ref 44, .ref 3, .int t, .int n, .int r1, .int r2, .int r3, .int r2]) (st1 := [.int 1, .int ((r4 >>> (r2 &&& 31)) &&& 1)]) (h1 := (124, I, J, R)) rfl ?_
  refine ev_br (b1 := false) rfl rfl (xcd_neq (x := ((r4 >>> (r2 &&& 31)) &&& 1)) (y := 1) (by rw [show ((1 : Int32)).toInt = 1 from by decide]; first | exact b3 | omega)) ?_
  refine ev_go 3 (pc1 := 99) (lv1 := [.ref 44, .ref 3, .int t, .int n, .int r1, .int r2, .int r3, .int r2]) (st1 := [.int r2, .ref 3, .ref 44]) (h1 := (124, I, J, R)) rfl ?_
  refine ev_call (v1 := (some (.int r5))) (h1 := (124, I, J, R)) rfl rfl c6 ?_
  refine ev_go 1 (pc1 := 103) (lv1 := [.ref 44, .ref 3, .int t, .int n, .int r1, .int r2, .int r3, .int r2]) (st1 := [.ref 3, .int r5]) (h1 := (124, I, J, R)) rfl ?_
  refine ev_gf (c := 3) (t := 5) (X := R 3 1) rfl rfl (fun _ => rfl) rfl (hG 3 1 5 rfl rfl) ?_
  refine ev_go 1 (pc1 := 108) (lv1 := [.ref 44, .ref 3, .int t, .int n, .int r1, .int r2, .int r3, .int r2]) (st1 := [.int r2, .ref 5, .int r5]) (h1 := (124, I, J, R)) rfl ?_
  refine ev_call (v1 := (some (.int r6))) (h1 := (124, I, J, R)) rfl rfl c7 ?_
  refine ev_br (b1 := true) rfl rfl (xcd_lt (x := r5) (y := r6) (by first | exact b4 | omega)) ?_
  refine ev_go 1 (pc1 := 117) (lv1 := [.ref 44, .ref 3, .int t, .int n, .int r1, .int r2, .int r3, .int r2]) (st1 := [.ref 44]) (h1 := (124, I, J, R)) rfl ?_
  refine ev_gf (c := 44) (t := 47) (X := R 44 2) rfl rfl (fun _ => rfl) rfl (hG 44 2 47 rfl rfl) ?_
  refine ev_go 2 (pc1 := 123) (lv1 := [.ref 44, .ref 3, .int t, .int n, .int r1, .int r2, .int r3, .int r2]) (st1 := [.int r2, .int n, .ref 47]) (h1 := (124, I, J, R)) rfl ?_
  refine ev_call (v1 := none) (h1 := (124, (uI I 47 n.toNatClampNeg r2), J, R)) rfl rfl c8 ?_
  refine ev_go 2 (pc1 := 128) (lv1 := [.ref 44, .ref 3, .int t, .int n, .int r1, .int r2, .int r3, .int r2]) (st1 := [.ref 3, .int t]) (h1 := (124, (uI I 47 n.toNatClampNeg r2), J, R)) rfl ?_
  refine ev_gf (c := 3) (t := 16) (X := R 3 12) rfl rfl (fun _ => rfl) rfl (hG 3 12 16 rfl rfl) ?_
  refine ev_go 1 (pc1 := 132) (lv1 := [.ref 44, .ref 3, .int t, .int n, .int r1, .int r2, .int r3, .int r2]) (st1 := [.int n, .ref 16, .int t]) (h1 := (124, (uI I 47 n.toNatClampNeg r2), J, R)) rfl ?_
  refine ev_call (v1 := (some (.int r7))) (h1 := (124, (uI I 47 n.toNatClampNeg r2), J, R)) rfl rfl c9 ?_
  refine ev_br (b1 := false) rfl rfl (xcd_nge (x := t) (y := r7) (by first | exact b5 | omega)) ?_
  refine ev_go 1 (pc1 := 139) (lv1 := [.ref 44, .ref 3, .int t, .int n, .int r1, .int r2, .int r3, .int r2]) (st1 := [.ref 44]) (h1 := (124, (uI I 47 n.toNatClampNeg r2), J, R)) rfl ?_
  refine ev_gf (c := 44) (t := 48) (X := R 44 3) rfl rfl (fun _ => rfl) rfl (hG 44 3 48 rfl rfl) ?_
  refine ev_go 2 (pc1 := 145) (lv1 := [.ref 44, .ref 3, .int t, .int n, .int r1, .int r2, .int r3, .int r2]) (st1 := [.int r2, .int n, .ref 48]) (h1 := (124, (uI I 47 n.toNatClampNeg r2), J, R)) rfl ?_
  refine ev_call (v1 := none) (h1 := (124, (uI (uI I 47 n.toNatClampNeg r2) 48 n.toNatClampNeg r2), J, R)) rfl rfl c10 ?_
  refine ev_go 1 (pc1 := 149) (lv1 := [.ref 44, .ref 3, .int t, .int n, .int r1, .int r2, .int r3, .int r2]) (st1 := [.int 1]) (h1 := (124, (uI (uI I 47 n.toNatClampNeg r2) 48 n.toNatClampNeg r2), J, R)) rfl ?_
  exact ev_ret rfl rfl
set_option maxRecDepth 20000 in
theorem te_b0_3 {L : Nat} {xs : Nat → Int32} {d : Nat} {I : Nat → Nat → Int32} {J : Nat → Nat → Int64} {R : Nat → Nat → Nat} {t n r1 r2 r3 r4 : Int32} (hG : aGd R) (c1 : xEv L xs d 59 0 [.ref 3, .int n] [] (124, I, J, R) (some (.int 1)) (124, I, J, R)) (c2 : xEv L xs d 39 0 [.ref 20, .int t] [] (124, I, J, R) (some (.int r1)) (124, I, J, R)) (c3 : xEv L xs d 39 0 [.ref 21, .int t] [] (124, I, J, R) (some (.int r2)) (124, I, J, R)) (c4 : xEv L xs d 39 0 [.ref 47, .int n] [] (124, I, J, R) (some (.int r3)) (124, I, J, R)) (b1 : r3.toInt ≠ r1.toInt) (b2 : r3.toInt = r2.toInt) (b3 : r3.toInt ≠ r1.toInt) (c5 : xEv L xs d 39 0 [.ref 15, .int n] [] (124, I, J, R) (some (.int r4)) (124, I, J, R)) (b4 : ((r4 >>> (r1 &&& 31)) &&& 1).toInt = 1) : xEv L xs (d + 1) 58 0 [.ref 44, .ref 3, .int t, .int n, xmk, xmk, xmk, xmk] [] (124, I, J, R) (some (.int 0)) (124, I, J, R) := by
  refine ev_go 2 (pc1 := 2) (lv1 := [.ref 44, .ref 3, .int t, .int n, xmk, xmk, xmk, xmk]) (st1 := [.int n, .ref 3]) (h1 := (124, I, J, R)) rfl ?_
  refine ev_call (v1 := (some (.int 1))) (h1 := (124, I, J, R)) rfl rfl c1 ?_
  refine ev_go 2 (pc1 := 11) (lv1 := [.ref 44, .ref 3, .int t, .int n, xmk, xmk, xmk, xmk]) (st1 := [.ref 3]) (h1 := (124, I, J, R)) rfl ?_
  refine ev_gf (c := 3) (t := 17) (X := R 3 13) rfl rfl (fun _ => rfl) rfl (hG 3 13 17 rfl rfl) ?_
  refine ev_gf (c := 17) (t := 20) (X := R 17 2) rfl rfl (fun _ => rfl) rfl (hG 17 2 20 rfl rfl) ?_
  refine ev_go 1 (pc1 := 18) (lv1 := [.ref 44, .ref 3, .int t, .int n, xmk, xmk, xmk, xmk]) (st1 := [.int t, .ref 20]) (h1 := (124, I, J, R)) rfl ?_
  refine ev_call (v1 := (some (.int r1))) (h1 := (124, I, J, R)) rfl rfl c2 ?_
  refine ev_go 2 (pc1 := 24) (lv1 := [.ref 44, .ref 3, .int t, .int n, .int r1, xmk, xmk, xmk]) (st1 := [.ref 3]) (h1 := (124, I, J, R)) rfl ?_
  refine ev_gf (c := 3) (t := 17) (X := R 3 13) rfl rfl (fun _ => rfl) rfl (hG 3 13 17 rfl rfl) ?_
  refine ev_gf (c := 17) (t := 21) (X := R 17 3) rfl rfl (fun _ => rfl) rfl (hG 17 3 21 rfl rfl) ?_
  refine ev_go 1 (pc1 := 31) (lv1 := [.ref 44, .ref 3, .int t, .int n, .int r1, xmk, xmk, xmk]) (st1 := [.int t, .ref 21]) (h1 := (124, I, J, R)) rfl ?_
  refine ev_call (v1 := (some (.int r2))) (h1 := (124, I, J, R)) rfl rfl c3 ?_
  refine ev_go 2 (pc1 := 37) (lv1 := [.ref 44, .ref 3, .int t, .int n, .int r1, .int r2, xmk, xmk]) (st1 := [.ref 44]) (h1 := (124, I, J, R)) rfl ?_
  refine ev_gf (c := 44) (t := 47) (X := R 44 2) rfl rfl (fun _ => rfl) rfl (hG 44 2 47 rfl rfl) ?_
  refine ev_go 1 (pc1 := 41) (lv1 := [.ref 44, .ref 3, .int t, .int n, .int r1, .int r2, xmk, xmk]) (st1 := [.int n, .ref 47]) (h1 := (124, I, J, R)) rfl ?_
  refine ev_call (v1 := (some (.int r3))) (h1 := (124, I, J, R)) rfl rfl c4 ?_
  refine ev_go 3 (pc1 := 50) (lv1 := [.ref 44, .ref 3, .int t, .int n, .int r1, .int r2, .int r3, xmk]) (st1 := [.int r1, .int r3]) (h1 := (124, I, J, R)) rfl ?_
  refine ev_br (b1 := false) rfl rfl (xcd_neq (x := r3) (y := r1) (by first | exact b1 | omega)) ?_
  refine ev_go 2 (pc1 := 57) (lv1 := [.ref 44, .ref 3, .int t, .int n, .int r1, .int r2, .int r3, xmk]) (st1 := [.int r2, .int r3]) (h1 := (124, I, J, R)) rfl ?_
  refine ev_br (b1 := true) rfl rfl (xcd_eq (x := r3) (y := r2) (by first | exact b2 | omega)) ?_
  refine ev_go 2 (pc1 := 66) (lv1 := [.ref 44, .ref 3, .int t, .int n, .int r1, .int r2, .int r3, xmk]) (st1 := [.int r1, .int r3]) (h1 := (124, I, J, R)) rfl ?_
  refine ev_br (b1 := true) rfl rfl (xcd_ne (x := r3) (y := r1) (by first | exact b3 | omega)) ?_
  refine ev_go 3 (pc1 := 79) (lv1 := [.ref 44, .ref 3, .int t, .int n, .int r1, .int r2, .int r3, .int r1]) (st1 := [.ref 3]) (h1 := (124, I, J, R)) rfl ?_
  refine ev_gf (c := 3) (t := 15) (X := R 3 11) rfl rfl (fun _ => rfl) rfl (hG 3 11 15 rfl rfl) ?_
  refine ev_go 1 (pc1 := 83) (lv1 := [.ref 44, .ref 3, .int t, .int n, .int r1, .int r2, .int r3, .int r1]) (st1 := [.int n, .ref 15]) (h1 := (124, I, J, R)) rfl ?_
  refine ev_call (v1 := (some (.int r4))) (h1 := (124, I, J, R)) rfl rfl c5 ?_
  refine ev_go 1 (pc1 := 88) (lv1 := [.ref 44, .ref 3, .int t, .int n, .int r1, .int r2, .int r3, .int r1]) (st1 := [.int r1, .int r4]) (h1 := (124, I, J, R)) rfl ?_
  refine ev_go 4 (pc1 := 92) (lv1 := [.ref 44, .ref 3, .int t, .int n, .int r1, .int r2, .int r3, .int r1]) (st1 := [.int 1, .int ((r4 >>> (r1 &&& 31)) &&& 1)]) (h1 := (124, I, J, R)) rfl ?_
  refine ev_br (b1 := true) rfl rfl (xcd_eq (x := ((r4 >>> (r1 &&& 31)) &&& 1)) (y := 1) (by rw [show ((1 : Int32)).toInt = 1 from by decide]; first | exact b4 | omega)) ?_
  refine ev_go 1 (pc1 := 115) (lv1 := [.ref 44, .ref 3, .int t, .int n, .int r1, .int r2, .int r3, .int r1]) (st1 := [.int 0]) (h1 := (124, I, J, R)) rfl ?_
  exact ev_ret rfl rfl
set_option maxRecDepth 20000 in
theorem te_b1_3 {L : Nat} {xs : Nat → Int32} {d : Nat} {I : Nat → Nat → Int32} {J : Nat → Nat → Int64} {R : Nat → Nat → Nat} {t n r1 r2 r3 r4 r5 r6 : Int32} (hG : aGd R) (c1 : xEv L xs d 59 0 [.ref 3, .int n] [] (124, I, J, R) (some (.int 1)) (124, I, J, R)) (c2 : xEv L xs d 39 0 [.ref 20, .int t] [] (124, I, J, R) (some (.int r1)) (124, I, J, R)) (c3 : xEv L xs d 39 0 [.ref 21, .int t] [] (124, I, J, R) (some (.int r2)) (124, I, J, R)) (c4 : xEv L xs d 39 0 [.ref 47, .int n] [] (124, I, J, R) (some (.int r3)) (124, I, J, R)) (b1 : r3.toInt ≠ r1.toInt) (b2 : r3.toInt = r2.toInt) (b3 : r3.toInt ≠ r1.toInt) (c5 : xEv L xs d 39 0 [.ref 15, .int n] [] (124, I, J, R) (some (.int r4)) (124, I, J, R)) (b4 : ((r4 >>> (r1 &&& 31)) &&& 1).toInt ≠ 1) (c6 : xEv L xs d 60 0 [.ref 44, .ref 3, .int r1, xmk, xmk] [] (124, I, J, R) (some (.int r5)) (124, I, J, R)) (c7 : xEv L xs d 39 0 [.ref 5, .int r1] [] (124, I, J, R) (some (.int r6)) (124, I, J, R)) (b5 : r5.toInt ≥ r6.toInt) : xEv L xs (d + 1) 58 0 [.ref 44, .ref 3, .int t, .int n, xmk, xmk, xmk, xmk] [] (124, I, J, R) (some (.int 0)) (124, I, J, R) := by
  refine ev_go 2 (pc1 := 2) (lv1 := [.ref 44, .ref 3, .int t, .int n, xmk, xmk, xmk, xmk]) (st1 := [.int n, .ref 3]) (h1 := (124, I, J, R)) rfl ?_
  refine ev_call (v1 := (some (.int 1))) (h1 := (124, I, J, R)) rfl rfl c1 ?_
  refine ev_go 2 (pc1 := 11) (lv1 := [.ref 44, .ref 3, .int t, .int n, xmk, xmk, xmk, xmk]) (st1 := [.ref 3]) (h1 := (124, I, J, R)) rfl ?_
  refine ev_gf (c := 3) (t := 17) (X := R 3 13) rfl rfl (fun _ => rfl) rfl (hG 3 13 17 rfl rfl) ?_
  refine ev_gf (c := 17) (t := 20) (X := R 17 2) rfl rfl (fun _ => rfl) rfl (hG 17 2 20 rfl rfl) ?_
  refine ev_go 1 (pc1 := 18) (lv1 := [.ref 44, .ref 3, .int t, .int n, xmk, xmk, xmk, xmk]) (st1 := [.int t, .ref 20]) (h1 := (124, I, J, R)) rfl ?_
  refine ev_call (v1 := (some (.int r1))) (h1 := (124, I, J, R)) rfl rfl c2 ?_
  refine ev_go 2 (pc1 := 24) (lv1 := [.ref 44, .ref 3, .int t, .int n, .int r1, xmk, xmk, xmk]) (st1 := [.ref 3]) (h1 := (124, I, J, R)) rfl ?_
  refine ev_gf (c := 3) (t := 17) (X := R 3 13) rfl rfl (fun _ => rfl) rfl (hG 3 13 17 rfl rfl) ?_
  refine ev_gf (c := 17) (t := 21) (X := R 17 3) rfl rfl (fun _ => rfl) rfl (hG 17 3 21 rfl rfl) ?_
  refine ev_go 1 (pc1 := 31) (lv1 := [.ref 44, .ref 3, .int t, .int n, .int r1, xmk, xmk, xmk]) (st1 := [.int t, .ref 21]) (h1 := (124, I, J, R)) rfl ?_
  refine ev_call (v1 := (some (.int r2))) (h1 := (124, I, J, R)) rfl rfl c3 ?_
  refine ev_go 2 (pc1 := 37) (lv1 := [.ref 44, .ref 3, .int t, .int n, .int r1, .int r2, xmk, xmk]) (st1 := [.ref 44]) (h1 := (124, I, J, R)) rfl ?_
  refine ev_gf (c := 44) (t := 47) (X := R 44 2) rfl rfl (fun _ => rfl) rfl (hG 44 2 47 rfl rfl) ?_
  refine ev_go 1 (pc1 := 41) (lv1 := [.ref 44, .ref 3, .int t, .int n, .int r1, .int r2, xmk, xmk]) (st1 := [.int n, .ref 47]) (h1 := (124, I, J, R)) rfl ?_
  refine ev_call (v1 := (some (.int r3))) (h1 := (124, I, J, R)) rfl rfl c4 ?_
  refine ev_go 3 (pc1 := 50) (lv1 := [.ref 44, .ref 3, .int t, .int n, .int r1, .int r2, .int r3, xmk]) (st1 := [.int r1, .int r3]) (h1 := (124, I, J, R)) rfl ?_
  refine ev_br (b1 := false) rfl rfl (xcd_neq (x := r3) (y := r1) (by first | exact b1 | omega)) ?_
  refine ev_go 2 (pc1 := 57) (lv1 := [.ref 44, .ref 3, .int t, .int n, .int r1, .int r2, .int r3, xmk]) (st1 := [.int r2, .int r3]) (h1 := (124, I, J, R)) rfl ?_
  refine ev_br (b1 := true) rfl rfl (xcd_eq (x := r3) (y := r2) (by first | exact b2 | omega)) ?_
  refine ev_go 2 (pc1 := 66) (lv1 := [.ref 44, .ref 3, .int t, .int n, .int r1, .int r2, .int r3, xmk]) (st1 := [.int r1, .int r3]) (h1 := (124, I, J, R)) rfl ?_
  refine ev_br (b1 := true) rfl rfl (xcd_ne (x := r3) (y := r1) (by first | exact b3 | omega)) ?_
  refine ev_go 3 (pc1 := 79) (lv1 := [.ref 44, .ref 3, .int t, .int n, .int r1, .int r2, .int r3, .int r1]) (st1 := [.ref 3]) (h1 := (124, I, J, R)) rfl ?_
  refine ev_gf (c := 3) (t := 15) (X := R 3 11) rfl rfl (fun _ => rfl) rfl (hG 3 11 15 rfl rfl) ?_
  refine ev_go 1 (pc1 := 83) (lv1 := [.ref 44, .ref 3, .int t, .int n, .int r1, .int r2, .int r3, .int r1]) (st1 := [.int n, .ref 15]) (h1 := (124, I, J, R)) rfl ?_
  refine ev_call (v1 := (some (.int r4))) (h1 := (124, I, J, R)) rfl rfl c5 ?_
  refine ev_go 1 (pc1 := 88) (lv1 := [.ref 44, .ref 3, .int t, .int n, .int r1, .int r2, .int r3, .int r1]) (st1 := [.int r1, .int r4]) (h1 := (124, I, J, R)) rfl ?_
  refine ev_go 4 (pc1 := 92) (lv1 := [.ref 44, .ref 3, .int t, .int n, .int r1, .int r2, .int r3, .int r1]) (st1 := [.int 1, .int ((r4 >>> (r1 &&& 31)) &&& 1)]) (h1 := (124, I, J, R)) rfl ?_
  refine ev_br (b1 := false) rfl rfl (xcd_neq (x := ((r4 >>> (r1 &&& 31)) &&& 1)) (y := 1) (by rw [show ((1 : Int32)).toInt = 1 from by decide]; first | exact b4 | omega)) ?_
  refine ev_go 3 (pc1 := 99) (lv1 := [.ref 44, .ref 3, .int t, .int n, .int r1, .int r2, .int r3, .int r1]) (st1 := [.int r1, .ref 3, .ref 44]) (h1 := (124, I, J, R)) rfl ?_
  refine ev_call (v1 := (some (.int r5))) (h1 := (124, I, J, R)) rfl rfl c6 ?_
  refine ev_go 1 (pc1 := 103) (lv1 := [.ref 44, .ref 3, .int t, .int n, .int r1, .int r2, .int r3, .int r1]) (st1 := [.ref 3, .int r5]) (h1 := (124, I, J, R)) rfl ?_
  refine ev_gf (c := 3) (t := 5) (X := R 3 1) rfl rfl (fun _ => rfl) rfl (hG 3 1 5 rfl rfl) ?_
  refine ev_go 1 (pc1 := 108) (lv1 := [.ref 44, .ref 3, .int t, .int n, .int r1, .int r2, .int r3, .int r1]) (st1 := [.int r1, .ref 5, .int r5]) (h1 := (124, I, J, R)) rfl ?_
  refine ev_call (v1 := (some (.int r6))) (h1 := (124, I, J, R)) rfl rfl c7 ?_
  refine ev_br (b1 := false) rfl rfl (xcd_nlt (x := r5) (y := r6) (by first | exact b5 | omega)) ?_
  refine ev_go 1 (pc1 := 115) (lv1 := [.ref 44, .ref 3, .int t, .int n, .int r1, .int r2, .int r3, .int r1]) (st1 := [.int 0]) (h1 := (124, I, J, R)) rfl ?_
  exact ev_ret rfl rfl
set_option maxRecDepth 20000 in
theorem te_b2_3 {L : Nat} {xs : Nat → Int32} {d : Nat} {I : Nat → Nat → Int32} {J : Nat → Nat → Int64} {R : Nat → Nat → Nat} {t n r1 r2 r3 r4 r5 r6 r7 : Int32} (hG : aGd R) (c1 : xEv L xs d 59 0 [.ref 3, .int n] [] (124, I, J, R) (some (.int 1)) (124, I, J, R)) (c2 : xEv L xs d 39 0 [.ref 20, .int t] [] (124, I, J, R) (some (.int r1)) (124, I, J, R)) (c3 : xEv L xs d 39 0 [.ref 21, .int t] [] (124, I, J, R) (some (.int r2)) (124, I, J, R)) (c4 : xEv L xs d 39 0 [.ref 47, .int n] [] (124, I, J, R) (some (.int r3)) (124, I, J, R)) (b1 : r3.toInt ≠ r1.toInt) (b2 : r3.toInt = r2.toInt) (b3 : r3.toInt ≠ r1.toInt) (c5 : xEv L xs d 39 0 [.ref 15, .int n] [] (124, I, J, R) (some (.int r4)) (124, I, J, R)) (b4 : ((r4 >>> (r1 &&& 31)) &&& 1).toInt ≠ 1) (c6 : xEv L xs d 60 0 [.ref 44, .ref 3, .int r1, xmk, xmk] [] (124, I, J, R) (some (.int r5)) (124, I, J, R)) (c7 : xEv L xs d 39 0 [.ref 5, .int r1] [] (124, I, J, R) (some (.int r6)) (124, I, J, R)) (b5 : r5.toInt < r6.toInt) (c8 : xEv L xs d 33 0 [.ref 47, .int n, .int r1] [] (124, I, J, R) none (124, (uI I 47 n.toNatClampNeg r1), J, R)) (c9 : xEv L xs d 39 0 [.ref 16, .int n] [] (124, (uI I 47 n.toNatClampNeg r1), J, R) (some (.int r7)) (124, (uI I 47 n.toNatClampNeg r1), J, R)) (b6 : t.toInt ≥ r7.toInt) : xEv L xs (d + 1) 58 0 [.ref 44, .ref 3, .int t, .int n, xmk, xmk, xmk, xmk] [] (124, I, J, R) (some (.int 1)) (124, (uI I 47 n.toNatClampNeg r1), J, R) := by
  refine ev_go 2 (pc1 := 2) (lv1 := [.ref 44, .ref 3, .int t, .int n, xmk, xmk, xmk, xmk]) (st1 := [.int n, .ref 3]) (h1 := (124, I, J, R)) rfl ?_
  refine ev_call (v1 := (some (.int 1))) (h1 := (124, I, J, R)) rfl rfl c1 ?_
  refine ev_go 2 (pc1 := 11) (lv1 := [.ref 44, .ref 3, .int t, .int n, xmk, xmk, xmk, xmk]) (st1 := [.ref 3]) (h1 := (124, I, J, R)) rfl ?_
  refine ev_gf (c := 3) (t := 17) (X := R 3 13) rfl rfl (fun _ => rfl) rfl (hG 3 13 17 rfl rfl) ?_
  refine ev_gf (c := 17) (t := 20) (X := R 17 2) rfl rfl (fun _ => rfl) rfl (hG 17 2 20 rfl rfl) ?_
  refine ev_go 1 (pc1 := 18) (lv1 := [.ref 44, .ref 3, .int t, .int n, xmk, xmk, xmk, xmk]) (st1 := [.int t, .ref 20]) (h1 := (124, I, J, R)) rfl ?_
  refine ev_call (v1 := (some (.int r1))) (h1 := (124, I, J, R)) rfl rfl c2 ?_
  refine ev_go 2 (pc1 := 24) (lv1 := [.ref 44, .ref 3, .int t, .int n, .int r1, xmk, xmk, xmk]) (st1 := [.ref 3]) (h1 := (124, I, J, R)) rfl ?_
  refine ev_gf (c := 3) (t := 17) (X := R 3 13) rfl rfl (fun _ => rfl) rfl (hG 3 13 17 rfl rfl) ?_
  refine ev_gf (c := 17) (t := 21) (X := R 17 3) rfl rfl (fun _ => rfl) rfl (hG 17 3 21 rfl rfl) ?_
  refine ev_go 1 (pc1 := 31) (lv1 := [.ref 44, .ref 3, .int t, .int n, .int r1, xmk, xmk, xmk]) (st1 := [.int t, .ref 21]) (h1 := (124, I, J, R)) rfl ?_
  refine ev_call (v1 := (some (.int r2))) (h1 := (124, I, J, R)) rfl rfl c3 ?_
  refine ev_go 2 (pc1 := 37) (lv1 := [.ref 44, .ref 3, .int t, .int n, .int r1, .int r2, xmk, xmk]) (st1 := [.ref 44]) (h1 := (124, I, J, R)) rfl ?_
  refine ev_gf (c := 44) (t := 47) (X := R 44 2) rfl rfl (fun _ => rfl) rfl (hG 44 2 47 rfl rfl) ?_
  refine ev_go 1 (pc1 := 41) (lv1 := [.ref 44, .ref 3, .int t, .int n, .int r1, .int r2, xmk, xmk]) (st1 := [.int n, .ref 47]) (h1 := (124, I, J, R)) rfl ?_
  refine ev_call (v1 := (some (.int r3))) (h1 := (124, I, J, R)) rfl rfl c4 ?_
  refine ev_go 3 (pc1 := 50) (lv1 := [.ref 44, .ref 3, .int t, .int n, .int r1, .int r2, .int r3, xmk]) (st1 := [.int r1, .int r3]) (h1 := (124, I, J, R)) rfl ?_
  refine ev_br (b1 := false) rfl rfl (xcd_neq (x := r3) (y := r1) (by first | exact b1 | omega)) ?_
  refine ev_go 2 (pc1 := 57) (lv1 := [.ref 44, .ref 3, .int t, .int n, .int r1, .int r2, .int r3, xmk]) (st1 := [.int r2, .int r3]) (h1 := (124, I, J, R)) rfl ?_
  refine ev_br (b1 := true) rfl rfl (xcd_eq (x := r3) (y := r2) (by first | exact b2 | omega)) ?_
  refine ev_go 2 (pc1 := 66) (lv1 := [.ref 44, .ref 3, .int t, .int n, .int r1, .int r2, .int r3, xmk]) (st1 := [.int r1, .int r3]) (h1 := (124, I, J, R)) rfl ?_
  refine ev_br (b1 := true) rfl rfl (xcd_ne (x := r3) (y := r1) (by first | exact b3 | omega)) ?_
  refine ev_go 3 (pc1 := 79) (lv1 := [.ref 44, .ref 3, .int t, .int n, .int r1, .int r2, .int r3, .int r1]) (st1 := [.ref 3]) (h1 := (124, I, J, R)) rfl ?_
  refine ev_gf (c := 3) (t := 15) (X := R 3 11) rfl rfl (fun _ => rfl) rfl (hG 3 11 15 rfl rfl) ?_
  refine ev_go 1 (pc1 := 83) (lv1 := [.ref 44, .ref 3, .int t, .int n, .int r1, .int r2, .int r3, .int r1]) (st1 := [.int n, .ref 15]) (h1 := (124, I, J, R)) rfl ?_
  refine ev_call (v1 := (some (.int r4))) (h1 := (124, I, J, R)) rfl rfl c5 ?_
  refine ev_go 1 (pc1 := 88) (lv1 := [.ref 44, .ref 3, .int t, .int n, .int r1, .int r2, .int r3, .int r1]) (st1 := [.int r1, .int r4]) (h1 := (124, I, J, R)) rfl ?_
  refine ev_go 4 (pc1 := 92) (lv1 := [.ref 44, .ref 3, .int t, .int n, .int r1, .int r2, .int r3, .int r1]) (st1 := [.int 1, .int ((r4 >>> (r1 &&& 31)) &&& 1)]) (h1 := (124, I, J, R)) rfl ?_
  refine ev_br (b1 := false) rfl rfl (xcd_neq (x := ((r4 >>> (r1 &&& 31)) &&& 1)) (y := 1) (by rw [show ((1 : Int32)).toInt = 1 from by decide]; first | exact b4 | omega)) ?_
  refine ev_go 3 (pc1 := 99) (lv1 := [.ref 44, .ref 3, .int t, .int n, .int r1, .int r2, .int r3, .int r1]) (st1 := [.int r1, .ref 3, .ref 44]) (h1 := (124, I, J, R)) rfl ?_
  refine ev_call (v1 := (some (.int r5))) (h1 := (124, I, J, R)) rfl rfl c6 ?_
  refine ev_go 1 (pc1 := 103) (lv1 := [.ref 44, .ref 3, .int t, .int n, .int r1, .int r2, .int r3, .int r1]) (st1 := [.ref 3, .int r5]) (h1 := (124, I, J, R)) rfl ?_
  refine ev_gf (c := 3) (t := 5) (X := R 3 1) rfl rfl (fun _ => rfl) rfl (hG 3 1 5 rfl rfl) ?_
  refine ev_go 1 (pc1 := 108) (lv1 := [.ref 44, .ref 3, .int t, .int n, .int r1, .int r2, .int r3, .int r1]) (st1 := [.int r1, .ref 5, .int r5]) (h1 := (124, I, J, R)) rfl ?_
  refine ev_call (v1 := (some (.int r6))) (h1 := (124, I, J, R)) rfl rfl c7 ?_
  refine ev_br (b1 := true) rfl rfl (xcd_lt (x := r5) (y := r6) (by first | exact b5 | omega)) ?_
  refine ev_go 1 (pc1 := 117) (lv1 := [.ref 44, .ref 3, .int t, .int n, .int r1, .int r2, .int r3, .int r1]) (st1 := [.ref 44]) (h1 := (124, I, J, R)) rfl ?_
  refine ev_gf (c := 44) (t := 47) (X := R 44 2) rfl rfl (fun _ => rfl) rfl (hG 44 2 47 rfl rfl) ?_
  refine ev_go 2 (pc1 := 123) (lv1 := [.ref 44, .ref 3, .int t, .int n, .int r1, .int r2, .int r3, .int r1]) (st1 := [.int r1, .int n, .ref 47]) (h1 := (124, I, J, R)) rfl ?_
  refine ev_call (v1 := none) (h1 := (124, (uI I 47 n.toNatClampNeg r1), J, R)) rfl rfl c8 ?_
  refine ev_go 2 (pc1 := 128) (lv1 := [.ref 44, .ref 3, .int t, .int n, .int r1, .int r2, .int r3, .int r1]) (st1 := [.ref 3, .int t]) (h1 := (124, (uI I 47 n.toNatClampNeg r1), J, R)) rfl ?_
  refine ev_gf (c := 3) (t := 16) (X := R 3 12) rfl rfl (fun _ => rfl) rfl (hG 3 12 16 rfl rfl) ?_
  refine ev_go 1 (pc1 := 132) (lv1 := [.ref 44, .ref 3, .int t, .int n, .int r1, .int r2, .int r3, .int r1]) (st1 := [.int n, .ref 16, .int t]) (h1 := (124, (uI I 47 n.toNatClampNeg r1), J, R)) rfl ?_
  refine ev_call (v1 := (some (.int r7))) (h1 := (124, (uI I 47 n.toNatClampNeg r1), J, R)) rfl rfl c9 ?_
  refine ev_br (b1 := true) rfl rfl (xcd_ge (x := t) (y := r7) (by first | exact b6 | omega)) ?_
  refine ev_go 1 (pc1 := 149) (lv1 := [.ref 44, .ref 3, .int t, .int n, .int r1, .int r2, .int r3, .int r1]) (st1 := [.int 1]) (h1 := (124, (uI I 47 n.toNatClampNeg r1), J, R)) rfl ?_
  exact ev_ret rfl rfl
set_option maxRecDepth 20000 in
theorem te_b3_3 {L : Nat} {xs : Nat → Int32} {d : Nat} {I : Nat → Nat → Int32} {J : Nat → Nat → Int64} {R : Nat → Nat → Nat} {t n r1 r2 r3 r4 r5 r6 r7 : Int32} (hG : aGd R) (c1 : xEv L xs d 59 0 [.ref 3, .int n] [] (124, I, J, R) (some (.int 1)) (124, I, J, R)) (c2 : xEv L xs d 39 0 [.ref 20, .int t] [] (124, I, J, R) (some (.int r1)) (124, I, J, R)) (c3 : xEv L xs d 39 0 [.ref 21, .int t] [] (124, I, J, R) (some (.int r2)) (124, I, J, R)) (c4 : xEv L xs d 39 0 [.ref 47, .int n] [] (124, I, J, R) (some (.int r3)) (124, I, J, R)) (b1 : r3.toInt ≠ r1.toInt) (b2 : r3.toInt = r2.toInt) (b3 : r3.toInt ≠ r1.toInt) (c5 : xEv L xs d 39 0 [.ref 15, .int n] [] (124, I, J, R) (some (.int r4)) (124, I, J, R)) (b4 : ((r4 >>> (r1 &&& 31)) &&& 1).toInt ≠ 1) (c6 : xEv L xs d 60 0 [.ref 44, .ref 3, .int r1, xmk, xmk] [] (124, I, J, R) (some (.int r5)) (124, I, J, R)) (c7 : xEv L xs d 39 0 [.ref 5, .int r1] [] (124, I, J, R) (some (.int r6)) (124, I, J, R)) (b5 : r5.toInt < r6.toInt) (c8 : xEv L xs d 33 0 [.ref 47, .int n, .int r1] [] (124, I, J, R) none (124, (uI I 47 n.toNatClampNeg r1), J, R)) (c9 : xEv L xs d 39 0 [.ref 16, .int n] [] (124, (uI I 47 n.toNatClampNeg r1), J, R) (some (.int r7)) (124, (uI I 47 n.toNatClampNeg r1), J, R)) (b6 : t.toInt < r7.toInt) (c10 : xEv L xs d 33 0 [.ref 48, .int n, .int r1] [] (124, (uI I 47 n.toNatClampNeg r1), J, R) none (124, (uI (uI I 47 n.toNatClampNeg r1) 48 n.toNatClampNeg r1), J, R)) : xEv L xs (d + 1) 58 0 [.ref 44, .ref 3, .int t, .int n, xmk, xmk, xmk, xmk] [] (124, I, J, R) (some (.int 1)) (124, (uI (uI I 47 n.toNatClampNeg r1) 48 n.toNatClampNeg r1), J, R) := by
  refine ev_go 2 (pc1 := 2) (lv1 := [.ref 44, .ref 3, .int t, .int n, xmk, xmk, xmk, xmk]) (st1 := [.int n, .ref 3]) (h1 := (124, I, J, R)) rfl ?_
  refine ev_call (v1 := (some (.int 1))) (h1 := (124, I, J, R)) rfl rfl c1 ?_
  refine ev_go 2 (pc1 := 11) (lv1 := [.ref 44, .ref 3, .int t, .int n, xmk, xmk, xmk, xmk]) (st1 := [.ref 3]) (h1 := (124, I, J, R)) rfl ?_
  refine ev_gf (c := 3) (t := 17) (X := R 3 13) rfl rfl (fun _ => rfl) rfl (hG 3 13 17 rfl rfl) ?_
  refine ev_gf (c := 17) (t := 20) (X := R 17 2) rfl rfl (fun _ => rfl) rfl (hG 17 2 20 rfl rfl) ?_
  refine ev_go 1 (pc1 := 18) (lv1 := [.ref 44, .ref 3, .int t, .int n, xmk, xmk, xmk, xmk]) (st1 := [.int t, .ref 20]) (h1 := (124, I, J, R)) rfl ?_
  refine ev_call (v1 := (some (.int r1))) (h1 := (124, I, J, R)) rfl rfl c2 ?_
  refine ev_go 2 (pc1 := 24) (lv1 := [.ref 44, .ref 3, .int t, .int n, .int r1, xmk, xmk, xmk]) (st1 := [.ref 3]) (h1 := (124, I, J, R)) rfl ?_
  refine ev_gf (c := 3) (t := 17) (X := R 3 13) rfl rfl (fun _ => rfl) rfl (hG 3 13 17 rfl rfl) ?_
  refine ev_gf (c := 17) (t := 21) (X := R 17 3) rfl rfl (fun _ => rfl) rfl (hG 17 3 21 rfl rfl) ?_
  refine ev_go 1 (pc1 := 31) (lv1 := [.ref 44, .ref 3, .int t, .int n, .int r1, xmk, xmk, xmk]) (st1 := [.int t, .ref 21]) (h1 := (124, I, J, R)) rfl ?_
  refine ev_call (v1 := (some (.int r2))) (h1 := (124, I, J, R)) rfl rfl c3 ?_
  refine ev_go 2 (pc1 := 37) (lv1 := [.ref 44, .ref 3, .int t, .int n, .int r1, .int r2, xmk, xmk]) (st1 := [.ref 44]) (h1 := (124, I, J, R)) rfl ?_
  refine ev_gf (c := 44) (t := 47) (X := R 44 2) rfl rfl (fun _ => rfl) rfl (hG 44 2 47 rfl rfl) ?_
  refine ev_go 1 (pc1 := 41) (lv1 := [.ref 44, .ref 3, .int t, .int n, .int r1, .int r2, xmk, xmk]) (st1 := [.int n, .ref 47]) (h1 := (124, I, J, R)) rfl ?_
  refine ev_call (v1 := (some (.int r3))) (h1 := (124, I, J, R)) rfl rfl c4 ?_
  refine ev_go 3 (pc1 := 50) (lv1 := [.ref 44, .ref 3, .int t, .int n, .int r1, .int r2, .int r3, xmk]) (st1 := [.int r1, .int r3]) (h1 := (124, I, J, R)) rfl ?_
  refine ev_br (b1 := false) rfl rfl (xcd_neq (x := r3) (y := r1) (by first | exact b1 | omega)) ?_
  refine ev_go 2 (pc1 := 57) (lv1 := [.ref 44, .ref 3, .int t, .int n, .int r1, .int r2, .int r3, xmk]) (st1 := [.int r2, .int r3]) (h1 := (124, I, J, R)) rfl ?_
  refine ev_br (b1 := true) rfl rfl (xcd_eq (x := r3) (y := r2) (by first | exact b2 | omega)) ?_
  refine ev_go 2 (pc1 := 66) (lv1 := [.ref 44, .ref 3, .int t, .int n, .int r1, .int r2, .int r3, xmk]) (st1 := [.int r1, .int r3]) (h1 := (124, I, J, R)) rfl ?_
  refine ev_br (b1 := true) rfl rfl (xcd_ne (x := r3) (y := r1) (by first | exact b3 | omega)) ?_
  refine ev_go 3 (pc1 := 79) (lv1 := [.ref 44, .ref 3, .int t, .int n, .int r1, .int r2, .int r3, .int r1]) (st1 := [.ref 3]) (h1 := (124, I, J, R)) rfl ?_
  refine ev_gf (c := 3) (t := 15) (X := R 3 11) rfl rfl (fun _ => rfl) rfl (hG 3 11 15 rfl rfl) ?_
  refine ev_go 1 (pc1 := 83) (lv1 := [.ref 44, .ref 3, .int t, .int n, .int r1, .int r2, .int r3, .int r1]) (st1 := [.int n, .ref 15]) (h1 := (124, I, J, R)) rfl ?_
  refine ev_call (v1 := (some (.int r4))) (h1 := (124, I, J, R)) rfl rfl c5 ?_
  refine ev_go 1 (pc1 := 88) (lv1 := [.ref 44, .ref 3, .int t, .int n, .int r1, .int r2, .int r3, .int r1]) (st1 := [.int r1, .int r4]) (h1 := (124, I, J, R)) rfl ?_
  refine ev_go 4 (pc1 := 92) (lv1 := [.ref 44, .ref 3, .int t, .int n, .int r1, .int r2, .int r3, .int r1]) (st1 := [.int 1, .int ((r4 >>> (r1 &&& 31)) &&& 1)]) (h1 := (124, I, J, R)) rfl ?_
  refine ev_br (b1 := false) rfl rfl (xcd_neq (x := ((r4 >>> (r1 &&& 31)) &&& 1)) (y := 1) (by rw [show ((1 : Int32)).toInt = 1 from by decide]; first | exact b4 | omega)) ?_
  refine ev_go 3 (pc1 := 99) (lv1 := [.ref 44, .ref 3, .int t, .int n, .int r1, .int r2, .int r3, .int r1]) (st1 := [.int r1, .ref 3, .ref 44]) (h1 := (124, I, J, R)) rfl ?_
  refine ev_call (v1 := (some (.int r5))) (h1 := (124, I, J, R)) rfl rfl c6 ?_
  refine ev_go 1 (pc1 := 103) (lv1 := [.ref 44, .ref 3, .int t, .int n, .int r1, .int r2, .int r3, .int r1]) (st1 := [.ref 3, .int r5]) (h1 := (124, I, J, R)) rfl ?_
  refine ev_gf (c := 3) (t := 5) (X := R 3 1) rfl rfl (fun _ => rfl) rfl (hG 3 1 5 rfl rfl) ?_
  refine ev_go 1 (pc1 := 108) (lv1 := [.ref 44, .ref 3, .int t, .int n, .int r1, .int r2, .int r3, .int r1]) (st1 := [.int r1, .ref 5, .int r5]) (h1 := (124, I, J, R)) rfl ?_
  refine ev_call (v1 := (some (.int r6))) (h1 := (124, I, J, R)) rfl rfl c7 ?_
  refine ev_br (b1 := true) rfl rfl (xcd_lt (x := r5) (y := r6) (by first | exact b5 | omega)) ?_
  refine ev_go 1 (pc1 := 117) (lv1 := [.ref 44, .ref 3, .int t, .int n, .int r1, .int r2, .int r3, .int r1]) (st1 := [.ref 44]) (h1 := (124, I, J, R)) rfl ?_
  refine ev_gf (c := 44) (t := 47) (X := R 44 2) rfl rfl (fun _ => rfl) rfl (hG 44 2 47 rfl rfl) ?_
  refine ev_go 2 (pc1 := 123) (lv1 := [.ref 44, .ref 3, .int t, .int n, .int r1, .int r2, .int r3, .int r1]) (st1 := [.int r1, .int n, .ref 47]) (h1 := (124, I, J, R)) rfl ?_
  refine ev_call (v1 := none) (h1 := (124, (uI I 47 n.toNatClampNeg r1), J, R)) rfl rfl c8 ?_
  refine ev_go 2 (pc1 := 128) (lv1 := [.ref 44, .ref 3, .int t, .int n, .int r1, .int r2, .int r3, .int r1]) (st1 := [.ref 3, .int t]) (h1 := (124, (uI I 47 n.toNatClampNeg r1), J, R)) rfl ?_
  refine ev_gf (c := 3) (t := 16) (X := R 3 12) rfl rfl (fun _ => rfl) rfl (hG 3 12 16 rfl rfl) ?_
  refine ev_go 1 (pc1 := 132) (lv1 := [.ref 44, .ref 3, .int t, .int n, .int r1, .int r2, .int r3, .int r1]) (st1 := [.int n, .ref 16, .int t]) (h1 := (124, (uI I 47 n.toNatClampNeg r1), J, R)) rfl ?_
  refine ev_call (v1 := (some (.int r7))) (h1 := (124, (uI I 47 n.toNatClampNeg r1), J, R)) rfl rfl c9 ?_
  refine ev_br (b1 := false) rfl rfl (xcd_nge (x := t) (y := r7) (by first | exact b6 | omega)) ?_
  refine ev_go 1 (pc1 := 139) (lv1 := [.ref 44, .ref 3, .int t, .int n, .int r1, .int r2, .int r3, .int r1]) (st1 := [.ref 44]) (h1 := (124, (uI I 47 n.toNatClampNeg r1), J, R)) rfl ?_
  refine ev_gf (c := 44) (t := 48) (X := R 44 3) rfl rfl (fun _ => rfl) rfl (hG 44 3 48 rfl rfl) ?_
  refine ev_go 2 (pc1 := 145) (lv1 := [.ref 44, .ref 3, .int t, .int n, .int r1, .int r2, .int r3, .int r1]) (st1 := [.int r1, .int n, .ref 48]) (h1 := (124, (uI I 47 n.toNatClampNeg r1), J, R)) rfl ?_
  refine ev_call (v1 := none) (h1 := (124, (uI (uI I 47 n.toNatClampNeg r1) 48 n.toNatClampNeg r1), J, R)) rfl rfl c10 ?_
  refine ev_go 1 (pc1 := 149) (lv1 := [.ref 44, .ref 3, .int t, .int n, .int r1, .int r2, .int r3, .int r1]) (st1 := [.int 1]) (h1 := (124, (uI (uI I 47 n.toNatClampNeg r1) 48 n.toNatClampNeg r1), J, R)) rfl ?_
  exact ev_ret rfl rfl
set_option maxRecDepth 20000 in
theorem ti_a_3 {L : Nat} {xs : Nat → Int32} {d : Nat} {I : Nat → Nat → Int32} {J : Nat → Nat → Int64} {R : Nat → Nat → Nat} {i r1 : Int32} (hG : aGd R) (c1 : xEv L xs d 39 0 [.ref 45, .int i] [] (124, I, J, R) (some (.int r1)) (124, I, J, R)) (b1 : r1.toInt ≥ (I 17 5).toInt) : xEv L xs (d + 1) 57 0 [.ref 44, .int i, .ref 3, xmk] [] (124, I, J, R) (some (.int 0)) (124, I, J, R) := by
  refine ev_go 1 (pc1 := 1) (lv1 := [.ref 44, .int i, .ref 3, xmk]) (st1 := [.ref 44]) (h1 := (124, I, J, R)) rfl ?_
  refine ev_gf (c := 44) (t := 45) (X := R 44 0) rfl rfl (fun _ => rfl) rfl (hG 44 0 45 rfl rfl) ?_
  refine ev_go 1 (pc1 := 5) (lv1 := [.ref 44, .int i, .ref 3, xmk]) (st1 := [.int i, .ref 45]) (h1 := (124, I, J, R)) rfl ?_
  refine ev_call (v1 := (some (.int r1))) (h1 := (124, I, J, R)) rfl rfl c1 ?_
  refine ev_go 3 (pc1 := 11) (lv1 := [.ref 44, .int i, .ref 3, .int r1]) (st1 := [.ref 3, .int r1]) (h1 := (124, I, J, R)) rfl ?_
  refine ev_gf (c := 3) (t := 17) (X := R 3 13) rfl rfl (fun _ => rfl) rfl (hG 3 13 17 rfl rfl) ?_
  refine ev_go 1 (pc1 := 17) (lv1 := [.ref 44, .int i, .ref 3, .int r1]) (st1 := [.int (I 17 5), .int r1]) (h1 := (124, I, J, R)) rfl ?_
  refine ev_br (b1 := true) rfl rfl (xcd_ge (x := r1) (y := (I 17 5)) (by first | exact b1 | omega)) ?_
  refine ev_go 1 (pc1 := 43) (lv1 := [.ref 44, .int i, .ref 3, .int r1]) (st1 := [.int 0]) (h1 := (124, I, J, R)) rfl ?_
  exact ev_ret rfl rfl
set_option maxRecDepth 20000 in
theorem ti_0_3 {L : Nat} {xs : Nat → Int32} {d : Nat} {I : Nat → Nat → Int32} {J : Nat → Nat → Int64} {R : Nat → Nat → Nat} {i r1 : Int32} (hG : aGd R) (c1 : xEv L xs d 39 0 [.ref 45, .int i] [] (124, I, J, R) (some (.int r1)) (124, I, J, R)) (b1 : r1.toInt < (I 17 5).toInt) (b2 : i.toInt = 0) : xEv L xs (d + 1) 57 0 [.ref 44, .int i, .ref 3, xmk] [] (124, I, J, R) (some (.int 1)) (124, I, J, R) := by
  refine ev_go 1 (pc1 := 1) (lv1 := [.ref 44, .int i, .ref 3, xmk]) (st1 := [.ref 44]) (h1 := (124, I, J, R)) rfl ?_
  refine ev_gf (c := 44) (t := 45) (X := R 44 0) rfl rfl (fun _ => rfl) rfl (hG 44 0 45 rfl rfl) ?_
  refine ev_go 1 (pc1 := 5) (lv1 := [.ref 44, .int i, .ref 3, xmk]) (st1 := [.int i, .ref 45]) (h1 := (124, I, J, R)) rfl ?_
  refine ev_call (v1 := (some (.int r1))) (h1 := (124, I, J, R)) rfl rfl c1 ?_
  refine ev_go 3 (pc1 := 11) (lv1 := [.ref 44, .int i, .ref 3, .int r1]) (st1 := [.ref 3, .int r1]) (h1 := (124, I, J, R)) rfl ?_
  refine ev_gf (c := 3) (t := 17) (X := R 3 13) rfl rfl (fun _ => rfl) rfl (hG 3 13 17 rfl rfl) ?_
  refine ev_go 1 (pc1 := 17) (lv1 := [.ref 44, .int i, .ref 3, .int r1]) (st1 := [.int (I 17 5), .int r1]) (h1 := (124, I, J, R)) rfl ?_
  refine ev_br (b1 := false) rfl rfl (xcd_nge (x := r1) (y := (I 17 5)) (by first | exact b1 | omega)) ?_
  refine ev_go 1 (pc1 := 21) (lv1 := [.ref 44, .int i, .ref 3, .int r1]) (st1 := [.int i]) (h1 := (124, I, J, R)) rfl ?_
  refine ev_br (b1 := true) rfl rfl (xcd_eq (x := i) (y := 0) (by rw [show ((0 : Int32)).toInt = 0 from by decide]; first | exact b2 | omega)) ?_
  refine ev_go 2 (pc1 := 43) (lv1 := [.ref 44, .int i, .ref 3, .int r1]) (st1 := [.int 1]) (h1 := (124, I, J, R)) rfl ?_
  exact ev_ret rfl rfl
set_option maxRecDepth 20000 in
theorem ti_1_3 {L : Nat} {xs : Nat → Int32} {d : Nat} {I : Nat → Nat → Int32} {J : Nat → Nat → Int64} {R : Nat → Nat → Nat} {i r1 r2 : Int32} (hG : aGd R) (c1 : xEv L xs d 39 0 [.ref 45, .int i] [] (124, I, J, R) (some (.int r1)) (124, I, J, R)) (b1 : r1.toInt < (I 17 5).toInt) (b2 : i.toInt ≠ 0) (c2 : xEv L xs d 39 0 [.ref 45, .int (i - 1)] [] (124, I, J, R) (some (.int r2)) (124, I, J, R)) (b3 : r1.toInt < r2.toInt) : xEv L xs (d + 1) 57 0 [.ref 44, .int i, .ref 3, xmk] [] (124, I, J, R) (some (.int 0)) (124, I, J, R) := by
  refine ev_go 1 (pc1 := 1) (lv1 := [.ref 44, .int i, .ref 3, xmk]) (st1 := [.ref 44]) (h1 := (124, I, J, R)) rfl ?_
  refine ev_gf (c := 44) (t := 45) (X := R 44 0) rfl rfl (fun _ => rfl) rfl (hG 44 0 45 rfl rfl) ?_
  refine ev_go 1 (pc1 := 5) (lv1 := [.ref 44, .int i, .ref 3, xmk]) (st1 := [.int i, .ref 45]) (h1 := (124, I, J, R)) rfl ?_
  refine ev_call (v1 := (some (.int r1))) (h1 := (124, I, J, R)) rfl rfl c1 ?_
  refine ev_go 3 (pc1 := 11) (lv1 := [.ref 44, .int i, .ref 3, .int r1]) (st1 := [.ref 3, .int r1]) (h1 := (124, I, J, R)) rfl ?_
  refine ev_gf (c := 3) (t := 17) (X := R 3 13) rfl rfl (fun _ => rfl) rfl (hG 3 13 17 rfl rfl) ?_
  refine ev_go 1 (pc1 := 17) (lv1 := [.ref 44, .int i, .ref 3, .int r1]) (st1 := [.int (I 17 5), .int r1]) (h1 := (124, I, J, R)) rfl ?_
  refine ev_br (b1 := false) rfl rfl (xcd_nge (x := r1) (y := (I 17 5)) (by first | exact b1 | omega)) ?_
  refine ev_go 1 (pc1 := 21) (lv1 := [.ref 44, .int i, .ref 3, .int r1]) (st1 := [.int i]) (h1 := (124, I, J, R)) rfl ?_
  refine ev_br (b1 := false) rfl rfl (xcd_neq (x := i) (y := 0) (by rw [show ((0 : Int32)).toInt = 0 from by decide]; first | exact b2 | omega)) ?_
  refine ev_go 2 (pc1 := 26) (lv1 := [.ref 44, .int i, .ref 3, .int r1]) (st1 := [.ref 44, .int r1]) (h1 := (124, I, J, R)) rfl ?_
  refine ev_gf (c := 44) (t := 45) (X := R 44 0) rfl rfl (fun _ => rfl) rfl (hG 44 0 45 rfl rfl) ?_
  refine ev_go 3 (pc1 := 32) (lv1 := [.ref 44, .int i, .ref 3, .int r1]) (st1 := [.int (i - 1), .ref 45, .int r1]) (h1 := (124, I, J, R)) rfl ?_
  refine ev_call (v1 := (some (.int r2))) (h1 := (124, I, J, R)) rfl rfl c2 ?_
  refine ev_br (b1 := true) rfl rfl (xcd_lt (x := r1) (y := r2) (by first | exact b3 | omega)) ?_
  refine ev_go 1 (pc1 := 43) (lv1 := [.ref 44, .int i, .ref 3, .int r1]) (st1 := [.int 0]) (h1 := (124, I, J, R)) rfl ?_
  exact ev_ret rfl rfl
set_option maxRecDepth 20000 in
theorem ti_2_3 {L : Nat} {xs : Nat → Int32} {d : Nat} {I : Nat → Nat → Int32} {J : Nat → Nat → Int64} {R : Nat → Nat → Nat} {i r1 r2 : Int32} (hG : aGd R) (c1 : xEv L xs d 39 0 [.ref 45, .int i] [] (124, I, J, R) (some (.int r1)) (124, I, J, R)) (b1 : r1.toInt < (I 17 5).toInt) (b2 : i.toInt ≠ 0) (c2 : xEv L xs d 39 0 [.ref 45, .int (i - 1)] [] (124, I, J, R) (some (.int r2)) (124, I, J, R)) (b3 : r1.toInt ≥ r2.toInt) : xEv L xs (d + 1) 57 0 [.ref 44, .int i, .ref 3, xmk] [] (124, I, J, R) (some (.int 1)) (124, I, J, R) := by
  refine ev_go 1 (pc1 := 1) (lv1 := [.ref 44, .int i, .ref 3, xmk]) (st1 := [.ref 44]) (h1 := (124, I, J, R)) rfl ?_
  refine ev_gf (c := 44) (t := 45) (X := R 44 0) rfl rfl (fun _ => rfl) rfl (hG 44 0 45 rfl rfl) ?_
  refine ev_go 1 (pc1 := 5) (lv1 := [.ref 44, .int i, .ref 3, xmk]) (st1 := [.int i, .ref 45]) (h1 := (124, I, J, R)) rfl ?_
  refine ev_call (v1 := (some (.int r1))) (h1 := (124, I, J, R)) rfl rfl c1 ?_
  refine ev_go 3 (pc1 := 11) (lv1 := [.ref 44, .int i, .ref 3, .int r1]) (st1 := [.ref 3, .int r1]) (h1 := (124, I, J, R)) rfl ?_
  refine ev_gf (c := 3) (t := 17) (X := R 3 13) rfl rfl (fun _ => rfl) rfl (hG 3 13 17 rfl rfl) ?_
  refine ev_go 1 (pc1 := 17) (lv1 := [.ref 44, .int i, .ref 3, .int r1]) (st1 := [.int (I 17 5), .int r1]) (h1 := (124, I, J, R)) rfl ?_
  refine ev_br (b1 := false) rfl rfl (xcd_nge (x := r1) (y := (I 17 5)) (by first | exact b1 | omega)) ?_
  refine ev_go 1 (pc1 := 21) (lv1 := [.ref 44, .int i, .ref 3, .int r1]) (st1 := [.int i]) (h1 := (124, I, J, R)) rfl ?_
  refine ev_br (b1 := false) rfl rfl (xcd_neq (x := i) (y := 0) (by rw [show ((0 : Int32)).toInt = 0 from by decide]; first | exact b2 | omega)) ?_
  refine ev_go 2 (pc1 := 26) (lv1 := [.ref 44, .int i, .ref 3, .int r1]) (st1 := [.ref 44, .int r1]) (h1 := (124, I, J, R)) rfl ?_
  refine ev_gf (c := 44) (t := 45) (X := R 44 0) rfl rfl (fun _ => rfl) rfl (hG 44 0 45 rfl rfl) ?_
  refine ev_go 3 (pc1 := 32) (lv1 := [.ref 44, .int i, .ref 3, .int r1]) (st1 := [.int (i - 1), .ref 45, .int r1]) (h1 := (124, I, J, R)) rfl ?_
  refine ev_call (v1 := (some (.int r2))) (h1 := (124, I, J, R)) rfl rfl c2 ?_
  refine ev_br (b1 := false) rfl rfl (xcd_nlt (x := r1) (y := r2) (by first | exact b3 | omega)) ?_
  refine ev_go 2 (pc1 := 43) (lv1 := [.ref 44, .int i, .ref 3, .int r1]) (st1 := [.int 1]) (h1 := (124, I, J, R)) rfl ?_
  exact ev_ret rfl rfl
set_option maxRecDepth 20000 in
theorem da_s_3 {L : Nat} {xs : Nat → Int32} {d : Nat} {I : Nat → Nat → Int32} {J : Nat → Nat → Int64} {R : Nat → Nat → Nat} (hG : aGd R)  {v : Option Value} {h' : xH} (hk : xEv L xs d 56 7 [.ref 44, .ref 3, .int 0] [] (124, (uI I 44 5 1), J, R) v h') : xEv L xs d 56 0 [.ref 44, .ref 3, xmk] [] (124, I, J, R) v h' := by
  refine ev_go 5 (pc1 := 7) (lv1 := [.ref 44, .ref 3, .int 0]) (st1 := []) (h1 := (124, (uI I 44 5 1), J, R)) rfl ?_
  exact hk
set_option maxRecDepth 20000 in
theorem da_a_3 {L : Nat} {xs : Nat → Int32} {d : Nat} {I : Nat → Nat → Int32} {J : Nat → Nat → Int64} {R : Nat → Nat → Nat} {i r1 r2 : Int32} (hG : aGd R) (b1 : i.toInt < (I 3 16).toInt) (c1 : xEv L xs d 39 0 [.ref 11, .int i] [] (124, I, J, R) (some (.int r1)) (124, I, J, R)) (c2 : xEv L xs d 33 0 [.ref 47, .int i, .int r1] [] (124, I, J, R) none (124, (uI I 47 i.toNatClampNeg r1), J, R)) (c3 : xEv L xs d 39 0 [.ref 11, .int i] [] (124, (uI I 47 i.toNatClampNeg r1), J, R) (some (.int r2)) (124, (uI I 47 i.toNatClampNeg r1), J, R)) (c4 : xEv L xs d 33 0 [.ref 48, .int i, .int r2] [] (124, (uI I 47 i.toNatClampNeg r1), J, R) none (124, (uI (uI I 47 i.toNatClampNeg r1) 48 i.toNatClampNeg r2), J, R)) {v : Option Value} {h' : xH} (hk : xEv L xs (d + 1) 56 7 [.ref 44, .ref 3, .int (i + 1)] [] (124, (uI (uI I 47 i.toNatClampNeg r1) 48 i.toNatClampNeg r2), J, R) v h') : xEv L xs (d + 1) 56 7 [.ref 44, .ref 3, .int i] [] (124, I, J, R) v h' := by
  refine ev_go 3 (pc1 := 12) (lv1 := [.ref 44, .ref 3, .int i]) (st1 := [.int (I 3 16), .int i]) (h1 := (124, I, J, R)) rfl ?_
  refine ev_br (b1 := false) rfl rfl (xcd_nge (x := i) (y := (I 3 16)) (by first | exact b1 | omega)) ?_
  refine ev_go 1 (pc1 := 16) (lv1 := [.ref 44, .ref 3, .int i]) (st1 := [.ref 44]) (h1 := (124, I, J, R)) rfl ?_
  refine ev_gf (c := 44) (t := 47) (X := R 44 2) rfl rfl (fun _ => rfl) rfl (hG 44 2 47 rfl rfl) ?_
  refine ev_go 2 (pc1 := 21) (lv1 := [.ref 44, .ref 3, .int i]) (st1 := [.ref 3, .int i, .ref 47]) (h1 := (124, I, J, R)) rfl ?_
  refine ev_gf (c := 3) (t := 11) (X := R 3 7) rfl rfl (fun _ => rfl) rfl (hG 3 7 11 rfl rfl) ?_
  refine ev_go 1 (pc1 := 25) (lv1 := [.ref 44, .ref 3, .int i]) (st1 := [.int i, .ref 11, .int i, .ref 47]) (h1 := (124, I, J, R)) rfl ?_
  refine ev_call (v1 := (some (.int r1))) (h1 := (124, I, J, R)) rfl rfl c1 ?_
  refine ev_call (v1 := none) (h1 := (124, (uI I 47 i.toNatClampNeg r1), J, R)) rfl rfl c2 ?_
  refine ev_go 1 (pc1 := 32) (lv1 := [.ref 44, .ref 3, .int i]) (st1 := [.ref 44]) (h1 := (124, (uI I 47 i.toNatClampNeg r1), J, R)) rfl ?_
  refine ev_gf (c := 44) (t := 48) (X := R 44 3) rfl rfl (fun _ => rfl) rfl (hG 44 3 48 rfl rfl) ?_
  refine ev_go 2 (pc1 := 37) (lv1 := [.ref 44, .ref 3, .int i]) (st1 := [.ref 3, .int i, .ref 48]) (h1 := (124, (uI I 47 i.toNatClampNeg r1), J, R)) rfl ?_
  refine ev_gf (c := 3) (t := 11) (X := R 3 7) rfl rfl (fun _ => rfl) rfl (hG 3 7 11 rfl rfl) ?_
  refine ev_go 1 (pc1 := 41) (lv1 := [.ref 44, .ref 3, .int i]) (st1 := [.int i, .ref 11, .int i, .ref 48]) (h1 := (124, (uI I 47 i.toNatClampNeg r1), J, R)) rfl ?_
  refine ev_call (v1 := (some (.int r2))) (h1 := (124, (uI I 47 i.toNatClampNeg r1), J, R)) rfl rfl c3 ?_
  refine ev_call (v1 := none) (h1 := (124, (uI (uI I 47 i.toNatClampNeg r1) 48 i.toNatClampNeg r2), J, R)) rfl rfl c4 ?_
  refine ev_go 2 (pc1 := 7) (lv1 := [.ref 44, .ref 3, .int (i + 1)]) (st1 := []) (h1 := (124, (uI (uI I 47 i.toNatClampNeg r1) 48 i.toNatClampNeg r2), J, R)) rfl ?_
  exact hk
set_option maxRecDepth 20000 in
theorem da_b_3 {L : Nat} {xs : Nat → Int32} {d : Nat} {I : Nat → Nat → Int32} {J : Nat → Nat → Int64} {R : Nat → Nat → Nat} {i : Int32} (hG : aGd R) (b1 : i.toInt ≥ (I 3 16).toInt) {v : Option Value} {h' : xH} (hk : xEv L xs d 56 55 [.ref 44, .ref 3, .int 0] [] (124, I, J, R) v h') : xEv L xs d 56 7 [.ref 44, .ref 3, .int i] [] (124, I, J, R) v h' := by
  refine ev_go 3 (pc1 := 12) (lv1 := [.ref 44, .ref 3, .int i]) (st1 := [.int (I 3 16), .int i]) (h1 := (124, I, J, R)) rfl ?_
  refine ev_br (b1 := true) rfl rfl (xcd_ge (x := i) (y := (I 3 16)) (by first | exact b1 | omega)) ?_
  refine ev_go 2 (pc1 := 55) (lv1 := [.ref 44, .ref 3, .int 0]) (st1 := []) (h1 := (124, I, J, R)) rfl ?_
  exact hk
set_option maxRecDepth 20000 in
theorem da_e_3 {L : Nat} {xs : Nat → Int32} {d : Nat} {I : Nat → Nat → Int32} {J : Nat → Nat → Int64} {R : Nat → Nat → Nat} {i : Int32} (hG : aGd R) (b1 : i.toInt ≥ (I 44 4).toInt) : xEv L xs d 56 55 [.ref 44, .ref 3, .int i] [] (124, I, J, R) (some (.int (I 44 4))) (124, I, J, R) := by
  refine ev_go 3 (pc1 := 60) (lv1 := [.ref 44, .ref 3, .int i]) (st1 := [.int (I 44 4), .int i]) (h1 := (124, I, J, R)) rfl ?_
  refine ev_br (b1 := true) rfl rfl (xcd_ge (x := i) (y := (I 44 4)) (by first | exact b1 | omega)) ?_
  refine ev_go 2 (pc1 := 108) (lv1 := [.ref 44, .ref 3, .int i]) (st1 := [.int (I 44 4)]) (h1 := (124, I, J, R)) rfl ?_
  exact ev_ret rfl rfl
set_option maxRecDepth 20000 in
theorem da_t_3 {L : Nat} {xs : Nat → Int32} {d : Nat} {I : Nat → Nat → Int32} {J : Nat → Nat → Int64} {R : Nat → Nat → Nat} {i : Int32} (hG : aGd R) (b1 : i.toInt < (I 44 4).toInt) (c1 : xEv L xs d 57 0 [.ref 44, .int i, .ref 3, xmk] [] (124, I, J, R) (some (.int 0)) (124, I, J, R)) : xEv L xs (d + 1) 56 55 [.ref 44, .ref 3, .int i] [] (124, I, J, R) (some (.int i)) (124, I, J, R) := by
  refine ev_go 3 (pc1 := 60) (lv1 := [.ref 44, .ref 3, .int i]) (st1 := [.int (I 44 4), .int i]) (h1 := (124, I, J, R)) rfl ?_
  refine ev_br (b1 := false) rfl rfl (xcd_nge (x := i) (y := (I 44 4)) (by first | exact b1 | omega)) ?_
  refine ev_go 3 (pc1 := 66) (lv1 := [.ref 44, .ref 3, .int i]) (st1 := [.ref 3, .int i, .ref 44]) (h1 := (124, I, J, R)) rfl ?_
  refine ev_call (v1 := (some (.int 0))) (h1 := (124, I, J, R)) rfl rfl c1 ?_
  refine ev_go 2 (pc1 := 97) (lv1 := [.ref 44, .ref 3, .int i]) (st1 := [.int i]) (h1 := (124, I, J, R)) rfl ?_
  exact ev_ret rfl rfl
set_option maxRecDepth 20000 in
theorem da_f_3 {L : Nat} {xs : Nat → Int32} {d : Nat} {I : Nat → Nat → Int32} {J : Nat → Nat → Int64} {R : Nat → Nat → Nat} {i r1 r2 : Int32} (hG : aGd R) (b1 : i.toInt < (I 44 4).toInt) (c1 : xEv L xs d 57 0 [.ref 44, .int i, .ref 3, xmk] [] (124, I, J, R) (some (.int 1)) (124, I, J, R)) (c2 : xEv L xs d 39 0 [.ref 45, .int i] [] (124, I, J, R) (some (.int r1)) (124, I, J, R)) (c3 : xEv L xs d 39 0 [.ref 46, .int i] [] (124, I, J, R) (some (.int r2)) (124, I, J, R)) (c4 : xEv L xs d 58 0 [.ref 44, .ref 3, .int r1, .int r2, xmk, xmk, xmk, xmk] [] (124, I, J, R) (some (.int 0)) (124, I, J, R)) : xEv L xs (d + 1) 56 55 [.ref 44, .ref 3, .int i] [] (124, I, J, R) (some (.int i)) (124, I, J, R) := by
  refine ev_go 3 (pc1 := 60) (lv1 := [.ref 44, .ref 3, .int i]) (st1 := [.int (I 44 4), .int i]) (h1 := (124, I, J, R)) rfl ?_
  refine ev_br (b1 := false) rfl rfl (xcd_nge (x := i) (y := (I 44 4)) (by first | exact b1 | omega)) ?_
  refine ev_go 3 (pc1 := 66) (lv1 := [.ref 44, .ref 3, .int i]) (st1 := [.ref 3, .int i, .ref 44]) (h1 := (124, I, J, R)) rfl ?_
  refine ev_call (v1 := (some (.int 1))) (h1 := (124, I, J, R)) rfl rfl c1 ?_
  refine ev_go 4 (pc1 := 75) (lv1 := [.ref 44, .ref 3, .int i]) (st1 := [.ref 44, .ref 3, .ref 44]) (h1 := (124, I, J, R)) rfl ?_
  refine ev_gf (c := 44) (t := 45) (X := R 44 0) rfl rfl (fun _ => rfl) rfl (hG 44 0 45 rfl rfl) ?_
  refine ev_go 1 (pc1 := 79) (lv1 := [.ref 44, .ref 3, .int i]) (st1 := [.int i, .ref 45, .ref 3, .ref 44]) (h1 := (124, I, J, R)) rfl ?_
  refine ev_call (v1 := (some (.int r1))) (h1 := (124, I, J, R)) rfl rfl c2 ?_
  refine ev_go 1 (pc1 := 83) (lv1 := [.ref 44, .ref 3, .int i]) (st1 := [.ref 44, .int r1, .ref 3, .ref 44]) (h1 := (124, I, J, R)) rfl ?_
  refine ev_gf (c := 44) (t := 46) (X := R 44 1) rfl rfl (fun _ => rfl) rfl (hG 44 1 46 rfl rfl) ?_
  refine ev_go 1 (pc1 := 87) (lv1 := [.ref 44, .ref 3, .int i]) (st1 := [.int i, .ref 46, .int r1, .ref 3, .ref 44]) (h1 := (124, I, J, R)) rfl ?_
  refine ev_call (v1 := (some (.int r2))) (h1 := (124, I, J, R)) rfl rfl c3 ?_
  refine ev_call (v1 := (some (.int 0))) (h1 := (124, I, J, R)) rfl rfl c4 ?_
  refine ev_go 2 (pc1 := 97) (lv1 := [.ref 44, .ref 3, .int i]) (st1 := [.int i]) (h1 := (124, I, J, R)) rfl ?_
  exact ev_ret rfl rfl
set_option maxRecDepth 20000 in
theorem da_n_3 {L : Nat} {xs : Nat → Int32} {d : Nat} {I : Nat → Nat → Int32} {J : Nat → Nat → Int64} {R : Nat → Nat → Nat} {I1 : Nat → Nat → Int32} {J1 : Nat → Nat → Int64} {i r1 r2 : Int32} (hG : aGd R) (b1 : i.toInt < (I 44 4).toInt) (c1 : xEv L xs d 57 0 [.ref 44, .int i, .ref 3, xmk] [] (124, I, J, R) (some (.int 1)) (124, I, J, R)) (c2 : xEv L xs d 39 0 [.ref 45, .int i] [] (124, I, J, R) (some (.int r1)) (124, I, J, R)) (c3 : xEv L xs d 39 0 [.ref 46, .int i] [] (124, I, J, R) (some (.int r2)) (124, I, J, R)) (c4 : xEv L xs d 58 0 [.ref 44, .ref 3, .int r1, .int r2, xmk, xmk, xmk, xmk] [] (124, I, J, R) (some (.int 1)) (124, I1, J1, R)) {v : Option Value} {h' : xH} (hk : xEv L xs (d + 1) 56 55 [.ref 44, .ref 3, .int (i + 1)] [] (124, I1, J1, R) v h') : xEv L xs (d + 1) 56 55 [.ref 44, .ref 3, .int i] [] (124, I, J, R) v h' := by
  refine ev_go 3 (pc1 := 60) (lv1 := [.ref 44, .ref 3, .int i]) (st1 := [.int (I 44 4), .int i]) (h1 := (124, I, J, R)) rfl ?_
  refine ev_br (b1 := false) rfl rfl (xcd_nge (x := i) (y := (I 44 4)) (by first | exact b1 | omega)) ?_
  refine ev_go 3 (pc1 := 66) (lv1 := [.ref 44, .ref 3, .int i]) (st1 := [.ref 3, .int i, .ref 44]) (h1 := (124, I, J, R)) rfl ?_
  refine ev_call (v1 := (some (.int 1))) (h1 := (124, I, J, R)) rfl rfl c1 ?_
  refine ev_go 4 (pc1 := 75) (lv1 := [.ref 44, .ref 3, .int i]) (st1 := [.ref 44, .ref 3, .ref 44]) (h1 := (124, I, J, R)) rfl ?_
  refine ev_gf (c := 44) (t := 45) (X := R 44 0) rfl rfl (fun _ => rfl) rfl (hG 44 0 45 rfl rfl) ?_
  refine ev_go 1 (pc1 := 79) (lv1 := [.ref 44, .ref 3, .int i]) (st1 := [.int i, .ref 45, .ref 3, .ref 44]) (h1 := (124, I, J, R)) rfl ?_
  refine ev_call (v1 := (some (.int r1))) (h1 := (124, I, J, R)) rfl rfl c2 ?_
  refine ev_go 1 (pc1 := 83) (lv1 := [.ref 44, .ref 3, .int i]) (st1 := [.ref 44, .int r1, .ref 3, .ref 44]) (h1 := (124, I, J, R)) rfl ?_
  refine ev_gf (c := 44) (t := 46) (X := R 44 1) rfl rfl (fun _ => rfl) rfl (hG 44 1 46 rfl rfl) ?_
  refine ev_go 1 (pc1 := 87) (lv1 := [.ref 44, .ref 3, .int i]) (st1 := [.int i, .ref 46, .int r1, .ref 3, .ref 44]) (h1 := (124, I, J, R)) rfl ?_
  refine ev_call (v1 := (some (.int r2))) (h1 := (124, I, J, R)) rfl rfl c3 ?_
  refine ev_call (v1 := (some (.int 1))) (h1 := (124, I1, J1, R)) rfl rfl c4 ?_
  refine ev_go 3 (pc1 := 55) (lv1 := [.ref 44, .ref 3, .int (i + 1)]) (st1 := []) (h1 := (124, I1, J1, R)) rfl ?_
  exact hk
set_option maxRecDepth 20000 in
theorem ju_x_3 {L : Nat} {xs : Nat → Int32} {d : Nat} {I : Nat → Nat → Int32} {J : Nat → Nat → Int64} {R : Nat → Nat → Nat} {I1 : Nat → Nat → Int32} {J1 : Nat → Nat → Int64} (hG : aGd R) (c1 : xEv L xs d 54 0 [.ref 44, .ref 1, xmk, xmk, xmk] [] (124, I, J, R) (some (.int 0)) (124, I1, J1, R)) : xEv L xs (d + 1) 53 0 [.ref 0, xmk] [] (124, I, J, R) (some (.int (-1000))) (124, (uI I1 1 1 0), J1, R) := by
  refine ev_go 1 (pc1 := 1) (lv1 := [.ref 0, xmk]) (st1 := [.ref 0]) (h1 := (124, I, J, R)) rfl ?_
  refine ev_gf (c := 0) (t := 44) (X := R 0 2) rfl rfl (fun _ => rfl) rfl (hG 0 2 44 rfl rfl) ?_
  refine ev_go 1 (pc1 := 5) (lv1 := [.ref 0, xmk]) (st1 := [.ref 0, .ref 44]) (h1 := (124, I, J, R)) rfl ?_
  refine ev_gf (c := 0) (t := 1) (X := R 0 0) rfl rfl (fun _ => rfl) rfl (hG 0 0 1 rfl rfl) ?_
  refine ev_call (v1 := (some (.int 0))) (h1 := (124, I1, J1, R)) rfl rfl c1 ?_
  refine ev_go 2 (pc1 := 13) (lv1 := [.ref 0, .int 0]) (st1 := [.ref 0]) (h1 := (124, I1, J1, R)) rfl ?_
  refine ev_gf (c := 0) (t := 1) (X := R 0 0) rfl rfl (fun _ => rfl) rfl (hG 0 0 1 rfl rfl) ?_
  refine ev_go 5 (pc1 := 27) (lv1 := [.ref 0, .int 0]) (st1 := [.int (-1000)]) (h1 := (124, (uI I1 1 1 0), J1, R)) rfl ?_
  exact ev_ret rfl rfl
set_option maxRecDepth 20000 in
theorem ju_y_3 {L : Nat} {xs : Nat → Int32} {d : Nat} {I : Nat → Nat → Int32} {J : Nat → Nat → Int64} {R : Nat → Nat → Nat} {I1 : Nat → Nat → Int32} {J1 : Nat → Nat → Int64} {I2 : Nat → Nat → Int32} {J2 : Nat → Nat → Int64} {r1 r2 : Int32} (hG : aGd R) (c1 : xEv L xs d 54 0 [.ref 44, .ref 1, xmk, xmk, xmk] [] (124, I, J, R) (some (.int 1)) (124, I1, J1, R)) (r_R_0_8 : R 0 8 = 4) (c2 : xEv L xs d 56 0 [.ref 44, .ref 3, xmk] [] (124, (uI I1 1 1 0), J1, R) (some (.int r1)) (124, I2, J2, R)) (c3 : xEv L xs d 61 0 [.ref 0, .int r1] [] (124, I2, J2, R) (some (.int r2)) (124, I2, J2, R)) : xEv L xs (d + 1) 53 0 [.ref 0, xmk] [] (124, I, J, R) (some (.int r2)) (124, I2, J2, R) := by
  refine ev_go 1 (pc1 := 1) (lv1 := [.ref 0, xmk]) (st1 := [.ref 0]) (h1 := (124, I, J, R)) rfl ?_
  refine ev_gf (c := 0) (t := 44) (X := R 0 2) rfl rfl (fun _ => rfl) rfl (hG 0 2 44 rfl rfl) ?_
  refine ev_go 1 (pc1 := 5) (lv1 := [.ref 0, xmk]) (st1 := [.ref 0, .ref 44]) (h1 := (124, I, J, R)) rfl ?_
  refine ev_gf (c := 0) (t := 1) (X := R 0 0) rfl rfl (fun _ => rfl) rfl (hG 0 0 1 rfl rfl) ?_
  refine ev_call (v1 := (some (.int 1))) (h1 := (124, I1, J1, R)) rfl rfl c1 ?_
  refine ev_go 2 (pc1 := 13) (lv1 := [.ref 0, .int 1]) (st1 := [.ref 0]) (h1 := (124, I1, J1, R)) rfl ?_
  refine ev_gf (c := 0) (t := 1) (X := R 0 0) rfl rfl (fun _ => rfl) rfl (hG 0 0 1 rfl rfl) ?_
  refine ev_go 6 (pc1 := 30) (lv1 := [.ref 0, .int 1]) (st1 := [.ref 0, .ref 0]) (h1 := (124, (uI I1 1 1 0), J1, R)) rfl ?_
  refine ev_gf (c := 0) (t := 44) (X := R 0 2) rfl rfl (fun _ => rfl) rfl (hG 0 2 44 rfl rfl) ?_
  refine ev_go 1 (pc1 := 34) (lv1 := [.ref 0, .int 1]) (st1 := [.ref 0, .ref 44, .ref 0]) (h1 := (124, (uI I1 1 1 0), J1, R)) rfl ?_
  refine ev_gf (c := 0) (t := 3) (X := R 0 8) rfl rfl (fun _ => rfl) rfl r_R_0_8 ?_
  refine ev_call (v1 := (some (.int r1))) (h1 := (124, I2, J2, R)) rfl rfl c2 ?_
  refine ev_call (v1 := (some (.int r2))) (h1 := (124, I2, J2, R)) rfl rfl c3 ?_
  exact ev_ret rfl rfl
set_option maxRecDepth 20000 in
theorem rw_0 {L : Nat} {xs : Nat → Int32} {d : Nat} {I : Nat → Nat → Int32} {J : Nat → Nat → Int64} {R : Nat → Nat → Nat} {x : Int32} (hG : aGd R) (b1 : x.toInt = (I 44 4).toInt) : xEv L xs d 61 0 [.ref 0, .int x] [] (124, I, J, R) (some (.int x)) (124, I, J, R) := by
  refine ev_go 2 (pc1 := 2) (lv1 := [.ref 0, .int x]) (st1 := [.ref 0, .int x]) (h1 := (124, I, J, R)) rfl ?_
  refine ev_gf (c := 0) (t := 44) (X := R 0 2) rfl rfl (fun _ => rfl) rfl (hG 0 2 44 rfl rfl) ?_
  refine ev_go 1 (pc1 := 8) (lv1 := [.ref 0, .int x]) (st1 := [.int (I 44 4), .int x]) (h1 := (124, I, J, R)) rfl ?_
  refine ev_br (b1 := false) rfl rfl (xcd_nne (x := x) (y := (I 44 4)) (by first | exact b1 | omega)) ?_
  refine ev_go 2 (pc1 := 18) (lv1 := [.ref 0, .int x]) (st1 := [.int x]) (h1 := (124, I, J, R)) rfl ?_
  exact ev_ret rfl rfl
set_option maxRecDepth 20000 in
theorem rw_1 {L : Nat} {xs : Nat → Int32} {d : Nat} {I : Nat → Nat → Int32} {J : Nat → Nat → Int64} {R : Nat → Nat → Nat} {x : Int32} (hG : aGd R) (b1 : x.toInt ≠ (I 44 4).toInt) : xEv L xs d 61 0 [.ref 0, .int x] [] (124, I, J, R) (some (.int ((-1) - x))) (124, I, J, R) := by
  refine ev_go 2 (pc1 := 2) (lv1 := [.ref 0, .int x]) (st1 := [.ref 0, .int x]) (h1 := (124, I, J, R)) rfl ?_
  refine ev_gf (c := 0) (t := 44) (X := R 0 2) rfl rfl (fun _ => rfl) rfl (hG 0 2 44 rfl rfl) ?_
  refine ev_go 1 (pc1 := 8) (lv1 := [.ref 0, .int x]) (st1 := [.int (I 44 4), .int x]) (h1 := (124, I, J, R)) rfl ?_
  refine ev_br (b1 := true) rfl rfl (xcd_ne (x := x) (y := (I 44 4)) (by first | exact b1 | omega)) ?_
  refine ev_go 3 (pc1 := 18) (lv1 := [.ref 0, .int x]) (st1 := [.int ((-1) - x)]) (h1 := (124, I, J, R)) rfl ?_
  exact ev_ret rfl rfl
set_option maxRecDepth 20000 in
theorem hb_s_23 {L : Nat} {xs : Nat → Int32} {d : Nat} {I : Nat → Nat → Int32} {J : Nat → Nat → Int64} {R : Nat → Nat → Nat} {q : Int32} (hG : aGd R)  {v : Option Value} {h' : xH} (hk : xEv L xs d 60 5 [.ref 44, .ref 23, .int q, .int 0, .int 0] [] (124, I, J, R) v h') : xEv L xs d 60 0 [.ref 44, .ref 23, .int q, xmk, xmk] [] (124, I, J, R) v h' := by
  refine ev_go 4 (pc1 := 5) (lv1 := [.ref 44, .ref 23, .int q, .int 0, .int 0]) (st1 := []) (h1 := (124, I, J, R)) rfl ?_
  exact hk
set_option maxRecDepth 20000 in
theorem hb_0_23 {L : Nat} {xs : Nat → Int32} {d : Nat} {I : Nat → Nat → Int32} {J : Nat → Nat → Int64} {R : Nat → Nat → Nat} {q k n r1 : Int32} (hG : aGd R) (b1 : n.toInt < (I 23 16).toInt) (c1 : xEv L xs d 39 0 [.ref 47, .int n] [] (124, I, J, R) (some (.int r1)) (124, I, J, R)) (b2 : r1.toInt ≠ q.toInt) {v : Option Value} {h' : xH} (hk : xEv L xs (d + 1) 60 5 [.ref 44, .ref 23, .int q, .int k, .int (n + 1)] [] (124, I, J, R) v h') : xEv L xs (d + 1) 60 5 [.ref 44, .ref 23, .int q, .int k, .int n] [] (124, I, J, R) v h' := by
  refine ev_go 3 (pc1 := 11) (lv1 := [.ref 44, .ref 23, .int q, .int k, .int n]) (st1 := [.int (I 23 16), .int n]) (h1 := (124, I, J, R)) rfl ?_
  refine ev_br (b1 := false) rfl rfl (xcd_nge (x := n) (y := (I 23 16)) (by first | exact b1 | omega)) ?_
  refine ev_go 1 (pc1 := 15) (lv1 := [.ref 44, .ref 23, .int q, .int k, .int n]) (st1 := [.ref 44]) (h1 := (124, I, J, R)) rfl ?_
  refine ev_gf (c := 44) (t := 47) (X := R 44 2) rfl rfl (fun _ => rfl) rfl (hG 44 2 47 rfl rfl) ?_
  refine ev_go 1 (pc1 := 20) (lv1 := [.ref 44, .ref 23, .int q, .int k, .int n]) (st1 := [.int n, .ref 47]) (h1 := (124, I, J, R)) rfl ?_
  refine ev_call (v1 := (some (.int r1))) (h1 := (124, I, J, R)) rfl rfl c1 ?_
  refine ev_go 1 (pc1 := 24) (lv1 := [.ref 44, .ref 23, .int q, .int k, .int n]) (st1 := [.int q, .int r1]) (h1 := (124, I, J, R)) rfl ?_
  refine ev_br (b1 := true) rfl rfl (xcd_ne (x := r1) (y := q) (by first | exact b2 | omega)) ?_
  refine ev_go 2 (pc1 := 5) (lv1 := [.ref 44, .ref 23, .int q, .int k, .int (n + 1)]) (st1 := []) (h1 := (124, I, J, R)) rfl ?_
  exact hk
set_option maxRecDepth 20000 in
theorem hb_1_23 {L : Nat} {xs : Nat → Int32} {d : Nat} {I : Nat → Nat → Int32} {J : Nat → Nat → Int64} {R : Nat → Nat → Nat} {q k n r1 : Int32} (hG : aGd R) (b1 : n.toInt < (I 23 16).toInt) (c1 : xEv L xs d 39 0 [.ref 47, .int n] [] (124, I, J, R) (some (.int r1)) (124, I, J, R)) (b2 : r1.toInt = q.toInt) {v : Option Value} {h' : xH} (hk : xEv L xs (d + 1) 60 5 [.ref 44, .ref 23, .int q, .int (k + 1), .int (n + 1)] [] (124, I, J, R) v h') : xEv L xs (d + 1) 60 5 [.ref 44, .ref 23, .int q, .int k, .int n] [] (124, I, J, R) v h' := by
  refine ev_go 3 (pc1 := 11) (lv1 := [.ref 44, .ref 23, .int q, .int k, .int n]) (st1 := [.int (I 23 16), .int n]) (h1 := (124, I, J, R)) rfl ?_
  refine ev_br (b1 := false) rfl rfl (xcd_nge (x := n) (y := (I 23 16)) (by first | exact b1 | omega)) ?_
  refine ev_go 1 (pc1 := 15) (lv1 := [.ref 44, .ref 23, .int q, .int k, .int n]) (st1 := [.ref 44]) (h1 := (124, I, J, R)) rfl ?_
  refine ev_gf (c := 44) (t := 47) (X := R 44 2) rfl rfl (fun _ => rfl) rfl (hG 44 2 47 rfl rfl) ?_
  refine ev_go 1 (pc1 := 20) (lv1 := [.ref 44, .ref 23, .int q, .int k, .int n]) (st1 := [.int n, .ref 47]) (h1 := (124, I, J, R)) rfl ?_
  refine ev_call (v1 := (some (.int r1))) (h1 := (124, I, J, R)) rfl rfl c1 ?_
  refine ev_go 1 (pc1 := 24) (lv1 := [.ref 44, .ref 23, .int q, .int k, .int n]) (st1 := [.int q, .int r1]) (h1 := (124, I, J, R)) rfl ?_
  refine ev_br (b1 := false) rfl rfl (xcd_nne (x := r1) (y := q) (by first | exact b2 | omega)) ?_
  refine ev_go 3 (pc1 := 5) (lv1 := [.ref 44, .ref 23, .int q, .int (k + 1), .int (n + 1)]) (st1 := []) (h1 := (124, I, J, R)) rfl ?_
  exact hk
set_option maxRecDepth 20000 in
theorem hb_e_23 {L : Nat} {xs : Nat → Int32} {d : Nat} {I : Nat → Nat → Int32} {J : Nat → Nat → Int64} {R : Nat → Nat → Nat} {q k n : Int32} (hG : aGd R) (b1 : n.toInt ≥ (I 23 16).toInt) : xEv L xs d 60 5 [.ref 44, .ref 23, .int q, .int k, .int n] [] (124, I, J, R) (some (.int k)) (124, I, J, R) := by
  refine ev_go 3 (pc1 := 11) (lv1 := [.ref 44, .ref 23, .int q, .int k, .int n]) (st1 := [.int (I 23 16), .int n]) (h1 := (124, I, J, R)) rfl ?_
  refine ev_br (b1 := true) rfl rfl (xcd_ge (x := n) (y := (I 23 16)) (by first | exact b1 | omega)) ?_
  refine ev_go 1 (pc1 := 37) (lv1 := [.ref 44, .ref 23, .int q, .int k, .int n]) (st1 := [.int k]) (h1 := (124, I, J, R)) rfl ?_
  exact ev_ret rfl rfl
theorem hb_l_23 {L : Nat} {xs : Nat → Int32} {d : Nat} {I : Nat → Nat → Int32} {J : Nat → Nat → Int64} {R : Nat → Nat → Nat} (hG : aGd R) {nn : Nat} (q5 : (I 23 16).toInt = nn) (h4 : nn ≤ 4) {q : Int32} : ∀ (f m : Nat) (k n : Int32), m + f = nn → n.toInt = m → k.toInt = cIn (fun i => (I 47 i).toInt) q.toInt m → ∃ z : Int32, xEv L xs (d + 1) 60 5 [.ref 44, .ref 23, .int q, .int k, .int n] [] (124, I, J, R) (some (.int z)) (124, I, J, R) ∧ z.toInt = cIn (fun i => (I 47 i).toInt) q.toInt nn := by
  intro f
  induction f with
  | zero =>
    intro m k n hm hn hk
    exact ⟨k, hb_e_23 hG (by omega), by rw [hk, show m = nn from by omega]⟩
  | succ f ih =>
    intro m k n hm hn hk
    have hn' : (n + 1).toInt = (m + 1 : Nat) := by rw [i_add1 (by omega)]; omega
    have hl := cIn_le (f := fun i => (I 47 i).toInt) (z := q.toInt) m
    have ec := clamp_s (i := n) (by omega)
    have ek : n.toNatClampNeg = m := by omega
    have c := at_run (L := L) (xs := xs) (d := d) (h := (124, I, J, R)) (c := 47) (n := 4) (fun _ => rfl) (by decide) n
    rw [if_pos ⟨by omega, by omega⟩, ek] at c
    have c' : xEv L xs d 39 0 [.ref 47, .int n] [] (124, I, J, R) (some (.int (I 47 m))) (124, I, J, R) := c
    by_cases h : (I 47 m).toInt = q.toInt
    · obtain ⟨z, x1, x2⟩ := ih (m + 1) (k + 1) (n + 1) (by omega) hn' (by rw [i_add1 (by omega), cIn_s, if_pos h]; omega)
      exact ⟨z, hb_1_23 hG (by omega) c' h x1, x2⟩
    · obtain ⟨z, x1, x2⟩ := ih (m + 1) k (n + 1) (by omega) hn' (by rw [cIn_s, if_neg h]; omega)
      exact ⟨z, hb_0_23 hG (by omega) c' h x1, x2⟩
theorem hb_run_23 {L : Nat} {xs : Nat → Int32} {d : Nat} {I : Nat → Nat → Int32} {J : Nat → Nat → Int64} {R : Nat → Nat → Nat} (hG : aGd R) {nn : Nat} (q5 : (I 23 16).toInt = nn) (h4 : nn ≤ 4) (q : Int32) : ∃ z : Int32, xEv L xs (d + 1) 60 0 [.ref 44, .ref 23, .int q, xmk, xmk] [] (124, I, J, R) (some (.int z)) (124, I, J, R) ∧ z.toInt = cIn (fun i => (I 47 i).toInt) q.toInt nn := by
  obtain ⟨z, x1, x2⟩ := hb_l_23 (L := L) (xs := xs) (d := d) (J := J) hG q5 h4 (q := q) nn 0 0 0 (by omega) (by decide) rfl
  exact ⟨z, hb_s_23 hG x1, x2⟩
set_option maxRecDepth 20000 in
theorem te_x_23 {L : Nat} {xs : Nat → Int32} {d : Nat} {I : Nat → Nat → Int32} {J : Nat → Nat → Int64} {R : Nat → Nat → Nat} {t n : Int32} (hG : aGd R) (c1 : xEv L xs d 59 0 [.ref 23, .int n] [] (124, I, J, R) (some (.int 0)) (124, I, J, R)) : xEv L xs (d + 1) 58 0 [.ref 44, .ref 23, .int t, .int n, xmk, xmk, xmk, xmk] [] (124, I, J, R) (some (.int 0)) (124, I, J, R) := by
  refine ev_go 2 (pc1 := 2) (lv1 := [.ref 44, .ref 23, .int t, .int n, xmk, xmk, xmk, xmk]) (st1 := [.int n, .ref 23]) (h1 := (124, I, J, R)) rfl ?_
  refine ev_call (v1 := (some (.int 0))) (h1 := (124, I, J, R)) rfl rfl c1 ?_
  refine ev_go 2 (pc1 := 9) (lv1 := [.ref 44, .ref 23, .int t, .int n, xmk, xmk, xmk, xmk]) (st1 := [.int 0]) (h1 := (124, I, J, R)) rfl ?_
  exact ev_ret rfl rfl
set_option maxRecDepth 20000 in
theorem te_y_23 {L : Nat} {xs : Nat → Int32} {d : Nat} {I : Nat → Nat → Int32} {J : Nat → Nat → Int64} {R : Nat → Nat → Nat} {t n r1 r2 r3 : Int32} (hG : aGd R) (c1 : xEv L xs d 59 0 [.ref 23, .int n] [] (124, I, J, R) (some (.int 1)) (124, I, J, R)) (c2 : xEv L xs d 39 0 [.ref 40, .int t] [] (124, I, J, R) (some (.int r1)) (124, I, J, R)) (c3 : xEv L xs d 39 0 [.ref 41, .int t] [] (124, I, J, R) (some (.int r2)) (124, I, J, R)) (c4 : xEv L xs d 39 0 [.ref 47, .int n] [] (124, I, J, R) (some (.int r3)) (124, I, J, R)) (b1 : r3.toInt ≠ r1.toInt) (b2 : r3.toInt ≠ r2.toInt) : xEv L xs (d + 1) 58 0 [.ref 44, .ref 23, .int t, .int n, xmk, xmk, xmk, xmk] [] (124, I, J, R) (some (.int 0)) (124, I, J, R) := by
  refine ev_go 2 (pc1 := 2) (lv1 := [.ref 44, .ref 23, .int t, .int n, xmk, xmk, xmk, xmk]) (st1 := [.int n, .ref 23]) (h1 := (124, I, J, R)) rfl ?_
  refine ev_call (v1 := (some (.int 1))) (h1 := (124, I, J, R)) rfl rfl c1 ?_
  refine ev_go 2 (pc1 := 11) (lv1 := [.ref 44, .ref 23, .int t, .int n, xmk, xmk, xmk, xmk]) (st1 := [.ref 23]) (h1 := (124, I, J, R)) rfl ?_
  refine ev_gf (c := 23) (t := 37) (X := R 23 13) rfl rfl (fun _ => rfl) rfl (hG 23 13 37 rfl rfl) ?_
  refine ev_gf (c := 37) (t := 40) (X := R 37 2) rfl rfl (fun _ => rfl) rfl (hG 37 2 40 rfl rfl) ?_
  refine ev_go 1 (pc1 := 18) (lv1 := [.ref 44, .ref 23, .int t, .int n, xmk, xmk, xmk, xmk]) (st1 := [.int t, .ref 40]) (h1 := (124, I, J, R)) rfl ?_
  refine ev_call (v1 := (some (.int r1))) (h1 := (124, I, J, R)) rfl rfl c2 ?_
  refine ev_go 2 (pc1 := 24) (lv1 := [.ref 44, .ref 23, .int t, .int n, .int r1, xmk, xmk, xmk]) (st1 := [.ref 23]) (h1 := (124, I, J, R)) rfl ?_
  refine ev_gf (c := 23) (t := 37) (X := R 23 13) rfl rfl (fun _ => rfl) rfl (hG 23 13 37 rfl rfl) ?_
  refine ev_gf (c := 37) (t := 41) (X := R 37 3) rfl rfl (fun _ => rfl) rfl (hG 37 3 41 rfl rfl) ?_
  refine ev_go 1 (pc1 := 31) (lv1 := [.ref 44, .ref 23, .int t, .int n, .int r1, xmk, xmk, xmk]) (st1 := [.int t, .ref 41]) (h1 := (124, I, J, R)) rfl ?_
  refine ev_call (v1 := (some (.int r2))) (h1 := (124, I, J, R)) rfl rfl c3 ?_
  refine ev_go 2 (pc1 := 37) (lv1 := [.ref 44, .ref 23, .int t, .int n, .int r1, .int r2, xmk, xmk]) (st1 := [.ref 44]) (h1 := (124, I, J, R)) rfl ?_
  refine ev_gf (c := 44) (t := 47) (X := R 44 2) rfl rfl (fun _ => rfl) rfl (hG 44 2 47 rfl rfl) ?_
  refine ev_go 1 (pc1 := 41) (lv1 := [.ref 44, .ref 23, .int t, .int n, .int r1, .int r2, xmk, xmk]) (st1 := [.int n, .ref 47]) (h1 := (124, I, J, R)) rfl ?_
  refine ev_call (v1 := (some (.int r3))) (h1 := (124, I, J, R)) rfl rfl c4 ?_
  refine ev_go 3 (pc1 := 50) (lv1 := [.ref 44, .ref 23, .int t, .int n, .int r1, .int r2, .int r3, xmk]) (st1 := [.int r1, .int r3]) (h1 := (124, I, J, R)) rfl ?_
  refine ev_br (b1 := false) rfl rfl (xcd_neq (x := r3) (y := r1) (by first | exact b1 | omega)) ?_
  refine ev_go 2 (pc1 := 57) (lv1 := [.ref 44, .ref 23, .int t, .int n, .int r1, .int r2, .int r3, xmk]) (st1 := [.int r2, .int r3]) (h1 := (124, I, J, R)) rfl ?_
  refine ev_br (b1 := false) rfl rfl (xcd_neq (x := r3) (y := r2) (by first | exact b2 | omega)) ?_
  refine ev_go 1 (pc1 := 61) (lv1 := [.ref 44, .ref 23, .int t, .int n, .int r1, .int r2, .int r3, xmk]) (st1 := [.int 0]) (h1 := (124, I, J, R)) rfl ?_
  exact ev_ret rfl rfl
set_option maxRecDepth 20000 in
theorem te_a0_23 {L : Nat} {xs : Nat → Int32} {d : Nat} {I : Nat → Nat → Int32} {J : Nat → Nat → Int64} {R : Nat → Nat → Nat} {t n r1 r2 r3 r4 : Int32} (hG : aGd R) (c1 : xEv L xs d 59 0 [.ref 23, .int n] [] (124, I, J, R) (some (.int 1)) (124, I, J, R)) (c2 : xEv L xs d 39 0 [.ref 40, .int t] [] (124, I, J, R) (some (.int r1)) (124, I, J, R)) (c3 : xEv L xs d 39 0 [.ref 41, .int t] [] (124, I, J, R) (some (.int r2)) (124, I, J, R)) (c4 : xEv L xs d 39 0 [.ref 47, .int n] [] (124, I, J, R) (some (.int r3)) (124, I, J, R)) (b1 : r3.toInt = r1.toInt) (b2 : r3.toInt = r1.toInt) (c5 : xEv L xs d 39 0 [.ref 35, .int n] [] (124, I, J, R) (some (.int r4)) (124, I, J, R)) (b3 : ((r4 >>> (r2 &&& 31)) &&& 1).toInt = 1) : xEv L xs (d + 1) 58 0 [.ref 44, .ref 23, .int t, .int n, xmk, xmk, xmk, xmk] [] (124, I, J, R) (some (.int 0)) (124, I, J, R) := by
  refine ev_go 2 (pc1 := 2) (lv1 := [.ref 44, .ref 23, .int t, .int n, xmk, xmk, xmk, xmk]) (st1 := [.int n, .ref 23]) (h1 := (124, I, J, R)) rfl ?_
  refine ev_call (v1 := (some (.int 1))) (h1 := (124, I, J, R)) rfl rfl c1 ?_
  refine ev_go 2 (pc1 := 11) (lv1 := [.ref 44, .ref 23, .int t, .int n, xmk, xmk, xmk, xmk]) (st1 := [.ref 23]) (h1 := (124, I, J, R)) rfl ?_
  refine ev_gf (c := 23) (t := 37) (X := R 23 13) rfl rfl (fun _ => rfl) rfl (hG 23 13 37 rfl rfl) ?_
  refine ev_gf (c := 37) (t := 40) (X := R 37 2) rfl rfl (fun _ => rfl) rfl (hG 37 2 40 rfl rfl) ?_
  refine ev_go 1 (pc1 := 18) (lv1 := [.ref 44, .ref 23, .int t, .int n, xmk, xmk, xmk, xmk]) (st1 := [.int t, .ref 40]) (h1 := (124, I, J, R)) rfl ?_
  refine ev_call (v1 := (some (.int r1))) (h1 := (124, I, J, R)) rfl rfl c2 ?_
  refine ev_go 2 (pc1 := 24) (lv1 := [.ref 44, .ref 23, .int t, .int n, .int r1, xmk, xmk, xmk]) (st1 := [.ref 23]) (h1 := (124, I, J, R)) rfl ?_
  refine ev_gf (c := 23) (t := 37) (X := R 23 13) rfl rfl (fun _ => rfl) rfl (hG 23 13 37 rfl rfl) ?_
  refine ev_gf (c := 37) (t := 41) (X := R 37 3) rfl rfl (fun _ => rfl) rfl (hG 37 3 41 rfl rfl) ?_
  refine ev_go 1 (pc1 := 31) (lv1 := [.ref 44, .ref 23, .int t, .int n, .int r1, xmk, xmk, xmk]) (st1 := [.int t, .ref 41]) (h1 := (124, I, J, R)) rfl ?_
  refine ev_call (v1 := (some (.int r2))) (h1 := (124, I, J, R)) rfl rfl c3 ?_
  refine ev_go 2 (pc1 := 37) (lv1 := [.ref 44, .ref 23, .int t, .int n, .int r1, .int r2, xmk, xmk]) (st1 := [.ref 44]) (h1 := (124, I, J, R)) rfl ?_
  refine ev_gf (c := 44) (t := 47) (X := R 44 2) rfl rfl (fun _ => rfl) rfl (hG 44 2 47 rfl rfl) ?_
  refine ev_go 1 (pc1 := 41) (lv1 := [.ref 44, .ref 23, .int t, .int n, .int r1, .int r2, xmk, xmk]) (st1 := [.int n, .ref 47]) (h1 := (124, I, J, R)) rfl ?_
  refine ev_call (v1 := (some (.int r3))) (h1 := (124, I, J, R)) rfl rfl c4 ?_
  refine ev_go 3 (pc1 := 50) (lv1 := [.ref 44, .ref 23, .int t, .int n, .int r1, .int r2, .int r3, xmk]) (st1 := [.int r1, .int r3]) (h1 := (124, I, J, R)) rfl ?_
  refine ev_br (b1 := true) rfl rfl (xcd_eq (x := r3) (y := r1) (by first | exact b1 | omega)) ?_
  refine ev_go 2 (pc1 := 66) (lv1 := [.ref 44, .ref 23, .int t, .int n, .int r1, .int r2, .int r3, xmk]) (st1 := [.int r1, .int r3]) (h1 := (124, I, J, R)) rfl ?_
  refine ev_br (b1 := false) rfl rfl (xcd_nne (x := r3) (y := r1) (by first | exact b2 | omega)) ?_
  refine ev_go 4 (pc1 := 79) (lv1 := [.ref 44, .ref 23, .int t, .int n, .int r1, .int r2, .int r3, .int r2]) (st1 := [.ref 23]) (h1 := (124, I, J, R)) rfl ?_
  refine ev_gf (c := 23) (t := 35) (X := R 23 11) rfl rfl (fun _ => rfl) rfl (hG 23 11 35 rfl rfl) ?_
  refine ev_go 1 (pc1 := 83) (lv1 := [.ref 44, .ref 23, .int t, .int n, .int r1, .int r2, .int r3, .int r2]) (st1 := [.int n, .ref 35]) (h1 := (124, I, J, R)) rfl ?_
  refine ev_call (v1 := (some (.int r4))) (h1 := (124, I, J, R)) rfl rfl c5 ?_
  refine ev_go 1 (pc1 := 88) (lv1 := [.ref 44, .ref 23, .int t, .int n, .int r1, .int r2, .int r3, .int r2]) (st1 := [.int r2, .int r4]) (h1 := (124, I, J, R)) rfl ?_
  refine ev_go 4 (pc1 := 92) (lv1 := [.ref 44, .ref 23, .int t, .int n, .int r1, .int r2, .int r3, .int r2]) (st1 := [.int 1, .int ((r4 >>> (r2 &&& 31)) &&& 1)]) (h1 := (124, I, J, R)) rfl ?_
  refine ev_br (b1 := true) rfl rfl (xcd_eq (x := ((r4 >>> (r2 &&& 31)) &&& 1)) (y := 1) (by rw [show ((1 : Int32)).toInt = 1 from by decide]; first | exact b3 | omega)) ?_
  refine ev_go 1 (pc1 := 115) (lv1 := [.ref 44, .ref 23, .int t, .int n, .int r1, .int r2, .int r3, .int r2]) (st1 := [.int 0]) (h1 := (124, I, J, R)) rfl ?_
  exact ev_ret rfl rfl
set_option maxRecDepth 20000 in
theorem te_a1_23 {L : Nat} {xs : Nat → Int32} {d : Nat} {I : Nat → Nat → Int32} {J : Nat → Nat → Int64} {R : Nat → Nat → Nat} {t n r1 r2 r3 r4 r5 r6 : Int32} (hG : aGd R) (c1 : xEv L xs d 59 0 [.ref 23, .int n] [] (124, I, J, R) (some (.int 1)) (124, I, J, R)) (c2 : xEv L xs d 39 0 [.ref 40, .int t] [] (124, I, J, R) (some (.int r1)) (124, I, J, R)) (c3 : xEv L xs d 39 0 [.ref 41, .int t] [] (124, I, J, R) (some (.int r2)) (124, I, J, R)) (c4 : xEv L xs d 39 0 [.ref 47, .int n] [] (124, I, J, R) (some (.int r3)) (124, I, J, R)) (b1 : r3.toInt = r1.toInt) (b2 : r3.toInt = r1.toInt) (c5 : xEv L xs d 39 0 [.ref 35, .int n] [] (124, I, J, R) (some (.int r4)) (124, I, J, R)) (b3 : ((r4 >>> (r2 &&& 31)) &&& 1).toInt ≠ 1) (c6 : xEv L xs d 60 0 [.ref 44, .ref 23, .int r2, xmk, xmk] [] (124, I, J, R) (some (.int r5)) (124, I, J, R)) (c7 : xEv L xs d 39 0 [.ref 25, .int r2] [] (124, I, J, R) (some (.int r6)) (124, I, J, R)) (b4 : r5.toInt ≥ r6.toInt) : xEv L xs (d + 1) 58 0 [.ref 44, .ref 23, .int t, .int n, xmk, xmk, xmk, xmk] [] (124, I, J, R) (some (.int 0)) (124, I, J, R) := by
  refine ev_go 2 (pc1 := 2) (lv1 := [.ref 44, .ref 23, .int t, .int n, xmk, xmk, xmk, xmk]) (st1 := [.int n, .ref 23]) (h1 := (124, I, J, R)) rfl ?_
  refine ev_call (v1 := (some (.int 1))) (h1 := (124, I, J, R)) rfl rfl c1 ?_
  refine ev_go 2 (pc1 := 11) (lv1 := [.ref 44, .ref 23, .int t, .int n, xmk, xmk, xmk, xmk]) (st1 := [.ref 23]) (h1 := (124, I, J, R)) rfl ?_
  refine ev_gf (c := 23) (t := 37) (X := R 23 13) rfl rfl (fun _ => rfl) rfl (hG 23 13 37 rfl rfl) ?_
  refine ev_gf (c := 37) (t := 40) (X := R 37 2) rfl rfl (fun _ => rfl) rfl (hG 37 2 40 rfl rfl) ?_
  refine ev_go 1 (pc1 := 18) (lv1 := [.ref 44, .ref 23, .int t, .int n, xmk, xmk, xmk, xmk]) (st1 := [.int t, .ref 40]) (h1 := (124, I, J, R)) rfl ?_
  refine ev_call (v1 := (some (.int r1))) (h1 := (124, I, J, R)) rfl rfl c2 ?_
  refine ev_go 2 (pc1 := 24) (lv1 := [.ref 44, .ref 23, .int t, .int n, .int r1, xmk, xmk, xmk]) (st1 := [.ref 23]) (h1 := (124, I, J, R)) rfl ?_
  refine ev_gf (c := 23) (t := 37) (X := R 23 13) rfl rfl (fun _ => rfl) rfl (hG 23 13 37 rfl rfl) ?_
  refine ev_gf (c := 37) (t := 41) (X := R 37 3) rfl rfl (fun _ => rfl) rfl (hG 37 3 41 rfl rfl) ?_
  refine ev_go 1 (pc1 := 31) (lv1 := [.ref 44, .ref 23, .int t, .int n, .int r1, xmk, xmk, xmk]) (st1 := [.int t, .ref 41]) (h1 := (124, I, J, R)) rfl ?_
  refine ev_call (v1 := (some (.int r2))) (h1 := (124, I, J, R)) rfl rfl c3 ?_
  refine ev_go 2 (pc1 := 37) (lv1 := [.ref 44, .ref 23, .int t, .int n, .int r1, .int r2, xmk, xmk]) (st1 := [.ref 44]) (h1 := (124, I, J, R)) rfl ?_
  refine ev_gf (c := 44) (t := 47) (X := R 44 2) rfl rfl (fun _ => rfl) rfl (hG 44 2 47 rfl rfl) ?_
  refine ev_go 1 (pc1 := 41) (lv1 := [.ref 44, .ref 23, .int t, .int n, .int r1, .int r2, xmk, xmk]) (st1 := [.int n, .ref 47]) (h1 := (124, I, J, R)) rfl ?_
  refine ev_call (v1 := (some (.int r3))) (h1 := (124, I, J, R)) rfl rfl c4 ?_
  refine ev_go 3 (pc1 := 50) (lv1 := [.ref 44, .ref 23, .int t, .int n, .int r1, .int r2, .int r3, xmk]) (st1 := [.int r1, .int r3]) (h1 := (124, I, J, R)) rfl ?_
  refine ev_br (b1 := true) rfl rfl (xcd_eq (x := r3) (y := r1) (by first | exact b1 | omega)) ?_
  refine ev_go 2 (pc1 := 66) (lv1 := [.ref 44, .ref 23, .int t, .int n, .int r1, .int r2, .int r3, xmk]) (st1 := [.int r1, .int r3]) (h1 := (124, I, J, R)) rfl ?_
  refine ev_br (b1 := false) rfl rfl (xcd_nne (x := r3) (y := r1) (by first | exact b2 | omega)) ?_
  refine ev_go 4 (pc1 := 79) (lv1 := [.ref 44, .ref 23, .int t, .int n, .int r1, .int r2, .int r3, .int r2]) (st1 := [.ref 23]) (h1 := (124, I, J, R)) rfl ?_
  refine ev_gf (c := 23) (t := 35) (X := R 23 11) rfl rfl (fun _ => rfl) rfl (hG 23 11 35 rfl rfl) ?_
  refine ev_go 1 (pc1 := 83) (lv1 := [.ref 44, .ref 23, .int t, .int n, .int r1, .int r2, .int r3, .int r2]) (st1 := [.int n, .ref 35]) (h1 := (124, I, J, R)) rfl ?_
  refine ev_call (v1 := (some (.int r4))) (h1 := (124, I, J, R)) rfl rfl c5 ?_
  refine ev_go 1 (pc1 := 88) (lv1 := [.ref 44, .ref 23, .int t, .int n, .int r1, .int r2, .int r3, .int r2]) (st1 := [.int r2, .int r4]) (h1 := (124, I, J, R)) rfl ?_
  refine ev_go 4 (pc1 := 92) (lv1 := [.ref 44, .ref 23, .int t, .int n, .int r1, .int r2, .int r3, .int r2]) (st1 := [.int 1, .int ((r4 >>> (r2 &&& 31)) &&& 1)]) (h1 := (124, I, J, R)) rfl ?_
  refine ev_br (b1 := false) rfl rfl (xcd_neq (x := ((r4 >>> (r2 &&& 31)) &&& 1)) (y := 1) (by rw [show ((1 : Int32)).toInt = 1 from by decide]; first | exact b3 | omega)) ?_
  refine ev_go 3 (pc1 := 99) (lv1 := [.ref 44, .ref 23, .int t, .int n, .int r1, .int r2, .int r3, .int r2]) (st1 := [.int r2, .ref 23, .ref 44]) (h1 := (124, I, J, R)) rfl ?_
  refine ev_call (v1 := (some (.int r5))) (h1 := (124, I, J, R)) rfl rfl c6 ?_
  refine ev_go 1 (pc1 := 103) (lv1 := [.ref 44, .ref 23, .int t, .int n, .int r1, .int r2, .int r3, .int r2]) (st1 := [.ref 23, .int r5]) (h1 := (124, I, J, R)) rfl ?_
  refine ev_gf (c := 23) (t := 25) (X := R 23 1) rfl rfl (fun _ => rfl) rfl (hG 23 1 25 rfl rfl) ?_
  refine ev_go 1 (pc1 := 108) (lv1 := [.ref 44, .ref 23, .int t, .int n, .int r1, .int r2, .int r3, .int r2]) (st1 := [.int r2, .ref 25, .int r5]) (h1 := (124, I, J, R)) rfl ?_
  refine ev_call (v1 := (some (.int r6))) (h1 := (124, I, J, R)) rfl rfl c7 ?_
  refine ev_br (b1 := false) rfl rfl (xcd_nlt (x := r5) (y := r6) (by first | exact b4 | omega)) ?_
  refine ev_go 1 (pc1 := 115) (lv1 := [.ref 44, .ref 23, .int t, .int n, .int r1, .int r2, .int r3, .int r2]) (st1 := [.int 0]) (h1 := (124, I, J, R)) rfl ?_
  exact ev_ret rfl rfl
set_option maxRecDepth 20000 in
theorem te_a2_23 {L : Nat} {xs : Nat → Int32} {d : Nat} {I : Nat → Nat → Int32} {J : Nat → Nat → Int64} {R : Nat → Nat → Nat} {t n r1 r2 r3 r4 r5 r6 r7 : Int32} (hG : aGd R) (c1 : xEv L xs d 59 0 [.ref 23, .int n] [] (124, I, J, R) (some (.int 1)) (124, I, J, R)) (c2 : xEv L xs d 39 0 [.ref 40, .int t] [] (124, I, J, R) (some (.int r1)) (124, I, J, R)) (c3 : xEv L xs d 39 0 [.ref 41, .int t] [] (124, I, J, R) (some (.int r2)) (124, I, J, R)) (c4 : xEv L xs d 39 0 [.ref 47, .int n] [] (124, I, J, R) (some (.int r3)) (124, I, J, R)) (b1 : r3.toInt = r1.toInt) (b2 : r3.toInt = r1.toInt) (c5 : xEv L xs d 39 0 [.ref 35, .int n] [] (124, I, J, R) (some (.int r4)) (124, I, J, R)) (b3 : ((r4 >>> (r2 &&& 31)) &&& 1).toInt ≠ 1) (c6 : xEv L xs d 60 0 [.ref 44, .ref 23, .int r2, xmk, xmk] [] (124, I, J, R) (some (.int r5)) (124, I, J, R)) (c7 : xEv L xs d 39 0 [.ref 25, .int r2] [] (124, I, J, R) (some (.int r6)) (124, I, J, R)) (b4 : r5.toInt < r6.toInt) (c8 : xEv L xs d 33 0 [.ref 47, .int n, .int r2] [] (124, I, J, R) none (124, (uI I 47 n.toNatClampNeg r2), J, R)) (c9 : xEv L xs d 39 0 [.ref 36, .int n] [] (124, (uI I 47 n.toNatClampNeg r2), J, R) (some (.int r7)) (124, (uI I 47 n.toNatClampNeg r2), J, R)) (b5 : t.toInt ≥ r7.toInt) : xEv L xs (d + 1) 58 0 [.ref 44, .ref 23, .int t, .int n, xmk, xmk, xmk, xmk] [] (124, I, J, R) (some (.int 1)) (124, (uI I 47 n.toNatClampNeg r2), J, R) := by
  refine ev_go 2 (pc1 := 2) (lv1 := [.ref 44, .ref 23, .int t, .int n, xmk, xmk, xmk, xmk]) (st1 := [.int n, .ref 23]) (h1 := (124, I, J, R)) rfl ?_
  refine ev_call (v1 := (some (.int 1))) (h1 := (124, I, J, R)) rfl rfl c1 ?_
  refine ev_go 2 (pc1 := 11) (lv1 := [.ref 44, .ref 23, .int t, .int n, xmk, xmk, xmk, xmk]) (st1 := [.ref 23]) (h1 := (124, I, J, R)) rfl ?_
  refine ev_gf (c := 23) (t := 37) (X := R 23 13) rfl rfl (fun _ => rfl) rfl (hG 23 13 37 rfl rfl) ?_
  refine ev_gf (c := 37) (t := 40) (X := R 37 2) rfl rfl (fun _ => rfl) rfl (hG 37 2 40 rfl rfl) ?_
  refine ev_go 1 (pc1 := 18) (lv1 := [.ref 44, .ref 23, .int t, .int n, xmk, xmk, xmk, xmk]) (st1 := [.int t, .ref 40]) (h1 := (124, I, J, R)) rfl ?_
  refine ev_call (v1 := (some (.int r1))) (h1 := (124, I, J, R)) rfl rfl c2 ?_
  refine ev_go 2 (pc1 := 24) (lv1 := [.ref 44, .ref 23, .int t, .int n, .int r1, xmk, xmk, xmk]) (st1 := [.ref 23]) (h1 := (124, I, J, R)) rfl ?_
  refine ev_gf (c := 23) (t := 37) (X := R 23 13) rfl rfl (fun _ => rfl) rfl (hG 23 13 37 rfl rfl) ?_
  refine ev_gf (c := 37) (t := 41) (X := R 37 3) rfl rfl (fun _ => rfl) rfl (hG 37 3 41 rfl rfl) ?_
  refine ev_go 1 (pc1 := 31) (lv1 := [.ref 44, .ref 23, .int t, .int n, .int r1, xmk, xmk, xmk]) (st1 := [.int t, .ref 41]) (h1 := (124, I, J, R)) rfl ?_
  refine ev_call (v1 := (some (.int r2))) (h1 := (124, I, J, R)) rfl rfl c3 ?_
  refine ev_go 2 (pc1 := 37) (lv1 := [.ref 44, .ref 23, .int t, .int n, .int r1, .int r2, xmk, xmk]) (st1 := [.ref 44]) (h1 := (124, I, J, R)) rfl ?_
  refine ev_gf (c := 44) (t := 47) (X := R 44 2) rfl rfl (fun _ => rfl) rfl (hG 44 2 47 rfl rfl) ?_
  refine ev_go 1 (pc1 := 41) (lv1 := [.ref 44, .ref 23, .int t, .int n, .int r1, .int r2, xmk, xmk]) (st1 := [.int n, .ref 47]) (h1 := (124, I, J, R)) rfl ?_
  refine ev_call (v1 := (some (.int r3))) (h1 := (124, I, J, R)) rfl rfl c4 ?_
  refine ev_go 3 (pc1 := 50) (lv1 := [.ref 44, .ref 23, .int t, .int n, .int r1, .int r2, .int r3, xmk]) (st1 := [.int r1, .int r3]) (h1 := (124, I, J, R)) rfl ?_
  refine ev_br (b1 := true) rfl rfl (xcd_eq (x := r3) (y := r1) (by first | exact b1 | omega)) ?_
  refine ev_go 2 (pc1 := 66) (lv1 := [.ref 44, .ref 23, .int t, .int n, .int r1, .int r2, .int r3, xmk]) (st1 := [.int r1, .int r3]) (h1 := (124, I, J, R)) rfl ?_
  refine ev_br (b1 := false) rfl rfl (xcd_nne (x := r3) (y := r1) (by first | exact b2 | omega)) ?_
  refine ev_go 4 (pc1 := 79) (lv1 := [.ref 44, .ref 23, .int t, .int n, .int r1, .int r2, .int r3, .int r2]) (st1 := [.ref 23]) (h1 := (124, I, J, R)) rfl ?_
  refine ev_gf (c := 23) (t := 35) (X := R 23 11) rfl rfl (fun _ => rfl) rfl (hG 23 11 35 rfl rfl) ?_
  refine ev_go 1 (pc1 := 83) (lv1 := [.ref 44, .ref 23, .int t, .int n, .int r1, .int r2, .int r3, .int r2]) (st1 := [.int n, .ref 35]) (h1 := (124, I, J, R)) rfl ?_
  refine ev_call (v1 := (some (.int r4))) (h1 := (124, I, J, R)) rfl rfl c5 ?_
  refine ev_go 1 (pc1 := 88) (lv1 := [.ref 44, .ref 23, .int t, .int n, .int r1, .int r2, .int r3, .int r2]) (st1 := [.int r2, .int r4]) (h1 := (124, I, J, R)) rfl ?_
  refine ev_go 4 (pc1 := 92) (lv1 := [.ref 44, .ref 23, .int t, .int n, .int r1, .int r2, .int r3, .int r2]) (st1 := [.int 1, .int ((r4 >>> (r2 &&& 31)) &&& 1)]) (h1 := (124, I, J, R)) rfl ?_
  refine ev_br (b1 := false) rfl rfl (xcd_neq (x := ((r4 >>> (r2 &&& 31)) &&& 1)) (y := 1) (by rw [show ((1 : Int32)).toInt = 1 from by decide]; first | exact b3 | omega)) ?_
  refine ev_go 3 (pc1 := 99) (lv1 := [.ref 44, .ref 23, .int t, .int n, .int r1, .int r2, .int r3, .int r2]) (st1 := [.int r2, .ref 23, .ref 44]) (h1 := (124, I, J, R)) rfl ?_
  refine ev_call (v1 := (some (.int r5))) (h1 := (124, I, J, R)) rfl rfl c6 ?_
  refine ev_go 1 (pc1 := 103) (lv1 := [.ref 44, .ref 23, .int t, .int n, .int r1, .int r2, .int r3, .int r2]) (st1 := [.ref 23, .int r5]) (h1 := (124, I, J, R)) rfl ?_
  refine ev_gf (c := 23) (t := 25) (X := R 23 1) rfl rfl (fun _ => rfl) rfl (hG 23 1 25 rfl rfl) ?_
  refine ev_go 1 (pc1 := 108) (lv1 := [.ref 44, .ref 23, .int t, .int n, .int r1, .int r2, .int r3, .int r2]) (st1 := [.int r2, .ref 25, .int r5]) (h1 := (124, I, J, R)) rfl ?_
  refine ev_call (v1 := (some (.int r6))) (h1 := (124, I, J, R)) rfl rfl c7 ?_
  refine ev_br (b1 := true) rfl rfl (xcd_lt (x := r5) (y := r6) (by first | exact b4 | omega)) ?_
  refine ev_go 1 (pc1 := 117) (lv1 := [.ref 44, .ref 23, .int t, .int n, .int r1, .int r2, .int r3, .int r2]) (st1 := [.ref 44]) (h1 := (124, I, J, R)) rfl ?_
  refine ev_gf (c := 44) (t := 47) (X := R 44 2) rfl rfl (fun _ => rfl) rfl (hG 44 2 47 rfl rfl) ?_
  refine ev_go 2 (pc1 := 123) (lv1 := [.ref 44, .ref 23, .int t, .int n, .int r1, .int r2, .int r3, .int r2]) (st1 := [.int r2, .int n, .ref 47]) (h1 := (124, I, J, R)) rfl ?_
  refine ev_call (v1 := none) (h1 := (124, (uI I 47 n.toNatClampNeg r2), J, R)) rfl rfl c8 ?_
  refine ev_go 2 (pc1 := 128) (lv1 := [.ref 44, .ref 23, .int t, .int n, .int r1, .int r2, .int r3, .int r2]) (st1 := [.ref 23, .int t]) (h1 := (124, (uI I 47 n.toNatClampNeg r2), J, R)) rfl ?_
  refine ev_gf (c := 23) (t := 36) (X := R 23 12) rfl rfl (fun _ => rfl) rfl (hG 23 12 36 rfl rfl) ?_
  refine ev_go 1 (pc1 := 132) (lv1 := [.ref 44, .ref 23, .int t, .int n, .int r1, .int r2, .int r3, .int r2]) (st1 := [.int n, .ref 36, .int t]) (h1 := (124, (uI I 47 n.toNatClampNeg r2), J, R)) rfl ?_
  refine ev_call (v1 := (some (.int r7))) (h1 := (124, (uI I 47 n.toNatClampNeg r2), J, R)) rfl rfl c9 ?_
  refine ev_br (b1 := true) rfl rfl (xcd_ge (x := t) (y := r7) (by first | exact b5 | omega)) ?_
  refine ev_go 1 (pc1 := 149) (lv1 := [.ref 44, .ref 23, .int t, .int n, .int r1, .int r2, .int r3, .int r2]) (st1 := [.int 1]) (h1 := (124, (uI I 47 n.toNatClampNeg r2), J, R)) rfl ?_
  exact ev_ret rfl rfl
set_option maxRecDepth 20000 in
theorem te_a3_23 {L : Nat} {xs : Nat → Int32} {d : Nat} {I : Nat → Nat → Int32} {J : Nat → Nat → Int64} {R : Nat → Nat → Nat} {t n r1 r2 r3 r4 r5 r6 r7 : Int32} (hG : aGd R) (c1 : xEv L xs d 59 0 [.ref 23, .int n] [] (124, I, J, R) (some (.int 1)) (124, I, J, R)) (c2 : xEv L xs d 39 0 [.ref 40, .int t] [] (124, I, J, R) (some (.int r1)) (124, I, J, R)) (c3 : xEv L xs d 39 0 [.ref 41, .int t] [] (124, I, J, R) (some (.int r2)) (124, I, J, R)) (c4 : xEv L xs d 39 0 [.ref 47, .int n] [] (124, I, J, R) (some (.int r3)) (124, I, J, R)) (b1 : r3.toInt = r1.toInt) (b2 : r3.toInt = r1.toInt) (c5 : xEv L xs d 39 0 [.ref 35, .int n] [] (124, I, J, R) (some (.int r4)) (124, I, J, R)) (b3 : ((r4 >>> (r2 &&& 31)) &&& 1).toInt ≠ 1) (c6 : xEv L xs d 60 0 [.ref 44, .ref 23, .int r2, xmk, xmk] [] (124, I, J, R) (some (.int r5)) (124, I, J, R)) (c7 : xEv L xs d 39 0 [.ref 25, .int r2] [] (124, I, J, R) (some (.int r6)) (124, I, J, R)) (b4 : r5.toInt < r6.toInt) (c8 : xEv L xs d 33 0 [.ref 47, .int n, .int r2] [] (124, I, J, R) none (124, (uI I 47 n.toNatClampNeg r2), J, R)) (c9 : xEv L xs d 39 0 [.ref 36, .int n] [] (124, (uI I 47 n.toNatClampNeg r2), J, R) (some (.int r7)) (124, (uI I 47 n.toNatClampNeg r2), J, R)) (b5 : t.toInt < r7.toInt) (c10 : xEv L xs d 33 0 [.ref 48, .int n, .int r2] [] (124, (uI I 47 n.toNatClampNeg r2), J, R) none (124, (uI (uI I 47 n.toNatClampNeg r2) 48 n.toNatClampNeg r2), J, R)) : xEv L xs (d + 1) 58 0 [.ref 44, .ref 23, .int t, .int n, xmk, xmk, xmk, xmk] [] (124, I, J, R) (some (.int 1)) (124, (uI (uI I 47 n.toNatClampNeg r2) 48 n.toNatClampNeg r2), J, R) := by
  refine ev_go 2 (pc1 := 2) (lv1 := [.ref 44, .ref 23, .int t, .int n, xmk, xmk, xmk, xmk]) (st1 := [.int n, .ref 23]) (h1 := (124, I, J, R)) rfl ?_
  refine ev_call (v1 := (some (.int 1))) (h1 := (124, I, J, R)) rfl rfl c1 ?_
  refine ev_go 2 (pc1 := 11) (lv1 := [.ref 44, .ref 23, .int t, .int n, xmk, xmk, xmk, xmk]) (st1 := [.ref 23]) (h1 := (124, I, J, R)) rfl ?_
  refine ev_gf (c := 23) (t := 37) (X := R 23 13) rfl rfl (fun _ => rfl) rfl (hG 23 13 37 rfl rfl) ?_
  refine ev_gf (c := 37) (t := 40) (X := R 37 2) rfl rfl (fun _ => rfl) rfl (hG 37 2 40 rfl rfl) ?_
  refine ev_go 1 (pc1 := 18) (lv1 := [.ref 44, .ref 23, .int t, .int n, xmk, xmk, xmk, xmk]) (st1 := [.int t, .ref 40]) (h1 := (124, I, J, R)) rfl ?_
  refine ev_call (v1 := (some (.int r1))) (h1 := (124, I, J, R)) rfl rfl c2 ?_
  refine ev_go 2 (pc1 := 24) (lv1 := [.ref 44, .ref 23, .int t, .int n, .int r1, xmk, xmk, xmk]) (st1 := [.ref 23]) (h1 := (124, I, J, R)) rfl ?_
  refine ev_gf (c := 23) (t := 37) (X := R 23 13) rfl rfl (fun _ => rfl) rfl (hG 23 13 37 rfl rfl) ?_
  refine ev_gf (c := 37) (t := 41) (X := R 37 3) rfl rfl (fun _ => rfl) rfl (hG 37 3 41 rfl rfl) ?_
  refine ev_go 1 (pc1 := 31) (lv1 := [.ref 44, .ref 23, .int t, .int n, .int r1, xmk, xmk, xmk]) (st1 := [.int t, .ref 41]) (h1 := (124, I, J, R)) rfl ?_
  refine ev_call (v1 := (some (.int r2))) (h1 := (124, I, J, R)) rfl rfl c3 ?_
  refine ev_go 2 (pc1 := 37) (lv1 := [.ref 44, .ref 23, .int t, .int n, .int r1, .int r2, xmk, xmk]) (st1 := [.ref 44]) (h1 := (124, I, J, R)) rfl ?_
  refine ev_gf (c := 44) (t := 47) (X := R 44 2) rfl rfl (fun _ => rfl) rfl (hG 44 2 47 rfl rfl) ?_
  refine ev_go 1 (pc1 := 41) (lv1 := [.ref 44, .ref 23, .int t, .int n, .int r1, .int r2, xmk, xmk]) (st1 := [.int n, .ref 47]) (h1 := (124, I, J, R)) rfl ?_
  refine ev_call (v1 := (some (.int r3))) (h1 := (124, I, J, R)) rfl rfl c4 ?_
  refine ev_go 3 (pc1 := 50) (lv1 := [.ref 44, .ref 23, .int t, .int n, .int r1, .int r2, .int r3, xmk]) (st1 := [.int r1, .int r3]) (h1 := (124, I, J, R)) rfl ?_
  refine ev_br (b1 := true) rfl rfl (xcd_eq (x := r3) (y := r1) (by first | exact b1 | omega)) ?_
  refine ev_go 2 (pc1 := 66) (lv1 := [.ref 44, .ref 23, .int t, .int n, .int r1, .int r2, .int r3, xmk]) (st1 := [.int r1, .int r3]) (h1 := (124, I, J, R)) rfl ?_
  refine ev_br (b1 := false) rfl rfl (xcd_nne (x := r3) (y := r1) (by first | exact b2 | omega)) ?_
  refine ev_go 4 (pc1 := 79) (lv1 := [.ref 44, .ref 23, .int t, .int n, .int r1, .int r2, .int r3, .int r2]) (st1 := [.ref 23]) (h1 := (124, I, J, R)) rfl ?_
  refine ev_gf (c := 23) (t := 35) (X := R 23 11) rfl rfl (fun _ => rfl) rfl (hG 23 11 35 rfl rfl) ?_
  refine ev_go 1 (pc1 := 83) (lv1 := [.ref 44, .ref 23, .int t, .int n, .int r1, .int r2, .int r3, .int r2]) (st1 := [.int n, .ref 35]) (h1 := (124, I, J, R)) rfl ?_
  refine ev_call (v1 := (some (.int r4))) (h1 := (124, I, J, R)) rfl rfl c5 ?_
  refine ev_go 1 (pc1 := 88) (lv1 := [.ref 44, .ref 23, .int t, .int n, .int r1, .int r2, .int r3, .int r2]) (st1 := [.int r2, .int r4]) (h1 := (124, I, J, R)) rfl ?_
  refine ev_go 4 (pc1 := 92) (lv1 := [.ref 44, .ref 23, .int t, .int n, .int r1, .int r2, .int r3, .int r2]) (st1 := [.int 1, .int ((r4 >>> (r2 &&& 31)) &&& 1)]) (h1 := (124, I, J, R)) rfl ?_
  refine ev_br (b1 := false) rfl rfl (xcd_neq (x := ((r4 >>> (r2 &&& 31)) &&& 1)) (y := 1) (by rw [show ((1 : Int32)).toInt = 1 from by decide]; first | exact b3 | omega)) ?_
  refine ev_go 3 (pc1 := 99) (lv1 := [.ref 44, .ref 23, .int t, .int n, .int r1, .int r2, .int r3, .int r2]) (st1 := [.int r2, .ref 23, .ref 44]) (h1 := (124, I, J, R)) rfl ?_
  refine ev_call (v1 := (some (.int r5))) (h1 := (124, I, J, R)) rfl rfl c6 ?_
  refine ev_go 1 (pc1 := 103) (lv1 := [.ref 44, .ref 23, .int t, .int n, .int r1, .int r2, .int r3, .int r2]) (st1 := [.ref 23, .int r5]) (h1 := (124, I, J, R)) rfl ?_
  refine ev_gf (c := 23) (t := 25) (X := R 23 1) rfl rfl (fun _ => rfl) rfl (hG 23 1 25 rfl rfl) ?_
  refine ev_go 1 (pc1 := 108) (lv1 := [.ref 44, .ref 23, .int t, .int n, .int r1, .int r2, .int r3, .int r2]) (st1 := [.int r2, .ref 25, .int r5]) (h1 := (124, I, J, R)) rfl ?_
  refine ev_call (v1 := (some (.int r6))) (h1 := (124, I, J, R)) rfl rfl c7 ?_
  refine ev_br (b1 := true) rfl rfl (xcd_lt (x := r5) (y := r6) (by first | exact b4 | omega)) ?_
  refine ev_go 1 (pc1 := 117) (lv1 := [.ref 44, .ref 23, .int t, .int n, .int r1, .int r2, .int r3, .int r2]) (st1 := [.ref 44]) (h1 := (124, I, J, R)) rfl ?_
  refine ev_gf (c := 44) (t := 47) (X := R 44 2) rfl rfl (fun _ => rfl) rfl (hG 44 2 47 rfl rfl) ?_
  refine ev_go 2 (pc1 := 123) (lv1 := [.ref 44, .ref 23, .int t, .int n, .int r1, .int r2, .int r3, .int r2]) (st1 := [.int r2, .int n, .ref 47]) (h1 := (124, I, J, R)) rfl ?_
  refine ev_call (v1 := none) (h1 := (124, (uI I 47 n.toNatClampNeg r2), J, R)) rfl rfl c8 ?_
  refine ev_go 2 (pc1 := 128) (lv1 := [.ref 44, .ref 23, .int t, .int n, .int r1, .int r2, .int r3, .int r2]) (st1 := [.ref 23, .int t]) (h1 := (124, (uI I 47 n.toNatClampNeg r2), J, R)) rfl ?_
  refine ev_gf (c := 23) (t := 36) (X := R 23 12) rfl rfl (fun _ => rfl) rfl (hG 23 12 36 rfl rfl) ?_
  refine ev_go 1 (pc1 := 132) (lv1 := [.ref 44, .ref 23, .int t, .int n, .int r1, .int r2, .int r3, .int r2]) (st1 := [.int n, .ref 36, .int t]) (h1 := (124, (uI I 47 n.toNatClampNeg r2), J, R)) rfl ?_
  refine ev_call (v1 := (some (.int r7))) (h1 := (124, (uI I 47 n.toNatClampNeg r2), J, R)) rfl rfl c9 ?_
  refine ev_br (b1 := false) rfl rfl (xcd_nge (x := t) (y := r7) (by first | exact b5 | omega)) ?_
  refine ev_go 1 (pc1 := 139) (lv1 := [.ref 44, .ref 23, .int t, .int n, .int r1, .int r2, .int r3, .int r2]) (st1 := [.ref 44]) (h1 := (124, (uI I 47 n.toNatClampNeg r2), J, R)) rfl ?_
  refine ev_gf (c := 44) (t := 48) (X := R 44 3) rfl rfl (fun _ => rfl) rfl (hG 44 3 48 rfl rfl) ?_
  refine ev_go 2 (pc1 := 145) (lv1 := [.ref 44, .ref 23, .int t, .int n, .int r1, .int r2, .int r3, .int r2]) (st1 := [.int r2, .int n, .ref 48]) (h1 := (124, (uI I 47 n.toNatClampNeg r2), J, R)) rfl ?_
  refine ev_call (v1 := none) (h1 := (124, (uI (uI I 47 n.toNatClampNeg r2) 48 n.toNatClampNeg r2), J, R)) rfl rfl c10 ?_
  refine ev_go 1 (pc1 := 149) (lv1 := [.ref 44, .ref 23, .int t, .int n, .int r1, .int r2, .int r3, .int r2]) (st1 := [.int 1]) (h1 := (124, (uI (uI I 47 n.toNatClampNeg r2) 48 n.toNatClampNeg r2), J, R)) rfl ?_
  exact ev_ret rfl rfl
set_option maxRecDepth 20000 in
theorem te_b0_23 {L : Nat} {xs : Nat → Int32} {d : Nat} {I : Nat → Nat → Int32} {J : Nat → Nat → Int64} {R : Nat → Nat → Nat} {t n r1 r2 r3 r4 : Int32} (hG : aGd R) (c1 : xEv L xs d 59 0 [.ref 23, .int n] [] (124, I, J, R) (some (.int 1)) (124, I, J, R)) (c2 : xEv L xs d 39 0 [.ref 40, .int t] [] (124, I, J, R) (some (.int r1)) (124, I, J, R)) (c3 : xEv L xs d 39 0 [.ref 41, .int t] [] (124, I, J, R) (some (.int r2)) (124, I, J, R)) (c4 : xEv L xs d 39 0 [.ref 47, .int n] [] (124, I, J, R) (some (.int r3)) (124, I, J, R)) (b1 : r3.toInt ≠ r1.toInt) (b2 : r3.toInt = r2.toInt) (b3 : r3.toInt ≠ r1.toInt) (c5 : xEv L xs d 39 0 [.ref 35, .int n] [] (124, I, J, R) (some (.int r4)) (124, I, J, R)) (b4 : ((r4 >>> (r1 &&& 31)) &&& 1).toInt = 1) : xEv L xs (d + 1) 58 0 [.ref 44, .ref 23, .int t, .int n, xmk, xmk, xmk, xmk] [] (124, I, J, R) (some (.int 0)) (124, I, J, R) := by
  refine ev_go 2 (pc1 := 2) (lv1 := [.ref 44, .ref 23, .int t, .int n, xmk, xmk, xmk, xmk]) (st1 := [.int n, .ref 23]) (h1 := (124, I, J, R)) rfl ?_
  refine ev_call (v1 := (some (.int 1))) (h1 := (124, I, J, R)) rfl rfl c1 ?_
  refine ev_go 2 (pc1 := 11) (lv1 := [.ref 44, .ref 23, .int t, .int n, xmk, xmk, xmk, xmk]) (st1 := [.ref 23]) (h1 := (124, I, J, R)) rfl ?_
  refine ev_gf (c := 23) (t := 37) (X := R 23 13) rfl rfl (fun _ => rfl) rfl (hG 23 13 37 rfl rfl) ?_
  refine ev_gf (c := 37) (t := 40) (X := R 37 2) rfl rfl (fun _ => rfl) rfl (hG 37 2 40 rfl rfl) ?_
  refine ev_go 1 (pc1 := 18) (lv1 := [.ref 44, .ref 23, .int t, .int n, xmk, xmk, xmk, xmk]) (st1 := [.int t, .ref 40]) (h1 := (124, I, J, R)) rfl ?_
  refine ev_call (v1 := (some (.int r1))) (h1 := (124, I, J, R)) rfl rfl c2 ?_
  refine ev_go 2 (pc1 := 24) (lv1 := [.ref 44, .ref 23, .int t, .int n, .int r1, xmk, xmk, xmk]) (st1 := [.ref 23]) (h1 := (124, I, J, R)) rfl ?_
  refine ev_gf (c := 23) (t := 37) (X := R 23 13) rfl rfl (fun _ => rfl) rfl (hG 23 13 37 rfl rfl) ?_
  refine ev_gf (c := 37) (t := 41) (X := R 37 3) rfl rfl (fun _ => rfl) rfl (hG 37 3 41 rfl rfl) ?_
  refine ev_go 1 (pc1 := 31) (lv1 := [.ref 44, .ref 23, .int t, .int n, .int r1, xmk, xmk, xmk]) (st1 := [.int t, .ref 41]) (h1 := (124, I, J, R)) rfl ?_
  refine ev_call (v1 := (some (.int r2))) (h1 := (124, I, J, R)) rfl rfl c3 ?_
  refine ev_go 2 (pc1 := 37) (lv1 := [.ref 44, .ref 23, .int t, .int n, .int r1, .int r2, xmk, xmk]) (st1 := [.ref 44]) (h1 := (124, I, J, R)) rfl ?_
  refine ev_gf (c := 44) (t := 47) (X := R 44 2) rfl rfl (fun _ => rfl) rfl (hG 44 2 47 rfl rfl) ?_
  refine ev_go 1 (pc1 := 41) (lv1 := [.ref 44, .ref 23, .int t, .int n, .int r1, .int r2, xmk, xmk]) (st1 := [.int n, .ref 47]) (h1 := (124, I, J, R)) rfl ?_
  refine ev_call (v1 := (some (.int r3))) (h1 := (124, I, J, R)) rfl rfl c4 ?_
  refine ev_go 3 (pc1 := 50) (lv1 := [.ref 44, .ref 23, .int t, .int n, .int r1, .int r2, .int r3, xmk]) (st1 := [.int r1, .int r3]) (h1 := (124, I, J, R)) rfl ?_
  refine ev_br (b1 := false) rfl rfl (xcd_neq (x := r3) (y := r1) (by first | exact b1 | omega)) ?_
  refine ev_go 2 (pc1 := 57) (lv1 := [.ref 44, .ref 23, .int t, .int n, .int r1, .int r2, .int r3, xmk]) (st1 := [.int r2, .int r3]) (h1 := (124, I, J, R)) rfl ?_
  refine ev_br (b1 := true) rfl rfl (xcd_eq (x := r3) (y := r2) (by first | exact b2 | omega)) ?_
  refine ev_go 2 (pc1 := 66) (lv1 := [.ref 44, .ref 23, .int t, .int n, .int r1, .int r2, .int r3, xmk]) (st1 := [.int r1, .int r3]) (h1 := (124, I, J, R)) rfl ?_
  refine ev_br (b1 := true) rfl rfl (xcd_ne (x := r3) (y := r1) (by first | exact b3 | omega)) ?_
  refine ev_go 3 (pc1 := 79) (lv1 := [.ref 44, .ref 23, .int t, .int n, .int r1, .int r2, .int r3, .int r1]) (st1 := [.ref 23]) (h1 := (124, I, J, R)) rfl ?_
  refine ev_gf (c := 23) (t := 35) (X := R 23 11) rfl rfl (fun _ => rfl) rfl (hG 23 11 35 rfl rfl) ?_
  refine ev_go 1 (pc1 := 83) (lv1 := [.ref 44, .ref 23, .int t, .int n, .int r1, .int r2, .int r3, .int r1]) (st1 := [.int n, .ref 35]) (h1 := (124, I, J, R)) rfl ?_
  refine ev_call (v1 := (some (.int r4))) (h1 := (124, I, J, R)) rfl rfl c5 ?_
  refine ev_go 1 (pc1 := 88) (lv1 := [.ref 44, .ref 23, .int t, .int n, .int r1, .int r2, .int r3, .int r1]) (st1 := [.int r1, .int r4]) (h1 := (124, I, J, R)) rfl ?_
  refine ev_go 4 (pc1 := 92) (lv1 := [.ref 44, .ref 23, .int t, .int n, .int r1, .int r2, .int r3, .int r1]) (st1 := [.int 1, .int ((r4 >>> (r1 &&& 31)) &&& 1)]) (h1 := (124, I, J, R)) rfl ?_
  refine ev_br (b1 := true) rfl rfl (xcd_eq (x := ((r4 >>> (r1 &&& 31)) &&& 1)) (y := 1) (by rw [show ((1 : Int32)).toInt = 1 from by decide]; first | exact b4 | omega)) ?_
  refine ev_go 1 (pc1 := 115) (lv1 := [.ref 44, .ref 23, .int t, .int n, .int r1, .int r2, .int r3, .int r1]) (st1 := [.int 0]) (h1 := (124, I, J, R)) rfl ?_
  exact ev_ret rfl rfl
set_option maxRecDepth 20000 in
theorem te_b1_23 {L : Nat} {xs : Nat → Int32} {d : Nat} {I : Nat → Nat → Int32} {J : Nat → Nat → Int64} {R : Nat → Nat → Nat} {t n r1 r2 r3 r4 r5 r6 : Int32} (hG : aGd R) (c1 : xEv L xs d 59 0 [.ref 23, .int n] [] (124, I, J, R) (some (.int 1)) (124, I, J, R)) (c2 : xEv L xs d 39 0 [.ref 40, .int t] [] (124, I, J, R) (some (.int r1)) (124, I, J, R)) (c3 : xEv L xs d 39 0 [.ref 41, .int t] [] (124, I, J, R) (some (.int r2)) (124, I, J, R)) (c4 : xEv L xs d 39 0 [.ref 47, .int n] [] (124, I, J, R) (some (.int r3)) (124, I, J, R)) (b1 : r3.toInt ≠ r1.toInt) (b2 : r3.toInt = r2.toInt) (b3 : r3.toInt ≠ r1.toInt) (c5 : xEv L xs d 39 0 [.ref 35, .int n] [] (124, I, J, R) (some (.int r4)) (124, I, J, R)) (b4 : ((r4 >>> (r1 &&& 31)) &&& 1).toInt ≠ 1) (c6 : xEv L xs d 60 0 [.ref 44, .ref 23, .int r1, xmk, xmk] [] (124, I, J, R) (some (.int r5)) (124, I, J, R)) (c7 : xEv L xs d 39 0 [.ref 25, .int r1] [] (124, I, J, R) (some (.int r6)) (124, I, J, R)) (b5 : r5.toInt ≥ r6.toInt) : xEv L xs (d + 1) 58 0 [.ref 44, .ref 23, .int t, .int n, xmk, xmk, xmk, xmk] [] (124, I, J, R) (some (.int 0)) (124, I, J, R) := by
  refine ev_go 2 (pc1 := 2) (lv1 := [.ref 44, .ref 23, .int t, .int n, xmk, xmk, xmk, xmk]) (st1 := [.int n, .ref 23]) (h1 := (124, I, J, R)) rfl ?_
  refine ev_call (v1 := (some (.int 1))) (h1 := (124, I, J, R)) rfl rfl c1 ?_
  refine ev_go 2 (pc1 := 11) (lv1 := [.ref 44, .ref 23, .int t, .int n, xmk, xmk, xmk, xmk]) (st1 := [.ref 23]) (h1 := (124, I, J, R)) rfl ?_
  refine ev_gf (c := 23) (t := 37) (X := R 23 13) rfl rfl (fun _ => rfl) rfl (hG 23 13 37 rfl rfl) ?_
  refine ev_gf (c := 37) (t := 40) (X := R 37 2) rfl rfl (fun _ => rfl) rfl (hG 37 2 40 rfl rfl) ?_
  refine ev_go 1 (pc1 := 18) (lv1 := [.ref 44, .ref 23, .int t, .int n, xmk, xmk, xmk, xmk]) (st1 := [.int t, .ref 40]) (h1 := (124, I, J, R)) rfl ?_
  refine ev_call (v1 := (some (.int r1))) (h1 := (124, I, J, R)) rfl rfl c2 ?_
  refine ev_go 2 (pc1 := 24) (lv1 := [.ref 44, .ref 23, .int t, .int n, .int r1, xmk, xmk, xmk]) (st1 := [.ref 23]) (h1 := (124, I, J, R)) rfl ?_
  refine ev_gf (c := 23) (t := 37) (X := R 23 13) rfl rfl (fun _ => rfl) rfl (hG 23 13 37 rfl rfl) ?_
  refine ev_gf (c := 37) (t := 41) (X := R 37 3) rfl rfl (fun _ => rfl) rfl (hG 37 3 41 rfl rfl) ?_
  refine ev_go 1 (pc1 := 31) (lv1 := [.ref 44, .ref 23, .int t, .int n, .int r1, xmk, xmk, xmk]) (st1 := [.int t, .ref 41]) (h1 := (124, I, J, R)) rfl ?_
  refine ev_call (v1 := (some (.int r2))) (h1 := (124, I, J, R)) rfl rfl c3 ?_
  refine ev_go 2 (pc1 := 37) (lv1 := [.ref 44, .ref 23, .int t, .int n, .int r1, .int r2, xmk, xmk]) (st1 := [.ref 44]) (h1 := (124, I, J, R)) rfl ?_
  refine ev_gf (c := 44) (t := 47) (X := R 44 2) rfl rfl (fun _ => rfl) rfl (hG 44 2 47 rfl rfl) ?_
  refine ev_go 1 (pc1 := 41) (lv1 := [.ref 44, .ref 23, .int t, .int n, .int r1, .int r2, xmk, xmk]) (st1 := [.int n, .ref 47]) (h1 := (124, I, J, R)) rfl ?_
  refine ev_call (v1 := (some (.int r3))) (h1 := (124, I, J, R)) rfl rfl c4 ?_
  refine ev_go 3 (pc1 := 50) (lv1 := [.ref 44, .ref 23, .int t, .int n, .int r1, .int r2, .int r3, xmk]) (st1 := [.int r1, .int r3]) (h1 := (124, I, J, R)) rfl ?_
  refine ev_br (b1 := false) rfl rfl (xcd_neq (x := r3) (y := r1) (by first | exact b1 | omega)) ?_
  refine ev_go 2 (pc1 := 57) (lv1 := [.ref 44, .ref 23, .int t, .int n, .int r1, .int r2, .int r3, xmk]) (st1 := [.int r2, .int r3]) (h1 := (124, I, J, R)) rfl ?_
  refine ev_br (b1 := true) rfl rfl (xcd_eq (x := r3) (y := r2) (by first | exact b2 | omega)) ?_
  refine ev_go 2 (pc1 := 66) (lv1 := [.ref 44, .ref 23, .int t, .int n, .int r1, .int r2, .int r3, xmk]) (st1 := [.int r1, .int r3]) (h1 := (124, I, J, R)) rfl ?_
  refine ev_br (b1 := true) rfl rfl (xcd_ne (x := r3) (y := r1) (by first | exact b3 | omega)) ?_
  refine ev_go 3 (pc1 := 79) (lv1 := [.ref 44, .ref 23, .int t, .int n, .int r1, .int r2, .int r3, .int r1]) (st1 := [.ref 23]) (h1 := (124, I, J, R)) rfl ?_
  refine ev_gf (c := 23) (t := 35) (X := R 23 11) rfl rfl (fun _ => rfl) rfl (hG 23 11 35 rfl rfl) ?_
  refine ev_go 1 (pc1 := 83) (lv1 := [.ref 44, .ref 23, .int t, .int n, .int r1, .int r2, .int r3, .int r1]) (st1 := [.int n, .ref 35]) (h1 := (124, I, J, R)) rfl ?_
  refine ev_call (v1 := (some (.int r4))) (h1 := (124, I, J, R)) rfl rfl c5 ?_
  refine ev_go 1 (pc1 := 88) (lv1 := [.ref 44, .ref 23, .int t, .int n, .int r1, .int r2, .int r3, .int r1]) (st1 := [.int r1, .int r4]) (h1 := (124, I, J, R)) rfl ?_
  refine ev_go 4 (pc1 := 92) (lv1 := [.ref 44, .ref 23, .int t, .int n, .int r1, .int r2, .int r3, .int r1]) (st1 := [.int 1, .int ((r4 >>> (r1 &&& 31)) &&& 1)]) (h1 := (124, I, J, R)) rfl ?_
  refine ev_br (b1 := false) rfl rfl (xcd_neq (x := ((r4 >>> (r1 &&& 31)) &&& 1)) (y := 1) (by rw [show ((1 : Int32)).toInt = 1 from by decide]; first | exact b4 | omega)) ?_
  refine ev_go 3 (pc1 := 99) (lv1 := [.ref 44, .ref 23, .int t, .int n, .int r1, .int r2, .int r3, .int r1]) (st1 := [.int r1, .ref 23, .ref 44]) (h1 := (124, I, J, R)) rfl ?_
  refine ev_call (v1 := (some (.int r5))) (h1 := (124, I, J, R)) rfl rfl c6 ?_
  refine ev_go 1 (pc1 := 103) (lv1 := [.ref 44, .ref 23, .int t, .int n, .int r1, .int r2, .int r3, .int r1]) (st1 := [.ref 23, .int r5]) (h1 := (124, I, J, R)) rfl ?_
  refine ev_gf (c := 23) (t := 25) (X := R 23 1) rfl rfl (fun _ => rfl) rfl (hG 23 1 25 rfl rfl) ?_
  refine ev_go 1 (pc1 := 108) (lv1 := [.ref 44, .ref 23, .int t, .int n, .int r1, .int r2, .int r3, .int r1]) (st1 := [.int r1, .ref 25, .int r5]) (h1 := (124, I, J, R)) rfl ?_
  refine ev_call (v1 := (some (.int r6))) (h1 := (124, I, J, R)) rfl rfl c7 ?_
  refine ev_br (b1 := false) rfl rfl (xcd_nlt (x := r5) (y := r6) (by first | exact b5 | omega)) ?_
  refine ev_go 1 (pc1 := 115) (lv1 := [.ref 44, .ref 23, .int t, .int n, .int r1, .int r2, .int r3, .int r1]) (st1 := [.int 0]) (h1 := (124, I, J, R)) rfl ?_
  exact ev_ret rfl rfl
set_option maxRecDepth 20000 in
theorem te_b2_23 {L : Nat} {xs : Nat → Int32} {d : Nat} {I : Nat → Nat → Int32} {J : Nat → Nat → Int64} {R : Nat → Nat → Nat} {t n r1 r2 r3 r4 r5 r6 r7 : Int32} (hG : aGd R) (c1 : xEv L xs d 59 0 [.ref 23, .int n] [] (124, I, J, R) (some (.int 1)) (124, I, J, R)) (c2 : xEv L xs d 39 0 [.ref 40, .int t] [] (124, I, J, R) (some (.int r1)) (124, I, J, R)) (c3 : xEv L xs d 39 0 [.ref 41, .int t] [] (124, I, J, R) (some (.int r2)) (124, I, J, R)) (c4 : xEv L xs d 39 0 [.ref 47, .int n] [] (124, I, J, R) (some (.int r3)) (124, I, J, R)) (b1 : r3.toInt ≠ r1.toInt) (b2 : r3.toInt = r2.toInt) (b3 : r3.toInt ≠ r1.toInt) (c5 : xEv L xs d 39 0 [.ref 35, .int n] [] (124, I, J, R) (some (.int r4)) (124, I, J, R)) (b4 : ((r4 >>> (r1 &&& 31)) &&& 1).toInt ≠ 1) (c6 : xEv L xs d 60 0 [.ref 44, .ref 23, .int r1, xmk, xmk] [] (124, I, J, R) (some (.int r5)) (124, I, J, R)) (c7 : xEv L xs d 39 0 [.ref 25, .int r1] [] (124, I, J, R) (some (.int r6)) (124, I, J, R)) (b5 : r5.toInt < r6.toInt) (c8 : xEv L xs d 33 0 [.ref 47, .int n, .int r1] [] (124, I, J, R) none (124, (uI I 47 n.toNatClampNeg r1), J, R)) (c9 : xEv L xs d 39 0 [.ref 36, .int n] [] (124, (uI I 47 n.toNatClampNeg r1), J, R) (some (.int r7)) (124, (uI I 47 n.toNatClampNeg r1), J, R)) (b6 : t.toInt ≥ r7.toInt) : xEv L xs (d + 1) 58 0 [.ref 44, .ref 23, .int t, .int n, xmk, xmk, xmk, xmk] [] (124, I, J, R) (some (.int 1)) (124, (uI I 47 n.toNatClampNeg r1), J, R) := by
  refine ev_go 2 (pc1 := 2) (lv1 := [.ref 44, .ref 23, .int t, .int n, xmk, xmk, xmk, xmk]) (st1 := [.int n, .ref 23]) (h1 := (124, I, J, R)) rfl ?_
  refine ev_call (v1 := (some (.int 1))) (h1 := (124, I, J, R)) rfl rfl c1 ?_
  refine ev_go 2 (pc1 := 11) (lv1 := [.ref 44, .ref 23, .int t, .int n, xmk, xmk, xmk, xmk]) (st1 := [.ref 23]) (h1 := (124, I, J, R)) rfl ?_
  refine ev_gf (c := 23) (t := 37) (X := R 23 13) rfl rfl (fun _ => rfl) rfl (hG 23 13 37 rfl rfl) ?_
  refine ev_gf (c := 37) (t := 40) (X := R 37 2) rfl rfl (fun _ => rfl) rfl (hG 37 2 40 rfl rfl) ?_
  refine ev_go 1 (pc1 := 18) (lv1 := [.ref 44, .ref 23, .int t, .int n, xmk, xmk, xmk, xmk]) (st1 := [.int t, .ref 40]) (h1 := (124, I, J, R)) rfl ?_
  refine ev_call (v1 := (some (.int r1))) (h1 := (124, I, J, R)) rfl rfl c2 ?_
  refine ev_go 2 (pc1 := 24) (lv1 := [.ref 44, .ref 23, .int t, .int n, .int r1, xmk, xmk, xmk]) (st1 := [.ref 23]) (h1 := (124, I, J, R)) rfl ?_
  refine ev_gf (c := 23) (t := 37) (X := R 23 13) rfl rfl (fun _ => rfl) rfl (hG 23 13 37 rfl rfl) ?_
  refine ev_gf (c := 37) (t := 41) (X := R 37 3) rfl rfl (fun _ => rfl) rfl (hG 37 3 41 rfl rfl) ?_
  refine ev_go 1 (pc1 := 31) (lv1 := [.ref 44, .ref 23, .int t, .int n, .int r1, xmk, xmk, xmk]) (st1 := [.int t, .ref 41]) (h1 := (124, I, J, R)) rfl ?_
  refine ev_call (v1 := (some (.int r2))) (h1 := (124, I, J, R)) rfl rfl c3 ?_
  refine ev_go 2 (pc1 := 37) (lv1 := [.ref 44, .ref 23, .int t, .int n, .int r1, .int r2, xmk, xmk]) (st1 := [.ref 44]) (h1 := (124, I, J, R)) rfl ?_
  refine ev_gf (c := 44) (t := 47) (X := R 44 2) rfl rfl (fun _ => rfl) rfl (hG 44 2 47 rfl rfl) ?_
  refine ev_go 1 (pc1 := 41) (lv1 := [.ref 44, .ref 23, .int t, .int n, .int r1, .int r2, xmk, xmk]) (st1 := [.int n, .ref 47]) (h1 := (124, I, J, R)) rfl ?_
  refine ev_call (v1 := (some (.int r3))) (h1 := (124, I, J, R)) rfl rfl c4 ?_
  refine ev_go 3 (pc1 := 50) (lv1 := [.ref 44, .ref 23, .int t, .int n, .int r1, .int r2, .int r3, xmk]) (st1 := [.int r1, .int r3]) (h1 := (124, I, J, R)) rfl ?_
  refine ev_br (b1 := false) rfl rfl (xcd_neq (x := r3) (y := r1) (by first | exact b1 | omega)) ?_
  refine ev_go 2 (pc1 := 57) (lv1 := [.ref 44, .ref 23, .int t, .int n, .int r1, .int r2, .int r3, xmk]) (st1 := [.int r2, .int r3]) (h1 := (124, I, J, R)) rfl ?_
  refine ev_br (b1 := true) rfl rfl (xcd_eq (x := r3) (y := r2) (by first | exact b2 | omega)) ?_
  refine ev_go 2 (pc1 := 66) (lv1 := [.ref 44, .ref 23, .int t, .int n, .int r1, .int r2, .int r3, xmk]) (st1 := [.int r1, .int r3]) (h1 := (124, I, J, R)) rfl ?_
  refine ev_br (b1 := true) rfl rfl (xcd_ne (x := r3) (y := r1) (by first | exact b3 | omega)) ?_
  refine ev_go 3 (pc1 := 79) (lv1 := [.ref 44, .ref 23, .int t, .int n, .int r1, .int r2, .int r3, .int r1]) (st1 := [.ref 23]) (h1 := (124, I, J, R)) rfl ?_
  refine ev_gf (c := 23) (t := 35) (X := R 23 11) rfl rfl (fun _ => rfl) rfl (hG 23 11 35 rfl rfl) ?_
  refine ev_go 1 (pc1 := 83) (lv1 := [.ref 44, .ref 23, .int t, .int n, .int r1, .int r2, .int r3, .int r1]) (st1 := [.int n, .ref 35]) (h1 := (124, I, J, R)) rfl ?_
  refine ev_call (v1 := (some (.int r4))) (h1 := (124, I, J, R)) rfl rfl c5 ?_
  refine ev_go 1 (pc1 := 88) (lv1 := [.ref 44, .ref 23, .int t, .int n, .int r1, .int r2, .int r3, .int r1]) (st1 := [.int r1, .int r4]) (h1 := (124, I, J, R)) rfl ?_
  refine ev_go 4 (pc1 := 92) (lv1 := [.ref 44, .ref 23, .int t, .int n, .int r1, .int r2, .int r3, .int r1]) (st1 := [.int 1, .int ((r4 >>> (r1 &&& 31)) &&& 1)]) (h1 := (124, I, J, R)) rfl ?_
  refine ev_br (b1 := false) rfl rfl (xcd_neq (x := ((r4 >>> (r1 &&& 31)) &&& 1)) (y := 1) (by rw [show ((1 : Int32)).toInt = 1 from by decide]; first | exact b4 | omega)) ?_
  refine ev_go 3 (pc1 := 99) (lv1 := [.ref 44, .ref 23, .int t, .int n, .int r1, .int r2, .int r3, .int r1]) (st1 := [.int r1, .ref 23, .ref 44]) (h1 := (124, I, J, R)) rfl ?_
  refine ev_call (v1 := (some (.int r5))) (h1 := (124, I, J, R)) rfl rfl c6 ?_
  refine ev_go 1 (pc1 := 103) (lv1 := [.ref 44, .ref 23, .int t, .int n, .int r1, .int r2, .int r3, .int r1]) (st1 := [.ref 23, .int r5]) (h1 := (124, I, J, R)) rfl ?_
  refine ev_gf (c := 23) (t := 25) (X := R 23 1) rfl rfl (fun _ => rfl) rfl (hG 23 1 25 rfl rfl) ?_
  refine ev_go 1 (pc1 := 108) (lv1 := [.ref 44, .ref 23, .int t, .int n, .int r1, .int r2, .int r3, .int r1]) (st1 := [.int r1, .ref 25, .int r5]) (h1 := (124, I, J, R)) rfl ?_
  refine ev_call (v1 := (some (.int r6))) (h1 := (124, I, J, R)) rfl rfl c7 ?_
  refine ev_br (b1 := true) rfl rfl (xcd_lt (x := r5) (y := r6) (by first | exact b5 | omega)) ?_
  refine ev_go 1 (pc1 := 117) (lv1 := [.ref 44, .ref 23, .int t, .int n, .int r1, .int r2, .int r3, .int r1]) (st1 := [.ref 44]) (h1 := (124, I, J, R)) rfl ?_
  refine ev_gf (c := 44) (t := 47) (X := R 44 2) rfl rfl (fun _ => rfl) rfl (hG 44 2 47 rfl rfl) ?_
  refine ev_go 2 (pc1 := 123) (lv1 := [.ref 44, .ref 23, .int t, .int n, .int r1, .int r2, .int r3, .int r1]) (st1 := [.int r1, .int n, .ref 47]) (h1 := (124, I, J, R)) rfl ?_
  refine ev_call (v1 := none) (h1 := (124, (uI I 47 n.toNatClampNeg r1), J, R)) rfl rfl c8 ?_
  refine ev_go 2 (pc1 := 128) (lv1 := [.ref 44, .ref 23, .int t, .int n, .int r1, .int r2, .int r3, .int r1]) (st1 := [.ref 23, .int t]) (h1 := (124, (uI I 47 n.toNatClampNeg r1), J, R)) rfl ?_
  refine ev_gf (c := 23) (t := 36) (X := R 23 12) rfl rfl (fun _ => rfl) rfl (hG 23 12 36 rfl rfl) ?_
  refine ev_go 1 (pc1 := 132) (lv1 := [.ref 44, .ref 23, .int t, .int n, .int r1, .int r2, .int r3, .int r1]) (st1 := [.int n, .ref 36, .int t]) (h1 := (124, (uI I 47 n.toNatClampNeg r1), J, R)) rfl ?_
  refine ev_call (v1 := (some (.int r7))) (h1 := (124, (uI I 47 n.toNatClampNeg r1), J, R)) rfl rfl c9 ?_
  refine ev_br (b1 := true) rfl rfl (xcd_ge (x := t) (y := r7) (by first | exact b6 | omega)) ?_
  refine ev_go 1 (pc1 := 149) (lv1 := [.ref 44, .ref 23, .int t, .int n, .int r1, .int r2, .int r3, .int r1]) (st1 := [.int 1]) (h1 := (124, (uI I 47 n.toNatClampNeg r1), J, R)) rfl ?_
  exact ev_ret rfl rfl
set_option maxRecDepth 20000 in
theorem te_b3_23 {L : Nat} {xs : Nat → Int32} {d : Nat} {I : Nat → Nat → Int32} {J : Nat → Nat → Int64} {R : Nat → Nat → Nat} {t n r1 r2 r3 r4 r5 r6 r7 : Int32} (hG : aGd R) (c1 : xEv L xs d 59 0 [.ref 23, .int n] [] (124, I, J, R) (some (.int 1)) (124, I, J, R)) (c2 : xEv L xs d 39 0 [.ref 40, .int t] [] (124, I, J, R) (some (.int r1)) (124, I, J, R)) (c3 : xEv L xs d 39 0 [.ref 41, .int t] [] (124, I, J, R) (some (.int r2)) (124, I, J, R)) (c4 : xEv L xs d 39 0 [.ref 47, .int n] [] (124, I, J, R) (some (.int r3)) (124, I, J, R)) (b1 : r3.toInt ≠ r1.toInt) (b2 : r3.toInt = r2.toInt) (b3 : r3.toInt ≠ r1.toInt) (c5 : xEv L xs d 39 0 [.ref 35, .int n] [] (124, I, J, R) (some (.int r4)) (124, I, J, R)) (b4 : ((r4 >>> (r1 &&& 31)) &&& 1).toInt ≠ 1) (c6 : xEv L xs d 60 0 [.ref 44, .ref 23, .int r1, xmk, xmk] [] (124, I, J, R) (some (.int r5)) (124, I, J, R)) (c7 : xEv L xs d 39 0 [.ref 25, .int r1] [] (124, I, J, R) (some (.int r6)) (124, I, J, R)) (b5 : r5.toInt < r6.toInt) (c8 : xEv L xs d 33 0 [.ref 47, .int n, .int r1] [] (124, I, J, R) none (124, (uI I 47 n.toNatClampNeg r1), J, R)) (c9 : xEv L xs d 39 0 [.ref 36, .int n] [] (124, (uI I 47 n.toNatClampNeg r1), J, R) (some (.int r7)) (124, (uI I 47 n.toNatClampNeg r1), J, R)) (b6 : t.toInt < r7.toInt) (c10 : xEv L xs d 33 0 [.ref 48, .int n, .int r1] [] (124, (uI I 47 n.toNatClampNeg r1), J, R) none (124, (uI (uI I 47 n.toNatClampNeg r1) 48 n.toNatClampNeg r1), J, R)) : xEv L xs (d + 1) 58 0 [.ref 44, .ref 23, .int t, .int n, xmk, xmk, xmk, xmk] [] (124, I, J, R) (some (.int 1)) (124, (uI (uI I 47 n.toNatClampNeg r1) 48 n.toNatClampNeg r1), J, R) := by
  refine ev_go 2 (pc1 := 2) (lv1 := [.ref 44, .ref 23, .int t, .int n, xmk, xmk, xmk, xmk]) (st1 := [.int n, .ref 23]) (h1 := (124, I, J, R)) rfl ?_
  refine ev_call (v1 := (some (.int 1))) (h1 := (124, I, J, R)) rfl rfl c1 ?_
  refine ev_go 2 (pc1 := 11) (lv1 := [.ref 44, .ref 23, .int t, .int n, xmk, xmk, xmk, xmk]) (st1 := [.ref 23]) (h1 := (124, I, J, R)) rfl ?_
  refine ev_gf (c := 23) (t := 37) (X := R 23 13) rfl rfl (fun _ => rfl) rfl (hG 23 13 37 rfl rfl) ?_
  refine ev_gf (c := 37) (t := 40) (X := R 37 2) rfl rfl (fun _ => rfl) rfl (hG 37 2 40 rfl rfl) ?_
  refine ev_go 1 (pc1 := 18) (lv1 := [.ref 44, .ref 23, .int t, .int n, xmk, xmk, xmk, xmk]) (st1 := [.int t, .ref 40]) (h1 := (124, I, J, R)) rfl ?_
  refine ev_call (v1 := (some (.int r1))) (h1 := (124, I, J, R)) rfl rfl c2 ?_
  refine ev_go 2 (pc1 := 24) (lv1 := [.ref 44, .ref 23, .int t, .int n, .int r1, xmk, xmk, xmk]) (st1 := [.ref 23]) (h1 := (124, I, J, R)) rfl ?_
  refine ev_gf (c := 23) (t := 37) (X := R 23 13) rfl rfl (fun _ => rfl) rfl (hG 23 13 37 rfl rfl) ?_
  refine ev_gf (c := 37) (t := 41) (X := R 37 3) rfl rfl (fun _ => rfl) rfl (hG 37 3 41 rfl rfl) ?_
  refine ev_go 1 (pc1 := 31) (lv1 := [.ref 44, .ref 23, .int t, .int n, .int r1, xmk, xmk, xmk]) (st1 := [.int t, .ref 41]) (h1 := (124, I, J, R)) rfl ?_
  refine ev_call (v1 := (some (.int r2))) (h1 := (124, I, J, R)) rfl rfl c3 ?_
  refine ev_go 2 (pc1 := 37) (lv1 := [.ref 44, .ref 23, .int t, .int n, .int r1, .int r2, xmk, xmk]) (st1 := [.ref 44]) (h1 := (124, I, J, R)) rfl ?_
  refine ev_gf (c := 44) (t := 47) (X := R 44 2) rfl rfl (fun _ => rfl) rfl (hG 44 2 47 rfl rfl) ?_
  refine ev_go 1 (pc1 := 41) (lv1 := [.ref 44, .ref 23, .int t, .int n, .int r1, .int r2, xmk, xmk]) (st1 := [.int n, .ref 47]) (h1 := (124, I, J, R)) rfl ?_
  refine ev_call (v1 := (some (.int r3))) (h1 := (124, I, J, R)) rfl rfl c4 ?_
  refine ev_go 3 (pc1 := 50) (lv1 := [.ref 44, .ref 23, .int t, .int n, .int r1, .int r2, .int r3, xmk]) (st1 := [.int r1, .int r3]) (h1 := (124, I, J, R)) rfl ?_
  refine ev_br (b1 := false) rfl rfl (xcd_neq (x := r3) (y := r1) (by first | exact b1 | omega)) ?_
  refine ev_go 2 (pc1 := 57) (lv1 := [.ref 44, .ref 23, .int t, .int n, .int r1, .int r2, .int r3, xmk]) (st1 := [.int r2, .int r3]) (h1 := (124, I, J, R)) rfl ?_
  refine ev_br (b1 := true) rfl rfl (xcd_eq (x := r3) (y := r2) (by first | exact b2 | omega)) ?_
  refine ev_go 2 (pc1 := 66) (lv1 := [.ref 44, .ref 23, .int t, .int n, .int r1, .int r2, .int r3, xmk]) (st1 := [.int r1, .int r3]) (h1 := (124, I, J, R)) rfl ?_
  refine ev_br (b1 := true) rfl rfl (xcd_ne (x := r3) (y := r1) (by first | exact b3 | omega)) ?_
  refine ev_go 3 (pc1 := 79) (lv1 := [.ref 44, .ref 23, .int t, .int n, .int r1, .int r2, .int r3, .int r1]) (st1 := [.ref 23]) (h1 := (124, I, J, R)) rfl ?_
  refine ev_gf (c := 23) (t := 35) (X := R 23 11) rfl rfl (fun _ => rfl) rfl (hG 23 11 35 rfl rfl) ?_
  refine ev_go 1 (pc1 := 83) (lv1 := [.ref 44, .ref 23, .int t, .int n, .int r1, .int r2, .int r3, .int r1]) (st1 := [.int n, .ref 35]) (h1 := (124, I, J, R)) rfl ?_
  refine ev_call (v1 := (some (.int r4))) (h1 := (124, I, J, R)) rfl rfl c5 ?_
  refine ev_go 1 (pc1 := 88) (lv1 := [.ref 44, .ref 23, .int t, .int n, .int r1, .int r2, .int r3, .int r1]) (st1 := [.int r1, .int r4]) (h1 := (124, I, J, R)) rfl ?_
  refine ev_go 4 (pc1 := 92) (lv1 := [.ref 44, .ref 23, .int t, .int n, .int r1, .int r2, .int r3, .int r1]) (st1 := [.int 1, .int ((r4 >>> (r1 &&& 31)) &&& 1)]) (h1 := (124, I, J, R)) rfl ?_
  refine ev_br (b1 := false) rfl rfl (xcd_neq (x := ((r4 >>> (r1 &&& 31)) &&& 1)) (y := 1) (by rw [show ((1 : Int32)).toInt = 1 from by decide]; first | exact b4 | omega)) ?_
  refine ev_go 3 (pc1 := 99) (lv1 := [.ref 44, .ref 23, .int t, .int n, .int r1, .int r2, .int r3, .int r1]) (st1 := [.int r1, .ref 23, .ref 44]) (h1 := (124, I, J, R)) rfl ?_
  refine ev_call (v1 := (some (.int r5))) (h1 := (124, I, J, R)) rfl rfl c6 ?_
  refine ev_go 1 (pc1 := 103) (lv1 := [.ref 44, .ref 23, .int t, .int n, .int r1, .int r2, .int r3, .int r1]) (st1 := [.ref 23, .int r5]) (h1 := (124, I, J, R)) rfl ?_
  refine ev_gf (c := 23) (t := 25) (X := R 23 1) rfl rfl (fun _ => rfl) rfl (hG 23 1 25 rfl rfl) ?_
  refine ev_go 1 (pc1 := 108) (lv1 := [.ref 44, .ref 23, .int t, .int n, .int r1, .int r2, .int r3, .int r1]) (st1 := [.int r1, .ref 25, .int r5]) (h1 := (124, I, J, R)) rfl ?_
  refine ev_call (v1 := (some (.int r6))) (h1 := (124, I, J, R)) rfl rfl c7 ?_
  refine ev_br (b1 := true) rfl rfl (xcd_lt (x := r5) (y := r6) (by first | exact b5 | omega)) ?_
  refine ev_go 1 (pc1 := 117) (lv1 := [.ref 44, .ref 23, .int t, .int n, .int r1, .int r2, .int r3, .int r1]) (st1 := [.ref 44]) (h1 := (124, I, J, R)) rfl ?_
  refine ev_gf (c := 44) (t := 47) (X := R 44 2) rfl rfl (fun _ => rfl) rfl (hG 44 2 47 rfl rfl) ?_
  refine ev_go 2 (pc1 := 123) (lv1 := [.ref 44, .ref 23, .int t, .int n, .int r1, .int r2, .int r3, .int r1]) (st1 := [.int r1, .int n, .ref 47]) (h1 := (124, I, J, R)) rfl ?_
  refine ev_call (v1 := none) (h1 := (124, (uI I 47 n.toNatClampNeg r1), J, R)) rfl rfl c8 ?_
  refine ev_go 2 (pc1 := 128) (lv1 := [.ref 44, .ref 23, .int t, .int n, .int r1, .int r2, .int r3, .int r1]) (st1 := [.ref 23, .int t]) (h1 := (124, (uI I 47 n.toNatClampNeg r1), J, R)) rfl ?_
  refine ev_gf (c := 23) (t := 36) (X := R 23 12) rfl rfl (fun _ => rfl) rfl (hG 23 12 36 rfl rfl) ?_
  refine ev_go 1 (pc1 := 132) (lv1 := [.ref 44, .ref 23, .int t, .int n, .int r1, .int r2, .int r3, .int r1]) (st1 := [.int n, .ref 36, .int t]) (h1 := (124, (uI I 47 n.toNatClampNeg r1), J, R)) rfl ?_
  refine ev_call (v1 := (some (.int r7))) (h1 := (124, (uI I 47 n.toNatClampNeg r1), J, R)) rfl rfl c9 ?_
  refine ev_br (b1 := false) rfl rfl (xcd_nge (x := t) (y := r7) (by first | exact b6 | omega)) ?_
  refine ev_go 1 (pc1 := 139) (lv1 := [.ref 44, .ref 23, .int t, .int n, .int r1, .int r2, .int r3, .int r1]) (st1 := [.ref 44]) (h1 := (124, (uI I 47 n.toNatClampNeg r1), J, R)) rfl ?_
  refine ev_gf (c := 44) (t := 48) (X := R 44 3) rfl rfl (fun _ => rfl) rfl (hG 44 3 48 rfl rfl) ?_
  refine ev_go 2 (pc1 := 145) (lv1 := [.ref 44, .ref 23, .int t, .int n, .int r1, .int r2, .int r3, .int r1]) (st1 := [.int r1, .int n, .ref 48]) (h1 := (124, (uI I 47 n.toNatClampNeg r1), J, R)) rfl ?_
  refine ev_call (v1 := none) (h1 := (124, (uI (uI I 47 n.toNatClampNeg r1) 48 n.toNatClampNeg r1), J, R)) rfl rfl c10 ?_
  refine ev_go 1 (pc1 := 149) (lv1 := [.ref 44, .ref 23, .int t, .int n, .int r1, .int r2, .int r3, .int r1]) (st1 := [.int 1]) (h1 := (124, (uI (uI I 47 n.toNatClampNeg r1) 48 n.toNatClampNeg r1), J, R)) rfl ?_
  exact ev_ret rfl rfl
set_option maxRecDepth 20000 in
theorem ti_a_23 {L : Nat} {xs : Nat → Int32} {d : Nat} {I : Nat → Nat → Int32} {J : Nat → Nat → Int64} {R : Nat → Nat → Nat} {i r1 : Int32} (hG : aGd R) (c1 : xEv L xs d 39 0 [.ref 45, .int i] [] (124, I, J, R) (some (.int r1)) (124, I, J, R)) (b1 : r1.toInt ≥ (I 37 5).toInt) : xEv L xs (d + 1) 57 0 [.ref 44, .int i, .ref 23, xmk] [] (124, I, J, R) (some (.int 0)) (124, I, J, R) := by
  refine ev_go 1 (pc1 := 1) (lv1 := [.ref 44, .int i, .ref 23, xmk]) (st1 := [.ref 44]) (h1 := (124, I, J, R)) rfl ?_
  refine ev_gf (c := 44) (t := 45) (X := R 44 0) rfl rfl (fun _ => rfl) rfl (hG 44 0 45 rfl rfl) ?_
  refine ev_go 1 (pc1 := 5) (lv1 := [.ref 44, .int i, .ref 23, xmk]) (st1 := [.int i, .ref 45]) (h1 := (124, I, J, R)) rfl ?_
  refine ev_call (v1 := (some (.int r1))) (h1 := (124, I, J, R)) rfl rfl c1 ?_
  refine ev_go 3 (pc1 := 11) (lv1 := [.ref 44, .int i, .ref 23, .int r1]) (st1 := [.ref 23, .int r1]) (h1 := (124, I, J, R)) rfl ?_
  refine ev_gf (c := 23) (t := 37) (X := R 23 13) rfl rfl (fun _ => rfl) rfl (hG 23 13 37 rfl rfl) ?_
  refine ev_go 1 (pc1 := 17) (lv1 := [.ref 44, .int i, .ref 23, .int r1]) (st1 := [.int (I 37 5), .int r1]) (h1 := (124, I, J, R)) rfl ?_
  refine ev_br (b1 := true) rfl rfl (xcd_ge (x := r1) (y := (I 37 5)) (by first | exact b1 | omega)) ?_
  refine ev_go 1 (pc1 := 43) (lv1 := [.ref 44, .int i, .ref 23, .int r1]) (st1 := [.int 0]) (h1 := (124, I, J, R)) rfl ?_
  exact ev_ret rfl rfl
set_option maxRecDepth 20000 in
theorem ti_0_23 {L : Nat} {xs : Nat → Int32} {d : Nat} {I : Nat → Nat → Int32} {J : Nat → Nat → Int64} {R : Nat → Nat → Nat} {i r1 : Int32} (hG : aGd R) (c1 : xEv L xs d 39 0 [.ref 45, .int i] [] (124, I, J, R) (some (.int r1)) (124, I, J, R)) (b1 : r1.toInt < (I 37 5).toInt) (b2 : i.toInt = 0) : xEv L xs (d + 1) 57 0 [.ref 44, .int i, .ref 23, xmk] [] (124, I, J, R) (some (.int 1)) (124, I, J, R) := by
  refine ev_go 1 (pc1 := 1) (lv1 := [.ref 44, .int i, .ref 23, xmk]) (st1 := [.ref 44]) (h1 := (124, I, J, R)) rfl ?_
  refine ev_gf (c := 44) (t := 45) (X := R 44 0) rfl rfl (fun _ => rfl) rfl (hG 44 0 45 rfl rfl) ?_
  refine ev_go 1 (pc1 := 5) (lv1 := [.ref 44, .int i, .ref 23, xmk]) (st1 := [.int i, .ref 45]) (h1 := (124, I, J, R)) rfl ?_
  refine ev_call (v1 := (some (.int r1))) (h1 := (124, I, J, R)) rfl rfl c1 ?_
  refine ev_go 3 (pc1 := 11) (lv1 := [.ref 44, .int i, .ref 23, .int r1]) (st1 := [.ref 23, .int r1]) (h1 := (124, I, J, R)) rfl ?_
  refine ev_gf (c := 23) (t := 37) (X := R 23 13) rfl rfl (fun _ => rfl) rfl (hG 23 13 37 rfl rfl) ?_
  refine ev_go 1 (pc1 := 17) (lv1 := [.ref 44, .int i, .ref 23, .int r1]) (st1 := [.int (I 37 5), .int r1]) (h1 := (124, I, J, R)) rfl ?_
  refine ev_br (b1 := false) rfl rfl (xcd_nge (x := r1) (y := (I 37 5)) (by first | exact b1 | omega)) ?_
  refine ev_go 1 (pc1 := 21) (lv1 := [.ref 44, .int i, .ref 23, .int r1]) (st1 := [.int i]) (h1 := (124, I, J, R)) rfl ?_
  refine ev_br (b1 := true) rfl rfl (xcd_eq (x := i) (y := 0) (by rw [show ((0 : Int32)).toInt = 0 from by decide]; first | exact b2 | omega)) ?_
  refine ev_go 2 (pc1 := 43) (lv1 := [.ref 44, .int i, .ref 23, .int r1]) (st1 := [.int 1]) (h1 := (124, I, J, R)) rfl ?_
  exact ev_ret rfl rfl
set_option maxRecDepth 20000 in
theorem ti_1_23 {L : Nat} {xs : Nat → Int32} {d : Nat} {I : Nat → Nat → Int32} {J : Nat → Nat → Int64} {R : Nat → Nat → Nat} {i r1 r2 : Int32} (hG : aGd R) (c1 : xEv L xs d 39 0 [.ref 45, .int i] [] (124, I, J, R) (some (.int r1)) (124, I, J, R)) (b1 : r1.toInt < (I 37 5).toInt) (b2 : i.toInt ≠ 0) (c2 : xEv L xs d 39 0 [.ref 45, .int (i - 1)] [] (124, I, J, R) (some (.int r2)) (124, I, J, R)) (b3 : r1.toInt < r2.toInt) : xEv L xs (d + 1) 57 0 [.ref 44, .int i, .ref 23, xmk] [] (124, I, J, R) (some (.int 0)) (124, I, J, R) := by
  refine ev_go 1 (pc1 := 1) (lv1 := [.ref 44, .int i, .ref 23, xmk]) (st1 := [.ref 44]) (h1 := (124, I, J, R)) rfl ?_
  refine ev_gf (c := 44) (t := 45) (X := R 44 0) rfl rfl (fun _ => rfl) rfl (hG 44 0 45 rfl rfl) ?_
  refine ev_go 1 (pc1 := 5) (lv1 := [.ref 44, .int i, .ref 23, xmk]) (st1 := [.int i, .ref 45]) (h1 := (124, I, J, R)) rfl ?_
  refine ev_call (v1 := (some (.int r1))) (h1 := (124, I, J, R)) rfl rfl c1 ?_
  refine ev_go 3 (pc1 := 11) (lv1 := [.ref 44, .int i, .ref 23, .int r1]) (st1 := [.ref 23, .int r1]) (h1 := (124, I, J, R)) rfl ?_
  refine ev_gf (c := 23) (t := 37) (X := R 23 13) rfl rfl (fun _ => rfl) rfl (hG 23 13 37 rfl rfl) ?_
  refine ev_go 1 (pc1 := 17) (lv1 := [.ref 44, .int i, .ref 23, .int r1]) (st1 := [.int (I 37 5), .int r1]) (h1 := (124, I, J, R)) rfl ?_
  refine ev_br (b1 := false) rfl rfl (xcd_nge (x := r1) (y := (I 37 5)) (by first | exact b1 | omega)) ?_
  refine ev_go 1 (pc1 := 21) (lv1 := [.ref 44, .int i, .ref 23, .int r1]) (st1 := [.int i]) (h1 := (124, I, J, R)) rfl ?_
  refine ev_br (b1 := false) rfl rfl (xcd_neq (x := i) (y := 0) (by rw [show ((0 : Int32)).toInt = 0 from by decide]; first | exact b2 | omega)) ?_
  refine ev_go 2 (pc1 := 26) (lv1 := [.ref 44, .int i, .ref 23, .int r1]) (st1 := [.ref 44, .int r1]) (h1 := (124, I, J, R)) rfl ?_
  refine ev_gf (c := 44) (t := 45) (X := R 44 0) rfl rfl (fun _ => rfl) rfl (hG 44 0 45 rfl rfl) ?_
  refine ev_go 3 (pc1 := 32) (lv1 := [.ref 44, .int i, .ref 23, .int r1]) (st1 := [.int (i - 1), .ref 45, .int r1]) (h1 := (124, I, J, R)) rfl ?_
  refine ev_call (v1 := (some (.int r2))) (h1 := (124, I, J, R)) rfl rfl c2 ?_
  refine ev_br (b1 := true) rfl rfl (xcd_lt (x := r1) (y := r2) (by first | exact b3 | omega)) ?_
  refine ev_go 1 (pc1 := 43) (lv1 := [.ref 44, .int i, .ref 23, .int r1]) (st1 := [.int 0]) (h1 := (124, I, J, R)) rfl ?_
  exact ev_ret rfl rfl
set_option maxRecDepth 20000 in
theorem ti_2_23 {L : Nat} {xs : Nat → Int32} {d : Nat} {I : Nat → Nat → Int32} {J : Nat → Nat → Int64} {R : Nat → Nat → Nat} {i r1 r2 : Int32} (hG : aGd R) (c1 : xEv L xs d 39 0 [.ref 45, .int i] [] (124, I, J, R) (some (.int r1)) (124, I, J, R)) (b1 : r1.toInt < (I 37 5).toInt) (b2 : i.toInt ≠ 0) (c2 : xEv L xs d 39 0 [.ref 45, .int (i - 1)] [] (124, I, J, R) (some (.int r2)) (124, I, J, R)) (b3 : r1.toInt ≥ r2.toInt) : xEv L xs (d + 1) 57 0 [.ref 44, .int i, .ref 23, xmk] [] (124, I, J, R) (some (.int 1)) (124, I, J, R) := by
  refine ev_go 1 (pc1 := 1) (lv1 := [.ref 44, .int i, .ref 23, xmk]) (st1 := [.ref 44]) (h1 := (124, I, J, R)) rfl ?_
  refine ev_gf (c := 44) (t := 45) (X := R 44 0) rfl rfl (fun _ => rfl) rfl (hG 44 0 45 rfl rfl) ?_
  refine ev_go 1 (pc1 := 5) (lv1 := [.ref 44, .int i, .ref 23, xmk]) (st1 := [.int i, .ref 45]) (h1 := (124, I, J, R)) rfl ?_
  refine ev_call (v1 := (some (.int r1))) (h1 := (124, I, J, R)) rfl rfl c1 ?_
  refine ev_go 3 (pc1 := 11) (lv1 := [.ref 44, .int i, .ref 23, .int r1]) (st1 := [.ref 23, .int r1]) (h1 := (124, I, J, R)) rfl ?_
  refine ev_gf (c := 23) (t := 37) (X := R 23 13) rfl rfl (fun _ => rfl) rfl (hG 23 13 37 rfl rfl) ?_
  refine ev_go 1 (pc1 := 17) (lv1 := [.ref 44, .int i, .ref 23, .int r1]) (st1 := [.int (I 37 5), .int r1]) (h1 := (124, I, J, R)) rfl ?_
  refine ev_br (b1 := false) rfl rfl (xcd_nge (x := r1) (y := (I 37 5)) (by first | exact b1 | omega)) ?_
  refine ev_go 1 (pc1 := 21) (lv1 := [.ref 44, .int i, .ref 23, .int r1]) (st1 := [.int i]) (h1 := (124, I, J, R)) rfl ?_
  refine ev_br (b1 := false) rfl rfl (xcd_neq (x := i) (y := 0) (by rw [show ((0 : Int32)).toInt = 0 from by decide]; first | exact b2 | omega)) ?_
  refine ev_go 2 (pc1 := 26) (lv1 := [.ref 44, .int i, .ref 23, .int r1]) (st1 := [.ref 44, .int r1]) (h1 := (124, I, J, R)) rfl ?_
  refine ev_gf (c := 44) (t := 45) (X := R 44 0) rfl rfl (fun _ => rfl) rfl (hG 44 0 45 rfl rfl) ?_
  refine ev_go 3 (pc1 := 32) (lv1 := [.ref 44, .int i, .ref 23, .int r1]) (st1 := [.int (i - 1), .ref 45, .int r1]) (h1 := (124, I, J, R)) rfl ?_
  refine ev_call (v1 := (some (.int r2))) (h1 := (124, I, J, R)) rfl rfl c2 ?_
  refine ev_br (b1 := false) rfl rfl (xcd_nlt (x := r1) (y := r2) (by first | exact b3 | omega)) ?_
  refine ev_go 2 (pc1 := 43) (lv1 := [.ref 44, .int i, .ref 23, .int r1]) (st1 := [.int 1]) (h1 := (124, I, J, R)) rfl ?_
  exact ev_ret rfl rfl
set_option maxRecDepth 20000 in
theorem da_s_23 {L : Nat} {xs : Nat → Int32} {d : Nat} {I : Nat → Nat → Int32} {J : Nat → Nat → Int64} {R : Nat → Nat → Nat} (hG : aGd R)  {v : Option Value} {h' : xH} (hk : xEv L xs d 56 7 [.ref 44, .ref 23, .int 0] [] (124, (uI I 44 5 1), J, R) v h') : xEv L xs d 56 0 [.ref 44, .ref 23, xmk] [] (124, I, J, R) v h' := by
  refine ev_go 5 (pc1 := 7) (lv1 := [.ref 44, .ref 23, .int 0]) (st1 := []) (h1 := (124, (uI I 44 5 1), J, R)) rfl ?_
  exact hk
set_option maxRecDepth 20000 in
theorem da_a_23 {L : Nat} {xs : Nat → Int32} {d : Nat} {I : Nat → Nat → Int32} {J : Nat → Nat → Int64} {R : Nat → Nat → Nat} {i r1 r2 : Int32} (hG : aGd R) (b1 : i.toInt < (I 23 16).toInt) (c1 : xEv L xs d 39 0 [.ref 31, .int i] [] (124, I, J, R) (some (.int r1)) (124, I, J, R)) (c2 : xEv L xs d 33 0 [.ref 47, .int i, .int r1] [] (124, I, J, R) none (124, (uI I 47 i.toNatClampNeg r1), J, R)) (c3 : xEv L xs d 39 0 [.ref 31, .int i] [] (124, (uI I 47 i.toNatClampNeg r1), J, R) (some (.int r2)) (124, (uI I 47 i.toNatClampNeg r1), J, R)) (c4 : xEv L xs d 33 0 [.ref 48, .int i, .int r2] [] (124, (uI I 47 i.toNatClampNeg r1), J, R) none (124, (uI (uI I 47 i.toNatClampNeg r1) 48 i.toNatClampNeg r2), J, R)) {v : Option Value} {h' : xH} (hk : xEv L xs (d + 1) 56 7 [.ref 44, .ref 23, .int (i + 1)] [] (124, (uI (uI I 47 i.toNatClampNeg r1) 48 i.toNatClampNeg r2), J, R) v h') : xEv L xs (d + 1) 56 7 [.ref 44, .ref 23, .int i] [] (124, I, J, R) v h' := by
  refine ev_go 3 (pc1 := 12) (lv1 := [.ref 44, .ref 23, .int i]) (st1 := [.int (I 23 16), .int i]) (h1 := (124, I, J, R)) rfl ?_
  refine ev_br (b1 := false) rfl rfl (xcd_nge (x := i) (y := (I 23 16)) (by first | exact b1 | omega)) ?_
  refine ev_go 1 (pc1 := 16) (lv1 := [.ref 44, .ref 23, .int i]) (st1 := [.ref 44]) (h1 := (124, I, J, R)) rfl ?_
  refine ev_gf (c := 44) (t := 47) (X := R 44 2) rfl rfl (fun _ => rfl) rfl (hG 44 2 47 rfl rfl) ?_
  refine ev_go 2 (pc1 := 21) (lv1 := [.ref 44, .ref 23, .int i]) (st1 := [.ref 23, .int i, .ref 47]) (h1 := (124, I, J, R)) rfl ?_
  refine ev_gf (c := 23) (t := 31) (X := R 23 7) rfl rfl (fun _ => rfl) rfl (hG 23 7 31 rfl rfl) ?_
  refine ev_go 1 (pc1 := 25) (lv1 := [.ref 44, .ref 23, .int i]) (st1 := [.int i, .ref 31, .int i, .ref 47]) (h1 := (124, I, J, R)) rfl ?_
  refine ev_call (v1 := (some (.int r1))) (h1 := (124, I, J, R)) rfl rfl c1 ?_
  refine ev_call (v1 := none) (h1 := (124, (uI I 47 i.toNatClampNeg r1), J, R)) rfl rfl c2 ?_
  refine ev_go 1 (pc1 := 32) (lv1 := [.ref 44, .ref 23, .int i]) (st1 := [.ref 44]) (h1 := (124, (uI I 47 i.toNatClampNeg r1), J, R)) rfl ?_
  refine ev_gf (c := 44) (t := 48) (X := R 44 3) rfl rfl (fun _ => rfl) rfl (hG 44 3 48 rfl rfl) ?_
  refine ev_go 2 (pc1 := 37) (lv1 := [.ref 44, .ref 23, .int i]) (st1 := [.ref 23, .int i, .ref 48]) (h1 := (124, (uI I 47 i.toNatClampNeg r1), J, R)) rfl ?_
  refine ev_gf (c := 23) (t := 31) (X := R 23 7) rfl rfl (fun _ => rfl) rfl (hG 23 7 31 rfl rfl) ?_
  refine ev_go 1 (pc1 := 41) (lv1 := [.ref 44, .ref 23, .int i]) (st1 := [.int i, .ref 31, .int i, .ref 48]) (h1 := (124, (uI I 47 i.toNatClampNeg r1), J, R)) rfl ?_
  refine ev_call (v1 := (some (.int r2))) (h1 := (124, (uI I 47 i.toNatClampNeg r1), J, R)) rfl rfl c3 ?_
  refine ev_call (v1 := none) (h1 := (124, (uI (uI I 47 i.toNatClampNeg r1) 48 i.toNatClampNeg r2), J, R)) rfl rfl c4 ?_
  refine ev_go 2 (pc1 := 7) (lv1 := [.ref 44, .ref 23, .int (i + 1)]) (st1 := []) (h1 := (124, (uI (uI I 47 i.toNatClampNeg r1) 48 i.toNatClampNeg r2), J, R)) rfl ?_
  exact hk
set_option maxRecDepth 20000 in
theorem da_b_23 {L : Nat} {xs : Nat → Int32} {d : Nat} {I : Nat → Nat → Int32} {J : Nat → Nat → Int64} {R : Nat → Nat → Nat} {i : Int32} (hG : aGd R) (b1 : i.toInt ≥ (I 23 16).toInt) {v : Option Value} {h' : xH} (hk : xEv L xs d 56 55 [.ref 44, .ref 23, .int 0] [] (124, I, J, R) v h') : xEv L xs d 56 7 [.ref 44, .ref 23, .int i] [] (124, I, J, R) v h' := by
  refine ev_go 3 (pc1 := 12) (lv1 := [.ref 44, .ref 23, .int i]) (st1 := [.int (I 23 16), .int i]) (h1 := (124, I, J, R)) rfl ?_
  refine ev_br (b1 := true) rfl rfl (xcd_ge (x := i) (y := (I 23 16)) (by first | exact b1 | omega)) ?_
  refine ev_go 2 (pc1 := 55) (lv1 := [.ref 44, .ref 23, .int 0]) (st1 := []) (h1 := (124, I, J, R)) rfl ?_
  exact hk
set_option maxRecDepth 20000 in
theorem da_e_23 {L : Nat} {xs : Nat → Int32} {d : Nat} {I : Nat → Nat → Int32} {J : Nat → Nat → Int64} {R : Nat → Nat → Nat} {i : Int32} (hG : aGd R) (b1 : i.toInt ≥ (I 44 4).toInt) : xEv L xs d 56 55 [.ref 44, .ref 23, .int i] [] (124, I, J, R) (some (.int (I 44 4))) (124, I, J, R) := by
  refine ev_go 3 (pc1 := 60) (lv1 := [.ref 44, .ref 23, .int i]) (st1 := [.int (I 44 4), .int i]) (h1 := (124, I, J, R)) rfl ?_
  refine ev_br (b1 := true) rfl rfl (xcd_ge (x := i) (y := (I 44 4)) (by first | exact b1 | omega)) ?_
  refine ev_go 2 (pc1 := 108) (lv1 := [.ref 44, .ref 23, .int i]) (st1 := [.int (I 44 4)]) (h1 := (124, I, J, R)) rfl ?_
  exact ev_ret rfl rfl
set_option maxRecDepth 20000 in
theorem da_t_23 {L : Nat} {xs : Nat → Int32} {d : Nat} {I : Nat → Nat → Int32} {J : Nat → Nat → Int64} {R : Nat → Nat → Nat} {i : Int32} (hG : aGd R) (b1 : i.toInt < (I 44 4).toInt) (c1 : xEv L xs d 57 0 [.ref 44, .int i, .ref 23, xmk] [] (124, I, J, R) (some (.int 0)) (124, I, J, R)) : xEv L xs (d + 1) 56 55 [.ref 44, .ref 23, .int i] [] (124, I, J, R) (some (.int i)) (124, I, J, R) := by
  refine ev_go 3 (pc1 := 60) (lv1 := [.ref 44, .ref 23, .int i]) (st1 := [.int (I 44 4), .int i]) (h1 := (124, I, J, R)) rfl ?_
  refine ev_br (b1 := false) rfl rfl (xcd_nge (x := i) (y := (I 44 4)) (by first | exact b1 | omega)) ?_
  refine ev_go 3 (pc1 := 66) (lv1 := [.ref 44, .ref 23, .int i]) (st1 := [.ref 23, .int i, .ref 44]) (h1 := (124, I, J, R)) rfl ?_
  refine ev_call (v1 := (some (.int 0))) (h1 := (124, I, J, R)) rfl rfl c1 ?_
  refine ev_go 2 (pc1 := 97) (lv1 := [.ref 44, .ref 23, .int i]) (st1 := [.int i]) (h1 := (124, I, J, R)) rfl ?_
  exact ev_ret rfl rfl
set_option maxRecDepth 20000 in
theorem da_f_23 {L : Nat} {xs : Nat → Int32} {d : Nat} {I : Nat → Nat → Int32} {J : Nat → Nat → Int64} {R : Nat → Nat → Nat} {i r1 r2 : Int32} (hG : aGd R) (b1 : i.toInt < (I 44 4).toInt) (c1 : xEv L xs d 57 0 [.ref 44, .int i, .ref 23, xmk] [] (124, I, J, R) (some (.int 1)) (124, I, J, R)) (c2 : xEv L xs d 39 0 [.ref 45, .int i] [] (124, I, J, R) (some (.int r1)) (124, I, J, R)) (c3 : xEv L xs d 39 0 [.ref 46, .int i] [] (124, I, J, R) (some (.int r2)) (124, I, J, R)) (c4 : xEv L xs d 58 0 [.ref 44, .ref 23, .int r1, .int r2, xmk, xmk, xmk, xmk] [] (124, I, J, R) (some (.int 0)) (124, I, J, R)) : xEv L xs (d + 1) 56 55 [.ref 44, .ref 23, .int i] [] (124, I, J, R) (some (.int i)) (124, I, J, R) := by
  refine ev_go 3 (pc1 := 60) (lv1 := [.ref 44, .ref 23, .int i]) (st1 := [.int (I 44 4), .int i]) (h1 := (124, I, J, R)) rfl ?_
  refine ev_br (b1 := false) rfl rfl (xcd_nge (x := i) (y := (I 44 4)) (by first | exact b1 | omega)) ?_
  refine ev_go 3 (pc1 := 66) (lv1 := [.ref 44, .ref 23, .int i]) (st1 := [.ref 23, .int i, .ref 44]) (h1 := (124, I, J, R)) rfl ?_
  refine ev_call (v1 := (some (.int 1))) (h1 := (124, I, J, R)) rfl rfl c1 ?_
  refine ev_go 4 (pc1 := 75) (lv1 := [.ref 44, .ref 23, .int i]) (st1 := [.ref 44, .ref 23, .ref 44]) (h1 := (124, I, J, R)) rfl ?_
  refine ev_gf (c := 44) (t := 45) (X := R 44 0) rfl rfl (fun _ => rfl) rfl (hG 44 0 45 rfl rfl) ?_
  refine ev_go 1 (pc1 := 79) (lv1 := [.ref 44, .ref 23, .int i]) (st1 := [.int i, .ref 45, .ref 23, .ref 44]) (h1 := (124, I, J, R)) rfl ?_
  refine ev_call (v1 := (some (.int r1))) (h1 := (124, I, J, R)) rfl rfl c2 ?_
  refine ev_go 1 (pc1 := 83) (lv1 := [.ref 44, .ref 23, .int i]) (st1 := [.ref 44, .int r1, .ref 23, .ref 44]) (h1 := (124, I, J, R)) rfl ?_
  refine ev_gf (c := 44) (t := 46) (X := R 44 1) rfl rfl (fun _ => rfl) rfl (hG 44 1 46 rfl rfl) ?_
  refine ev_go 1 (pc1 := 87) (lv1 := [.ref 44, .ref 23, .int i]) (st1 := [.int i, .ref 46, .int r1, .ref 23, .ref 44]) (h1 := (124, I, J, R)) rfl ?_
  refine ev_call (v1 := (some (.int r2))) (h1 := (124, I, J, R)) rfl rfl c3 ?_
  refine ev_call (v1 := (some (.int 0))) (h1 := (124, I, J, R)) rfl rfl c4 ?_
  refine ev_go 2 (pc1 := 97) (lv1 := [.ref 44, .ref 23, .int i]) (st1 := [.int i]) (h1 := (124, I, J, R)) rfl ?_
  exact ev_ret rfl rfl
set_option maxRecDepth 20000 in
theorem da_n_23 {L : Nat} {xs : Nat → Int32} {d : Nat} {I : Nat → Nat → Int32} {J : Nat → Nat → Int64} {R : Nat → Nat → Nat} {I1 : Nat → Nat → Int32} {J1 : Nat → Nat → Int64} {i r1 r2 : Int32} (hG : aGd R) (b1 : i.toInt < (I 44 4).toInt) (c1 : xEv L xs d 57 0 [.ref 44, .int i, .ref 23, xmk] [] (124, I, J, R) (some (.int 1)) (124, I, J, R)) (c2 : xEv L xs d 39 0 [.ref 45, .int i] [] (124, I, J, R) (some (.int r1)) (124, I, J, R)) (c3 : xEv L xs d 39 0 [.ref 46, .int i] [] (124, I, J, R) (some (.int r2)) (124, I, J, R)) (c4 : xEv L xs d 58 0 [.ref 44, .ref 23, .int r1, .int r2, xmk, xmk, xmk, xmk] [] (124, I, J, R) (some (.int 1)) (124, I1, J1, R)) {v : Option Value} {h' : xH} (hk : xEv L xs (d + 1) 56 55 [.ref 44, .ref 23, .int (i + 1)] [] (124, I1, J1, R) v h') : xEv L xs (d + 1) 56 55 [.ref 44, .ref 23, .int i] [] (124, I, J, R) v h' := by
  refine ev_go 3 (pc1 := 60) (lv1 := [.ref 44, .ref 23, .int i]) (st1 := [.int (I 44 4), .int i]) (h1 := (124, I, J, R)) rfl ?_
  refine ev_br (b1 := false) rfl rfl (xcd_nge (x := i) (y := (I 44 4)) (by first | exact b1 | omega)) ?_
  refine ev_go 3 (pc1 := 66) (lv1 := [.ref 44, .ref 23, .int i]) (st1 := [.ref 23, .int i, .ref 44]) (h1 := (124, I, J, R)) rfl ?_
  refine ev_call (v1 := (some (.int 1))) (h1 := (124, I, J, R)) rfl rfl c1 ?_
  refine ev_go 4 (pc1 := 75) (lv1 := [.ref 44, .ref 23, .int i]) (st1 := [.ref 44, .ref 23, .ref 44]) (h1 := (124, I, J, R)) rfl ?_
  refine ev_gf (c := 44) (t := 45) (X := R 44 0) rfl rfl (fun _ => rfl) rfl (hG 44 0 45 rfl rfl) ?_
  refine ev_go 1 (pc1 := 79) (lv1 := [.ref 44, .ref 23, .int i]) (st1 := [.int i, .ref 45, .ref 23, .ref 44]) (h1 := (124, I, J, R)) rfl ?_
  refine ev_call (v1 := (some (.int r1))) (h1 := (124, I, J, R)) rfl rfl c2 ?_
  refine ev_go 1 (pc1 := 83) (lv1 := [.ref 44, .ref 23, .int i]) (st1 := [.ref 44, .int r1, .ref 23, .ref 44]) (h1 := (124, I, J, R)) rfl ?_
  refine ev_gf (c := 44) (t := 46) (X := R 44 1) rfl rfl (fun _ => rfl) rfl (hG 44 1 46 rfl rfl) ?_
  refine ev_go 1 (pc1 := 87) (lv1 := [.ref 44, .ref 23, .int i]) (st1 := [.int i, .ref 46, .int r1, .ref 23, .ref 44]) (h1 := (124, I, J, R)) rfl ?_
  refine ev_call (v1 := (some (.int r2))) (h1 := (124, I, J, R)) rfl rfl c3 ?_
  refine ev_call (v1 := (some (.int 1))) (h1 := (124, I1, J1, R)) rfl rfl c4 ?_
  refine ev_go 3 (pc1 := 55) (lv1 := [.ref 44, .ref 23, .int (i + 1)]) (st1 := []) (h1 := (124, I1, J1, R)) rfl ?_
  exact hk
set_option maxRecDepth 20000 in
theorem ju_x_23 {L : Nat} {xs : Nat → Int32} {d : Nat} {I : Nat → Nat → Int32} {J : Nat → Nat → Int64} {R : Nat → Nat → Nat} {I1 : Nat → Nat → Int32} {J1 : Nat → Nat → Int64} (hG : aGd R) (c1 : xEv L xs d 54 0 [.ref 44, .ref 1, xmk, xmk, xmk] [] (124, I, J, R) (some (.int 0)) (124, I1, J1, R)) : xEv L xs (d + 1) 53 0 [.ref 0, xmk] [] (124, I, J, R) (some (.int (-1000))) (124, (uI I1 1 1 0), J1, R) := by
  refine ev_go 1 (pc1 := 1) (lv1 := [.ref 0, xmk]) (st1 := [.ref 0]) (h1 := (124, I, J, R)) rfl ?_
  refine ev_gf (c := 0) (t := 44) (X := R 0 2) rfl rfl (fun _ => rfl) rfl (hG 0 2 44 rfl rfl) ?_
  refine ev_go 1 (pc1 := 5) (lv1 := [.ref 0, xmk]) (st1 := [.ref 0, .ref 44]) (h1 := (124, I, J, R)) rfl ?_
  refine ev_gf (c := 0) (t := 1) (X := R 0 0) rfl rfl (fun _ => rfl) rfl (hG 0 0 1 rfl rfl) ?_
  refine ev_call (v1 := (some (.int 0))) (h1 := (124, I1, J1, R)) rfl rfl c1 ?_
  refine ev_go 2 (pc1 := 13) (lv1 := [.ref 0, .int 0]) (st1 := [.ref 0]) (h1 := (124, I1, J1, R)) rfl ?_
  refine ev_gf (c := 0) (t := 1) (X := R 0 0) rfl rfl (fun _ => rfl) rfl (hG 0 0 1 rfl rfl) ?_
  refine ev_go 5 (pc1 := 27) (lv1 := [.ref 0, .int 0]) (st1 := [.int (-1000)]) (h1 := (124, (uI I1 1 1 0), J1, R)) rfl ?_
  exact ev_ret rfl rfl
set_option maxRecDepth 20000 in
theorem ju_y_23 {L : Nat} {xs : Nat → Int32} {d : Nat} {I : Nat → Nat → Int32} {J : Nat → Nat → Int64} {R : Nat → Nat → Nat} {I1 : Nat → Nat → Int32} {J1 : Nat → Nat → Int64} {I2 : Nat → Nat → Int32} {J2 : Nat → Nat → Int64} {r1 r2 : Int32} (hG : aGd R) (c1 : xEv L xs d 54 0 [.ref 44, .ref 1, xmk, xmk, xmk] [] (124, I, J, R) (some (.int 1)) (124, I1, J1, R)) (r_R_0_8 : R 0 8 = 24) (c2 : xEv L xs d 56 0 [.ref 44, .ref 23, xmk] [] (124, (uI I1 1 1 0), J1, R) (some (.int r1)) (124, I2, J2, R)) (c3 : xEv L xs d 61 0 [.ref 0, .int r1] [] (124, I2, J2, R) (some (.int r2)) (124, I2, J2, R)) : xEv L xs (d + 1) 53 0 [.ref 0, xmk] [] (124, I, J, R) (some (.int r2)) (124, I2, J2, R) := by
  refine ev_go 1 (pc1 := 1) (lv1 := [.ref 0, xmk]) (st1 := [.ref 0]) (h1 := (124, I, J, R)) rfl ?_
  refine ev_gf (c := 0) (t := 44) (X := R 0 2) rfl rfl (fun _ => rfl) rfl (hG 0 2 44 rfl rfl) ?_
  refine ev_go 1 (pc1 := 5) (lv1 := [.ref 0, xmk]) (st1 := [.ref 0, .ref 44]) (h1 := (124, I, J, R)) rfl ?_
  refine ev_gf (c := 0) (t := 1) (X := R 0 0) rfl rfl (fun _ => rfl) rfl (hG 0 0 1 rfl rfl) ?_
  refine ev_call (v1 := (some (.int 1))) (h1 := (124, I1, J1, R)) rfl rfl c1 ?_
  refine ev_go 2 (pc1 := 13) (lv1 := [.ref 0, .int 1]) (st1 := [.ref 0]) (h1 := (124, I1, J1, R)) rfl ?_
  refine ev_gf (c := 0) (t := 1) (X := R 0 0) rfl rfl (fun _ => rfl) rfl (hG 0 0 1 rfl rfl) ?_
  refine ev_go 6 (pc1 := 30) (lv1 := [.ref 0, .int 1]) (st1 := [.ref 0, .ref 0]) (h1 := (124, (uI I1 1 1 0), J1, R)) rfl ?_
  refine ev_gf (c := 0) (t := 44) (X := R 0 2) rfl rfl (fun _ => rfl) rfl (hG 0 2 44 rfl rfl) ?_
  refine ev_go 1 (pc1 := 34) (lv1 := [.ref 0, .int 1]) (st1 := [.ref 0, .ref 44, .ref 0]) (h1 := (124, (uI I1 1 1 0), J1, R)) rfl ?_
  refine ev_gf (c := 0) (t := 23) (X := R 0 8) rfl rfl (fun _ => rfl) rfl r_R_0_8 ?_
  refine ev_call (v1 := (some (.int r1))) (h1 := (124, I2, J2, R)) rfl rfl c2 ?_
  refine ev_call (v1 := (some (.int r2))) (h1 := (124, I2, J2, R)) rfl rfl c3 ?_
  exact ev_ret rfl rfl
