set_option maxRecDepth 20000 in
theorem mtb_0 {L : Nat} {xs : Nat → Int32} {d : Nat} {I : Nat → Nat → Int32} {J : Nat → Nat → Int64} {R : Nat → Nat → Nat} {w t r1 r2 : Int32} (hG : aGd R) (c1 : xEv L xs d 177 0 [.ref 86, .int t] [] (124, I, J, R) (some (.int r1)) (124, I, J, R)) (b1 : w.toInt = r1.toInt) (c2 : xEv L xs d 178 0 [.ref 86, .int t] [] (124, I, J, R) (some (.int r2)) (124, I, J, R)) : xEv L xs (d + 1) 176 0 [.ref 86, .int w, .int t] [] (124, I, J, R) (some (.int r2)) (124, I, J, R) := by
  refine ev_go 3 (pc1 := 3) (lv1 := [.ref 86, .int w, .int t]) (st1 := [.int t, .ref 86, .int w]) (h1 := (124, I, J, R)) rfl ?_
  refine ev_call (v1 := (some (.int r1))) (h1 := (124, I, J, R)) rfl rfl c1 ?_
  refine ev_br (b1 := false) rfl rfl (xcd_nne (x := w) (y := r1) (by first | exact b1 | omega)) ?_
  refine ev_go 2 (pc1 := 11) (lv1 := [.ref 86, .int w, .int t]) (st1 := [.int t, .ref 86]) (h1 := (124, I, J, R)) rfl ?_
  refine ev_call (v1 := (some (.int r2))) (h1 := (124, I, J, R)) rfl rfl c2 ?_
  refine ev_go 1 (pc1 := 35) (lv1 := [.ref 86, .int w, .int t]) (st1 := [.int r2]) (h1 := (124, I, J, R)) rfl ?_
  exact ev_ret rfl rfl
set_option maxRecDepth 20000 in
theorem mtb_1 {L : Nat} {xs : Nat → Int32} {d : Nat} {I : Nat → Nat → Int32} {J : Nat → Nat → Int64} {R : Nat → Nat → Nat} {w t r1 r2 : Int32} (hG : aGd R) (c1 : xEv L xs d 177 0 [.ref 86, .int t] [] (124, I, J, R) (some (.int r1)) (124, I, J, R)) (b1 : w.toInt ≠ r1.toInt) (c2 : xEv L xs d 178 0 [.ref 86, .int t] [] (124, I, J, R) (some (.int r2)) (124, I, J, R)) (b2 : w.toInt = r2.toInt) (c3 : xEv L xs d 177 0 [.ref 86, .int t] [] (124, I, J, R) (some (.int r1)) (124, I, J, R)) : xEv L xs (d + 1) 176 0 [.ref 86, .int w, .int t] [] (124, I, J, R) (some (.int r1)) (124, I, J, R) := by
  refine ev_go 3 (pc1 := 3) (lv1 := [.ref 86, .int w, .int t]) (st1 := [.int t, .ref 86, .int w]) (h1 := (124, I, J, R)) rfl ?_
  refine ev_call (v1 := (some (.int r1))) (h1 := (124, I, J, R)) rfl rfl c1 ?_
  refine ev_br (b1 := true) rfl rfl (xcd_ne (x := w) (y := r1) (by first | exact b1 | omega)) ?_
  refine ev_go 3 (pc1 := 20) (lv1 := [.ref 86, .int w, .int t]) (st1 := [.int t, .ref 86, .int w]) (h1 := (124, I, J, R)) rfl ?_
  refine ev_call (v1 := (some (.int r2))) (h1 := (124, I, J, R)) rfl rfl c2 ?_
  refine ev_br (b1 := false) rfl rfl (xcd_nne (x := w) (y := r2) (by first | exact b2 | omega)) ?_
  refine ev_go 2 (pc1 := 28) (lv1 := [.ref 86, .int w, .int t]) (st1 := [.int t, .ref 86]) (h1 := (124, I, J, R)) rfl ?_
  refine ev_call (v1 := (some (.int r1))) (h1 := (124, I, J, R)) rfl rfl c3 ?_
  refine ev_go 1 (pc1 := 35) (lv1 := [.ref 86, .int w, .int t]) (st1 := [.int r1]) (h1 := (124, I, J, R)) rfl ?_
  exact ev_ret rfl rfl
set_option maxRecDepth 20000 in
theorem mtb_2 {L : Nat} {xs : Nat → Int32} {d : Nat} {I : Nat → Nat → Int32} {J : Nat → Nat → Int64} {R : Nat → Nat → Nat} {w t r1 r2 : Int32} (hG : aGd R) (c1 : xEv L xs d 177 0 [.ref 86, .int t] [] (124, I, J, R) (some (.int r1)) (124, I, J, R)) (b1 : w.toInt ≠ r1.toInt) (c2 : xEv L xs d 178 0 [.ref 86, .int t] [] (124, I, J, R) (some (.int r2)) (124, I, J, R)) (b2 : w.toInt ≠ r2.toInt) : xEv L xs (d + 1) 176 0 [.ref 86, .int w, .int t] [] (124, I, J, R) (some (.int (-1))) (124, I, J, R) := by
  refine ev_go 3 (pc1 := 3) (lv1 := [.ref 86, .int w, .int t]) (st1 := [.int t, .ref 86, .int w]) (h1 := (124, I, J, R)) rfl ?_
  refine ev_call (v1 := (some (.int r1))) (h1 := (124, I, J, R)) rfl rfl c1 ?_
  refine ev_br (b1 := true) rfl rfl (xcd_ne (x := w) (y := r1) (by first | exact b1 | omega)) ?_
  refine ev_go 3 (pc1 := 20) (lv1 := [.ref 86, .int w, .int t]) (st1 := [.int t, .ref 86, .int w]) (h1 := (124, I, J, R)) rfl ?_
  refine ev_call (v1 := (some (.int r2))) (h1 := (124, I, J, R)) rfl rfl c2 ?_
  refine ev_br (b1 := true) rfl rfl (xcd_ne (x := w) (y := r2) (by first | exact b2 | omega)) ?_
  refine ev_go 1 (pc1 := 35) (lv1 := [.ref 86, .int w, .int t]) (st1 := [.int (-1)]) (h1 := (124, I, J, R)) rfl ?_
  exact ev_ret rfl rfl
set_option maxRecDepth 20000 in
theorem ib_0 {L : Nat} {xs : Nat → Int32} {d : Nat} {I : Nat → Nat → Int32} {J : Nat → Nat → Int64} {R : Nat → Nat → Nat} {n w : Int32} (hG : aGd R) (n1 : 0 ≤ n.toInt) (m1 : n.toInt < 8) (b1 : (((I 100 n.toNatClampNeg) >>> (w &&& 31)) &&& 1).toInt ≠ 1) : xEv L xs d 179 0 [.ref 86, .int n, .int w] [] (124, I, J, R) (some (.int 0)) (124, I, J, R) := by
  refine ev_go 1 (pc1 := 1) (lv1 := [.ref 86, .int n, .int w]) (st1 := [.ref 86]) (h1 := (124, I, J, R)) rfl ?_
  refine ev_gf (c := 86) (t := 100) (X := R 86 24) rfl rfl (fun _ => rfl) rfl (hG 86 24 100 rfl rfl) ?_
  refine ev_go 1 (pc1 := 5) (lv1 := [.ref 86, .int n, .int w]) (st1 := [.int n, .ref 100]) (h1 := (124, I, J, R)) rfl ?_
  refine ev_ild (n := 8) rfl rfl (fun _ => rfl) n1 m1 ?_
  refine ev_go 1 (pc1 := 7) (lv1 := [.ref 86, .int n, .int w]) (st1 := [.int w, .int (I 100 n.toNatClampNeg)]) (h1 := (124, I, J, R)) rfl ?_
  refine ev_go 4 (pc1 := 11) (lv1 := [.ref 86, .int n, .int w]) (st1 := [.int 1, .int (((I 100 n.toNatClampNeg) >>> (w &&& 31)) &&& 1)]) (h1 := (124, I, J, R)) rfl ?_
  refine ev_br (b1 := true) rfl rfl (xcd_ne (x := (((I 100 n.toNatClampNeg) >>> (w &&& 31)) &&& 1)) (y := 1) (by rw [show ((1 : Int32)).toInt = 1 from by decide]; first | exact b1 | omega)) ?_
  refine ev_go 1 (pc1 := 19) (lv1 := [.ref 86, .int n, .int w]) (st1 := [.int 0]) (h1 := (124, I, J, R)) rfl ?_
  exact ev_ret rfl rfl
set_option maxRecDepth 20000 in
theorem ib_1 {L : Nat} {xs : Nat → Int32} {d : Nat} {I : Nat → Nat → Int32} {J : Nat → Nat → Int64} {R : Nat → Nat → Nat} {n w : Int32} (hG : aGd R) (n1 : 0 ≤ n.toInt) (m1 : n.toInt < 8) (b1 : (((I 100 n.toNatClampNeg) >>> (w &&& 31)) &&& 1).toInt = 1) : xEv L xs d 179 0 [.ref 86, .int n, .int w] [] (124, I, J, R) (some (.int 1)) (124, I, J, R) := by
  refine ev_go 1 (pc1 := 1) (lv1 := [.ref 86, .int n, .int w]) (st1 := [.ref 86]) (h1 := (124, I, J, R)) rfl ?_
  refine ev_gf (c := 86) (t := 100) (X := R 86 24) rfl rfl (fun _ => rfl) rfl (hG 86 24 100 rfl rfl) ?_
  refine ev_go 1 (pc1 := 5) (lv1 := [.ref 86, .int n, .int w]) (st1 := [.int n, .ref 100]) (h1 := (124, I, J, R)) rfl ?_
  refine ev_ild (n := 8) rfl rfl (fun _ => rfl) n1 m1 ?_
  refine ev_go 1 (pc1 := 7) (lv1 := [.ref 86, .int n, .int w]) (st1 := [.int w, .int (I 100 n.toNatClampNeg)]) (h1 := (124, I, J, R)) rfl ?_
  refine ev_go 4 (pc1 := 11) (lv1 := [.ref 86, .int n, .int w]) (st1 := [.int 1, .int (((I 100 n.toNatClampNeg) >>> (w &&& 31)) &&& 1)]) (h1 := (124, I, J, R)) rfl ?_
  refine ev_br (b1 := false) rfl rfl (xcd_nne (x := (((I 100 n.toNatClampNeg) >>> (w &&& 31)) &&& 1)) (y := 1) (by rw [show ((1 : Int32)).toInt = 1 from by decide]; first | exact b1 | omega)) ?_
  refine ev_go 2 (pc1 := 19) (lv1 := [.ref 86, .int n, .int w]) (st1 := [.int 1]) (h1 := (124, I, J, R)) rfl ?_
  exact ev_ret rfl rfl
set_option maxRecDepth 20000 in
theorem he_s {L : Nat} {xs : Nat → Int32} {d : Nat} {I : Nat → Nat → Int32} {J : Nat → Nat → Int64} {R : Nat → Nat → Nat} {q : Int32} (hG : aGd R)  {v : Option Value} {h' : xH} (hk : xEv L xs d 180 4 [.ref 86, .int q, .int 0, .int 0] [] (124, I, J, R) v h') : xEv L xs d 180 0 [.ref 86, .int q, xmk, xmk] [] (124, I, J, R) v h' := by
  refine ev_go 4 (pc1 := 4) (lv1 := [.ref 86, .int q, .int 0, .int 0]) (st1 := []) (h1 := (124, I, J, R)) rfl ?_
  exact hk
set_option maxRecDepth 20000 in
theorem he_0 {L : Nat} {xs : Nat → Int32} {d : Nat} {I : Nat → Nat → Int32} {J : Nat → Nat → Int64} {R : Nat → Nat → Nat} {q k n : Int32} (hG : aGd R) (b1 : n.toInt < (I 88 2).toInt) (n1 : 0 ≤ n.toInt) (m1 : n.toInt < 4) (b2 : (I 106 n.toNatClampNeg).toInt ≠ q.toInt) {v : Option Value} {h' : xH} (hk : xEv L xs d 180 4 [.ref 86, .int q, .int (k + 0), .int (n + 1)] [] (124, I, J, R) v h') : xEv L xs d 180 4 [.ref 86, .int q, .int k, .int n] [] (124, I, J, R) v h' := by
  refine ev_go 2 (pc1 := 6) (lv1 := [.ref 86, .int q, .int k, .int n]) (st1 := [.ref 86, .int n]) (h1 := (124, I, J, R)) rfl ?_
  refine ev_gf (c := 86) (t := 88) (X := R 86 12) rfl rfl (fun _ => rfl) rfl (hG 86 12 88 rfl rfl) ?_
  refine ev_go 2 (pc1 := 11) (lv1 := [.ref 86, .int q, .int k, .int n]) (st1 := [.int (I 88 2), .int n]) (h1 := (124, I, J, R)) rfl ?_
  refine ev_br (b1 := false) rfl rfl (xcd_nge (x := n) (y := (I 88 2)) (by first | exact b1 | omega)) ?_
  refine ev_go 2 (pc1 := 16) (lv1 := [.ref 86, .int q, .int k, .int n]) (st1 := [.ref 86, .int k]) (h1 := (124, I, J, R)) rfl ?_
  refine ev_gf (c := 86) (t := 106) (X := R 86 36) rfl rfl (fun _ => rfl) rfl (hG 86 36 106 rfl rfl) ?_
  refine ev_go 1 (pc1 := 20) (lv1 := [.ref 86, .int q, .int k, .int n]) (st1 := [.int n, .ref 106, .int k]) (h1 := (124, I, J, R)) rfl ?_
  refine ev_ild (n := 4) rfl rfl (fun _ => rfl) n1 m1 ?_
  refine ev_go 1 (pc1 := 22) (lv1 := [.ref 86, .int q, .int k, .int n]) (st1 := [.int q, .int (I 106 n.toNatClampNeg), .int k]) (h1 := (124, I, J, R)) rfl ?_
  refine ev_br (b1 := true) rfl rfl (xcd_ne (x := (I 106 n.toNatClampNeg)) (y := q) (by first | exact b2 | omega)) ?_
  refine ev_go 5 (pc1 := 4) (lv1 := [.ref 86, .int q, .int (k + 0), .int (n + 1)]) (st1 := []) (h1 := (124, I, J, R)) rfl ?_
  exact hk
set_option maxRecDepth 20000 in
theorem he_1 {L : Nat} {xs : Nat → Int32} {d : Nat} {I : Nat → Nat → Int32} {J : Nat → Nat → Int64} {R : Nat → Nat → Nat} {q k n : Int32} (hG : aGd R) (b1 : n.toInt < (I 88 2).toInt) (n1 : 0 ≤ n.toInt) (m1 : n.toInt < 4) (b2 : (I 106 n.toNatClampNeg).toInt = q.toInt) {v : Option Value} {h' : xH} (hk : xEv L xs d 180 4 [.ref 86, .int q, .int (k + 1), .int (n + 1)] [] (124, I, J, R) v h') : xEv L xs d 180 4 [.ref 86, .int q, .int k, .int n] [] (124, I, J, R) v h' := by
  refine ev_go 2 (pc1 := 6) (lv1 := [.ref 86, .int q, .int k, .int n]) (st1 := [.ref 86, .int n]) (h1 := (124, I, J, R)) rfl ?_
  refine ev_gf (c := 86) (t := 88) (X := R 86 12) rfl rfl (fun _ => rfl) rfl (hG 86 12 88 rfl rfl) ?_
  refine ev_go 2 (pc1 := 11) (lv1 := [.ref 86, .int q, .int k, .int n]) (st1 := [.int (I 88 2), .int n]) (h1 := (124, I, J, R)) rfl ?_
  refine ev_br (b1 := false) rfl rfl (xcd_nge (x := n) (y := (I 88 2)) (by first | exact b1 | omega)) ?_
  refine ev_go 2 (pc1 := 16) (lv1 := [.ref 86, .int q, .int k, .int n]) (st1 := [.ref 86, .int k]) (h1 := (124, I, J, R)) rfl ?_
  refine ev_gf (c := 86) (t := 106) (X := R 86 36) rfl rfl (fun _ => rfl) rfl (hG 86 36 106 rfl rfl) ?_
  refine ev_go 1 (pc1 := 20) (lv1 := [.ref 86, .int q, .int k, .int n]) (st1 := [.int n, .ref 106, .int k]) (h1 := (124, I, J, R)) rfl ?_
  refine ev_ild (n := 4) rfl rfl (fun _ => rfl) n1 m1 ?_
  refine ev_go 1 (pc1 := 22) (lv1 := [.ref 86, .int q, .int k, .int n]) (st1 := [.int q, .int (I 106 n.toNatClampNeg), .int k]) (h1 := (124, I, J, R)) rfl ?_
  refine ev_br (b1 := false) rfl rfl (xcd_nne (x := (I 106 n.toNatClampNeg)) (y := q) (by first | exact b2 | omega)) ?_
  refine ev_go 6 (pc1 := 4) (lv1 := [.ref 86, .int q, .int (k + 1), .int (n + 1)]) (st1 := []) (h1 := (124, I, J, R)) rfl ?_
  exact hk
set_option maxRecDepth 20000 in
theorem he_e {L : Nat} {xs : Nat → Int32} {d : Nat} {I : Nat → Nat → Int32} {J : Nat → Nat → Int64} {R : Nat → Nat → Nat} {q k n : Int32} (hG : aGd R) (b1 : n.toInt ≥ (I 88 2).toInt) : xEv L xs d 180 4 [.ref 86, .int q, .int k, .int n] [] (124, I, J, R) (some (.int k)) (124, I, J, R) := by
  refine ev_go 2 (pc1 := 6) (lv1 := [.ref 86, .int q, .int k, .int n]) (st1 := [.ref 86, .int n]) (h1 := (124, I, J, R)) rfl ?_
  refine ev_gf (c := 86) (t := 88) (X := R 86 12) rfl rfl (fun _ => rfl) rfl (hG 86 12 88 rfl rfl) ?_
  refine ev_go 2 (pc1 := 11) (lv1 := [.ref 86, .int q, .int k, .int n]) (st1 := [.int (I 88 2), .int n]) (h1 := (124, I, J, R)) rfl ?_
  refine ev_br (b1 := true) rfl rfl (xcd_ge (x := n) (y := (I 88 2)) (by first | exact b1 | omega)) ?_
  refine ev_go 1 (pc1 := 39) (lv1 := [.ref 86, .int q, .int k, .int n]) (st1 := [.int k]) (h1 := (124, I, J, R)) rfl ?_
  exact ev_ret rfl rfl
theorem cIn_s {f : Nat → Int} {z : Int} (m : Nat) : cIn f z (m + 1) = cIn f z m + (if f m = z then 1 else 0) := rfl
/-- one place set anew -/
theorem cIn_u {f : Nat → Int} {z y : Int} {k : Nat} : ∀ m, k < m → cIn (fun i => if i = k then y else f i) z m + (if f k = z then 1 else 0) = cIn f z m + (if y = z then 1 else 0)
  | 0, h => absurd h (by omega)
  | m + 1, h => by
    show cIn (fun i => if i = k then y else f i) z m + (if (if m = k then y else f m) = z then 1 else 0) + (if f k = z then 1 else 0) = cIn f z m + (if f m = z then 1 else 0) + (if y = z then 1 else 0)
    by_cases e : k = m
    · subst e
      rw [if_pos rfl, cIn_e (f := fun i => if i = k then y else f i) (g := f) k (fun i hi => if_neg (by omega))]
      omega
    · have := cIn_u (f := f) (z := z) (y := y) (k := k) m (by omega)
      rw [if_neg (show ¬ m = k from fun h => e h.symm)]
      omega
theorem he_l {L : Nat} {xs : Nat → Int32} {d : Nat} {I : Nat → Nat → Int32} {J : Nat → Nat → Int64} {R : Nat → Nat → Nat} (hG : aGd R) {nn : Nat} (q6 : (I 88 2).toInt = nn) (h4 : nn ≤ 4) {q : Int32} : ∀ (f m : Nat) (k n : Int32), m + f = nn → n.toInt = m → k.toInt = cIn (fun i => (I 106 i).toInt) q.toInt m → ∃ z : Int32, xEv L xs d 180 4 [.ref 86, .int q, .int k, .int n] [] (124, I, J, R) (some (.int z)) (124, I, J, R) ∧ z.toInt = cIn (fun i => (I 106 i).toInt) q.toInt nn := by
  intro f
  induction f with
  | zero =>
    intro m k n hm hn hk
    exact ⟨k, he_e hG (by omega), by rw [hk, show m = nn from by omega]⟩
  | succ f ih =>
    intro m k n hm hn hk
    have hn' : (n + 1).toInt = (m + 1 : Nat) := by rw [i_add1 (by omega)]; omega
    have hl := cIn_le (f := fun i => (I 106 i).toInt) (z := q.toInt) m
    have ec := clamp_s (i := n) (by omega)
    have ek : n.toNatClampNeg = m := by omega
    by_cases h : (I 106 m).toInt = q.toInt
    · obtain ⟨z, x1, x2⟩ := ih (m + 1) (k + 1) (n + 1) (by omega) hn' (by rw [i_add1 (by omega), cIn_s, if_pos h]; omega)
      exact ⟨z, he_1 hG (by omega) (by omega) (by omega) (by rw [ek]; exact h) x1, x2⟩
    · obtain ⟨z, x1, x2⟩ := ih (m + 1) (k + 0) (n + 1) (by omega) hn' (by rw [i_add (by rw [show (0 : Int32).toInt = 0 from by decide]; omega) (by rw [show (0 : Int32).toInt = 0 from by decide]; omega), cIn_s, if_neg h, show (0 : Int32).toInt = 0 from by decide]; omega)
      exact ⟨z, he_0 hG (by omega) (by omega) (by omega) (by rw [ek]; exact h) x1, x2⟩
theorem he_run {L : Nat} {xs : Nat → Int32} {d : Nat} {I : Nat → Nat → Int32} {J : Nat → Nat → Int64} {R : Nat → Nat → Nat} (hG : aGd R) {nn : Nat} (q6 : (I 88 2).toInt = nn) (h4 : nn ≤ 4) (q : Int32) : ∃ z : Int32, xEv L xs d 180 0 [.ref 86, .int q, xmk, xmk] [] (124, I, J, R) (some (.int z)) (124, I, J, R) ∧ z.toInt = cIn (fun i => (I 106 i).toInt) q.toInt nn := by
  obtain ⟨z, x1, x2⟩ := he_l (L := L) (xs := xs) (d := d) (J := J) hG q6 h4 (q := q) nn 0 0 0 (by omega) (by decide) rfl
  exact ⟨z, he_s hG x1, x2⟩
set_option maxRecDepth 20000 in
theorem tr_a {L : Nat} {xs : Nat → Int32} {d : Nat} {I : Nat → Nat → Int32} {J : Nat → Nat → Int64} {R : Nat → Nat → Nat} {k be : Int32} (hG : aGd R) (n1 : 0 ≤ k.toInt) (m1 : k.toInt < 300) (n2 : 0 ≤ k.toInt) (m2 : k.toInt < 300) (c1 : xEv L xs d 171 0 [.ref 86, .int (I 104 k.toNatClampNeg)] [] (124, I, J, R) (some (.int 0)) (124, I, J, R)) : xEv L xs (d + 1) 175 0 [.ref 86, .int k, .int be, xmk, xmk, xmk] [] (124, I, J, R) (some (.int 0)) (124, I, J, R) := by
  refine ev_go 1 (pc1 := 1) (lv1 := [.ref 86, .int k, .int be, xmk, xmk, xmk]) (st1 := [.ref 86]) (h1 := (124, I, J, R)) rfl ?_
  refine ev_gf (c := 86) (t := 104) (X := R 86 31) rfl rfl (fun _ => rfl) rfl (hG 86 31 104 rfl rfl) ?_
  refine ev_go 1 (pc1 := 5) (lv1 := [.ref 86, .int k, .int be, xmk, xmk, xmk]) (st1 := [.int k, .ref 104]) (h1 := (124, I, J, R)) rfl ?_
  refine ev_ild (n := 300) rfl rfl (fun _ => rfl) n1 m1 ?_
  refine ev_go 2 (pc1 := 8) (lv1 := [.ref 86, .int k, .int be, .int (I 104 k.toNatClampNeg), xmk, xmk]) (st1 := [.ref 86]) (h1 := (124, I, J, R)) rfl ?_
  refine ev_gf (c := 86) (t := 105) (X := R 86 32) rfl rfl (fun _ => rfl) rfl (hG 86 32 105 rfl rfl) ?_
  refine ev_go 1 (pc1 := 12) (lv1 := [.ref 86, .int k, .int be, .int (I 104 k.toNatClampNeg), xmk, xmk]) (st1 := [.int k, .ref 105]) (h1 := (124, I, J, R)) rfl ?_
  refine ev_ild (n := 300) rfl rfl (fun _ => rfl) n2 m2 ?_
  refine ev_go 3 (pc1 := 17) (lv1 := [.ref 86, .int k, .int be, .int (I 104 k.toNatClampNeg), .int (I 105 k.toNatClampNeg), xmk]) (st1 := [.int (I 104 k.toNatClampNeg), .ref 86]) (h1 := (124, I, J, R)) rfl ?_
  refine ev_call (v1 := (some (.int 0))) (h1 := (124, I, J, R)) rfl rfl c1 ?_
  refine ev_go 2 (pc1 := 38) (lv1 := [.ref 86, .int k, .int be, .int (I 104 k.toNatClampNeg), .int (I 105 k.toNatClampNeg), xmk]) (st1 := [.int 0]) (h1 := (124, I, J, R)) rfl ?_
  exact ev_ret rfl rfl
set_option maxRecDepth 20000 in
theorem tr_b {L : Nat} {xs : Nat → Int32} {d : Nat} {I : Nat → Nat → Int32} {J : Nat → Nat → Int64} {R : Nat → Nat → Nat} {k be : Int32} (hG : aGd R) (n1 : 0 ≤ k.toInt) (m1 : k.toInt < 300) (n2 : 0 ≤ k.toInt) (m2 : k.toInt < 300) (c1 : xEv L xs d 171 0 [.ref 86, .int (I 104 k.toNatClampNeg)] [] (124, I, J, R) (some (.int 1)) (124, I, J, R)) (c2 : xEv L xs d 168 0 [.ref 86, .int (I 105 k.toNatClampNeg)] [] (124, I, J, R) (some (.int 0)) (124, I, J, R)) : xEv L xs (d + 1) 175 0 [.ref 86, .int k, .int be, xmk, xmk, xmk] [] (124, I, J, R) (some (.int 0)) (124, I, J, R) := by
  refine ev_go 1 (pc1 := 1) (lv1 := [.ref 86, .int k, .int be, xmk, xmk, xmk]) (st1 := [.ref 86]) (h1 := (124, I, J, R)) rfl ?_
  refine ev_gf (c := 86) (t := 104) (X := R 86 31) rfl rfl (fun _ => rfl) rfl (hG 86 31 104 rfl rfl) ?_
  refine ev_go 1 (pc1 := 5) (lv1 := [.ref 86, .int k, .int be, xmk, xmk, xmk]) (st1 := [.int k, .ref 104]) (h1 := (124, I, J, R)) rfl ?_
  refine ev_ild (n := 300) rfl rfl (fun _ => rfl) n1 m1 ?_
  refine ev_go 2 (pc1 := 8) (lv1 := [.ref 86, .int k, .int be, .int (I 104 k.toNatClampNeg), xmk, xmk]) (st1 := [.ref 86]) (h1 := (124, I, J, R)) rfl ?_
  refine ev_gf (c := 86) (t := 105) (X := R 86 32) rfl rfl (fun _ => rfl) rfl (hG 86 32 105 rfl rfl) ?_
  refine ev_go 1 (pc1 := 12) (lv1 := [.ref 86, .int k, .int be, .int (I 104 k.toNatClampNeg), xmk, xmk]) (st1 := [.int k, .ref 105]) (h1 := (124, I, J, R)) rfl ?_
  refine ev_ild (n := 300) rfl rfl (fun _ => rfl) n2 m2 ?_
  refine ev_go 3 (pc1 := 17) (lv1 := [.ref 86, .int k, .int be, .int (I 104 k.toNatClampNeg), .int (I 105 k.toNatClampNeg), xmk]) (st1 := [.int (I 104 k.toNatClampNeg), .ref 86]) (h1 := (124, I, J, R)) rfl ?_
  refine ev_call (v1 := (some (.int 1))) (h1 := (124, I, J, R)) rfl rfl c1 ?_
  refine ev_go 3 (pc1 := 26) (lv1 := [.ref 86, .int k, .int be, .int (I 104 k.toNatClampNeg), .int (I 105 k.toNatClampNeg), xmk]) (st1 := [.int (I 105 k.toNatClampNeg), .ref 86]) (h1 := (124, I, J, R)) rfl ?_
  refine ev_call (v1 := (some (.int 0))) (h1 := (124, I, J, R)) rfl rfl c2 ?_
  refine ev_go 2 (pc1 := 38) (lv1 := [.ref 86, .int k, .int be, .int (I 104 k.toNatClampNeg), .int (I 105 k.toNatClampNeg), xmk]) (st1 := [.int 0]) (h1 := (124, I, J, R)) rfl ?_
  exact ev_ret rfl rfl
set_option maxRecDepth 20000 in
theorem tr_c {L : Nat} {xs : Nat → Int32} {d : Nat} {I : Nat → Nat → Int32} {J : Nat → Nat → Int64} {R : Nat → Nat → Nat} {k be : Int32} (hG : aGd R) (n1 : 0 ≤ k.toInt) (m1 : k.toInt < 300) (n2 : 0 ≤ k.toInt) (m2 : k.toInt < 300) (c1 : xEv L xs d 171 0 [.ref 86, .int (I 104 k.toNatClampNeg)] [] (124, I, J, R) (some (.int 1)) (124, I, J, R)) (c2 : xEv L xs d 168 0 [.ref 86, .int (I 105 k.toNatClampNeg)] [] (124, I, J, R) (some (.int 1)) (124, I, J, R)) (b1 : (I 104 k.toNatClampNeg).toInt < be.toInt) : xEv L xs (d + 1) 175 0 [.ref 86, .int k, .int be, xmk, xmk, xmk] [] (124, I, J, R) (some (.int 0)) (124, I, J, R) := by
  refine ev_go 1 (pc1 := 1) (lv1 := [.ref 86, .int k, .int be, xmk, xmk, xmk]) (st1 := [.ref 86]) (h1 := (124, I, J, R)) rfl ?_
  refine ev_gf (c := 86) (t := 104) (X := R 86 31) rfl rfl (fun _ => rfl) rfl (hG 86 31 104 rfl rfl) ?_
  refine ev_go 1 (pc1 := 5) (lv1 := [.ref 86, .int k, .int be, xmk, xmk, xmk]) (st1 := [.int k, .ref 104]) (h1 := (124, I, J, R)) rfl ?_
  refine ev_ild (n := 300) rfl rfl (fun _ => rfl) n1 m1 ?_
  refine ev_go 2 (pc1 := 8) (lv1 := [.ref 86, .int k, .int be, .int (I 104 k.toNatClampNeg), xmk, xmk]) (st1 := [.ref 86]) (h1 := (124, I, J, R)) rfl ?_
  refine ev_gf (c := 86) (t := 105) (X := R 86 32) rfl rfl (fun _ => rfl) rfl (hG 86 32 105 rfl rfl) ?_
  refine ev_go 1 (pc1 := 12) (lv1 := [.ref 86, .int k, .int be, .int (I 104 k.toNatClampNeg), xmk, xmk]) (st1 := [.int k, .ref 105]) (h1 := (124, I, J, R)) rfl ?_
  refine ev_ild (n := 300) rfl rfl (fun _ => rfl) n2 m2 ?_
  refine ev_go 3 (pc1 := 17) (lv1 := [.ref 86, .int k, .int be, .int (I 104 k.toNatClampNeg), .int (I 105 k.toNatClampNeg), xmk]) (st1 := [.int (I 104 k.toNatClampNeg), .ref 86]) (h1 := (124, I, J, R)) rfl ?_
  refine ev_call (v1 := (some (.int 1))) (h1 := (124, I, J, R)) rfl rfl c1 ?_
  refine ev_go 3 (pc1 := 26) (lv1 := [.ref 86, .int k, .int be, .int (I 104 k.toNatClampNeg), .int (I 105 k.toNatClampNeg), xmk]) (st1 := [.int (I 105 k.toNatClampNeg), .ref 86]) (h1 := (124, I, J, R)) rfl ?_
  refine ev_call (v1 := (some (.int 1))) (h1 := (124, I, J, R)) rfl rfl c2 ?_
  refine ev_go 3 (pc1 := 34) (lv1 := [.ref 86, .int k, .int be, .int (I 104 k.toNatClampNeg), .int (I 105 k.toNatClampNeg), xmk]) (st1 := [.int be, .int (I 104 k.toNatClampNeg)]) (h1 := (124, I, J, R)) rfl ?_
  refine ev_br (b1 := false) rfl rfl (xcd_nge (x := (I 104 k.toNatClampNeg)) (y := be) (by first | exact b1 | omega)) ?_
  refine ev_go 1 (pc1 := 38) (lv1 := [.ref 86, .int k, .int be, .int (I 104 k.toNatClampNeg), .int (I 105 k.toNatClampNeg), xmk]) (st1 := [.int 0]) (h1 := (124, I, J, R)) rfl ?_
  exact ev_ret rfl rfl
set_option maxRecDepth 20000 in
theorem tr_d {L : Nat} {xs : Nat → Int32} {d : Nat} {I : Nat → Nat → Int32} {J : Nat → Nat → Int64} {R : Nat → Nat → Nat} {k be : Int32} (hG : aGd R) (n1 : 0 ≤ k.toInt) (m1 : k.toInt < 300) (n2 : 0 ≤ k.toInt) (m2 : k.toInt < 300) (c1 : xEv L xs d 171 0 [.ref 86, .int (I 104 k.toNatClampNeg)] [] (124, I, J, R) (some (.int 1)) (124, I, J, R)) (c2 : xEv L xs d 168 0 [.ref 86, .int (I 105 k.toNatClampNeg)] [] (124, I, J, R) (some (.int 1)) (124, I, J, R)) (b1 : (I 104 k.toNatClampNeg).toInt ≥ be.toInt) (n3 : 0 ≤ (I 105 k.toNatClampNeg).toInt) (m3 : (I 105 k.toNatClampNeg).toInt < 4) (c3 : xEv L xs d 176 0 [.ref 86, .int (I 106 (I 105 k.toNatClampNeg).toNatClampNeg), .int (I 104 k.toNatClampNeg)] [] (124, I, J, R) (some (.int (-1))) (124, I, J, R)) : xEv L xs (d + 1) 175 0 [.ref 86, .int k, .int be, xmk, xmk, xmk] [] (124, I, J, R) (some (.int 0)) (124, I, J, R) := by
  refine ev_go 1 (pc1 := 1) (lv1 := [.ref 86, .int k, .int be, xmk, xmk, xmk]) (st1 := [.ref 86]) (h1 := (124, I, J, R)) rfl ?_
  refine ev_gf (c := 86) (t := 104) (X := R 86 31) rfl rfl (fun _ => rfl) rfl (hG 86 31 104 rfl rfl) ?_
  refine ev_go 1 (pc1 := 5) (lv1 := [.ref 86, .int k, .int be, xmk, xmk, xmk]) (st1 := [.int k, .ref 104]) (h1 := (124, I, J, R)) rfl ?_
  refine ev_ild (n := 300) rfl rfl (fun _ => rfl) n1 m1 ?_
  refine ev_go 2 (pc1 := 8) (lv1 := [.ref 86, .int k, .int be, .int (I 104 k.toNatClampNeg), xmk, xmk]) (st1 := [.ref 86]) (h1 := (124, I, J, R)) rfl ?_
  refine ev_gf (c := 86) (t := 105) (X := R 86 32) rfl rfl (fun _ => rfl) rfl (hG 86 32 105 rfl rfl) ?_
  refine ev_go 1 (pc1 := 12) (lv1 := [.ref 86, .int k, .int be, .int (I 104 k.toNatClampNeg), xmk, xmk]) (st1 := [.int k, .ref 105]) (h1 := (124, I, J, R)) rfl ?_
  refine ev_ild (n := 300) rfl rfl (fun _ => rfl) n2 m2 ?_
  refine ev_go 3 (pc1 := 17) (lv1 := [.ref 86, .int k, .int be, .int (I 104 k.toNatClampNeg), .int (I 105 k.toNatClampNeg), xmk]) (st1 := [.int (I 104 k.toNatClampNeg), .ref 86]) (h1 := (124, I, J, R)) rfl ?_
  refine ev_call (v1 := (some (.int 1))) (h1 := (124, I, J, R)) rfl rfl c1 ?_
  refine ev_go 3 (pc1 := 26) (lv1 := [.ref 86, .int k, .int be, .int (I 104 k.toNatClampNeg), .int (I 105 k.toNatClampNeg), xmk]) (st1 := [.int (I 105 k.toNatClampNeg), .ref 86]) (h1 := (124, I, J, R)) rfl ?_
  refine ev_call (v1 := (some (.int 1))) (h1 := (124, I, J, R)) rfl rfl c2 ?_
  refine ev_go 3 (pc1 := 34) (lv1 := [.ref 86, .int k, .int be, .int (I 104 k.toNatClampNeg), .int (I 105 k.toNatClampNeg), xmk]) (st1 := [.int be, .int (I 104 k.toNatClampNeg)]) (h1 := (124, I, J, R)) rfl ?_
  refine ev_br (b1 := true) rfl rfl (xcd_ge (x := (I 104 k.toNatClampNeg)) (y := be) (by first | exact b1 | omega)) ?_
  refine ev_go 2 (pc1 := 41) (lv1 := [.ref 86, .int k, .int be, .int (I 104 k.toNatClampNeg), .int (I 105 k.toNatClampNeg), xmk]) (st1 := [.ref 86, .ref 86]) (h1 := (124, I, J, R)) rfl ?_
  refine ev_gf (c := 86) (t := 106) (X := R 86 36) rfl rfl (fun _ => rfl) rfl (hG 86 36 106 rfl rfl) ?_
  refine ev_go 1 (pc1 := 46) (lv1 := [.ref 86, .int k, .int be, .int (I 104 k.toNatClampNeg), .int (I 105 k.toNatClampNeg), xmk]) (st1 := [.int (I 105 k.toNatClampNeg), .ref 106, .ref 86]) (h1 := (124, I, J, R)) rfl ?_
  refine ev_ild (n := 4) rfl rfl (fun _ => rfl) n3 m3 ?_
  refine ev_go 1 (pc1 := 48) (lv1 := [.ref 86, .int k, .int be, .int (I 104 k.toNatClampNeg), .int (I 105 k.toNatClampNeg), xmk]) (st1 := [.int (I 104 k.toNatClampNeg), .int (I 106 (I 105 k.toNatClampNeg).toNatClampNeg), .ref 86]) (h1 := (124, I, J, R)) rfl ?_
  refine ev_call (v1 := (some (.int (-1)))) (h1 := (124, I, J, R)) rfl rfl c3 ?_
  refine ev_go 5 (pc1 := 87) (lv1 := [.ref 86, .int k, .int be, .int (I 104 k.toNatClampNeg), .int (I 105 k.toNatClampNeg), .int (-1)]) (st1 := [.int 0]) (h1 := (124, I, J, R)) rfl ?_
  exact ev_ret rfl rfl
set_option maxRecDepth 20000 in
theorem tr_e {L : Nat} {xs : Nat → Int32} {d : Nat} {I : Nat → Nat → Int32} {J : Nat → Nat → Int64} {R : Nat → Nat → Nat} {k be w : Int32} (hG : aGd R) (n1 : 0 ≤ k.toInt) (m1 : k.toInt < 300) (n2 : 0 ≤ k.toInt) (m2 : k.toInt < 300) (c1 : xEv L xs d 171 0 [.ref 86, .int (I 104 k.toNatClampNeg)] [] (124, I, J, R) (some (.int 1)) (124, I, J, R)) (c2 : xEv L xs d 168 0 [.ref 86, .int (I 105 k.toNatClampNeg)] [] (124, I, J, R) (some (.int 1)) (124, I, J, R)) (b1 : (I 104 k.toNatClampNeg).toInt ≥ be.toInt) (n3 : 0 ≤ (I 105 k.toNatClampNeg).toInt) (m3 : (I 105 k.toNatClampNeg).toInt < 4) (c3 : xEv L xs d 176 0 [.ref 86, .int (I 106 (I 105 k.toNatClampNeg).toNatClampNeg), .int (I 104 k.toNatClampNeg)] [] (124, I, J, R) (some (.int w)) (124, I, J, R)) (b2 : w.toInt ≠ -1) (c4 : xEv L xs d 179 0 [.ref 86, .int (I 105 k.toNatClampNeg), .int w] [] (124, I, J, R) (some (.int 1)) (124, I, J, R)) : xEv L xs (d + 1) 175 0 [.ref 86, .int k, .int be, xmk, xmk, xmk] [] (124, I, J, R) (some (.int 0)) (124, I, J, R) := by
  refine ev_go 1 (pc1 := 1) (lv1 := [.ref 86, .int k, .int be, xmk, xmk, xmk]) (st1 := [.ref 86]) (h1 := (124, I, J, R)) rfl ?_
  refine ev_gf (c := 86) (t := 104) (X := R 86 31) rfl rfl (fun _ => rfl) rfl (hG 86 31 104 rfl rfl) ?_
  refine ev_go 1 (pc1 := 5) (lv1 := [.ref 86, .int k, .int be, xmk, xmk, xmk]) (st1 := [.int k, .ref 104]) (h1 := (124, I, J, R)) rfl ?_
  refine ev_ild (n := 300) rfl rfl (fun _ => rfl) n1 m1 ?_
  refine ev_go 2 (pc1 := 8) (lv1 := [.ref 86, .int k, .int be, .int (I 104 k.toNatClampNeg), xmk, xmk]) (st1 := [.ref 86]) (h1 := (124, I, J, R)) rfl ?_
  refine ev_gf (c := 86) (t := 105) (X := R 86 32) rfl rfl (fun _ => rfl) rfl (hG 86 32 105 rfl rfl) ?_
  refine ev_go 1 (pc1 := 12) (lv1 := [.ref 86, .int k, .int be, .int (I 104 k.toNatClampNeg), xmk, xmk]) (st1 := [.int k, .ref 105]) (h1 := (124, I, J, R)) rfl ?_
  refine ev_ild (n := 300) rfl rfl (fun _ => rfl) n2 m2 ?_
  refine ev_go 3 (pc1 := 17) (lv1 := [.ref 86, .int k, .int be, .int (I 104 k.toNatClampNeg), .int (I 105 k.toNatClampNeg), xmk]) (st1 := [.int (I 104 k.toNatClampNeg), .ref 86]) (h1 := (124, I, J, R)) rfl ?_
  refine ev_call (v1 := (some (.int 1))) (h1 := (124, I, J, R)) rfl rfl c1 ?_
  refine ev_go 3 (pc1 := 26) (lv1 := [.ref 86, .int k, .int be, .int (I 104 k.toNatClampNeg), .int (I 105 k.toNatClampNeg), xmk]) (st1 := [.int (I 105 k.toNatClampNeg), .ref 86]) (h1 := (124, I, J, R)) rfl ?_
  refine ev_call (v1 := (some (.int 1))) (h1 := (124, I, J, R)) rfl rfl c2 ?_
  refine ev_go 3 (pc1 := 34) (lv1 := [.ref 86, .int k, .int be, .int (I 104 k.toNatClampNeg), .int (I 105 k.toNatClampNeg), xmk]) (st1 := [.int be, .int (I 104 k.toNatClampNeg)]) (h1 := (124, I, J, R)) rfl ?_
  refine ev_br (b1 := true) rfl rfl (xcd_ge (x := (I 104 k.toNatClampNeg)) (y := be) (by first | exact b1 | omega)) ?_
  refine ev_go 2 (pc1 := 41) (lv1 := [.ref 86, .int k, .int be, .int (I 104 k.toNatClampNeg), .int (I 105 k.toNatClampNeg), xmk]) (st1 := [.ref 86, .ref 86]) (h1 := (124, I, J, R)) rfl ?_
  refine ev_gf (c := 86) (t := 106) (X := R 86 36) rfl rfl (fun _ => rfl) rfl (hG 86 36 106 rfl rfl) ?_
  refine ev_go 1 (pc1 := 46) (lv1 := [.ref 86, .int k, .int be, .int (I 104 k.toNatClampNeg), .int (I 105 k.toNatClampNeg), xmk]) (st1 := [.int (I 105 k.toNatClampNeg), .ref 106, .ref 86]) (h1 := (124, I, J, R)) rfl ?_
  refine ev_ild (n := 4) rfl rfl (fun _ => rfl) n3 m3 ?_
  refine ev_go 1 (pc1 := 48) (lv1 := [.ref 86, .int k, .int be, .int (I 104 k.toNatClampNeg), .int (I 105 k.toNatClampNeg), xmk]) (st1 := [.int (I 104 k.toNatClampNeg), .int (I 106 (I 105 k.toNatClampNeg).toNatClampNeg), .ref 86]) (h1 := (124, I, J, R)) rfl ?_
  refine ev_call (v1 := (some (.int w))) (h1 := (124, I, J, R)) rfl rfl c3 ?_
  refine ev_go 3 (pc1 := 56) (lv1 := [.ref 86, .int k, .int be, .int (I 104 k.toNatClampNeg), .int (I 105 k.toNatClampNeg), .int w]) (st1 := [.int (-1), .int w]) (h1 := (124, I, J, R)) rfl ?_
  refine ev_br (b1 := false) rfl rfl (xcd_neq (x := w) (y := (-1)) (by rw [show ((-1 : Int32)).toInt = -1 from by decide]; first | exact b2 | omega)) ?_
  refine ev_go 3 (pc1 := 64) (lv1 := [.ref 86, .int k, .int be, .int (I 104 k.toNatClampNeg), .int (I 105 k.toNatClampNeg), .int w]) (st1 := [.int w, .int (I 105 k.toNatClampNeg), .ref 86]) (h1 := (124, I, J, R)) rfl ?_
  refine ev_call (v1 := (some (.int 1))) (h1 := (124, I, J, R)) rfl rfl c4 ?_
  refine ev_go 2 (pc1 := 87) (lv1 := [.ref 86, .int k, .int be, .int (I 104 k.toNatClampNeg), .int (I 105 k.toNatClampNeg), .int w]) (st1 := [.int 0]) (h1 := (124, I, J, R)) rfl ?_
  exact ev_ret rfl rfl
set_option maxRecDepth 20000 in
theorem tr_f {L : Nat} {xs : Nat → Int32} {d : Nat} {I : Nat → Nat → Int32} {J : Nat → Nat → Int64} {R : Nat → Nat → Nat} {k be w u : Int32} (hG : aGd R) (n1 : 0 ≤ k.toInt) (m1 : k.toInt < 300) (n2 : 0 ≤ k.toInt) (m2 : k.toInt < 300) (c1 : xEv L xs d 171 0 [.ref 86, .int (I 104 k.toNatClampNeg)] [] (124, I, J, R) (some (.int 1)) (124, I, J, R)) (c2 : xEv L xs d 168 0 [.ref 86, .int (I 105 k.toNatClampNeg)] [] (124, I, J, R) (some (.int 1)) (124, I, J, R)) (b1 : (I 104 k.toNatClampNeg).toInt ≥ be.toInt) (n3 : 0 ≤ (I 105 k.toNatClampNeg).toInt) (m3 : (I 105 k.toNatClampNeg).toInt < 4) (c3 : xEv L xs d 176 0 [.ref 86, .int (I 106 (I 105 k.toNatClampNeg).toNatClampNeg), .int (I 104 k.toNatClampNeg)] [] (124, I, J, R) (some (.int w)) (124, I, J, R)) (b2 : w.toInt ≠ -1) (c4 : xEv L xs d 179 0 [.ref 86, .int (I 105 k.toNatClampNeg), .int w] [] (124, I, J, R) (some (.int 0)) (124, I, J, R)) (c5 : xEv L xs d 180 0 [.ref 86, .int w, xmk, xmk] [] (124, I, J, R) (some (.int u)) (124, I, J, R)) (n4 : 0 ≤ w.toInt) (m4 : w.toInt < 14) (b3 : u.toInt = (I 90 w.toNatClampNeg).toInt) : xEv L xs (d + 1) 175 0 [.ref 86, .int k, .int be, xmk, xmk, xmk] [] (124, I, J, R) (some (.int 0)) (124, I, J, R) := by
  refine ev_go 1 (pc1 := 1) (lv1 := [.ref 86, .int k, .int be, xmk, xmk, xmk]) (st1 := [.ref 86]) (h1 := (124, I, J, R)) rfl ?_
  refine ev_gf (c := 86) (t := 104) (X := R 86 31) rfl rfl (fun _ => rfl) rfl (hG 86 31 104 rfl rfl) ?_
  refine ev_go 1 (pc1 := 5) (lv1 := [.ref 86, .int k, .int be, xmk, xmk, xmk]) (st1 := [.int k, .ref 104]) (h1 := (124, I, J, R)) rfl ?_
  refine ev_ild (n := 300) rfl rfl (fun _ => rfl) n1 m1 ?_
  refine ev_go 2 (pc1 := 8) (lv1 := [.ref 86, .int k, .int be, .int (I 104 k.toNatClampNeg), xmk, xmk]) (st1 := [.ref 86]) (h1 := (124, I, J, R)) rfl ?_
  refine ev_gf (c := 86) (t := 105) (X := R 86 32) rfl rfl (fun _ => rfl) rfl (hG 86 32 105 rfl rfl) ?_
  refine ev_go 1 (pc1 := 12) (lv1 := [.ref 86, .int k, .int be, .int (I 104 k.toNatClampNeg), xmk, xmk]) (st1 := [.int k, .ref 105]) (h1 := (124, I, J, R)) rfl ?_
  refine ev_ild (n := 300) rfl rfl (fun _ => rfl) n2 m2 ?_
  refine ev_go 3 (pc1 := 17) (lv1 := [.ref 86, .int k, .int be, .int (I 104 k.toNatClampNeg), .int (I 105 k.toNatClampNeg), xmk]) (st1 := [.int (I 104 k.toNatClampNeg), .ref 86]) (h1 := (124, I, J, R)) rfl ?_
  refine ev_call (v1 := (some (.int 1))) (h1 := (124, I, J, R)) rfl rfl c1 ?_
  refine ev_go 3 (pc1 := 26) (lv1 := [.ref 86, .int k, .int be, .int (I 104 k.toNatClampNeg), .int (I 105 k.toNatClampNeg), xmk]) (st1 := [.int (I 105 k.toNatClampNeg), .ref 86]) (h1 := (124, I, J, R)) rfl ?_
  refine ev_call (v1 := (some (.int 1))) (h1 := (124, I, J, R)) rfl rfl c2 ?_
  refine ev_go 3 (pc1 := 34) (lv1 := [.ref 86, .int k, .int be, .int (I 104 k.toNatClampNeg), .int (I 105 k.toNatClampNeg), xmk]) (st1 := [.int be, .int (I 104 k.toNatClampNeg)]) (h1 := (124, I, J, R)) rfl ?_
  refine ev_br (b1 := true) rfl rfl (xcd_ge (x := (I 104 k.toNatClampNeg)) (y := be) (by first | exact b1 | omega)) ?_
  refine ev_go 2 (pc1 := 41) (lv1 := [.ref 86, .int k, .int be, .int (I 104 k.toNatClampNeg), .int (I 105 k.toNatClampNeg), xmk]) (st1 := [.ref 86, .ref 86]) (h1 := (124, I, J, R)) rfl ?_
  refine ev_gf (c := 86) (t := 106) (X := R 86 36) rfl rfl (fun _ => rfl) rfl (hG 86 36 106 rfl rfl) ?_
  refine ev_go 1 (pc1 := 46) (lv1 := [.ref 86, .int k, .int be, .int (I 104 k.toNatClampNeg), .int (I 105 k.toNatClampNeg), xmk]) (st1 := [.int (I 105 k.toNatClampNeg), .ref 106, .ref 86]) (h1 := (124, I, J, R)) rfl ?_
  refine ev_ild (n := 4) rfl rfl (fun _ => rfl) n3 m3 ?_
  refine ev_go 1 (pc1 := 48) (lv1 := [.ref 86, .int k, .int be, .int (I 104 k.toNatClampNeg), .int (I 105 k.toNatClampNeg), xmk]) (st1 := [.int (I 104 k.toNatClampNeg), .int (I 106 (I 105 k.toNatClampNeg).toNatClampNeg), .ref 86]) (h1 := (124, I, J, R)) rfl ?_
  refine ev_call (v1 := (some (.int w))) (h1 := (124, I, J, R)) rfl rfl c3 ?_
  refine ev_go 3 (pc1 := 56) (lv1 := [.ref 86, .int k, .int be, .int (I 104 k.toNatClampNeg), .int (I 105 k.toNatClampNeg), .int w]) (st1 := [.int (-1), .int w]) (h1 := (124, I, J, R)) rfl ?_
  refine ev_br (b1 := false) rfl rfl (xcd_neq (x := w) (y := (-1)) (by rw [show ((-1 : Int32)).toInt = -1 from by decide]; first | exact b2 | omega)) ?_
  refine ev_go 3 (pc1 := 64) (lv1 := [.ref 86, .int k, .int be, .int (I 104 k.toNatClampNeg), .int (I 105 k.toNatClampNeg), .int w]) (st1 := [.int w, .int (I 105 k.toNatClampNeg), .ref 86]) (h1 := (124, I, J, R)) rfl ?_
  refine ev_call (v1 := (some (.int 0))) (h1 := (124, I, J, R)) rfl rfl c4 ?_
  refine ev_go 3 (pc1 := 73) (lv1 := [.ref 86, .int k, .int be, .int (I 104 k.toNatClampNeg), .int (I 105 k.toNatClampNeg), .int w]) (st1 := [.int w, .ref 86]) (h1 := (124, I, J, R)) rfl ?_
  refine ev_call (v1 := (some (.int u))) (h1 := (124, I, J, R)) rfl rfl c5 ?_
  refine ev_go 1 (pc1 := 77) (lv1 := [.ref 86, .int k, .int be, .int (I 104 k.toNatClampNeg), .int (I 105 k.toNatClampNeg), .int w]) (st1 := [.ref 86, .int u]) (h1 := (124, I, J, R)) rfl ?_
  refine ev_gf (c := 86) (t := 90) (X := R 86 14) rfl rfl (fun _ => rfl) rfl (hG 86 14 90 rfl rfl) ?_
  refine ev_go 1 (pc1 := 82) (lv1 := [.ref 86, .int k, .int be, .int (I 104 k.toNatClampNeg), .int (I 105 k.toNatClampNeg), .int w]) (st1 := [.int w, .ref 90, .int u]) (h1 := (124, I, J, R)) rfl ?_
  refine ev_ild (n := 14) rfl rfl (fun _ => rfl) n4 m4 ?_
  refine ev_br (b1 := false) rfl rfl (xcd_nne (x := u) (y := (I 90 w.toNatClampNeg)) (by first | exact b3 | omega)) ?_
  refine ev_go 1 (pc1 := 87) (lv1 := [.ref 86, .int k, .int be, .int (I 104 k.toNatClampNeg), .int (I 105 k.toNatClampNeg), .int w]) (st1 := [.int 0]) (h1 := (124, I, J, R)) rfl ?_
  exact ev_ret rfl rfl
set_option maxRecDepth 20000 in
theorem tr_g {L : Nat} {xs : Nat → Int32} {d : Nat} {I : Nat → Nat → Int32} {J : Nat → Nat → Int64} {R : Nat → Nat → Nat} {k be w u : Int32} (hG : aGd R) (n1 : 0 ≤ k.toInt) (m1 : k.toInt < 300) (n2 : 0 ≤ k.toInt) (m2 : k.toInt < 300) (c1 : xEv L xs d 171 0 [.ref 86, .int (I 104 k.toNatClampNeg)] [] (124, I, J, R) (some (.int 1)) (124, I, J, R)) (c2 : xEv L xs d 168 0 [.ref 86, .int (I 105 k.toNatClampNeg)] [] (124, I, J, R) (some (.int 1)) (124, I, J, R)) (b1 : (I 104 k.toNatClampNeg).toInt ≥ be.toInt) (n3 : 0 ≤ (I 105 k.toNatClampNeg).toInt) (m3 : (I 105 k.toNatClampNeg).toInt < 4) (c3 : xEv L xs d 176 0 [.ref 86, .int (I 106 (I 105 k.toNatClampNeg).toNatClampNeg), .int (I 104 k.toNatClampNeg)] [] (124, I, J, R) (some (.int w)) (124, I, J, R)) (b2 : w.toInt ≠ -1) (c4 : xEv L xs d 179 0 [.ref 86, .int (I 105 k.toNatClampNeg), .int w] [] (124, I, J, R) (some (.int 0)) (124, I, J, R)) (c5 : xEv L xs d 180 0 [.ref 86, .int w, xmk, xmk] [] (124, I, J, R) (some (.int u)) (124, I, J, R)) (n4 : 0 ≤ w.toInt) (m4 : w.toInt < 14) (b3 : u.toInt ≠ (I 90 w.toNatClampNeg).toInt) (n5 : 0 ≤ (I 105 k.toNatClampNeg).toInt) (m5 : (I 105 k.toNatClampNeg).toInt < 4) (n6 : 0 ≤ (I 105 k.toNatClampNeg).toInt) (m6 : (I 105 k.toNatClampNeg).toInt < 4) (b4 : (I 104 k.toNatClampNeg).toInt ≥ (I 103 (I 105 k.toNatClampNeg).toNatClampNeg).toInt) : xEv L xs (d + 1) 175 0 [.ref 86, .int k, .int be, xmk, xmk, xmk] [] (124, I, J, R) (some (.int 1)) (124, (uI I 106 (I 105 k.toNatClampNeg).toNatClampNeg w), J, R) := by
  refine ev_go 1 (pc1 := 1) (lv1 := [.ref 86, .int k, .int be, xmk, xmk, xmk]) (st1 := [.ref 86]) (h1 := (124, I, J, R)) rfl ?_
  refine ev_gf (c := 86) (t := 104) (X := R 86 31) rfl rfl (fun _ => rfl) rfl (hG 86 31 104 rfl rfl) ?_
  refine ev_go 1 (pc1 := 5) (lv1 := [.ref 86, .int k, .int be, xmk, xmk, xmk]) (st1 := [.int k, .ref 104]) (h1 := (124, I, J, R)) rfl ?_
  refine ev_ild (n := 300) rfl rfl (fun _ => rfl) n1 m1 ?_
  refine ev_go 2 (pc1 := 8) (lv1 := [.ref 86, .int k, .int be, .int (I 104 k.toNatClampNeg), xmk, xmk]) (st1 := [.ref 86]) (h1 := (124, I, J, R)) rfl ?_
  refine ev_gf (c := 86) (t := 105) (X := R 86 32) rfl rfl (fun _ => rfl) rfl (hG 86 32 105 rfl rfl) ?_
  refine ev_go 1 (pc1 := 12) (lv1 := [.ref 86, .int k, .int be, .int (I 104 k.toNatClampNeg), xmk, xmk]) (st1 := [.int k, .ref 105]) (h1 := (124, I, J, R)) rfl ?_
  refine ev_ild (n := 300) rfl rfl (fun _ => rfl) n2 m2 ?_
  refine ev_go 3 (pc1 := 17) (lv1 := [.ref 86, .int k, .int be, .int (I 104 k.toNatClampNeg), .int (I 105 k.toNatClampNeg), xmk]) (st1 := [.int (I 104 k.toNatClampNeg), .ref 86]) (h1 := (124, I, J, R)) rfl ?_
  refine ev_call (v1 := (some (.int 1))) (h1 := (124, I, J, R)) rfl rfl c1 ?_
  refine ev_go 3 (pc1 := 26) (lv1 := [.ref 86, .int k, .int be, .int (I 104 k.toNatClampNeg), .int (I 105 k.toNatClampNeg), xmk]) (st1 := [.int (I 105 k.toNatClampNeg), .ref 86]) (h1 := (124, I, J, R)) rfl ?_
  refine ev_call (v1 := (some (.int 1))) (h1 := (124, I, J, R)) rfl rfl c2 ?_
  refine ev_go 3 (pc1 := 34) (lv1 := [.ref 86, .int k, .int be, .int (I 104 k.toNatClampNeg), .int (I 105 k.toNatClampNeg), xmk]) (st1 := [.int be, .int (I 104 k.toNatClampNeg)]) (h1 := (124, I, J, R)) rfl ?_
  refine ev_br (b1 := true) rfl rfl (xcd_ge (x := (I 104 k.toNatClampNeg)) (y := be) (by first | exact b1 | omega)) ?_
  refine ev_go 2 (pc1 := 41) (lv1 := [.ref 86, .int k, .int be, .int (I 104 k.toNatClampNeg), .int (I 105 k.toNatClampNeg), xmk]) (st1 := [.ref 86, .ref 86]) (h1 := (124, I, J, R)) rfl ?_
  refine ev_gf (c := 86) (t := 106) (X := R 86 36) rfl rfl (fun _ => rfl) rfl (hG 86 36 106 rfl rfl) ?_
  refine ev_go 1 (pc1 := 46) (lv1 := [.ref 86, .int k, .int be, .int (I 104 k.toNatClampNeg), .int (I 105 k.toNatClampNeg), xmk]) (st1 := [.int (I 105 k.toNatClampNeg), .ref 106, .ref 86]) (h1 := (124, I, J, R)) rfl ?_
  refine ev_ild (n := 4) rfl rfl (fun _ => rfl) n3 m3 ?_
  refine ev_go 1 (pc1 := 48) (lv1 := [.ref 86, .int k, .int be, .int (I 104 k.toNatClampNeg), .int (I 105 k.toNatClampNeg), xmk]) (st1 := [.int (I 104 k.toNatClampNeg), .int (I 106 (I 105 k.toNatClampNeg).toNatClampNeg), .ref 86]) (h1 := (124, I, J, R)) rfl ?_
  refine ev_call (v1 := (some (.int w))) (h1 := (124, I, J, R)) rfl rfl c3 ?_
  refine ev_go 3 (pc1 := 56) (lv1 := [.ref 86, .int k, .int be, .int (I 104 k.toNatClampNeg), .int (I 105 k.toNatClampNeg), .int w]) (st1 := [.int (-1), .int w]) (h1 := (124, I, J, R)) rfl ?_
  refine ev_br (b1 := false) rfl rfl (xcd_neq (x := w) (y := (-1)) (by rw [show ((-1 : Int32)).toInt = -1 from by decide]; first | exact b2 | omega)) ?_
  refine ev_go 3 (pc1 := 64) (lv1 := [.ref 86, .int k, .int be, .int (I 104 k.toNatClampNeg), .int (I 105 k.toNatClampNeg), .int w]) (st1 := [.int w, .int (I 105 k.toNatClampNeg), .ref 86]) (h1 := (124, I, J, R)) rfl ?_
  refine ev_call (v1 := (some (.int 0))) (h1 := (124, I, J, R)) rfl rfl c4 ?_
  refine ev_go 3 (pc1 := 73) (lv1 := [.ref 86, .int k, .int be, .int (I 104 k.toNatClampNeg), .int (I 105 k.toNatClampNeg), .int w]) (st1 := [.int w, .ref 86]) (h1 := (124, I, J, R)) rfl ?_
  refine ev_call (v1 := (some (.int u))) (h1 := (124, I, J, R)) rfl rfl c5 ?_
  refine ev_go 1 (pc1 := 77) (lv1 := [.ref 86, .int k, .int be, .int (I 104 k.toNatClampNeg), .int (I 105 k.toNatClampNeg), .int w]) (st1 := [.ref 86, .int u]) (h1 := (124, I, J, R)) rfl ?_
  refine ev_gf (c := 86) (t := 90) (X := R 86 14) rfl rfl (fun _ => rfl) rfl (hG 86 14 90 rfl rfl) ?_
  refine ev_go 1 (pc1 := 82) (lv1 := [.ref 86, .int k, .int be, .int (I 104 k.toNatClampNeg), .int (I 105 k.toNatClampNeg), .int w]) (st1 := [.int w, .ref 90, .int u]) (h1 := (124, I, J, R)) rfl ?_
  refine ev_ild (n := 14) rfl rfl (fun _ => rfl) n4 m4 ?_
  refine ev_br (b1 := true) rfl rfl (xcd_ne (x := u) (y := (I 90 w.toNatClampNeg)) (by first | exact b3 | omega)) ?_
  refine ev_go 1 (pc1 := 89) (lv1 := [.ref 86, .int k, .int be, .int (I 104 k.toNatClampNeg), .int (I 105 k.toNatClampNeg), .int w]) (st1 := [.ref 86]) (h1 := (124, I, J, R)) rfl ?_
  refine ev_gf (c := 86) (t := 106) (X := R 86 36) rfl rfl (fun _ => rfl) rfl (hG 86 36 106 rfl rfl) ?_
  refine ev_go 2 (pc1 := 96) (lv1 := [.ref 86, .int k, .int be, .int (I 104 k.toNatClampNeg), .int (I 105 k.toNatClampNeg), .int w]) (st1 := [.int w, .int (I 105 k.toNatClampNeg), .ref 106]) (h1 := (124, I, J, R)) rfl ?_
  refine ev_ist (n := 4) rfl rfl (fun _ => rfl) n5 m5 ?_
  refine ev_go 2 (pc1 := 99) (lv1 := [.ref 86, .int k, .int be, .int (I 104 k.toNatClampNeg), .int (I 105 k.toNatClampNeg), .int w]) (st1 := [.ref 86, .int (I 104 k.toNatClampNeg)]) (h1 := (124, (uI I 106 (I 105 k.toNatClampNeg).toNatClampNeg w), J, R)) rfl ?_
  refine ev_gf (c := 86) (t := 103) (X := R 86 29) rfl rfl (fun _ => rfl) rfl (hG 86 29 103 rfl rfl) ?_
  refine ev_go 1 (pc1 := 104) (lv1 := [.ref 86, .int k, .int be, .int (I 104 k.toNatClampNeg), .int (I 105 k.toNatClampNeg), .int w]) (st1 := [.int (I 105 k.toNatClampNeg), .ref 103, .int (I 104 k.toNatClampNeg)]) (h1 := (124, (uI I 106 (I 105 k.toNatClampNeg).toNatClampNeg w), J, R)) rfl ?_
  refine ev_ild (n := 4) rfl rfl (fun _ => rfl) n6 m6 ?_
  refine ev_br (b1 := true) rfl rfl (xcd_ge (x := (I 104 k.toNatClampNeg)) (y := (I 103 (I 105 k.toNatClampNeg).toNatClampNeg)) (by first | exact b4 | omega)) ?_
  refine ev_go 1 (pc1 := 118) (lv1 := [.ref 86, .int k, .int be, .int (I 104 k.toNatClampNeg), .int (I 105 k.toNatClampNeg), .int w]) (st1 := [.int 1]) (h1 := (124, (uI I 106 (I 105 k.toNatClampNeg).toNatClampNeg w), J, R)) rfl ?_
  exact ev_ret rfl rfl
set_option maxRecDepth 20000 in
theorem tr_h {L : Nat} {xs : Nat → Int32} {d : Nat} {I : Nat → Nat → Int32} {J : Nat → Nat → Int64} {R : Nat → Nat → Nat} {k be w u : Int32} (hG : aGd R) (n1 : 0 ≤ k.toInt) (m1 : k.toInt < 300) (n2 : 0 ≤ k.toInt) (m2 : k.toInt < 300) (c1 : xEv L xs d 171 0 [.ref 86, .int (I 104 k.toNatClampNeg)] [] (124, I, J, R) (some (.int 1)) (124, I, J, R)) (c2 : xEv L xs d 168 0 [.ref 86, .int (I 105 k.toNatClampNeg)] [] (124, I, J, R) (some (.int 1)) (124, I, J, R)) (b1 : (I 104 k.toNatClampNeg).toInt ≥ be.toInt) (n3 : 0 ≤ (I 105 k.toNatClampNeg).toInt) (m3 : (I 105 k.toNatClampNeg).toInt < 4) (c3 : xEv L xs d 176 0 [.ref 86, .int (I 106 (I 105 k.toNatClampNeg).toNatClampNeg), .int (I 104 k.toNatClampNeg)] [] (124, I, J, R) (some (.int w)) (124, I, J, R)) (b2 : w.toInt ≠ -1) (c4 : xEv L xs d 179 0 [.ref 86, .int (I 105 k.toNatClampNeg), .int w] [] (124, I, J, R) (some (.int 0)) (124, I, J, R)) (c5 : xEv L xs d 180 0 [.ref 86, .int w, xmk, xmk] [] (124, I, J, R) (some (.int u)) (124, I, J, R)) (n4 : 0 ≤ w.toInt) (m4 : w.toInt < 14) (b3 : u.toInt ≠ (I 90 w.toNatClampNeg).toInt) (n5 : 0 ≤ (I 105 k.toNatClampNeg).toInt) (m5 : (I 105 k.toNatClampNeg).toInt < 4) (n6 : 0 ≤ (I 105 k.toNatClampNeg).toInt) (m6 : (I 105 k.toNatClampNeg).toInt < 4) (b4 : (I 104 k.toNatClampNeg).toInt < (I 103 (I 105 k.toNatClampNeg).toNatClampNeg).toInt) (n7 : 0 ≤ (I 105 k.toNatClampNeg).toInt) (m7 : (I 105 k.toNatClampNeg).toInt < 4) : xEv L xs (d + 1) 175 0 [.ref 86, .int k, .int be, xmk, xmk, xmk] [] (124, I, J, R) (some (.int 1)) (124, (uI (uI I 106 (I 105 k.toNatClampNeg).toNatClampNeg w) 107 (I 105 k.toNatClampNeg).toNatClampNeg w), J, R) := by
  refine ev_go 1 (pc1 := 1) (lv1 := [.ref 86, .int k, .int be, xmk, xmk, xmk]) (st1 := [.ref 86]) (h1 := (124, I, J, R)) rfl ?_
  refine ev_gf (c := 86) (t := 104) (X := R 86 31) rfl rfl (fun _ => rfl) rfl (hG 86 31 104 rfl rfl) ?_
  refine ev_go 1 (pc1 := 5) (lv1 := [.ref 86, .int k, .int be, xmk, xmk, xmk]) (st1 := [.int k, .ref 104]) (h1 := (124, I, J, R)) rfl ?_
  refine ev_ild (n := 300) rfl rfl (fun _ => rfl) n1 m1 ?_
  refine ev_go 2 (pc1 := 8) (lv1 := [.ref 86, .int k, .int be, .int (I 104 k.toNatClampNeg), xmk, xmk]) (st1 := [.ref 86]) (h1 := (124, I, J, R)) rfl ?_
  refine ev_gf (c := 86) (t := 105) (X := R 86 32) rfl rfl (fun _ => rfl) rfl (hG 86 32 105 rfl rfl) ?_
  refine ev_go 1 (pc1 := 12) (lv1 := [.ref 86, .int k, .int be, .int (I 104 k.toNatClampNeg), xmk, xmk]) (st1 := [.int k, .ref 105]) (h1 := (124, I, J, R)) rfl ?_
  refine ev_ild (n := 300) rfl rfl (fun _ => rfl) n2 m2 ?_
  refine ev_go 3 (pc1 := 17) (lv1 := [.ref 86, .int k, .int be, .int (I 104 k.toNatClampNeg), .int (I 105 k.toNatClampNeg), xmk]) (st1 := [.int (I 104 k.toNatClampNeg), .ref 86]) (h1 := (124, I, J, R)) rfl ?_
  refine ev_call (v1 := (some (.int 1))) (h1 := (124, I, J, R)) rfl rfl c1 ?_
  refine ev_go 3 (pc1 := 26) (lv1 := [.ref 86, .int k, .int be, .int (I 104 k.toNatClampNeg), .int (I 105 k.toNatClampNeg), xmk]) (st1 := [.int (I 105 k.toNatClampNeg), .ref 86]) (h1 := (124, I, J, R)) rfl ?_
  refine ev_call (v1 := (some (.int 1))) (h1 := (124, I, J, R)) rfl rfl c2 ?_
  refine ev_go 3 (pc1 := 34) (lv1 := [.ref 86, .int k, .int be, .int (I 104 k.toNatClampNeg), .int (I 105 k.toNatClampNeg), xmk]) (st1 := [.int be, .int (I 104 k.toNatClampNeg)]) (h1 := (124, I, J, R)) rfl ?_
  refine ev_br (b1 := true) rfl rfl (xcd_ge (x := (I 104 k.toNatClampNeg)) (y := be) (by first | exact b1 | omega)) ?_
  refine ev_go 2 (pc1 := 41) (lv1 := [.ref 86, .int k, .int be, .int (I 104 k.toNatClampNeg), .int (I 105 k.toNatClampNeg), xmk]) (st1 := [.ref 86, .ref 86]) (h1 := (124, I, J, R)) rfl ?_
  refine ev_gf (c := 86) (t := 106) (X := R 86 36) rfl rfl (fun _ => rfl) rfl (hG 86 36 106 rfl rfl) ?_
  refine ev_go 1 (pc1 := 46) (lv1 := [.ref 86, .int k, .int be, .int (I 104 k.toNatClampNeg), .int (I 105 k.toNatClampNeg), xmk]) (st1 := [.int (I 105 k.toNatClampNeg), .ref 106, .ref 86]) (h1 := (124, I, J, R)) rfl ?_
  refine ev_ild (n := 4) rfl rfl (fun _ => rfl) n3 m3 ?_
  refine ev_go 1 (pc1 := 48) (lv1 := [.ref 86, .int k, .int be, .int (I 104 k.toNatClampNeg), .int (I 105 k.toNatClampNeg), xmk]) (st1 := [.int (I 104 k.toNatClampNeg), .int (I 106 (I 105 k.toNatClampNeg).toNatClampNeg), .ref 86]) (h1 := (124, I, J, R)) rfl ?_
  refine ev_call (v1 := (some (.int w))) (h1 := (124, I, J, R)) rfl rfl c3 ?_
  refine ev_go 3 (pc1 := 56) (lv1 := [.ref 86, .int k, .int be, .int (I 104 k.toNatClampNeg), .int (I 105 k.toNatClampNeg), .int w]) (st1 := [.int (-1), .int w]) (h1 := (124, I, J, R)) rfl ?_
  refine ev_br (b1 := false) rfl rfl (xcd_neq (x := w) (y := (-1)) (by rw [show ((-1 : Int32)).toInt = -1 from by decide]; first | exact b2 | omega)) ?_
  refine ev_go 3 (pc1 := 64) (lv1 := [.ref 86, .int k, .int be, .int (I 104 k.toNatClampNeg), .int (I 105 k.toNatClampNeg), .int w]) (st1 := [.int w, .int (I 105 k.toNatClampNeg), .ref 86]) (h1 := (124, I, J, R)) rfl ?_
  refine ev_call (v1 := (some (.int 0))) (h1 := (124, I, J, R)) rfl rfl c4 ?_
  refine ev_go 3 (pc1 := 73) (lv1 := [.ref 86, .int k, .int be, .int (I 104 k.toNatClampNeg), .int (I 105 k.toNatClampNeg), .int w]) (st1 := [.int w, .ref 86]) (h1 := (124, I, J, R)) rfl ?_
  refine ev_call (v1 := (some (.int u))) (h1 := (124, I, J, R)) rfl rfl c5 ?_
  refine ev_go 1 (pc1 := 77) (lv1 := [.ref 86, .int k, .int be, .int (I 104 k.toNatClampNeg), .int (I 105 k.toNatClampNeg), .int w]) (st1 := [.ref 86, .int u]) (h1 := (124, I, J, R)) rfl ?_
  refine ev_gf (c := 86) (t := 90) (X := R 86 14) rfl rfl (fun _ => rfl) rfl (hG 86 14 90 rfl rfl) ?_
  refine ev_go 1 (pc1 := 82) (lv1 := [.ref 86, .int k, .int be, .int (I 104 k.toNatClampNeg), .int (I 105 k.toNatClampNeg), .int w]) (st1 := [.int w, .ref 90, .int u]) (h1 := (124, I, J, R)) rfl ?_
  refine ev_ild (n := 14) rfl rfl (fun _ => rfl) n4 m4 ?_
  refine ev_br (b1 := true) rfl rfl (xcd_ne (x := u) (y := (I 90 w.toNatClampNeg)) (by first | exact b3 | omega)) ?_
  refine ev_go 1 (pc1 := 89) (lv1 := [.ref 86, .int k, .int be, .int (I 104 k.toNatClampNeg), .int (I 105 k.toNatClampNeg), .int w]) (st1 := [.ref 86]) (h1 := (124, I, J, R)) rfl ?_
  refine ev_gf (c := 86) (t := 106) (X := R 86 36) rfl rfl (fun _ => rfl) rfl (hG 86 36 106 rfl rfl) ?_
  refine ev_go 2 (pc1 := 96) (lv1 := [.ref 86, .int k, .int be, .int (I 104 k.toNatClampNeg), .int (I 105 k.toNatClampNeg), .int w]) (st1 := [.int w, .int (I 105 k.toNatClampNeg), .ref 106]) (h1 := (124, I, J, R)) rfl ?_
  refine ev_ist (n := 4) rfl rfl (fun _ => rfl) n5 m5 ?_
  refine ev_go 2 (pc1 := 99) (lv1 := [.ref 86, .int k, .int be, .int (I 104 k.toNatClampNeg), .int (I 105 k.toNatClampNeg), .int w]) (st1 := [.ref 86, .int (I 104 k.toNatClampNeg)]) (h1 := (124, (uI I 106 (I 105 k.toNatClampNeg).toNatClampNeg w), J, R)) rfl ?_
  refine ev_gf (c := 86) (t := 103) (X := R 86 29) rfl rfl (fun _ => rfl) rfl (hG 86 29 103 rfl rfl) ?_
  refine ev_go 1 (pc1 := 104) (lv1 := [.ref 86, .int k, .int be, .int (I 104 k.toNatClampNeg), .int (I 105 k.toNatClampNeg), .int w]) (st1 := [.int (I 105 k.toNatClampNeg), .ref 103, .int (I 104 k.toNatClampNeg)]) (h1 := (124, (uI I 106 (I 105 k.toNatClampNeg).toNatClampNeg w), J, R)) rfl ?_
  refine ev_ild (n := 4) rfl rfl (fun _ => rfl) n6 m6 ?_
  refine ev_br (b1 := false) rfl rfl (xcd_nge (x := (I 104 k.toNatClampNeg)) (y := (I 103 (I 105 k.toNatClampNeg).toNatClampNeg)) (by first | exact b4 | omega)) ?_
  refine ev_go 1 (pc1 := 109) (lv1 := [.ref 86, .int k, .int be, .int (I 104 k.toNatClampNeg), .int (I 105 k.toNatClampNeg), .int w]) (st1 := [.ref 86]) (h1 := (124, (uI I 106 (I 105 k.toNatClampNeg).toNatClampNeg w), J, R)) rfl ?_
  refine ev_gf (c := 86) (t := 107) (X := R 86 37) rfl rfl (fun _ => rfl) rfl (hG 86 37 107 rfl rfl) ?_
  refine ev_go 2 (pc1 := 116) (lv1 := [.ref 86, .int k, .int be, .int (I 104 k.toNatClampNeg), .int (I 105 k.toNatClampNeg), .int w]) (st1 := [.int w, .int (I 105 k.toNatClampNeg), .ref 107]) (h1 := (124, (uI I 106 (I 105 k.toNatClampNeg).toNatClampNeg w), J, R)) rfl ?_
  refine ev_ist (n := 4) rfl rfl (fun _ => rfl) n7 m7 ?_
  refine ev_go 1 (pc1 := 118) (lv1 := [.ref 86, .int k, .int be, .int (I 104 k.toNatClampNeg), .int (I 105 k.toNatClampNeg), .int w]) (st1 := [.int 1]) (h1 := (124, (uI (uI I 106 (I 105 k.toNatClampNeg).toNatClampNeg w) 107 (I 105 k.toNatClampNeg).toNatClampNeg w), J, R)) rfl ?_
  exact ev_ret rfl rfl
set_option maxRecDepth 20000 in
theorem jr_x {L : Nat} {xs : Nat → Int32} {d : Nat} {I : Nat → Nat → Int32} {J : Nat → Nat → Int64} {R : Nat → Nat → Nat} {I1 : Nat → Nat → Int32} {J1 : Nat → Nat → Int64} (hG : aGd R) (c1 : xEv L xs d 173 0 [.ref 86, .int 3, xmk] [] (124, I, J, R) (some (.int 0)) (124, I1, J1, R)) : xEv L xs (d + 1) 172 0 [.ref 86, xmk, xmk] [] (124, I, J, R) (some (.int (-1000))) (124, I1, J1, R) := by
  refine ev_go 2 (pc1 := 2) (lv1 := [.ref 86, xmk, xmk]) (st1 := [.int 3, .ref 86]) (h1 := (124, I, J, R)) rfl ?_
  refine ev_call (v1 := (some (.int 0))) (h1 := (124, I1, J1, R)) rfl rfl c1 ?_
  refine ev_go 2 (pc1 := 11) (lv1 := [.ref 86, xmk, xmk]) (st1 := [.int (-1000)]) (h1 := (124, I1, J1, R)) rfl ?_
  exact ev_ret rfl rfl
set_option maxRecDepth 20000 in
theorem jr_s {L : Nat} {xs : Nat → Int32} {d : Nat} {I : Nat → Nat → Int32} {J : Nat → Nat → Int64} {R : Nat → Nat → Nat} {I1 : Nat → Nat → Int32} {J1 : Nat → Nat → Int64} (hG : aGd R) (c1 : xEv L xs d 173 0 [.ref 86, .int 3, xmk] [] (124, I, J, R) (some (.int 1)) (124, I1, J1, R)) {v : Option Value} {h' : xH} (hk : xEv L xs (d + 1) 172 19 [.ref 86, .int 0, xmk] [] (124, (uI I1 86 35 1), J1, R) v h') : xEv L xs (d + 1) 172 0 [.ref 86, xmk, xmk] [] (124, I, J, R) v h' := by
  refine ev_go 2 (pc1 := 2) (lv1 := [.ref 86, xmk, xmk]) (st1 := [.int 3, .ref 86]) (h1 := (124, I, J, R)) rfl ?_
  refine ev_call (v1 := (some (.int 1))) (h1 := (124, I1, J1, R)) rfl rfl c1 ?_
  refine ev_go 6 (pc1 := 19) (lv1 := [.ref 86, .int 0, xmk]) (st1 := []) (h1 := (124, (uI I1 86 35 1), J1, R)) rfl ?_
  exact hk
set_option maxRecDepth 20000 in
theorem jr_a {L : Nat} {xs : Nat → Int32} {d : Nat} {I : Nat → Nat → Int32} {J : Nat → Nat → Int64} {R : Nat → Nat → Nat} {n : Int32} {w2 : Value} (hG : aGd R) (b1 : n.toInt < (I 88 2).toInt) (n1 : 0 ≤ n.toInt) (m1 : n.toInt < 8) (n2 : 0 ≤ n.toInt) (m2 : n.toInt < 4) (n3 : 0 ≤ n.toInt) (m3 : n.toInt < 8) (n4 : 0 ≤ n.toInt) (m4 : n.toInt < 4) {v : Option Value} {h' : xH} (hk : xEv L xs d 172 19 [.ref 86, .int (n + 1), w2] [] (124, (uI (uI I 106 n.toNatClampNeg (I 96 n.toNatClampNeg)) 107 n.toNatClampNeg (I 96 n.toNatClampNeg)), J, R) v h') : xEv L xs d 172 19 [.ref 86, .int n, w2] [] (124, I, J, R) v h' := by
  refine ev_go 2 (pc1 := 21) (lv1 := [.ref 86, .int n, w2]) (st1 := [.ref 86, .int n]) (h1 := (124, I, J, R)) rfl ?_
  refine ev_gf (c := 86) (t := 88) (X := R 86 12) rfl rfl (fun _ => rfl) rfl (hG 86 12 88 rfl rfl) ?_
  refine ev_go 2 (pc1 := 26) (lv1 := [.ref 86, .int n, w2]) (st1 := [.int (I 88 2), .int n]) (h1 := (124, I, J, R)) rfl ?_
  refine ev_br (b1 := false) rfl rfl (xcd_nge (x := n) (y := (I 88 2)) (by first | exact b1 | omega)) ?_
  refine ev_go 1 (pc1 := 30) (lv1 := [.ref 86, .int n, w2]) (st1 := [.ref 86]) (h1 := (124, I, J, R)) rfl ?_
  refine ev_gf (c := 86) (t := 106) (X := R 86 36) rfl rfl (fun _ => rfl) rfl (hG 86 36 106 rfl rfl) ?_
  refine ev_go 2 (pc1 := 35) (lv1 := [.ref 86, .int n, w2]) (st1 := [.ref 86, .int n, .ref 106]) (h1 := (124, I, J, R)) rfl ?_
  refine ev_gf (c := 86) (t := 96) (X := R 86 20) rfl rfl (fun _ => rfl) rfl (hG 86 20 96 rfl rfl) ?_
  refine ev_go 1 (pc1 := 39) (lv1 := [.ref 86, .int n, w2]) (st1 := [.int n, .ref 96, .int n, .ref 106]) (h1 := (124, I, J, R)) rfl ?_
  refine ev_ild (n := 8) rfl rfl (fun _ => rfl) n1 m1 ?_
  refine ev_ist (n := 4) rfl rfl (fun _ => rfl) n2 m2 ?_
  refine ev_go 1 (pc1 := 42) (lv1 := [.ref 86, .int n, w2]) (st1 := [.ref 86]) (h1 := (124, (uI I 106 n.toNatClampNeg (I 96 n.toNatClampNeg)), J, R)) rfl ?_
  refine ev_gf (c := 86) (t := 107) (X := R 86 37) rfl rfl (fun _ => rfl) rfl (hG 86 37 107 rfl rfl) ?_
  refine ev_go 2 (pc1 := 47) (lv1 := [.ref 86, .int n, w2]) (st1 := [.ref 86, .int n, .ref 107]) (h1 := (124, (uI I 106 n.toNatClampNeg (I 96 n.toNatClampNeg)), J, R)) rfl ?_
  refine ev_gf (c := 86) (t := 96) (X := R 86 20) rfl rfl (fun _ => rfl) rfl (hG 86 20 96 rfl rfl) ?_
  refine ev_go 1 (pc1 := 51) (lv1 := [.ref 86, .int n, w2]) (st1 := [.int n, .ref 96, .int n, .ref 107]) (h1 := (124, (uI I 106 n.toNatClampNeg (I 96 n.toNatClampNeg)), J, R)) rfl ?_
  refine ev_ild (n := 8) rfl rfl (fun _ => rfl) n3 m3 ?_
  refine ev_ist (n := 4) rfl rfl (fun _ => rfl) n4 m4 ?_
  refine ev_go 2 (pc1 := 19) (lv1 := [.ref 86, .int (n + 1), w2]) (st1 := []) (h1 := (124, (uI (uI I 106 n.toNatClampNeg (I 96 n.toNatClampNeg)) 107 n.toNatClampNeg (I 96 n.toNatClampNeg)), J, R)) rfl ?_
  exact hk
set_option maxRecDepth 20000 in
theorem jr_b {L : Nat} {xs : Nat → Int32} {d : Nat} {I : Nat → Nat → Int32} {J : Nat → Nat → Int64} {R : Nat → Nat → Nat} {n : Int32} {w2 : Value} (hG : aGd R) (b1 : n.toInt ≥ (I 88 2).toInt) {v : Option Value} {h' : xH} (hk : xEv L xs d 172 63 [.ref 86, .int 0, .int 0] [] (124, I, J, R) v h') : xEv L xs d 172 19 [.ref 86, .int n, w2] [] (124, I, J, R) v h' := by
  refine ev_go 2 (pc1 := 21) (lv1 := [.ref 86, .int n, w2]) (st1 := [.ref 86, .int n]) (h1 := (124, I, J, R)) rfl ?_
  refine ev_gf (c := 86) (t := 88) (X := R 86 12) rfl rfl (fun _ => rfl) rfl (hG 86 12 88 rfl rfl) ?_
  refine ev_go 2 (pc1 := 26) (lv1 := [.ref 86, .int n, w2]) (st1 := [.int (I 88 2), .int n]) (h1 := (124, I, J, R)) rfl ?_
  refine ev_br (b1 := true) rfl rfl (xcd_ge (x := n) (y := (I 88 2)) (by first | exact b1 | omega)) ?_
  refine ev_go 4 (pc1 := 63) (lv1 := [.ref 86, .int 0, .int 0]) (st1 := []) (h1 := (124, I, J, R)) rfl ?_
  exact hk
set_option maxRecDepth 20000 in
theorem jr_e {L : Nat} {xs : Nat → Int32} {d : Nat} {I : Nat → Nat → Int32} {J : Nat → Nat → Int64} {R : Nat → Nat → Nat} {be k : Int32} (hG : aGd R) (b1 : k.toInt ≥ (I 86 30).toInt) : xEv L xs d 172 63 [.ref 86, .int be, .int k] [] (124, I, J, R) (some (.int (I 86 30))) (124, I, J, R) := by
  refine ev_go 3 (pc1 := 68) (lv1 := [.ref 86, .int be, .int k]) (st1 := [.int (I 86 30), .int k]) (h1 := (124, I, J, R)) rfl ?_
  refine ev_br (b1 := true) rfl rfl (xcd_ge (x := k) (y := (I 86 30)) (by first | exact b1 | omega)) ?_
  refine ev_go 2 (pc1 := 101) (lv1 := [.ref 86, .int be, .int k]) (st1 := [.int (I 86 30)]) (h1 := (124, I, J, R)) rfl ?_
  exact ev_ret rfl rfl
set_option maxRecDepth 20000 in
theorem jr_f {L : Nat} {xs : Nat → Int32} {d : Nat} {I : Nat → Nat → Int32} {J : Nat → Nat → Int64} {R : Nat → Nat → Nat} {be k : Int32} (hG : aGd R) (b1 : k.toInt < (I 86 30).toInt) (c1 : xEv L xs d 175 0 [.ref 86, .int k, .int be, xmk, xmk, xmk] [] (124, I, J, R) (some (.int 0)) (124, I, J, R)) : xEv L xs (d + 1) 172 63 [.ref 86, .int be, .int k] [] (124, I, J, R) (some (.int ((-1) - k))) (124, I, J, R) := by
  refine ev_go 3 (pc1 := 68) (lv1 := [.ref 86, .int be, .int k]) (st1 := [.int (I 86 30), .int k]) (h1 := (124, I, J, R)) rfl ?_
  refine ev_br (b1 := false) rfl rfl (xcd_nge (x := k) (y := (I 86 30)) (by first | exact b1 | omega)) ?_
  refine ev_go 3 (pc1 := 74) (lv1 := [.ref 86, .int be, .int k]) (st1 := [.int be, .int k, .ref 86]) (h1 := (124, I, J, R)) rfl ?_
  refine ev_call (v1 := (some (.int 0))) (h1 := (124, I, J, R)) rfl rfl c1 ?_
  refine ev_go 4 (pc1 := 83) (lv1 := [.ref 86, .int be, .int k]) (st1 := [.int ((-1) - k)]) (h1 := (124, I, J, R)) rfl ?_
  exact ev_ret rfl rfl
set_option maxRecDepth 20000 in
theorem jr_n {L : Nat} {xs : Nat → Int32} {d : Nat} {I : Nat → Nat → Int32} {J : Nat → Nat → Int64} {R : Nat → Nat → Nat} {I1 : Nat → Nat → Int32} {J1 : Nat → Nat → Int64} {be k : Int32} (hG : aGd R) (b1 : k.toInt < (I 86 30).toInt) (c1 : xEv L xs d 175 0 [.ref 86, .int k, .int be, xmk, xmk, xmk] [] (124, I, J, R) (some (.int 1)) (124, I1, J1, R)) (n1 : 0 ≤ k.toInt) (m1 : k.toInt < 300) {v : Option Value} {h' : xH} (hk : xEv L xs (d + 1) 172 63 [.ref 86, .int (I1 104 k.toNatClampNeg), .int (k + 1)] [] (124, I1, J1, R) v h') : xEv L xs (d + 1) 172 63 [.ref 86, .int be, .int k] [] (124, I, J, R) v h' := by
  refine ev_go 3 (pc1 := 68) (lv1 := [.ref 86, .int be, .int k]) (st1 := [.int (I 86 30), .int k]) (h1 := (124, I, J, R)) rfl ?_
  refine ev_br (b1 := false) rfl rfl (xcd_nge (x := k) (y := (I 86 30)) (by first | exact b1 | omega)) ?_
  refine ev_go 3 (pc1 := 74) (lv1 := [.ref 86, .int be, .int k]) (st1 := [.int be, .int k, .ref 86]) (h1 := (124, I, J, R)) rfl ?_
  refine ev_call (v1 := (some (.int 1))) (h1 := (124, I1, J1, R)) rfl rfl c1 ?_
  refine ev_go 2 (pc1 := 85) (lv1 := [.ref 86, .int be, .int k]) (st1 := [.ref 86]) (h1 := (124, I1, J1, R)) rfl ?_
  refine ev_gf (c := 86) (t := 104) (X := R 86 31) rfl rfl (fun _ => rfl) rfl (hG 86 31 104 rfl rfl) ?_
  refine ev_go 1 (pc1 := 89) (lv1 := [.ref 86, .int be, .int k]) (st1 := [.int k, .ref 104]) (h1 := (124, I1, J1, R)) rfl ?_
  refine ev_ild (n := 300) rfl rfl (fun _ => rfl) n1 m1 ?_
  refine ev_go 3 (pc1 := 63) (lv1 := [.ref 86, .int (I1 104 k.toNatClampNeg), .int (k + 1)]) (st1 := []) (h1 := (124, I1, J1, R)) rfl ?_
  exact hk
