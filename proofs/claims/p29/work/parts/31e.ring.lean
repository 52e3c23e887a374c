/-- how many of the first n stand outside -/
def cz (x : Int32) : Nat → Nat
  | 0 => 0
  | n + 1 => cz x n + (if tb x n then 0 else 1)
theorem cz_0 (n : Nat) : cz 0 n = n := by
  induction n with
  | zero => rfl
  | succ n ih => rw [cz, ih, tb_0]; rfl
theorem cz_le {x y : Int32} {b : Nat} (h : ∀ i, i ≠ b → tb y i = tb x i) : ∀ n, cz x n ≤ cz y n + (if b < n then 1 else 0)
  | 0 => by rw [cz]; omega
  | n + 1 => by
    have ih := cz_le h n
    rw [cz, cz]
    by_cases e : n = b
    · subst e
      rw [if_neg (by omega)] at ih
      rw [if_pos (by omega : n < n + 1)]
      split <;> split <;> omega
    · rw [h n e]
      by_cases h1 : b < n
      · rw [if_pos h1] at ih
        rw [if_pos (by omega : b < n + 1)]
        omega
      · rw [if_neg h1] at ih
        rw [if_neg (by omega : ¬ b < n + 1)]
        omega
theorem cz_ex {x : Int32} : ∀ n, 0 < cz x n → ∃ i, i < n ∧ tb x i = false
  | 0, h => by rw [cz] at h; omega
  | n + 1, h => by
    rw [cz] at h
    cases hb : tb x n with
    | false => exact ⟨n, by omega, hb⟩
    | true =>
      rw [hb, if_pos rfl] at h
      obtain ⟨i, h1, h2⟩ := cz_ex n (by omega)
      exact ⟨i, by omega, h2⟩
set_option maxRecDepth 20000 in
theorem sO_0_3 {L : Nat} {xs : Nat → Int32} {d : Nat} {I : Nat → Nat → Int32} {J : Nat → Nat → Int64} {R : Nat → Nat → Nat} {x b p : Int32} (hG : aGd R) (r_R_0_8 : R 0 8 = 4) (b1 : p.toInt < (I 3 14).toInt) (b2 : ((x >>> (p &&& 31)) &&& 1).toInt ≠ 0) {v : Option Value} {h' : xH} (hk : xEv L xs d 110 4 [.ref 0, .int x, .int b, .int (p + 1)] [] (124, I, J, R) v h') : xEv L xs d 110 4 [.ref 0, .int x, .int b, .int p] [] (124, I, J, R) v h' := by
  refine ev_go 2 (pc1 := 6) (lv1 := [.ref 0, .int x, .int b, .int p]) (st1 := [.ref 0, .int p]) (h1 := (124, I, J, R)) rfl ?_
  refine ev_gf (c := 0) (t := 3) (X := R 0 8) rfl rfl (fun _ => rfl) rfl r_R_0_8 ?_
  refine ev_go 1 (pc1 := 12) (lv1 := [.ref 0, .int x, .int b, .int p]) (st1 := [.int (I 3 14), .int p]) (h1 := (124, I, J, R)) rfl ?_
  refine ev_br (b1 := false) rfl rfl (xcd_nge (x := p) (y := (I 3 14)) (by first | exact b1 | omega)) ?_
  refine ev_go 2 (pc1 := 17) (lv1 := [.ref 0, .int x, .int b, .int p]) (st1 := [.int p, .int x]) (h1 := (124, I, J, R)) rfl ?_
  refine ev_go 3 (pc1 := 20) (lv1 := [.ref 0, .int x, .int b, .int p]) (st1 := [.int ((x >>> (p &&& 31)) &&& 1)]) (h1 := (124, I, J, R)) rfl ?_
  refine ev_br (b1 := true) rfl rfl (xcd_ne (x := ((x >>> (p &&& 31)) &&& 1)) (y := 0) (by rw [show ((0 : Int32)).toInt = 0 from by decide]; first | exact b2 | omega)) ?_
  refine ev_go 2 (pc1 := 4) (lv1 := [.ref 0, .int x, .int b, .int (p + 1)]) (st1 := []) (h1 := (124, I, J, R)) rfl ?_
  exact hk
set_option maxRecDepth 20000 in
theorem sO_1_3 {L : Nat} {xs : Nat → Int32} {d : Nat} {I : Nat → Nat → Int32} {J : Nat → Nat → Int64} {R : Nat → Nat → Nat} {x b p : Int32} (hG : aGd R) (r_R_0_8 : R 0 8 = 4) (b1 : p.toInt < (I 3 14).toInt) (b2 : ((x >>> (p &&& 31)) &&& 1).toInt = 0) (b3 : b.toInt = -1) {v : Option Value} {h' : xH} (hk : xEv L xs d 110 4 [.ref 0, .int x, .int p, .int (p + 1)] [] (124, I, J, R) v h') : xEv L xs d 110 4 [.ref 0, .int x, .int b, .int p] [] (124, I, J, R) v h' := by
  refine ev_go 2 (pc1 := 6) (lv1 := [.ref 0, .int x, .int b, .int p]) (st1 := [.ref 0, .int p]) (h1 := (124, I, J, R)) rfl ?_
  refine ev_gf (c := 0) (t := 3) (X := R 0 8) rfl rfl (fun _ => rfl) rfl r_R_0_8 ?_
  refine ev_go 1 (pc1 := 12) (lv1 := [.ref 0, .int x, .int b, .int p]) (st1 := [.int (I 3 14), .int p]) (h1 := (124, I, J, R)) rfl ?_
  refine ev_br (b1 := false) rfl rfl (xcd_nge (x := p) (y := (I 3 14)) (by first | exact b1 | omega)) ?_
  refine ev_go 2 (pc1 := 17) (lv1 := [.ref 0, .int x, .int b, .int p]) (st1 := [.int p, .int x]) (h1 := (124, I, J, R)) rfl ?_
  refine ev_go 3 (pc1 := 20) (lv1 := [.ref 0, .int x, .int b, .int p]) (st1 := [.int ((x >>> (p &&& 31)) &&& 1)]) (h1 := (124, I, J, R)) rfl ?_
  refine ev_br (b1 := false) rfl rfl (xcd_nne (x := ((x >>> (p &&& 31)) &&& 1)) (y := 0) (by rw [show ((0 : Int32)).toInt = 0 from by decide]; first | exact b2 | omega)) ?_
  refine ev_go 2 (pc1 := 25) (lv1 := [.ref 0, .int x, .int b, .int p]) (st1 := [.int (-1), .int b]) (h1 := (124, I, J, R)) rfl ?_
  refine ev_br (b1 := true) rfl rfl (xcd_eq (x := b) (y := (-1)) (by rw [show ((-1 : Int32)).toInt = -1 from by decide]; first | exact b3 | omega)) ?_
  refine ev_go 4 (pc1 := 4) (lv1 := [.ref 0, .int x, .int p, .int (p + 1)]) (st1 := []) (h1 := (124, I, J, R)) rfl ?_
  exact hk
set_option maxRecDepth 20000 in
theorem sO_2_3 {L : Nat} {xs : Nat → Int32} {d : Nat} {I : Nat → Nat → Int32} {J : Nat → Nat → Int64} {R : Nat → Nat → Nat} {x b p r1 r2 : Int32} (hG : aGd R) (r_R_0_8 : R 0 8 = 4) (b1 : p.toInt < (I 3 14).toInt) (b2 : ((x >>> (p &&& 31)) &&& 1).toInt = 0) (b3 : b.toInt ≠ -1) (c1 : xEv L xs d 39 0 [.ref 6, .int p] [] (124, I, J, R) (some (.int r1)) (124, I, J, R)) (c2 : xEv L xs d 39 0 [.ref 6, .int b] [] (124, I, J, R) (some (.int r2)) (124, I, J, R)) (b4 : r1.toInt < r2.toInt) {v : Option Value} {h' : xH} (hk : xEv L xs (d + 1) 110 4 [.ref 0, .int x, .int p, .int (p + 1)] [] (124, I, J, R) v h') : xEv L xs (d + 1) 110 4 [.ref 0, .int x, .int b, .int p] [] (124, I, J, R) v h' := by
  refine ev_go 2 (pc1 := 6) (lv1 := [.ref 0, .int x, .int b, .int p]) (st1 := [.ref 0, .int p]) (h1 := (124, I, J, R)) rfl ?_
  refine ev_gf (c := 0) (t := 3) (X := R 0 8) rfl rfl (fun _ => rfl) rfl r_R_0_8 ?_
  refine ev_go 1 (pc1 := 12) (lv1 := [.ref 0, .int x, .int b, .int p]) (st1 := [.int (I 3 14), .int p]) (h1 := (124, I, J, R)) rfl ?_
  refine ev_br (b1 := false) rfl rfl (xcd_nge (x := p) (y := (I 3 14)) (by first | exact b1 | omega)) ?_
  refine ev_go 2 (pc1 := 17) (lv1 := [.ref 0, .int x, .int b, .int p]) (st1 := [.int p, .int x]) (h1 := (124, I, J, R)) rfl ?_
  refine ev_go 3 (pc1 := 20) (lv1 := [.ref 0, .int x, .int b, .int p]) (st1 := [.int ((x >>> (p &&& 31)) &&& 1)]) (h1 := (124, I, J, R)) rfl ?_
  refine ev_br (b1 := false) rfl rfl (xcd_nne (x := ((x >>> (p &&& 31)) &&& 1)) (y := 0) (by rw [show ((0 : Int32)).toInt = 0 from by decide]; first | exact b2 | omega)) ?_
  refine ev_go 2 (pc1 := 25) (lv1 := [.ref 0, .int x, .int b, .int p]) (st1 := [.int (-1), .int b]) (h1 := (124, I, J, R)) rfl ?_
  refine ev_br (b1 := false) rfl rfl (xcd_neq (x := b) (y := (-1)) (by rw [show ((-1 : Int32)).toInt = -1 from by decide]; first | exact b3 | omega)) ?_
  refine ev_go 1 (pc1 := 29) (lv1 := [.ref 0, .int x, .int b, .int p]) (st1 := [.ref 0]) (h1 := (124, I, J, R)) rfl ?_
  refine ev_gf (c := 0) (t := 3) (X := R 0 8) rfl rfl (fun _ => rfl) rfl r_R_0_8 ?_
  refine ev_gf (c := 3) (t := 6) (X := R 3 2) rfl rfl (fun _ => rfl) rfl (hG 3 2 6 rfl rfl) ?_
  refine ev_go 1 (pc1 := 36) (lv1 := [.ref 0, .int x, .int b, .int p]) (st1 := [.int p, .ref 6]) (h1 := (124, I, J, R)) rfl ?_
  refine ev_call (v1 := (some (.int r1))) (h1 := (124, I, J, R)) rfl rfl c1 ?_
  refine ev_go 1 (pc1 := 40) (lv1 := [.ref 0, .int x, .int b, .int p]) (st1 := [.ref 0, .int r1]) (h1 := (124, I, J, R)) rfl ?_
  refine ev_gf (c := 0) (t := 3) (X := R 0 8) rfl rfl (fun _ => rfl) rfl r_R_0_8 ?_
  refine ev_gf (c := 3) (t := 6) (X := R 3 2) rfl rfl (fun _ => rfl) rfl (hG 3 2 6 rfl rfl) ?_
  refine ev_go 1 (pc1 := 47) (lv1 := [.ref 0, .int x, .int b, .int p]) (st1 := [.int b, .ref 6, .int r1]) (h1 := (124, I, J, R)) rfl ?_
  refine ev_call (v1 := (some (.int r2))) (h1 := (124, I, J, R)) rfl rfl c2 ?_
  refine ev_br (b1 := false) rfl rfl (xcd_nge (x := r1) (y := r2) (by first | exact b4 | omega)) ?_
  refine ev_go 4 (pc1 := 4) (lv1 := [.ref 0, .int x, .int p, .int (p + 1)]) (st1 := []) (h1 := (124, I, J, R)) rfl ?_
  exact hk
set_option maxRecDepth 20000 in
theorem sO_3_3 {L : Nat} {xs : Nat → Int32} {d : Nat} {I : Nat → Nat → Int32} {J : Nat → Nat → Int64} {R : Nat → Nat → Nat} {x b p r1 r2 : Int32} (hG : aGd R) (r_R_0_8 : R 0 8 = 4) (b1 : p.toInt < (I 3 14).toInt) (b2 : ((x >>> (p &&& 31)) &&& 1).toInt = 0) (b3 : b.toInt ≠ -1) (c1 : xEv L xs d 39 0 [.ref 6, .int p] [] (124, I, J, R) (some (.int r1)) (124, I, J, R)) (c2 : xEv L xs d 39 0 [.ref 6, .int b] [] (124, I, J, R) (some (.int r2)) (124, I, J, R)) (b4 : r1.toInt ≥ r2.toInt) {v : Option Value} {h' : xH} (hk : xEv L xs (d + 1) 110 4 [.ref 0, .int x, .int b, .int (p + 1)] [] (124, I, J, R) v h') : xEv L xs (d + 1) 110 4 [.ref 0, .int x, .int b, .int p] [] (124, I, J, R) v h' := by
  refine ev_go 2 (pc1 := 6) (lv1 := [.ref 0, .int x, .int b, .int p]) (st1 := [.ref 0, .int p]) (h1 := (124, I, J, R)) rfl ?_
  refine ev_gf (c := 0) (t := 3) (X := R 0 8) rfl rfl (fun _ => rfl) rfl r_R_0_8 ?_
  refine ev_go 1 (pc1 := 12) (lv1 := [.ref 0, .int x, .int b, .int p]) (st1 := [.int (I 3 14), .int p]) (h1 := (124, I, J, R)) rfl ?_
  refine ev_br (b1 := false) rfl rfl (xcd_nge (x := p) (y := (I 3 14)) (by first | exact b1 | omega)) ?_
  refine ev_go 2 (pc1 := 17) (lv1 := [.ref 0, .int x, .int b, .int p]) (st1 := [.int p, .int x]) (h1 := (124, I, J, R)) rfl ?_
  refine ev_go 3 (pc1 := 20) (lv1 := [.ref 0, .int x, .int b, .int p]) (st1 := [.int ((x >>> (p &&& 31)) &&& 1)]) (h1 := (124, I, J, R)) rfl ?_
  refine ev_br (b1 := false) rfl rfl (xcd_nne (x := ((x >>> (p &&& 31)) &&& 1)) (y := 0) (by rw [show ((0 : Int32)).toInt = 0 from by decide]; first | exact b2 | omega)) ?_
  refine ev_go 2 (pc1 := 25) (lv1 := [.ref 0, .int x, .int b, .int p]) (st1 := [.int (-1), .int b]) (h1 := (124, I, J, R)) rfl ?_
  refine ev_br (b1 := false) rfl rfl (xcd_neq (x := b) (y := (-1)) (by rw [show ((-1 : Int32)).toInt = -1 from by decide]; first | exact b3 | omega)) ?_
  refine ev_go 1 (pc1 := 29) (lv1 := [.ref 0, .int x, .int b, .int p]) (st1 := [.ref 0]) (h1 := (124, I, J, R)) rfl ?_
  refine ev_gf (c := 0) (t := 3) (X := R 0 8) rfl rfl (fun _ => rfl) rfl r_R_0_8 ?_
  refine ev_gf (c := 3) (t := 6) (X := R 3 2) rfl rfl (fun _ => rfl) rfl (hG 3 2 6 rfl rfl) ?_
  refine ev_go 1 (pc1 := 36) (lv1 := [.ref 0, .int x, .int b, .int p]) (st1 := [.int p, .ref 6]) (h1 := (124, I, J, R)) rfl ?_
  refine ev_call (v1 := (some (.int r1))) (h1 := (124, I, J, R)) rfl rfl c1 ?_
  refine ev_go 1 (pc1 := 40) (lv1 := [.ref 0, .int x, .int b, .int p]) (st1 := [.ref 0, .int r1]) (h1 := (124, I, J, R)) rfl ?_
  refine ev_gf (c := 0) (t := 3) (X := R 0 8) rfl rfl (fun _ => rfl) rfl r_R_0_8 ?_
  refine ev_gf (c := 3) (t := 6) (X := R 3 2) rfl rfl (fun _ => rfl) rfl (hG 3 2 6 rfl rfl) ?_
  refine ev_go 1 (pc1 := 47) (lv1 := [.ref 0, .int x, .int b, .int p]) (st1 := [.int b, .ref 6, .int r1]) (h1 := (124, I, J, R)) rfl ?_
  refine ev_call (v1 := (some (.int r2))) (h1 := (124, I, J, R)) rfl rfl c2 ?_
  refine ev_br (b1 := true) rfl rfl (xcd_ge (x := r1) (y := r2) (by first | exact b4 | omega)) ?_
  refine ev_go 2 (pc1 := 4) (lv1 := [.ref 0, .int x, .int b, .int (p + 1)]) (st1 := []) (h1 := (124, I, J, R)) rfl ?_
  exact hk
set_option maxRecDepth 20000 in
theorem sO_e_3 {L : Nat} {xs : Nat → Int32} {d : Nat} {I : Nat → Nat → Int32} {J : Nat → Nat → Int64} {R : Nat → Nat → Nat} {x b p : Int32} (hG : aGd R) (r_R_0_8 : R 0 8 = 4) (b1 : p.toInt ≥ (I 3 14).toInt) (b2 : b.toInt ≠ -1) : xEv L xs d 110 4 [.ref 0, .int x, .int b, .int p] [] (124, I, J, R) (some (.int b)) (124, I, J, R) := by
  refine ev_go 2 (pc1 := 6) (lv1 := [.ref 0, .int x, .int b, .int p]) (st1 := [.ref 0, .int p]) (h1 := (124, I, J, R)) rfl ?_
  refine ev_gf (c := 0) (t := 3) (X := R 0 8) rfl rfl (fun _ => rfl) rfl r_R_0_8 ?_
  refine ev_go 1 (pc1 := 12) (lv1 := [.ref 0, .int x, .int b, .int p]) (st1 := [.int (I 3 14), .int p]) (h1 := (124, I, J, R)) rfl ?_
  refine ev_br (b1 := true) rfl rfl (xcd_ge (x := p) (y := (I 3 14)) (by first | exact b1 | omega)) ?_
  refine ev_go 2 (pc1 := 63) (lv1 := [.ref 0, .int x, .int b, .int p]) (st1 := [.int (-1), .int b]) (h1 := (124, I, J, R)) rfl ?_
  refine ev_br (b1 := true) rfl rfl (xcd_ne (x := b) (y := (-1)) (by rw [show ((-1 : Int32)).toInt = -1 from by decide]; first | exact b2 | omega)) ?_
  refine ev_go 1 (pc1 := 71) (lv1 := [.ref 0, .int x, .int b, .int p]) (st1 := [.int b]) (h1 := (124, I, J, R)) rfl ?_
  exact ev_ret rfl rfl
set_option maxRecDepth 20000 in
theorem sO_s_3 {L : Nat} {xs : Nat → Int32} {d : Nat} {I : Nat → Nat → Int32} {J : Nat → Nat → Int64} {R : Nat → Nat → Nat} {x : Int32} (hG : aGd R)  {v : Option Value} {h' : xH} (hk : xEv L xs d 110 4 [.ref 0, .int x, .int (-1), .int 0] [] (124, I, J, R) v h') : xEv L xs d 110 0 [.ref 0, .int x, xmk, xmk] [] (124, I, J, R) v h' := by
  refine ev_go 4 (pc1 := 4) (lv1 := [.ref 0, .int x, .int (-1), .int 0]) (st1 := []) (h1 := (124, I, J, R)) rfl ?_
  exact hk
set_option maxRecDepth 20000 in
theorem bC_n_3 {L : Nat} {xs : Nat → Int32} {d : Nat} {I : Nat → Nat → Int32} {J : Nat → Nat → Int64} {R : Nat → Nat → Nat} {a : Int32} (hG : aGd R) (b1 : a.toInt < 1) : xEv L xs d 109 0 [.ref 0, .int a, xmk, xmk] [] (124, I, J, R) (some (.int (-2))) (124, I, J, R) := by
  refine ev_go 2 (pc1 := 2) (lv1 := [.ref 0, .int a, xmk, xmk]) (st1 := [.int 1, .int a]) (h1 := (124, I, J, R)) rfl ?_
  refine ev_br (b1 := true) rfl rfl (xcd_lt (x := a) (y := 1) (by rw [show ((1 : Int32)).toInt = 1 from by decide]; first | exact b1 | omega)) ?_
  refine ev_go 1 (pc1 := 18) (lv1 := [.ref 0, .int a, xmk, xmk]) (st1 := [.int (-2)]) (h1 := (124, I, J, R)) rfl ?_
  exact ev_ret rfl rfl
set_option maxRecDepth 20000 in
theorem bC_b_3 {L : Nat} {xs : Nat → Int32} {d : Nat} {I : Nat → Nat → Int32} {J : Nat → Nat → Int64} {R : Nat → Nat → Nat} {a : Int32} (hG : aGd R) (b1 : a.toInt ≥ 1) (r_R_0_8 : R 0 8 = 4) (b2 : a.toInt > (I 3 14).toInt) : xEv L xs d 109 0 [.ref 0, .int a, xmk, xmk] [] (124, I, J, R) (some (.int (-2))) (124, I, J, R) := by
  refine ev_go 2 (pc1 := 2) (lv1 := [.ref 0, .int a, xmk, xmk]) (st1 := [.int 1, .int a]) (h1 := (124, I, J, R)) rfl ?_
  refine ev_br (b1 := false) rfl rfl (xcd_nlt (x := a) (y := 1) (by rw [show ((1 : Int32)).toInt = 1 from by decide]; first | exact b1 | omega)) ?_
  refine ev_go 2 (pc1 := 7) (lv1 := [.ref 0, .int a, xmk, xmk]) (st1 := [.ref 0, .int a]) (h1 := (124, I, J, R)) rfl ?_
  refine ev_gf (c := 0) (t := 3) (X := R 0 8) rfl rfl (fun _ => rfl) rfl r_R_0_8 ?_
  refine ev_go 1 (pc1 := 13) (lv1 := [.ref 0, .int a, xmk, xmk]) (st1 := [.int (I 3 14), .int a]) (h1 := (124, I, J, R)) rfl ?_
  refine ev_br (b1 := false) rfl rfl (xcd_nle (x := a) (y := (I 3 14)) (by first | exact b2 | omega)) ?_
  refine ev_go 1 (pc1 := 18) (lv1 := [.ref 0, .int a, xmk, xmk]) (st1 := [.int (-2)]) (h1 := (124, I, J, R)) rfl ?_
  exact ev_ret rfl rfl
set_option maxRecDepth 20000 in
theorem bC_s_3 {L : Nat} {xs : Nat → Int32} {d : Nat} {I : Nat → Nat → Int32} {J : Nat → Nat → Int64} {R : Nat → Nat → Nat} {a : Int32} (hG : aGd R) (b1 : a.toInt ≥ 1) (r_R_0_8 : R 0 8 = 4) (b2 : a.toInt ≤ (I 3 14).toInt) {v : Option Value} {h' : xH} (hk : xEv L xs d 109 23 [.ref 0, .int a, .int 0, .int 0] [] (124, I, J, R) v h') : xEv L xs d 109 0 [.ref 0, .int a, xmk, xmk] [] (124, I, J, R) v h' := by
  refine ev_go 2 (pc1 := 2) (lv1 := [.ref 0, .int a, xmk, xmk]) (st1 := [.int 1, .int a]) (h1 := (124, I, J, R)) rfl ?_
  refine ev_br (b1 := false) rfl rfl (xcd_nlt (x := a) (y := 1) (by rw [show ((1 : Int32)).toInt = 1 from by decide]; first | exact b1 | omega)) ?_
  refine ev_go 2 (pc1 := 7) (lv1 := [.ref 0, .int a, xmk, xmk]) (st1 := [.ref 0, .int a]) (h1 := (124, I, J, R)) rfl ?_
  refine ev_gf (c := 0) (t := 3) (X := R 0 8) rfl rfl (fun _ => rfl) rfl r_R_0_8 ?_
  refine ev_go 1 (pc1 := 13) (lv1 := [.ref 0, .int a, xmk, xmk]) (st1 := [.int (I 3 14), .int a]) (h1 := (124, I, J, R)) rfl ?_
  refine ev_br (b1 := true) rfl rfl (xcd_le (x := a) (y := (I 3 14)) (by first | exact b2 | omega)) ?_
  refine ev_go 4 (pc1 := 23) (lv1 := [.ref 0, .int a, .int 0, .int 0]) (st1 := []) (h1 := (124, I, J, R)) rfl ?_
  exact hk
set_option maxRecDepth 20000 in
theorem bC_l_3 {L : Nat} {xs : Nat → Int32} {d : Nat} {I : Nat → Nat → Int32} {J : Nat → Nat → Int64} {R : Nat → Nat → Nat} {a x k r1 : Int32} (hG : aGd R) (b1 : k.toInt < a.toInt) (c1 : xEv L xs d 110 0 [.ref 0, .int x, xmk, xmk] [] (124, I, J, R) (some (.int r1)) (124, I, J, R)) {v : Option Value} {h' : xH} (hk : xEv L xs (d + 1) 109 23 [.ref 0, .int a, .int (x ||| (1 <<< (r1 &&& 31))), .int (k + 1)] [] (124, I, J, R) v h') : xEv L xs (d + 1) 109 23 [.ref 0, .int a, .int x, .int k] [] (124, I, J, R) v h' := by
  refine ev_go 2 (pc1 := 25) (lv1 := [.ref 0, .int a, .int x, .int k]) (st1 := [.int a, .int k]) (h1 := (124, I, J, R)) rfl ?_
  refine ev_br (b1 := false) rfl rfl (xcd_nge (x := k) (y := a) (by first | exact b1 | omega)) ?_
  refine ev_go 4 (pc1 := 32) (lv1 := [.ref 0, .int a, .int x, .int k]) (st1 := [.int x, .ref 0, .int 1, .int x]) (h1 := (124, I, J, R)) rfl ?_
  refine ev_call (v1 := (some (.int r1))) (h1 := (124, I, J, R)) rfl rfl c1 ?_
  refine ev_go 5 (pc1 := 23) (lv1 := [.ref 0, .int a, .int (x ||| (1 <<< (r1 &&& 31))), .int (k + 1)]) (st1 := []) (h1 := (124, I, J, R)) rfl ?_
  exact hk
set_option maxRecDepth 20000 in
theorem bC_e_3 {L : Nat} {xs : Nat → Int32} {d : Nat} {I : Nat → Nat → Int32} {J : Nat → Nat → Int64} {R : Nat → Nat → Nat} {a x k : Int32} (hG : aGd R) (b1 : k.toInt ≥ a.toInt) : xEv L xs d 109 23 [.ref 0, .int a, .int x, .int k] [] (124, I, J, R) (some (.int x)) (124, I, J, R) := by
  refine ev_go 2 (pc1 := 25) (lv1 := [.ref 0, .int a, .int x, .int k]) (st1 := [.int a, .int k]) (h1 := (124, I, J, R)) rfl ?_
  refine ev_br (b1 := true) rfl rfl (xcd_ge (x := k) (y := a) (by first | exact b1 | omega)) ?_
  refine ev_go 1 (pc1 := 45) (lv1 := [.ref 0, .int a, .int x, .int k]) (st1 := [.int x]) (h1 := (124, I, J, R)) rfl ?_
  exact ev_ret rfl rfl
set_option maxRecDepth 20000 in
theorem bM_n {L : Nat} {xs : Nat → Int32} {d : Nat} {I : Nat → Nat → Int32} {J : Nat → Nat → Int64} {R : Nat → Nat → Nat} {a : Int32} (hG : aGd R) (c1 : xEv L xs d 160 0 [.int a, .int 1, .int (I 88 0)] [] (124, I, J, R) (some (.int 0)) (124, I, J, R)) : xEv L xs (d + 1) 214 0 [.ref 86, .int a, xmk, xmk, xmk, xmk] [] (124, I, J, R) (some (.int (-2))) (124, I, J, R) := by
  refine ev_go 3 (pc1 := 3) (lv1 := [.ref 86, .int a, xmk, xmk, xmk, xmk]) (st1 := [.ref 86, .int 1, .int a]) (h1 := (124, I, J, R)) rfl ?_
  refine ev_gf (c := 86) (t := 88) (X := R 86 12) rfl rfl (fun _ => rfl) rfl (hG 86 12 88 rfl rfl) ?_
  refine ev_go 2 (pc1 := 8) (lv1 := [.ref 86, .int a, xmk, xmk, xmk, xmk]) (st1 := [.int (I 88 0), .int 1, .int a]) (h1 := (124, I, J, R)) rfl ?_
  refine ev_call (v1 := (some (.int 0))) (h1 := (124, I, J, R)) rfl rfl c1 ?_
  refine ev_go 2 (pc1 := 16) (lv1 := [.ref 86, .int a, xmk, xmk, xmk, xmk]) (st1 := [.int (-2)]) (h1 := (124, I, J, R)) rfl ?_
  exact ev_ret rfl rfl
set_option maxRecDepth 20000 in
theorem bM_s {L : Nat} {xs : Nat → Int32} {d : Nat} {I : Nat → Nat → Int32} {J : Nat → Nat → Int64} {R : Nat → Nat → Nat} {a : Int32} (hG : aGd R) (c1 : xEv L xs d 160 0 [.int a, .int 1, .int (I 88 0)] [] (124, I, J, R) (some (.int 1)) (124, I, J, R)) {v : Option Value} {h' : xH} (hk : xEv L xs (d + 1) 214 21 [.ref 86, .int a, .int 0, .int 0, xmk, xmk] [] (124, I, J, R) v h') : xEv L xs (d + 1) 214 0 [.ref 86, .int a, xmk, xmk, xmk, xmk] [] (124, I, J, R) v h' := by
  refine ev_go 3 (pc1 := 3) (lv1 := [.ref 86, .int a, xmk, xmk, xmk, xmk]) (st1 := [.ref 86, .int 1, .int a]) (h1 := (124, I, J, R)) rfl ?_
  refine ev_gf (c := 86) (t := 88) (X := R 86 12) rfl rfl (fun _ => rfl) rfl (hG 86 12 88 rfl rfl) ?_
  refine ev_go 2 (pc1 := 8) (lv1 := [.ref 86, .int a, xmk, xmk, xmk, xmk]) (st1 := [.int (I 88 0), .int 1, .int a]) (h1 := (124, I, J, R)) rfl ?_
  refine ev_call (v1 := (some (.int 1))) (h1 := (124, I, J, R)) rfl rfl c1 ?_
  refine ev_go 5 (pc1 := 21) (lv1 := [.ref 86, .int a, .int 0, .int 0, xmk, xmk]) (st1 := []) (h1 := (124, I, J, R)) rfl ?_
  exact hk
set_option maxRecDepth 20000 in
theorem bM_e {L : Nat} {xs : Nat → Int32} {d : Nat} {I : Nat → Nat → Int32} {J : Nat → Nat → Int64} {R : Nat → Nat → Nat} {a x k : Int32} {w1 w2 : Value} (hG : aGd R) (b1 : k.toInt ≥ a.toInt) : xEv L xs d 214 21 [.ref 86, .int a, .int x, .int k, w1, w2] [] (124, I, J, R) (some (.int x)) (124, I, J, R) := by
  refine ev_go 2 (pc1 := 23) (lv1 := [.ref 86, .int a, .int x, .int k, w1, w2]) (st1 := [.int a, .int k]) (h1 := (124, I, J, R)) rfl ?_
  refine ev_br (b1 := true) rfl rfl (xcd_ge (x := k) (y := a) (by first | exact b1 | omega)) ?_
  refine ev_go 1 (pc1 := 99) (lv1 := [.ref 86, .int a, .int x, .int k, w1, w2]) (st1 := [.int x]) (h1 := (124, I, J, R)) rfl ?_
  exact ev_ret rfl rfl
set_option maxRecDepth 20000 in
theorem bM_i {L : Nat} {xs : Nat → Int32} {d : Nat} {I : Nat → Nat → Int32} {J : Nat → Nat → Int64} {R : Nat → Nat → Nat} {a x k : Int32} {w1 w2 : Value} (hG : aGd R) (b1 : k.toInt < a.toInt) {v : Option Value} {h' : xH} (hk : xEv L xs d 214 32 [.ref 86, .int a, .int x, .int k, .int (-1), .int 0] [] (124, I, J, R) v h') : xEv L xs d 214 21 [.ref 86, .int a, .int x, .int k, w1, w2] [] (124, I, J, R) v h' := by
  refine ev_go 2 (pc1 := 23) (lv1 := [.ref 86, .int a, .int x, .int k, w1, w2]) (st1 := [.int a, .int k]) (h1 := (124, I, J, R)) rfl ?_
  refine ev_br (b1 := false) rfl rfl (xcd_nge (x := k) (y := a) (by first | exact b1 | omega)) ?_
  refine ev_go 4 (pc1 := 32) (lv1 := [.ref 86, .int a, .int x, .int k, .int (-1), .int 0]) (st1 := []) (h1 := (124, I, J, R)) rfl ?_
  exact hk
set_option maxRecDepth 20000 in
theorem bM_0 {L : Nat} {xs : Nat → Int32} {d : Nat} {I : Nat → Nat → Int32} {J : Nat → Nat → Int64} {R : Nat → Nat → Nat} {a x k b p : Int32} (hG : aGd R) (b1 : p.toInt < (I 88 0).toInt) (b2 : ((x >>> (p &&& 31)) &&& 1).toInt ≠ 0) {v : Option Value} {h' : xH} (hk : xEv L xs d 214 32 [.ref 86, .int a, .int x, .int k, .int b, .int (p + 1)] [] (124, I, J, R) v h') : xEv L xs d 214 32 [.ref 86, .int a, .int x, .int k, .int b, .int p] [] (124, I, J, R) v h' := by
  refine ev_go 2 (pc1 := 35) (lv1 := [.ref 86, .int a, .int x, .int k, .int b, .int p]) (st1 := [.ref 86, .int p]) (h1 := (124, I, J, R)) rfl ?_
  refine ev_gf (c := 86) (t := 88) (X := R 86 12) rfl rfl (fun _ => rfl) rfl (hG 86 12 88 rfl rfl) ?_
  refine ev_go 2 (pc1 := 40) (lv1 := [.ref 86, .int a, .int x, .int k, .int b, .int p]) (st1 := [.int (I 88 0), .int p]) (h1 := (124, I, J, R)) rfl ?_
  refine ev_br (b1 := false) rfl rfl (xcd_nge (x := p) (y := (I 88 0)) (by first | exact b1 | omega)) ?_
  refine ev_go 2 (pc1 := 46) (lv1 := [.ref 86, .int a, .int x, .int k, .int b, .int p]) (st1 := [.int p, .int x]) (h1 := (124, I, J, R)) rfl ?_
  refine ev_go 3 (pc1 := 49) (lv1 := [.ref 86, .int a, .int x, .int k, .int b, .int p]) (st1 := [.int ((x >>> (p &&& 31)) &&& 1)]) (h1 := (124, I, J, R)) rfl ?_
  refine ev_br (b1 := true) rfl rfl (xcd_ne (x := ((x >>> (p &&& 31)) &&& 1)) (y := 0) (by rw [show ((0 : Int32)).toInt = 0 from by decide]; first | exact b2 | omega)) ?_
  refine ev_go 2 (pc1 := 32) (lv1 := [.ref 86, .int a, .int x, .int k, .int b, .int (p + 1)]) (st1 := []) (h1 := (124, I, J, R)) rfl ?_
  exact hk
set_option maxRecDepth 20000 in
theorem bM_1 {L : Nat} {xs : Nat → Int32} {d : Nat} {I : Nat → Nat → Int32} {J : Nat → Nat → Int64} {R : Nat → Nat → Nat} {a x k b p : Int32} (hG : aGd R) (b1 : p.toInt < (I 88 0).toInt) (b2 : ((x >>> (p &&& 31)) &&& 1).toInt = 0) (b3 : b.toInt = -1) {v : Option Value} {h' : xH} (hk : xEv L xs d 214 32 [.ref 86, .int a, .int x, .int k, .int p, .int (p + 1)] [] (124, I, J, R) v h') : xEv L xs d 214 32 [.ref 86, .int a, .int x, .int k, .int b, .int p] [] (124, I, J, R) v h' := by
  refine ev_go 2 (pc1 := 35) (lv1 := [.ref 86, .int a, .int x, .int k, .int b, .int p]) (st1 := [.ref 86, .int p]) (h1 := (124, I, J, R)) rfl ?_
  refine ev_gf (c := 86) (t := 88) (X := R 86 12) rfl rfl (fun _ => rfl) rfl (hG 86 12 88 rfl rfl) ?_
  refine ev_go 2 (pc1 := 40) (lv1 := [.ref 86, .int a, .int x, .int k, .int b, .int p]) (st1 := [.int (I 88 0), .int p]) (h1 := (124, I, J, R)) rfl ?_
  refine ev_br (b1 := false) rfl rfl (xcd_nge (x := p) (y := (I 88 0)) (by first | exact b1 | omega)) ?_
  refine ev_go 2 (pc1 := 46) (lv1 := [.ref 86, .int a, .int x, .int k, .int b, .int p]) (st1 := [.int p, .int x]) (h1 := (124, I, J, R)) rfl ?_
  refine ev_go 3 (pc1 := 49) (lv1 := [.ref 86, .int a, .int x, .int k, .int b, .int p]) (st1 := [.int ((x >>> (p &&& 31)) &&& 1)]) (h1 := (124, I, J, R)) rfl ?_
  refine ev_br (b1 := false) rfl rfl (xcd_nne (x := ((x >>> (p &&& 31)) &&& 1)) (y := 0) (by rw [show ((0 : Int32)).toInt = 0 from by decide]; first | exact b2 | omega)) ?_
  refine ev_go 2 (pc1 := 55) (lv1 := [.ref 86, .int a, .int x, .int k, .int b, .int p]) (st1 := [.int (-1), .int b]) (h1 := (124, I, J, R)) rfl ?_
  refine ev_br (b1 := true) rfl rfl (xcd_eq (x := b) (y := (-1)) (by rw [show ((-1 : Int32)).toInt = -1 from by decide]; first | exact b3 | omega)) ?_
  refine ev_go 4 (pc1 := 32) (lv1 := [.ref 86, .int a, .int x, .int k, .int p, .int (p + 1)]) (st1 := []) (h1 := (124, I, J, R)) rfl ?_
  exact hk
set_option maxRecDepth 20000 in
theorem bM_2 {L : Nat} {xs : Nat → Int32} {d : Nat} {I : Nat → Nat → Int32} {J : Nat → Nat → Int64} {R : Nat → Nat → Nat} {a x k b p : Int32} (hG : aGd R) (b1 : p.toInt < (I 88 0).toInt) (b2 : ((x >>> (p &&& 31)) &&& 1).toInt = 0) (b3 : b.toInt ≠ -1) (n1 : 0 ≤ p.toInt) (m1 : p.toInt < 14) (n2 : 0 ≤ b.toInt) (m2 : b.toInt < 14) (b4 : (I 91 p.toNatClampNeg).toInt < (I 91 b.toNatClampNeg).toInt) {v : Option Value} {h' : xH} (hk : xEv L xs d 214 32 [.ref 86, .int a, .int x, .int k, .int p, .int (p + 1)] [] (124, I, J, R) v h') : xEv L xs d 214 32 [.ref 86, .int a, .int x, .int k, .int b, .int p] [] (124, I, J, R) v h' := by
  refine ev_go 2 (pc1 := 35) (lv1 := [.ref 86, .int a, .int x, .int k, .int b, .int p]) (st1 := [.ref 86, .int p]) (h1 := (124, I, J, R)) rfl ?_
  refine ev_gf (c := 86) (t := 88) (X := R 86 12) rfl rfl (fun _ => rfl) rfl (hG 86 12 88 rfl rfl) ?_
  refine ev_go 2 (pc1 := 40) (lv1 := [.ref 86, .int a, .int x, .int k, .int b, .int p]) (st1 := [.int (I 88 0), .int p]) (h1 := (124, I, J, R)) rfl ?_
  refine ev_br (b1 := false) rfl rfl (xcd_nge (x := p) (y := (I 88 0)) (by first | exact b1 | omega)) ?_
  refine ev_go 2 (pc1 := 46) (lv1 := [.ref 86, .int a, .int x, .int k, .int b, .int p]) (st1 := [.int p, .int x]) (h1 := (124, I, J, R)) rfl ?_
  refine ev_go 3 (pc1 := 49) (lv1 := [.ref 86, .int a, .int x, .int k, .int b, .int p]) (st1 := [.int ((x >>> (p &&& 31)) &&& 1)]) (h1 := (124, I, J, R)) rfl ?_
  refine ev_br (b1 := false) rfl rfl (xcd_nne (x := ((x >>> (p &&& 31)) &&& 1)) (y := 0) (by rw [show ((0 : Int32)).toInt = 0 from by decide]; first | exact b2 | omega)) ?_
  refine ev_go 2 (pc1 := 55) (lv1 := [.ref 86, .int a, .int x, .int k, .int b, .int p]) (st1 := [.int (-1), .int b]) (h1 := (124, I, J, R)) rfl ?_
  refine ev_br (b1 := false) rfl rfl (xcd_neq (x := b) (y := (-1)) (by rw [show ((-1 : Int32)).toInt = -1 from by decide]; first | exact b3 | omega)) ?_
  refine ev_go 1 (pc1 := 59) (lv1 := [.ref 86, .int a, .int x, .int k, .int b, .int p]) (st1 := [.ref 86]) (h1 := (124, I, J, R)) rfl ?_
  refine ev_gf (c := 86) (t := 91) (X := R 86 15) rfl rfl (fun _ => rfl) rfl (hG 86 15 91 rfl rfl) ?_
  refine ev_go 1 (pc1 := 64) (lv1 := [.ref 86, .int a, .int x, .int k, .int b, .int p]) (st1 := [.int p, .ref 91]) (h1 := (124, I, J, R)) rfl ?_
  refine ev_ild (n := 14) rfl rfl (fun _ => rfl) n1 m1 ?_
  refine ev_go 1 (pc1 := 66) (lv1 := [.ref 86, .int a, .int x, .int k, .int b, .int p]) (st1 := [.ref 86, .int (I 91 p.toNatClampNeg)]) (h1 := (124, I, J, R)) rfl ?_
  refine ev_gf (c := 86) (t := 91) (X := R 86 15) rfl rfl (fun _ => rfl) rfl (hG 86 15 91 rfl rfl) ?_
  refine ev_go 1 (pc1 := 71) (lv1 := [.ref 86, .int a, .int x, .int k, .int b, .int p]) (st1 := [.int b, .ref 91, .int (I 91 p.toNatClampNeg)]) (h1 := (124, I, J, R)) rfl ?_
  refine ev_ild (n := 14) rfl rfl (fun _ => rfl) n2 m2 ?_
  refine ev_br (b1 := false) rfl rfl (xcd_nge (x := (I 91 p.toNatClampNeg)) (y := (I 91 b.toNatClampNeg)) (by first | exact b4 | omega)) ?_
  refine ev_go 4 (pc1 := 32) (lv1 := [.ref 86, .int a, .int x, .int k, .int p, .int (p + 1)]) (st1 := []) (h1 := (124, I, J, R)) rfl ?_
  exact hk
set_option maxRecDepth 20000 in
theorem bM_3 {L : Nat} {xs : Nat → Int32} {d : Nat} {I : Nat → Nat → Int32} {J : Nat → Nat → Int64} {R : Nat → Nat → Nat} {a x k b p : Int32} (hG : aGd R) (b1 : p.toInt < (I 88 0).toInt) (b2 : ((x >>> (p &&& 31)) &&& 1).toInt = 0) (b3 : b.toInt ≠ -1) (n1 : 0 ≤ p.toInt) (m1 : p.toInt < 14) (n2 : 0 ≤ b.toInt) (m2 : b.toInt < 14) (b4 : (I 91 p.toNatClampNeg).toInt ≥ (I 91 b.toNatClampNeg).toInt) {v : Option Value} {h' : xH} (hk : xEv L xs d 214 32 [.ref 86, .int a, .int x, .int k, .int b, .int (p + 1)] [] (124, I, J, R) v h') : xEv L xs d 214 32 [.ref 86, .int a, .int x, .int k, .int b, .int p] [] (124, I, J, R) v h' := by
  refine ev_go 2 (pc1 := 35) (lv1 := [.ref 86, .int a, .int x, .int k, .int b, .int p]) (st1 := [.ref 86, .int p]) (h1 := (124, I, J, R)) rfl ?_
  refine ev_gf (c := 86) (t := 88) (X := R 86 12) rfl rfl (fun _ => rfl) rfl (hG 86 12 88 rfl rfl) ?_
  refine ev_go 2 (pc1 := 40) (lv1 := [.ref 86, .int a, .int x, .int k, .int b, .int p]) (st1 := [.int (I 88 0), .int p]) (h1 := (124, I, J, R)) rfl ?_
  refine ev_br (b1 := false) rfl rfl (xcd_nge (x := p) (y := (I 88 0)) (by first | exact b1 | omega)) ?_
  refine ev_go 2 (pc1 := 46) (lv1 := [.ref 86, .int a, .int x, .int k, .int b, .int p]) (st1 := [.int p, .int x]) (h1 := (124, I, J, R)) rfl ?_
  refine ev_go 3 (pc1 := 49) (lv1 := [.ref 86, .int a, .int x, .int k, .int b, .int p]) (st1 := [.int ((x >>> (p &&& 31)) &&& 1)]) (h1 := (124, I, J, R)) rfl ?_
  refine ev_br (b1 := false) rfl rfl (xcd_nne (x := ((x >>> (p &&& 31)) &&& 1)) (y := 0) (by rw [show ((0 : Int32)).toInt = 0 from by decide]; first | exact b2 | omega)) ?_
  refine ev_go 2 (pc1 := 55) (lv1 := [.ref 86, .int a, .int x, .int k, .int b, .int p]) (st1 := [.int (-1), .int b]) (h1 := (124, I, J, R)) rfl ?_
  refine ev_br (b1 := false) rfl rfl (xcd_neq (x := b) (y := (-1)) (by rw [show ((-1 : Int32)).toInt = -1 from by decide]; first | exact b3 | omega)) ?_
  refine ev_go 1 (pc1 := 59) (lv1 := [.ref 86, .int a, .int x, .int k, .int b, .int p]) (st1 := [.ref 86]) (h1 := (124, I, J, R)) rfl ?_
  refine ev_gf (c := 86) (t := 91) (X := R 86 15) rfl rfl (fun _ => rfl) rfl (hG 86 15 91 rfl rfl) ?_
  refine ev_go 1 (pc1 := 64) (lv1 := [.ref 86, .int a, .int x, .int k, .int b, .int p]) (st1 := [.int p, .ref 91]) (h1 := (124, I, J, R)) rfl ?_
  refine ev_ild (n := 14) rfl rfl (fun _ => rfl) n1 m1 ?_
  refine ev_go 1 (pc1 := 66) (lv1 := [.ref 86, .int a, .int x, .int k, .int b, .int p]) (st1 := [.ref 86, .int (I 91 p.toNatClampNeg)]) (h1 := (124, I, J, R)) rfl ?_
  refine ev_gf (c := 86) (t := 91) (X := R 86 15) rfl rfl (fun _ => rfl) rfl (hG 86 15 91 rfl rfl) ?_
  refine ev_go 1 (pc1 := 71) (lv1 := [.ref 86, .int a, .int x, .int k, .int b, .int p]) (st1 := [.int b, .ref 91, .int (I 91 p.toNatClampNeg)]) (h1 := (124, I, J, R)) rfl ?_
  refine ev_ild (n := 14) rfl rfl (fun _ => rfl) n2 m2 ?_
  refine ev_br (b1 := true) rfl rfl (xcd_ge (x := (I 91 p.toNatClampNeg)) (y := (I 91 b.toNatClampNeg)) (by first | exact b4 | omega)) ?_
  refine ev_go 2 (pc1 := 32) (lv1 := [.ref 86, .int a, .int x, .int k, .int b, .int (p + 1)]) (st1 := []) (h1 := (124, I, J, R)) rfl ?_
  exact hk
set_option maxRecDepth 20000 in
theorem bM_o {L : Nat} {xs : Nat → Int32} {d : Nat} {I : Nat → Nat → Int32} {J : Nat → Nat → Int64} {R : Nat → Nat → Nat} {a x k b p : Int32} (hG : aGd R) (b1 : p.toInt ≥ (I 88 0).toInt) {v : Option Value} {h' : xH} (hk : xEv L xs d 214 85 [.ref 86, .int a, .int x, .int k, .int b, .int p] [] (124, I, J, R) v h') : xEv L xs d 214 32 [.ref 86, .int a, .int x, .int k, .int b, .int p] [] (124, I, J, R) v h' := by
  refine ev_go 2 (pc1 := 35) (lv1 := [.ref 86, .int a, .int x, .int k, .int b, .int p]) (st1 := [.ref 86, .int p]) (h1 := (124, I, J, R)) rfl ?_
  refine ev_gf (c := 86) (t := 88) (X := R 86 12) rfl rfl (fun _ => rfl) rfl (hG 86 12 88 rfl rfl) ?_
  refine ev_go 2 (pc1 := 40) (lv1 := [.ref 86, .int a, .int x, .int k, .int b, .int p]) (st1 := [.int (I 88 0), .int p]) (h1 := (124, I, J, R)) rfl ?_
  refine ev_br (b1 := true) rfl rfl (xcd_ge (x := p) (y := (I 88 0)) (by first | exact b1 | omega)) ?_
  exact hk
set_option maxRecDepth 20000 in
theorem bM_x {L : Nat} {xs : Nat → Int32} {d : Nat} {I : Nat → Nat → Int32} {J : Nat → Nat → Int64} {R : Nat → Nat → Nat} {a x k b p : Int32} (hG : aGd R)  {v : Option Value} {h' : xH} (hk : xEv L xs d 214 21 [.ref 86, .int a, .int (x ||| (1 <<< (b &&& 31))), .int (k + 1), .int b, .int p] [] (124, I, J, R) v h') : xEv L xs d 214 85 [.ref 86, .int a, .int x, .int k, .int b, .int p] [] (124, I, J, R) v h' := by
  refine ev_go 3 (pc1 := 89) (lv1 := [.ref 86, .int a, .int x, .int k, .int b, .int p]) (st1 := [.int b, .int 1, .int x]) (h1 := (124, I, J, R)) rfl ?_
  refine ev_go 5 (pc1 := 21) (lv1 := [.ref 86, .int a, .int (x ||| (1 <<< (b &&& 31))), .int (k + 1), .int b, .int p]) (st1 := []) (h1 := (124, I, J, R)) rfl ?_
  exact hk
set_option maxRecDepth 20000 in
theorem sO_f_3 {L : Nat} {xs : Nat → Int32} {d : Nat} {I : Nat → Nat → Int32} {J : Nat → Nat → Int64} {R : Nat → Nat → Nat} {x b p : Int32} (hG : aGd R) (r_R_0_8 : R 0 8 = 4) (b1 : p.toInt ≥ (I 3 14).toInt) (b2 : b.toInt = -1) : xEv L xs d 110 4 [.ref 0, .int x, .int b, .int p] [] (124, I, J, R) (some (.int 0)) (124, I, J, R) := by
  refine ev_go 2 (pc1 := 6) (lv1 := [.ref 0, .int x, .int b, .int p]) (st1 := [.ref 0, .int p]) (h1 := (124, I, J, R)) rfl ?_
  refine ev_gf (c := 0) (t := 3) (X := R 0 8) rfl rfl (fun _ => rfl) rfl r_R_0_8 ?_
  refine ev_go 1 (pc1 := 12) (lv1 := [.ref 0, .int x, .int b, .int p]) (st1 := [.int (I 3 14), .int p]) (h1 := (124, I, J, R)) rfl ?_
  refine ev_br (b1 := true) rfl rfl (xcd_ge (x := p) (y := (I 3 14)) (by first | exact b1 | omega)) ?_
  refine ev_go 2 (pc1 := 63) (lv1 := [.ref 0, .int x, .int b, .int p]) (st1 := [.int (-1), .int b]) (h1 := (124, I, J, R)) rfl ?_
  refine ev_br (b1 := false) rfl rfl (xcd_nne (x := b) (y := (-1)) (by rw [show ((-1 : Int32)).toInt = -1 from by decide]; first | exact b2 | omega)) ?_
  refine ev_go 2 (pc1 := 71) (lv1 := [.ref 0, .int x, .int b, .int p]) (st1 := [.int 0]) (h1 := (124, I, J, R)) rfl ?_
  exact ev_ret rfl rfl
/-- the safest of those outside, in both: from person k on -/
theorem bst_3 {L : Nat} {xs : Nat → Int32} {d : Nat} {I : Nat → Nat → Int32} {J : Nat → Nat → Int64} {R : Nat → Nat → Nat} {d' : Nat} (hG : aGd R) (h8 : R 0 8 = 4) {np : Nat} (p1 : np ≤ 7) (q1 : (I 3 14).toInt = np) (q2 : (I 88 0).toInt = np) (q7 : ∀ i, i < np → I 6 i = I 91 i) {x a k : Int32} : ∀ (f : Nat) (n : Nat) (b p : Int32), n + f = np → p.toInt = n → (b.toInt = -1 ∨ (0 ≤ b.toInt ∧ b.toInt < n)) → (b.toInt = -1 → ∀ i, i < n → tb x i = true) →
    ∃ b' : Int32, xEv L xs (d + 1) 110 4 [.ref 0, .int x, .int b, .int p] [] (124, I, J, R) (some (.int b')) (124, I, J, R) ∧ 0 ≤ b'.toInt ∧ b'.toInt < 7 ∧ ((∃ i, i < np ∧ tb x i = false) → ∀ (v : Option Value) (h' : xH), (∀ p', xEv L xs d' 214 85 [.ref 86, .int a, .int x, .int k, .int b', .int p'] [] (124, I, J, R) v h') → xEv L xs d' 214 32 [.ref 86, .int a, .int x, .int k, .int b, .int p] [] (124, I, J, R) v h') := by
  intro f
  induction f with
  | zero =>
    intro n b p hn hp hb hz
    by_cases g : b.toInt = -1
    · have e := sO_f_3 (L := L) (xs := xs) (d := d + 1) (I := I) (J := J) (x := x) (b := b) (p := p) hG h8 (by omega) g
      refine ⟨0, e, by decide, by decide, ?_⟩
      rintro ⟨i, h1, h2⟩
      rw [hz g i (by omega)] at h2
      cases h2
    · have e := sO_e_3 (L := L) (xs := xs) (d := d + 1) (I := I) (J := J) (x := x) (b := b) (p := p) hG h8 (by omega) g
      refine ⟨b, e, by omega, by omega, ?_⟩
      intro _ v h' hk
      exact bM_o hG (by omega) (hk p)
  | succ f ih =>
    intro n b p hn hp hb hz
    have hp' : (p + 1).toInt = (n + 1 : Nat) := by rw [i_add1 (by omega)]; omega
    have hs := tb_shr (x := x) hp (by omega)
    have ec := clamp_s (i := p) (by omega)
    have ekp : p.toNatClampNeg = n := by omega
    cases ht : tb x n with
    | true =>
      rw [ht, if_pos rfl] at hs
      have hs1 : ((x >>> (p &&& 31)) &&& 1).toInt ≠ 0 := by rw [hs]; decide
      obtain ⟨b', x1, x2, x3, x4⟩ := ih (n + 1) b (p + 1) (by omega) hp' (by omega) (fun g i hi => by
        by_cases e : i = n
        · rw [e]; exact ht
        · exact hz g i (by omega))
      exact ⟨b', sO_0_3 hG h8 (by omega) hs1 x1, x2, x3, fun hx v h' hk => bM_0 hG (by omega) hs1 (x4 hx v h' hk)⟩
    | false =>
      rw [ht] at hs
      have hs1 : ((x >>> (p &&& 31)) &&& 1).toInt = 0 := by rw [hs]; decide
      by_cases g : b.toInt = -1
      · obtain ⟨b', x1, x2, x3, x4⟩ := ih (n + 1) p (p + 1) (by omega) hp' (by omega) (fun g' => by omega)
        exact ⟨b', sO_1_3 hG h8 (by omega) hs1 g x1, x2, x3, fun hx v h' hk => bM_1 hG (by omega) hs1 g (x4 hx v h' hk)⟩
      · obtain ⟨z, hz0⟩ := Int.eq_ofNat_of_zero_le (show 0 ≤ b.toInt by omega)
        have ec2 := clamp_s (i := b) (by omega)
        have ekb : b.toNatClampNeg = z := by omega
        have c1 := at_run (L := L) (xs := xs) (d := d) (h := (124, I, J, R)) (c := 6) (n := 7) (fun _ => rfl) (by decide) p
        rw [if_pos ⟨by omega, by omega⟩, ekp] at c1
        have c2 := at_run (L := L) (xs := xs) (d := d) (h := (124, I, J, R)) (c := 6) (n := 7) (fun _ => rfl) (by decide) b
        rw [if_pos ⟨by omega, by omega⟩, ekb] at c2
        have w1 := q7 n (by omega)
        have w2 := q7 z (by omega)
        dsimp only at c1 c2
        by_cases h : (I 6 n).toInt < (I 6 z).toInt
        · obtain ⟨b', x1, x2, x3, x4⟩ := ih (n + 1) p (p + 1) (by omega) hp' (by omega) (fun g' => by omega)
          exact ⟨b', sO_2_3 hG h8 (by omega) hs1 g c1 c2 h x1, x2, x3, fun hx v h' hk => bM_2 hG (by omega) hs1 g (by omega) (by omega) (by omega) (by omega) (by rw [ekp, ekb, ← w1, ← w2]; exact h) (x4 hx v h' hk)⟩
        · obtain ⟨b', x1, x2, x3, x4⟩ := ih (n + 1) b (p + 1) (by omega) hp' (by omega) (fun g' => absurd g' g)
          exact ⟨b', sO_3_3 hG h8 (by omega) hs1 g c1 c2 (by omega) x1, x2, x3, fun hx v h' hk => bM_3 hG (by omega) hs1 g (by omega) (by omega) (by omega) (by omega) (by rw [ekp, ekb, ← w1, ← w2]; omega) (x4 hx v h' hk)⟩
theorem bsl_3 {L : Nat} {xs : Nat → Int32} {d : Nat} {I : Nat → Nat → Int32} {J : Nat → Nat → Int64} {R : Nat → Nat → Nat} {d' : Nat} (hG : aGd R) (h8 : R 0 8 = 4) {np : Nat} (p1 : np ≤ 7) (q1 : (I 3 14).toInt = np) (q2 : (I 88 0).toInt = np) (q7 : ∀ i, i < np → I 6 i = I 91 i) {a : Int32} (ha : a.toInt ≤ np) : ∀ (f : Nat) (n : Nat) (x k : Int32) (w1 w2 : Value), (n + f : Nat) = a.toInt → k.toInt = n → np ≤ cz x np + n →
    ∃ r : Int32, xEv L xs (d + 2) 109 23 [.ref 0, .int a, .int x, .int k] [] (124, I, J, R) (some (.int r)) (124, I, J, R) ∧ xEv L xs d' 214 21 [.ref 86, .int a, .int x, .int k, w1, w2] [] (124, I, J, R) (some (.int r)) (124, I, J, R) := by
  intro f
  induction f with
  | zero =>
    intro n x k w1 w2 hn hk hz
    exact ⟨x, bC_e_3 hG (by omega), bM_e hG (by omega)⟩
  | succ f ih =>
    intro n x k w1 w2 hn hk hz
    have hk' : (k + 1).toInt = (n + 1 : Nat) := by rw [i_add1 (by omega)]; omega
    obtain ⟨b, x1, x2, x3, x4⟩ := bst_3 (L := L) (xs := xs) (d := d) (d' := d') (J := J) hG h8 p1 q1 q2 q7 (x := x) (a := a) (k := k) np 0 (-1) 0 (by omega) (by decide) (Or.inl (by decide)) (fun _ i hi => absurd hi (by omega))
    obtain ⟨z, hz0⟩ := Int.eq_ofNat_of_zero_le x2
    have hcz : ∀ i, i ≠ z → tb (x ||| (1 <<< (b &&& 31))) i = tb x i := by
      intro i hi
      rw [tb_or, tb_shl (k := b) (n := z) (by omega) (by omega), decide_eq_false hi, Bool.or_false]
    have hc := cz_le hcz np
    obtain ⟨r, y1, y2⟩ := ih (n + 1) (x ||| (1 <<< (b &&& 31))) (k + 1) (.int b) (.int k) (by omega) hk' (by split at hc <;> omega)
    refine ⟨r, bC_l_3 hG (by omega) (sO_s_3 hG x1) y1, bM_i hG (by omega) (x4 (cz_ex np (by omega)) _ _ (fun p' => bM_x hG ?_))⟩
    obtain ⟨r', y1', y2'⟩ := ih (n + 1) (x ||| (1 <<< (b &&& 31))) (k + 1) (.int b) (.int p') (by omega) hk' (by split at hc <;> omega)
    have e := (ev_det y1 y1').1
    injection e with e
    injection e with e
    rw [e]
    exact y2'
theorem bri_3 {L : Nat} {xs : Nat → Int32} {d : Nat} {I : Nat → Nat → Int32} {J : Nat → Nat → Int64} {R : Nat → Nat → Nat} {d' : Nat} (hG : aGd R) (h8 : R 0 8 = 4) {np nm nn : Nat} {l : List (Nat × Nat)} (hV : VR_3 np nm nn l I I) (a : Int32) : ∃ r : Int32, xEv L xs (d + 2) 109 0 [.ref 0, .int a, xmk, xmk] [] (124, I, J, R) (some (.int r)) (124, I, J, R) ∧ xEv L xs (d' + 1) 214 0 [.ref 86, .int a, xmk, xmk, xmk, xmk] [] (124, I, J, R) (some (.int r)) (124, I, J, R) := by
  obtain ⟨⟨p1, p2, p3⟩, p4, p5, p6, ⟨q1, q2⟩, ⟨q3, q4⟩, ⟨q5, q6⟩, q7, -⟩ := hV
  have i0 := in_ex (L := L) (xs := xs) (d := d') (I := I) (J := J) hG a 1 (I 88 0)
  rw [show (1 : Int32).toInt = 1 from by decide, q2] at i0
  by_cases h0 : a.toInt < 1
  · exact ⟨-2, bC_n_3 hG h0, bM_n hG (i0.resolve_left (fun z => by have := z.1; omega)).2⟩
  by_cases h1 : a.toInt > np
  · exact ⟨-2, bC_b_3 hG (by omega) h8 (by omega), bM_n hG (i0.resolve_left (fun z => by have := z.1; omega)).2⟩
  obtain ⟨z, hz⟩ := Int.eq_ofNat_of_zero_le (show 0 ≤ a.toInt by omega)
  obtain ⟨r, x1, x2⟩ := bsl_3 (L := L) (xs := xs) (d := d) (d' := d' + 1) (I := I) (J := J) hG h8 p1 q1 q2 (fun i hi => (q7 i hi).2) (a := a) (by omega) z 0 0 0 xmk xmk (by omega) (by decide) (by rw [cz_0]; omega)
  exact ⟨r, bC_s_3 hG (by omega) h8 (by omega) x1, bM_s hG (i0.resolve_right (fun z => by have := z.1; omega)).2 x2⟩
set_option maxRecDepth 20000 in
theorem sO_0_23 {L : Nat} {xs : Nat → Int32} {d : Nat} {I : Nat → Nat → Int32} {J : Nat → Nat → Int64} {R : Nat → Nat → Nat} {x b p : Int32} (hG : aGd R) (r_R_0_8 : R 0 8 = 24) (b1 : p.toInt < (I 23 14).toInt) (b2 : ((x >>> (p &&& 31)) &&& 1).toInt ≠ 0) {v : Option Value} {h' : xH} (hk : xEv L xs d 110 4 [.ref 0, .int x, .int b, .int (p + 1)] [] (124, I, J, R) v h') : xEv L xs d 110 4 [.ref 0, .int x, .int b, .int p] [] (124, I, J, R) v h' := by
  refine ev_go 2 (pc1 := 6) (lv1 := [.ref 0, .int x, .int b, .int p]) (st1 := [.ref 0, .int p]) (h1 := (124, I, J, R)) rfl ?_
  refine ev_gf (c := 0) (t := 23) (X := R 0 8) rfl rfl (fun _ => rfl) rfl r_R_0_8 ?_
  refine ev_go 1 (pc1 := 12) (lv1 := [.ref 0, .int x, .int b, .int p]) (st1 := [.int (I 23 14), .int p]) (h1 := (124, I, J, R)) rfl ?_
  refine ev_br (b1 := false) rfl rfl (xcd_nge (x := p) (y := (I 23 14)) (by first | exact b1 | omega)) ?_
  refine ev_go 2 (pc1 := 17) (lv1 := [.ref 0, .int x, .int b, .int p]) (st1 := [.int p, .int x]) (h1 := (124, I, J, R)) rfl ?_
  refine ev_go 3 (pc1 := 20) (lv1 := [.ref 0, .int x, .int b, .int p]) (st1 := [.int ((x >>> (p &&& 31)) &&& 1)]) (h1 := (124, I, J, R)) rfl ?_
  refine ev_br (b1 := true) rfl rfl (xcd_ne (x := ((x >>> (p &&& 31)) &&& 1)) (y := 0) (by rw [show ((0 : Int32)).toInt = 0 from by decide]; first | exact b2 | omega)) ?_
  refine ev_go 2 (pc1 := 4) (lv1 := [.ref 0, .int x, .int b, .int (p + 1)]) (st1 := []) (h1 := (124, I, J, R)) rfl ?_
  exact hk
set_option maxRecDepth 20000 in
theorem sO_1_23 {L : Nat} {xs : Nat → Int32} {d : Nat} {I : Nat → Nat → Int32} {J : Nat → Nat → Int64} {R : Nat → Nat → Nat} {x b p : Int32} (hG : aGd R) (r_R_0_8 : R 0 8 = 24) (b1 : p.toInt < (I 23 14).toInt) (b2 : ((x >>> (p &&& 31)) &&& 1).toInt = 0) (b3 : b.toInt = -1) {v : Option Value} {h' : xH} (hk : xEv L xs d 110 4 [.ref 0, .int x, .int p, .int (p + 1)] [] (124, I, J, R) v h') : xEv L xs d 110 4 [.ref 0, .int x, .int b, .int p] [] (124, I, J, R) v h' := by
  refine ev_go 2 (pc1 := 6) (lv1 := [.ref 0, .int x, .int b, .int p]) (st1 := [.ref 0, .int p]) (h1 := (124, I, J, R)) rfl ?_
  refine ev_gf (c := 0) (t := 23) (X := R 0 8) rfl rfl (fun _ => rfl) rfl r_R_0_8 ?_
  refine ev_go 1 (pc1 := 12) (lv1 := [.ref 0, .int x, .int b, .int p]) (st1 := [.int (I 23 14), .int p]) (h1 := (124, I, J, R)) rfl ?_
  refine ev_br (b1 := false) rfl rfl (xcd_nge (x := p) (y := (I 23 14)) (by first | exact b1 | omega)) ?_
  refine ev_go 2 (pc1 := 17) (lv1 := [.ref 0, .int x, .int b, .int p]) (st1 := [.int p, .int x]) (h1 := (124, I, J, R)) rfl ?_
  refine ev_go 3 (pc1 := 20) (lv1 := [.ref 0, .int x, .int b, .int p]) (st1 := [.int ((x >>> (p &&& 31)) &&& 1)]) (h1 := (124, I, J, R)) rfl ?_
  refine ev_br (b1 := false) rfl rfl (xcd_nne (x := ((x >>> (p &&& 31)) &&& 1)) (y := 0) (by rw [show ((0 : Int32)).toInt = 0 from by decide]; first | exact b2 | omega)) ?_
  refine ev_go 2 (pc1 := 25) (lv1 := [.ref 0, .int x, .int b, .int p]) (st1 := [.int (-1), .int b]) (h1 := (124, I, J, R)) rfl ?_
  refine ev_br (b1 := true) rfl rfl (xcd_eq (x := b) (y := (-1)) (by rw [show ((-1 : Int32)).toInt = -1 from by decide]; first | exact b3 | omega)) ?_
  refine ev_go 4 (pc1 := 4) (lv1 := [.ref 0, .int x, .int p, .int (p + 1)]) (st1 := []) (h1 := (124, I, J, R)) rfl ?_
  exact hk
set_option maxRecDepth 20000 in
theorem sO_2_23 {L : Nat} {xs : Nat → Int32} {d : Nat} {I : Nat → Nat → Int32} {J : Nat → Nat → Int64} {R : Nat → Nat → Nat} {x b p r1 r2 : Int32} (hG : aGd R) (r_R_0_8 : R 0 8 = 24) (b1 : p.toInt < (I 23 14).toInt) (b2 : ((x >>> (p &&& 31)) &&& 1).toInt = 0) (b3 : b.toInt ≠ -1) (c1 : xEv L xs d 39 0 [.ref 26, .int p] [] (124, I, J, R) (some (.int r1)) (124, I, J, R)) (c2 : xEv L xs d 39 0 [.ref 26, .int b] [] (124, I, J, R) (some (.int r2)) (124, I, J, R)) (b4 : r1.toInt < r2.toInt) {v : Option Value} {h' : xH} (hk : xEv L xs (d + 1) 110 4 [.ref 0, .int x, .int p, .int (p + 1)] [] (124, I, J, R) v h') : xEv L xs (d + 1) 110 4 [.ref 0, .int x, .int b, .int p] [] (124, I, J, R) v h' := by
  refine ev_go 2 (pc1 := 6) (lv1 := [.ref 0, .int x, .int b, .int p]) (st1 := [.ref 0, .int p]) (h1 := (124, I, J, R)) rfl ?_
  refine ev_gf (c := 0) (t := 23) (X := R 0 8) rfl rfl (fun _ => rfl) rfl r_R_0_8 ?_
  refine ev_go 1 (pc1 := 12) (lv1 := [.ref 0, .int x, .int b, .int p]) (st1 := [.int (I 23 14), .int p]) (h1 := (124, I, J, R)) rfl ?_
  refine ev_br (b1 := false) rfl rfl (xcd_nge (x := p) (y := (I 23 14)) (by first | exact b1 | omega)) ?_
  refine ev_go 2 (pc1 := 17) (lv1 := [.ref 0, .int x, .int b, .int p]) (st1 := [.int p, .int x]) (h1 := (124, I, J, R)) rfl ?_
  refine ev_go 3 (pc1 := 20) (lv1 := [.ref 0, .int x, .int b, .int p]) (st1 := [.int ((x >>> (p &&& 31)) &&& 1)]) (h1 := (124, I, J, R)) rfl ?_
  refine ev_br (b1 := false) rfl rfl (xcd_nne (x := ((x >>> (p &&& 31)) &&& 1)) (y := 0) (by rw [show ((0 : Int32)).toInt = 0 from by decide]; first | exact b2 | omega)) ?_
  refine ev_go 2 (pc1 := 25) (lv1 := [.ref 0, .int x, .int b, .int p]) (st1 := [.int (-1), .int b]) (h1 := (124, I, J, R)) rfl ?_
  refine ev_br (b1 := false) rfl rfl (xcd_neq (x := b) (y := (-1)) (by rw [show ((-1 : Int32)).toInt = -1 from by decide]; first | exact b3 | omega)) ?_
  refine ev_go 1 (pc1 := 29) (lv1 := [.ref 0, .int x, .int b, .int p]) (st1 := [.ref 0]) (h1 := (124, I, J, R)) rfl ?_
  refine ev_gf (c := 0) (t := 23) (X := R 0 8) rfl rfl (fun _ => rfl) rfl r_R_0_8 ?_
  refine ev_gf (c := 23) (t := 26) (X := R 23 2) rfl rfl (fun _ => rfl) rfl (hG 23 2 26 rfl rfl) ?_
  refine ev_go 1 (pc1 := 36) (lv1 := [.ref 0, .int x, .int b, .int p]) (st1 := [.int p, .ref 26]) (h1 := (124, I, J, R)) rfl ?_
  refine ev_call (v1 := (some (.int r1))) (h1 := (124, I, J, R)) rfl rfl c1 ?_
  refine ev_go 1 (pc1 := 40) (lv1 := [.ref 0, .int x, .int b, .int p]) (st1 := [.ref 0, .int r1]) (h1 := (124, I, J, R)) rfl ?_
  refine ev_gf (c := 0) (t := 23) (X := R 0 8) rfl rfl (fun _ => rfl) rfl r_R_0_8 ?_
  refine ev_gf (c := 23) (t := 26) (X := R 23 2) rfl rfl (fun _ => rfl) rfl (hG 23 2 26 rfl rfl) ?_
  refine ev_go 1 (pc1 := 47) (lv1 := [.ref 0, .int x, .int b, .int p]) (st1 := [.int b, .ref 26, .int r1]) (h1 := (124, I, J, R)) rfl ?_
  refine ev_call (v1 := (some (.int r2))) (h1 := (124, I, J, R)) rfl rfl c2 ?_
  refine ev_br (b1 := false) rfl rfl (xcd_nge (x := r1) (y := r2) (by first | exact b4 | omega)) ?_
  refine ev_go 4 (pc1 := 4) (lv1 := [.ref 0, .int x, .int p, .int (p + 1)]) (st1 := []) (h1 := (124, I, J, R)) rfl ?_
  exact hk
set_option maxRecDepth 20000 in
theorem sO_3_23 {L : Nat} {xs : Nat → Int32} {d : Nat} {I : Nat → Nat → Int32} {J : Nat → Nat → Int64} {R : Nat → Nat → Nat} {x b p r1 r2 : Int32} (hG : aGd R) (r_R_0_8 : R 0 8 = 24) (b1 : p.toInt < (I 23 14).toInt) (b2 : ((x >>> (p &&& 31)) &&& 1).toInt = 0) (b3 : b.toInt ≠ -1) (c1 : xEv L xs d 39 0 [.ref 26, .int p] [] (124, I, J, R) (some (.int r1)) (124, I, J, R)) (c2 : xEv L xs d 39 0 [.ref 26, .int b] [] (124, I, J, R) (some (.int r2)) (124, I, J, R)) (b4 : r1.toInt ≥ r2.toInt) {v : Option Value} {h' : xH} (hk : xEv L xs (d + 1) 110 4 [.ref 0, .int x, .int b, .int (p + 1)] [] (124, I, J, R) v h') : xEv L xs (d + 1) 110 4 [.ref 0, .int x, .int b, .int p] [] (124, I, J, R) v h' := by
  refine ev_go 2 (pc1 := 6) (lv1 := [.ref 0, .int x, .int b, .int p]) (st1 := [.ref 0, .int p]) (h1 := (124, I, J, R)) rfl ?_
  refine ev_gf (c := 0) (t := 23) (X := R 0 8) rfl rfl (fun _ => rfl) rfl r_R_0_8 ?_
  refine ev_go 1 (pc1 := 12) (lv1 := [.ref 0, .int x, .int b, .int p]) (st1 := [.int (I 23 14), .int p]) (h1 := (124, I, J, R)) rfl ?_
  refine ev_br (b1 := false) rfl rfl (xcd_nge (x := p) (y := (I 23 14)) (by first | exact b1 | omega)) ?_
  refine ev_go 2 (pc1 := 17) (lv1 := [.ref 0, .int x, .int b, .int p]) (st1 := [.int p, .int x]) (h1 := (124, I, J, R)) rfl ?_
  refine ev_go 3 (pc1 := 20) (lv1 := [.ref 0, .int x, .int b, .int p]) (st1 := [.int ((x >>> (p &&& 31)) &&& 1)]) (h1 := (124, I, J, R)) rfl ?_
  refine ev_br (b1 := false) rfl rfl (xcd_nne (x := ((x >>> (p &&& 31)) &&& 1)) (y := 0) (by rw [show ((0 : Int32)).toInt = 0 from by decide]; first | exact b2 | omega)) ?_
  refine ev_go 2 (pc1 := 25) (lv1 := [.ref 0, .int x, .int b, .int p]) (st1 := [.int (-1), .int b]) (h1 := (124, I, J, R)) rfl ?_
  refine ev_br (b1 := false) rfl rfl (xcd_neq (x := b) (y := (-1)) (by rw [show ((-1 : Int32)).toInt = -1 from by decide]; first | exact b3 | omega)) ?_
  refine ev_go 1 (pc1 := 29) (lv1 := [.ref 0, .int x, .int b, .int p]) (st1 := [.ref 0]) (h1 := (124, I, J, R)) rfl ?_
  refine ev_gf (c := 0) (t := 23) (X := R 0 8) rfl rfl (fun _ => rfl) rfl r_R_0_8 ?_
  refine ev_gf (c := 23) (t := 26) (X := R 23 2) rfl rfl (fun _ => rfl) rfl (hG 23 2 26 rfl rfl) ?_
  refine ev_go 1 (pc1 := 36) (lv1 := [.ref 0, .int x, .int b, .int p]) (st1 := [.int p, .ref 26]) (h1 := (124, I, J, R)) rfl ?_
  refine ev_call (v1 := (some (.int r1))) (h1 := (124, I, J, R)) rfl rfl c1 ?_
  refine ev_go 1 (pc1 := 40) (lv1 := [.ref 0, .int x, .int b, .int p]) (st1 := [.ref 0, .int r1]) (h1 := (124, I, J, R)) rfl ?_
  refine ev_gf (c := 0) (t := 23) (X := R 0 8) rfl rfl (fun _ => rfl) rfl r_R_0_8 ?_
  refine ev_gf (c := 23) (t := 26) (X := R 23 2) rfl rfl (fun _ => rfl) rfl (hG 23 2 26 rfl rfl) ?_
  refine ev_go 1 (pc1 := 47) (lv1 := [.ref 0, .int x, .int b, .int p]) (st1 := [.int b, .ref 26, .int r1]) (h1 := (124, I, J, R)) rfl ?_
  refine ev_call (v1 := (some (.int r2))) (h1 := (124, I, J, R)) rfl rfl c2 ?_
  refine ev_br (b1 := true) rfl rfl (xcd_ge (x := r1) (y := r2) (by first | exact b4 | omega)) ?_
  refine ev_go 2 (pc1 := 4) (lv1 := [.ref 0, .int x, .int b, .int (p + 1)]) (st1 := []) (h1 := (124, I, J, R)) rfl ?_
  exact hk
set_option maxRecDepth 20000 in
theorem sO_e_23 {L : Nat} {xs : Nat → Int32} {d : Nat} {I : Nat → Nat → Int32} {J : Nat → Nat → Int64} {R : Nat → Nat → Nat} {x b p : Int32} (hG : aGd R) (r_R_0_8 : R 0 8 = 24) (b1 : p.toInt ≥ (I 23 14).toInt) (b2 : b.toInt ≠ -1) : xEv L xs d 110 4 [.ref 0, .int x, .int b, .int p] [] (124, I, J, R) (some (.int b)) (124, I, J, R) := by
  refine ev_go 2 (pc1 := 6) (lv1 := [.ref 0, .int x, .int b, .int p]) (st1 := [.ref 0, .int p]) (h1 := (124, I, J, R)) rfl ?_
  refine ev_gf (c := 0) (t := 23) (X := R 0 8) rfl rfl (fun _ => rfl) rfl r_R_0_8 ?_
  refine ev_go 1 (pc1 := 12) (lv1 := [.ref 0, .int x, .int b, .int p]) (st1 := [.int (I 23 14), .int p]) (h1 := (124, I, J, R)) rfl ?_
  refine ev_br (b1 := true) rfl rfl (xcd_ge (x := p) (y := (I 23 14)) (by first | exact b1 | omega)) ?_
  refine ev_go 2 (pc1 := 63) (lv1 := [.ref 0, .int x, .int b, .int p]) (st1 := [.int (-1), .int b]) (h1 := (124, I, J, R)) rfl ?_
  refine ev_br (b1 := true) rfl rfl (xcd_ne (x := b) (y := (-1)) (by rw [show ((-1 : Int32)).toInt = -1 from by decide]; first | exact b2 | omega)) ?_
  refine ev_go 1 (pc1 := 71) (lv1 := [.ref 0, .int x, .int b, .int p]) (st1 := [.int b]) (h1 := (124, I, J, R)) rfl ?_
  exact ev_ret rfl rfl
set_option maxRecDepth 20000 in
theorem sO_s_23 {L : Nat} {xs : Nat → Int32} {d : Nat} {I : Nat → Nat → Int32} {J : Nat → Nat → Int64} {R : Nat → Nat → Nat} {x : Int32} (hG : aGd R)  {v : Option Value} {h' : xH} (hk : xEv L xs d 110 4 [.ref 0, .int x, .int (-1), .int 0] [] (124, I, J, R) v h') : xEv L xs d 110 0 [.ref 0, .int x, xmk, xmk] [] (124, I, J, R) v h' := by
  refine ev_go 4 (pc1 := 4) (lv1 := [.ref 0, .int x, .int (-1), .int 0]) (st1 := []) (h1 := (124, I, J, R)) rfl ?_
  exact hk
set_option maxRecDepth 20000 in
theorem bC_n_23 {L : Nat} {xs : Nat → Int32} {d : Nat} {I : Nat → Nat → Int32} {J : Nat → Nat → Int64} {R : Nat → Nat → Nat} {a : Int32} (hG : aGd R) (b1 : a.toInt < 1) : xEv L xs d 109 0 [.ref 0, .int a, xmk, xmk] [] (124, I, J, R) (some (.int (-2))) (124, I, J, R) := by
  refine ev_go 2 (pc1 := 2) (lv1 := [.ref 0, .int a, xmk, xmk]) (st1 := [.int 1, .int a]) (h1 := (124, I, J, R)) rfl ?_
  refine ev_br (b1 := true) rfl rfl (xcd_lt (x := a) (y := 1) (by rw [show ((1 : Int32)).toInt = 1 from by decide]; first | exact b1 | omega)) ?_
  refine ev_go 1 (pc1 := 18) (lv1 := [.ref 0, .int a, xmk, xmk]) (st1 := [.int (-2)]) (h1 := (124, I, J, R)) rfl ?_
  exact ev_ret rfl rfl
set_option maxRecDepth 20000 in
theorem bC_b_23 {L : Nat} {xs : Nat → Int32} {d : Nat} {I : Nat → Nat → Int32} {J : Nat → Nat → Int64} {R : Nat → Nat → Nat} {a : Int32} (hG : aGd R) (b1 : a.toInt ≥ 1) (r_R_0_8 : R 0 8 = 24) (b2 : a.toInt > (I 23 14).toInt) : xEv L xs d 109 0 [.ref 0, .int a, xmk, xmk] [] (124, I, J, R) (some (.int (-2))) (124, I, J, R) := by
  refine ev_go 2 (pc1 := 2) (lv1 := [.ref 0, .int a, xmk, xmk]) (st1 := [.int 1, .int a]) (h1 := (124, I, J, R)) rfl ?_
  refine ev_br (b1 := false) rfl rfl (xcd_nlt (x := a) (y := 1) (by rw [show ((1 : Int32)).toInt = 1 from by decide]; first | exact b1 | omega)) ?_
  refine ev_go 2 (pc1 := 7) (lv1 := [.ref 0, .int a, xmk, xmk]) (st1 := [.ref 0, .int a]) (h1 := (124, I, J, R)) rfl ?_
  refine ev_gf (c := 0) (t := 23) (X := R 0 8) rfl rfl (fun _ => rfl) rfl r_R_0_8 ?_
  refine ev_go 1 (pc1 := 13) (lv1 := [.ref 0, .int a, xmk, xmk]) (st1 := [.int (I 23 14), .int a]) (h1 := (124, I, J, R)) rfl ?_
  refine ev_br (b1 := false) rfl rfl (xcd_nle (x := a) (y := (I 23 14)) (by first | exact b2 | omega)) ?_
  refine ev_go 1 (pc1 := 18) (lv1 := [.ref 0, .int a, xmk, xmk]) (st1 := [.int (-2)]) (h1 := (124, I, J, R)) rfl ?_
  exact ev_ret rfl rfl
set_option maxRecDepth 20000 in
theorem bC_s_23 {L : Nat} {xs : Nat → Int32} {d : Nat} {I : Nat → Nat → Int32} {J : Nat → Nat → Int64} {R : Nat → Nat → Nat} {a : Int32} (hG : aGd R) (b1 : a.toInt ≥ 1) (r_R_0_8 : R 0 8 = 24) (b2 : a.toInt ≤ (I 23 14).toInt) {v : Option Value} {h' : xH} (hk : xEv L xs d 109 23 [.ref 0, .int a, .int 0, .int 0] [] (124, I, J, R) v h') : xEv L xs d 109 0 [.ref 0, .int a, xmk, xmk] [] (124, I, J, R) v h' := by
  refine ev_go 2 (pc1 := 2) (lv1 := [.ref 0, .int a, xmk, xmk]) (st1 := [.int 1, .int a]) (h1 := (124, I, J, R)) rfl ?_
  refine ev_br (b1 := false) rfl rfl (xcd_nlt (x := a) (y := 1) (by rw [show ((1 : Int32)).toInt = 1 from by decide]; first | exact b1 | omega)) ?_
  refine ev_go 2 (pc1 := 7) (lv1 := [.ref 0, .int a, xmk, xmk]) (st1 := [.ref 0, .int a]) (h1 := (124, I, J, R)) rfl ?_
  refine ev_gf (c := 0) (t := 23) (X := R 0 8) rfl rfl (fun _ => rfl) rfl r_R_0_8 ?_
  refine ev_go 1 (pc1 := 13) (lv1 := [.ref 0, .int a, xmk, xmk]) (st1 := [.int (I 23 14), .int a]) (h1 := (124, I, J, R)) rfl ?_
  refine ev_br (b1 := true) rfl rfl (xcd_le (x := a) (y := (I 23 14)) (by first | exact b2 | omega)) ?_
  refine ev_go 4 (pc1 := 23) (lv1 := [.ref 0, .int a, .int 0, .int 0]) (st1 := []) (h1 := (124, I, J, R)) rfl ?_
  exact hk
set_option maxRecDepth 20000 in
theorem bC_l_23 {L : Nat} {xs : Nat → Int32} {d : Nat} {I : Nat → Nat → Int32} {J : Nat → Nat → Int64} {R : Nat → Nat → Nat} {a x k r1 : Int32} (hG : aGd R) (b1 : k.toInt < a.toInt) (c1 : xEv L xs d 110 0 [.ref 0, .int x, xmk, xmk] [] (124, I, J, R) (some (.int r1)) (124, I, J, R)) {v : Option Value} {h' : xH} (hk : xEv L xs (d + 1) 109 23 [.ref 0, .int a, .int (x ||| (1 <<< (r1 &&& 31))), .int (k + 1)] [] (124, I, J, R) v h') : xEv L xs (d + 1) 109 23 [.ref 0, .int a, .int x, .int k] [] (124, I, J, R) v h' := by
  refine ev_go 2 (pc1 := 25) (lv1 := [.ref 0, .int a, .int x, .int k]) (st1 := [.int a, .int k]) (h1 := (124, I, J, R)) rfl ?_
  refine ev_br (b1 := false) rfl rfl (xcd_nge (x := k) (y := a) (by first | exact b1 | omega)) ?_
  refine ev_go 4 (pc1 := 32) (lv1 := [.ref 0, .int a, .int x, .int k]) (st1 := [.int x, .ref 0, .int 1, .int x]) (h1 := (124, I, J, R)) rfl ?_
  refine ev_call (v1 := (some (.int r1))) (h1 := (124, I, J, R)) rfl rfl c1 ?_
  refine ev_go 5 (pc1 := 23) (lv1 := [.ref 0, .int a, .int (x ||| (1 <<< (r1 &&& 31))), .int (k + 1)]) (st1 := []) (h1 := (124, I, J, R)) rfl ?_
  exact hk
set_option maxRecDepth 20000 in
theorem bC_e_23 {L : Nat} {xs : Nat → Int32} {d : Nat} {I : Nat → Nat → Int32} {J : Nat → Nat → Int64} {R : Nat → Nat → Nat} {a x k : Int32} (hG : aGd R) (b1 : k.toInt ≥ a.toInt) : xEv L xs d 109 23 [.ref 0, .int a, .int x, .int k] [] (124, I, J, R) (some (.int x)) (124, I, J, R) := by
  refine ev_go 2 (pc1 := 25) (lv1 := [.ref 0, .int a, .int x, .int k]) (st1 := [.int a, .int k]) (h1 := (124, I, J, R)) rfl ?_
  refine ev_br (b1 := true) rfl rfl (xcd_ge (x := k) (y := a) (by first | exact b1 | omega)) ?_
  refine ev_go 1 (pc1 := 45) (lv1 := [.ref 0, .int a, .int x, .int k]) (st1 := [.int x]) (h1 := (124, I, J, R)) rfl ?_
  exact ev_ret rfl rfl
set_option maxRecDepth 20000 in
theorem sO_f_23 {L : Nat} {xs : Nat → Int32} {d : Nat} {I : Nat → Nat → Int32} {J : Nat → Nat → Int64} {R : Nat → Nat → Nat} {x b p : Int32} (hG : aGd R) (r_R_0_8 : R 0 8 = 24) (b1 : p.toInt ≥ (I 23 14).toInt) (b2 : b.toInt = -1) : xEv L xs d 110 4 [.ref 0, .int x, .int b, .int p] [] (124, I, J, R) (some (.int 0)) (124, I, J, R) := by
  refine ev_go 2 (pc1 := 6) (lv1 := [.ref 0, .int x, .int b, .int p]) (st1 := [.ref 0, .int p]) (h1 := (124, I, J, R)) rfl ?_
  refine ev_gf (c := 0) (t := 23) (X := R 0 8) rfl rfl (fun _ => rfl) rfl r_R_0_8 ?_
  refine ev_go 1 (pc1 := 12) (lv1 := [.ref 0, .int x, .int b, .int p]) (st1 := [.int (I 23 14), .int p]) (h1 := (124, I, J, R)) rfl ?_
  refine ev_br (b1 := true) rfl rfl (xcd_ge (x := p) (y := (I 23 14)) (by first | exact b1 | omega)) ?_
  refine ev_go 2 (pc1 := 63) (lv1 := [.ref 0, .int x, .int b, .int p]) (st1 := [.int (-1), .int b]) (h1 := (124, I, J, R)) rfl ?_
  refine ev_br (b1 := false) rfl rfl (xcd_nne (x := b) (y := (-1)) (by rw [show ((-1 : Int32)).toInt = -1 from by decide]; first | exact b2 | omega)) ?_
  refine ev_go 2 (pc1 := 71) (lv1 := [.ref 0, .int x, .int b, .int p]) (st1 := [.int 0]) (h1 := (124, I, J, R)) rfl ?_
  exact ev_ret rfl rfl
/-- the safest of those outside, in both: from person k on -/
theorem bst_23 {L : Nat} {xs : Nat → Int32} {d : Nat} {I : Nat → Nat → Int32} {J : Nat → Nat → Int64} {R : Nat → Nat → Nat} {d' : Nat} (hG : aGd R) (h8 : R 0 8 = 24) {np : Nat} (p1 : np ≤ 7) (q1 : (I 23 14).toInt = np) (q2 : (I 88 0).toInt = np) (q7 : ∀ i, i < np → I 26 i = I 91 i) {x a k : Int32} : ∀ (f : Nat) (n : Nat) (b p : Int32), n + f = np → p.toInt = n → (b.toInt = -1 ∨ (0 ≤ b.toInt ∧ b.toInt < n)) → (b.toInt = -1 → ∀ i, i < n → tb x i = true) →
    ∃ b' : Int32, xEv L xs (d + 1) 110 4 [.ref 0, .int x, .int b, .int p] [] (124, I, J, R) (some (.int b')) (124, I, J, R) ∧ 0 ≤ b'.toInt ∧ b'.toInt < 7 ∧ ((∃ i, i < np ∧ tb x i = false) → ∀ (v : Option Value) (h' : xH), (∀ p', xEv L xs d' 214 85 [.ref 86, .int a, .int x, .int k, .int b', .int p'] [] (124, I, J, R) v h') → xEv L xs d' 214 32 [.ref 86, .int a, .int x, .int k, .int b, .int p] [] (124, I, J, R) v h') := by
  intro f
  induction f with
  | zero =>
    intro n b p hn hp hb hz
    by_cases g : b.toInt = -1
    · have e := sO_f_23 (L := L) (xs := xs) (d := d + 1) (I := I) (J := J) (x := x) (b := b) (p := p) hG h8 (by omega) g
      refine ⟨0, e, by decide, by decide, ?_⟩
      rintro ⟨i, h1, h2⟩
      rw [hz g i (by omega)] at h2
      cases h2
    · have e := sO_e_23 (L := L) (xs := xs) (d := d + 1) (I := I) (J := J) (x := x) (b := b) (p := p) hG h8 (by omega) g
      refine ⟨b, e, by omega, by omega, ?_⟩
      intro _ v h' hk
      exact bM_o hG (by omega) (hk p)
  | succ f ih =>
    intro n b p hn hp hb hz
    have hp' : (p + 1).toInt = (n + 1 : Nat) := by rw [i_add1 (by omega)]; omega
    have hs := tb_shr (x := x) hp (by omega)
    have ec := clamp_s (i := p) (by omega)
    have ekp : p.toNatClampNeg = n := by omega
    cases ht : tb x n with
    | true =>
      rw [ht, if_pos rfl] at hs
      have hs1 : ((x >>> (p &&& 31)) &&& 1).toInt ≠ 0 := by rw [hs]; decide
      obtain ⟨b', x1, x2, x3, x4⟩ := ih (n + 1) b (p + 1) (by omega) hp' (by omega) (fun g i hi => by
        by_cases e : i = n
        · rw [e]; exact ht
        · exact hz g i (by omega))
      exact ⟨b', sO_0_23 hG h8 (by omega) hs1 x1, x2, x3, fun hx v h' hk => bM_0 hG (by omega) hs1 (x4 hx v h' hk)⟩
    | false =>
      rw [ht] at hs
      have hs1 : ((x >>> (p &&& 31)) &&& 1).toInt = 0 := by rw [hs]; decide
      by_cases g : b.toInt = -1
      · obtain ⟨b', x1, x2, x3, x4⟩ := ih (n + 1) p (p + 1) (by omega) hp' (by omega) (fun g' => by omega)
        exact ⟨b', sO_1_23 hG h8 (by omega) hs1 g x1, x2, x3, fun hx v h' hk => bM_1 hG (by omega) hs1 g (x4 hx v h' hk)⟩
      · obtain ⟨z, hz0⟩ := Int.eq_ofNat_of_zero_le (show 0 ≤ b.toInt by omega)
        have ec2 := clamp_s (i := b) (by omega)
        have ekb : b.toNatClampNeg = z := by omega
        have c1 := at_run (L := L) (xs := xs) (d := d) (h := (124, I, J, R)) (c := 26) (n := 7) (fun _ => rfl) (by decide) p
        rw [if_pos ⟨by omega, by omega⟩, ekp] at c1
        have c2 := at_run (L := L) (xs := xs) (d := d) (h := (124, I, J, R)) (c := 26) (n := 7) (fun _ => rfl) (by decide) b
        rw [if_pos ⟨by omega, by omega⟩, ekb] at c2
        have w1 := q7 n (by omega)
        have w2 := q7 z (by omega)
        dsimp only at c1 c2
        by_cases h : (I 26 n).toInt < (I 26 z).toInt
        · obtain ⟨b', x1, x2, x3, x4⟩ := ih (n + 1) p (p + 1) (by omega) hp' (by omega) (fun g' => by omega)
          exact ⟨b', sO_2_23 hG h8 (by omega) hs1 g c1 c2 h x1, x2, x3, fun hx v h' hk => bM_2 hG (by omega) hs1 g (by omega) (by omega) (by omega) (by omega) (by rw [ekp, ekb, ← w1, ← w2]; exact h) (x4 hx v h' hk)⟩
        · obtain ⟨b', x1, x2, x3, x4⟩ := ih (n + 1) b (p + 1) (by omega) hp' (by omega) (fun g' => absurd g' g)
          exact ⟨b', sO_3_23 hG h8 (by omega) hs1 g c1 c2 (by omega) x1, x2, x3, fun hx v h' hk => bM_3 hG (by omega) hs1 g (by omega) (by omega) (by omega) (by omega) (by rw [ekp, ekb, ← w1, ← w2]; omega) (x4 hx v h' hk)⟩
theorem bsl_23 {L : Nat} {xs : Nat → Int32} {d : Nat} {I : Nat → Nat → Int32} {J : Nat → Nat → Int64} {R : Nat → Nat → Nat} {d' : Nat} (hG : aGd R) (h8 : R 0 8 = 24) {np : Nat} (p1 : np ≤ 7) (q1 : (I 23 14).toInt = np) (q2 : (I 88 0).toInt = np) (q7 : ∀ i, i < np → I 26 i = I 91 i) {a : Int32} (ha : a.toInt ≤ np) : ∀ (f : Nat) (n : Nat) (x k : Int32) (w1 w2 : Value), (n + f : Nat) = a.toInt → k.toInt = n → np ≤ cz x np + n →
    ∃ r : Int32, xEv L xs (d + 2) 109 23 [.ref 0, .int a, .int x, .int k] [] (124, I, J, R) (some (.int r)) (124, I, J, R) ∧ xEv L xs d' 214 21 [.ref 86, .int a, .int x, .int k, w1, w2] [] (124, I, J, R) (some (.int r)) (124, I, J, R) := by
  intro f
  induction f with
  | zero =>
    intro n x k w1 w2 hn hk hz
    exact ⟨x, bC_e_23 hG (by omega), bM_e hG (by omega)⟩
  | succ f ih =>
    intro n x k w1 w2 hn hk hz
    have hk' : (k + 1).toInt = (n + 1 : Nat) := by rw [i_add1 (by omega)]; omega
    obtain ⟨b, x1, x2, x3, x4⟩ := bst_23 (L := L) (xs := xs) (d := d) (d' := d') (J := J) hG h8 p1 q1 q2 q7 (x := x) (a := a) (k := k) np 0 (-1) 0 (by omega) (by decide) (Or.inl (by decide)) (fun _ i hi => absurd hi (by omega))
    obtain ⟨z, hz0⟩ := Int.eq_ofNat_of_zero_le x2
    have hcz : ∀ i, i ≠ z → tb (x ||| (1 <<< (b &&& 31))) i = tb x i := by
      intro i hi
      rw [tb_or, tb_shl (k := b) (n := z) (by omega) (by omega), decide_eq_false hi, Bool.or_false]
    have hc := cz_le hcz np
    obtain ⟨r, y1, y2⟩ := ih (n + 1) (x ||| (1 <<< (b &&& 31))) (k + 1) (.int b) (.int k) (by omega) hk' (by split at hc <;> omega)
    refine ⟨r, bC_l_23 hG (by omega) (sO_s_23 hG x1) y1, bM_i hG (by omega) (x4 (cz_ex np (by omega)) _ _ (fun p' => bM_x hG ?_))⟩
    obtain ⟨r', y1', y2'⟩ := ih (n + 1) (x ||| (1 <<< (b &&& 31))) (k + 1) (.int b) (.int p') (by omega) hk' (by split at hc <;> omega)
    have e := (ev_det y1 y1').1
    injection e with e
    injection e with e
    rw [e]
    exact y2'
theorem bri_23 {L : Nat} {xs : Nat → Int32} {d : Nat} {I : Nat → Nat → Int32} {J : Nat → Nat → Int64} {R : Nat → Nat → Nat} {d' : Nat} (hG : aGd R) (h8 : R 0 8 = 24) {np nm nn : Nat} {l : List (Nat × Nat)} (hV : VR_23 np nm nn l I I) (a : Int32) : ∃ r : Int32, xEv L xs (d + 2) 109 0 [.ref 0, .int a, xmk, xmk] [] (124, I, J, R) (some (.int r)) (124, I, J, R) ∧ xEv L xs (d' + 1) 214 0 [.ref 86, .int a, xmk, xmk, xmk, xmk] [] (124, I, J, R) (some (.int r)) (124, I, J, R) := by
  obtain ⟨⟨p1, p2, p3⟩, p4, p5, p6, ⟨q1, q2⟩, ⟨q3, q4⟩, ⟨q5, q6⟩, q7, -⟩ := hV
  have i0 := in_ex (L := L) (xs := xs) (d := d') (I := I) (J := J) hG a 1 (I 88 0)
  rw [show (1 : Int32).toInt = 1 from by decide, q2] at i0
  by_cases h0 : a.toInt < 1
  · exact ⟨-2, bC_n_23 hG h0, bM_n hG (i0.resolve_left (fun z => by have := z.1; omega)).2⟩
  by_cases h1 : a.toInt > np
  · exact ⟨-2, bC_b_23 hG (by omega) h8 (by omega), bM_n hG (i0.resolve_left (fun z => by have := z.1; omega)).2⟩
  obtain ⟨z, hz⟩ := Int.eq_ofNat_of_zero_le (show 0 ≤ a.toInt by omega)
  obtain ⟨r, x1, x2⟩ := bsl_23 (L := L) (xs := xs) (d := d) (d' := d' + 1) (I := I) (J := J) hG h8 p1 q1 q2 (fun i hi => (q7 i hi).2) (a := a) (by omega) z 0 0 0 xmk xmk (by omega) (by decide) (by rw [cz_0]; omega)
  exact ⟨r, bC_s_23 hG (by omega) h8 (by omega) x1, bM_s hG (i0.resolve_right (fun z => by have := z.1; omega)).2 x2⟩
